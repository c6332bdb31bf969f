/-! text of the model -/
def FrZ (t : Nat) (M M' : Mem) : Prop := (∀ a, a ≠ 84 → a ≠ 93 → a ≠ 94 → a ≠ 103 → M' a = M a) ∧ (∀ j, j < 26 ∨ 34 < j → M' 84 j = M 84 j) ∧ (∀ k, k < 200 * t ∨ 200 * t + 200 ≤ k → M' 93 k = M 93 k) ∧ ∀ k, k < 4 * t ∨ 4 * t + 4 ≤ k → M' 94 k = M 94 k
theorem FrZ_t {t : Nat} {M M1 M2 : Mem} (h1 : FrZ t M M1) (h2 : FrZ t M1 M2) : FrZ t M M2 := ⟨fun a x y z w => (h2.1 a x y z w).trans (h1.1 a x y z w), fun j hj => (h2.2.1 j hj).trans (h1.2.1 j hj), fun k hk => (h2.2.2.1 k hk).trans (h1.2.2.1 k hk), fun k hk => (h2.2.2.2 k hk).trans (h1.2.2.2 k hk)⟩
theorem FrY_Z {t : Nat} {M M' : Mem} (h : FrY t M M') : FrZ t M M' := ⟨fun a x y _ w => h.1 a x y w, h.2.1, h.2.2, fun k _ => by rw [h.1 94 (by omega) (by omega) (by omega)]⟩
def TxI (f : Nat → Int) (sz t : Nat) (M : Mem) (ts : List Tok) (p : Nat) (o : List Int) : Prop := ErI f sz M ts p ∧ M 84 34 = ((o.length : Nat) : Int) ∧ cP t M o ∧ M 84 16 = (t : Int) ∧ t < 6 ∧ o.length + ts.length ≤ 161
theorem it_ {n0 sz t p pa : Nat} {f : Nat → Int} {M : Mem} {S : Sh} {ts : List Tok} {o : List Int} (hS : Std n0 S) (hz : sz ≤ 160) (hp : pa < 3) (h : TxI f sz t M ts p o) : ∃ M', FrZ t M M' ∧ M' 94 (4 * t + pa) = ((o.length : Nat) : Int) ∧ (∀ j, j ≠ 4 * t + pa → M' 94 j = M 94 j) ∧ ((∃ q, tx1 (pa : Int) ts o = Sum.inl q ∧ go 14 126 26 [some (aR 84), some (aI 1), some (aI (pa : Int))] [] M S = go 14 126 26 [some (aR 84), some (aI 0), some (aI ((pa : Int) + 1))] [] M' S ∧ M' 84 27 = q) ∨ (∃ ts' o' p', tx1 (pa : Int) ts o = Sum.inr (ts', o') ∧ go 14 126 26 [some (aR 84), some (aI 1), some (aI (pa : Int))] [] M S = go 14 126 26 [some (aR 84), some (aI 1), some (aI ((pa : Int) + 1))] [] M' S ∧ TxI f sz t M' ts' p' o')) := by
  have k84 := K84 hS
  have k94 := K94 hS
  have l94 := L94 hS
  have p15 := P84_15 hS
  obtain ⟨he, h34, hc, h16, t6, hn⟩ := h
  cases ts with
  | nil => exact absurd he.2.2.2.2.2 (fun z => z)
  | cons t1 ts =>
    rw [List.length_cons] at hn
    obtain ⟨M1, z1, f1, h28, h27, h29, ok, hq, nxt⟩ := nx_ hS hz he
    have a16 : M1 84 16 = (t : Int) := (f1.2 16 (by omega)).trans h16
    have a34 : M1 84 34 = ((o.length : Nat) : Int) := (f1.2 34 (by omega)).trans h34
    have i1 : (4 * (t : Int) + (pa : Int)).toNat = 4 * t + pa := by omega
    obtain ⟨M2, hM2⟩ : ∃ M2, M2 = mset M1 94 (4 * t + pa) ((o.length : Nat) : Int) := ⟨_, rfl⟩
    have b : ∀ a, a ≠ 94 → M2 a = M1 a := fun a ha => by rw [hM2, mset_ne _ _ _ ha]
    have b94 : M2 94 (4 * t + pa) = ((o.length : Nat) : Int) := by rw [hM2, mset_eq]
    have b94' : ∀ j, j ≠ 4 * t + pa → M2 94 j = M 94 j := fun j hj => by rw [hM2, mset_nk _ hj, f1.1 94 (by omega)]
    have fz : FrZ t M M2 := ⟨fun a x _ y _ => by rw [b a y]; exact f1.1 a x, fun j hj => by rw [b 84 (by omega)]; exact f1.2 j (by omega), fun k _ => by rw [b 93 (by omega), f1.1 93 (by omega)], fun k hk => b94' k (by omega)⟩
    by_cases hk : t1.1 = 3 ∧ t1.2.1 = (pa : Int)
    · have e28 : M1 84 28 = 3 := h28.trans hk.1
      have e29 : M1 84 29 = (pa : Int) := (h29 (by omega)).trans hk.2
      obtain ⟨p', n1⟩ := nxt (by omega)
      have n2 : ErI f sz M2 ts p' := by
        obtain ⟨q1, q2, q3, q4, q5⟩ := n1
        refine ⟨by rw [b 84 (by omega)]; exact q1, by rw [b 84 (by omega)]; exact q2, fun k hk => by rw [b 92 (by omega)]; exact q3 k hk, fun i hi => by rw [b 102 (by omega)]; exact q4 i hi, q5⟩
      have etx : tx1 (pa : Int) (t1 :: ts) o = syR ts true true [] o := if_pos hk
      obtain ⟨M3, f3, h3⟩ := er_ (K := 160) (t := t) hS hz (by omega) n2 (by rw [b 84 (by omega)]; exact a34) (cP_fr (fun k _ => by rw [b 93 (by omega), f1.1 93 (by omega)]) hc) (by rw [b 84 (by omega)]; exact a16) t6 (by omega)
      have c94 : M3 94 = M2 94 := f3.1 94 (by omega) (by omega) (by omega)
      refine ⟨M3, FrZ_t fz (FrY_Z f3), by rw [c94]; exact b94, fun j hj => by rw [c94]; exact b94' j hj, ?_⟩
      rcases h3 with ⟨q, e1, e2, e3⟩ | ⟨ts', o', p2, e1, e2, e3, e4, e5, e6⟩
      · refine Or.inl ⟨q, etx.trans e1, ?_, e3⟩
        rw [g126_26]
        simp (disch := omega) only [g126_0, g126_1, g126_4, g126_6t, g126_6f, g126_9, g126_11, g126_12, g126_13, g126_14, g126_17, g126_18, g126_19, g126_22, g126_23, g126_24, g126_25, g126_27, g126_28t, g126_28f, g126_31, g126_32t, g126_32f, g126_35, g126_36, g126_39, g126_40, g126_43, g126_44t, g126_44f, g126_47, g126_48, g126_51, g126_52t, g126_52f, g126_55, g126_56, g126_59, g126_60, g126_61, g126_62, g126_65, g126_66, g126_67, g126_70, g126_71, g126_72, g126_73, g126_74, g126_77, g126_78, g126_79t, g126_79f, g126_82, g126_83, g126_86t, g126_86f, g126_89, g126_90, g126_93, g126_94, g126_95, g126_98, g126_101, g126_102t, g126_102f, g126_105, g126_106, g126_109, g126_110, g126_113t, g126_113f, g126_116, g126_117, g126_120, g126_121, g126_122, g126_123, g126_126, g126_127, g126_128, g126_131, g126_132, g126_133, g126_134, g126_135, g126_138, g126_139, g126_140, g126_141, g126_144, g126_145t, g126_145f, g126_148, g126_150, g126_151, g126_154, g126_155, g126_156, g126_157, g126_158, g126_161, g126_162, g126_163, g126_166, g126_167, g126_170, g126_171, g126_172, cont_1, cont_0, w32_o, p15, z1, e28, e29, a16, a34, i1, ← hM2, e2]
      · refine Or.inr ⟨ts', o', p2, etx.trans e1, ?_, e6, e3, e4, ?_, t6, by omega⟩
        · rw [g126_26]
          simp (disch := omega) only [g126_0, g126_1, g126_4, g126_6t, g126_6f, g126_9, g126_11, g126_12, g126_13, g126_14, g126_17, g126_18, g126_19, g126_22, g126_23, g126_24, g126_25, g126_27, g126_28t, g126_28f, g126_31, g126_32t, g126_32f, g126_35, g126_36, g126_39, g126_40, g126_43, g126_44t, g126_44f, g126_47, g126_48, g126_51, g126_52t, g126_52f, g126_55, g126_56, g126_59, g126_60, g126_61, g126_62, g126_65, g126_66, g126_67, g126_70, g126_71, g126_72, g126_73, g126_74, g126_77, g126_78, g126_79t, g126_79f, g126_82, g126_83, g126_86t, g126_86f, g126_89, g126_90, g126_93, g126_94, g126_95, g126_98, g126_101, g126_102t, g126_102f, g126_105, g126_106, g126_109, g126_110, g126_113t, g126_113f, g126_116, g126_117, g126_120, g126_121, g126_122, g126_123, g126_126, g126_127, g126_128, g126_131, g126_132, g126_133, g126_134, g126_135, g126_138, g126_139, g126_140, g126_141, g126_144, g126_145t, g126_145f, g126_148, g126_150, g126_151, g126_154, g126_155, g126_156, g126_157, g126_158, g126_161, g126_162, g126_163, g126_166, g126_167, g126_170, g126_171, g126_172, cont_1, cont_0, w32_o, p15, z1, e28, e29, a16, a34, i1, ← hM2, e2]
        · rw [f3.2.1 16 (by omega), b 84 (by omega)]; exact a16
    · refine ⟨M2, fz, b94, b94', Or.inl ⟨t1.2.2, if_neg hk, ?_, by rw [b 84 (by omega)]; exact h27⟩⟩
      rw [g126_26]
      by_cases k3 : t1.1 = 3
      · have e28 : M1 84 28 = 3 := h28.trans k3
        have e29 := h29 (by omega)
        have kv : t1.2.1 ≠ (pa : Int) := fun z => hk ⟨k3, z⟩
        simp (disch := omega) only [g126_0, g126_1, g126_4, g126_6t, g126_6f, g126_9, g126_11, g126_12, g126_13, g126_14, g126_17, g126_18, g126_19, g126_22, g126_23, g126_24, g126_25, g126_27, g126_28t, g126_28f, g126_31, g126_32t, g126_32f, g126_35, g126_36, g126_39, g126_40, g126_43, g126_44t, g126_44f, g126_47, g126_48, g126_51, g126_52t, g126_52f, g126_55, g126_56, g126_59, g126_60, g126_61, g126_62, g126_65, g126_66, g126_67, g126_70, g126_71, g126_72, g126_73, g126_74, g126_77, g126_78, g126_79t, g126_79f, g126_82, g126_83, g126_86t, g126_86f, g126_89, g126_90, g126_93, g126_94, g126_95, g126_98, g126_101, g126_102t, g126_102f, g126_105, g126_106, g126_109, g126_110, g126_113t, g126_113f, g126_116, g126_117, g126_120, g126_121, g126_122, g126_123, g126_126, g126_127, g126_128, g126_131, g126_132, g126_133, g126_134, g126_135, g126_138, g126_139, g126_140, g126_141, g126_144, g126_145t, g126_145f, g126_148, g126_150, g126_151, g126_154, g126_155, g126_156, g126_157, g126_158, g126_161, g126_162, g126_163, g126_166, g126_167, g126_170, g126_171, g126_172, cont_1, cont_0, w32_o, p15, z1, e28, e29, a16, a34, i1, ← hM2]
      · simp (disch := omega) only [g126_0, g126_1, g126_4, g126_6t, g126_6f, g126_9, g126_11, g126_12, g126_13, g126_14, g126_17, g126_18, g126_19, g126_22, g126_23, g126_24, g126_25, g126_27, g126_28t, g126_28f, g126_31, g126_32t, g126_32f, g126_35, g126_36, g126_39, g126_40, g126_43, g126_44t, g126_44f, g126_47, g126_48, g126_51, g126_52t, g126_52f, g126_55, g126_56, g126_59, g126_60, g126_61, g126_62, g126_65, g126_66, g126_67, g126_70, g126_71, g126_72, g126_73, g126_74, g126_77, g126_78, g126_79t, g126_79f, g126_82, g126_83, g126_86t, g126_86f, g126_89, g126_90, g126_93, g126_94, g126_95, g126_98, g126_101, g126_102t, g126_102f, g126_105, g126_106, g126_109, g126_110, g126_113t, g126_113f, g126_116, g126_117, g126_120, g126_121, g126_122, g126_123, g126_126, g126_127, g126_128, g126_131, g126_132, g126_133, g126_134, g126_135, g126_138, g126_139, g126_140, g126_141, g126_144, g126_145t, g126_145f, g126_148, g126_150, g126_151, g126_154, g126_155, g126_156, g126_157, g126_158, g126_161, g126_162, g126_163, g126_166, g126_167, g126_170, g126_171, g126_172, cont_1, cont_0, w32_o, p15, z1, h28, a16, a34, i1, ← hM2]
def FrTx (t : Nat) (M M' : Mem) : Prop := (∀ a, a ≠ 84 → a ≠ 93 → a ≠ 94 → a ≠ 103 → M' a = M a) ∧ (∀ j, j < 26 ∨ 34 < j → j ≠ 13 → j ≠ 16 → M' 84 j = M 84 j) ∧ (∀ k, k < 200 * t ∨ 200 * t + 200 ≤ k → M' 93 k = M 93 k) ∧ ∀ k, k < 4 * t ∨ 4 * t + 4 ≤ k → M' 94 k = M 94 k
/-- behind the three parts, a fault told -/
theorem tl_f {n0 t : Nat} {pa : Int} {q : Int} {M : Mem} {S : Sh} (hS : Std n0 S) (hp : 0 ≤ pa ∧ pa ≤ 3) (h16 : M 84 16 = (t : Int)) (t6 : t < 6) (h27 : M 84 27 = q) : ∃ M', go 14 126 26 [some (aR 84), some (aI 0), some (aI pa)] [] M S = some (some (aI (w32 (-100 - q))), M', S) ∧ FrTx t M M' ∧ M' 84 13 = 0 ∧ M' 84 16 = (t : Int) := by
  have k84 := K84 hS
  have k94 := K94 hS
  have l94 := L94 hS
  have p15 := P84_15 hS
  have i1 : (4 * (t : Int) + 3).toNat = 4 * t + 3 := by omega
  refine ⟨mset (mset M 94 (4 * t + 3) (M 84 34)) 84 13 0, ?_, ⟨fun a x _ y _ => ?_, fun j _ j1 j2 => ?_, fun k _ => ?_, fun k hk => ?_⟩, ?_, ?_⟩
  · rw [g126_26]
    by_cases h3 : pa < 3
    all_goals simp (disch := omega) only [g126_0, g126_1, g126_4, g126_6t, g126_6f, g126_9, g126_11, g126_12, g126_13, g126_14, g126_17, g126_18, g126_19, g126_22, g126_23, g126_24, g126_25, g126_27, g126_28t, g126_28f, g126_31, g126_32t, g126_32f, g126_35, g126_36, g126_39, g126_40, g126_43, g126_44t, g126_44f, g126_47, g126_48, g126_51, g126_52t, g126_52f, g126_55, g126_56, g126_59, g126_60, g126_61, g126_62, g126_65, g126_66, g126_67, g126_70, g126_71, g126_72, g126_73, g126_74, g126_77, g126_78, g126_79t, g126_79f, g126_82, g126_83, g126_86t, g126_86f, g126_89, g126_90, g126_93, g126_94, g126_95, g126_98, g126_101, g126_102t, g126_102f, g126_105, g126_106, g126_109, g126_110, g126_113t, g126_113f, g126_116, g126_117, g126_120, g126_121, g126_122, g126_123, g126_126, g126_127, g126_128, g126_131, g126_132, g126_133, g126_134, g126_135, g126_138, g126_139, g126_140, g126_141, g126_144, g126_145t, g126_145f, g126_148, g126_150, g126_151, g126_154, g126_155, g126_156, g126_157, g126_158, g126_161, g126_162, g126_163, g126_166, g126_167, g126_170, g126_171, g126_172, cont_1, cont_0, w32_o, p15, h16, i1, mset_nk, mset_ne, h27]
  · rw [mset_ne _ _ _ x, mset_ne _ _ _ y]
  · rw [mset_nk _ j1, mset_ne _ _ _ (by omega)]
  · rw [mset_ne _ _ _ (by omega), mset_ne _ _ _ (by omega)]
  · rw [mset_ne _ _ _ (by omega), mset_nk _ (by omega)]
  · rw [mset_eq]
  · rw [mset_nk _ (by omega), mset_ne _ _ _ (by omega)]; exact h16
theorem FrZ_T {t : Nat} {M M1 M2 : Mem} (h1 : FrZ t M M1) (h2 : FrTx t M1 M2) : FrTx t M M2 := ⟨fun a x y z w => (h2.1 a x y z w).trans (h1.1 a x y z w), fun j hj a b => (h2.2.1 j hj a b).trans (h1.2.1 j hj), fun k hk => (h2.2.2.1 k hk).trans (h1.2.2.1 k hk), fun k hk => (h2.2.2.2 k hk).trans (h1.2.2.2 k hk)⟩
theorem tl_g {n0 sz t p : Nat} {f : Nat → Int} {M : Mem} {S : Sh} {ts : List Tok} {o : List Int} (hS : Std n0 S) (hz : sz ≤ 160) (h : TxI f sz t M ts p o) : ∃ M', FrTx t M M' ∧ M' 84 13 = 0 ∧ ((∃ q, txE ts = Sum.inl q ∧ go 14 126 26 [some (aR 84), some (aI 1), some (aI 3)] [] M S = some (some (aI (w32 (-100 - q))), M', S) ∧ M' 84 16 = (t : Int)) ∨ (txE ts = Sum.inr () ∧ go 14 126 26 [some (aR 84), some (aI 1), some (aI 3)] [] M S = some (some (aI (t : Int)), M', S) ∧ M' 84 16 = (t : Int) + 1 ∧ cP t M' o ∧ (∀ j, j ≠ 4 * t + 3 → M' 94 j = M 94 j) ∧ M' 94 (4 * t + 3) = ((o.length : Nat) : Int))) := by
  have k84 := K84 hS
  have k94 := K94 hS
  have l94 := L94 hS
  have p15 := P84_15 hS
  have i1 : (4 * (t : Int) + 3).toNat = 4 * t + 3 := by omega
  have i2 : (t : Int) + 1 - 1 = (t : Int) := by omega
  obtain ⟨he, h34, hc, h16, t6, hn⟩ := h
  cases ts with
  | nil => exact absurd he.2.2.2.2.2 (fun z => z)
  | cons t1 ts =>
    obtain ⟨M1, z1, f1, h28, h27, h29, ok, hq, nxt⟩ := nx_ hS hz he
    have a16 : M1 84 16 = (t : Int) := (f1.2 16 (by omega)).trans h16
    have a34 : M1 84 34 = ((o.length : Nat) : Int) := (f1.2 34 (by omega)).trans h34
    by_cases hk : t1.1 = 0
    · have e28 : M1 84 28 = 0 := h28.trans hk
      refine ⟨mset (mset (mset M1 94 (4 * t + 3) ((o.length : Nat) : Int)) 84 13 0) 84 16 ((t : Int) + 1), ⟨fun a x _ y _ => ?_, fun j j0 j1 j2 => ?_, fun k _ => ?_, fun k hk => ?_⟩, ?_, Or.inr ⟨if_pos hk, ?_, ?_, cP_fr (fun k _ => ?_) hc, fun j hj => ?_, ?_⟩⟩
      · rw [mset_ne _ _ _ x, mset_ne _ _ _ x, mset_ne _ _ _ y]; exact f1.1 a x
      · rw [mset_nk _ j2, mset_nk _ j1, mset_ne _ _ _ (by omega)]; exact f1.2 j (by omega)
      · rw [mset_ne _ _ _ (by omega), mset_ne _ _ _ (by omega), mset_ne _ _ _ (by omega), f1.1 93 (by omega)]
      · rw [mset_ne _ _ _ (by omega), mset_ne _ _ _ (by omega), mset_nk _ (by omega), f1.1 94 (by omega)]
      · rw [mset_nk _ (by omega), mset_eq]
      · rw [g126_26]
        simp (disch := omega) only [g126_0, g126_1, g126_4, g126_6t, g126_6f, g126_9, g126_11, g126_12, g126_13, g126_14, g126_17, g126_18, g126_19, g126_22, g126_23, g126_24, g126_25, g126_27, g126_28t, g126_28f, g126_31, g126_32t, g126_32f, g126_35, g126_36, g126_39, g126_40, g126_43, g126_44t, g126_44f, g126_47, g126_48, g126_51, g126_52t, g126_52f, g126_55, g126_56, g126_59, g126_60, g126_61, g126_62, g126_65, g126_66, g126_67, g126_70, g126_71, g126_72, g126_73, g126_74, g126_77, g126_78, g126_79t, g126_79f, g126_82, g126_83, g126_86t, g126_86f, g126_89, g126_90, g126_93, g126_94, g126_95, g126_98, g126_101, g126_102t, g126_102f, g126_105, g126_106, g126_109, g126_110, g126_113t, g126_113f, g126_116, g126_117, g126_120, g126_121, g126_122, g126_123, g126_126, g126_127, g126_128, g126_131, g126_132, g126_133, g126_134, g126_135, g126_138, g126_139, g126_140, g126_141, g126_144, g126_145t, g126_145f, g126_148, g126_150, g126_151, g126_154, g126_155, g126_156, g126_157, g126_158, g126_161, g126_162, g126_163, g126_166, g126_167, g126_170, g126_171, g126_172, cont_1, cont_0, w32_o, p15, z1, e28, a16, a34, i1, mset_ne, mset_nk, mset_eq, i2]
      · rw [mset_eq]
      · rw [mset_ne _ _ _ (by omega), mset_ne _ _ _ (by omega), mset_ne _ _ _ (by omega), f1.1 93 (by omega)]
      · rw [mset_ne _ _ _ (by omega), mset_ne _ _ _ (by omega), mset_nk _ hj, f1.1 94 (by omega)]
      · rw [mset_ne _ _ _ (by omega), mset_ne _ _ _ (by omega), mset_eq]
    · refine ⟨mset (mset M1 94 (4 * t + 3) ((o.length : Nat) : Int)) 84 13 0, ⟨fun a x _ y _ => ?_, fun j j0 j1 j2 => ?_, fun k _ => ?_, fun k hk => ?_⟩, ?_, Or.inl ⟨t1.2.2, if_neg hk, ?_, ?_⟩⟩
      · rw [mset_ne _ _ _ x, mset_ne _ _ _ y]; exact f1.1 a x
      · rw [mset_nk _ j1, mset_ne _ _ _ (by omega)]; exact f1.2 j (by omega)
      · rw [mset_ne _ _ _ (by omega), mset_ne _ _ _ (by omega), f1.1 93 (by omega)]
      · rw [mset_ne _ _ _ (by omega), mset_nk _ (by omega), f1.1 94 (by omega)]
      · rw [mset_eq]
      · rw [g126_26]
        simp (disch := omega) only [g126_0, g126_1, g126_4, g126_6t, g126_6f, g126_9, g126_11, g126_12, g126_13, g126_14, g126_17, g126_18, g126_19, g126_22, g126_23, g126_24, g126_25, g126_27, g126_28t, g126_28f, g126_31, g126_32t, g126_32f, g126_35, g126_36, g126_39, g126_40, g126_43, g126_44t, g126_44f, g126_47, g126_48, g126_51, g126_52t, g126_52f, g126_55, g126_56, g126_59, g126_60, g126_61, g126_62, g126_65, g126_66, g126_67, g126_70, g126_71, g126_72, g126_73, g126_74, g126_77, g126_78, g126_79t, g126_79f, g126_82, g126_83, g126_86t, g126_86f, g126_89, g126_90, g126_93, g126_94, g126_95, g126_98, g126_101, g126_102t, g126_102f, g126_105, g126_106, g126_109, g126_110, g126_113t, g126_113f, g126_116, g126_117, g126_120, g126_121, g126_122, g126_123, g126_126, g126_127, g126_128, g126_131, g126_132, g126_133, g126_134, g126_135, g126_138, g126_139, g126_140, g126_141, g126_144, g126_145t, g126_145f, g126_148, g126_150, g126_151, g126_154, g126_155, g126_156, g126_157, g126_158, g126_161, g126_162, g126_163, g126_166, g126_167, g126_170, g126_171, g126_172, cont_1, cont_0, w32_o, p15, z1, h28, h27, a16, a34, i1, mset_ne, mset_nk]
      · rw [mset_nk _ (by omega), mset_ne _ _ _ (by omega)]; exact a16
theorem bO_l {α : Type} {r : OutT} {k : List Tok → List Int → Int ⊕ α} {q : Int} (h : r = Sum.inl q) : bO r k = Sum.inl q := by
  rw [h]
  rfl
theorem bO_r {α : Type} {r : OutT} {k : List Tok → List Int → Int ⊕ α} {t : List Tok} {o : List Int} (h : r = Sum.inr (t, o)) : bO r k = k t o := by
  rw [h]
  rfl
theorem mtx_ {n0 sz t : Nat} {f : Nat → Int} {M : Mem} {S : Sh} {ts : List Tok} (hS : Std n0 S) (hz : sz ≤ 160) (h13 : M 84 13 = (sz : Int)) (hf : ∀ k, k < sz → M 92 k = f k) (hw : ∀ i, i < 96 → M 102 i = wT i) (h16 : M 84 16 = (t : Int)) (t6 : t < 6) (hL : Lx f sz ts 0) (hl : ts.length ≤ 161) : ∃ M', FrTx t M M' ∧ M' 84 13 = 0 ∧ ((∃ q, txR ts = Sum.inl q ∧ res 126 [aR 84] M S = some (some (aI (w32 (-100 - q))), M', S) ∧ M' 84 16 = (t : Int)) ∨ (∃ o1 o2 o3, txR ts = Sum.inr (o1, o2, o3) ∧ res 126 [aR 84] M S = some (some (aI (t : Int)), M', S) ∧ M' 84 16 = (t : Int) + 1 ∧ cP t M' o3 ∧ M' 94 (4 * t) = 0 ∧ M' 94 (4 * t + 1) = ((o1.length : Nat) : Int) ∧ M' 94 (4 * t + 2) = ((o2.length : Nat) : Int) ∧ M' 94 (4 * t + 3) = ((o3.length : Nat) : Int) ∧ o3.length ≤ 160)) := by
  have k84 := K84 hS
  have k94 := K94 hS
  have l94 := L94 hS
  have p15 := P84_15 hS
  obtain ⟨M0, hM0⟩ : ∃ M0, M0 = mset (mset M 84 26 0) 84 34 0 := ⟨_, rfl⟩
  have b : ∀ a, a ≠ 84 → M0 a = M a := fun a ha => by rw [hM0, mset_ne _ _ _ ha, mset_ne _ _ _ ha]
  have b84 : ∀ j, j ≠ 26 → j ≠ 34 → M0 84 j = M 84 j := fun j h1 h2 => by rw [hM0, mset_nk _ h2, mset_nk _ h1]
  have I0 : TxI f sz t M0 ts 0 [] := by
    refine ⟨⟨?_, ?_, fun k hk => ?_, fun i hi => ?_, Nat.zero_le _, hL⟩, ?_, trivial, ?_, t6, ?_⟩
    · rw [hM0, mset_nk _ (by omega), mset_eq]; rfl
    · rw [b84 13 (by omega) (by omega)]; exact h13
    · rw [b 92 (by omega)]; exact hf k hk
    · rw [b 102 (by omega)]; exact hw i hi
    · rw [hM0, mset_eq]; rfl
    · rw [b84 16 (by omega) (by omega)]; exact h16
    · show 0 + ts.length ≤ 161; omega
  have f0 : FrZ t M M0 := ⟨fun a x _ _ _ => b a x, fun j hj => b84 j (by omega) (by omega), fun k _ => by rw [b 93 (by omega)], fun k _ => by rw [b 94 (by omega)]⟩
  have start : res 126 [aR 84] M S = go 14 126 26 [some (aR 84), some (aI 1), some (aI 0)] [] M0 S := by
    rw [hM0, g126]
    simp (disch := omega) only [g126_0, g126_1, g126_4, g126_6t, g126_6f, g126_9, g126_11, g126_12, g126_13, g126_14, g126_17, g126_18, g126_19, g126_22, g126_23, g126_24, g126_25, g126_27, g126_28t, g126_28f, g126_31, g126_32t, g126_32f, g126_35, g126_36, g126_39, g126_40, g126_43, g126_44t, g126_44f, g126_47, g126_48, g126_51, g126_52t, g126_52f, g126_55, g126_56, g126_59, g126_60, g126_61, g126_62, g126_65, g126_66, g126_67, g126_70, g126_71, g126_72, g126_73, g126_74, g126_77, g126_78, g126_79t, g126_79f, g126_82, g126_83, g126_86t, g126_86f, g126_89, g126_90, g126_93, g126_94, g126_95, g126_98, g126_101, g126_102t, g126_102f, g126_105, g126_106, g126_109, g126_110, g126_113t, g126_113f, g126_116, g126_117, g126_120, g126_121, g126_122, g126_123, g126_126, g126_127, g126_128, g126_131, g126_132, g126_133, g126_134, g126_135, g126_138, g126_139, g126_140, g126_141, g126_144, g126_145t, g126_145f, g126_148, g126_150, g126_151, g126_154, g126_155, g126_156, g126_157, g126_158, g126_161, g126_162, g126_163, g126_166, g126_167, g126_170, g126_171, g126_172, cont_1, cont_0, w32_o, h16]
  rw [start]
  obtain ⟨M1, f1, a1, a1', r1⟩ := it_ (pa := 0) hS hz (by omega) I0
  have c1 : M1 84 16 = (t : Int) := by rw [f1.2.1 16 (by omega), b84 16 (by omega) (by omega)]; exact h16
  rcases r1 with ⟨q, e1, e2, e3⟩ | ⟨ts1, o1, p1, e1, e2, I1⟩
  · obtain ⟨M', z, fz, z1, z2⟩ := tl_f (pa := ((0 : Nat) : Int) + 1) hS (by omega) c1 t6 e3
    exact ⟨M', FrZ_T (FrZ_t f0 f1) fz, z1, Or.inl ⟨q, bO_l e1, e2.trans z, z2⟩⟩
  obtain ⟨M2, f2, a2, a2', r2⟩ := it_ (pa := 1) hS hz (by omega) I1
  have c2 : M2 84 16 = (t : Int) := by rw [f2.2.1 16 (by omega)]; exact c1
  have x1 : txR ts = _ := bO_r e1
  rcases r2 with ⟨q, g1, g2, g3⟩ | ⟨ts2, o2, p2, g1, g2, I2⟩
  · obtain ⟨M', z, fz, z1, z2⟩ := tl_f (pa := ((1 : Nat) : Int) + 1) hS (by omega) c2 t6 g3
    exact ⟨M', FrZ_T (FrZ_t f0 (FrZ_t f1 f2)) fz, z1, Or.inl ⟨q, x1.trans (bO_l g1), e2.trans (g2.trans z), z2⟩⟩
  obtain ⟨M3, f3, a3, a3', r3⟩ := it_ (pa := 2) hS hz (by omega) I2
  have c3 : M3 84 16 = (t : Int) := by rw [f3.2.1 16 (by omega)]; exact c2
  have x2 := x1.trans (bO_r g1)
  rcases r3 with ⟨q, h1, h2, h3⟩ | ⟨ts3, o3, p3, h1, h2, I3⟩
  · obtain ⟨M', z, fz, z1, z2⟩ := tl_f (pa := ((2 : Nat) : Int) + 1) hS (by omega) c3 t6 h3
    exact ⟨M', FrZ_T (FrZ_t f0 (FrZ_t f1 (FrZ_t f2 f3))) fz, z1, Or.inl ⟨q, x2.trans (bO_l h1), e2.trans (g2.trans (h2.trans z)), z2⟩⟩
  have x3 := x2.trans (bO_r h1)
  obtain ⟨M4, f4, d13, r4⟩ := tl_g hS hz I3
  refine ⟨M4, FrZ_T (FrZ_t f0 (FrZ_t f1 (FrZ_t f2 f3))) f4, d13, ?_⟩
  rcases r4 with ⟨q, k1, k2, k3⟩ | ⟨k1, k2, k3, k4, k5, k6⟩
  · refine Or.inl ⟨q, ?_, e2.trans (g2.trans (h2.trans k2)), k3⟩
    rw [x3, k1]
  · refine Or.inr ⟨o1, o2, o3, ?_, e2.trans (g2.trans (h2.trans k2)), k3, k4, ?_, ?_, ?_, k6, ?_⟩
    · rw [x3, k1]
    · rw [k5 _ (by omega), a3' _ (by omega), a2' _ (by omega)]; exact a1
    · rw [k5 _ (by omega), a3' _ (by omega)]; exact a2
    · rw [k5 _ (by omega)]; exact a3
    · have := I3.2.2.2.2.2
      have := Lx_ne I3.1.2.2.2.2.2
      omega
