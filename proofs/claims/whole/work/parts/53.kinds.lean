/-! kinds -/
def ThkL (M X : Mem) : Prop := FrC M X ∧ (∀ k, k < 192 → X 18 k = M 8 k) ∧ (∀ k, k < 192 → X 19 k = M 9 k) ∧ (∀ k, k < 12 → X 20 k = M 10 k ∧ X 21 k = M 11 k)
theorem Thk_L {M X : Mem} (h : Thk M X) : ThkL M X := ⟨h.1, h.2.1, h.2.2.1, h.2.2.2.1⟩
theorem ThkL_T {M X X' : Mem} (h : ThkL M X) (f : FrT X X') : ThkL M X' := by
  obtain ⟨h0, h1, h2, h3⟩ := h
  refine ⟨FrC_t h0 (FrT_C f), ?_, ?_, ?_⟩
  · rw [f 18 (by omega)]; exact h1
  · rw [f 19 (by omega)]; exact h2
  · rw [f 20 (by omega), f 21 (by omega)]; exact h3
theorem ThkL_s {M X : Mem} {a j : Nat} {v : Int} (h : ThkL M X) (ha : a = 17 ∨ (22 ≤ a ∧ a ≤ 26)) : ThkL M (mset X a j v) := by
  obtain ⟨h0, h1, h2, h3⟩ := h
  refine ⟨FrC_s h0 (by unfold scrC; omega), ?_, ?_, ?_⟩
  all_goals simp (disch := omega) only [mset_ne]
  all_goals assumption
theorem th_flL {sc : Nat → Int} {M X : Mem} (hI : Inv sc M) (h : ThkL M X) (h4 : X 17 4 = M 7 4) : flC X 17 = flN M (X 17 13) (X 17 11) (X 17 12) (X 22 (X 17 13).toNat) (X 23 (X 17 13).toNat) (X 24 (X 17 13).toNat) (X 25 (X 17 13).toNat) (X 26 (X 17 13).toNat) (X 17 14) := by
  obtain ⟨f, h0, h1, h2⟩ := h
  have q3 := hI.2.1.2.2.1
  have r93 : X 93 = M 93 := f 93 (by unfold scrC; omega)
  have r94 : X 94 = M 94 := f 94 (by unfold scrC; omega)
  unfold flC flN cdT stT
  have e1 : tr 192 (X (17 + 1)) = tr 192 (M 8) := tr_ext h0
  have e2 : tr (M 7 4).toNat (X (17 + 3)) = tr (M 7 4).toNat (M 10) := tr_ext (fun k hk => (h2 k (by omega)).1)
  have e3 : tr (M 7 4).toNat (X (17 + 4)) = tr (M 7 4).toNat (M 11) := tr_ext (fun k hk => (h2 k (by omega)).2)
  rw [h4, e1, e2, e3, r93, r94]
theorem str_thL {sc : Nat → Int} {M X : Mem} (hI : Inv sc M) (h : ThkL M X) (h4 : X 17 4 = M 7 4) : 0 ≤ X 17 4 ∧ X 17 4 ≤ 12 ∧ ∀ k : Nat, (k : Int) < X 17 4 → 0 ≤ X 20 k ∧ X 20 k ≤ 3 ∧ 0 ≤ X 21 k ∧ X 21 k < 16 ∧ (X 20 k < 2 → X 21 k < 12) := by
  have hStr := hI.2.1
  have q3 := hStr.2.2.1
  rw [h4]
  refine ⟨hStr.2.1, hStr.2.2.1, fun k hk => ?_⟩
  rw [(h.2.2.2 k (by omega)).1, (h.2.2.2 k (by omega)).2]
  exact (hStr.2.2.2 k hk).2.2
/-- the model's rows but for what kinds writes, p flying -/
def FrK (p : Nat) (M Y : Mem) : Prop := (∀ a, a ≠ 84 → a ≠ 87 → a ≠ 88 → a ≠ 89 → (a < 103 ∨ 109 < a) → Y a = M a) ∧ (∀ j, j ≠ p → Y 87 j = M 87 j ∧ Y 88 j = M 88 j) ∧ (∀ j, j ≠ 3 * p + 2 → Y 89 j = M 89 j) ∧ (∀ k, (k < 26 ∨ k = 43) → k ≠ 4 → Y 84 k = M 84 k)
def setK (p : Nat) (Y : Mem) (a b c w : Int) : Mem := mset (mset (mset (mset Y 87 p a) 88 p b) 89 (3 * p + 2) c) 84 4 w
theorem FrK_s {p : Nat} {M Y : Mem} {a b c w : Int} (h : FrK p M Y) : FrK p M (setK p Y a b c w) := by
  obtain ⟨h0, h1, h2, h3⟩ := h
  unfold setK
  refine ⟨fun x e1 e2 e3 e4 e5 => ?_, fun j hj => ⟨?_, ?_⟩, fun j hj => ?_, fun k hk hj => ?_⟩
  · rw [mset_ne _ _ _ e1, mset_ne _ _ _ e4, mset_ne _ _ _ e3, mset_ne _ _ _ e2]
    exact h0 x e1 e2 e3 e4 e5
  · rw [mset_ne _ _ _ (by omega), mset_ne _ _ _ (by omega), mset_ne _ _ _ (by omega), mset_nk _ hj]
    exact (h1 j hj).1
  · rw [mset_ne _ _ _ (by omega), mset_ne _ _ _ (by omega), mset_nk _ hj, mset_ne _ _ _ (by omega)]
    exact (h1 j hj).2
  · rw [mset_ne _ _ _ (by omega), mset_nk _ hj, mset_ne _ _ _ (by omega), mset_ne _ _ _ (by omega)]
    exact h2 j hj
  · rw [mset_nk _ hj, mset_ne _ _ _ (by omega), mset_ne _ _ _ (by omega), mset_ne _ _ _ (by omega)]
    exact h3 k hk hj
theorem FrK_N {p : Nat} {M Y Y' : Mem} (h : FrK p M Y) (f : FrN Y Y') : FrK p M Y' := by
  obtain ⟨h0, h1, h2, h3⟩ := h
  refine ⟨fun x e1 e2 e3 e4 e5 => (f.1 x e1 (by omega)).trans (h0 x e1 e2 e3 e4 e5), fun j hj => ?_, fun j hj => ?_, fun k hk hj => (f.2 k (by omega)).trans (h3 k hk hj)⟩
  · rw [f.1 87 (by omega) (by omega), f.1 88 (by omega) (by omega)]
    exact h1 j hj
  · rw [f.1 89 (by omega) (by omega)]
    exact h2 j hj
theorem FrK_r {p : Nat} {M : Mem} : FrK p M M := ⟨fun _ _ _ _ _ _ => rfl, fun _ _ => ⟨rfl, rfl⟩, fun _ _ => rfl, fun _ _ _ => rfl⟩
/-- set back: the rows are as they were -/
theorem FrK_row {p : Nat} {M Y : Mem} {w : Int} (h : FrK p M Y) : FrR M (setK p Y (M 87 p) (M 88 p) (M 89 (3 * p + 2)) w) ∧ ∀ k, (k < 26 ∨ k = 43) → k ≠ 4 → setK p Y (M 87 p) (M 88 p) (M 89 (3 * p + 2)) w 84 k = M 84 k := by
  have g := FrK_s (a := M 87 p) (b := M 88 p) (c := M 89 (3 * p + 2)) (w := w) h
  refine ⟨fun x e1 e5 => ?_, g.2.2.2⟩
  by_cases e2 : x = 87
  · funext j
    by_cases hj : j = p
    · rw [e2, hj]
      unfold setK
      rw [mset_ne _ _ _ (by omega), mset_ne _ _ _ (by omega), mset_ne _ _ _ (by omega), mset_eq]
    · rw [e2]
      exact (g.2.1 j hj).1
  · by_cases e3 : x = 88
    · funext j
      by_cases hj : j = p
      · rw [e3, hj]
        unfold setK
        rw [mset_ne _ _ _ (by omega), mset_ne _ _ _ (by omega), mset_eq]
      · rw [e3]
        exact (g.2.1 j hj).2
    · by_cases e4 : x = 89
      · funext j
        by_cases hj : j = 3 * p + 2
        · rw [e4, hj]
          unfold setK
          rw [mset_ne _ _ _ (by omega), mset_eq]
        · rw [e4]
          exact g.2.2.1 j hj
      · exact g.1 x e1 e2 e3 e4 e5
theorem FrK_end {p : Nat} {M Y : Mem} {w : Int} (h : FrK p M Y) (hw : M 84 4 = w) : FrM M (setK p Y (M 87 p) (M 88 p) (M 89 (3 * p + 2)) w) := by
  obtain ⟨g1, g2⟩ := FrK_row (w := w) h
  refine ⟨g1, fun k hk => ?_⟩
  by_cases h4 : k = 4
  · rw [h4, hw]
    exact mset_eq
  · exact g2 k hk h4
def knF (M : Mem) (s y p so : Nat) (k : Nat) : Int := unV M s y (if so = 0 then flN M (p : Int) (M 7 11) (M 7 12) (k : Int) (M 13 p) (M 14 p) (M 15 p) (M 16 p) (M 7 14) else if so = 1 then flN M (p : Int) (M 7 11) (M 7 12) (M 12 p) (k : Int) (M 14 p) (M 15 p) (M 16 p) (M 7 14) else if so = 2 then flN M (p : Int) (M 7 11) (M 7 12) (M 12 p) (M 13 p) (M 14 p) (M 15 p) (k : Int) (M 7 14) else flW M (k : Int) (M 7 11) (M 7 12) (M 7 14))
theorem knF_fr {M M' : Mem} (h : FrC M M') {s : Nat} (hs : s < 4) : knF M' s = knF M s := by
  obtain ⟨r7, r8, r9, r10, r11, r12, r13, r14, r15, r16, r93, r94, r6⟩ := now_fr h
  funext y p so k
  unfold knF unV flW flN cdT stT
  rw [r7, r8, r9, r10, r11, r12, r13, r14, r15, r16, r93, r94, h (77 + 2 * s) (by unfold scrC; omega)]
theorem kinds0_c {n r s y p : Nat} {sc : Nat → Int} {M : Mem} {S : Sh} {l4 l5 : Option AV} (hr : 15 < r) (hS : Std n S) (hI : Inv sc M) (hs : s < 4) (hy : y < 16) (hp : M 7 13 = (p : Int)) : ∀ (rem k : Nat) (X : Mem) (b : Int), k + rem = 5 + 1 → ThkL M X → (∀ j, (j = 4 ∨ (10 ≤ j ∧ j < 15)) → X 17 j = M 7 j) → (X 23 p = M 13 p ∧ X 24 p = M 14 p ∧ X 25 p = M 15 p ∧ X 26 p = M 16 p) → ∃ X', go r 72 111 [some (aR 6), some (aI (s : Int)), some (aI (y : Int)), some (aI 0), l4, l5, some (aI 5), some (aI b), some (aI (k : Int))] [] X S = some (some (aI (bitF (fun k => knF M s y p 0 k) rem k b)), X', S) ∧ FrC M X' := by
  have k6 := K6 hS
  have k7 := K7 hS
  have k17 := K17 hS
  have k22 := K22 hS
  have k23 := K23 hS
  have k26 := K26 hS
  have k40 := K40 hS
  have l22 := L22 hS
  have l23 := L23 hS
  have l26 := L26 hS
  have hP := hI.2.2.1
  have hN := hI.2.2.2.1
  have p3 := hP.2.2.1
  have t5 := hI.2.2.2.2.1.2.2.1
  obtain ⟨_, n2, n3, _, n5, n6, _, n8, n9, _, n11, n12⟩ := hN
  obtain ⟨_, _, _, _, _, v0, v1, v2, v3, _, _, _, _, v4, v5⟩ := hP.2.2.2 p (by omega)
  intro rem
  induction rem with
  | zero =>
    intro k X b hk hX h17 hq
    rw [g72_111]
    simp (disch := omega) only [g72_0, g72_1, g72_2, g72_3, g72_6, g72_8, g72_10t, g72_10f, g72_13, g72_15, g72_16, g72_17t, g72_17f, g72_20, g72_21, g72_22t, g72_22f, g72_25, g72_27, g72_28, g72_29, g72_32, g72_35, g72_36t, g72_36f, g72_39, g72_41, g72_42, g72_43, g72_44t, g72_44f, g72_47, g72_48, g72_51, g72_52, g72_54, g72_55t, g72_55f, g72_58, g72_59, g72_62, g72_63, g72_64t, g72_64f, g72_67, g72_69, g72_72, g72_73, g72_74t, g72_74f, g72_77, g72_79, g72_82, g72_83, g72_86, g72_89, g72_90, g72_91, g72_93, g72_94, g72_96, g72_97, g72_100, g72_101, g72_104, g72_107, g72_109, g72_113, g72_115t, g72_115f, g72_118, g72_119t, g72_119f, g72_122, g72_123, g72_126, g72_129, g72_130, g72_133, g72_136, g72_138, g72_141, g72_144, g72_145, g72_146t, g72_146f, g72_149, g72_150, g72_153, g72_156, g72_157, g72_160, g72_163, g72_165, g72_168, g72_171, g72_172, g72_173t, g72_173f, g72_176, g72_177, g72_180, g72_183, g72_184, g72_187, g72_190, g72_192, g72_195, g72_198, g72_199, g72_202, g72_204, g72_207, g72_208, g72_209, g72_212, g72_213, g72_214, g72_217, g72_218t, g72_218f, g72_221, g72_223, g72_224, g72_226, g72_227, g72_228, g72_230, g72_233, g72_236, g72_238, cont_1, cont_0, w32_k]
    exact ⟨X, rfl, hX.1⟩
  | succ rem ih =>
    intro k X b hk hX h17 hq
    obtain ⟨x23, x24, x25, x26⟩ := hq
    have hX1 := ThkL_s (a := 22) (j := p) (v := (k : Int)) hX (by omega)
    have h1 : ∀ j, (j = 4 ∨ (10 ≤ j ∧ j < 15)) → mset X 22 p (k : Int) 17 j = M 7 j := fun j hj => by
      rw [mset_ne _ _ _ (by omega)]
      exact h17 j hj
    have e0 : mset X 22 p (k : Int) 22 p = (k : Int) := mset_eq
    have u23 : mset X 22 p (k : Int) 23 p = M 13 p := by rw [mset_ne _ _ _ (by omega)]; exact x23
    have u24 : mset X 22 p (k : Int) 24 p = M 14 p := by rw [mset_ne _ _ _ (by omega)]; exact x24
    have u25 : mset X 22 p (k : Int) 25 p = M 15 p := by rw [mset_ne _ _ _ (by omega)]; exact x25
    have u26 : mset X 22 p (k : Int) 26 p = M 16 p := by rw [mset_ne _ _ _ (by omega)]; exact x26
    have e4 := h1 4 (by omega)
    have e11 := h1 11 (by omega)
    have e12 := h1 12 (by omega)
    have e13 := h1 13 (by omega)
    have e14 := h1 14 (by omega)
    have x13 := h17 13 (by omega)
    have tp : (M 7 13).toNat = p := by omega
    have hF : FyC (mset X 22 p (k : Int)) 17 := fyC_th hI hX1.1 (str_thL hI hX1 e4) (by omega) (by omega) (fun hw => by
      rw [e13, tp]
      unfold PlO
      omega) (by omega) (by omega)
    obtain ⟨X2, f, a⟩ := fo_ hS (Inv_frC hI hX1.1).2.2.2.2.2.2.2.1 (Or.inr rfl) hX1.2.2.1 (hX1.1 (77 + 2 * s) (by unfold scrC; omega)) hF hs hy
    rw [th_flL hI hX1 e4, e11, e12, e13, e14, tp, e0, u23, u24, u25, u26, hp, show unV M s y (flN M (p : Int) (M 7 11) (M 7 12) (k : Int) (M 13 p) (M 14 p) (M 15 p) (M 16 p) (M 7 14)) = knF M s y p 0 k from rfl] at f
    have h2 : ∀ j, (j = 4 ∨ (10 ≤ j ∧ j < 15)) → X2 17 j = M 7 j := fun j hj => by
      rw [a.1 17 (by omega)]
      exact h1 j hj
    have h3 : X2 23 p = M 13 p ∧ X2 24 p = M 14 p ∧ X2 25 p = M 15 p ∧ X2 26 p = M 16 p := by
      rw [a.1 23 (by omega), a.1 24 (by omega), a.1 25 (by omega), a.1 26 (by omega)]
      exact ⟨u23, u24, u25, u26⟩
    rw [g72_111]
    by_cases hm : knF M s y p 0 k = -1
    · obtain ⟨X3, z, fr⟩ := ih (k + 1) X2 (or32 b (sh32 1 (k : Int))) (by omega) (ThkL_T hX1 a.1) h2 h3
      refine ⟨X3, ?_, fr⟩
      rw [bit_t (c := fun k => knF M s y p 0 k) hm, ← z, nc_1]
      simp (disch := omega) only [g72_0, g72_1, g72_2, g72_3, g72_6, g72_8, g72_10t, g72_10f, g72_13, g72_15, g72_16, g72_17t, g72_17f, g72_20, g72_21, g72_22t, g72_22f, g72_25, g72_27, g72_28, g72_29, g72_32, g72_35, g72_36t, g72_36f, g72_39, g72_41, g72_42, g72_43, g72_44t, g72_44f, g72_47, g72_48, g72_51, g72_52, g72_54, g72_55t, g72_55f, g72_58, g72_59, g72_62, g72_63, g72_64t, g72_64f, g72_67, g72_69, g72_72, g72_73, g72_74t, g72_74f, g72_77, g72_79, g72_82, g72_83, g72_86, g72_89, g72_90, g72_91, g72_93, g72_94, g72_96, g72_97, g72_100, g72_101, g72_104, g72_107, g72_109, g72_113, g72_115t, g72_115f, g72_118, g72_119t, g72_119f, g72_122, g72_123, g72_126, g72_129, g72_130, g72_133, g72_136, g72_138, g72_141, g72_144, g72_145, g72_146t, g72_146f, g72_149, g72_150, g72_153, g72_156, g72_157, g72_160, g72_163, g72_165, g72_168, g72_171, g72_172, g72_173t, g72_173f, g72_176, g72_177, g72_180, g72_183, g72_184, g72_187, g72_190, g72_192, g72_195, g72_198, g72_199, g72_202, g72_204, g72_207, g72_208, g72_209, g72_212, g72_213, g72_214, g72_217, g72_218t, g72_218f, g72_221, g72_223, g72_224, g72_226, g72_227, g72_228, g72_230, g72_233, g72_236, g72_238, cont_1, cont_0, w32_k, put_in, Int.toNat_natCast, P6_1 hS, P17_5 hS, P17_6 hS, P17_9 hS, x13, hp, f]
    · obtain ⟨X3, z, fr⟩ := ih (k + 1) X2 b (by omega) (ThkL_T hX1 a.1) h2 h3
      refine ⟨X3, ?_, fr⟩
      rw [bit_f (c := fun k => knF M s y p 0 k) hm, ← z, nc_1]
      simp (disch := omega) only [g72_0, g72_1, g72_2, g72_3, g72_6, g72_8, g72_10t, g72_10f, g72_13, g72_15, g72_16, g72_17t, g72_17f, g72_20, g72_21, g72_22t, g72_22f, g72_25, g72_27, g72_28, g72_29, g72_32, g72_35, g72_36t, g72_36f, g72_39, g72_41, g72_42, g72_43, g72_44t, g72_44f, g72_47, g72_48, g72_51, g72_52, g72_54, g72_55t, g72_55f, g72_58, g72_59, g72_62, g72_63, g72_64t, g72_64f, g72_67, g72_69, g72_72, g72_73, g72_74t, g72_74f, g72_77, g72_79, g72_82, g72_83, g72_86, g72_89, g72_90, g72_91, g72_93, g72_94, g72_96, g72_97, g72_100, g72_101, g72_104, g72_107, g72_109, g72_113, g72_115t, g72_115f, g72_118, g72_119t, g72_119f, g72_122, g72_123, g72_126, g72_129, g72_130, g72_133, g72_136, g72_138, g72_141, g72_144, g72_145, g72_146t, g72_146f, g72_149, g72_150, g72_153, g72_156, g72_157, g72_160, g72_163, g72_165, g72_168, g72_171, g72_172, g72_173t, g72_173f, g72_176, g72_177, g72_180, g72_183, g72_184, g72_187, g72_190, g72_192, g72_195, g72_198, g72_199, g72_202, g72_204, g72_207, g72_208, g72_209, g72_212, g72_213, g72_214, g72_217, g72_218t, g72_218f, g72_221, g72_223, g72_224, g72_226, g72_227, g72_228, g72_230, g72_233, g72_236, g72_238, cont_1, cont_0, w32_k, put_in, Int.toNat_natCast, P6_1 hS, P17_5 hS, P17_6 hS, P17_9 hS, x13, hp, f]
theorem kinds1_c {n r s y p : Nat} {sc : Nat → Int} {M : Mem} {S : Sh} {l4 l5 : Option AV} (hr : 15 < r) (hS : Std n S) (hI : Inv sc M) (hs : s < 4) (hy : y < 16) (hp : M 7 13 = (p : Int)) : ∀ (rem k : Nat) (X : Mem) (b : Int), k + rem = 9 + 1 → ThkL M X → (∀ j, (j = 4 ∨ (10 ≤ j ∧ j < 15)) → X 17 j = M 7 j) → (X 22 p = M 12 p ∧ X 24 p = M 14 p ∧ X 25 p = M 15 p ∧ X 26 p = M 16 p) → ∃ X', go r 72 111 [some (aR 6), some (aI (s : Int)), some (aI (y : Int)), some (aI 1), l4, l5, some (aI 9), some (aI b), some (aI (k : Int))] [] X S = some (some (aI (bitF (fun k => knF M s y p 1 k) rem k b)), X', S) ∧ FrC M X' := by
  have k6 := K6 hS
  have k7 := K7 hS
  have k17 := K17 hS
  have k22 := K22 hS
  have k23 := K23 hS
  have k26 := K26 hS
  have k40 := K40 hS
  have l22 := L22 hS
  have l23 := L23 hS
  have l26 := L26 hS
  have hP := hI.2.2.1
  have hN := hI.2.2.2.1
  have p3 := hP.2.2.1
  have t5 := hI.2.2.2.2.1.2.2.1
  obtain ⟨_, n2, n3, _, n5, n6, _, n8, n9, _, n11, n12⟩ := hN
  obtain ⟨_, _, _, _, _, v0, v1, v2, v3, _, _, _, _, v4, v5⟩ := hP.2.2.2 p (by omega)
  intro rem
  induction rem with
  | zero =>
    intro k X b hk hX h17 hq
    rw [g72_111]
    simp (disch := omega) only [g72_0, g72_1, g72_2, g72_3, g72_6, g72_8, g72_10t, g72_10f, g72_13, g72_15, g72_16, g72_17t, g72_17f, g72_20, g72_21, g72_22t, g72_22f, g72_25, g72_27, g72_28, g72_29, g72_32, g72_35, g72_36t, g72_36f, g72_39, g72_41, g72_42, g72_43, g72_44t, g72_44f, g72_47, g72_48, g72_51, g72_52, g72_54, g72_55t, g72_55f, g72_58, g72_59, g72_62, g72_63, g72_64t, g72_64f, g72_67, g72_69, g72_72, g72_73, g72_74t, g72_74f, g72_77, g72_79, g72_82, g72_83, g72_86, g72_89, g72_90, g72_91, g72_93, g72_94, g72_96, g72_97, g72_100, g72_101, g72_104, g72_107, g72_109, g72_113, g72_115t, g72_115f, g72_118, g72_119t, g72_119f, g72_122, g72_123, g72_126, g72_129, g72_130, g72_133, g72_136, g72_138, g72_141, g72_144, g72_145, g72_146t, g72_146f, g72_149, g72_150, g72_153, g72_156, g72_157, g72_160, g72_163, g72_165, g72_168, g72_171, g72_172, g72_173t, g72_173f, g72_176, g72_177, g72_180, g72_183, g72_184, g72_187, g72_190, g72_192, g72_195, g72_198, g72_199, g72_202, g72_204, g72_207, g72_208, g72_209, g72_212, g72_213, g72_214, g72_217, g72_218t, g72_218f, g72_221, g72_223, g72_224, g72_226, g72_227, g72_228, g72_230, g72_233, g72_236, g72_238, cont_1, cont_0, w32_k]
    exact ⟨X, rfl, hX.1⟩
  | succ rem ih =>
    intro k X b hk hX h17 hq
    obtain ⟨x22, x24, x25, x26⟩ := hq
    have hX1 := ThkL_s (a := 23) (j := p) (v := (k : Int)) hX (by omega)
    have h1 : ∀ j, (j = 4 ∨ (10 ≤ j ∧ j < 15)) → mset X 23 p (k : Int) 17 j = M 7 j := fun j hj => by
      rw [mset_ne _ _ _ (by omega)]
      exact h17 j hj
    have e0 : mset X 23 p (k : Int) 23 p = (k : Int) := mset_eq
    have u22 : mset X 23 p (k : Int) 22 p = M 12 p := by rw [mset_ne _ _ _ (by omega)]; exact x22
    have u24 : mset X 23 p (k : Int) 24 p = M 14 p := by rw [mset_ne _ _ _ (by omega)]; exact x24
    have u25 : mset X 23 p (k : Int) 25 p = M 15 p := by rw [mset_ne _ _ _ (by omega)]; exact x25
    have u26 : mset X 23 p (k : Int) 26 p = M 16 p := by rw [mset_ne _ _ _ (by omega)]; exact x26
    have e4 := h1 4 (by omega)
    have e11 := h1 11 (by omega)
    have e12 := h1 12 (by omega)
    have e13 := h1 13 (by omega)
    have e14 := h1 14 (by omega)
    have x13 := h17 13 (by omega)
    have tp : (M 7 13).toNat = p := by omega
    have hF : FyC (mset X 23 p (k : Int)) 17 := fyC_th hI hX1.1 (str_thL hI hX1 e4) (by omega) (by omega) (fun hw => by
      rw [e13, tp]
      unfold PlO
      omega) (by omega) (by omega)
    obtain ⟨X2, f, a⟩ := fo_ hS (Inv_frC hI hX1.1).2.2.2.2.2.2.2.1 (Or.inr rfl) hX1.2.2.1 (hX1.1 (77 + 2 * s) (by unfold scrC; omega)) hF hs hy
    rw [th_flL hI hX1 e4, e11, e12, e13, e14, tp, e0, u22, u24, u25, u26, hp, show unV M s y (flN M (p : Int) (M 7 11) (M 7 12) (M 12 p) (k : Int) (M 14 p) (M 15 p) (M 16 p) (M 7 14)) = knF M s y p 1 k from rfl] at f
    have h2 : ∀ j, (j = 4 ∨ (10 ≤ j ∧ j < 15)) → X2 17 j = M 7 j := fun j hj => by
      rw [a.1 17 (by omega)]
      exact h1 j hj
    have h3 : X2 22 p = M 12 p ∧ X2 24 p = M 14 p ∧ X2 25 p = M 15 p ∧ X2 26 p = M 16 p := by
      rw [a.1 22 (by omega), a.1 24 (by omega), a.1 25 (by omega), a.1 26 (by omega)]
      exact ⟨u22, u24, u25, u26⟩
    rw [g72_111]
    by_cases hm : knF M s y p 1 k = -1
    · obtain ⟨X3, z, fr⟩ := ih (k + 1) X2 (or32 b (sh32 1 (k : Int))) (by omega) (ThkL_T hX1 a.1) h2 h3
      refine ⟨X3, ?_, fr⟩
      rw [bit_t (c := fun k => knF M s y p 1 k) hm, ← z, nc_1]
      simp (disch := omega) only [g72_0, g72_1, g72_2, g72_3, g72_6, g72_8, g72_10t, g72_10f, g72_13, g72_15, g72_16, g72_17t, g72_17f, g72_20, g72_21, g72_22t, g72_22f, g72_25, g72_27, g72_28, g72_29, g72_32, g72_35, g72_36t, g72_36f, g72_39, g72_41, g72_42, g72_43, g72_44t, g72_44f, g72_47, g72_48, g72_51, g72_52, g72_54, g72_55t, g72_55f, g72_58, g72_59, g72_62, g72_63, g72_64t, g72_64f, g72_67, g72_69, g72_72, g72_73, g72_74t, g72_74f, g72_77, g72_79, g72_82, g72_83, g72_86, g72_89, g72_90, g72_91, g72_93, g72_94, g72_96, g72_97, g72_100, g72_101, g72_104, g72_107, g72_109, g72_113, g72_115t, g72_115f, g72_118, g72_119t, g72_119f, g72_122, g72_123, g72_126, g72_129, g72_130, g72_133, g72_136, g72_138, g72_141, g72_144, g72_145, g72_146t, g72_146f, g72_149, g72_150, g72_153, g72_156, g72_157, g72_160, g72_163, g72_165, g72_168, g72_171, g72_172, g72_173t, g72_173f, g72_176, g72_177, g72_180, g72_183, g72_184, g72_187, g72_190, g72_192, g72_195, g72_198, g72_199, g72_202, g72_204, g72_207, g72_208, g72_209, g72_212, g72_213, g72_214, g72_217, g72_218t, g72_218f, g72_221, g72_223, g72_224, g72_226, g72_227, g72_228, g72_230, g72_233, g72_236, g72_238, cont_1, cont_0, w32_k, put_in, Int.toNat_natCast, P6_1 hS, P17_5 hS, P17_6 hS, P17_9 hS, x13, hp, f]
    · obtain ⟨X3, z, fr⟩ := ih (k + 1) X2 b (by omega) (ThkL_T hX1 a.1) h2 h3
      refine ⟨X3, ?_, fr⟩
      rw [bit_f (c := fun k => knF M s y p 1 k) hm, ← z, nc_1]
      simp (disch := omega) only [g72_0, g72_1, g72_2, g72_3, g72_6, g72_8, g72_10t, g72_10f, g72_13, g72_15, g72_16, g72_17t, g72_17f, g72_20, g72_21, g72_22t, g72_22f, g72_25, g72_27, g72_28, g72_29, g72_32, g72_35, g72_36t, g72_36f, g72_39, g72_41, g72_42, g72_43, g72_44t, g72_44f, g72_47, g72_48, g72_51, g72_52, g72_54, g72_55t, g72_55f, g72_58, g72_59, g72_62, g72_63, g72_64t, g72_64f, g72_67, g72_69, g72_72, g72_73, g72_74t, g72_74f, g72_77, g72_79, g72_82, g72_83, g72_86, g72_89, g72_90, g72_91, g72_93, g72_94, g72_96, g72_97, g72_100, g72_101, g72_104, g72_107, g72_109, g72_113, g72_115t, g72_115f, g72_118, g72_119t, g72_119f, g72_122, g72_123, g72_126, g72_129, g72_130, g72_133, g72_136, g72_138, g72_141, g72_144, g72_145, g72_146t, g72_146f, g72_149, g72_150, g72_153, g72_156, g72_157, g72_160, g72_163, g72_165, g72_168, g72_171, g72_172, g72_173t, g72_173f, g72_176, g72_177, g72_180, g72_183, g72_184, g72_187, g72_190, g72_192, g72_195, g72_198, g72_199, g72_202, g72_204, g72_207, g72_208, g72_209, g72_212, g72_213, g72_214, g72_217, g72_218t, g72_218f, g72_221, g72_223, g72_224, g72_226, g72_227, g72_228, g72_230, g72_233, g72_236, g72_238, cont_1, cont_0, w32_k, put_in, Int.toNat_natCast, P6_1 hS, P17_5 hS, P17_6 hS, P17_9 hS, x13, hp, f]
theorem kinds2_c {n r s y p : Nat} {sc : Nat → Int} {M : Mem} {S : Sh} {l4 l5 : Option AV} (hr : 15 < r) (hS : Std n S) (hI : Inv sc M) (hs : s < 4) (hy : y < 16) (hp : M 7 13 = (p : Int)) : ∀ (rem k : Nat) (X : Mem) (b : Int), k + rem = 9 + 1 → 1 ≤ k → ThkL M X → (∀ j, (j = 4 ∨ (10 ≤ j ∧ j < 15)) → X 17 j = M 7 j) → (X 22 p = M 12 p ∧ X 23 p = M 13 p ∧ X 24 p = M 14 p ∧ X 25 p = M 15 p) → ∃ X', go r 72 111 [some (aR 6), some (aI (s : Int)), some (aI (y : Int)), some (aI 2), l4, l5, some (aI 9), some (aI b), some (aI (k : Int))] [] X S = some (some (aI (bitF (fun k => knF M s y p 2 k) rem k b)), X', S) ∧ FrC M X' := by
  have k6 := K6 hS
  have k7 := K7 hS
  have k17 := K17 hS
  have k22 := K22 hS
  have k23 := K23 hS
  have k26 := K26 hS
  have k40 := K40 hS
  have l22 := L22 hS
  have l23 := L23 hS
  have l26 := L26 hS
  have hP := hI.2.2.1
  have hN := hI.2.2.2.1
  have p3 := hP.2.2.1
  have t5 := hI.2.2.2.2.1.2.2.1
  obtain ⟨_, n2, n3, _, n5, n6, _, n8, n9, _, n11, n12⟩ := hN
  obtain ⟨_, _, _, _, _, v0, v1, v2, v3, _, _, _, _, v4, v5⟩ := hP.2.2.2 p (by omega)
  intro rem
  induction rem with
  | zero =>
    intro k X b hk k1 hX h17 hq
    rw [g72_111]
    simp (disch := omega) only [g72_0, g72_1, g72_2, g72_3, g72_6, g72_8, g72_10t, g72_10f, g72_13, g72_15, g72_16, g72_17t, g72_17f, g72_20, g72_21, g72_22t, g72_22f, g72_25, g72_27, g72_28, g72_29, g72_32, g72_35, g72_36t, g72_36f, g72_39, g72_41, g72_42, g72_43, g72_44t, g72_44f, g72_47, g72_48, g72_51, g72_52, g72_54, g72_55t, g72_55f, g72_58, g72_59, g72_62, g72_63, g72_64t, g72_64f, g72_67, g72_69, g72_72, g72_73, g72_74t, g72_74f, g72_77, g72_79, g72_82, g72_83, g72_86, g72_89, g72_90, g72_91, g72_93, g72_94, g72_96, g72_97, g72_100, g72_101, g72_104, g72_107, g72_109, g72_113, g72_115t, g72_115f, g72_118, g72_119t, g72_119f, g72_122, g72_123, g72_126, g72_129, g72_130, g72_133, g72_136, g72_138, g72_141, g72_144, g72_145, g72_146t, g72_146f, g72_149, g72_150, g72_153, g72_156, g72_157, g72_160, g72_163, g72_165, g72_168, g72_171, g72_172, g72_173t, g72_173f, g72_176, g72_177, g72_180, g72_183, g72_184, g72_187, g72_190, g72_192, g72_195, g72_198, g72_199, g72_202, g72_204, g72_207, g72_208, g72_209, g72_212, g72_213, g72_214, g72_217, g72_218t, g72_218f, g72_221, g72_223, g72_224, g72_226, g72_227, g72_228, g72_230, g72_233, g72_236, g72_238, cont_1, cont_0, w32_k]
    exact ⟨X, rfl, hX.1⟩
  | succ rem ih =>
    intro k X b hk k1 hX h17 hq
    obtain ⟨x22, x23, x24, x25⟩ := hq
    have hX1 := ThkL_s (a := 26) (j := p) (v := (k : Int)) hX (by omega)
    have h1 : ∀ j, (j = 4 ∨ (10 ≤ j ∧ j < 15)) → mset X 26 p (k : Int) 17 j = M 7 j := fun j hj => by
      rw [mset_ne _ _ _ (by omega)]
      exact h17 j hj
    have e0 : mset X 26 p (k : Int) 26 p = (k : Int) := mset_eq
    have u22 : mset X 26 p (k : Int) 22 p = M 12 p := by rw [mset_ne _ _ _ (by omega)]; exact x22
    have u23 : mset X 26 p (k : Int) 23 p = M 13 p := by rw [mset_ne _ _ _ (by omega)]; exact x23
    have u24 : mset X 26 p (k : Int) 24 p = M 14 p := by rw [mset_ne _ _ _ (by omega)]; exact x24
    have u25 : mset X 26 p (k : Int) 25 p = M 15 p := by rw [mset_ne _ _ _ (by omega)]; exact x25
    have e4 := h1 4 (by omega)
    have e11 := h1 11 (by omega)
    have e12 := h1 12 (by omega)
    have e13 := h1 13 (by omega)
    have e14 := h1 14 (by omega)
    have x13 := h17 13 (by omega)
    have tp : (M 7 13).toNat = p := by omega
    have hF : FyC (mset X 26 p (k : Int)) 17 := fyC_th hI hX1.1 (str_thL hI hX1 e4) (by omega) (by omega) (fun hw => by
      rw [e13, tp]
      unfold PlO
      omega) (by omega) (by omega)
    obtain ⟨X2, f, a⟩ := fo_ hS (Inv_frC hI hX1.1).2.2.2.2.2.2.2.1 (Or.inr rfl) hX1.2.2.1 (hX1.1 (77 + 2 * s) (by unfold scrC; omega)) hF hs hy
    rw [th_flL hI hX1 e4, e11, e12, e13, e14, tp, e0, u22, u23, u24, u25, hp, show unV M s y (flN M (p : Int) (M 7 11) (M 7 12) (M 12 p) (M 13 p) (M 14 p) (M 15 p) (k : Int) (M 7 14)) = knF M s y p 2 k from rfl] at f
    have h2 : ∀ j, (j = 4 ∨ (10 ≤ j ∧ j < 15)) → X2 17 j = M 7 j := fun j hj => by
      rw [a.1 17 (by omega)]
      exact h1 j hj
    have h3 : X2 22 p = M 12 p ∧ X2 23 p = M 13 p ∧ X2 24 p = M 14 p ∧ X2 25 p = M 15 p := by
      rw [a.1 22 (by omega), a.1 23 (by omega), a.1 24 (by omega), a.1 25 (by omega)]
      exact ⟨u22, u23, u24, u25⟩
    rw [g72_111]
    by_cases hm : knF M s y p 2 k = -1
    · obtain ⟨X3, z, fr⟩ := ih (k + 1) X2 (or32 b (sh32 1 (k : Int))) (by omega) (by omega) (ThkL_T hX1 a.1) h2 h3
      refine ⟨X3, ?_, fr⟩
      rw [bit_t (c := fun k => knF M s y p 2 k) hm, ← z, nc_1]
      simp (disch := omega) only [g72_0, g72_1, g72_2, g72_3, g72_6, g72_8, g72_10t, g72_10f, g72_13, g72_15, g72_16, g72_17t, g72_17f, g72_20, g72_21, g72_22t, g72_22f, g72_25, g72_27, g72_28, g72_29, g72_32, g72_35, g72_36t, g72_36f, g72_39, g72_41, g72_42, g72_43, g72_44t, g72_44f, g72_47, g72_48, g72_51, g72_52, g72_54, g72_55t, g72_55f, g72_58, g72_59, g72_62, g72_63, g72_64t, g72_64f, g72_67, g72_69, g72_72, g72_73, g72_74t, g72_74f, g72_77, g72_79, g72_82, g72_83, g72_86, g72_89, g72_90, g72_91, g72_93, g72_94, g72_96, g72_97, g72_100, g72_101, g72_104, g72_107, g72_109, g72_113, g72_115t, g72_115f, g72_118, g72_119t, g72_119f, g72_122, g72_123, g72_126, g72_129, g72_130, g72_133, g72_136, g72_138, g72_141, g72_144, g72_145, g72_146t, g72_146f, g72_149, g72_150, g72_153, g72_156, g72_157, g72_160, g72_163, g72_165, g72_168, g72_171, g72_172, g72_173t, g72_173f, g72_176, g72_177, g72_180, g72_183, g72_184, g72_187, g72_190, g72_192, g72_195, g72_198, g72_199, g72_202, g72_204, g72_207, g72_208, g72_209, g72_212, g72_213, g72_214, g72_217, g72_218t, g72_218f, g72_221, g72_223, g72_224, g72_226, g72_227, g72_228, g72_230, g72_233, g72_236, g72_238, cont_1, cont_0, w32_k, put_in, Int.toNat_natCast, P6_1 hS, P17_5 hS, P17_6 hS, P17_9 hS, x13, hp, f]
    · obtain ⟨X3, z, fr⟩ := ih (k + 1) X2 b (by omega) (by omega) (ThkL_T hX1 a.1) h2 h3
      refine ⟨X3, ?_, fr⟩
      rw [bit_f (c := fun k => knF M s y p 2 k) hm, ← z, nc_1]
      simp (disch := omega) only [g72_0, g72_1, g72_2, g72_3, g72_6, g72_8, g72_10t, g72_10f, g72_13, g72_15, g72_16, g72_17t, g72_17f, g72_20, g72_21, g72_22t, g72_22f, g72_25, g72_27, g72_28, g72_29, g72_32, g72_35, g72_36t, g72_36f, g72_39, g72_41, g72_42, g72_43, g72_44t, g72_44f, g72_47, g72_48, g72_51, g72_52, g72_54, g72_55t, g72_55f, g72_58, g72_59, g72_62, g72_63, g72_64t, g72_64f, g72_67, g72_69, g72_72, g72_73, g72_74t, g72_74f, g72_77, g72_79, g72_82, g72_83, g72_86, g72_89, g72_90, g72_91, g72_93, g72_94, g72_96, g72_97, g72_100, g72_101, g72_104, g72_107, g72_109, g72_113, g72_115t, g72_115f, g72_118, g72_119t, g72_119f, g72_122, g72_123, g72_126, g72_129, g72_130, g72_133, g72_136, g72_138, g72_141, g72_144, g72_145, g72_146t, g72_146f, g72_149, g72_150, g72_153, g72_156, g72_157, g72_160, g72_163, g72_165, g72_168, g72_171, g72_172, g72_173t, g72_173f, g72_176, g72_177, g72_180, g72_183, g72_184, g72_187, g72_190, g72_192, g72_195, g72_198, g72_199, g72_202, g72_204, g72_207, g72_208, g72_209, g72_212, g72_213, g72_214, g72_217, g72_218t, g72_218f, g72_221, g72_223, g72_224, g72_226, g72_227, g72_228, g72_230, g72_233, g72_236, g72_238, cont_1, cont_0, w32_k, put_in, Int.toNat_natCast, P6_1 hS, P17_5 hS, P17_6 hS, P17_9 hS, x13, hp, f]
theorem kinds3_c {n r s y p : Nat} {sc : Nat → Int} {M : Mem} {S : Sh} {l4 l5 : Option AV} (hr : 15 < r) (hS : Std n S) (hI : Inv sc M) (hs : s < 4) (hy : y < 16) : ∀ (rem k : Nat) (X : Mem) (b : Int), ((k + rem : Nat) : Int) = M 7 10 → Thk M X → (∀ j, j ≠ 13 → (j = 4 ∨ (10 ≤ j ∧ j < 15)) → X 17 j = M 7 j) → ∃ X', go r 72 111 [some (aR 6), some (aI (s : Int)), some (aI (y : Int)), some (aI 3), l4, l5, some (aI (M 7 10 - 1)), some (aI b), some (aI (k : Int))] [] X S = some (some (aI (bitF (fun k => knF M s y p 3 k) rem k b)), X', S) ∧ FrC M X' := by
  have k6 := K6 hS
  have k7 := K7 hS
  have k17 := K17 hS
  have k22 := K22 hS
  have k23 := K23 hS
  have k26 := K26 hS
  have k40 := K40 hS
  have l22 := L22 hS
  have l23 := L23 hS
  have l26 := L26 hS
  have hP := hI.2.2.1
  have hN := hI.2.2.2.1
  have p3 := hP.2.2.1
  have t5 := hI.2.2.2.2.1.2.2.1
  obtain ⟨_, n2, n3, _, n5, n6, _, n8, n9, _, n11, n12⟩ := hN
  intro rem
  induction rem with
  | zero =>
    intro k X b hk hX h17
    rw [g72_111]
    simp (disch := omega) only [g72_0, g72_1, g72_2, g72_3, g72_6, g72_8, g72_10t, g72_10f, g72_13, g72_15, g72_16, g72_17t, g72_17f, g72_20, g72_21, g72_22t, g72_22f, g72_25, g72_27, g72_28, g72_29, g72_32, g72_35, g72_36t, g72_36f, g72_39, g72_41, g72_42, g72_43, g72_44t, g72_44f, g72_47, g72_48, g72_51, g72_52, g72_54, g72_55t, g72_55f, g72_58, g72_59, g72_62, g72_63, g72_64t, g72_64f, g72_67, g72_69, g72_72, g72_73, g72_74t, g72_74f, g72_77, g72_79, g72_82, g72_83, g72_86, g72_89, g72_90, g72_91, g72_93, g72_94, g72_96, g72_97, g72_100, g72_101, g72_104, g72_107, g72_109, g72_113, g72_115t, g72_115f, g72_118, g72_119t, g72_119f, g72_122, g72_123, g72_126, g72_129, g72_130, g72_133, g72_136, g72_138, g72_141, g72_144, g72_145, g72_146t, g72_146f, g72_149, g72_150, g72_153, g72_156, g72_157, g72_160, g72_163, g72_165, g72_168, g72_171, g72_172, g72_173t, g72_173f, g72_176, g72_177, g72_180, g72_183, g72_184, g72_187, g72_190, g72_192, g72_195, g72_198, g72_199, g72_202, g72_204, g72_207, g72_208, g72_209, g72_212, g72_213, g72_214, g72_217, g72_218t, g72_218f, g72_221, g72_223, g72_224, g72_226, g72_227, g72_228, g72_230, g72_233, g72_236, g72_238, cont_1, cont_0, w32_k]
    exact ⟨X, rfl, hX.1⟩
  | succ rem ih =>
    intro k X b hk hX h17
    have hX1 := Thk_s (j := 13) (v := (k : Int)) hX
    have h1 : ∀ j, j ≠ 13 → (j = 4 ∨ (10 ≤ j ∧ j < 15)) → mset X 17 13 (k : Int) 17 j = M 7 j := fun j hj hj2 => by
      rw [mset_nk _ hj]
      exact h17 j hj hj2
    have e0 : mset X 17 13 (k : Int) 17 13 = (k : Int) := mset_eq
    have e4 := h1 4 (by omega) (by omega)
    have e11 := h1 11 (by omega) (by omega)
    have e12 := h1 12 (by omega) (by omega)
    have e14 := h1 14 (by omega) (by omega)
    have hF : FyC (mset X 17 13 (k : Int)) 17 := fyC_th hI hX1.1 (str_th hI hX1 e4) (by omega) (by omega) (fun hw => pl_th hI hX1 (by omega)) (by omega) (by omega)
    obtain ⟨X2, f, a⟩ := fo_ hS (Inv_frC hI hX1.1).2.2.2.2.2.2.2.1 (Or.inr rfl) hX1.2.2.1 (hX1.1 (77 + 2 * s) (by unfold scrC; omega)) hF hs hy
    rw [th_W hI hX1 e4 (by omega), e0, e11, e12, e14, show unV M s y (flW M (k : Int) (M 7 11) (M 7 12) (M 7 14)) = knF M s y p 3 k from rfl] at f
    have h2 : ∀ j, j ≠ 13 → (j = 4 ∨ (10 ≤ j ∧ j < 15)) → X2 17 j = M 7 j := fun j hj hj2 => by
      rw [a.1 17 (by omega)]
      exact h1 j hj hj2
    rw [g72_111]
    by_cases hm : knF M s y p 3 k = -1
    · obtain ⟨X3, z, fr⟩ := ih (k + 1) X2 (or32 b (sh32 1 (k : Int))) (by omega) (Thk_T hX1 a.1) h2
      refine ⟨X3, ?_, fr⟩
      rw [bit_t (c := fun k => knF M s y p 3 k) hm, ← z, nc_1]
      simp (disch := omega) only [g72_0, g72_1, g72_2, g72_3, g72_6, g72_8, g72_10t, g72_10f, g72_13, g72_15, g72_16, g72_17t, g72_17f, g72_20, g72_21, g72_22t, g72_22f, g72_25, g72_27, g72_28, g72_29, g72_32, g72_35, g72_36t, g72_36f, g72_39, g72_41, g72_42, g72_43, g72_44t, g72_44f, g72_47, g72_48, g72_51, g72_52, g72_54, g72_55t, g72_55f, g72_58, g72_59, g72_62, g72_63, g72_64t, g72_64f, g72_67, g72_69, g72_72, g72_73, g72_74t, g72_74f, g72_77, g72_79, g72_82, g72_83, g72_86, g72_89, g72_90, g72_91, g72_93, g72_94, g72_96, g72_97, g72_100, g72_101, g72_104, g72_107, g72_109, g72_113, g72_115t, g72_115f, g72_118, g72_119t, g72_119f, g72_122, g72_123, g72_126, g72_129, g72_130, g72_133, g72_136, g72_138, g72_141, g72_144, g72_145, g72_146t, g72_146f, g72_149, g72_150, g72_153, g72_156, g72_157, g72_160, g72_163, g72_165, g72_168, g72_171, g72_172, g72_173t, g72_173f, g72_176, g72_177, g72_180, g72_183, g72_184, g72_187, g72_190, g72_192, g72_195, g72_198, g72_199, g72_202, g72_204, g72_207, g72_208, g72_209, g72_212, g72_213, g72_214, g72_217, g72_218t, g72_218f, g72_221, g72_223, g72_224, g72_226, g72_227, g72_228, g72_230, g72_233, g72_236, g72_238, cont_1, cont_0, w32_k, P6_1 hS, f]
    · obtain ⟨X3, z, fr⟩ := ih (k + 1) X2 b (by omega) (Thk_T hX1 a.1) h2
      refine ⟨X3, ?_, fr⟩
      rw [bit_f (c := fun k => knF M s y p 3 k) hm, ← z, nc_1]
      simp (disch := omega) only [g72_0, g72_1, g72_2, g72_3, g72_6, g72_8, g72_10t, g72_10f, g72_13, g72_15, g72_16, g72_17t, g72_17f, g72_20, g72_21, g72_22t, g72_22f, g72_25, g72_27, g72_28, g72_29, g72_32, g72_35, g72_36t, g72_36f, g72_39, g72_41, g72_42, g72_43, g72_44t, g72_44f, g72_47, g72_48, g72_51, g72_52, g72_54, g72_55t, g72_55f, g72_58, g72_59, g72_62, g72_63, g72_64t, g72_64f, g72_67, g72_69, g72_72, g72_73, g72_74t, g72_74f, g72_77, g72_79, g72_82, g72_83, g72_86, g72_89, g72_90, g72_91, g72_93, g72_94, g72_96, g72_97, g72_100, g72_101, g72_104, g72_107, g72_109, g72_113, g72_115t, g72_115f, g72_118, g72_119t, g72_119f, g72_122, g72_123, g72_126, g72_129, g72_130, g72_133, g72_136, g72_138, g72_141, g72_144, g72_145, g72_146t, g72_146f, g72_149, g72_150, g72_153, g72_156, g72_157, g72_160, g72_163, g72_165, g72_168, g72_171, g72_172, g72_173t, g72_173f, g72_176, g72_177, g72_180, g72_183, g72_184, g72_187, g72_190, g72_192, g72_195, g72_198, g72_199, g72_202, g72_204, g72_207, g72_208, g72_209, g72_212, g72_213, g72_214, g72_217, g72_218t, g72_218f, g72_221, g72_223, g72_224, g72_226, g72_227, g72_228, g72_230, g72_233, g72_236, g72_238, cont_1, cont_0, w32_k, P6_1 hS, f]
theorem kinds0_m {n r s y p : Nat} {sc : Nat → Int} {M : Mem} {S : Sh} {l4 : Option AV} (hr : 18 < r) (hS : Std n S) (hI : Inv sc M) (hs : s < 4) (hy : y < 16) (hp : M 84 4 = (p : Int)) : ∀ (rem k : Nat) (Y : Mem) (b : Int), k + rem = 6 → r32 b → FrK p M Y → ∃ Y', go r 164 91 [some (aR 84), some (aI (s : Int)), some (aI (y : Int)), some (aI 0), l4, some (aI (p : Int)), some (aI (M 87 p)), some (aI (M 88 p)), some (aI (M 89 (3 * p + 2))), some (aI b), some (aI (k : Int))] [] Y S = some (some (aI (bitF (fun k => knF M s y p 0 k) rem k b)), Y', S) ∧ FrM M Y' := by
  have k84 := K84 hS
  have k87 := K87 hS
  have k88 := K88 hS
  have k89 := K89 hS
  have l87 := L87 hS
  have l88 := L88 hS
  have l89 := L89 hS
  have hP := hI.2.2.1
  have hN := hI.2.2.2.1
  have p1 := hP.1
  have p3 := hP.2.2.1
  have t1 := hI.2.2.2.2.1.1
  have t5 := hI.2.2.2.2.1.2.2.1
  obtain ⟨n1, n2, n3, n4, n5, n6, n7, n8, n9, n10, n11, n12⟩ := hN
  obtain ⟨w0, w1, w2, w3, w4, v0, v1, v2, v3, _, _, _, _, v4, v5⟩ := hP.2.2.2 p (by omega)
  have i1 : w32 (3 * (p : Int)) = 3 * (p : Int) := w32_o (by omega) (by omega)
  have i2 : w32 (3 * (p : Int) + 2) = 3 * (p : Int) + 2 := w32_o (by omega) (by omega)
  have i3 : (3 * (p : Int) + 2).toNat = 3 * p + 2 := by omega
  intro rem
  induction rem with
  | zero =>
    intro k Y b hk hb hY
    have y5 : Y 84 5 = M 84 5 := hY.2.2.2 5 (by omega) (by omega)
    rw [g164_91]
    simp (disch := omega) only [g164_0, g164_1, g164_2, g164_3, g164_6, g164_8, g164_10t, g164_10f, g164_13, g164_15, g164_16, g164_17, g164_18, g164_19, g164_22t, g164_22f, g164_25, g164_27, g164_28, g164_29, g164_32, g164_33t, g164_33f, g164_36, g164_38, g164_39, g164_40, g164_43, g164_45, g164_46, g164_49, g164_51, g164_52, g164_54, g164_55, g164_58, g164_60, g164_61, g164_63, g164_64, g164_67, g164_68, g164_70, g164_71, g164_72, g164_73, g164_74, g164_76, g164_77, g164_79, g164_80, g164_81t, g164_81f, g164_84, g164_85, g164_88, g164_89, g164_93, g164_94t, g164_94f, g164_97, g164_99, g164_102, g164_103, g164_104t, g164_104f, g164_107, g164_108, g164_111, g164_114, g164_116t, g164_116f, g164_119, g164_120, g164_123, g164_125, g164_126t, g164_126f, g164_129, g164_131, g164_134, g164_136, g164_137, g164_138, g164_141, g164_143, g164_144, g164_145t, g164_145f, g164_148, g164_150, g164_153, g164_155, g164_156, g164_157, g164_160, g164_161, g164_163, g164_164, g164_165, g164_166, g164_167, g164_168t, g164_168f, g164_171, g164_173, g164_176, g164_178, g164_179, g164_180, g164_181, g164_182t, g164_182f, g164_185, g164_187, g164_190, g164_192, g164_195, g164_197, g164_198, g164_199, g164_200, g164_203, g164_204t, g164_204f, g164_207, g164_208, g164_210, g164_211, g164_214, g164_215, g164_216, g164_218, g164_221, g164_224, g164_225, g164_228, g164_230, g164_232, g164_233, g164_234, g164_237, g164_239, g164_241, g164_242, g164_243, g164_246, g164_247, g164_249, g164_250, g164_251, g164_252, g164_254, g164_255, g164_256, g164_258, g164_261, g164_263, cont_1, cont_0, w32_k, P84_6 hS, P84_7 hS, P84_8 hS, mset_ne, y5, i1, i2, i3, Int.toNat_natCast]
    exact ⟨_, rfl, FrK_end hY hp⟩
  | succ rem ih =>
    intro k Y b hk hb hY
    have y5 : Y 84 5 = M 84 5 := hY.2.2.2 5 (by omega) (by omega)
    have hY1 : FrK p M (setK p Y (k : Int) (M 88 p) (M 89 (3 * p + 2)) (p : Int)) := FrK_s hY
    have h1 := hY1.2.2.2
    have e9 := h1 9 (by omega) (by omega)
    have e43 := h1 43 (by omega) (by omega)
    have e2 := h1 2 (by omega) (by omega)
    have e3 := h1 3 (by omega) (by omega)
    have e17 := h1 17 (by omega) (by omega)
    have u87 : (setK p Y (k : Int) (M 88 p) (M 89 (3 * p + 2)) (p : Int)) 87 p = (k : Int) := by unfold setK; simp (disch := omega) only [mset_ne, mset_eq]
    have u88 : (setK p Y (k : Int) (M 88 p) (M 89 (3 * p + 2)) (p : Int)) 88 p = M 88 p := by unfold setK; simp (disch := omega) only [mset_ne, mset_eq]
    have u89 : (setK p Y (k : Int) (M 88 p) (M 89 (3 * p + 2)) (p : Int)) 89 (3 * p) = M 89 (3 * p) := hY1.2.2.1 _ (by omega)
    have u891 : (setK p Y (k : Int) (M 88 p) (M 89 (3 * p + 2)) (p : Int)) 89 (3 * p + 1) = M 89 (3 * p + 1) := hY1.2.2.1 _ (by omega)
    have u892 : (setK p Y (k : Int) (M 88 p) (M 89 (3 * p + 2)) (p : Int)) 89 (3 * p + 2) = M 89 (3 * p + 2) := by unfold setK; simp (disch := omega) only [mset_ne, mset_eq]
    have u4 : (setK p Y (k : Int) (M 88 p) (M 89 (3 * p + 2)) (p : Int)) 84 4 = (p : Int) := mset_eq
    have tp : ((p : Int)).toNat = p := by omega
    have r90 : (setK p Y (k : Int) (M 88 p) (M 89 (3 * p + 2)) (p : Int)) 90 = M 90 := hY1.1 90 (by omega) (by omega) (by omega) (by omega) (by omega)
    have r91 : (setK p Y (k : Int) (M 88 p) (M 89 (3 * p + 2)) (p : Int)) 91 = M 91 := hY1.1 91 (by omega) (by omega) (by omega) (by omega) (by omega)
    have hF : FyM (setK p Y (k : Int) (M 88 p) (M 89 (3 * p + 2)) (p : Int)) := fyM_mk hI (hY1.1 93 (by omega) (by omega) (by omega) (by omega) (by omega)) (hY1.1 94 (by omega) (by omega) (by omega) (by omega) (by omega)) (by
      rw [e9, r90, r91]
      exact (fyM_of hI).1.1) (by
      rw [hY1.1 86 (by omega) (by omega) (by omega) (by omega) (by omega)]
      exact (fyM_of hI).1.2.1) (by omega) (by omega) (fun _ => by
      rw [u4, tp, u87, u88, u892]
      omega) (by omega) (by omega)
    obtain ⟨Y2, f, a⟩ := ul_ (M := M) hS (fun q hq => by
      rw [hY1.1 86 (by omega) (by omega) (by omega) (by omega) (by omega)]
      exact (hI.1 q hq).2.1) (fun q hq => by
      rw [hY1.1 100 (by omega) (by omega) (by omega) (by omega) (by omega)]
      exact (hI.2.2.2.2.2.2.1 s hs).2.2.2.2.2.2 q (by omega)) hF hs hy
    rw [md_fl (M := M) ⟨fun q hq => by
      rw [hY1.1 85 (by omega) (by omega) (by omega) (by omega) (by omega)]
      exact (hI.1 q hq).1, hY1.1 93 (by omega) (by omega) (by omega) (by omega) (by omega), hY1.1 94 (by omega) (by omega) (by omega) (by omega) (by omega)⟩ (e9.trans hI.2.1.1) (e43.trans hI.2.2.2.2.2.2.2.1.2.1) (fun q hq => by
      rw [r90, r91]
      exact ⟨(hI.2.1.2.2.2 q hq).1, (hI.2.1.2.2.2 q hq).2.1⟩), u4, tp, u87, u88, u89, u891, u892, e2, e3, e17, n1, n4, n10, w1, w2, w3, w4, show unV M s y (flN M (p : Int) (M 7 11) (M 7 12) (k : Int) (M 13 p) (M 14 p) (M 15 p) (M 16 p) (M 7 14)) = knF M s y p 0 k from rfl] at f
    unfold setK at f
    rw [g164_91]
    by_cases hm : knF M s y p 0 k = -1
    · obtain ⟨Y3, z, fr⟩ := ih (k + 1) Y2 (or32 b (sh32 1 (k : Int))) (by omega) (or32_r _ _) (FrK_N hY1 a.1)
      refine ⟨Y3, ?_, fr⟩
      rw [bit_t (c := fun k => knF M s y p 0 k) hm, ← z, nc_1]
      simp (disch := omega) only [g164_0, g164_1, g164_2, g164_3, g164_6, g164_8, g164_10t, g164_10f, g164_13, g164_15, g164_16, g164_17, g164_18, g164_19, g164_22t, g164_22f, g164_25, g164_27, g164_28, g164_29, g164_32, g164_33t, g164_33f, g164_36, g164_38, g164_39, g164_40, g164_43, g164_45, g164_46, g164_49, g164_51, g164_52, g164_54, g164_55, g164_58, g164_60, g164_61, g164_63, g164_64, g164_67, g164_68, g164_70, g164_71, g164_72, g164_73, g164_74, g164_76, g164_77, g164_79, g164_80, g164_81t, g164_81f, g164_84, g164_85, g164_88, g164_89, g164_93, g164_94t, g164_94f, g164_97, g164_99, g164_102, g164_103, g164_104t, g164_104f, g164_107, g164_108, g164_111, g164_114, g164_116t, g164_116f, g164_119, g164_120, g164_123, g164_125, g164_126t, g164_126f, g164_129, g164_131, g164_134, g164_136, g164_137, g164_138, g164_141, g164_143, g164_144, g164_145t, g164_145f, g164_148, g164_150, g164_153, g164_155, g164_156, g164_157, g164_160, g164_161, g164_163, g164_164, g164_165, g164_166, g164_167, g164_168t, g164_168f, g164_171, g164_173, g164_176, g164_178, g164_179, g164_180, g164_181, g164_182t, g164_182f, g164_185, g164_187, g164_190, g164_192, g164_195, g164_197, g164_198, g164_199, g164_200, g164_203, g164_204t, g164_204f, g164_207, g164_208, g164_210, g164_211, g164_214, g164_215, g164_216, g164_218, g164_221, g164_224, g164_225, g164_228, g164_230, g164_232, g164_233, g164_234, g164_237, g164_239, g164_241, g164_242, g164_243, g164_246, g164_247, g164_249, g164_250, g164_251, g164_252, g164_254, g164_255, g164_256, g164_258, g164_261, g164_263, cont_1, cont_0, w32_k, P84_6 hS, P84_7 hS, P84_8 hS, y5, i1, i2, i3, Int.toNat_natCast, f, mset_ne, w0, w1, w4]
    · obtain ⟨Y3, z, fr⟩ := ih (k + 1) Y2 b (by omega) hb (FrK_N hY1 a.1)
      refine ⟨Y3, ?_, fr⟩
      rw [bit_f (c := fun k => knF M s y p 0 k) hm, ← z, nc_1]
      simp (disch := omega) only [g164_0, g164_1, g164_2, g164_3, g164_6, g164_8, g164_10t, g164_10f, g164_13, g164_15, g164_16, g164_17, g164_18, g164_19, g164_22t, g164_22f, g164_25, g164_27, g164_28, g164_29, g164_32, g164_33t, g164_33f, g164_36, g164_38, g164_39, g164_40, g164_43, g164_45, g164_46, g164_49, g164_51, g164_52, g164_54, g164_55, g164_58, g164_60, g164_61, g164_63, g164_64, g164_67, g164_68, g164_70, g164_71, g164_72, g164_73, g164_74, g164_76, g164_77, g164_79, g164_80, g164_81t, g164_81f, g164_84, g164_85, g164_88, g164_89, g164_93, g164_94t, g164_94f, g164_97, g164_99, g164_102, g164_103, g164_104t, g164_104f, g164_107, g164_108, g164_111, g164_114, g164_116t, g164_116f, g164_119, g164_120, g164_123, g164_125, g164_126t, g164_126f, g164_129, g164_131, g164_134, g164_136, g164_137, g164_138, g164_141, g164_143, g164_144, g164_145t, g164_145f, g164_148, g164_150, g164_153, g164_155, g164_156, g164_157, g164_160, g164_161, g164_163, g164_164, g164_165, g164_166, g164_167, g164_168t, g164_168f, g164_171, g164_173, g164_176, g164_178, g164_179, g164_180, g164_181, g164_182t, g164_182f, g164_185, g164_187, g164_190, g164_192, g164_195, g164_197, g164_198, g164_199, g164_200, g164_203, g164_204t, g164_204f, g164_207, g164_208, g164_210, g164_211, g164_214, g164_215, g164_216, g164_218, g164_221, g164_224, g164_225, g164_228, g164_230, g164_232, g164_233, g164_234, g164_237, g164_239, g164_241, g164_242, g164_243, g164_246, g164_247, g164_249, g164_250, g164_251, g164_252, g164_254, g164_255, g164_256, g164_258, g164_261, g164_263, cont_1, cont_0, w32_k, P84_6 hS, P84_7 hS, P84_8 hS, y5, i1, i2, i3, Int.toNat_natCast, f, or32_0 hb, mset_ne, w0, w1, w4]
theorem kinds1_m {n r s y p : Nat} {sc : Nat → Int} {M : Mem} {S : Sh} {l4 : Option AV} (hr : 18 < r) (hS : Std n S) (hI : Inv sc M) (hs : s < 4) (hy : y < 16) (hp : M 84 4 = (p : Int)) : ∀ (rem k : Nat) (Y : Mem) (b : Int), k + rem = 10 → r32 b → FrK p M Y → ∃ Y', go r 164 91 [some (aR 84), some (aI (s : Int)), some (aI (y : Int)), some (aI 1), l4, some (aI (p : Int)), some (aI (M 87 p)), some (aI (M 88 p)), some (aI (M 89 (3 * p + 2))), some (aI b), some (aI (k : Int))] [] Y S = some (some (aI (bitF (fun k => knF M s y p 1 k) rem k b)), Y', S) ∧ FrM M Y' := by
  have k84 := K84 hS
  have k87 := K87 hS
  have k88 := K88 hS
  have k89 := K89 hS
  have l87 := L87 hS
  have l88 := L88 hS
  have l89 := L89 hS
  have hP := hI.2.2.1
  have hN := hI.2.2.2.1
  have p1 := hP.1
  have p3 := hP.2.2.1
  have t1 := hI.2.2.2.2.1.1
  have t5 := hI.2.2.2.2.1.2.2.1
  obtain ⟨n1, n2, n3, n4, n5, n6, n7, n8, n9, n10, n11, n12⟩ := hN
  obtain ⟨w0, w1, w2, w3, w4, v0, v1, v2, v3, _, _, _, _, v4, v5⟩ := hP.2.2.2 p (by omega)
  have i1 : w32 (3 * (p : Int)) = 3 * (p : Int) := w32_o (by omega) (by omega)
  have i2 : w32 (3 * (p : Int) + 2) = 3 * (p : Int) + 2 := w32_o (by omega) (by omega)
  have i3 : (3 * (p : Int) + 2).toNat = 3 * p + 2 := by omega
  intro rem
  induction rem with
  | zero =>
    intro k Y b hk hb hY
    have y5 : Y 84 5 = M 84 5 := hY.2.2.2 5 (by omega) (by omega)
    rw [g164_91]
    simp (disch := omega) only [g164_0, g164_1, g164_2, g164_3, g164_6, g164_8, g164_10t, g164_10f, g164_13, g164_15, g164_16, g164_17, g164_18, g164_19, g164_22t, g164_22f, g164_25, g164_27, g164_28, g164_29, g164_32, g164_33t, g164_33f, g164_36, g164_38, g164_39, g164_40, g164_43, g164_45, g164_46, g164_49, g164_51, g164_52, g164_54, g164_55, g164_58, g164_60, g164_61, g164_63, g164_64, g164_67, g164_68, g164_70, g164_71, g164_72, g164_73, g164_74, g164_76, g164_77, g164_79, g164_80, g164_81t, g164_81f, g164_84, g164_85, g164_88, g164_89, g164_93, g164_94t, g164_94f, g164_97, g164_99, g164_102, g164_103, g164_104t, g164_104f, g164_107, g164_108, g164_111, g164_114, g164_116t, g164_116f, g164_119, g164_120, g164_123, g164_125, g164_126t, g164_126f, g164_129, g164_131, g164_134, g164_136, g164_137, g164_138, g164_141, g164_143, g164_144, g164_145t, g164_145f, g164_148, g164_150, g164_153, g164_155, g164_156, g164_157, g164_160, g164_161, g164_163, g164_164, g164_165, g164_166, g164_167, g164_168t, g164_168f, g164_171, g164_173, g164_176, g164_178, g164_179, g164_180, g164_181, g164_182t, g164_182f, g164_185, g164_187, g164_190, g164_192, g164_195, g164_197, g164_198, g164_199, g164_200, g164_203, g164_204t, g164_204f, g164_207, g164_208, g164_210, g164_211, g164_214, g164_215, g164_216, g164_218, g164_221, g164_224, g164_225, g164_228, g164_230, g164_232, g164_233, g164_234, g164_237, g164_239, g164_241, g164_242, g164_243, g164_246, g164_247, g164_249, g164_250, g164_251, g164_252, g164_254, g164_255, g164_256, g164_258, g164_261, g164_263, cont_1, cont_0, w32_k, P84_6 hS, P84_7 hS, P84_8 hS, mset_ne, y5, i1, i2, i3, Int.toNat_natCast]
    exact ⟨_, rfl, FrK_end hY hp⟩
  | succ rem ih =>
    intro k Y b hk hb hY
    have y5 : Y 84 5 = M 84 5 := hY.2.2.2 5 (by omega) (by omega)
    have hY1 : FrK p M (setK p Y (M 87 p) (k : Int) (M 89 (3 * p + 2)) (p : Int)) := FrK_s hY
    have h1 := hY1.2.2.2
    have e9 := h1 9 (by omega) (by omega)
    have e43 := h1 43 (by omega) (by omega)
    have e2 := h1 2 (by omega) (by omega)
    have e3 := h1 3 (by omega) (by omega)
    have e17 := h1 17 (by omega) (by omega)
    have u87 : (setK p Y (M 87 p) (k : Int) (M 89 (3 * p + 2)) (p : Int)) 87 p = M 87 p := by unfold setK; simp (disch := omega) only [mset_ne, mset_eq]
    have u88 : (setK p Y (M 87 p) (k : Int) (M 89 (3 * p + 2)) (p : Int)) 88 p = (k : Int) := by unfold setK; simp (disch := omega) only [mset_ne, mset_eq]
    have u89 : (setK p Y (M 87 p) (k : Int) (M 89 (3 * p + 2)) (p : Int)) 89 (3 * p) = M 89 (3 * p) := hY1.2.2.1 _ (by omega)
    have u891 : (setK p Y (M 87 p) (k : Int) (M 89 (3 * p + 2)) (p : Int)) 89 (3 * p + 1) = M 89 (3 * p + 1) := hY1.2.2.1 _ (by omega)
    have u892 : (setK p Y (M 87 p) (k : Int) (M 89 (3 * p + 2)) (p : Int)) 89 (3 * p + 2) = M 89 (3 * p + 2) := by unfold setK; simp (disch := omega) only [mset_ne, mset_eq]
    have u4 : (setK p Y (M 87 p) (k : Int) (M 89 (3 * p + 2)) (p : Int)) 84 4 = (p : Int) := mset_eq
    have tp : ((p : Int)).toNat = p := by omega
    have r90 : (setK p Y (M 87 p) (k : Int) (M 89 (3 * p + 2)) (p : Int)) 90 = M 90 := hY1.1 90 (by omega) (by omega) (by omega) (by omega) (by omega)
    have r91 : (setK p Y (M 87 p) (k : Int) (M 89 (3 * p + 2)) (p : Int)) 91 = M 91 := hY1.1 91 (by omega) (by omega) (by omega) (by omega) (by omega)
    have hF : FyM (setK p Y (M 87 p) (k : Int) (M 89 (3 * p + 2)) (p : Int)) := fyM_mk hI (hY1.1 93 (by omega) (by omega) (by omega) (by omega) (by omega)) (hY1.1 94 (by omega) (by omega) (by omega) (by omega) (by omega)) (by
      rw [e9, r90, r91]
      exact (fyM_of hI).1.1) (by
      rw [hY1.1 86 (by omega) (by omega) (by omega) (by omega) (by omega)]
      exact (fyM_of hI).1.2.1) (by omega) (by omega) (fun _ => by
      rw [u4, tp, u87, u88, u892]
      omega) (by omega) (by omega)
    obtain ⟨Y2, f, a⟩ := ul_ (M := M) hS (fun q hq => by
      rw [hY1.1 86 (by omega) (by omega) (by omega) (by omega) (by omega)]
      exact (hI.1 q hq).2.1) (fun q hq => by
      rw [hY1.1 100 (by omega) (by omega) (by omega) (by omega) (by omega)]
      exact (hI.2.2.2.2.2.2.1 s hs).2.2.2.2.2.2 q (by omega)) hF hs hy
    rw [md_fl (M := M) ⟨fun q hq => by
      rw [hY1.1 85 (by omega) (by omega) (by omega) (by omega) (by omega)]
      exact (hI.1 q hq).1, hY1.1 93 (by omega) (by omega) (by omega) (by omega) (by omega), hY1.1 94 (by omega) (by omega) (by omega) (by omega) (by omega)⟩ (e9.trans hI.2.1.1) (e43.trans hI.2.2.2.2.2.2.2.1.2.1) (fun q hq => by
      rw [r90, r91]
      exact ⟨(hI.2.1.2.2.2 q hq).1, (hI.2.1.2.2.2 q hq).2.1⟩), u4, tp, u87, u88, u89, u891, u892, e2, e3, e17, n1, n4, n10, w0, w2, w3, w4, show unV M s y (flN M (p : Int) (M 7 11) (M 7 12) (M 12 p) (k : Int) (M 14 p) (M 15 p) (M 16 p) (M 7 14)) = knF M s y p 1 k from rfl] at f
    unfold setK at f
    rw [g164_91]
    by_cases hm : knF M s y p 1 k = -1
    · obtain ⟨Y3, z, fr⟩ := ih (k + 1) Y2 (or32 b (sh32 1 (k : Int))) (by omega) (or32_r _ _) (FrK_N hY1 a.1)
      refine ⟨Y3, ?_, fr⟩
      rw [bit_t (c := fun k => knF M s y p 1 k) hm, ← z, nc_1]
      simp (disch := omega) only [g164_0, g164_1, g164_2, g164_3, g164_6, g164_8, g164_10t, g164_10f, g164_13, g164_15, g164_16, g164_17, g164_18, g164_19, g164_22t, g164_22f, g164_25, g164_27, g164_28, g164_29, g164_32, g164_33t, g164_33f, g164_36, g164_38, g164_39, g164_40, g164_43, g164_45, g164_46, g164_49, g164_51, g164_52, g164_54, g164_55, g164_58, g164_60, g164_61, g164_63, g164_64, g164_67, g164_68, g164_70, g164_71, g164_72, g164_73, g164_74, g164_76, g164_77, g164_79, g164_80, g164_81t, g164_81f, g164_84, g164_85, g164_88, g164_89, g164_93, g164_94t, g164_94f, g164_97, g164_99, g164_102, g164_103, g164_104t, g164_104f, g164_107, g164_108, g164_111, g164_114, g164_116t, g164_116f, g164_119, g164_120, g164_123, g164_125, g164_126t, g164_126f, g164_129, g164_131, g164_134, g164_136, g164_137, g164_138, g164_141, g164_143, g164_144, g164_145t, g164_145f, g164_148, g164_150, g164_153, g164_155, g164_156, g164_157, g164_160, g164_161, g164_163, g164_164, g164_165, g164_166, g164_167, g164_168t, g164_168f, g164_171, g164_173, g164_176, g164_178, g164_179, g164_180, g164_181, g164_182t, g164_182f, g164_185, g164_187, g164_190, g164_192, g164_195, g164_197, g164_198, g164_199, g164_200, g164_203, g164_204t, g164_204f, g164_207, g164_208, g164_210, g164_211, g164_214, g164_215, g164_216, g164_218, g164_221, g164_224, g164_225, g164_228, g164_230, g164_232, g164_233, g164_234, g164_237, g164_239, g164_241, g164_242, g164_243, g164_246, g164_247, g164_249, g164_250, g164_251, g164_252, g164_254, g164_255, g164_256, g164_258, g164_261, g164_263, cont_1, cont_0, w32_k, P84_6 hS, P84_7 hS, P84_8 hS, y5, i1, i2, i3, Int.toNat_natCast, f, mset_ne, w0, w1, w4]
    · obtain ⟨Y3, z, fr⟩ := ih (k + 1) Y2 b (by omega) hb (FrK_N hY1 a.1)
      refine ⟨Y3, ?_, fr⟩
      rw [bit_f (c := fun k => knF M s y p 1 k) hm, ← z, nc_1]
      simp (disch := omega) only [g164_0, g164_1, g164_2, g164_3, g164_6, g164_8, g164_10t, g164_10f, g164_13, g164_15, g164_16, g164_17, g164_18, g164_19, g164_22t, g164_22f, g164_25, g164_27, g164_28, g164_29, g164_32, g164_33t, g164_33f, g164_36, g164_38, g164_39, g164_40, g164_43, g164_45, g164_46, g164_49, g164_51, g164_52, g164_54, g164_55, g164_58, g164_60, g164_61, g164_63, g164_64, g164_67, g164_68, g164_70, g164_71, g164_72, g164_73, g164_74, g164_76, g164_77, g164_79, g164_80, g164_81t, g164_81f, g164_84, g164_85, g164_88, g164_89, g164_93, g164_94t, g164_94f, g164_97, g164_99, g164_102, g164_103, g164_104t, g164_104f, g164_107, g164_108, g164_111, g164_114, g164_116t, g164_116f, g164_119, g164_120, g164_123, g164_125, g164_126t, g164_126f, g164_129, g164_131, g164_134, g164_136, g164_137, g164_138, g164_141, g164_143, g164_144, g164_145t, g164_145f, g164_148, g164_150, g164_153, g164_155, g164_156, g164_157, g164_160, g164_161, g164_163, g164_164, g164_165, g164_166, g164_167, g164_168t, g164_168f, g164_171, g164_173, g164_176, g164_178, g164_179, g164_180, g164_181, g164_182t, g164_182f, g164_185, g164_187, g164_190, g164_192, g164_195, g164_197, g164_198, g164_199, g164_200, g164_203, g164_204t, g164_204f, g164_207, g164_208, g164_210, g164_211, g164_214, g164_215, g164_216, g164_218, g164_221, g164_224, g164_225, g164_228, g164_230, g164_232, g164_233, g164_234, g164_237, g164_239, g164_241, g164_242, g164_243, g164_246, g164_247, g164_249, g164_250, g164_251, g164_252, g164_254, g164_255, g164_256, g164_258, g164_261, g164_263, cont_1, cont_0, w32_k, P84_6 hS, P84_7 hS, P84_8 hS, y5, i1, i2, i3, Int.toNat_natCast, f, or32_0 hb, mset_ne, w0, w1, w4]
theorem kinds2_m {n r s y p : Nat} {sc : Nat → Int} {M : Mem} {S : Sh} {l4 : Option AV} (hr : 18 < r) (hS : Std n S) (hI : Inv sc M) (hs : s < 4) (hy : y < 16) (hp : M 84 4 = (p : Int)) : ∀ (rem k : Nat) (Y : Mem) (b : Int), k + rem = 10 → 1 ≤ k → r32 b → FrK p M Y → ∃ Y', go r 164 91 [some (aR 84), some (aI (s : Int)), some (aI (y : Int)), some (aI 2), l4, some (aI (p : Int)), some (aI (M 87 p)), some (aI (M 88 p)), some (aI (M 89 (3 * p + 2))), some (aI b), some (aI (k : Int))] [] Y S = some (some (aI (bitF (fun k => knF M s y p 2 k) rem k b)), Y', S) ∧ FrM M Y' := by
  have k84 := K84 hS
  have k87 := K87 hS
  have k88 := K88 hS
  have k89 := K89 hS
  have l87 := L87 hS
  have l88 := L88 hS
  have l89 := L89 hS
  have hP := hI.2.2.1
  have hN := hI.2.2.2.1
  have p1 := hP.1
  have p3 := hP.2.2.1
  have t1 := hI.2.2.2.2.1.1
  have t5 := hI.2.2.2.2.1.2.2.1
  obtain ⟨n1, n2, n3, n4, n5, n6, n7, n8, n9, n10, n11, n12⟩ := hN
  obtain ⟨w0, w1, w2, w3, w4, v0, v1, v2, v3, _, _, _, _, v4, v5⟩ := hP.2.2.2 p (by omega)
  have i1 : w32 (3 * (p : Int)) = 3 * (p : Int) := w32_o (by omega) (by omega)
  have i2 : w32 (3 * (p : Int) + 2) = 3 * (p : Int) + 2 := w32_o (by omega) (by omega)
  have i3 : (3 * (p : Int) + 2).toNat = 3 * p + 2 := by omega
  intro rem
  induction rem with
  | zero =>
    intro k Y b hk k1 hb hY
    have y5 : Y 84 5 = M 84 5 := hY.2.2.2 5 (by omega) (by omega)
    rw [g164_91]
    simp (disch := omega) only [g164_0, g164_1, g164_2, g164_3, g164_6, g164_8, g164_10t, g164_10f, g164_13, g164_15, g164_16, g164_17, g164_18, g164_19, g164_22t, g164_22f, g164_25, g164_27, g164_28, g164_29, g164_32, g164_33t, g164_33f, g164_36, g164_38, g164_39, g164_40, g164_43, g164_45, g164_46, g164_49, g164_51, g164_52, g164_54, g164_55, g164_58, g164_60, g164_61, g164_63, g164_64, g164_67, g164_68, g164_70, g164_71, g164_72, g164_73, g164_74, g164_76, g164_77, g164_79, g164_80, g164_81t, g164_81f, g164_84, g164_85, g164_88, g164_89, g164_93, g164_94t, g164_94f, g164_97, g164_99, g164_102, g164_103, g164_104t, g164_104f, g164_107, g164_108, g164_111, g164_114, g164_116t, g164_116f, g164_119, g164_120, g164_123, g164_125, g164_126t, g164_126f, g164_129, g164_131, g164_134, g164_136, g164_137, g164_138, g164_141, g164_143, g164_144, g164_145t, g164_145f, g164_148, g164_150, g164_153, g164_155, g164_156, g164_157, g164_160, g164_161, g164_163, g164_164, g164_165, g164_166, g164_167, g164_168t, g164_168f, g164_171, g164_173, g164_176, g164_178, g164_179, g164_180, g164_181, g164_182t, g164_182f, g164_185, g164_187, g164_190, g164_192, g164_195, g164_197, g164_198, g164_199, g164_200, g164_203, g164_204t, g164_204f, g164_207, g164_208, g164_210, g164_211, g164_214, g164_215, g164_216, g164_218, g164_221, g164_224, g164_225, g164_228, g164_230, g164_232, g164_233, g164_234, g164_237, g164_239, g164_241, g164_242, g164_243, g164_246, g164_247, g164_249, g164_250, g164_251, g164_252, g164_254, g164_255, g164_256, g164_258, g164_261, g164_263, cont_1, cont_0, w32_k, P84_6 hS, P84_7 hS, P84_8 hS, mset_ne, y5, i1, i2, i3, Int.toNat_natCast]
    exact ⟨_, rfl, FrK_end hY hp⟩
  | succ rem ih =>
    intro k Y b hk k1 hb hY
    have y5 : Y 84 5 = M 84 5 := hY.2.2.2 5 (by omega) (by omega)
    have hY1 : FrK p M (setK p Y (M 87 p) (M 88 p) (k : Int) (p : Int)) := FrK_s hY
    have h1 := hY1.2.2.2
    have e9 := h1 9 (by omega) (by omega)
    have e43 := h1 43 (by omega) (by omega)
    have e2 := h1 2 (by omega) (by omega)
    have e3 := h1 3 (by omega) (by omega)
    have e17 := h1 17 (by omega) (by omega)
    have u87 : (setK p Y (M 87 p) (M 88 p) (k : Int) (p : Int)) 87 p = M 87 p := by unfold setK; simp (disch := omega) only [mset_ne, mset_eq]
    have u88 : (setK p Y (M 87 p) (M 88 p) (k : Int) (p : Int)) 88 p = M 88 p := by unfold setK; simp (disch := omega) only [mset_ne, mset_eq]
    have u89 : (setK p Y (M 87 p) (M 88 p) (k : Int) (p : Int)) 89 (3 * p) = M 89 (3 * p) := hY1.2.2.1 _ (by omega)
    have u891 : (setK p Y (M 87 p) (M 88 p) (k : Int) (p : Int)) 89 (3 * p + 1) = M 89 (3 * p + 1) := hY1.2.2.1 _ (by omega)
    have u892 : (setK p Y (M 87 p) (M 88 p) (k : Int) (p : Int)) 89 (3 * p + 2) = (k : Int) := by unfold setK; simp (disch := omega) only [mset_ne, mset_eq]
    have u4 : (setK p Y (M 87 p) (M 88 p) (k : Int) (p : Int)) 84 4 = (p : Int) := mset_eq
    have tp : ((p : Int)).toNat = p := by omega
    have r90 : (setK p Y (M 87 p) (M 88 p) (k : Int) (p : Int)) 90 = M 90 := hY1.1 90 (by omega) (by omega) (by omega) (by omega) (by omega)
    have r91 : (setK p Y (M 87 p) (M 88 p) (k : Int) (p : Int)) 91 = M 91 := hY1.1 91 (by omega) (by omega) (by omega) (by omega) (by omega)
    have hF : FyM (setK p Y (M 87 p) (M 88 p) (k : Int) (p : Int)) := fyM_mk hI (hY1.1 93 (by omega) (by omega) (by omega) (by omega) (by omega)) (hY1.1 94 (by omega) (by omega) (by omega) (by omega) (by omega)) (by
      rw [e9, r90, r91]
      exact (fyM_of hI).1.1) (by
      rw [hY1.1 86 (by omega) (by omega) (by omega) (by omega) (by omega)]
      exact (fyM_of hI).1.2.1) (by omega) (by omega) (fun _ => by
      rw [u4, tp, u87, u88, u892]
      omega) (by omega) (by omega)
    obtain ⟨Y2, f, a⟩ := ul_ (M := M) hS (fun q hq => by
      rw [hY1.1 86 (by omega) (by omega) (by omega) (by omega) (by omega)]
      exact (hI.1 q hq).2.1) (fun q hq => by
      rw [hY1.1 100 (by omega) (by omega) (by omega) (by omega) (by omega)]
      exact (hI.2.2.2.2.2.2.1 s hs).2.2.2.2.2.2 q (by omega)) hF hs hy
    rw [md_fl (M := M) ⟨fun q hq => by
      rw [hY1.1 85 (by omega) (by omega) (by omega) (by omega) (by omega)]
      exact (hI.1 q hq).1, hY1.1 93 (by omega) (by omega) (by omega) (by omega) (by omega), hY1.1 94 (by omega) (by omega) (by omega) (by omega) (by omega)⟩ (e9.trans hI.2.1.1) (e43.trans hI.2.2.2.2.2.2.2.1.2.1) (fun q hq => by
      rw [r90, r91]
      exact ⟨(hI.2.1.2.2.2 q hq).1, (hI.2.1.2.2.2 q hq).2.1⟩), u4, tp, u87, u88, u89, u891, u892, e2, e3, e17, n1, n4, n10, w0, w1, w2, w3, show unV M s y (flN M (p : Int) (M 7 11) (M 7 12) (M 12 p) (M 13 p) (M 14 p) (M 15 p) (k : Int) (M 7 14)) = knF M s y p 2 k from rfl] at f
    unfold setK at f
    rw [g164_91]
    by_cases hm : knF M s y p 2 k = -1
    · obtain ⟨Y3, z, fr⟩ := ih (k + 1) Y2 (or32 b (sh32 1 (k : Int))) (by omega) (by omega) (or32_r _ _) (FrK_N hY1 a.1)
      refine ⟨Y3, ?_, fr⟩
      rw [bit_t (c := fun k => knF M s y p 2 k) hm, ← z, nc_1]
      simp (disch := omega) only [g164_0, g164_1, g164_2, g164_3, g164_6, g164_8, g164_10t, g164_10f, g164_13, g164_15, g164_16, g164_17, g164_18, g164_19, g164_22t, g164_22f, g164_25, g164_27, g164_28, g164_29, g164_32, g164_33t, g164_33f, g164_36, g164_38, g164_39, g164_40, g164_43, g164_45, g164_46, g164_49, g164_51, g164_52, g164_54, g164_55, g164_58, g164_60, g164_61, g164_63, g164_64, g164_67, g164_68, g164_70, g164_71, g164_72, g164_73, g164_74, g164_76, g164_77, g164_79, g164_80, g164_81t, g164_81f, g164_84, g164_85, g164_88, g164_89, g164_93, g164_94t, g164_94f, g164_97, g164_99, g164_102, g164_103, g164_104t, g164_104f, g164_107, g164_108, g164_111, g164_114, g164_116t, g164_116f, g164_119, g164_120, g164_123, g164_125, g164_126t, g164_126f, g164_129, g164_131, g164_134, g164_136, g164_137, g164_138, g164_141, g164_143, g164_144, g164_145t, g164_145f, g164_148, g164_150, g164_153, g164_155, g164_156, g164_157, g164_160, g164_161, g164_163, g164_164, g164_165, g164_166, g164_167, g164_168t, g164_168f, g164_171, g164_173, g164_176, g164_178, g164_179, g164_180, g164_181, g164_182t, g164_182f, g164_185, g164_187, g164_190, g164_192, g164_195, g164_197, g164_198, g164_199, g164_200, g164_203, g164_204t, g164_204f, g164_207, g164_208, g164_210, g164_211, g164_214, g164_215, g164_216, g164_218, g164_221, g164_224, g164_225, g164_228, g164_230, g164_232, g164_233, g164_234, g164_237, g164_239, g164_241, g164_242, g164_243, g164_246, g164_247, g164_249, g164_250, g164_251, g164_252, g164_254, g164_255, g164_256, g164_258, g164_261, g164_263, cont_1, cont_0, w32_k, P84_6 hS, P84_7 hS, P84_8 hS, y5, i1, i2, i3, Int.toNat_natCast, f, mset_ne, w0, w1, w4]
    · obtain ⟨Y3, z, fr⟩ := ih (k + 1) Y2 b (by omega) (by omega) hb (FrK_N hY1 a.1)
      refine ⟨Y3, ?_, fr⟩
      rw [bit_f (c := fun k => knF M s y p 2 k) hm, ← z, nc_1]
      simp (disch := omega) only [g164_0, g164_1, g164_2, g164_3, g164_6, g164_8, g164_10t, g164_10f, g164_13, g164_15, g164_16, g164_17, g164_18, g164_19, g164_22t, g164_22f, g164_25, g164_27, g164_28, g164_29, g164_32, g164_33t, g164_33f, g164_36, g164_38, g164_39, g164_40, g164_43, g164_45, g164_46, g164_49, g164_51, g164_52, g164_54, g164_55, g164_58, g164_60, g164_61, g164_63, g164_64, g164_67, g164_68, g164_70, g164_71, g164_72, g164_73, g164_74, g164_76, g164_77, g164_79, g164_80, g164_81t, g164_81f, g164_84, g164_85, g164_88, g164_89, g164_93, g164_94t, g164_94f, g164_97, g164_99, g164_102, g164_103, g164_104t, g164_104f, g164_107, g164_108, g164_111, g164_114, g164_116t, g164_116f, g164_119, g164_120, g164_123, g164_125, g164_126t, g164_126f, g164_129, g164_131, g164_134, g164_136, g164_137, g164_138, g164_141, g164_143, g164_144, g164_145t, g164_145f, g164_148, g164_150, g164_153, g164_155, g164_156, g164_157, g164_160, g164_161, g164_163, g164_164, g164_165, g164_166, g164_167, g164_168t, g164_168f, g164_171, g164_173, g164_176, g164_178, g164_179, g164_180, g164_181, g164_182t, g164_182f, g164_185, g164_187, g164_190, g164_192, g164_195, g164_197, g164_198, g164_199, g164_200, g164_203, g164_204t, g164_204f, g164_207, g164_208, g164_210, g164_211, g164_214, g164_215, g164_216, g164_218, g164_221, g164_224, g164_225, g164_228, g164_230, g164_232, g164_233, g164_234, g164_237, g164_239, g164_241, g164_242, g164_243, g164_246, g164_247, g164_249, g164_250, g164_251, g164_252, g164_254, g164_255, g164_256, g164_258, g164_261, g164_263, cont_1, cont_0, w32_k, P84_6 hS, P84_7 hS, P84_8 hS, y5, i1, i2, i3, Int.toNat_natCast, f, or32_0 hb, mset_ne, w0, w1, w4]
theorem kinds3_m {n r s y p : Nat} {sc : Nat → Int} {M : Mem} {S : Sh} {l4 : Option AV} (hr : 18 < r) (hS : Std n S) (hI : Inv sc M) (hs : s < 4) (hy : y < 16) (hp : M 84 4 = (p : Int)) : ∀ (rem k : Nat) (Y : Mem) (b : Int), ((k + rem : Nat) : Int) = M 84 5 → r32 b → FrK p M Y → ∃ Y', go r 164 91 [some (aR 84), some (aI (s : Int)), some (aI (y : Int)), some (aI 3), l4, some (aI (p : Int)), some (aI (M 87 p)), some (aI (M 88 p)), some (aI (M 89 (3 * p + 2))), some (aI b), some (aI (k : Int))] [] Y S = some (some (aI (bitF (fun k => knF M s y p 3 k) rem k b)), Y', S) ∧ FrM M Y' := by
  have k84 := K84 hS
  have k87 := K87 hS
  have k88 := K88 hS
  have k89 := K89 hS
  have l87 := L87 hS
  have l88 := L88 hS
  have l89 := L89 hS
  have hP := hI.2.2.1
  have hN := hI.2.2.2.1
  have p1 := hP.1
  have p3 := hP.2.2.1
  have t1 := hI.2.2.2.2.1.1
  have t5 := hI.2.2.2.2.1.2.2.1
  obtain ⟨n1, n2, n3, n4, n5, n6, n7, n8, n9, n10, n11, n12⟩ := hN
  obtain ⟨w0, w1, w2, w3, w4, v0, v1, v2, v3, _, _, _, _, v4, v5⟩ := hP.2.2.2 p (by omega)
  have i1 : w32 (3 * (p : Int)) = 3 * (p : Int) := w32_o (by omega) (by omega)
  have i2 : w32 (3 * (p : Int) + 2) = 3 * (p : Int) + 2 := w32_o (by omega) (by omega)
  have i3 : (3 * (p : Int) + 2).toNat = 3 * p + 2 := by omega
  intro rem
  induction rem with
  | zero =>
    intro k Y b hk hb hY
    have y5 : Y 84 5 = M 84 5 := hY.2.2.2 5 (by omega) (by omega)
    rw [g164_91]
    simp (disch := omega) only [g164_0, g164_1, g164_2, g164_3, g164_6, g164_8, g164_10t, g164_10f, g164_13, g164_15, g164_16, g164_17, g164_18, g164_19, g164_22t, g164_22f, g164_25, g164_27, g164_28, g164_29, g164_32, g164_33t, g164_33f, g164_36, g164_38, g164_39, g164_40, g164_43, g164_45, g164_46, g164_49, g164_51, g164_52, g164_54, g164_55, g164_58, g164_60, g164_61, g164_63, g164_64, g164_67, g164_68, g164_70, g164_71, g164_72, g164_73, g164_74, g164_76, g164_77, g164_79, g164_80, g164_81t, g164_81f, g164_84, g164_85, g164_88, g164_89, g164_93, g164_94t, g164_94f, g164_97, g164_99, g164_102, g164_103, g164_104t, g164_104f, g164_107, g164_108, g164_111, g164_114, g164_116t, g164_116f, g164_119, g164_120, g164_123, g164_125, g164_126t, g164_126f, g164_129, g164_131, g164_134, g164_136, g164_137, g164_138, g164_141, g164_143, g164_144, g164_145t, g164_145f, g164_148, g164_150, g164_153, g164_155, g164_156, g164_157, g164_160, g164_161, g164_163, g164_164, g164_165, g164_166, g164_167, g164_168t, g164_168f, g164_171, g164_173, g164_176, g164_178, g164_179, g164_180, g164_181, g164_182t, g164_182f, g164_185, g164_187, g164_190, g164_192, g164_195, g164_197, g164_198, g164_199, g164_200, g164_203, g164_204t, g164_204f, g164_207, g164_208, g164_210, g164_211, g164_214, g164_215, g164_216, g164_218, g164_221, g164_224, g164_225, g164_228, g164_230, g164_232, g164_233, g164_234, g164_237, g164_239, g164_241, g164_242, g164_243, g164_246, g164_247, g164_249, g164_250, g164_251, g164_252, g164_254, g164_255, g164_256, g164_258, g164_261, g164_263, cont_1, cont_0, w32_k, P84_6 hS, P84_7 hS, P84_8 hS, mset_ne, y5, i1, i2, i3, Int.toNat_natCast]
    exact ⟨_, rfl, FrK_end hY hp⟩
  | succ rem ih =>
    intro k Y b hk hb hY
    have y5 : Y 84 5 = M 84 5 := hY.2.2.2 5 (by omega) (by omega)
    have hY1 : FrK p M (setK p Y (M 87 p) (M 88 p) (M 89 (3 * p + 2)) (k : Int)) := FrK_s hY
    have h1 := hY1.2.2.2
    have e9 := h1 9 (by omega) (by omega)
    have e43 := h1 43 (by omega) (by omega)
    have e2 := h1 2 (by omega) (by omega)
    have e3 := h1 3 (by omega) (by omega)
    have e17 := h1 17 (by omega) (by omega)
    have g1 := FrK_row (w := (k : Int)) hY
    have u4 : (setK p Y (M 87 p) (M 88 p) (M 89 (3 * p + 2)) (k : Int)) 84 4 = (k : Int) := mset_eq
    have hF : FyM (setK p Y (M 87 p) (M 88 p) (M 89 (3 * p + 2)) (k : Int)) := fyM_W hI g1.1 e9 (by omega) (by omega) (by omega) (by omega)
    obtain ⟨Y2, f, a⟩ := ul_ (M := M) hS (fun q hq => by
      rw [hY1.1 86 (by omega) (by omega) (by omega) (by omega) (by omega)]
      exact (hI.1 q hq).2.1) (fun q hq => by
      rw [hY1.1 100 (by omega) (by omega) (by omega) (by omega) (by omega)]
      exact (hI.2.2.2.2.2.2.1 s hs).2.2.2.2.2.2 q (by omega)) hF hs hy
    rw [md_W hI g1.1 e9 e43 (by omega) (by omega), u4, e2, e3, e17, n1, n4, n10, show unV M s y (flW M (k : Int) (M 7 11) (M 7 12) (M 7 14)) = knF M s y p 3 k from rfl] at f
    unfold setK at f
    rw [g164_91]
    by_cases hm : knF M s y p 3 k = -1
    · obtain ⟨Y3, z, fr⟩ := ih (k + 1) Y2 (or32 b (sh32 1 (k : Int))) (by omega) (or32_r _ _) (FrK_N hY1 a.1)
      refine ⟨Y3, ?_, fr⟩
      rw [bit_t (c := fun k => knF M s y p 3 k) hm, ← z, nc_1]
      simp (disch := omega) only [g164_0, g164_1, g164_2, g164_3, g164_6, g164_8, g164_10t, g164_10f, g164_13, g164_15, g164_16, g164_17, g164_18, g164_19, g164_22t, g164_22f, g164_25, g164_27, g164_28, g164_29, g164_32, g164_33t, g164_33f, g164_36, g164_38, g164_39, g164_40, g164_43, g164_45, g164_46, g164_49, g164_51, g164_52, g164_54, g164_55, g164_58, g164_60, g164_61, g164_63, g164_64, g164_67, g164_68, g164_70, g164_71, g164_72, g164_73, g164_74, g164_76, g164_77, g164_79, g164_80, g164_81t, g164_81f, g164_84, g164_85, g164_88, g164_89, g164_93, g164_94t, g164_94f, g164_97, g164_99, g164_102, g164_103, g164_104t, g164_104f, g164_107, g164_108, g164_111, g164_114, g164_116t, g164_116f, g164_119, g164_120, g164_123, g164_125, g164_126t, g164_126f, g164_129, g164_131, g164_134, g164_136, g164_137, g164_138, g164_141, g164_143, g164_144, g164_145t, g164_145f, g164_148, g164_150, g164_153, g164_155, g164_156, g164_157, g164_160, g164_161, g164_163, g164_164, g164_165, g164_166, g164_167, g164_168t, g164_168f, g164_171, g164_173, g164_176, g164_178, g164_179, g164_180, g164_181, g164_182t, g164_182f, g164_185, g164_187, g164_190, g164_192, g164_195, g164_197, g164_198, g164_199, g164_200, g164_203, g164_204t, g164_204f, g164_207, g164_208, g164_210, g164_211, g164_214, g164_215, g164_216, g164_218, g164_221, g164_224, g164_225, g164_228, g164_230, g164_232, g164_233, g164_234, g164_237, g164_239, g164_241, g164_242, g164_243, g164_246, g164_247, g164_249, g164_250, g164_251, g164_252, g164_254, g164_255, g164_256, g164_258, g164_261, g164_263, cont_1, cont_0, w32_k, P84_6 hS, P84_7 hS, P84_8 hS, y5, i1, i2, i3, Int.toNat_natCast, f, mset_ne]
    · obtain ⟨Y3, z, fr⟩ := ih (k + 1) Y2 b (by omega) hb (FrK_N hY1 a.1)
      refine ⟨Y3, ?_, fr⟩
      rw [bit_f (c := fun k => knF M s y p 3 k) hm, ← z, nc_1]
      simp (disch := omega) only [g164_0, g164_1, g164_2, g164_3, g164_6, g164_8, g164_10t, g164_10f, g164_13, g164_15, g164_16, g164_17, g164_18, g164_19, g164_22t, g164_22f, g164_25, g164_27, g164_28, g164_29, g164_32, g164_33t, g164_33f, g164_36, g164_38, g164_39, g164_40, g164_43, g164_45, g164_46, g164_49, g164_51, g164_52, g164_54, g164_55, g164_58, g164_60, g164_61, g164_63, g164_64, g164_67, g164_68, g164_70, g164_71, g164_72, g164_73, g164_74, g164_76, g164_77, g164_79, g164_80, g164_81t, g164_81f, g164_84, g164_85, g164_88, g164_89, g164_93, g164_94t, g164_94f, g164_97, g164_99, g164_102, g164_103, g164_104t, g164_104f, g164_107, g164_108, g164_111, g164_114, g164_116t, g164_116f, g164_119, g164_120, g164_123, g164_125, g164_126t, g164_126f, g164_129, g164_131, g164_134, g164_136, g164_137, g164_138, g164_141, g164_143, g164_144, g164_145t, g164_145f, g164_148, g164_150, g164_153, g164_155, g164_156, g164_157, g164_160, g164_161, g164_163, g164_164, g164_165, g164_166, g164_167, g164_168t, g164_168f, g164_171, g164_173, g164_176, g164_178, g164_179, g164_180, g164_181, g164_182t, g164_182f, g164_185, g164_187, g164_190, g164_192, g164_195, g164_197, g164_198, g164_199, g164_200, g164_203, g164_204t, g164_204f, g164_207, g164_208, g164_210, g164_211, g164_214, g164_215, g164_216, g164_218, g164_221, g164_224, g164_225, g164_228, g164_230, g164_232, g164_233, g164_234, g164_237, g164_239, g164_241, g164_242, g164_243, g164_246, g164_247, g164_249, g164_250, g164_251, g164_252, g164_254, g164_255, g164_256, g164_258, g164_261, g164_263, cont_1, cont_0, w32_k, P84_6 hS, P84_7 hS, P84_8 hS, y5, i1, i2, i3, Int.toNat_natCast, f, or32_0 hb, mset_ne]
