/-! the class reads a token -/
theorem fset_self {f : Nat → Int} {a : Nat} {v : Int} (h : f a = v) : fset f a v = f := by
  funext j
  by_cases hj : j = a
  · rw [hj, fset_eq, h]
  · rw [fset_ne _ _ hj]
theorem fset_fset {f : Nat → Int} {a : Nat} {v w : Int} : fset (fset f a v) a w = fset f a w := by
  funext j
  by_cases hj : j = a
  · rw [hj, fset_eq, fset_eq]
  · rw [fset_ne _ _ hj, fset_ne _ _ hj, fset_ne _ _ hj]
def ckd (k v : Int) : Int := if k = 3 then 4 + v else if k = 2 then 3 else if k = 1 then 2 else if k = 0 then 0 else if k = -1 then 1 else if k = 4 then 7 else if k = 5 then 8 else if k = 6 then 9 else k
def RdSh (S : Sh) (ra ta la : Nat) : Prop := S.1 ra = 2 ∧ S.2.2.1 ra 0 = some ta ∧ S.2.2.1 ra 2 = some la ∧ S.1 ta = 7 ∧ S.2.1 ta = 160 ∧ LawS S la ∧ (ra ≠ ta ∧ 6 ≤ ra ∧ 6 ≤ ta) ∧ (ra ≠ la ∧ ra ≠ la + 1 ∧ ra ≠ la + 2 ∧ ra ≠ la + 3 ∧ ra ≠ la + 4) ∧ (ta ≠ la ∧ ta ≠ la + 1 ∧ ta ≠ la + 2 ∧ ta ≠ la + 3 ∧ ta ≠ la + 4)
theorem isBl_t {c : Int} {M : Mem} {S : Sh} (h : c = 32 ∨ c = 10) : res 29 [aI c] M S = some (some (aI 1), M, S) := by
  rcases h with rfl | rfl
  all_goals (rw [g29]; simp (disch := omega) only [g29_0, g29_1, g29_3t, g29_3f, g29_6, g29_7, g29_9t, g29_9f, g29_12, g29_13, g29_16, g29_17, cont_1, cont_0, w32_o])
theorem isBl_f {c : Int} {M : Mem} {S : Sh} (h : ¬ (c = 32 ∨ c = 10)) : res 29 [aI c] M S = some (some (aI 0), M, S) := by
  rw [g29]
  simp (disch := omega) only [g29_0, g29_1, g29_3t, g29_3f, g29_6, g29_7, g29_9t, g29_9f, g29_12, g29_13, g29_16, g29_17, cont_1, cont_0, w32_o]
theorem isLe_t {c : Int} {M : Mem} {S : Sh} (h : 97 ≤ c ∧ c ≤ 122) : res 30 [aI c] M S = some (some (aI 1), M, S) := by
  rw [g30]
  simp (disch := omega) only [g30_0, g30_1, g30_3t, g30_3f, g30_6, g30_7, g30_9t, g30_9f, g30_12, g30_13, g30_16, g30_17, cont_1, cont_0, w32_o]
theorem isLe_f {c : Int} {M : Mem} {S : Sh} (h : ¬ (97 ≤ c ∧ c ≤ 122)) : res 30 [aI c] M S = some (some (aI 0), M, S) := by
  rw [g30]
  rcases (by omega : c < 97 ∨ 122 < c) with h1 | h1
  all_goals simp (disch := omega) only [g30_0, g30_1, g30_3t, g30_3f, g30_6, g30_7, g30_9t, g30_9f, g30_12, g30_13, g30_16, g30_17, cont_1, cont_0, w32_o]
theorem isDi_t {c : Int} {M : Mem} {S : Sh} (h : 48 ≤ c ∧ c ≤ 57) : res 31 [aI c] M S = some (some (aI 1), M, S) := by
  rw [g31]
  simp (disch := omega) only [g31_0, g31_1, g31_3t, g31_3f, g31_6, g31_7, g31_9t, g31_9f, g31_12, g31_13, g31_16, g31_17, cont_1, cont_0, w32_o]
theorem isDi_f {c : Int} {M : Mem} {S : Sh} (h : ¬ (48 ≤ c ∧ c ≤ 57)) : res 31 [aI c] M S = some (some (aI 0), M, S) := by
  rw [g31]
  rcases (by omega : c < 48 ∨ 57 < c) with h1 | h1
  all_goals simp (disch := omega) only [g31_0, g31_1, g31_3t, g31_3f, g31_6, g31_7, g31_9t, g31_9f, g31_12, g31_13, g31_16, g31_17, cont_1, cont_0, w32_o]
theorem isSg_t {c : Int} {M : Mem} {S : Sh} (h : c = 40 ∨ c = 41 ∨ c = 59 ∨ c = 43 ∨ c = 45 ∨ c = 42 ∨ c = 60 ∨ c = 61) : res 32 [aI c] M S = some (some (aI 1), M, S) := by
  rcases h with rfl | rfl | rfl | rfl | rfl | rfl | rfl | rfl
  all_goals (rw [g32]; simp (disch := omega) only [g32_0, g32_1, g32_3t, g32_3f, g32_6, g32_7, g32_9t, g32_9f, g32_12, g32_13, g32_15t, g32_15f, g32_18, g32_19, g32_21t, g32_21f, g32_24, g32_25, g32_27t, g32_27f, g32_30, g32_31, g32_33t, g32_33f, g32_36, g32_37, g32_39t, g32_39f, g32_42, g32_43, g32_45t, g32_45f, g32_48, g32_49, g32_52, g32_53, cont_1, cont_0, w32_o])
theorem isSg_f {c : Int} {M : Mem} {S : Sh} (h : ¬ (c = 40 ∨ c = 41 ∨ c = 59 ∨ c = 43 ∨ c = 45 ∨ c = 42 ∨ c = 60 ∨ c = 61)) : res 32 [aI c] M S = some (some (aI 0), M, S) := by
  rw [g32]
  simp (disch := omega) only [g32_0, g32_1, g32_3t, g32_3f, g32_6, g32_7, g32_9t, g32_9f, g32_12, g32_13, g32_15t, g32_15f, g32_18, g32_19, g32_21t, g32_21f, g32_24, g32_25, g32_27t, g32_27f, g32_30, g32_31, g32_33t, g32_33f, g32_36, g32_37, g32_39t, g32_39f, g32_42, g32_43, g32_45t, g32_45f, g32_48, g32_49, g32_52, g32_53, cont_1, cont_0, w32_o]
theorem skp25 {r ra ta la sz : Nat} {f : Nat → Int} {M : Mem} {S : Sh} {l1 : Option AV} (hr : 10 < r) (hR : RdSh S ra ta la) (hz : sz ≤ 160) (hf : ∀ k, k < sz → M ta k = f k) : ∀ (k p : Nat) (ρ : Nat → Int), ρ 1 = (sz : Int) → ρ 3 = (p : Int) → p + k = sz → go r 25 0 [some (aR ra), l1] [] (mrow M ra ρ) S = go r 25 41 [some (aR ra), l1] [] (mrow M ra (fset ρ 3 ((spn bBl f k p : Nat) : Int))) S := by
  have ⟨K0, P0, P2, Kt, Lt, hL, ⟨n0, n1, n2⟩, _, _⟩ := hR
  intro k
  induction k with
  | zero =>
    intro p ρ h1 h3 hk
    rw [show fset ρ 3 ((spn bBl f 0 p : Nat) : Int) = ρ from fset_self h3, g25_0]
    simp (disch := omega) only [g25_1, g25_4, g25_5, g25_8t, g25_8f, g25_11, g25_12, g25_15, g25_16, g25_19, g25_22, g25_25t, g25_25f, g25_28, g25_29, g25_30, g25_33, g25_34, g25_35, g25_38, g25_41, g25_42, g25_43, g25_46, g25_49, g25_50, g25_53, g25_54, g25_57t, g25_57f, g25_60, g25_61, g25_62, g25_65, g25_66, g25_67, g25_70, g25_71, g25_74, g25_77, g25_78, g25_79, g25_82t, g25_82f, g25_85, g25_86, g25_89, g25_92, g25_93, g25_96t, g25_96f, g25_99, g25_100, g25_103, g25_106, g25_107, g25_108, g25_111, g25_112, g25_113, g25_116, g25_117, g25_118, g25_121t, g25_121f, g25_124, g25_125, g25_128, g25_129, g25_132, cont_1, cont_0, w32_o, mrow_eq, mrow_ne, mset_mrow, Int.toNat_natCast, nc_1, fset_eq, fset_ne, h1, h3]
  | succ k ih =>
    intro p ρ h1 h3 hk
    have q := hf p (by omega)
    cases hb : bBl (f p)
    · have hb' := bBl_f hb
      rw [spn_e hb, fset_self h3, g25_0]
      simp (disch := omega) only [g25_1, g25_4, g25_5, g25_8t, g25_8f, g25_11, g25_12, g25_15, g25_16, g25_19, g25_22, g25_25t, g25_25f, g25_28, g25_29, g25_30, g25_33, g25_34, g25_35, g25_38, g25_41, g25_42, g25_43, g25_46, g25_49, g25_50, g25_53, g25_54, g25_57t, g25_57f, g25_60, g25_61, g25_62, g25_65, g25_66, g25_67, g25_70, g25_71, g25_74, g25_77, g25_78, g25_79, g25_82t, g25_82f, g25_85, g25_86, g25_89, g25_92, g25_93, g25_96t, g25_96f, g25_99, g25_100, g25_103, g25_106, g25_107, g25_108, g25_111, g25_112, g25_113, g25_116, g25_117, g25_118, g25_121t, g25_121f, g25_124, g25_125, g25_128, g25_129, g25_132, cont_1, cont_0, w32_o, mrow_eq, mrow_ne, mset_mrow, Int.toNat_natCast, nc_1, fset_eq, fset_ne, K0, P0, h1, h3, at_in, q, isBl_f]
    · have hb' := bBl_t hb
      have z := ih (p + 1) (fset ρ 3 ((p + 1 : Nat) : Int)) (by rw [fset_ne _ _ (by omega)]; exact h1) (fset_eq _ _ _) (by omega)
      rw [fset_fset] at z
      rw [spn_s hb, ← z, g25_0]
      simp (disch := omega) only [g25_1, g25_4, g25_5, g25_8t, g25_8f, g25_11, g25_12, g25_15, g25_16, g25_19, g25_22, g25_25t, g25_25f, g25_28, g25_29, g25_30, g25_33, g25_34, g25_35, g25_38, g25_41, g25_42, g25_43, g25_46, g25_49, g25_50, g25_53, g25_54, g25_57t, g25_57f, g25_60, g25_61, g25_62, g25_65, g25_66, g25_67, g25_70, g25_71, g25_74, g25_77, g25_78, g25_79, g25_82t, g25_82f, g25_85, g25_86, g25_89, g25_92, g25_93, g25_96t, g25_96f, g25_99, g25_100, g25_103, g25_106, g25_107, g25_108, g25_111, g25_112, g25_113, g25_116, g25_117, g25_118, g25_121t, g25_121f, g25_124, g25_125, g25_128, g25_129, g25_132, cont_1, cont_0, w32_o, mrow_eq, mrow_ne, mset_mrow, Int.toNat_natCast, nc_1, fset_eq, fset_ne, K0, P0, h1, h3, at_in, q, isBl_t]
theorem skp26 {r ra ta la sz : Nat} {f : Nat → Int} {M : Mem} {S : Sh} {l1 : Option AV} (hr : 10 < r) (hR : RdSh S ra ta la) (hz : sz ≤ 160) (hf : ∀ k, k < sz → M ta k = f k) : ∀ (k p : Nat) (ρ : Nat → Int), ρ 1 = (sz : Int) → ρ 3 = (p : Int) → p + k = sz → go r 26 0 [some (aR ra), l1] [] (mrow M ra ρ) S = go r 26 41 [some (aR ra), l1] [] (mrow M ra (fset ρ 3 ((spn bLe f k p : Nat) : Int))) S := by
  have ⟨K0, P0, P2, Kt, Lt, hL, ⟨n0, n1, n2⟩, _, _⟩ := hR
  intro k
  induction k with
  | zero =>
    intro p ρ h1 h3 hk
    rw [show fset ρ 3 ((spn bLe f 0 p : Nat) : Int) = ρ from fset_self h3, g26_0]
    simp (disch := omega) only [g26_1, g26_4, g26_5, g26_8t, g26_8f, g26_11, g26_12, g26_15, g26_16, g26_19, g26_22, g26_25t, g26_25f, g26_28, g26_29, g26_30, g26_33, g26_34, g26_35, g26_38, g26_41, g26_42, g26_43, g26_46, g26_47, g26_50, g26_51, g26_54, g26_55, g26_56, g26_57t, g26_57f, g26_60, g26_61, g26_62, g26_65, g26_68, g26_69, g26_71t, g26_71f, g26_74, g26_75, g26_76, g26_77, g26_78, g26_81, g26_84, g26_85, g26_86, g26_89, g26_90, g26_91, g26_93, g26_94, g26_97, cont_1, cont_0, w32_o, mrow_eq, mrow_ne, mset_mrow, Int.toNat_natCast, nc_1, fset_eq, fset_ne, h1, h3]
  | succ k ih =>
    intro p ρ h1 h3 hk
    have q := hf p (by omega)
    cases hb : bLe (f p)
    · have hb' := bLe_f hb
      rw [spn_e hb, fset_self h3, g26_0]
      simp (disch := omega) only [g26_1, g26_4, g26_5, g26_8t, g26_8f, g26_11, g26_12, g26_15, g26_16, g26_19, g26_22, g26_25t, g26_25f, g26_28, g26_29, g26_30, g26_33, g26_34, g26_35, g26_38, g26_41, g26_42, g26_43, g26_46, g26_47, g26_50, g26_51, g26_54, g26_55, g26_56, g26_57t, g26_57f, g26_60, g26_61, g26_62, g26_65, g26_68, g26_69, g26_71t, g26_71f, g26_74, g26_75, g26_76, g26_77, g26_78, g26_81, g26_84, g26_85, g26_86, g26_89, g26_90, g26_91, g26_93, g26_94, g26_97, cont_1, cont_0, w32_o, mrow_eq, mrow_ne, mset_mrow, Int.toNat_natCast, nc_1, fset_eq, fset_ne, K0, P0, h1, h3, at_in, q, isLe_f]
    · have hb' := bLe_t hb
      have z := ih (p + 1) (fset ρ 3 ((p + 1 : Nat) : Int)) (by rw [fset_ne _ _ (by omega)]; exact h1) (fset_eq _ _ _) (by omega)
      rw [fset_fset] at z
      rw [spn_s hb, ← z, g26_0]
      simp (disch := omega) only [g26_1, g26_4, g26_5, g26_8t, g26_8f, g26_11, g26_12, g26_15, g26_16, g26_19, g26_22, g26_25t, g26_25f, g26_28, g26_29, g26_30, g26_33, g26_34, g26_35, g26_38, g26_41, g26_42, g26_43, g26_46, g26_47, g26_50, g26_51, g26_54, g26_55, g26_56, g26_57t, g26_57f, g26_60, g26_61, g26_62, g26_65, g26_68, g26_69, g26_71t, g26_71f, g26_74, g26_75, g26_76, g26_77, g26_78, g26_81, g26_84, g26_85, g26_86, g26_89, g26_90, g26_91, g26_93, g26_94, g26_97, cont_1, cont_0, w32_o, mrow_eq, mrow_ne, mset_mrow, Int.toNat_natCast, nc_1, fset_eq, fset_ne, K0, P0, h1, h3, at_in, q, isLe_t]
theorem am4_get : ∀ k, k < 72 → (am_str 4)[k]? = some (cT k) := by decide +kernel
theorem am4_len : (((am_str 4).length : Nat) : Int) = 72 := by decide +kernel
theorem g27_95c (r : Nat) (l0 l1 l2 l3 l4 l5 l6 l7 : Option AV) (x : Int) (M : Mem) (S : Sh) (h0 : 0 ≤ x) (h1 : x < 72) : go r 27 95 [l0, l1, l2, l3, l4, l5, l6, l7] [aI x, aR 4] M S = go r 27 98 [l0, l1, l2, l3, l4, l5, l6, l7] [aI (cT x.toNat)] M S := g27_95 r l0 l1 l2 l3 l4 l5 l6 l7 x (cT x.toNat) 4 M S (am4_get x.toNat (by omega)) h0
def smF (f : Nat → Int) (a n w : Nat) : Nat → Nat → Int → Int
  | 0, _, s => s
  | k + 1, i, s => smF f a n w k (i + 1) (if cT (6 * w + i) = ch f a n i then s else 0)
theorem smF_y {f : Nat → Int} {a n w : Nat} : ∀ k i s, (∀ c, i ≤ c → c < i + k → cT (6 * w + c) = ch f a n c) → smF f a n w k i s = s := by
  intro k
  induction k with
  | zero => intro i s _; rfl
  | succ k ih =>
    intro i s h
    rw [smF, if_pos (h i (Nat.le_refl _) (by omega))]
    exact ih (i + 1) s (fun c h1 h2 => h c (by omega) (by omega))
theorem smF_0 {f : Nat → Int} {a n w : Nat} : ∀ k i, smF f a n w k i 0 = 0 := by
  intro k
  induction k with
  | zero => intro i; rfl
  | succ k ih =>
    intro i
    rw [smF, show (if cT (6 * w + i) = ch f a n i then (0 : Int) else 0) = 0 by split <;> rfl]
    exact ih (i + 1)
theorem smF_n {f : Nat → Int} {a n w : Nat} : ∀ k i s c, i ≤ c → c < i + k → cT (6 * w + c) ≠ ch f a n c → smF f a n w k i s = 0 := by
  intro k
  induction k with
  | zero => intro i s c h1 h2; omega
  | succ k ih =>
    intro i s c h1 h2 h
    rw [smF]
    by_cases hc : c = i
    · rw [if_neg (by rw [← hc]; exact h), smF_0]
    · exact ih (i + 1) _ c (by omega) (by omega) h
theorem smF_m {f : Nat → Int} {a n w : Nat} : (mtC f a n w = true → smF f a n w 6 0 1 = 1) ∧ (mtC f a n w = false → smF f a n w 6 0 1 = 0) := by
  constructor
  · intro h
    exact smF_y 6 0 1 (fun c _ h2 => of_decide_eq_true (aB_t h c (by omega)))
  · intro h
    by_cases hc : ∃ c, c < 6 ∧ cT (6 * w + c) ≠ ch f a n c
    · obtain ⟨c, h1, h2⟩ := hc
      exact smF_n 6 0 1 c (by omega) (by omega) h2
    · exfalso
      have : mtC f a n w = true := aB_i (fun c hc' => decide_eq_true (Classical.byContradiction fun z => hc ⟨c, hc', z⟩))
      rw [h] at this
      cases this
theorem wn_in {r ra ta la sz a n w : Nat} {f : Nat → Int} {M : Mem} {S : Sh} (hR : RdSh S ra ta la) (hz : sz ≤ 160) (hf : ∀ k, k < sz → M ta k = f k) (h4 : M ra 4 = (a : Int)) (ha : a + n ≤ sz) (hw : w < 12) : ∀ (k i : Nat) (s : Int) (l5 l6 l7 : Option AV), i + k = 6 → ∃ l5' l6' l7', go r 27 21 [some (aR ra), some (aI (n : Int)), some (aI (w : Int)), some (aI s), some (aI (i : Int)), l5, l6, l7] [] M S = go r 27 111 [some (aR ra), some (aI (n : Int)), some (aI (w : Int)), some (aI (smF f a n w k i s)), some (aI 6), l5', l6', l7'] [] M S := by
  have ⟨K0, P0, P2, Kt, Lt, hL, ⟨n0, n1, n2⟩, _, _⟩ := hR
  intro k
  induction k with
  | zero =>
    intro i s l5 l6 l7 hk
    obtain rfl : i = 6 := by omega
    refine ⟨l5, l6, l7, ?_⟩
    rw [g27_21]
    simp (disch := omega) only [g27_0, g27_1, g27_3t, g27_3f, g27_6, g27_7, g27_8, g27_9, g27_11, g27_13t, g27_13f, g27_16, g27_17, g27_18, g27_19, g27_23, g27_25t, g27_25f, g27_28, g27_29, g27_32, g27_34, g27_35, g27_37, g27_39, g27_40, g27_41, g27_43, g27_44, g27_46, g27_48, g27_49t, g27_49f, g27_52, g27_54t, g27_54f, g27_57, g27_59, g27_60, g27_63, g27_64t, g27_64f, g27_67, g27_68, g27_71, g27_73, g27_74, g27_77, g27_79, g27_81, g27_83, g27_85, g27_88t, g27_88f, g27_91, g27_93, g27_98, g27_100t, g27_100f, g27_103, g27_104, g27_105, g27_108, g27_111, g27_112t, g27_112f, g27_115, g27_116, g27_117, g27_120, g27_123, g27_124, cont_1, cont_0, w32_o, mrow_eq, mrow_ne, mset_mrow, Int.toNat_natCast, nc_1, fset_eq, fset_ne]
    rfl
  | succ k ih =>
    intro i s l5 l6 l7 hk
    have i1 : (6 * (w : Int) + (i : Int)).toNat = 6 * w + i := by omega
    have i2 : ((a : Int) + (i : Int)).toNat = a + i := by omega
    by_cases hi : i < n
    · have q := hf (a + i) (by omega)
      have e1 : ch f a n i = f (a + i) := if_pos hi
      by_cases hc : cT (6 * w + i) = f (a + i)
      · obtain ⟨m5, m6, m7, z⟩ := ih (i + 1) s (some (aI ((a : Int) + (i : Int)))) (some (aI (6 * (w : Int) + (i : Int)))) (some (aI (f (a + i)))) (by omega)
        refine ⟨m5, m6, m7, ?_⟩
        rw [smF, e1, if_pos hc, ← z, g27_21]
        simp (disch := omega) only [g27_0, g27_1, g27_3t, g27_3f, g27_6, g27_7, g27_8, g27_9, g27_11, g27_13t, g27_13f, g27_16, g27_17, g27_18, g27_19, g27_23, g27_25t, g27_25f, g27_28, g27_29, g27_32, g27_34, g27_35, g27_37, g27_39, g27_40, g27_41, g27_43, g27_44, g27_46, g27_48, g27_49t, g27_49f, g27_52, g27_54t, g27_54f, g27_57, g27_59, g27_60, g27_63, g27_64t, g27_64f, g27_67, g27_68, g27_71, g27_73, g27_74, g27_77, g27_79, g27_81, g27_83, g27_85, g27_88t, g27_88f, g27_91, g27_93, g27_98, g27_100t, g27_100f, g27_103, g27_104, g27_105, g27_108, g27_111, g27_112t, g27_112f, g27_115, g27_116, g27_117, g27_120, g27_123, g27_124, cont_1, cont_0, w32_o, g27_95c, am4_len, mrow_eq, mrow_ne, mset_mrow, Int.toNat_natCast, nc_1, fset_eq, fset_ne, K0, P0, h4, i1, i2, q]
      · obtain ⟨m5, m6, m7, z⟩ := ih (i + 1) 0 (some (aI ((a : Int) + (i : Int)))) (some (aI (6 * (w : Int) + (i : Int)))) (some (aI (f (a + i)))) (by omega)
        refine ⟨m5, m6, m7, ?_⟩
        rw [smF, e1, if_neg hc, ← z, g27_21]
        simp (disch := omega) only [g27_0, g27_1, g27_3t, g27_3f, g27_6, g27_7, g27_8, g27_9, g27_11, g27_13t, g27_13f, g27_16, g27_17, g27_18, g27_19, g27_23, g27_25t, g27_25f, g27_28, g27_29, g27_32, g27_34, g27_35, g27_37, g27_39, g27_40, g27_41, g27_43, g27_44, g27_46, g27_48, g27_49t, g27_49f, g27_52, g27_54t, g27_54f, g27_57, g27_59, g27_60, g27_63, g27_64t, g27_64f, g27_67, g27_68, g27_71, g27_73, g27_74, g27_77, g27_79, g27_81, g27_83, g27_85, g27_88t, g27_88f, g27_91, g27_93, g27_98, g27_100t, g27_100f, g27_103, g27_104, g27_105, g27_108, g27_111, g27_112t, g27_112f, g27_115, g27_116, g27_117, g27_120, g27_123, g27_124, cont_1, cont_0, w32_o, g27_95c, am4_len, mrow_eq, mrow_ne, mset_mrow, Int.toNat_natCast, nc_1, fset_eq, fset_ne, K0, P0, h4, i1, i2, q]
    · have e1 : ch f a n i = 32 := if_neg hi
      by_cases hc : cT (6 * w + i) = 32
      · obtain ⟨m5, m6, m7, z⟩ := ih (i + 1) s (some (aI ((a : Int) + (i : Int)))) (some (aI (6 * (w : Int) + (i : Int)))) (some (aI 32)) (by omega)
        refine ⟨m5, m6, m7, ?_⟩
        rw [smF, e1, if_pos hc, ← z, g27_21]
        simp (disch := omega) only [g27_0, g27_1, g27_3t, g27_3f, g27_6, g27_7, g27_8, g27_9, g27_11, g27_13t, g27_13f, g27_16, g27_17, g27_18, g27_19, g27_23, g27_25t, g27_25f, g27_28, g27_29, g27_32, g27_34, g27_35, g27_37, g27_39, g27_40, g27_41, g27_43, g27_44, g27_46, g27_48, g27_49t, g27_49f, g27_52, g27_54t, g27_54f, g27_57, g27_59, g27_60, g27_63, g27_64t, g27_64f, g27_67, g27_68, g27_71, g27_73, g27_74, g27_77, g27_79, g27_81, g27_83, g27_85, g27_88t, g27_88f, g27_91, g27_93, g27_98, g27_100t, g27_100f, g27_103, g27_104, g27_105, g27_108, g27_111, g27_112t, g27_112f, g27_115, g27_116, g27_117, g27_120, g27_123, g27_124, cont_1, cont_0, w32_o, g27_95c, am4_len, mrow_eq, mrow_ne, mset_mrow, Int.toNat_natCast, nc_1, fset_eq, fset_ne, K0, P0, h4, i1, i2]
      · obtain ⟨m5, m6, m7, z⟩ := ih (i + 1) 0 (some (aI ((a : Int) + (i : Int)))) (some (aI (6 * (w : Int) + (i : Int)))) (some (aI 32)) (by omega)
        refine ⟨m5, m6, m7, ?_⟩
        rw [smF, e1, if_neg hc, ← z, g27_21]
        simp (disch := omega) only [g27_0, g27_1, g27_3t, g27_3f, g27_6, g27_7, g27_8, g27_9, g27_11, g27_13t, g27_13f, g27_16, g27_17, g27_18, g27_19, g27_23, g27_25t, g27_25f, g27_28, g27_29, g27_32, g27_34, g27_35, g27_37, g27_39, g27_40, g27_41, g27_43, g27_44, g27_46, g27_48, g27_49t, g27_49f, g27_52, g27_54t, g27_54f, g27_57, g27_59, g27_60, g27_63, g27_64t, g27_64f, g27_67, g27_68, g27_71, g27_73, g27_74, g27_77, g27_79, g27_81, g27_83, g27_85, g27_88t, g27_88f, g27_91, g27_93, g27_98, g27_100t, g27_100f, g27_103, g27_104, g27_105, g27_108, g27_111, g27_112t, g27_112f, g27_115, g27_116, g27_117, g27_120, g27_123, g27_124, cont_1, cont_0, w32_o, g27_95c, am4_len, mrow_eq, mrow_ne, mset_mrow, Int.toNat_natCast, nc_1, fset_eq, fset_ne, K0, P0, h4, i1, i2]
theorem wn_out {r ra ta la sz a n : Nat} {f : Nat → Int} {M : Mem} {S : Sh} (hR : RdSh S ra ta la) (hz : sz ≤ 160) (hf : ∀ k, k < sz → M ta k = f k) (h4 : M ra 4 = (a : Int)) (ha : a + n ≤ sz) : ∀ (k w : Nat) (l3 l4 l5 l6 l7 : Option AV), w + k = 12 → go r 27 10 [some (aR ra), some (aI (n : Int)), some (aI (w : Int)), l3, l4, l5, l6, l7] [] M S = some (some (aI (if fstB (mtC f a n) k w < 12 then ((fstB (mtC f a n) k w : Nat) : Int) else -1)), M, S) := by
  have ⟨K0, P0, P2, Kt, Lt, hL, ⟨n0, n1, n2⟩, _, _⟩ := hR
  intro k
  induction k with
  | zero =>
    intro w l3 l4 l5 l6 l7 hk
    obtain rfl : w = 12 := by omega
    rw [show fstB (mtC f a n) 0 12 = 12 from rfl, if_neg (by omega), g27_10]
    simp (disch := omega) only [g27_0, g27_1, g27_3t, g27_3f, g27_6, g27_7, g27_8, g27_9, g27_11, g27_13t, g27_13f, g27_16, g27_17, g27_18, g27_19, g27_23, g27_25t, g27_25f, g27_28, g27_29, g27_32, g27_34, g27_35, g27_37, g27_39, g27_40, g27_41, g27_43, g27_44, g27_46, g27_48, g27_49t, g27_49f, g27_52, g27_54t, g27_54f, g27_57, g27_59, g27_60, g27_63, g27_64t, g27_64f, g27_67, g27_68, g27_71, g27_73, g27_74, g27_77, g27_79, g27_81, g27_83, g27_85, g27_88t, g27_88f, g27_91, g27_93, g27_98, g27_100t, g27_100f, g27_103, g27_104, g27_105, g27_108, g27_111, g27_112t, g27_112f, g27_115, g27_116, g27_117, g27_120, g27_123, g27_124, cont_1, cont_0, w32_o, mrow_eq, mrow_ne, mset_mrow, Int.toNat_natCast, nc_1, fset_eq, fset_ne]
  | succ k ih =>
    intro w l3 l4 l5 l6 l7 hk
    obtain ⟨m5, m6, m7, z⟩ := wn_in (r := r) hR hz hf h4 ha (w := w) (by omega) 6 0 1 l5 l6 l7 (by omega)
    have z' : go r 27 21 [some (aR ra), some (aI (n : Int)), some (aI (w : Int)), some (aI 1), some (aI 0), l5, l6, l7] [] M S = _ := z
    cases hb : mtC f a n w
    · rw [fstB_f hb, ← ih (w + 1) (some (aI 0)) (some (aI 6)) m5 m6 m7 (by omega), g27_10]
      rw [smF_m.2 hb] at z'
      simp (disch := omega) only [g27_0, g27_1, g27_3t, g27_3f, g27_6, g27_7, g27_8, g27_9, g27_11, g27_13t, g27_13f, g27_16, g27_17, g27_18, g27_19, g27_23, g27_25t, g27_25f, g27_28, g27_29, g27_32, g27_34, g27_35, g27_37, g27_39, g27_40, g27_41, g27_43, g27_44, g27_46, g27_48, g27_49t, g27_49f, g27_52, g27_54t, g27_54f, g27_57, g27_59, g27_60, g27_63, g27_64t, g27_64f, g27_67, g27_68, g27_71, g27_73, g27_74, g27_77, g27_79, g27_81, g27_83, g27_85, g27_88t, g27_88f, g27_91, g27_93, g27_98, g27_100t, g27_100f, g27_103, g27_104, g27_105, g27_108, g27_111, g27_112t, g27_112f, g27_115, g27_116, g27_117, g27_120, g27_123, g27_124, cont_1, cont_0, w32_o, mrow_eq, mrow_ne, mset_mrow, Int.toNat_natCast, nc_1, fset_eq, fset_ne, z']
    · rw [fstB_t hb, if_pos (by omega), g27_10]
      rw [smF_m.1 hb] at z'
      simp (disch := omega) only [g27_0, g27_1, g27_3t, g27_3f, g27_6, g27_7, g27_8, g27_9, g27_11, g27_13t, g27_13f, g27_16, g27_17, g27_18, g27_19, g27_23, g27_25t, g27_25f, g27_28, g27_29, g27_32, g27_34, g27_35, g27_37, g27_39, g27_40, g27_41, g27_43, g27_44, g27_46, g27_48, g27_49t, g27_49f, g27_52, g27_54t, g27_54f, g27_57, g27_59, g27_60, g27_63, g27_64t, g27_64f, g27_67, g27_68, g27_71, g27_73, g27_74, g27_77, g27_79, g27_81, g27_83, g27_85, g27_88t, g27_88f, g27_91, g27_93, g27_98, g27_100t, g27_100f, g27_103, g27_104, g27_105, g27_108, g27_111, g27_112t, g27_112f, g27_115, g27_116, g27_117, g27_120, g27_123, g27_124, cont_1, cont_0, w32_o, mrow_eq, mrow_ne, mset_mrow, Int.toNat_natCast, nc_1, fset_eq, fset_ne, z']
theorem wn_ {ra ta la sz a n : Nat} {f : Nat → Int} {M : Mem} {S : Sh} (hR : RdSh S ra ta la) (hz : sz ≤ 160) (hf : ∀ k, k < sz → M ta k = f k) (h4 : M ra 4 = (a : Int)) (ha : a + n ≤ sz) (hl : ∀ c, c < n → 97 ≤ f (a + c)) : res 27 [aR ra, aI (n : Int)] M S = some (some (aI (cw (wd f a n))), M, S) := by
  have ⟨K0, P0, P2, Kt, Lt, hL, ⟨n0, n1, n2⟩, _, _⟩ := hR
  rw [g27]
  by_cases h6 : 6 < n
  · rw [wd_long hl h6]
    simp (disch := omega) only [g27_0, g27_1, g27_3t, g27_3f, g27_6, g27_7, g27_8, g27_9, g27_11, g27_13t, g27_13f, g27_16, g27_17, g27_18, g27_19, g27_23, g27_25t, g27_25f, g27_28, g27_29, g27_32, g27_34, g27_35, g27_37, g27_39, g27_40, g27_41, g27_43, g27_44, g27_46, g27_48, g27_49t, g27_49f, g27_52, g27_54t, g27_54f, g27_57, g27_59, g27_60, g27_63, g27_64t, g27_64f, g27_67, g27_68, g27_71, g27_73, g27_74, g27_77, g27_79, g27_81, g27_83, g27_85, g27_88t, g27_88f, g27_91, g27_93, g27_98, g27_100t, g27_100f, g27_103, g27_104, g27_105, g27_108, g27_111, g27_112t, g27_112f, g27_115, g27_116, g27_117, g27_120, g27_123, g27_124, cont_1, cont_0, w32_o, mrow_eq, mrow_ne, mset_mrow, Int.toNat_natCast, nc_1, fset_eq, fset_ne]
    rfl
  · have z := wn_out (r := 10) hR hz hf h4 ha 12 0 none none none none none (by omega)
    have c := @wd_c f a n (by omega)
    have g := fstB_ge (mtC f a n) 12 0
    have e : (if fstB (mtC f a n) 12 0 < 12 then ((fstB (mtC f a n) 12 0 : Nat) : Int) else -1) = cw (wd f a n) := by
      by_cases h12 : fstB (mtC f a n) 12 0 < 12
      · rw [if_pos h12, c.1 h12]
      · rw [if_neg h12, c.2 (by omega)]
    rw [e] at z
    have z' : go 10 27 10 [some (aR ra), some (aI (n : Int)), some (aI 0), none, none, none, none, none] [] M S = _ := z
    simp (disch := omega) only [g27_0, g27_1, g27_3t, g27_3f, g27_6, g27_7, g27_8, g27_9, g27_11, g27_13t, g27_13f, g27_16, g27_17, g27_18, g27_19, g27_23, g27_25t, g27_25f, g27_28, g27_29, g27_32, g27_34, g27_35, g27_37, g27_39, g27_40, g27_41, g27_43, g27_44, g27_46, g27_48, g27_49t, g27_49f, g27_52, g27_54t, g27_54f, g27_57, g27_59, g27_60, g27_63, g27_64t, g27_64f, g27_67, g27_68, g27_71, g27_73, g27_74, g27_77, g27_79, g27_81, g27_83, g27_85, g27_88t, g27_88f, g27_91, g27_93, g27_98, g27_100t, g27_100f, g27_103, g27_104, g27_105, g27_108, g27_111, g27_112t, g27_112f, g27_115, g27_116, g27_117, g27_120, g27_123, g27_124, cont_1, cont_0, w32_o, mrow_eq, mrow_ne, mset_mrow, Int.toNat_natCast, nc_1, fset_eq, fset_ne, z']
theorem rw_ {ra ta la sz q : Nat} {f : Nat → Int} {M : Mem} {S : Sh} {ρ : Nat → Int} (hR : RdSh S ra ta la) (hz : sz ≤ 160) (hf : ∀ k, k < sz → M ta k = f k) (h1 : ρ 1 = (sz : Int)) (h3 : ρ 3 = (q : Int)) (h4 : ρ 4 = (q : Int)) (hq : q ≤ sz) : ∃ ρ', res 26 [aR ra] (mrow M ra ρ) S = some (none, mrow M ra ρ', S) ∧ ρ' 1 = (sz : Int) ∧ ρ' 7 = ρ 7 ∧ ρ' 4 = (q : Int) ∧ ρ' 3 = ((leE f sz q : Nat) : Int) ∧ ρ' 5 = ckd (wkd (wd f q (leE f sz q - q))).1 (wkd (wd f q (leE f sz q - q))).2 ∧ ((wkd (wd f q (leE f sz q - q))).1 = 2 → ρ' 6 = (wkd (wd f q (leE f sz q - q))).2) := by
  have ⟨K0, P0, P2, Kt, Lt, hL, ⟨n0, n1, n2⟩, _, _⟩ := hR
  have hf' : ∀ (g : Nat → Int) (k : Nat), k < sz → mrow M ra g ta k = f k := fun g k hk => by
    rw [mrow_ne _ _ (by omega)]
    exact hf k hk
  have s1 := skp26 (r := 11) (l1 := none) (by omega) hR hz hf (sz - q) q ρ h1 h3 (by omega)
  have g := spn_ge bLe f (sz - q) q
  have hl : ∀ c, c < leE f sz q - q → 97 ≤ f (q + c) := fun c hc => (bLe_t (spn_in bLe f (sz - q) q (q + c) (by omega) (by unfold leE at hc; omega))).1
  have ge : spn bLe f (sz - q) q = leE f sz q := rfl
  rw [ge] at s1 g
  have w := fun (g' : Nat → Int) (hg : g' 4 = (q : Int)) => wn_ (n := leE f sz q - q) (M := mrow M ra g') hR hz (hf' g') (by rw [mrow_eq]; exact hg) (by omega) hl
  obtain ⟨e, he⟩ : ∃ e, e = leE f sz q := ⟨_, rfl⟩
  rw [← he] at s1 g w ⊢
  have w1 := w (fset ρ 3 (e : Int)) (by rw [fset_ne _ _ (by omega)]; exact h4)
  rw [show ((e - q : Nat) : Int) = (e : Int) - (q : Int) by omega] at w1
  obtain ⟨k, hk⟩ : ∃ k, k = wd f q (e - q) := ⟨_, rfl⟩
  have k12 : k ≤ 12 := by rw [hk]; exact wd_le
  rw [← hk] at w1 ⊢
  clear w hl hf' hf he
  rcases (by omega : k < 3 ∨ (3 ≤ k ∧ k < 9) ∨ (9 ≤ k ∧ k < 12) ∨ k = 12) with c | c | c | c
  · have ew : wkd k = (3, (k : Int)) := if_pos c
    have ec : cw k = (k : Int) := if_pos c
    rw [ec] at w1
    rw [ew]
    refine ⟨fset (fset ρ 3 (e : Int)) 5 (4 + (k : Int)), ?_, ?_, ?_, ?_, ?_, ?_, ?_⟩
    · rw [g26, s1]
      simp (disch := omega) only [g26_1, g26_4, g26_5, g26_8t, g26_8f, g26_11, g26_12, g26_15, g26_16, g26_19, g26_22, g26_25t, g26_25f, g26_28, g26_29, g26_30, g26_33, g26_34, g26_35, g26_38, g26_41, g26_42, g26_43, g26_46, g26_47, g26_50, g26_51, g26_54, g26_55, g26_56, g26_57t, g26_57f, g26_60, g26_61, g26_62, g26_65, g26_68, g26_69, g26_71t, g26_71f, g26_74, g26_75, g26_76, g26_77, g26_78, g26_81, g26_84, g26_85, g26_86, g26_89, g26_90, g26_91, g26_93, g26_94, g26_97, cont_1, cont_0, w32_o, mrow_eq, mrow_ne, mset_mrow, Int.toNat_natCast, nc_1, fset_eq, fset_ne, K0, P0, h4, w1]
    · simp (disch := omega) only [fset_ne, h1]
    · simp (disch := omega) only [fset_ne]
    · simp (disch := omega) only [fset_ne, h4]
    · simp (disch := omega) only [fset_ne, fset_eq]
    · rw [fset_eq]; rfl
    · intro z; exact absurd z (by show ¬ (3 : Int) = 2; decide)
  · have ew : wkd k = (2, (k : Int) - 3) := by unfold wkd; rw [if_neg (by omega), if_pos (by omega)]
    have ec : cw k = (k : Int) + 3 := by unfold cw; rw [if_neg (by omega), if_pos (by omega)]
    rw [ec] at w1
    rw [ew]
    refine ⟨fset (fset (fset ρ 3 (e : Int)) 5 3) 6 ((k : Int) + 3 - 6), ?_, ?_, ?_, ?_, ?_, ?_, ?_⟩
    · rw [g26, s1]
      simp (disch := omega) only [g26_1, g26_4, g26_5, g26_8t, g26_8f, g26_11, g26_12, g26_15, g26_16, g26_19, g26_22, g26_25t, g26_25f, g26_28, g26_29, g26_30, g26_33, g26_34, g26_35, g26_38, g26_41, g26_42, g26_43, g26_46, g26_47, g26_50, g26_51, g26_54, g26_55, g26_56, g26_57t, g26_57f, g26_60, g26_61, g26_62, g26_65, g26_68, g26_69, g26_71t, g26_71f, g26_74, g26_75, g26_76, g26_77, g26_78, g26_81, g26_84, g26_85, g26_86, g26_89, g26_90, g26_91, g26_93, g26_94, g26_97, cont_1, cont_0, w32_o, mrow_eq, mrow_ne, mset_mrow, Int.toNat_natCast, nc_1, fset_eq, fset_ne, K0, P0, h4, w1]
    · simp (disch := omega) only [fset_ne, h1]
    · simp (disch := omega) only [fset_ne]
    · simp (disch := omega) only [fset_ne, h4]
    · simp (disch := omega) only [fset_ne, fset_eq]
    · simp (disch := omega) only [fset_ne, fset_eq]; rfl
    · intro z; rw [fset_eq]; show (k : Int) + 3 - 6 = (k : Int) - 3; omega
  · have ew : wkd k = ((k : Int) - 5, 0) := by unfold wkd; rw [if_neg (by omega), if_neg (by omega), if_pos (by omega)]
    have ec : cw k = (k : Int) - 6 := by unfold cw; rw [if_neg (by omega), if_neg (by omega), if_pos (by omega)]
    rw [ec] at w1
    rw [ew]
    refine ⟨fset (fset ρ 3 (e : Int)) 5 (4 + ((k : Int) - 6)), ?_, ?_, ?_, ?_, ?_, ?_, ?_⟩
    · rw [g26, s1]
      simp (disch := omega) only [g26_1, g26_4, g26_5, g26_8t, g26_8f, g26_11, g26_12, g26_15, g26_16, g26_19, g26_22, g26_25t, g26_25f, g26_28, g26_29, g26_30, g26_33, g26_34, g26_35, g26_38, g26_41, g26_42, g26_43, g26_46, g26_47, g26_50, g26_51, g26_54, g26_55, g26_56, g26_57t, g26_57f, g26_60, g26_61, g26_62, g26_65, g26_68, g26_69, g26_71t, g26_71f, g26_74, g26_75, g26_76, g26_77, g26_78, g26_81, g26_84, g26_85, g26_86, g26_89, g26_90, g26_91, g26_93, g26_94, g26_97, cont_1, cont_0, w32_o, mrow_eq, mrow_ne, mset_mrow, Int.toNat_natCast, nc_1, fset_eq, fset_ne, K0, P0, h4, w1]
    · simp (disch := omega) only [fset_ne, h1]
    · simp (disch := omega) only [fset_ne]
    · simp (disch := omega) only [fset_ne, h4]
    · simp (disch := omega) only [fset_ne, fset_eq]
    · rw [fset_eq]
      show 4 + ((k : Int) - 6) = ckd ((k : Int) - 5) 0
      rcases (by omega : k = 9 ∨ k = 10 ∨ k = 11) with rfl | rfl | rfl <;> rfl
    · intro z
      have : (k : Int) - 5 = 2 := z
      omega
  · have ew : wkd k = (-1, 0) := by unfold wkd; rw [if_neg (by omega), if_neg (by omega), if_neg (by omega)]
    have ec : cw k = -1 := by unfold cw; rw [if_neg (by omega), if_neg (by omega), if_neg (by omega)]
    rw [ec] at w1
    rw [ew]
    refine ⟨fset (fset ρ 3 (e : Int)) 5 1, ?_, ?_, ?_, ?_, ?_, ?_, ?_⟩
    · rw [g26, s1]
      simp (disch := omega) only [g26_1, g26_4, g26_5, g26_8t, g26_8f, g26_11, g26_12, g26_15, g26_16, g26_19, g26_22, g26_25t, g26_25f, g26_28, g26_29, g26_30, g26_33, g26_34, g26_35, g26_38, g26_41, g26_42, g26_43, g26_46, g26_47, g26_50, g26_51, g26_54, g26_55, g26_56, g26_57t, g26_57f, g26_60, g26_61, g26_62, g26_65, g26_68, g26_69, g26_71t, g26_71f, g26_74, g26_75, g26_76, g26_77, g26_78, g26_81, g26_84, g26_85, g26_86, g26_89, g26_90, g26_91, g26_93, g26_94, g26_97, cont_1, cont_0, w32_o, mrow_eq, mrow_ne, mset_mrow, Int.toNat_natCast, nc_1, fset_eq, fset_ne, K0, P0, h4, w1]
    · simp (disch := omega) only [fset_ne, h1]
    · simp (disch := omega) only [fset_ne]
    · simp (disch := omega) only [fset_ne, h4]
    · simp (disch := omega) only [fset_ne, fset_eq]
    · rw [fset_eq]; rfl
    · intro z; exact absurd z (by show ¬ (-1 : Int) = 2; decide)
theorem rn_in {ra ta la sz q r : Nat} {f : Nat → Int} {M : Mem} {S : Sh} (hr : 10 < r) (hR : RdSh S ra ta la) (hz : sz ≤ 160) (hf : ∀ k, k < sz → M ta k = f k) : ∀ (k j : Nat) (v : Int) (ρ : Nat → Int), ρ 1 = (sz : Int) → ρ 3 = ((q + j : Nat) : Int) → ρ 6 = v → q + j + k = sz → (∀ i, i < j → 48 ≤ f (q + i) ∧ f (q + i) ≤ 57) → (j ≤ 4 → v = dv f q j) → ∃ ρ', go r 28 5 [some (aR ra)] [] (mrow M ra ρ) S = go r 28 72 [some (aR ra)] [] (mrow M ra ρ') S ∧ (∀ i, i ≠ 3 → i ≠ 6 → ρ' i = ρ i) ∧ ρ' 3 = ((spn bDi f k (q + j) : Nat) : Int) ∧ (spn bDi f k (q + j) - q ≤ 4 → ρ' 6 = dv f q (spn bDi f k (q + j) - q)) := by
  have ⟨K0, P0, P2, Kt, Lt, hL, ⟨n0, n1, n2⟩, _, _⟩ := hR
  intro k
  induction k with
  | zero =>
    intro j v ρ h1 h3 h6 hk hd hv
    have e0 : spn bDi f 0 (q + j) = q + j := rfl
    rw [e0, show q + j - q = j by omega]
    refine ⟨ρ, ?_, fun _ _ _ => rfl, h3, fun h => h6.trans (hv h)⟩
    rw [g28_5]
    simp (disch := omega) only [g28_0, g28_1, g28_2, g28_6, g28_9, g28_10, g28_13t, g28_13f, g28_16, g28_17, g28_20, g28_21, g28_24, g28_27, g28_30t, g28_30f, g28_33, g28_34, g28_36, g28_37, g28_40, g28_41, g28_42, g28_45, g28_46, g28_49, g28_52, g28_53, g28_55, g28_56, g28_59, g28_60, g28_61, g28_64, g28_65, g28_66, g28_69, g28_72, g28_73, g28_74, g28_77, g28_78, g28_81, g28_82, g28_83t, g28_83f, g28_86, g28_87, g28_90, g28_91, g28_94, cont_1, cont_0, w32_o, mrow_eq, mrow_ne, mset_mrow, Int.toNat_natCast, nc_1, fset_eq, fset_ne, h1, h3]
  | succ k ih =>
    intro j v ρ h1 h3 h6 hk hd hv
    have c := hf (q + j) (by omega)
    cases hb : bDi (f (q + j))
    · have hb' := bDi_f hb
      rw [spn_e hb, show q + j - q = j by omega]
      refine ⟨ρ, ?_, fun _ _ _ => rfl, h3, fun h => h6.trans (hv h)⟩
      rw [g28_5]
      simp (disch := omega) only [g28_0, g28_1, g28_2, g28_6, g28_9, g28_10, g28_13t, g28_13f, g28_16, g28_17, g28_20, g28_21, g28_24, g28_27, g28_30t, g28_30f, g28_33, g28_34, g28_36, g28_37, g28_40, g28_41, g28_42, g28_45, g28_46, g28_49, g28_52, g28_53, g28_55, g28_56, g28_59, g28_60, g28_61, g28_64, g28_65, g28_66, g28_69, g28_72, g28_73, g28_74, g28_77, g28_78, g28_81, g28_82, g28_83t, g28_83f, g28_86, g28_87, g28_90, g28_91, g28_94, cont_1, cont_0, w32_o, mrow_eq, mrow_ne, mset_mrow, Int.toNat_natCast, nc_1, fset_eq, fset_ne, K0, P0, h1, h3, at_in, c, isDi_f]
    · have hb' := bDi_t hb
      obtain ⟨v2, hv2⟩ : ∃ v2, v2 = w32 (w32 (w32 (10 * v) + f (q + j)) - 48) := ⟨_, rfl⟩
      have d1 : ∀ i, i < j + 1 → 48 ≤ f (q + i) ∧ f (q + i) ≤ 57 := fun i hi => by
        by_cases hij : i = j
        · rw [hij]; exact hb'
        · exact hd i (by omega)
      have z := ih (j + 1) v2 (fset (fset ρ 6 v2) 3 ((q + (j + 1) : Nat) : Int)) (by simp (disch := omega) only [fset_ne, h1]) (fset_eq _ _ _) (by simp (disch := omega) only [fset_ne, fset_eq]) (by omega) d1 (fun h => by
        have e := hv (by omega)
        have b := dv_le (f := f) (p := q) (n := j) hd (by omega)
        have e2 : dv f q (j + 1) = 10 * dv f q j + (f (q + j) - 48) := rfl
        rw [hv2, e2, e]
        rw [w32_o (x := 10 * dv f q j) (by omega) (by omega), w32_o (x := 10 * dv f q j + f (q + j)) (by omega) (by omega), w32_o (x := 10 * dv f q j + f (q + j) - 48) (by omega) (by omega)]
        omega)
      obtain ⟨ρ', z1, z2, z3, z4⟩ := z
      rw [show q + (j + 1) = q + j + 1 by omega] at z1 z3 z4
      rw [spn_s hb]
      refine ⟨ρ', ?_, fun i h3' h6' => ?_, z3, z4⟩
      · rw [← z1, g28_5]
        simp (disch := omega) only [g28_0, g28_1, g28_2, g28_6, g28_9, g28_10, g28_13t, g28_13f, g28_16, g28_17, g28_20, g28_21, g28_24, g28_27, g28_30t, g28_30f, g28_33, g28_34, g28_36, g28_37, g28_40, g28_41, g28_42, g28_45, g28_46, g28_49, g28_52, g28_53, g28_55, g28_56, g28_59, g28_60, g28_61, g28_64, g28_65, g28_66, g28_69, g28_72, g28_73, g28_74, g28_77, g28_78, g28_81, g28_82, g28_83t, g28_83f, g28_86, g28_87, g28_90, g28_91, g28_94, cont_1, cont_0, w32_o, mrow_eq, mrow_ne, mset_mrow, Int.toNat_natCast, nc_1, fset_eq, fset_ne, K0, P0, h1, h3, h6, at_in, c, isDi_t]
        rw [hv2]
      · rw [z2 i h3' h6', fset_ne _ _ h3', fset_ne _ _ h6']
theorem rn_ {ra ta la sz q : Nat} {f : Nat → Int} {M : Mem} {S : Sh} {ρ : Nat → Int} (hR : RdSh S ra ta la) (hz : sz ≤ 160) (hf : ∀ k, k < sz → M ta k = f k) (h1 : ρ 1 = (sz : Int)) (h3 : ρ 3 = (q : Int)) (h4 : ρ 4 = (q : Int)) (hq : q ≤ sz) : ∃ ρ', res 28 [aR ra] (mrow M ra ρ) S = some (none, mrow M ra ρ', S) ∧ ρ' 1 = (sz : Int) ∧ ρ' 7 = ρ 7 ∧ ρ' 4 = (q : Int) ∧ ρ' 3 = ((diE f sz q : Nat) : Int) ∧ ρ' 5 = (if diE f sz q - q ≤ 4 then 2 else 1) ∧ (diE f sz q - q ≤ 4 → ρ' 6 = dv f q (diE f sz q - q)) := by
  have ⟨K0, P0, P2, Kt, Lt, hL, ⟨n0, n1, n2⟩, _, _⟩ := hR
  obtain ⟨ρ', z1, z2, z3, z4⟩ := rn_in (r := 11) (q := q) (by omega) hR hz hf (sz - q) 0 0 (fset ρ 6 0) (by simp (disch := omega) only [fset_ne, h1]) (by rw [fset_ne _ _ (by omega)]; exact h3) (fset_eq _ _ _) (by omega) (fun i hi => absurd hi (by omega)) (fun _ => rfl)
  have g := spn_ge bDi f (sz - q) q
  have ge : spn bDi f (sz - q) (q + 0) = diE f sz q := rfl
  have ge' : spn bDi f (sz - q) q = diE f sz q := rfl
  rw [ge'] at g
  rw [ge] at z3 z4
  have y1 := z2 1 (by omega) (by omega)
  have y7 := z2 7 (by omega) (by omega)
  have y4 := z2 4 (by omega) (by omega)
  rw [fset_ne _ _ (by omega)] at y1 y7 y4
  rw [h1] at y1
  rw [h4] at y4
  obtain ⟨e, he⟩ : ∃ e, e = diE f sz q := ⟨_, rfl⟩
  rw [← he] at g z3 z4 ⊢
  by_cases c : e - q ≤ 4
  · rw [if_pos c]
    refine ⟨fset ρ' 5 2, ?_, ?_, ?_, ?_, ?_, fset_eq _ _ _, fun h => ?_⟩
    · rw [g28]
      simp (disch := omega) only [g28_0, g28_1, g28_2, g28_6, g28_9, g28_10, g28_13t, g28_13f, g28_16, g28_17, g28_20, g28_21, g28_24, g28_27, g28_30t, g28_30f, g28_33, g28_34, g28_36, g28_37, g28_40, g28_41, g28_42, g28_45, g28_46, g28_49, g28_52, g28_53, g28_55, g28_56, g28_59, g28_60, g28_61, g28_64, g28_65, g28_66, g28_69, g28_72, g28_73, g28_74, g28_77, g28_78, g28_81, g28_82, g28_83t, g28_83f, g28_86, g28_87, g28_90, g28_91, g28_94, cont_1, cont_0, w32_o, mrow_eq, mrow_ne, mset_mrow, Int.toNat_natCast, nc_1, fset_eq, fset_ne, K0, P0, z1, z3, y4]
    · simp (disch := omega) only [fset_ne, y1]
    · simp (disch := omega) only [fset_ne, y7]
    · simp (disch := omega) only [fset_ne, y4]
    · simp (disch := omega) only [fset_ne, z3]
    · rw [fset_ne _ _ (by omega)]; exact z4 h
  · rw [if_neg c]
    refine ⟨fset ρ' 5 1, ?_, ?_, ?_, ?_, ?_, fset_eq _ _ _, fun h => absurd h c⟩
    · rw [g28]
      simp (disch := omega) only [g28_0, g28_1, g28_2, g28_6, g28_9, g28_10, g28_13t, g28_13f, g28_16, g28_17, g28_20, g28_21, g28_24, g28_27, g28_30t, g28_30f, g28_33, g28_34, g28_36, g28_37, g28_40, g28_41, g28_42, g28_45, g28_46, g28_49, g28_52, g28_53, g28_55, g28_56, g28_59, g28_60, g28_61, g28_64, g28_65, g28_66, g28_69, g28_72, g28_73, g28_74, g28_77, g28_78, g28_81, g28_82, g28_83t, g28_83f, g28_86, g28_87, g28_90, g28_91, g28_94, cont_1, cont_0, w32_o, mrow_eq, mrow_ne, mset_mrow, Int.toNat_natCast, nc_1, fset_eq, fset_ne, K0, P0, z1, z3, y4]
    · simp (disch := omega) only [fset_ne, y1]
    · simp (disch := omega) only [fset_ne, y7]
    · simp (disch := omega) only [fset_ne, y4]
    · simp (disch := omega) only [fset_ne, z3]
theorem ckd_s {c : Int} (h : c = 40 ∨ c = 41 ∨ c = 59 ∨ c = 43 ∨ c = 45 ∨ c = 42 ∨ c = 60 ∨ c = 61) : ckd c 0 = c := by
  unfold ckd
  rw [if_neg (by omega), if_neg (by omega), if_neg (by omega), if_neg (by omega), if_neg (by omega), if_neg (by omega), if_neg (by omega), if_neg (by omega)]
/-- the next token -/
theorem adv_ {ra ta la sz p : Nat} {f : Nat → Int} {M : Mem} {S : Sh} (hR : RdSh S ra ta la) (hz : sz ≤ 160) (hf : ∀ k, k < sz → M ta k = f k) (h1 : M ra 1 = (sz : Int)) (h3 : M ra 3 = (p : Int)) (hp : p ≤ sz) : ∃ ρ', res 25 [aR ra] M S = some (none, mrow M ra ρ', S) ∧ ρ' 1 = (sz : Int) ∧ ρ' 7 = M ra 7 ∧ ρ' 3 = ((tkE f sz p : Nat) : Int) ∧ ρ' 4 = (tkA f sz p).2.2 ∧ ρ' 5 = ckd (tkA f sz p).1 (tkA f sz p).2.1 ∧ ((tkA f sz p).1 = 1 ∨ (tkA f sz p).1 = 2 → ρ' 6 = (tkA f sz p).2.1) := by
  have ⟨K0, P0, P2, Kt, Lt, hL, ⟨n0, n1, n2⟩, _, _⟩ := hR
  have s1 := skp25 (r := 12) (l1 := none) (by omega) hR hz hf (sz - p) p (M ra) h1 h3 (by omega)
  rw [mrow_self] at s1
  have g := spn_ge bBl f (sz - p) p
  have ge : spn bBl f (sz - p) p = pl f sz p := rfl
  rw [ge] at s1 g
  unfold tkE tkA
  obtain ⟨q, hq⟩ : ∃ q, q = pl f sz p := ⟨_, rfl⟩
  rw [← hq] at s1 g ⊢
  obtain ⟨ρ0, hρ⟩ : ∃ ρ0, ρ0 = fset (fset (M ra) 3 (q : Int)) 4 (q : Int) := ⟨_, rfl⟩
  have a1 : ρ0 1 = (sz : Int) := by rw [hρ]; simp (disch := omega) only [fset_ne, h1]
  have a3 : ρ0 3 = (q : Int) := by rw [hρ]; simp (disch := omega) only [fset_ne, fset_eq]
  have a4 : ρ0 4 = (q : Int) := by rw [hρ, fset_eq]
  have a7 : ρ0 7 = M ra 7 := by rw [hρ]; simp (disch := omega) only [fset_ne]
  by_cases hs : sz ≤ q
  · rw [tk_end hs]
    refine ⟨fset ρ0 5 0, ?_, ?_, ?_, ?_, ?_, fset_eq _ _ _, fun z => absurd z (by show ¬ ((0 : Int) = 1 ∨ (0 : Int) = 2); omega)⟩
    · rw [g25, s1]
      simp (disch := omega) only [g25_1, g25_4, g25_5, g25_8t, g25_8f, g25_11, g25_12, g25_15, g25_16, g25_19, g25_22, g25_25t, g25_25f, g25_28, g25_29, g25_30, g25_33, g25_34, g25_35, g25_38, g25_41, g25_42, g25_43, g25_46, g25_49, g25_50, g25_53, g25_54, g25_57t, g25_57f, g25_60, g25_61, g25_62, g25_65, g25_66, g25_67, g25_70, g25_71, g25_74, g25_77, g25_78, g25_79, g25_82t, g25_82f, g25_85, g25_86, g25_89, g25_92, g25_93, g25_96t, g25_96f, g25_99, g25_100, g25_103, g25_106, g25_107, g25_108, g25_111, g25_112, g25_113, g25_116, g25_117, g25_118, g25_121t, g25_121f, g25_124, g25_125, g25_128, g25_129, g25_132, cont_1, cont_0, w32_o, mrow_eq, mrow_ne, mset_mrow, Int.toNat_natCast, nc_1, fset_eq, fset_ne, K0, P0, h1, ← hρ]
    · simp (disch := omega) only [fset_ne, a1]
    · simp (disch := omega) only [fset_ne, a7]
    · simp (disch := omega) only [fset_ne, a3]
    · simp (disch := omega) only [fset_ne, a4]
  · have c := hf q (by omega)
    cases b1 : bLe (f q)
    · have b1' := bLe_f b1
      cases b2 : bDi (f q)
      · have b2' := bDi_f b2
        rw [tk_sig (by omega) b1 b2]
        cases b3 : bSg (f q)
        · have b3' := bSg_f b3
          rw [if_neg (by decide)]
          refine ⟨fset (fset ρ0 3 ((q : Int) + 1)) 5 1, ?_, ?_, ?_, ?_, ?_, fset_eq _ _ _, fun z => absurd z (by show ¬ ((-1 : Int) = 1 ∨ (-1 : Int) = 2); omega)⟩
          · rw [g25, s1]
            simp (disch := omega) only [g25_1, g25_4, g25_5, g25_8t, g25_8f, g25_11, g25_12, g25_15, g25_16, g25_19, g25_22, g25_25t, g25_25f, g25_28, g25_29, g25_30, g25_33, g25_34, g25_35, g25_38, g25_41, g25_42, g25_43, g25_46, g25_49, g25_50, g25_53, g25_54, g25_57t, g25_57f, g25_60, g25_61, g25_62, g25_65, g25_66, g25_67, g25_70, g25_71, g25_74, g25_77, g25_78, g25_79, g25_82t, g25_82f, g25_85, g25_86, g25_89, g25_92, g25_93, g25_96t, g25_96f, g25_99, g25_100, g25_103, g25_106, g25_107, g25_108, g25_111, g25_112, g25_113, g25_116, g25_117, g25_118, g25_121t, g25_121f, g25_124, g25_125, g25_128, g25_129, g25_132, cont_1, cont_0, w32_o, mrow_eq, mrow_ne, mset_mrow, Int.toNat_natCast, nc_1, fset_eq, fset_ne, K0, P0, h1, at_in, c, isLe_f, isDi_f, isSg_f, ← hρ, a3]
          · simp (disch := omega) only [fset_ne, a1]
          · simp (disch := omega) only [fset_ne, a7]
          · simp (disch := omega) only [fset_ne, fset_eq]; show (q : Int) + 1 = ((q + 1 : Nat) : Int); omega
          · simp (disch := omega) only [fset_ne, a4]
        · have b3' := bSg_t b3
          rw [if_pos rfl]
          refine ⟨fset (fset ρ0 3 ((q : Int) + 1)) 5 (f q), ?_, ?_, ?_, ?_, ?_, ?_, fun z => ?_⟩
          · rw [g25, s1]
            simp (disch := omega) only [g25_1, g25_4, g25_5, g25_8t, g25_8f, g25_11, g25_12, g25_15, g25_16, g25_19, g25_22, g25_25t, g25_25f, g25_28, g25_29, g25_30, g25_33, g25_34, g25_35, g25_38, g25_41, g25_42, g25_43, g25_46, g25_49, g25_50, g25_53, g25_54, g25_57t, g25_57f, g25_60, g25_61, g25_62, g25_65, g25_66, g25_67, g25_70, g25_71, g25_74, g25_77, g25_78, g25_79, g25_82t, g25_82f, g25_85, g25_86, g25_89, g25_92, g25_93, g25_96t, g25_96f, g25_99, g25_100, g25_103, g25_106, g25_107, g25_108, g25_111, g25_112, g25_113, g25_116, g25_117, g25_118, g25_121t, g25_121f, g25_124, g25_125, g25_128, g25_129, g25_132, cont_1, cont_0, w32_o, mrow_eq, mrow_ne, mset_mrow, Int.toNat_natCast, nc_1, fset_eq, fset_ne, K0, P0, h1, at_in, c, isLe_f, isDi_f, isSg_t, ← hρ, a3]
          · simp (disch := omega) only [fset_ne, a1]
          · simp (disch := omega) only [fset_ne, a7]
          · simp (disch := omega) only [fset_ne, fset_eq]; show (q : Int) + 1 = ((q + 1 : Nat) : Int); omega
          · simp (disch := omega) only [fset_ne, a4]
          · rw [fset_eq]; exact (ckd_s b3').symm
          · have : f q = 1 ∨ f q = 2 := z
            omega
      · have b2' := bDi_t b2
        rw [tk_dig (by omega) b1 b2]
        obtain ⟨ρ', z0, z1, z7, z4, z3, z5, z6⟩ := rn_ (M := M) (ρ := ρ0) hR hz hf a1 a3 a4 (by omega)
        refine ⟨ρ', ?_, z1, z7.trans a7, z3, z4, ?_, ?_⟩
        · rw [g25, s1]
          simp (disch := omega) only [g25_1, g25_4, g25_5, g25_8t, g25_8f, g25_11, g25_12, g25_15, g25_16, g25_19, g25_22, g25_25t, g25_25f, g25_28, g25_29, g25_30, g25_33, g25_34, g25_35, g25_38, g25_41, g25_42, g25_43, g25_46, g25_49, g25_50, g25_53, g25_54, g25_57t, g25_57f, g25_60, g25_61, g25_62, g25_65, g25_66, g25_67, g25_70, g25_71, g25_74, g25_77, g25_78, g25_79, g25_82t, g25_82f, g25_85, g25_86, g25_89, g25_92, g25_93, g25_96t, g25_96f, g25_99, g25_100, g25_103, g25_106, g25_107, g25_108, g25_111, g25_112, g25_113, g25_116, g25_117, g25_118, g25_121t, g25_121f, g25_124, g25_125, g25_128, g25_129, g25_132, cont_1, cont_0, w32_o, mrow_eq, mrow_ne, mset_mrow, Int.toNat_natCast, nc_1, fset_eq, fset_ne, K0, P0, h1, at_in, c, isLe_f, isDi_t, ← hρ, a3, z0]
        · rw [z5]
          by_cases h4 : diE f sz q - q ≤ 4
          · rw [if_pos h4, if_pos h4]; rfl
          · rw [if_neg h4, if_neg h4]; rfl
        · by_cases h4 : diE f sz q - q ≤ 4
          · rw [if_pos h4]
            exact fun _ => z6 h4
          · rw [if_neg h4]
            exact fun z => absurd z (by show ¬ ((-1 : Int) = 1 ∨ (-1 : Int) = 2); omega)
    · have b1' := bLe_t b1
      rw [tk_let (by omega) b1]
      obtain ⟨ρ', z0, z1, z7, z4, z3, z5, z6⟩ := rw_ (M := M) (ρ := ρ0) hR hz hf a1 a3 a4 (by omega)
      refine ⟨ρ', ?_, z1, z7.trans a7, z3, z4, z5, fun z => ?_⟩
      · rw [g25, s1]
        simp (disch := omega) only [g25_1, g25_4, g25_5, g25_8t, g25_8f, g25_11, g25_12, g25_15, g25_16, g25_19, g25_22, g25_25t, g25_25f, g25_28, g25_29, g25_30, g25_33, g25_34, g25_35, g25_38, g25_41, g25_42, g25_43, g25_46, g25_49, g25_50, g25_53, g25_54, g25_57t, g25_57f, g25_60, g25_61, g25_62, g25_65, g25_66, g25_67, g25_70, g25_71, g25_74, g25_77, g25_78, g25_79, g25_82t, g25_82f, g25_85, g25_86, g25_89, g25_92, g25_93, g25_96t, g25_96f, g25_99, g25_100, g25_103, g25_106, g25_107, g25_108, g25_111, g25_112, g25_113, g25_116, g25_117, g25_118, g25_121t, g25_121f, g25_124, g25_125, g25_128, g25_129, g25_132, cont_1, cont_0, w32_o, mrow_eq, mrow_ne, mset_mrow, Int.toNat_natCast, nc_1, fset_eq, fset_ne, K0, P0, h1, at_in, c, isLe_t, ← hρ, a3, z0]
      · rcases z with z | z
        · exfalso
          have z' : (wkd (wd f q (leE f sz q - q))).1 = 1 := z
          unfold wkd at z'
          repeat' split at z'
          all_goals first | omega | (simp only [] at z'; omega)
        · exact z6 z
