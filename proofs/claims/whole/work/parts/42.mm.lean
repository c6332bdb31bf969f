/-! the model's memory in a flight -/
def MM (M : Mem) (ov : Nat → Int) (cl lo mi fl en : Int) (nm st : Nat → Int) : Mem := fun b j =>
  if b = 84 then (if j = 38 then cl else if j = 39 then lo else if j = 40 then mi else if j = 41 then fl else if j = 42 then en else M 84 j) else if b = 106 then (if j < 192 then mskF (M 86) ov j else M 106 j) else if b = 105 then nm j else if b = 104 then st j else M b j
theorem MM_cl {M : Mem} {ov : Nat → Int} {cl lo mi fl en : Int} {nm st : Nat → Int} : MM M ov cl lo mi fl en nm st 84 38 = cl := rfl
theorem MMs_cl {M : Mem} {ov : Nat → Int} {cl lo mi fl en : Int} {nm st : Nat → Int} {v : Int} : mset (MM M ov cl lo mi fl en nm st) 84 38 v = MM M ov v lo mi fl en nm st := by
  funext b j
  unfold mset MM
  by_cases h : b = 84
  · by_cases h2 : j = 38
    · subst h h2
      rfl
    · rw [if_neg (fun z => h2 z.2), if_pos h, if_pos h]
      simp only [h2, if_false]
  · rw [if_neg (fun z => h z.1), if_neg h, if_neg h]
theorem MM_lo {M : Mem} {ov : Nat → Int} {cl lo mi fl en : Int} {nm st : Nat → Int} : MM M ov cl lo mi fl en nm st 84 39 = lo := rfl
theorem MMs_lo {M : Mem} {ov : Nat → Int} {cl lo mi fl en : Int} {nm st : Nat → Int} {v : Int} : mset (MM M ov cl lo mi fl en nm st) 84 39 v = MM M ov cl v mi fl en nm st := by
  funext b j
  unfold mset MM
  by_cases h : b = 84
  · by_cases h2 : j = 39
    · subst h h2
      rfl
    · rw [if_neg (fun z => h2 z.2), if_pos h, if_pos h]
      simp only [h2, if_false]
  · rw [if_neg (fun z => h z.1), if_neg h, if_neg h]
theorem MM_mi {M : Mem} {ov : Nat → Int} {cl lo mi fl en : Int} {nm st : Nat → Int} : MM M ov cl lo mi fl en nm st 84 40 = mi := rfl
theorem MMs_mi {M : Mem} {ov : Nat → Int} {cl lo mi fl en : Int} {nm st : Nat → Int} {v : Int} : mset (MM M ov cl lo mi fl en nm st) 84 40 v = MM M ov cl lo v fl en nm st := by
  funext b j
  unfold mset MM
  by_cases h : b = 84
  · by_cases h2 : j = 40
    · subst h h2
      rfl
    · rw [if_neg (fun z => h2 z.2), if_pos h, if_pos h]
      simp only [h2, if_false]
  · rw [if_neg (fun z => h z.1), if_neg h, if_neg h]
theorem MM_fl {M : Mem} {ov : Nat → Int} {cl lo mi fl en : Int} {nm st : Nat → Int} : MM M ov cl lo mi fl en nm st 84 41 = fl := rfl
theorem MMs_fl {M : Mem} {ov : Nat → Int} {cl lo mi fl en : Int} {nm st : Nat → Int} {v : Int} : mset (MM M ov cl lo mi fl en nm st) 84 41 v = MM M ov cl lo mi v en nm st := by
  funext b j
  unfold mset MM
  by_cases h : b = 84
  · by_cases h2 : j = 41
    · subst h h2
      rfl
    · rw [if_neg (fun z => h2 z.2), if_pos h, if_pos h]
      simp only [h2, if_false]
  · rw [if_neg (fun z => h z.1), if_neg h, if_neg h]
theorem MM_en {M : Mem} {ov : Nat → Int} {cl lo mi fl en : Int} {nm st : Nat → Int} : MM M ov cl lo mi fl en nm st 84 42 = en := rfl
theorem MMs_en {M : Mem} {ov : Nat → Int} {cl lo mi fl en : Int} {nm st : Nat → Int} {v : Int} : mset (MM M ov cl lo mi fl en nm st) 84 42 v = MM M ov cl lo mi fl v nm st := by
  funext b j
  unfold mset MM
  by_cases h : b = 84
  · by_cases h2 : j = 42
    · subst h h2
      rfl
    · rw [if_neg (fun z => h2 z.2), if_pos h, if_pos h]
      simp only [h2, if_false]
  · rw [if_neg (fun z => h z.1), if_neg h, if_neg h]
theorem MM_84 {M : Mem} {ov : Nat → Int} {cl lo mi fl en : Int} {nm st : Nat → Int} {j : Nat} (h : j < 38 ∨ 42 < j) : MM M ov cl lo mi fl en nm st 84 j = M 84 j := by
  unfold MM
  rw [if_pos rfl, if_neg (by omega), if_neg (by omega), if_neg (by omega), if_neg (by omega), if_neg (by omega)]
theorem MM_cv {M : Mem} {ov : Nat → Int} {cl lo mi fl en : Int} {nm st : Nat → Int} {k : Nat} (h : k < 192) : MM M ov cl lo mi fl en nm st 106 k = mskF (M 86) ov k := by
  unfold MM
  rw [if_neg (by decide), if_pos rfl, if_pos h]
theorem MM_nm {M : Mem} {ov : Nat → Int} {cl lo mi fl en : Int} {nm st : Nat → Int} : MM M ov cl lo mi fl en nm st 105 = nm := rfl
theorem MM_st {M : Mem} {ov : Nat → Int} {cl lo mi fl en : Int} {nm st : Nat → Int} : MM M ov cl lo mi fl en nm st 104 = st := rfl
theorem MM_o {M : Mem} {ov : Nat → Int} {cl lo mi fl en : Int} {nm st : Nat → Int} {b : Nat} (h0 : b ≠ 84) (h1 : b ≠ 106) (h2 : b ≠ 105) (h3 : b ≠ 104) : MM M ov cl lo mi fl en nm st b = M b := by
  funext j
  unfold MM
  rw [if_neg h0, if_neg h1, if_neg h2, if_neg h3]
theorem msk_s0 {c ov : Nat → Int} {k : Nat} {v : Int} (h : c k = 0) : fset (mskF c ov) k v = mskF c (fset ov k v) := by
  funext j
  by_cases hj : j = k
  · rw [hj, fset_eq]
    unfold mskF
    rw [if_pos h, fset_eq]
  · rw [fset_ne _ _ hj]
    unfold mskF
    rw [fset_ne _ _ hj]
theorem msk_s1 {c ov : Nat → Int} {k : Nat} {v : Int} (h : c k ≠ 0) : mskF c (fset ov k v) = mskF c ov := by
  funext j
  unfold mskF
  by_cases hj : j = k
  · rw [hj, if_neg h, if_neg h]
  · rw [fset_ne _ _ hj]
theorem MMs_cv0 {M : Mem} {ov : Nat → Int} {cl lo mi fl en : Int} {nm st : Nat → Int} {k : Nat} {v : Int} (h : k < 192) (hc : M 86 k = 0) : mset (MM M ov cl lo mi fl en nm st) 106 k v = MM M (fset ov k v) cl lo mi fl en nm st := by
  funext b j
  unfold mset MM
  rw [← msk_s0 hc]
  unfold fset
  by_cases h1 : b = 106
  · subst h1
    by_cases h2 : j = k
    · subst h2
      rw [if_pos ⟨rfl, rfl⟩, if_neg (by decide), if_pos rfl, if_pos h, if_pos rfl]
    · rw [if_neg (fun z => h2 z.2)]
      show (if j < 192 then mskF (M 86) ov j else M 106 j) = (if j < 192 then (if j = k then v else mskF (M 86) ov j) else M 106 j)
      rw [if_neg h2]
  · rw [if_neg (fun z => h1 z.1), if_neg h1, if_neg h1]
theorem MMs_cv1 {M : Mem} {ov : Nat → Int} {cl lo mi fl en : Int} {nm st : Nat → Int} {k : Nat} {v : Int} (h : k < 192) (hc : M 86 k = 1) : mset (MM M ov cl lo mi fl en nm st) 106 k (w32 (mskF (M 86) ov k + 0)) = MM M (fset ov k v) cl lo mi fl en nm st := by
  have hn : M 86 k ≠ 0 := by omega
  have e : w32 (mskF (M 86) ov k + 0) = mskF (M 86) ov k := by
    unfold mskF
    rw [if_neg hn]
    rfl
  rw [e]
  funext b j
  unfold mset MM
  rw [msk_s1 hn]
  by_cases h1 : b = 106 ∧ j = k
  · rw [if_pos h1, h1.1, h1.2]
    show _ = (if k < 192 then mskF (M 86) ov k else M 106 k)
    rw [if_pos h]
  · rw [if_neg h1]
theorem MMs_nm {M : Mem} {ov : Nat → Int} {cl lo mi fl en : Int} {nm st : Nat → Int} {f : Nat → Int} : mrow (MM M ov cl lo mi fl en nm st) 105 f = MM M ov cl lo mi fl en f st := by
  funext b j
  unfold mrow MM
  by_cases h1 : b = 105
  · rw [if_pos h1, if_neg (by omega), if_neg (by omega), if_pos h1]
  · rw [if_neg h1, if_neg h1, if_neg h1]
theorem MMs_st {M : Mem} {ov : Nat → Int} {cl lo mi fl en : Int} {nm st : Nat → Int} {f : Nat → Int} : mrow (MM M ov cl lo mi fl en nm st) 104 f = MM M ov cl lo mi fl en nm f := by
  funext b j
  unfold mrow MM
  by_cases h1 : b = 104
  · rw [if_pos h1, if_neg (by omega), if_neg (by omega), if_neg (by omega), if_pos h1]
  · rw [if_neg h1, if_neg h1, if_neg h1]
theorem MM_in (M : Mem) {ov : Nat → Int} : mrow M 106 (fun j => if j < 192 then mskF (M 86) ov j else M 106 j) = MM M ov (M 84 38) (M 84 39) (M 84 40) (M 84 41) (M 84 42) (M 105) (M 104) := by
  funext b j
  unfold mrow MM
  by_cases h1 : b = 106
  · subst h1
    rfl
  · rw [if_neg h1, if_neg h1]
    by_cases h2 : b = 84
    · subst h2
      rw [if_pos rfl]
      by_cases e1 : j = 38
      · subst e1; rfl
      · by_cases e2 : j = 39
        · subst e2; rfl
        · by_cases e3 : j = 40
          · subst e3; rfl
          · by_cases e4 : j = 41
            · subst e4; rfl
            · by_cases e5 : j = 42
              · subst e5; rfl
              · simp only [e1, e2, e3, e4, e5, if_false]
    · rw [if_neg h2]
      by_cases h3 : b = 105
      · rw [if_pos h3, h3]
      · rw [if_neg h3]
        by_cases h4 : b = 104
        · rw [if_pos h4, h4]
        · rw [if_neg h4]
theorem within_lo {v b : Int} (h : v ≤ b) : (if v < 0 then 0 else if b < v then b else v) = lo0 v := by
  unfold lo0
  split
  · rfl
  · rw [if_neg (by omega)]
theorem within_hi {v b : Int} (h : 0 ≤ v) : (if v < 0 then 0 else if b < v then b else v) = hi0 v b := by
  unfold hi0
  rw [if_neg (by omega)]
/-! coversOver -/
theorem mcover_in {n : Nat} {S : Sh} {M : Mem} {ov : Nat → Int} {cl lo mi fl en : Int} {nm st : Nat → Int} {r : Nat} {pp ss al y ry x rx yy xa : Int} (hr : 11 < r) (hS : Std n S) (hcl : ∀ k, k < 192 → M 86 k = 0 ∨ M 86 k = 1) (x0 : 0 ≤ x) (x1 : x < 12) (rx0 : 0 ≤ rx) (rx1 : rx ≤ 15) (y0 : 0 ≤ y) (y1 : y < 16) (ry0 : 0 ≤ ry) (ry1 : ry ≤ 15) (yy0 : 0 ≤ yy) (yy1 : yy < 16) (a0 : 0 ≤ xa) : ∀ (j : Nat) (xx : Int), xa ≤ xx → xx + j = hi0 (x + rx) 11 + 1 →
  go r 143 78 [some (aR 84), some (aI pp), some (aI x), some (aI y), some (aI al), some (aI ss), some (aI rx), some (aI ry), some (aI yy), some (aI xx)] [] (MM M (covRow ov yy xa (xx - 1)) cl lo mi fl en nm st) S = go r 143 51 [some (aR 84), some (aI pp), some (aI x), some (aI y), some (aI al), some (aI ss), some (aI rx), some (aI ry), some (aI (yy + 1)), some (aI (hi0 (x + rx) 11 + 1))] [] (MM M (covRow ov yy xa (hi0 (x + rx) 11)) cl lo mi fl en nm st) S := by
  have k84 := K84 hS
  have k86 := K86 hS
  have k106 := K106 hS
  have l86 := L86 hS
  have l106 := L106 hS
  have a3 : x ≤ hi0 (x + rx) 11 ∧ hi0 (x + rx) 11 ≤ 11 := by unfold hi0; split <;> omega
  have e1 : (if x + rx < 0 then 0 else if 11 < x + rx then 11 else x + rx) = hi0 (x + rx) 11 := within_hi (by omega)
  intro j
  induction j with
  | zero =>
    intro xx h0 h1
    have e : xx = hi0 (x + rx) 11 + 1 := by omega
    subst e
    rw [g143_78]
    simp (disch := omega) only [g143_0, g143_1, g143_2, g143_4, g143_5, g143_6, g143_7, g143_8, g143_11, g143_13, g143_15t, g143_15f, g143_18, g143_20, g143_23, g143_24, g143_26, g143_28t, g143_28f, g143_31, g143_32, g143_35, g143_37, g143_39, g143_40, g143_42, g143_43, g143_44, g143_46, g143_49, g143_53, g143_54, g143_56, g143_57, g143_58, g143_60, g143_63t, g143_63f, g143_66, g143_67, g143_69, g143_70, g143_71, g143_73, g143_76, g143_80, g143_81, g143_83, g143_84, g143_85, g143_87, g143_90t, g143_90f, g143_93, g143_94, g143_97, g143_99, g143_101, g143_102, g143_104, g143_105, g143_106, g143_107, g143_108, g143_111, g143_113, g143_115, g143_116, g143_118, g143_119, g143_120, g143_121t, g143_121f, g143_124, g143_125, g143_128, g143_129, g143_130, g143_131, g143_134, g143_137, g143_140, g143_143, cont_1, cont_0, w32_o, within_, e1]
    rw [show hi0 (x + rx) 11 + 1 - 1 = hi0 (x + rx) 11 by omega]
  | succ j ih =>
    intro xx h0 h1
    have hk : (12 * yy + xx).toNat < 192 := by omega
    rw [← ih (xx + 1) (by omega) (by omega), show xx + 1 - 1 = xx by omega, ← covRow_step yy0 a0 h0 (by omega), g143_78]
    rcases hcl _ hk with hc | hc
    · have hm : mskF (M 86) (covRow ov yy xa (xx - 1)) (12 * yy + xx).toNat = covRow ov yy xa (xx - 1) (12 * yy + xx).toNat := if_pos hc
      simp (disch := omega) only [g143_0, g143_1, g143_2, g143_4, g143_5, g143_6, g143_7, g143_8, g143_11, g143_13, g143_15t, g143_15f, g143_18, g143_20, g143_23, g143_24, g143_26, g143_28t, g143_28f, g143_31, g143_32, g143_35, g143_37, g143_39, g143_40, g143_42, g143_43, g143_44, g143_46, g143_49, g143_53, g143_54, g143_56, g143_57, g143_58, g143_60, g143_63t, g143_63f, g143_66, g143_67, g143_69, g143_70, g143_71, g143_73, g143_76, g143_80, g143_81, g143_83, g143_84, g143_85, g143_87, g143_90t, g143_90f, g143_93, g143_94, g143_97, g143_99, g143_101, g143_102, g143_104, g143_105, g143_106, g143_107, g143_108, g143_111, g143_113, g143_115, g143_116, g143_118, g143_119, g143_120, g143_121t, g143_121f, g143_124, g143_125, g143_128, g143_129, g143_130, g143_131, g143_134, g143_137, g143_140, g143_143, cont_1, cont_0, w32_o, within_, e1, P84_1 hS, P84_37 hS, MM_cv, MM_o, MMs_cv0, hc, hm]
    · simp (disch := omega) only [g143_0, g143_1, g143_2, g143_4, g143_5, g143_6, g143_7, g143_8, g143_11, g143_13, g143_15t, g143_15f, g143_18, g143_20, g143_23, g143_24, g143_26, g143_28t, g143_28f, g143_31, g143_32, g143_35, g143_37, g143_39, g143_40, g143_42, g143_43, g143_44, g143_46, g143_49, g143_53, g143_54, g143_56, g143_57, g143_58, g143_60, g143_63t, g143_63f, g143_66, g143_67, g143_69, g143_70, g143_71, g143_73, g143_76, g143_80, g143_81, g143_83, g143_84, g143_85, g143_87, g143_90t, g143_90f, g143_93, g143_94, g143_97, g143_99, g143_101, g143_102, g143_104, g143_105, g143_106, g143_107, g143_108, g143_111, g143_113, g143_115, g143_116, g143_118, g143_119, g143_120, g143_121t, g143_121f, g143_124, g143_125, g143_128, g143_129, g143_130, g143_131, g143_134, g143_137, g143_140, g143_143, cont_1, cont_0, w32_o, within_, e1, P84_1 hS, P84_37 hS, MM_cv, MM_o, MMs_cv1, hc]
      rw [MMs_cv1 hk hc]
theorem mcover_out {n : Nat} {S : Sh} {M : Mem} {ov : Nat → Int} {cl lo mi fl en : Int} {nm st : Nat → Int} {r : Nat} {pp ss al y ry x rx c : Int} (hr : 11 < r) (hS : Std n S) (hcl : ∀ k, k < 192 → M 86 k = 0 ∨ M 86 k = 1) (x0 : 0 ≤ x) (x1 : x < 12) (rx0 : 0 ≤ rx) (rx1 : rx ≤ 15) (y0 : 0 ≤ y) (y1 : y < 16) (ry0 : 0 ≤ ry) (ry1 : ry ≤ 15) (c0 : 0 ≤ c) : ∀ (j : Nat) (yy : Int) (l9 : Option AV), c ≤ yy → yy + j = hi0 (y + ry) 15 + 1 →
  go r 143 51 [some (aR 84), some (aI pp), some (aI x), some (aI y), some (aI al), some (aI ss), some (aI rx), some (aI ry), some (aI yy), l9] [] (MM M (covRect ov c (yy - 1) (lo0 (x - rx)) (hi0 (x + rx) 11)) cl lo mi fl en nm st) S = some (none, MM M (covRect ov c (hi0 (y + ry) 15) (lo0 (x - rx)) (hi0 (x + rx) 11)) cl lo mi fl en nm st, S) := by
  have a1 : 0 ≤ lo0 (x - rx) ∧ lo0 (x - rx) ≤ x := by unfold lo0; split <;> omega
  have a3 : x ≤ hi0 (x + rx) 11 ∧ hi0 (x + rx) 11 ≤ 11 := by unfold hi0; split <;> omega
  have a4 : y ≤ hi0 (y + ry) 15 ∧ hi0 (y + ry) 15 ≤ 15 := by unfold hi0; split <;> omega
  have e1 : (if y + ry < 0 then 0 else if 15 < y + ry then 15 else y + ry) = hi0 (y + ry) 15 := within_hi (by omega)
  have e2 : (if x - rx < 0 then 0 else if 11 < x - rx then 11 else x - rx) = lo0 (x - rx) := within_lo (by omega)
  intro j
  induction j with
  | zero =>
    intro yy l9 h0 h1
    have e : yy = hi0 (y + ry) 15 + 1 := by omega
    subst e
    rw [g143_51]
    simp (disch := omega) only [g143_0, g143_1, g143_2, g143_4, g143_5, g143_6, g143_7, g143_8, g143_11, g143_13, g143_15t, g143_15f, g143_18, g143_20, g143_23, g143_24, g143_26, g143_28t, g143_28f, g143_31, g143_32, g143_35, g143_37, g143_39, g143_40, g143_42, g143_43, g143_44, g143_46, g143_49, g143_53, g143_54, g143_56, g143_57, g143_58, g143_60, g143_63t, g143_63f, g143_66, g143_67, g143_69, g143_70, g143_71, g143_73, g143_76, g143_80, g143_81, g143_83, g143_84, g143_85, g143_87, g143_90t, g143_90f, g143_93, g143_94, g143_97, g143_99, g143_101, g143_102, g143_104, g143_105, g143_106, g143_107, g143_108, g143_111, g143_113, g143_115, g143_116, g143_118, g143_119, g143_120, g143_121t, g143_121f, g143_124, g143_125, g143_128, g143_129, g143_130, g143_131, g143_134, g143_137, g143_140, g143_143, cont_1, cont_0, w32_o, within_, e1]
    rw [show hi0 (y + ry) 15 + 1 - 1 = hi0 (y + ry) 15 by omega]
  | succ j ih =>
    intro yy l9 h0 h1
    rw [g143_51]
    simp (disch := omega) only [g143_0, g143_1, g143_2, g143_4, g143_5, g143_6, g143_7, g143_8, g143_11, g143_13, g143_15t, g143_15f, g143_18, g143_20, g143_23, g143_24, g143_26, g143_28t, g143_28f, g143_31, g143_32, g143_35, g143_37, g143_39, g143_40, g143_42, g143_43, g143_44, g143_46, g143_49, g143_53, g143_54, g143_56, g143_57, g143_58, g143_60, g143_63t, g143_63f, g143_66, g143_67, g143_69, g143_70, g143_71, g143_73, g143_76, g143_80, g143_81, g143_83, g143_84, g143_85, g143_87, g143_90t, g143_90f, g143_93, g143_94, g143_97, g143_99, g143_101, g143_102, g143_104, g143_105, g143_106, g143_107, g143_108, g143_111, g143_113, g143_115, g143_116, g143_118, g143_119, g143_120, g143_121t, g143_121f, g143_124, g143_125, g143_128, g143_129, g143_130, g143_131, g143_134, g143_137, g143_140, g143_143, cont_1, cont_0, w32_o, within_, e1, e2]
    have z := mcover_in (ov := covRect ov c (yy - 1) (lo0 (x - rx)) (hi0 (x + rx) 11)) (M := M) (cl := cl) (lo := lo) (mi := mi) (fl := fl) (en := en) (nm := nm) (st := st) (r := r) (pp := pp) (ss := ss) (al := al) (y := y) (ry := ry) (x := x) (rx := rx) (yy := yy) (xa := lo0 (x - rx)) hr hS hcl x0 x1 rx0 rx1 y0 y1 ry0 ry1 (by omega) (by omega) a1.1 (hi0 (x + rx) 11 + 1 - lo0 (x - rx)).toNat (lo0 (x - rx)) (by omega) (by omega)
    rw [covRow_0, covRect_step h0] at z
    rw [z]
    have z2 := ih (yy + 1) (some (aI (hi0 (x + rx) 11 + 1))) (by omega) (by omega)
    rw [show yy + 1 - 1 = yy by omega] at z2
    exact z2
