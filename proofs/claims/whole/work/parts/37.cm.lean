/-! a flight: math -/
abbrev FS : Type := (Nat → Int) × Int × Int × Int
/-- in row y, columns a to b are covered once more -/
def covRow (ov : Nat → Int) (y a b : Int) : Nat → Int := fun k => if ((k / 12 : Nat) : Int) = y ∧ a ≤ ((k % 12 : Nat) : Int) ∧ ((k % 12 : Nat) : Int) ≤ b then w32 (ov k + 1) else ov k
/-- in rows c to d, columns a to b -/
def covRect (ov : Nat → Int) (c d a b : Int) : Nat → Int := fun k => if (c ≤ ((k / 12 : Nat) : Int) ∧ ((k / 12 : Nat) : Int) ≤ d) ∧ a ≤ ((k % 12 : Nat) : Int) ∧ ((k % 12 : Nat) : Int) ≤ b then w32 (ov k + 1) else ov k
theorem covRow_step {ov : Nat → Int} {y a x : Int} (y0 : 0 ≤ y) (a0 : 0 ≤ a) (ax : a ≤ x) (x1 : x < 12) : fset (covRow ov y a (x - 1)) (12 * y + x).toNat (w32 (covRow ov y a (x - 1) (12 * y + x).toNat + 1)) = covRow ov y a x := by
  have e1 : (((12 * y + x).toNat / 12 : Nat) : Int) = y := by omega
  have e2 : (((12 * y + x).toNat % 12 : Nat) : Int) = x := by omega
  funext k
  by_cases hk : k = (12 * y + x).toNat
  · rw [hk, fset_eq]
    unfold covRow
    rw [if_neg (by rw [e2]; omega), if_pos ⟨e1, by omega, by omega⟩]
  · rw [fset_ne _ _ hk]
    unfold covRow
    by_cases h : ((k / 12 : Nat) : Int) = y ∧ a ≤ ((k % 12 : Nat) : Int) ∧ ((k % 12 : Nat) : Int) ≤ x - 1
    · rw [if_pos h, if_pos (by omega)]
    · rw [if_neg h, if_neg (by omega)]
theorem covRow_0 {ov : Nat → Int} {y a : Int} : covRow ov y a (a - 1) = ov := by
  funext k
  unfold covRow
  rw [if_neg (by omega)]
theorem covRow_e {ov : Nat → Int} {y a b : Int} (h : b < a) : covRow ov y a b = ov := by
  funext k
  unfold covRow
  rw [if_neg (by omega)]
theorem covRect_step {ov : Nat → Int} {c y a b : Int} (h : c ≤ y) : covRow (covRect ov c (y - 1) a b) y a b = covRect ov c y a b := by
  funext k
  unfold covRow covRect
  by_cases h1 : ((k / 12 : Nat) : Int) = y ∧ a ≤ ((k % 12 : Nat) : Int) ∧ ((k % 12 : Nat) : Int) ≤ b
  · rw [if_pos h1, if_neg (by omega), if_pos (by omega)]
  · rw [if_neg h1]
    by_cases h2 : (c ≤ ((k / 12 : Nat) : Int) ∧ ((k / 12 : Nat) : Int) ≤ y - 1) ∧ a ≤ ((k % 12 : Nat) : Int) ∧ ((k % 12 : Nat) : Int) ≤ b
    · rw [if_pos h2, if_pos (by omega)]
    · rw [if_neg h2, if_neg (by omega)]
theorem covRect_0 {ov : Nat → Int} {c a b : Int} : covRect ov c (c - 1) a b = ov := by
  funext k
  unfold covRect
  rw [if_neg (by omega)]
def lo0 (x : Int) : Int := if x < 0 then 0 else x
def hi0 (x m : Int) : Int := if m < x then m else x
/-- as cover does it -/
def covF (ov : Nat → Int) (y ry x rx : Int) : Nat → Int := covRect ov (lo0 (y - ry)) (hi0 (y + ry) 15) (lo0 (x - rx)) (hi0 (x + rx) 11)
/-! the class's memory in a flight -/
def CM (M : Mem) (wp : Nat) (ov : Nat → Int) (cl lo mi en kd mr : Int) (nm pl : Nat → Int) : Mem := fun b j =>
  if b = 40 then (if j = 1 then cl else if j = 2 then lo else if j = 3 then mi else if j = 4 then en else if j = 5 then kd else if j = 6 then mr else M 40 j) else if b = 41 then (if j < 192 then ov j else M 41 j) else if b = 42 then nm j else if b = wp then pl j else M b j
theorem CM_cl {M : Mem} {wp : Nat} {ov : Nat → Int} {cl lo mi en kd mr : Int} {nm pl : Nat → Int} : CM M wp ov cl lo mi en kd mr nm pl 40 1 = cl := rfl
theorem CMs_cl {M : Mem} {wp : Nat} {ov : Nat → Int} {cl lo mi en kd mr : Int} {nm pl : Nat → Int} {v : Int} : mset (CM M wp ov cl lo mi en kd mr nm pl) 40 1 v = CM M wp ov v lo mi en kd mr nm pl := by
  funext b j
  unfold mset CM
  by_cases h : b = 40
  · by_cases h2 : j = 1
    · subst h h2
      rfl
    · rw [if_neg (fun z => h2 z.2), if_pos h, if_pos h]
      simp only [h2, if_false]
  · rw [if_neg (fun z => h z.1), if_neg h, if_neg h]
theorem CM_lo {M : Mem} {wp : Nat} {ov : Nat → Int} {cl lo mi en kd mr : Int} {nm pl : Nat → Int} : CM M wp ov cl lo mi en kd mr nm pl 40 2 = lo := rfl
theorem CMs_lo {M : Mem} {wp : Nat} {ov : Nat → Int} {cl lo mi en kd mr : Int} {nm pl : Nat → Int} {v : Int} : mset (CM M wp ov cl lo mi en kd mr nm pl) 40 2 v = CM M wp ov cl v mi en kd mr nm pl := by
  funext b j
  unfold mset CM
  by_cases h : b = 40
  · by_cases h2 : j = 2
    · subst h h2
      rfl
    · rw [if_neg (fun z => h2 z.2), if_pos h, if_pos h]
      simp only [h2, if_false]
  · rw [if_neg (fun z => h z.1), if_neg h, if_neg h]
theorem CM_mi {M : Mem} {wp : Nat} {ov : Nat → Int} {cl lo mi en kd mr : Int} {nm pl : Nat → Int} : CM M wp ov cl lo mi en kd mr nm pl 40 3 = mi := rfl
theorem CMs_mi {M : Mem} {wp : Nat} {ov : Nat → Int} {cl lo mi en kd mr : Int} {nm pl : Nat → Int} {v : Int} : mset (CM M wp ov cl lo mi en kd mr nm pl) 40 3 v = CM M wp ov cl lo v en kd mr nm pl := by
  funext b j
  unfold mset CM
  by_cases h : b = 40
  · by_cases h2 : j = 3
    · subst h h2
      rfl
    · rw [if_neg (fun z => h2 z.2), if_pos h, if_pos h]
      simp only [h2, if_false]
  · rw [if_neg (fun z => h z.1), if_neg h, if_neg h]
theorem CM_en {M : Mem} {wp : Nat} {ov : Nat → Int} {cl lo mi en kd mr : Int} {nm pl : Nat → Int} : CM M wp ov cl lo mi en kd mr nm pl 40 4 = en := rfl
theorem CMs_en {M : Mem} {wp : Nat} {ov : Nat → Int} {cl lo mi en kd mr : Int} {nm pl : Nat → Int} {v : Int} : mset (CM M wp ov cl lo mi en kd mr nm pl) 40 4 v = CM M wp ov cl lo mi v kd mr nm pl := by
  funext b j
  unfold mset CM
  by_cases h : b = 40
  · by_cases h2 : j = 4
    · subst h h2
      rfl
    · rw [if_neg (fun z => h2 z.2), if_pos h, if_pos h]
      simp only [h2, if_false]
  · rw [if_neg (fun z => h z.1), if_neg h, if_neg h]
theorem CM_kd {M : Mem} {wp : Nat} {ov : Nat → Int} {cl lo mi en kd mr : Int} {nm pl : Nat → Int} : CM M wp ov cl lo mi en kd mr nm pl 40 5 = kd := rfl
theorem CMs_kd {M : Mem} {wp : Nat} {ov : Nat → Int} {cl lo mi en kd mr : Int} {nm pl : Nat → Int} {v : Int} : mset (CM M wp ov cl lo mi en kd mr nm pl) 40 5 v = CM M wp ov cl lo mi en v mr nm pl := by
  funext b j
  unfold mset CM
  by_cases h : b = 40
  · by_cases h2 : j = 5
    · subst h h2
      rfl
    · rw [if_neg (fun z => h2 z.2), if_pos h, if_pos h]
      simp only [h2, if_false]
  · rw [if_neg (fun z => h z.1), if_neg h, if_neg h]
theorem CM_mr {M : Mem} {wp : Nat} {ov : Nat → Int} {cl lo mi en kd mr : Int} {nm pl : Nat → Int} : CM M wp ov cl lo mi en kd mr nm pl 40 6 = mr := rfl
theorem CMs_mr {M : Mem} {wp : Nat} {ov : Nat → Int} {cl lo mi en kd mr : Int} {nm pl : Nat → Int} {v : Int} : mset (CM M wp ov cl lo mi en kd mr nm pl) 40 6 v = CM M wp ov cl lo mi en kd v nm pl := by
  funext b j
  unfold mset CM
  by_cases h : b = 40
  · by_cases h2 : j = 6
    · subst h h2
      rfl
    · rw [if_neg (fun z => h2 z.2), if_pos h, if_pos h]
      simp only [h2, if_false]
  · rw [if_neg (fun z => h z.1), if_neg h, if_neg h]
theorem CM_ov {M : Mem} {wp : Nat} {ov : Nat → Int} {cl lo mi en kd mr : Int} {nm pl : Nat → Int} {k : Nat} (h : k < 192) : CM M wp ov cl lo mi en kd mr nm pl 41 k = ov k := by
  unfold CM
  rw [if_neg (by decide), if_pos rfl, if_pos h]
theorem CM_nm {M : Mem} {wp : Nat} {ov : Nat → Int} {cl lo mi en kd mr : Int} {nm pl : Nat → Int} : CM M wp ov cl lo mi en kd mr nm pl 42 = nm := rfl
theorem CM_pl {M : Mem} {wp : Nat} {ov : Nat → Int} {cl lo mi en kd mr : Int} {nm pl : Nat → Int} (h : 45 ≤ wp) : CM M wp ov cl lo mi en kd mr nm pl wp = pl := by
  funext j
  unfold CM
  rw [if_neg (by omega), if_neg (by omega), if_neg (by omega), if_pos rfl]
theorem CM_o {M : Mem} {wp : Nat} {ov : Nat → Int} {cl lo mi en kd mr : Int} {nm pl : Nat → Int} {b : Nat} (h0 : b ≠ 40) (h1 : b ≠ 41) (h2 : b ≠ 42) (h3 : b ≠ wp) : CM M wp ov cl lo mi en kd mr nm pl b = M b := by
  funext j
  unfold CM
  rw [if_neg h0, if_neg h1, if_neg h2, if_neg h3]
theorem CMs_ov {M : Mem} {wp : Nat} {ov : Nat → Int} {cl lo mi en kd mr : Int} {nm pl : Nat → Int} {k : Nat} {v : Int} (h : k < 192) : mset (CM M wp ov cl lo mi en kd mr nm pl) 41 k v = CM M wp (fset ov k v) cl lo mi en kd mr nm pl := by
  funext b j
  unfold mset CM fset
  by_cases h1 : b = 41
  · subst h1
    by_cases h2 : j = k
    · subst h2
      rw [if_pos ⟨rfl, rfl⟩, if_neg (by decide), if_pos rfl, if_pos h, if_pos rfl]
    · rw [if_neg (fun z => h2 z.2)]
      show (if j < 192 then ov j else M 41 j) = (if j < 192 then (if j = k then v else ov j) else M 41 j)
      rw [if_neg h2]
  · rw [if_neg (fun z => h1 z.1), if_neg h1, if_neg h1]
theorem CMs_nm {M : Mem} {wp : Nat} {ov : Nat → Int} {cl lo mi en kd mr : Int} {nm pl : Nat → Int} {f : Nat → Int} : mrow (CM M wp ov cl lo mi en kd mr nm pl) 42 f = CM M wp ov cl lo mi en kd mr f pl := by
  funext b j
  unfold mrow CM
  by_cases h1 : b = 42
  · rw [if_pos h1, if_neg (by omega), if_neg (by omega), if_pos h1]
  · rw [if_neg h1, if_neg h1, if_neg h1]
theorem CMs_pl {M : Mem} {wp : Nat} {ov : Nat → Int} {cl lo mi en kd mr : Int} {nm pl : Nat → Int} {f : Nat → Int} (h : 45 ≤ wp) : mrow (CM M wp ov cl lo mi en kd mr nm pl) wp f = CM M wp ov cl lo mi en kd mr nm f := by
  funext b j
  unfold mrow CM
  by_cases h1 : b = wp
  · rw [if_pos h1, if_neg (by omega), if_neg (by omega), if_neg (by omega), if_pos h1]
  · rw [if_neg h1, if_neg h1, if_neg h1]
theorem CM_in (M : Mem) {wp : Nat} (h : 45 ≤ wp) {ov : Nat → Int} : mrow M 41 (fun j => if j < 192 then ov j else M 41 j) = CM M wp ov (M 40 1) (M 40 2) (M 40 3) (M 40 4) (M 40 5) (M 40 6) (M 42) (M wp) := by
  funext b j
  unfold mrow CM
  by_cases h1 : b = 41
  · subst h1
    rfl
  · rw [if_neg h1, if_neg h1]
    by_cases h2 : b = 40
    · subst h2
      rw [if_pos rfl]
      by_cases e1 : j = 1
      · subst e1; rfl
      · by_cases e2 : j = 2
        · subst e2; rfl
        · by_cases e3 : j = 3
          · subst e3; rfl
          · by_cases e4 : j = 4
            · subst e4; rfl
            · by_cases e5 : j = 5
              · subst e5; rfl
              · by_cases e6 : j = 6
                · subst e6; rfl
                · simp only [e1, e2, e3, e4, e5, e6, if_false]
    · rw [if_neg h2]
      by_cases h3 : b = 42
      · rw [if_pos h3, h3]
      · rw [if_neg h3]
        by_cases h4 : b = wp
        · rw [if_pos h4, h4]
        · rw [if_neg h4]
/-! cover -/
theorem cover_in {n : Nat} {S : Sh} {M : Mem} {wp : Nat} {ov : Nat → Int} {cl lo mi en kd mr : Int} {nm pl : Nat → Int} {r : Nat} {y ry x rx lr lc yy xa : Int} (hr : 10 < r) (hS : Std n S) (y0 : 0 ≤ yy) (y1 : yy < 16) (a0 : 0 ≤ xa) (c1 : lc < 12) : ∀ (j : Nat) (xx : Int), xa ≤ xx → xx + j = lc + 1 →
  go r 6 47 [some (aR 40), some (aI y), some (aI ry), some (aI x), some (aI rx), some (aI lr), some (aI lc), some (aI yy), some (aI xx)] [] (CM M wp (covRow ov yy xa (xx - 1)) cl lo mi en kd mr nm pl) S = go r 6 30 [some (aR 40), some (aI y), some (aI ry), some (aI x), some (aI rx), some (aI lr), some (aI lc), some (aI (yy + 1)), some (aI (lc + 1))] [] (CM M wp (covRow ov yy xa lc) cl lo mi en kd mr nm pl) S := by
  have k40 := K40 hS
  have k41 := K41 hS
  have l41 := L41 hS
  intro j
  induction j with
  | zero =>
    intro xx h0 h1
    have e : xx = lc + 1 := by omega
    subst e
    rw [g6_47]
    simp (disch := omega) only [g6_0, g6_1, g6_2, g6_3, g6_5, g6_8, g6_10, g6_11, g6_13, g6_14, g6_16, g6_19, g6_21, g6_22, g6_23, g6_24, g6_25, g6_28, g6_32, g6_34t, g6_34f, g6_37, g6_38, g6_40, g6_41, g6_42, g6_45, g6_49, g6_51t, g6_51f, g6_54, g6_55, g6_58, g6_60, g6_62, g6_63, g6_65, g6_66, g6_67, g6_70, g6_72, g6_74, g6_75, g6_77, g6_78, g6_81, g6_82, g6_83, g6_86, g6_89, g6_92, g6_95, g6_98, cont_1, cont_0, w32_o]
    rw [show lc + 1 - 1 = lc by omega]
  | succ j ih =>
    intro xx h0 h1
    rw [← ih (xx + 1) (by omega) (by omega), show xx + 1 - 1 = xx by omega, ← covRow_step y0 a0 h0 (by omega), g6_47]
    simp (disch := omega) only [g6_0, g6_1, g6_2, g6_3, g6_5, g6_8, g6_10, g6_11, g6_13, g6_14, g6_16, g6_19, g6_21, g6_22, g6_23, g6_24, g6_25, g6_28, g6_32, g6_34t, g6_34f, g6_37, g6_38, g6_40, g6_41, g6_42, g6_45, g6_49, g6_51t, g6_51f, g6_54, g6_55, g6_58, g6_60, g6_62, g6_63, g6_65, g6_66, g6_67, g6_70, g6_72, g6_74, g6_75, g6_77, g6_78, g6_81, g6_82, g6_83, g6_86, g6_89, g6_92, g6_95, g6_98, cont_1, cont_0, w32_o, at_in, put_in, P40_0 hS, CM_ov, CMs_ov]
theorem cover_out {n : Nat} {S : Sh} {M : Mem} {wp : Nat} {ov : Nat → Int} {cl lo mi en kd mr : Int} {nm pl : Nat → Int} {r : Nat} {y ry x rx lr lc c xa : Int} (hr : 10 < r) (hS : Std n S) (c0 : 0 ≤ c) (r1 : lr < 16) (a0 : 0 ≤ xa) (ac : xa ≤ lc + 1) (c1 : lc < 12) (x0 : 0 ≤ x) (x1 : x < 12) (rx0 : 0 ≤ rx) (rx1 : rx ≤ 15) (hxa : (if x - rx < 0 then 0 else x - rx) = xa) : ∀ (j : Nat) (yy : Int) (l8 : Option AV), c ≤ yy → yy + j = lr + 1 →
  go r 6 30 [some (aR 40), some (aI y), some (aI ry), some (aI x), some (aI rx), some (aI lr), some (aI lc), some (aI yy), l8] [] (CM M wp (covRect ov c (yy - 1) xa lc) cl lo mi en kd mr nm pl) S = some (none, CM M wp (covRect ov c lr xa lc) cl lo mi en kd mr nm pl, S) := by
  intro j
  induction j with
  | zero =>
    intro yy l8 h0 h1
    have e : yy = lr + 1 := by omega
    subst e
    rw [g6_30]
    simp (disch := omega) only [g6_0, g6_1, g6_2, g6_3, g6_5, g6_8, g6_10, g6_11, g6_13, g6_14, g6_16, g6_19, g6_21, g6_22, g6_23, g6_24, g6_25, g6_28, g6_32, g6_34t, g6_34f, g6_37, g6_38, g6_40, g6_41, g6_42, g6_45, g6_49, g6_51t, g6_51f, g6_54, g6_55, g6_58, g6_60, g6_62, g6_63, g6_65, g6_66, g6_67, g6_70, g6_72, g6_74, g6_75, g6_77, g6_78, g6_81, g6_82, g6_83, g6_86, g6_89, g6_92, g6_95, g6_98, cont_1, cont_0, w32_o]
    rw [show lr + 1 - 1 = lr by omega]
  | succ j ih =>
    intro yy l8 h0 h1
    rw [g6_30]
    simp (disch := omega) only [g6_0, g6_1, g6_2, g6_3, g6_5, g6_8, g6_10, g6_11, g6_13, g6_14, g6_16, g6_19, g6_21, g6_22, g6_23, g6_24, g6_25, g6_28, g6_32, g6_34t, g6_34f, g6_37, g6_38, g6_40, g6_41, g6_42, g6_45, g6_49, g6_51t, g6_51f, g6_54, g6_55, g6_58, g6_60, g6_62, g6_63, g6_65, g6_66, g6_67, g6_70, g6_72, g6_74, g6_75, g6_77, g6_78, g6_81, g6_82, g6_83, g6_86, g6_89, g6_92, g6_95, g6_98, cont_1, cont_0, w32_o, hxa]
    have z := cover_in (ov := covRect ov c (yy - 1) xa lc) (M := M) (wp := wp) (cl := cl) (lo := lo) (mi := mi) (en := en) (kd := kd) (mr := mr) (nm := nm) (pl := pl) (r := r) (y := y) (ry := ry) (x := x) (rx := rx) (lr := lr) (lc := lc) (yy := yy) (xa := xa) hr hS (by omega) (by omega) a0 c1 (lc + 1 - xa).toNat xa (by omega) (by omega)
    rw [covRow_0, covRect_step h0] at z
    rw [z]
    have z2 := ih (yy + 1) (some (aI (lc + 1))) (by omega) (by omega)
    rw [show yy + 1 - 1 = yy by omega] at z2
    exact z2
theorem cover_ {n : Nat} {S : Sh} {M : Mem} {wp : Nat} {ov : Nat → Int} {cl lo mi en kd mr : Int} {nm pl : Nat → Int} {y ry x rx : Int} (hS : Std n S) (y0 : 0 ≤ y) (y1 : y < 16) (ry0 : 0 ≤ ry) (ry1 : ry ≤ 15) (x0 : 0 ≤ x) (x1 : x < 12) (rx0 : 0 ≤ rx) (rx1 : rx ≤ 15) : res 6 [aR 40, aI y, aI ry, aI x, aI rx] (CM M wp ov cl lo mi en kd mr nm pl) S = some (none, CM M wp (covF ov y ry x rx) cl lo mi en kd mr nm pl, S) := by
  have a1 : 0 ≤ lo0 (x - rx) ∧ lo0 (x - rx) ≤ x := by unfold lo0; split <;> omega
  have a2 : 0 ≤ lo0 (y - ry) ∧ lo0 (y - ry) ≤ y := by unfold lo0; split <;> omega
  have a3 : x ≤ hi0 (x + rx) 11 ∧ hi0 (x + rx) 11 ≤ 11 := by unfold hi0; split <;> omega
  have a4 : y ≤ hi0 (y + ry) 15 ∧ hi0 (y + ry) 15 ≤ 15 := by unfold hi0; split <;> omega
  have z := cover_out (ov := ov) (M := M) (wp := wp) (cl := cl) (lo := lo) (mi := mi) (en := en) (kd := kd) (mr := mr) (nm := nm) (pl := pl) (r := 11) (y := y) (ry := ry) (x := x) (rx := rx) (lr := hi0 (y + ry) 15) (lc := hi0 (x + rx) 11) (c := lo0 (y - ry)) (xa := lo0 (x - rx)) (by omega) hS a2.1 (by omega) a1.1 (by omega) (by omega) x0 x1 rx0 rx1 rfl (hi0 (y + ry) 15 + 1 - lo0 (y - ry)).toNat (lo0 (y - ry)) none (by omega) (by omega)
  rw [covRect_0] at z
  rw [g6]
  simp (disch := omega) only [g6_0, g6_1, g6_2, g6_3, g6_5, g6_8, g6_10, g6_11, g6_13, g6_14, g6_16, g6_19, g6_21, g6_22, g6_23, g6_24, g6_25, g6_28, g6_32, g6_34t, g6_34f, g6_37, g6_38, g6_40, g6_41, g6_42, g6_45, g6_49, g6_51t, g6_51f, g6_54, g6_55, g6_58, g6_60, g6_62, g6_63, g6_65, g6_66, g6_67, g6_70, g6_72, g6_74, g6_75, g6_77, g6_78, g6_81, g6_82, g6_83, g6_86, g6_89, g6_92, g6_95, g6_98, cont_1, cont_0, w32_o]
  exact z
