/-! bits -/
def bitF (c : Nat → Int) : Nat → Nat → Int → Int
  | 0, _, a => a
  | rem + 1, k, a => if c k = -1 then bitF c rem (k + 1) (or32 a (sh32 1 (k : Int))) else bitF c rem (k + 1) a
theorem bit_t {c : Nat → Int} {rem k : Nat} {a : Int} (h : c k = -1) : bitF c (rem + 1) k a = bitF c rem (k + 1) (or32 a (sh32 1 (k : Int))) := if_pos h
theorem bit_f {c : Nat → Int} {rem k : Nat} {a : Int} (h : ¬ c k = -1) : bitF c (rem + 1) k a = bitF c rem (k + 1) a := if_neg h
theorem or32_0 {a : Int} (h : r32 a) : or32 a 0 = a := by
  unfold or32
  rw [show Int32.ofInt 0 = 0 from rfl, Int32.or_zero, tIr h]
/-- by who, wind, hour, law: the first column that is otherwise -/
def unW (M : Mem) (s y : Nat) (who wd ho t : Int) : Int := unV M s y (flW M who wd ho t)
theorem unW_fr {M M' : Mem} (h : FrC M M') {s : Nat} (hs : s < 4) : unW M' s = unW M s := by
  obtain ⟨r7, r8, r9, r10, r11, r12, r13, r14, r15, r16, r93, r94, r6⟩ := now_fr h
  funext y who wd ho t
  unfold unW unV flW flN cdT stT
  rw [r7, r8, r9, r10, r11, r12, r13, r14, r15, r16, r93, r94, h (77 + 2 * s) (by unfold scrC; omega)]
theorem thk_17 {M X : Mem} (t0 : Tak M 17 7 X) : ∀ j, (j = 4 ∨ (10 ≤ j ∧ j < 15)) → X 17 j = M 7 j := fun j h => by
  obtain ⟨_, _, _, _, q4, q10, q11, q12, q13, q14⟩ := t0
  rcases (by omega : j = 4 ∨ j = 10 ∨ j = 11 ∨ j = 12 ∨ j = 13 ∨ j = 14) with rfl | rfl | rfl | rfl | rfl | rfl
  all_goals assumption
theorem winds_c {n r s y : Nat} {sc : Nat → Int} {M : Mem} {S : Sh} {l3 : Option AV} (hr : 15 < r) (hS : Std n S) (hI : Inv sc M) (hs : s < 4) (hy : y < 16) : ∀ (rem k : Nat) (X : Mem) (b : Int), ((k + rem : Nat) : Int) = 11 → Thk M X → (∀ j, j ≠ 11 → (j = 4 ∨ (10 ≤ j ∧ j < 15)) → X 17 j = M 7 j) → ∃ X', go r 71 31 [some (aR 6), some (aI (s : Int)), some (aI (y : Int)), l3, some (aI b), some (aI ((k : Int) - 5))] [] X S = some (some (aI (bitF (fun k => unW M s y (M 7 13) ((k : Int) - 5) (M 7 12) (M 7 14)) rem k b)), X', S) ∧ FrC M X' := by
  have k6 := K6 hS
  have k7 := K7 hS
  have k17 := K17 hS
  have k40 := K40 hS
  have hP := hI.2.2.1
  have hN := hI.2.2.2.1
  have p3 := hP.2.2.1
  have t5 := hI.2.2.2.2.1.2.2.1
  obtain ⟨_, n2, n3, _, n5, n6, _, n8, n9, _, n11, n12⟩ := hN
  intro rem
  induction rem with
  | zero =>
    intro k X b hk hX h17
    have r6 : X 6 = M 6 := hX.1 6 (by unfold scrC; omega)
    rw [g71_31]
    simp (disch := omega) only [g71_0, g71_1, g71_2, g71_3, g71_6, g71_7, g71_8t, g71_8f, g71_11, g71_12, g71_13, g71_14, g71_16, g71_17, g71_20, g71_21, g71_24, g71_27, g71_29, g71_33, g71_34t, g71_34f, g71_37, g71_38, g71_41, g71_43, g71_46, g71_47, g71_48, g71_51, g71_52, g71_53, g71_56, g71_57t, g71_57f, g71_60, g71_62, g71_63, g71_65, g71_66, g71_67, g71_68, g71_69, g71_71, g71_74, g71_77, g71_79, cont_1, cont_0, w32_k, P6_0 hS, P6_1 hS, r6]
    exact ⟨X, rfl, hX.1⟩
  | succ rem ih =>
    intro k X b hk hX h17
    have r6 : X 6 = M 6 := hX.1 6 (by unfold scrC; omega)
    have hX1 := Thk_s (j := 11) (v := ((k : Int) - 5)) hX
    have h1 : ∀ j, j ≠ 11 → (j = 4 ∨ (10 ≤ j ∧ j < 15)) → mset X 17 11 ((k : Int) - 5) 17 j = M 7 j := fun j hj hj2 => by
      rw [mset_nk _ hj]
      exact h17 j hj hj2
    have e0 : mset X 17 11 ((k : Int) - 5) 17 11 = ((k : Int) - 5) := mset_eq
    have e4 := h1 4 (by omega) (by omega)
    have ea := h1 12 (by omega) (by omega)
    have eb := h1 13 (by omega) (by omega)
    have ec := h1 14 (by omega) (by omega)
    have hF : FyC (mset X 17 11 ((k : Int) - 5)) 17 := fyC_th hI hX1.1 (str_th hI hX1 e4) (by omega) (by omega) (fun hw => pl_th hI hX1 (by omega)) (by omega) (by omega)
    obtain ⟨X2, f, a⟩ := fo_ hS (Inv_frC hI hX1.1).2.2.2.2.2.2.2.1 (Or.inr rfl) hX1.2.2.1 (hX1.1 (77 + 2 * s) (by unfold scrC; omega)) hF hs hy
    rw [th_W hI hX1 e4 (by omega), e0, ea, eb, ec, show unV M s y (flW M (M 7 13) ((k : Int) - 5) (M 7 12) (M 7 14)) = unW M s y (M 7 13) ((k : Int) - 5) (M 7 12) (M 7 14) from rfl] at f
    have h2 : ∀ j, j ≠ 11 → (j = 4 ∨ (10 ≤ j ∧ j < 15)) → X2 17 j = M 7 j := fun j hj hj2 => by
      rw [a.1 17 (by omega)]
      exact h1 j hj hj2
    have e5 : w32 (((k : Int) - 5) + 1) = ((k : Int) - 5) + 1 := w32_o (by omega) (by omega)
    have e6 : w32 ((k : Int) - 5 + 5) = (k : Int) := by rw [w32_o (by omega) (by omega)]; omega
    rw [g71_31]
    by_cases hm : unW M s y (M 7 13) ((k : Int) - 5) (M 7 12) (M 7 14) = -1
    · obtain ⟨X3, z, fr⟩ := ih (k + 1) X2 (or32 b (sh32 1 (k : Int))) (by omega) (Thk_T hX1 a.1) h2
      refine ⟨X3, ?_, fr⟩
      rw [bit_t (c := fun k => unW M s y (M 7 13) ((k : Int) - 5) (M 7 12) (M 7 14)) hm, ← z, show ((k + 1 : Nat) : Int) - 5 = (k : Int) - 5 + 1 by omega]
      simp (disch := omega) only [g71_0, g71_1, g71_2, g71_3, g71_6, g71_7, g71_8t, g71_8f, g71_11, g71_12, g71_13, g71_14, g71_16, g71_17, g71_20, g71_21, g71_24, g71_27, g71_29, g71_33, g71_34t, g71_34f, g71_37, g71_38, g71_41, g71_43, g71_46, g71_47, g71_48, g71_51, g71_52, g71_53, g71_56, g71_57t, g71_57f, g71_60, g71_62, g71_63, g71_65, g71_66, g71_67, g71_68, g71_69, g71_71, g71_74, g71_77, g71_79, cont_1, cont_0, w32_k, P6_0 hS, P6_1 hS, r6, f, e5, e6]
    · obtain ⟨X3, z, fr⟩ := ih (k + 1) X2 b (by omega) (Thk_T hX1 a.1) h2
      refine ⟨X3, ?_, fr⟩
      rw [bit_f (c := fun k => unW M s y (M 7 13) ((k : Int) - 5) (M 7 12) (M 7 14)) hm, ← z, show ((k + 1 : Nat) : Int) - 5 = (k : Int) - 5 + 1 by omega]
      simp (disch := omega) only [g71_0, g71_1, g71_2, g71_3, g71_6, g71_7, g71_8t, g71_8f, g71_11, g71_12, g71_13, g71_14, g71_16, g71_17, g71_20, g71_21, g71_24, g71_27, g71_29, g71_33, g71_34t, g71_34f, g71_37, g71_38, g71_41, g71_43, g71_46, g71_47, g71_48, g71_51, g71_52, g71_53, g71_56, g71_57t, g71_57f, g71_60, g71_62, g71_63, g71_65, g71_66, g71_67, g71_68, g71_69, g71_71, g71_74, g71_77, g71_79, cont_1, cont_0, w32_k, P6_0 hS, P6_1 hS, r6, f, e5, e6]
theorem winds_m {n r s y : Nat} {sc : Nat → Int} {M : Mem} {S : Sh} {l3 : Option AV} (hr : 18 < r) (hS : Std n S) (hI : Inv sc M) (hs : s < 4) (hy : y < 16) : ∀ (rem k : Nat) (Y : Mem) (b : Int), ((k + rem : Nat) : Int) = 11 → r32 b → FrX 2 M Y → ∃ Y', go r 163 25 [some (aR 84), some (aI (s : Int)), some (aI (y : Int)), l3, some (aI (M 84 2)), some (aI b), some (aI (k : Int))] [] Y S = some (some (aI (bitF (fun k => unW M s y (M 7 13) ((k : Int) - 5) (M 7 12) (M 7 14)) rem k b)), Y', S) ∧ FrM M Y' := by
  have k84 := K84 hS
  have hP := hI.2.2.1
  have hN := hI.2.2.2.1
  have p1 := hP.1
  have p3 := hP.2.2.1
  have t1 := hI.2.2.2.2.1.1
  have t5 := hI.2.2.2.2.1.2.2.1
  obtain ⟨n1, n2, n3, n4, n5, n6, n7, n8, n9, n10, n11, n12⟩ := hN
  intro rem
  induction rem with
  | zero =>
    intro k Y b hk hb hY
    have y16 : Y 84 16 = M 84 16 := hY.2 16 (by omega) (by omega)
    rw [g163_25]
    simp (disch := omega) only [g163_0, g163_1, g163_2, g163_3, g163_6, g163_7, g163_8t, g163_8f, g163_11, g163_12, g163_13, g163_14, g163_17, g163_19, g163_20, g163_22, g163_23, g163_27, g163_29t, g163_29f, g163_32, g163_33, g163_35, g163_36, g163_37, g163_40, g163_42, g163_43, g163_44, g163_45, g163_48, g163_49t, g163_49f, g163_52, g163_53, g163_55, g163_56, g163_59, g163_60, g163_61, g163_63, g163_66, g163_69, g163_70, g163_72, g163_75, g163_77, cont_1, cont_0, w32_k, y16]
    exact ⟨_, rfl, FrX_end hY⟩
  | succ rem ih =>
    intro k Y b hk hb hY
    have y16 : Y 84 16 = M 84 16 := hY.2 16 (by omega) (by omega)
    have hY1 := FrX_s (v := ((k : Int) - 5)) hY
    have e0 : mset Y 84 2 ((k : Int) - 5) 84 2 = ((k : Int) - 5) := mset_eq
    have h1 := hY1.2
    have e9 := h1 9 (by omega) (by omega)
    have e43 := h1 43 (by omega) (by omega)
    have ea := h1 4 (by omega) (by omega)
    have eb := h1 3 (by omega) (by omega)
    have ec := h1 17 (by omega) (by omega)
    have hF : FyM (mset Y 84 2 ((k : Int) - 5)) := fyM_W hI hY1.1 e9 (by omega) (by omega) (by omega) (by omega)
    obtain ⟨Y2, f, a⟩ := ul_ (M := M) hS (fun q hq => by
      rw [hY1.1 86 (by omega) (by omega)]
      exact (hI.1 q hq).2.1) (fun q hq => by
      rw [hY1.1 100 (by omega) (by omega)]
      exact (hI.2.2.2.2.2.2.1 s hs).2.2.2.2.2.2 q (by omega)) hF hs hy
    rw [md_W hI hY1.1 e9 e43 (by omega) (by omega), e0, ea, eb, ec, n7, n4, n10, show unV M s y (flW M (M 7 13) ((k : Int) - 5) (M 7 12) (M 7 14)) = unW M s y (M 7 13) ((k : Int) - 5) (M 7 12) (M 7 14) from rfl] at f
    have e6 : w32 ((k : Int) - 5) = (k : Int) - 5 := w32_o (by omega) (by omega)
    rw [g163_25]
    by_cases hm : unW M s y (M 7 13) ((k : Int) - 5) (M 7 12) (M 7 14) = -1
    · obtain ⟨Y3, z, fr⟩ := ih (k + 1) Y2 (or32 b (sh32 1 (k : Int))) (by omega) (or32_r _ _) (FrX_N hY1 a.1)
      refine ⟨Y3, ?_, fr⟩
      rw [bit_t (c := fun k => unW M s y (M 7 13) ((k : Int) - 5) (M 7 12) (M 7 14)) hm, ← z, nc_1]
      simp (disch := omega) only [g163_0, g163_1, g163_2, g163_3, g163_6, g163_7, g163_8t, g163_8f, g163_11, g163_12, g163_13, g163_14, g163_17, g163_19, g163_20, g163_22, g163_23, g163_27, g163_29t, g163_29f, g163_32, g163_33, g163_35, g163_36, g163_37, g163_40, g163_42, g163_43, g163_44, g163_45, g163_48, g163_49t, g163_49f, g163_52, g163_53, g163_55, g163_56, g163_59, g163_60, g163_61, g163_63, g163_66, g163_69, g163_70, g163_72, g163_75, g163_77, cont_1, cont_0, w32_k, y16, f, e6]
    · obtain ⟨Y3, z, fr⟩ := ih (k + 1) Y2 b (by omega) hb (FrX_N hY1 a.1)
      refine ⟨Y3, ?_, fr⟩
      rw [bit_f (c := fun k => unW M s y (M 7 13) ((k : Int) - 5) (M 7 12) (M 7 14)) hm, ← z, nc_1]
      simp (disch := omega) only [g163_0, g163_1, g163_2, g163_3, g163_6, g163_7, g163_8t, g163_8f, g163_11, g163_12, g163_13, g163_14, g163_17, g163_19, g163_20, g163_22, g163_23, g163_27, g163_29t, g163_29f, g163_32, g163_33, g163_35, g163_36, g163_37, g163_40, g163_42, g163_43, g163_44, g163_45, g163_48, g163_49t, g163_49f, g163_52, g163_53, g163_55, g163_56, g163_59, g163_60, g163_61, g163_63, g163_66, g163_69, g163_70, g163_72, g163_75, g163_77, cont_1, cont_0, w32_k, y16, f, or32_0 hb, e6]
theorem laws_c {n r s y : Nat} {sc : Nat → Int} {M : Mem} {S : Sh} {l3 : Option AV} (hr : 15 < r) (hS : Std n S) (hI : Inv sc M) (hs : s < 4) (hy : y < 16) : ∀ (rem k : Nat) (X : Mem) (b : Int), ((k + rem : Nat) : Int) = M 6 5 → Thk M X → (∀ j, j ≠ 14 → (j = 4 ∨ (10 ≤ j ∧ j < 15)) → X 17 j = M 7 j) → ∃ X', go r 73 30 [some (aR 6), some (aI (s : Int)), some (aI (y : Int)), l3, some (aI b), some (aI (k : Int))] [] X S = some (some (aI (bitF (fun k => unW M s y (M 7 13) (M 7 11) (M 7 12) (k : Int)) rem k b)), X', S) ∧ FrC M X' := by
  have k6 := K6 hS
  have k7 := K7 hS
  have k17 := K17 hS
  have k40 := K40 hS
  have hP := hI.2.2.1
  have hN := hI.2.2.2.1
  have p3 := hP.2.2.1
  have t5 := hI.2.2.2.2.1.2.2.1
  obtain ⟨_, n2, n3, _, n5, n6, _, n8, n9, _, n11, n12⟩ := hN
  intro rem
  induction rem with
  | zero =>
    intro k X b hk hX h17
    have r6 : X 6 = M 6 := hX.1 6 (by unfold scrC; omega)
    rw [g73_30]
    simp (disch := omega) only [g73_0, g73_1, g73_2, g73_3, g73_6, g73_7, g73_8t, g73_8f, g73_11, g73_12, g73_13, g73_14, g73_16, g73_17, g73_20, g73_21, g73_24, g73_27, g73_28, g73_32, g73_33, g73_36t, g73_36f, g73_39, g73_40, g73_43, g73_45, g73_48, g73_49, g73_50, g73_53, g73_54, g73_55, g73_58, g73_59t, g73_59f, g73_62, g73_64, g73_65, g73_67, g73_68, g73_69, g73_71, g73_74, g73_77, g73_79, cont_1, cont_0, w32_k, P6_0 hS, P6_1 hS, r6]
    exact ⟨X, rfl, hX.1⟩
  | succ rem ih =>
    intro k X b hk hX h17
    have r6 : X 6 = M 6 := hX.1 6 (by unfold scrC; omega)
    have hX1 := Thk_s (j := 14) (v := (k : Int)) hX
    have h1 : ∀ j, j ≠ 14 → (j = 4 ∨ (10 ≤ j ∧ j < 15)) → mset X 17 14 (k : Int) 17 j = M 7 j := fun j hj hj2 => by
      rw [mset_nk _ hj]
      exact h17 j hj hj2
    have e0 : mset X 17 14 (k : Int) 17 14 = (k : Int) := mset_eq
    have e4 := h1 4 (by omega) (by omega)
    have ea := h1 11 (by omega) (by omega)
    have eb := h1 12 (by omega) (by omega)
    have ec := h1 13 (by omega) (by omega)
    have hF : FyC (mset X 17 14 (k : Int)) 17 := fyC_th hI hX1.1 (str_th hI hX1 e4) (by omega) (by omega) (fun hw => pl_th hI hX1 (by omega)) (by omega) (by omega)
    obtain ⟨X2, f, a⟩ := fo_ hS (Inv_frC hI hX1.1).2.2.2.2.2.2.2.1 (Or.inr rfl) hX1.2.2.1 (hX1.1 (77 + 2 * s) (by unfold scrC; omega)) hF hs hy
    rw [th_W hI hX1 e4 (by omega), e0, ea, eb, ec, show unV M s y (flW M (M 7 13) (M 7 11) (M 7 12) (k : Int)) = unW M s y (M 7 13) (M 7 11) (M 7 12) (k : Int) from rfl] at f
    have h2 : ∀ j, j ≠ 14 → (j = 4 ∨ (10 ≤ j ∧ j < 15)) → X2 17 j = M 7 j := fun j hj hj2 => by
      rw [a.1 17 (by omega)]
      exact h1 j hj hj2
    have e5 : w32 ((k : Int) + 1) = (k : Int) + 1 := w32_o (by omega) (by omega)
    rw [g73_30]
    by_cases hm : unW M s y (M 7 13) (M 7 11) (M 7 12) (k : Int) = -1
    · obtain ⟨X3, z, fr⟩ := ih (k + 1) X2 (or32 b (sh32 1 (k : Int))) (by omega) (Thk_T hX1 a.1) h2
      refine ⟨X3, ?_, fr⟩
      rw [bit_t (c := fun k => unW M s y (M 7 13) (M 7 11) (M 7 12) (k : Int)) hm, ← z, nc_1]
      simp (disch := omega) only [g73_0, g73_1, g73_2, g73_3, g73_6, g73_7, g73_8t, g73_8f, g73_11, g73_12, g73_13, g73_14, g73_16, g73_17, g73_20, g73_21, g73_24, g73_27, g73_28, g73_32, g73_33, g73_36t, g73_36f, g73_39, g73_40, g73_43, g73_45, g73_48, g73_49, g73_50, g73_53, g73_54, g73_55, g73_58, g73_59t, g73_59f, g73_62, g73_64, g73_65, g73_67, g73_68, g73_69, g73_71, g73_74, g73_77, g73_79, cont_1, cont_0, w32_k, P6_0 hS, P6_1 hS, r6, f, e5]
    · obtain ⟨X3, z, fr⟩ := ih (k + 1) X2 b (by omega) (Thk_T hX1 a.1) h2
      refine ⟨X3, ?_, fr⟩
      rw [bit_f (c := fun k => unW M s y (M 7 13) (M 7 11) (M 7 12) (k : Int)) hm, ← z, nc_1]
      simp (disch := omega) only [g73_0, g73_1, g73_2, g73_3, g73_6, g73_7, g73_8t, g73_8f, g73_11, g73_12, g73_13, g73_14, g73_16, g73_17, g73_20, g73_21, g73_24, g73_27, g73_28, g73_32, g73_33, g73_36t, g73_36f, g73_39, g73_40, g73_43, g73_45, g73_48, g73_49, g73_50, g73_53, g73_54, g73_55, g73_58, g73_59t, g73_59f, g73_62, g73_64, g73_65, g73_67, g73_68, g73_69, g73_71, g73_74, g73_77, g73_79, cont_1, cont_0, w32_k, P6_0 hS, P6_1 hS, r6, f, e5]
theorem laws_m {n r s y : Nat} {sc : Nat → Int} {M : Mem} {S : Sh} {l3 : Option AV} (hr : 18 < r) (hS : Std n S) (hI : Inv sc M) (hs : s < 4) (hy : y < 16) : ∀ (rem k : Nat) (Y : Mem) (b : Int), ((k + rem : Nat) : Int) = M 84 16 → r32 b → FrX 17 M Y → ∃ Y', go r 165 25 [some (aR 84), some (aI (s : Int)), some (aI (y : Int)), l3, some (aI (M 84 17)), some (aI b), some (aI (k : Int))] [] Y S = some (some (aI (bitF (fun k => unW M s y (M 7 13) (M 7 11) (M 7 12) (k : Int)) rem k b)), Y', S) ∧ FrM M Y' := by
  have k84 := K84 hS
  have hP := hI.2.2.1
  have hN := hI.2.2.2.1
  have p1 := hP.1
  have p3 := hP.2.2.1
  have t1 := hI.2.2.2.2.1.1
  have t5 := hI.2.2.2.2.1.2.2.1
  obtain ⟨n1, n2, n3, n4, n5, n6, n7, n8, n9, n10, n11, n12⟩ := hN
  intro rem
  induction rem with
  | zero =>
    intro k Y b hk hb hY
    have y16 : Y 84 16 = M 84 16 := hY.2 16 (by omega) (by omega)
    rw [g165_25]
    simp (disch := omega) only [g165_0, g165_1, g165_2, g165_3, g165_6, g165_7, g165_8t, g165_8f, g165_11, g165_12, g165_13, g165_14, g165_17, g165_19, g165_20, g165_22, g165_23, g165_27, g165_28, g165_31t, g165_31f, g165_34, g165_35, g165_37, g165_40, g165_42, g165_43, g165_44, g165_45, g165_48, g165_49t, g165_49f, g165_52, g165_53, g165_55, g165_56, g165_59, g165_60, g165_61, g165_63, g165_66, g165_69, g165_70, g165_72, g165_75, g165_77, cont_1, cont_0, w32_k, y16]
    exact ⟨_, rfl, FrX_end hY⟩
  | succ rem ih =>
    intro k Y b hk hb hY
    have y16 : Y 84 16 = M 84 16 := hY.2 16 (by omega) (by omega)
    have hY1 := FrX_s (v := (k : Int)) hY
    have e0 : mset Y 84 17 (k : Int) 84 17 = (k : Int) := mset_eq
    have h1 := hY1.2
    have e9 := h1 9 (by omega) (by omega)
    have e43 := h1 43 (by omega) (by omega)
    have ea := h1 4 (by omega) (by omega)
    have eb := h1 2 (by omega) (by omega)
    have ec := h1 3 (by omega) (by omega)
    have hF : FyM (mset Y 84 17 (k : Int)) := fyM_W hI hY1.1 e9 (by omega) (by omega) (by omega) (by omega)
    obtain ⟨Y2, f, a⟩ := ul_ (M := M) hS (fun q hq => by
      rw [hY1.1 86 (by omega) (by omega)]
      exact (hI.1 q hq).2.1) (fun q hq => by
      rw [hY1.1 100 (by omega) (by omega)]
      exact (hI.2.2.2.2.2.2.1 s hs).2.2.2.2.2.2 q (by omega)) hF hs hy
    rw [md_W hI hY1.1 e9 e43 (by omega) (by omega), e0, ea, eb, ec, n7, n1, n4, show unV M s y (flW M (M 7 13) (M 7 11) (M 7 12) (k : Int)) = unW M s y (M 7 13) (M 7 11) (M 7 12) (k : Int) from rfl] at f
    rw [g165_25]
    by_cases hm : unW M s y (M 7 13) (M 7 11) (M 7 12) (k : Int) = -1
    · obtain ⟨Y3, z, fr⟩ := ih (k + 1) Y2 (or32 b (sh32 1 (k : Int))) (by omega) (or32_r _ _) (FrX_N hY1 a.1)
      refine ⟨Y3, ?_, fr⟩
      rw [bit_t (c := fun k => unW M s y (M 7 13) (M 7 11) (M 7 12) (k : Int)) hm, ← z, nc_1]
      simp (disch := omega) only [g165_0, g165_1, g165_2, g165_3, g165_6, g165_7, g165_8t, g165_8f, g165_11, g165_12, g165_13, g165_14, g165_17, g165_19, g165_20, g165_22, g165_23, g165_27, g165_28, g165_31t, g165_31f, g165_34, g165_35, g165_37, g165_40, g165_42, g165_43, g165_44, g165_45, g165_48, g165_49t, g165_49f, g165_52, g165_53, g165_55, g165_56, g165_59, g165_60, g165_61, g165_63, g165_66, g165_69, g165_70, g165_72, g165_75, g165_77, cont_1, cont_0, w32_k, y16, f]
    · obtain ⟨Y3, z, fr⟩ := ih (k + 1) Y2 b (by omega) hb (FrX_N hY1 a.1)
      refine ⟨Y3, ?_, fr⟩
      rw [bit_f (c := fun k => unW M s y (M 7 13) (M 7 11) (M 7 12) (k : Int)) hm, ← z, nc_1]
      simp (disch := omega) only [g165_0, g165_1, g165_2, g165_3, g165_6, g165_7, g165_8t, g165_8f, g165_11, g165_12, g165_13, g165_14, g165_17, g165_19, g165_20, g165_22, g165_23, g165_27, g165_28, g165_31t, g165_31f, g165_34, g165_35, g165_37, g165_40, g165_42, g165_43, g165_44, g165_45, g165_48, g165_49t, g165_49f, g165_52, g165_53, g165_55, g165_56, g165_59, g165_60, g165_61, g165_63, g165_66, g165_69, g165_70, g165_72, g165_75, g165_77, cont_1, cont_0, w32_k, y16, f, or32_0 hb]
theorem p_winds {x1 x2 : Int} {n : Nat} {sc : Nat → Int} {M : Mem} {S : Sh} (hS : Std n S) (hI : Inv sc M) : Pr (res 71 [aR 6, aI x1, aI x2] M S) (PQ 163 [aR 84, aI x1, aI x2] n S.2.2.2.1 S.2.2.2.2 sc) := by
  have k6 := K6 hS
  have k7 := K7 hS
  have k17 := K17 hS
  have k84 := K84 hS
  have t1 := hI.2.2.2.2.1.1
  have t2 := hI.2.2.2.2.1.2.1
  by_cases hx : refV M x1 x2 = 0
  · obtain ⟨b0, b1, b2, b3⟩ := refV_0 hx
    obtain ⟨s, rfl⟩ : ∃ q : Nat, x1 = (q : Int) := ⟨x1.toNat, by omega⟩
    obtain ⟨y, rfl⟩ : ∃ q : Nat, x2 = (q : Int) := ⟨x2.toNat, by omega⟩
    have g1 := fun M' (hI : Inv sc M') => refusalOf_ (s := (s : Int)) (y := (y : Int)) hS hI
    obtain ⟨X0, f0, t0⟩ := take_17_7 hS (M := M)
    have hX0 := Thk_of t0
    obtain ⟨M1, z1, fr1⟩ := winds_c (r := 16) (s := s) (y := y) (l3 := some (aI 0)) (by omega) hS hI (by omega) (by omega) ((11 : Int)).toNat 0 X0 0 (by omega) hX0 (fun j _ h => thk_17 t0 j h)
    have hI1 := Inv_frC hI fr1
    have r84 : M1 84 = M 84 := fr1 84 (by unfold scrC; omega)
    obtain ⟨M2, z2, fr2⟩ := winds_m (r := 19) (s := s) (y := y) (l3 := some (aI 0)) (by omega) hS hI1 (by omega) (by omega) ((11 : Int)).toNat 0 M1 0 (by omega) r32_0 FrX_r
    obtain ⟨r7, _⟩ := now_fr fr1
    rw [unW_fr fr1 (by omega), r7] at z2
    have g1 := refusalOf_ (s := (s : Int)) (y := (y : Int)) hS hI
    have g2 := toldWrong_ (s := (s : Int)) (y := (y : Int)) hS hI1
    rw [refV_fr fr1] at g2
    rw [hx] at g1 g2
    refine PQ_mk (v := aI (bitF (fun k => unW M s y (M 7 13) ((k : Int) - 5) (M 7 12) (M 7 14)) ((11 : Int)).toNat 0 0)) (M1 := M1) (M2 := M2) ?_ ?_ (Inv_frM hI1 fr2) hS
    · rw [g71]
      simp (disch := omega) only [g71_0, g71_1, g71_2, g71_3, g71_6, g71_7, g71_8t, g71_8f, g71_11, g71_12, g71_13, g71_14, g71_16, g71_17, g71_20, g71_21, g71_24, g71_27, g71_29, g71_33, g71_34t, g71_34f, g71_37, g71_38, g71_41, g71_43, g71_46, g71_47, g71_48, g71_51, g71_52, g71_53, g71_56, g71_57t, g71_57f, g71_60, g71_62, g71_63, g71_65, g71_66, g71_67, g71_68, g71_69, g71_71, g71_74, g71_77, g71_79, cont_1, cont_0, w32_k, P6_0 hS, P6_1 hS, g1, f0]
      exact z1
    · rw [g163]
      simp (disch := omega) only [g163_0, g163_1, g163_2, g163_3, g163_6, g163_7, g163_8t, g163_8f, g163_11, g163_12, g163_13, g163_14, g163_17, g163_19, g163_20, g163_22, g163_23, g163_27, g163_29t, g163_29f, g163_32, g163_33, g163_35, g163_36, g163_37, g163_40, g163_42, g163_43, g163_44, g163_45, g163_48, g163_49t, g163_49f, g163_52, g163_53, g163_55, g163_56, g163_59, g163_60, g163_61, g163_63, g163_66, g163_69, g163_70, g163_72, g163_75, g163_77, cont_1, cont_0, w32_k, g2]
      exact z2
  · refine PQ_mk (v := aI (refV M x1 x2)) (M1 := M) (M2 := M) ?_ ?_ hI hS
    · rw [g71]
      simp (disch := omega) only [g71_0, g71_1, g71_2, g71_3, g71_6, g71_7, g71_8t, g71_8f, g71_11, g71_12, g71_13, g71_14, g71_16, g71_17, g71_20, g71_21, g71_24, g71_27, g71_29, g71_33, g71_34t, g71_34f, g71_37, g71_38, g71_41, g71_43, g71_46, g71_47, g71_48, g71_51, g71_52, g71_53, g71_56, g71_57t, g71_57f, g71_60, g71_62, g71_63, g71_65, g71_66, g71_67, g71_68, g71_69, g71_71, g71_74, g71_77, g71_79, cont_1, cont_0, w32_k, refusalOf_ hS hI]
    · rw [g163]
      simp (disch := omega) only [g163_0, g163_1, g163_2, g163_3, g163_6, g163_7, g163_8t, g163_8f, g163_11, g163_12, g163_13, g163_14, g163_17, g163_19, g163_20, g163_22, g163_23, g163_27, g163_29t, g163_29f, g163_32, g163_33, g163_35, g163_36, g163_37, g163_40, g163_42, g163_43, g163_44, g163_45, g163_48, g163_49t, g163_49f, g163_52, g163_53, g163_55, g163_56, g163_59, g163_60, g163_61, g163_63, g163_66, g163_69, g163_70, g163_72, g163_75, g163_77, cont_1, cont_0, w32_k, toldWrong_ hS hI]
theorem p_laws {x1 x2 : Int} {n : Nat} {sc : Nat → Int} {M : Mem} {S : Sh} (hS : Std n S) (hI : Inv sc M) : Pr (res 73 [aR 6, aI x1, aI x2] M S) (PQ 165 [aR 84, aI x1, aI x2] n S.2.2.2.1 S.2.2.2.2 sc) := by
  have k6 := K6 hS
  have k7 := K7 hS
  have k17 := K17 hS
  have k84 := K84 hS
  have t1 := hI.2.2.2.2.1.1
  have t2 := hI.2.2.2.2.1.2.1
  by_cases hx : refV M x1 x2 = 0
  · obtain ⟨b0, b1, b2, b3⟩ := refV_0 hx
    obtain ⟨s, rfl⟩ : ∃ q : Nat, x1 = (q : Int) := ⟨x1.toNat, by omega⟩
    obtain ⟨y, rfl⟩ : ∃ q : Nat, x2 = (q : Int) := ⟨x2.toNat, by omega⟩
    have g1 := fun M' (hI : Inv sc M') => refusalOf_ (s := (s : Int)) (y := (y : Int)) hS hI
    obtain ⟨X0, f0, t0⟩ := take_17_7 hS (M := M)
    have hX0 := Thk_of t0
    obtain ⟨M1, z1, fr1⟩ := laws_c (r := 16) (s := s) (y := y) (l3 := some (aI 0)) (by omega) hS hI (by omega) (by omega) (M 6 5).toNat 0 X0 0 (by omega) hX0 (fun j _ h => thk_17 t0 j h)
    have hI1 := Inv_frC hI fr1
    have r84 : M1 84 = M 84 := fr1 84 (by unfold scrC; omega)
    obtain ⟨M2, z2, fr2⟩ := laws_m (r := 19) (s := s) (y := y) (l3 := some (aI 0)) (by omega) hS hI1 (by omega) (by omega) (M 6 5).toNat 0 M1 0 (by rw [r84]; omega) r32_0 FrX_r
    obtain ⟨r7, _⟩ := now_fr fr1
    rw [unW_fr fr1 (by omega), r7] at z2
    have g1 := refusalOf_ (s := (s : Int)) (y := (y : Int)) hS hI
    have g2 := toldWrong_ (s := (s : Int)) (y := (y : Int)) hS hI1
    rw [refV_fr fr1] at g2
    rw [hx] at g1 g2
    refine PQ_mk (v := aI (bitF (fun k => unW M s y (M 7 13) (M 7 11) (M 7 12) (k : Int)) (M 6 5).toNat 0 0)) (M1 := M1) (M2 := M2) ?_ ?_ (Inv_frM hI1 fr2) hS
    · rw [g73]
      simp (disch := omega) only [g73_0, g73_1, g73_2, g73_3, g73_6, g73_7, g73_8t, g73_8f, g73_11, g73_12, g73_13, g73_14, g73_16, g73_17, g73_20, g73_21, g73_24, g73_27, g73_28, g73_32, g73_33, g73_36t, g73_36f, g73_39, g73_40, g73_43, g73_45, g73_48, g73_49, g73_50, g73_53, g73_54, g73_55, g73_58, g73_59t, g73_59f, g73_62, g73_64, g73_65, g73_67, g73_68, g73_69, g73_71, g73_74, g73_77, g73_79, cont_1, cont_0, w32_k, P6_0 hS, P6_1 hS, g1, f0]
      exact z1
    · rw [g165]
      simp (disch := omega) only [g165_0, g165_1, g165_2, g165_3, g165_6, g165_7, g165_8t, g165_8f, g165_11, g165_12, g165_13, g165_14, g165_17, g165_19, g165_20, g165_22, g165_23, g165_27, g165_28, g165_31t, g165_31f, g165_34, g165_35, g165_37, g165_40, g165_42, g165_43, g165_44, g165_45, g165_48, g165_49t, g165_49f, g165_52, g165_53, g165_55, g165_56, g165_59, g165_60, g165_61, g165_63, g165_66, g165_69, g165_70, g165_72, g165_75, g165_77, cont_1, cont_0, w32_k, g2]
      exact z2
  · refine PQ_mk (v := aI (refV M x1 x2)) (M1 := M) (M2 := M) ?_ ?_ hI hS
    · rw [g73]
      simp (disch := omega) only [g73_0, g73_1, g73_2, g73_3, g73_6, g73_7, g73_8t, g73_8f, g73_11, g73_12, g73_13, g73_14, g73_16, g73_17, g73_20, g73_21, g73_24, g73_27, g73_28, g73_32, g73_33, g73_36t, g73_36f, g73_39, g73_40, g73_43, g73_45, g73_48, g73_49, g73_50, g73_53, g73_54, g73_55, g73_58, g73_59t, g73_59f, g73_62, g73_64, g73_65, g73_67, g73_68, g73_69, g73_71, g73_74, g73_77, g73_79, cont_1, cont_0, w32_k, refusalOf_ hS hI]
    · rw [g165]
      simp (disch := omega) only [g165_0, g165_1, g165_2, g165_3, g165_6, g165_7, g165_8t, g165_8f, g165_11, g165_12, g165_13, g165_14, g165_17, g165_19, g165_20, g165_22, g165_23, g165_27, g165_28, g165_31t, g165_31f, g165_34, g165_35, g165_37, g165_40, g165_42, g165_43, g165_44, g165_45, g165_48, g165_49t, g165_49f, g165_52, g165_53, g165_55, g165_56, g165_59, g165_60, g165_61, g165_63, g165_66, g165_69, g165_70, g165_72, g165_75, g165_77, cont_1, cont_0, w32_k, toldWrong_ hS hI]
