/-! the best of many -/
def bestF (c enc : Nat → Int) : Nat → Nat → Int → Int → Int × Int
  | 0, _, b, m => (b, m)
  | rem + 1, k, b, m => if m < c k then bestF c enc rem (k + 1) (enc k) (c k) else bestF c enc rem (k + 1) b m
theorem best_t {c enc : Nat → Int} {rem k : Nat} {b m : Int} (h : m < c k) : bestF c enc (rem + 1) k b m = bestF c enc rem (k + 1) (enc k) (c k) := if_pos h
theorem best_f {c enc : Nat → Int} {rem k : Nat} {b m : Int} (h : ¬ m < c k) : bestF c enc (rem + 1) k b m = bestF c enc rem (k + 1) b m := if_neg h
def pick (x : Int) (q : Int × Int) : Int := if x = 0 then q.1 else q.2
theorem pick_0 {q : Int × Int} : pick 0 q = q.1 := rfl
theorem pick_1 {q : Int × Int} : pick 1 q = q.2 := rfl
/-- the model's rows but for field j -/
def FrX (j : Nat) (M Y : Mem) : Prop := FrR M Y ∧ ∀ k, (k < 26 ∨ k = 43) → k ≠ j → Y 84 k = M 84 k
theorem FrX_s {j : Nat} {M Y : Mem} {v : Int} (h : FrX j M Y) : FrX j M (mset Y 84 j v) := by
  refine ⟨fun a h0 h1 => ?_, fun k hk hj => ?_⟩
  · rw [mset_ne _ _ _ h0]
    exact h.1 a h0 h1
  · rw [mset_nk _ hj]
    exact h.2 k hk hj
theorem FrX_N {j : Nat} {M Y Y' : Mem} (h : FrX j M Y) (f : FrN Y Y') : FrX j M Y' := ⟨fun a h0 h1 => (f.1 a h0 (by omega)).trans (h.1 a h0 h1), fun k hk hj => (f.2 k (by omega)).trans (h.2 k hk hj)⟩
theorem FrX_end {j : Nat} {M Y : Mem} (h : FrX j M Y) : FrM M (mset Y 84 j (M 84 j)) := by
  refine ⟨fun a h0 h1 => ?_, fun k hk => ?_⟩
  · rw [mset_ne _ _ _ h0]
    exact h.1 a h0 h1
  · by_cases hj : k = j
    · rw [hj, mset_eq]
    · rw [mset_nk _ hj]
      exact h.2 k hk hj
theorem FrX_r {j : Nat} {M : Mem} : FrX j M M := ⟨fun _ _ _ => rfl, fun _ _ _ => rfl⟩
theorem now_fr {M M' : Mem} (h : FrC M M') : M' 7 = M 7 ∧ M' 8 = M 8 ∧ M' 9 = M 9 ∧ M' 10 = M 10 ∧ M' 11 = M 11 ∧ M' 12 = M 12 ∧ M' 13 = M 13 ∧ M' 14 = M 14 ∧ M' 15 = M 15 ∧ M' 16 = M 16 ∧ M' 93 = M 93 ∧ M' 94 = M 94 ∧ M' 6 = M 6 := by
  have r : ∀ a, (6 ≤ a ∧ a ≤ 16) ∨ a = 93 ∨ a = 94 → M' a = M a := fun a ha => h a (by unfold scrC; omega)
  exact ⟨r 7 (by omega), r 8 (by omega), r 9 (by omega), r 10 (by omega), r 11 (by omega), r 12 (by omega), r 13 (by omega), r 14 (by omega), r 15 (by omega), r 16 (by omega), r 93 (by omega), r 94 (by omega), r 6 (by omega)⟩
/-- what a flight by who, wind, hour, law covers -/
def cvW (M : Mem) (who wd ho t : Int) : Int := cvN M (flW M who wd ho t)
theorem cvW_fr {M M' : Mem} (h : FrC M M') : cvW M' = cvW M := by
  obtain ⟨r7, r8, r9, r10, r11, r12, r13, r14, r15, r16, r93, r94, r6⟩ := now_fr h
  funext who wd ho t
  unfold cvW cvN flW flN cdT stT
  rw [r7, r8, r9, r10, r11, r12, r13, r14, r15, r16, r93, r94]
theorem when_c {n r : Nat} {x1 : Int} {sc : Nat → Int} {M : Mem} {S : Sh} (hr : 15 < r) (hS : Std n S) (hI : Inv sc M) (hx : x1 = 0 ∨ x1 = 1) : ∀ (rem k : Nat) (X : Mem) (b m : Int) (l5 : Option AV), ((k + rem : Nat) : Int) = 24 → Thk M X → (∀ j, j < 15 → j ≠ 12 → (j = 4 ∨ 10 ≤ j) → X 17 j = M 7 j) → ∃ X', go r 68 28 [some (aR 6), some (aI x1), some (aI b), some (aI m), some (aI (k : Int)), l5] [] X S = some (some (aI (pick x1 (bestF (fun k => cvW M (M 7 13) (M 7 11) (k : Int) (M 7 14)) (fun k => (k : Int)) rem k b m))), X', S) ∧ FrC M X' := by
  have k6 := K6 hS
  have k7 := K7 hS
  have k17 := K17 hS
  have k40 := K40 hS
  have hP := hI.2.2.1
  have hN := hI.2.2.2.1
  have p3 := hP.2.2.1
  obtain ⟨_, n2, n3, _, n5, n6, _, n8, n9, _, n11, n12⟩ := hN
  intro rem
  induction rem with
  | zero =>
    intro k X b m l5 hk hX h17
    have r7 : X 7 = M 7 := hX.1 7 (by unfold scrC; omega)
    rw [g68_28]
    rcases hx with rfl | rfl
    all_goals simp (disch := omega) only [g68_0, g68_1, g68_4t, g68_4f, g68_7, g68_9, g68_10, g68_11, g68_12, g68_13, g68_14, g68_15, g68_18, g68_19, g68_22, g68_25, g68_26, g68_30, g68_32t, g68_32f, g68_35, g68_36, g68_39, g68_41, g68_44, g68_45, g68_46, g68_49, g68_52, g68_54, g68_56, g68_57t, g68_57f, g68_60, g68_62, g68_63, g68_65, g68_66, g68_69, g68_72, g68_73t, g68_73f, g68_76, g68_77, g68_80, g68_81, cont_1, cont_0, w32_k, P6_0 hS, P6_1 hS, r7]
    all_goals exact ⟨X, rfl, hX.1⟩
  | succ rem ih =>
    intro k X b m l5 hk hX h17
    have r7 : X 7 = M 7 := hX.1 7 (by unfold scrC; omega)
    have hX1 := Thk_s (j := 12) (v := (k : Int)) hX
    have h1 : ∀ j, j < 15 → j ≠ 12 → (j = 4 ∨ 10 ≤ j) → mset X 17 12 (k : Int) 17 j = M 7 j := fun j hj hj2 hj3 => by
      rw [mset_nk _ hj2]
      exact h17 j hj hj2 hj3
    have e0 : mset X 17 12 (k : Int) 17 12 = (k : Int) := mset_eq
    have e4 := h1 4 (by omega) (by omega) (by omega)
    have e11 := h1 11 (by omega) (by omega) (by omega)
    have e14 := h1 14 (by omega) (by omega) (by omega)
    have e1x := h1 13 (by omega) (by omega) (by omega)
    have hF : FyC (mset X 17 12 (k : Int)) 17 := fyC_th hI hX1.1 (str_th hI hX1 e4) (by omega) (by omega) (fun hw => pl_th hI hX1 (by omega)) (by omega) (by omega)
    obtain ⟨X2, f, a⟩ := cov_th hS hI hX1.1 hX1.2.2.1 hF
    rw [th_W hI hX1 e4 (by omega), e0, e11, e14, e1x, show cvN M (flW M (M 7 13) (M 7 11) (k : Int) (M 7 14)) = cvW M (M 7 13) (M 7 11) (k : Int) (M 7 14) from rfl] at f
    have h2 : ∀ j, j < 15 → j ≠ 12 → (j = 4 ∨ 10 ≤ j) → X2 17 j = M 7 j := fun j hj hj2 hj3 => by
      rw [a.1 17 (by omega)]
      exact h1 j hj hj2 hj3
    rw [g68_28]
    by_cases hm : m < cvW M (M 7 13) (M 7 11) (k : Int) (M 7 14)
    · obtain ⟨X3, z, fr⟩ := ih (k + 1) X2 (k : Int) (cvW M (M 7 13) (M 7 11) (k : Int) (M 7 14)) (some (aI (cvW M (M 7 13) (M 7 11) (k : Int) (M 7 14)))) (by omega) (Thk_T hX1 a.1) h2
      refine ⟨X3, ?_, fr⟩
      rw [best_t (c := fun k => cvW M (M 7 13) (M 7 11) (k : Int) (M 7 14)) hm]
      rw [nc_1] at z
      simp (disch := omega) only [g68_0, g68_1, g68_4t, g68_4f, g68_7, g68_9, g68_10, g68_11, g68_12, g68_13, g68_14, g68_15, g68_18, g68_19, g68_22, g68_25, g68_26, g68_30, g68_32t, g68_32f, g68_35, g68_36, g68_39, g68_41, g68_44, g68_45, g68_46, g68_49, g68_52, g68_54, g68_56, g68_57t, g68_57f, g68_60, g68_62, g68_63, g68_65, g68_66, g68_69, g68_72, g68_73t, g68_73f, g68_76, g68_77, g68_80, g68_81, cont_1, cont_0, w32_k, P6_0 hS, P6_1 hS, r7, f]
      exact z
    · obtain ⟨X3, z, fr⟩ := ih (k + 1) X2 b m (some (aI (cvW M (M 7 13) (M 7 11) (k : Int) (M 7 14)))) (by omega) (Thk_T hX1 a.1) h2
      refine ⟨X3, ?_, fr⟩
      rw [best_f (c := fun k => cvW M (M 7 13) (M 7 11) (k : Int) (M 7 14)) hm]
      rw [nc_1] at z
      simp (disch := omega) only [g68_0, g68_1, g68_4t, g68_4f, g68_7, g68_9, g68_10, g68_11, g68_12, g68_13, g68_14, g68_15, g68_18, g68_19, g68_22, g68_25, g68_26, g68_30, g68_32t, g68_32f, g68_35, g68_36, g68_39, g68_41, g68_44, g68_45, g68_46, g68_49, g68_52, g68_54, g68_56, g68_57t, g68_57f, g68_60, g68_62, g68_63, g68_65, g68_66, g68_69, g68_72, g68_73t, g68_73f, g68_76, g68_77, g68_80, g68_81, cont_1, cont_0, w32_k, P6_0 hS, P6_1 hS, r7, f]
      exact z
theorem when_m {n r : Nat} {x1 : Int} {sc : Nat → Int} {M : Mem} {S : Sh} (hr : 17 < r) (hS : Std n S) (hI : Inv sc M) (hx : x1 = 0 ∨ x1 = 1) : ∀ (rem k : Nat) (Y : Mem) (b m : Int) (l6 : Option AV), ((k + rem : Nat) : Int) = 24 → FrX 3 M Y → ∃ Y', go r 158 25 [some (aR 84), some (aI x1), some (aI (M 84 3)), some (aI b), some (aI m), some (aI (k : Int)), l6] [] Y S = some (some (aI (pick x1 (bestF (fun k => cvW M (M 7 13) (M 7 11) (k : Int) (M 7 14)) (fun k => (k : Int)) rem k b m))), Y', S) ∧ FrM M Y' := by
  have k84 := K84 hS
  have hP := hI.2.2.1
  have hN := hI.2.2.2.1
  have hSt := hI.2.1
  have p1 := hP.1
  have p3 := hP.2.2.1
  obtain ⟨n1, n2, n3, n4, n5, n6, n7, n8, n9, n10, n11, n12⟩ := hN
  intro rem
  induction rem with
  | zero =>
    intro k Y b m l6 hk hY
    have y5 : Y 84 5 = M 84 5 := hY.2 5 (by omega) (by omega)
    rw [g158_25]
    rcases hx with rfl | rfl
    all_goals simp (disch := omega) only [g158_0, g158_1, g158_2, g158_3, g158_6t, g158_6f, g158_9, g158_11, g158_12, g158_13, g158_16, g158_17, g158_18, g158_19, g158_20, g158_22, g158_23, g158_27, g158_29t, g158_29f, g158_32, g158_33, g158_35, g158_38, g158_39, g158_42, g158_44, g158_46, g158_48t, g158_48f, g158_51, g158_53, g158_56, g158_57, g158_58, g158_60, g158_62t, g158_62f, g158_65, g158_67, g158_70, g158_72, g158_74, g158_77, g158_80, g158_81, g158_82, g158_85, g158_86t, g158_86f, g158_89, g158_90, g158_93, g158_95, cont_1, cont_0, w32_k, y5]
    all_goals exact ⟨_, rfl, FrX_end hY⟩
  | succ rem ih =>
    intro k Y b m l6 hk hY
    have y5 : Y 84 5 = M 84 5 := hY.2 5 (by omega) (by omega)
    have hY1 := FrX_s (v := (k : Int)) hY
    have e0 : mset Y 84 3 (k : Int) 84 3 = (k : Int) := mset_eq
    have h1 := hY1.2
    have e9 := h1 9 (by omega) (by omega)
    have e43 := h1 43 (by omega) (by omega)
    have e2 := h1 2 (by omega) (by omega)
    have e17 := h1 17 (by omega) (by omega)
    have ex := h1 4 (by omega) (by omega)
    have hF : FyM (mset Y 84 3 (k : Int)) := fyM_W hI hY1.1 e9 (by omega) (by omega) (by omega) (by omega)
    have hc : ∀ q, q < 192 → mset Y 84 3 (k : Int) 86 q = M 9 q := fun q hq => by
      rw [hY1.1 86 (by omega) (by omega)]
      exact (hI.1 q hq).2.1
    obtain ⟨Y2, f, a⟩ := cov_md (M := M) hS hc hF
    rw [md_W hI hY1.1 e9 e43 (by omega) (by omega), e0, e2, e17, ex, n1, n10, n7, show cvN M (flW M (M 7 13) (M 7 11) (k : Int) (M 7 14)) = cvW M (M 7 13) (M 7 11) (k : Int) (M 7 14) from rfl] at f
    rw [g158_25]
    by_cases hm : m < cvW M (M 7 13) (M 7 11) (k : Int) (M 7 14)
    · obtain ⟨Y3, z, fr⟩ := ih (k + 1) Y2 (k : Int) (cvW M (M 7 13) (M 7 11) (k : Int) (M 7 14)) (some (aI (cvW M (M 7 13) (M 7 11) (k : Int) (M 7 14)))) (by omega) (FrX_N hY1 a.1)
      refine ⟨Y3, ?_, fr⟩
      rw [best_t (c := fun k => cvW M (M 7 13) (M 7 11) (k : Int) (M 7 14)) hm]
      rw [nc_1] at z
      simp (disch := omega) only [g158_0, g158_1, g158_2, g158_3, g158_6t, g158_6f, g158_9, g158_11, g158_12, g158_13, g158_16, g158_17, g158_18, g158_19, g158_20, g158_22, g158_23, g158_27, g158_29t, g158_29f, g158_32, g158_33, g158_35, g158_38, g158_39, g158_42, g158_44, g158_46, g158_48t, g158_48f, g158_51, g158_53, g158_56, g158_57, g158_58, g158_60, g158_62t, g158_62f, g158_65, g158_67, g158_70, g158_72, g158_74, g158_77, g158_80, g158_81, g158_82, g158_85, g158_86t, g158_86f, g158_89, g158_90, g158_93, g158_95, cont_1, cont_0, w32_k, y5, f]
      exact z
    · obtain ⟨Y3, z, fr⟩ := ih (k + 1) Y2 b m (some (aI (cvW M (M 7 13) (M 7 11) (k : Int) (M 7 14)))) (by omega) (FrX_N hY1 a.1)
      refine ⟨Y3, ?_, fr⟩
      rw [best_f (c := fun k => cvW M (M 7 13) (M 7 11) (k : Int) (M 7 14)) hm]
      rw [nc_1] at z
      simp (disch := omega) only [g158_0, g158_1, g158_2, g158_3, g158_6t, g158_6f, g158_9, g158_11, g158_12, g158_13, g158_16, g158_17, g158_18, g158_19, g158_20, g158_22, g158_23, g158_27, g158_29t, g158_29f, g158_32, g158_33, g158_35, g158_38, g158_39, g158_42, g158_44, g158_46, g158_48t, g158_48f, g158_51, g158_53, g158_56, g158_57, g158_58, g158_60, g158_62t, g158_62f, g158_65, g158_67, g158_70, g158_72, g158_74, g158_77, g158_80, g158_81, g158_82, g158_85, g158_86t, g158_86f, g158_89, g158_90, g158_93, g158_95, cont_1, cont_0, w32_k, y5, f]
      exact z
theorem who_c {n r : Nat} {x1 : Int} {sc : Nat → Int} {M : Mem} {S : Sh} (hr : 15 < r) (hS : Std n S) (hI : Inv sc M) (hx : x1 = 0 ∨ x1 = 1) : ∀ (rem k : Nat) (X : Mem) (b m : Int) (l5 : Option AV), ((k + rem : Nat) : Int) = M 7 10 → Thk M X → (∀ j, j < 15 → j ≠ 13 → (j = 4 ∨ 10 ≤ j) → X 17 j = M 7 j) → ∃ X', go r 67 28 [some (aR 6), some (aI x1), some (aI b), some (aI m), some (aI (k : Int)), l5] [] X S = some (some (aI (pick x1 (bestF (fun k => cvW M (k : Int) (M 7 11) (M 7 12) (M 7 14)) (fun k => (k : Int)) rem k b m))), X', S) ∧ FrC M X' := by
  have k6 := K6 hS
  have k7 := K7 hS
  have k17 := K17 hS
  have k40 := K40 hS
  have hP := hI.2.2.1
  have hN := hI.2.2.2.1
  have p3 := hP.2.2.1
  obtain ⟨_, n2, n3, _, n5, n6, _, n8, n9, _, n11, n12⟩ := hN
  intro rem
  induction rem with
  | zero =>
    intro k X b m l5 hk hX h17
    have r7 : X 7 = M 7 := hX.1 7 (by unfold scrC; omega)
    rw [g67_28]
    rcases hx with rfl | rfl
    all_goals simp (disch := omega) only [g67_0, g67_1, g67_4t, g67_4f, g67_7, g67_9, g67_10, g67_11, g67_12, g67_13, g67_14, g67_15, g67_18, g67_19, g67_22, g67_25, g67_26, g67_30, g67_31, g67_34, g67_37t, g67_37f, g67_40, g67_41, g67_44, g67_46, g67_49, g67_50, g67_51, g67_54, g67_57, g67_59, g67_61, g67_62t, g67_62f, g67_65, g67_67, g67_68, g67_70, g67_71, g67_74, g67_77, g67_78t, g67_78f, g67_81, g67_82, g67_85, g67_86, cont_1, cont_0, w32_k, P6_0 hS, P6_1 hS, r7]
    all_goals exact ⟨X, rfl, hX.1⟩
  | succ rem ih =>
    intro k X b m l5 hk hX h17
    have r7 : X 7 = M 7 := hX.1 7 (by unfold scrC; omega)
    have hX1 := Thk_s (j := 13) (v := (k : Int)) hX
    have h1 : ∀ j, j < 15 → j ≠ 13 → (j = 4 ∨ 10 ≤ j) → mset X 17 13 (k : Int) 17 j = M 7 j := fun j hj hj2 hj3 => by
      rw [mset_nk _ hj2]
      exact h17 j hj hj2 hj3
    have e0 : mset X 17 13 (k : Int) 17 13 = (k : Int) := mset_eq
    have e4 := h1 4 (by omega) (by omega) (by omega)
    have e11 := h1 11 (by omega) (by omega) (by omega)
    have e14 := h1 14 (by omega) (by omega) (by omega)
    have e1x := h1 12 (by omega) (by omega) (by omega)
    have hF : FyC (mset X 17 13 (k : Int)) 17 := fyC_th hI hX1.1 (str_th hI hX1 e4) (by omega) (by omega) (fun hw => pl_th hI hX1 (by omega)) (by omega) (by omega)
    obtain ⟨X2, f, a⟩ := cov_th hS hI hX1.1 hX1.2.2.1 hF
    rw [th_W hI hX1 e4 (by omega), e0, e11, e14, e1x, show cvN M (flW M (k : Int) (M 7 11) (M 7 12) (M 7 14)) = cvW M (k : Int) (M 7 11) (M 7 12) (M 7 14) from rfl] at f
    have h2 : ∀ j, j < 15 → j ≠ 13 → (j = 4 ∨ 10 ≤ j) → X2 17 j = M 7 j := fun j hj hj2 hj3 => by
      rw [a.1 17 (by omega)]
      exact h1 j hj hj2 hj3
    rw [g67_28]
    by_cases hm : m < cvW M (k : Int) (M 7 11) (M 7 12) (M 7 14)
    · obtain ⟨X3, z, fr⟩ := ih (k + 1) X2 (k : Int) (cvW M (k : Int) (M 7 11) (M 7 12) (M 7 14)) (some (aI (cvW M (k : Int) (M 7 11) (M 7 12) (M 7 14)))) (by omega) (Thk_T hX1 a.1) h2
      refine ⟨X3, ?_, fr⟩
      rw [best_t (c := fun k => cvW M (k : Int) (M 7 11) (M 7 12) (M 7 14)) hm]
      rw [nc_1] at z
      simp (disch := omega) only [g67_0, g67_1, g67_4t, g67_4f, g67_7, g67_9, g67_10, g67_11, g67_12, g67_13, g67_14, g67_15, g67_18, g67_19, g67_22, g67_25, g67_26, g67_30, g67_31, g67_34, g67_37t, g67_37f, g67_40, g67_41, g67_44, g67_46, g67_49, g67_50, g67_51, g67_54, g67_57, g67_59, g67_61, g67_62t, g67_62f, g67_65, g67_67, g67_68, g67_70, g67_71, g67_74, g67_77, g67_78t, g67_78f, g67_81, g67_82, g67_85, g67_86, cont_1, cont_0, w32_k, P6_0 hS, P6_1 hS, r7, f]
      exact z
    · obtain ⟨X3, z, fr⟩ := ih (k + 1) X2 b m (some (aI (cvW M (k : Int) (M 7 11) (M 7 12) (M 7 14)))) (by omega) (Thk_T hX1 a.1) h2
      refine ⟨X3, ?_, fr⟩
      rw [best_f (c := fun k => cvW M (k : Int) (M 7 11) (M 7 12) (M 7 14)) hm]
      rw [nc_1] at z
      simp (disch := omega) only [g67_0, g67_1, g67_4t, g67_4f, g67_7, g67_9, g67_10, g67_11, g67_12, g67_13, g67_14, g67_15, g67_18, g67_19, g67_22, g67_25, g67_26, g67_30, g67_31, g67_34, g67_37t, g67_37f, g67_40, g67_41, g67_44, g67_46, g67_49, g67_50, g67_51, g67_54, g67_57, g67_59, g67_61, g67_62t, g67_62f, g67_65, g67_67, g67_68, g67_70, g67_71, g67_74, g67_77, g67_78t, g67_78f, g67_81, g67_82, g67_85, g67_86, cont_1, cont_0, w32_k, P6_0 hS, P6_1 hS, r7, f]
      exact z
theorem who_m {n r : Nat} {x1 : Int} {sc : Nat → Int} {M : Mem} {S : Sh} (hr : 17 < r) (hS : Std n S) (hI : Inv sc M) (hx : x1 = 0 ∨ x1 = 1) : ∀ (rem k : Nat) (Y : Mem) (b m : Int) (l6 : Option AV), ((k + rem : Nat) : Int) = M 84 5 → FrX 4 M Y → ∃ Y', go r 157 25 [some (aR 84), some (aI x1), some (aI (M 84 4)), some (aI b), some (aI m), some (aI (k : Int)), l6] [] Y S = some (some (aI (pick x1 (bestF (fun k => cvW M (k : Int) (M 7 11) (M 7 12) (M 7 14)) (fun k => (k : Int)) rem k b m))), Y', S) ∧ FrM M Y' := by
  have k84 := K84 hS
  have hP := hI.2.2.1
  have hN := hI.2.2.2.1
  have hSt := hI.2.1
  have p1 := hP.1
  have p3 := hP.2.2.1
  obtain ⟨n1, n2, n3, n4, n5, n6, n7, n8, n9, n10, n11, n12⟩ := hN
  intro rem
  induction rem with
  | zero =>
    intro k Y b m l6 hk hY
    have y5 : Y 84 5 = M 84 5 := hY.2 5 (by omega) (by omega)
    rw [g157_25]
    rcases hx with rfl | rfl
    all_goals simp (disch := omega) only [g157_0, g157_1, g157_2, g157_3, g157_6t, g157_6f, g157_9, g157_11, g157_12, g157_13, g157_16, g157_17, g157_18, g157_19, g157_20, g157_22, g157_23, g157_27, g157_28, g157_31t, g157_31f, g157_34, g157_35, g157_37, g157_40, g157_41, g157_44, g157_46, g157_48, g157_50t, g157_50f, g157_53, g157_55, g157_58, g157_59, g157_60, g157_62, g157_64t, g157_64f, g157_67, g157_69, g157_72, g157_74, g157_76, g157_79, g157_82, g157_83, g157_84, g157_87, g157_88t, g157_88f, g157_91, g157_92, g157_95, g157_97, cont_1, cont_0, w32_k, y5]
    all_goals exact ⟨_, rfl, FrX_end hY⟩
  | succ rem ih =>
    intro k Y b m l6 hk hY
    have y5 : Y 84 5 = M 84 5 := hY.2 5 (by omega) (by omega)
    have hY1 := FrX_s (v := (k : Int)) hY
    have e0 : mset Y 84 4 (k : Int) 84 4 = (k : Int) := mset_eq
    have h1 := hY1.2
    have e9 := h1 9 (by omega) (by omega)
    have e43 := h1 43 (by omega) (by omega)
    have e2 := h1 2 (by omega) (by omega)
    have e17 := h1 17 (by omega) (by omega)
    have ex := h1 3 (by omega) (by omega)
    have hF : FyM (mset Y 84 4 (k : Int)) := fyM_W hI hY1.1 e9 (by omega) (by omega) (by omega) (by omega)
    have hc : ∀ q, q < 192 → mset Y 84 4 (k : Int) 86 q = M 9 q := fun q hq => by
      rw [hY1.1 86 (by omega) (by omega)]
      exact (hI.1 q hq).2.1
    obtain ⟨Y2, f, a⟩ := cov_md (M := M) hS hc hF
    rw [md_W hI hY1.1 e9 e43 (by omega) (by omega), e0, e2, e17, ex, n1, n10, n4, show cvN M (flW M (k : Int) (M 7 11) (M 7 12) (M 7 14)) = cvW M (k : Int) (M 7 11) (M 7 12) (M 7 14) from rfl] at f
    rw [g157_25]
    by_cases hm : m < cvW M (k : Int) (M 7 11) (M 7 12) (M 7 14)
    · obtain ⟨Y3, z, fr⟩ := ih (k + 1) Y2 (k : Int) (cvW M (k : Int) (M 7 11) (M 7 12) (M 7 14)) (some (aI (cvW M (k : Int) (M 7 11) (M 7 12) (M 7 14)))) (by omega) (FrX_N hY1 a.1)
      refine ⟨Y3, ?_, fr⟩
      rw [best_t (c := fun k => cvW M (k : Int) (M 7 11) (M 7 12) (M 7 14)) hm]
      rw [nc_1] at z
      simp (disch := omega) only [g157_0, g157_1, g157_2, g157_3, g157_6t, g157_6f, g157_9, g157_11, g157_12, g157_13, g157_16, g157_17, g157_18, g157_19, g157_20, g157_22, g157_23, g157_27, g157_28, g157_31t, g157_31f, g157_34, g157_35, g157_37, g157_40, g157_41, g157_44, g157_46, g157_48, g157_50t, g157_50f, g157_53, g157_55, g157_58, g157_59, g157_60, g157_62, g157_64t, g157_64f, g157_67, g157_69, g157_72, g157_74, g157_76, g157_79, g157_82, g157_83, g157_84, g157_87, g157_88t, g157_88f, g157_91, g157_92, g157_95, g157_97, cont_1, cont_0, w32_k, y5, f]
      exact z
    · obtain ⟨Y3, z, fr⟩ := ih (k + 1) Y2 b m (some (aI (cvW M (k : Int) (M 7 11) (M 7 12) (M 7 14)))) (by omega) (FrX_N hY1 a.1)
      refine ⟨Y3, ?_, fr⟩
      rw [best_f (c := fun k => cvW M (k : Int) (M 7 11) (M 7 12) (M 7 14)) hm]
      rw [nc_1] at z
      simp (disch := omega) only [g157_0, g157_1, g157_2, g157_3, g157_6t, g157_6f, g157_9, g157_11, g157_12, g157_13, g157_16, g157_17, g157_18, g157_19, g157_20, g157_22, g157_23, g157_27, g157_28, g157_31t, g157_31f, g157_34, g157_35, g157_37, g157_40, g157_41, g157_44, g157_46, g157_48, g157_50t, g157_50f, g157_53, g157_55, g157_58, g157_59, g157_60, g157_62, g157_64t, g157_64f, g157_67, g157_69, g157_72, g157_74, g157_76, g157_79, g157_82, g157_83, g157_84, g157_87, g157_88t, g157_88f, g157_91, g157_92, g157_95, g157_97, cont_1, cont_0, w32_k, y5, f]
      exact z
theorem p_when {x1 : Int} {n : Nat} {sc : Nat → Int} {M : Mem} {S : Sh} (hS : Std n S) (hI : Inv sc M) : Pr (res 68 [aR 6, aI x1] M S) (PQ 158 [aR 84, aI x1] n S.2.2.2.1 S.2.2.2.2 sc) := by
  have k6 := K6 hS
  have k7 := K7 hS
  have k17 := K17 hS
  have k84 := K84 hS
  have p1 := hI.2.2.1.1
  have p2 := hI.2.2.1.2.1
  rcases (by omega : (x1 ≠ 0 ∧ x1 ≠ 1) ∨ (x1 = 0 ∨ x1 = 1)) with hx | hx
  · refine PQ_mk (v := aI (-2)) (M1 := M) (M2 := M) ?_ ?_ hI hS
    · rw [g68]
      simp (disch := omega) only [g68_0, g68_1, g68_4t, g68_4f, g68_7, g68_9, g68_10, g68_11, g68_12, g68_13, g68_14, g68_15, g68_18, g68_19, g68_22, g68_25, g68_26, g68_30, g68_32t, g68_32f, g68_35, g68_36, g68_39, g68_41, g68_44, g68_45, g68_46, g68_49, g68_52, g68_54, g68_56, g68_57t, g68_57f, g68_60, g68_62, g68_63, g68_65, g68_66, g68_69, g68_72, g68_73t, g68_73f, g68_76, g68_77, g68_80, g68_81, cont_1, cont_0, isHalf_f]
    · rw [g158]
      rcases (by omega : x1 < 0 ∨ 1 < x1) with hy | hy
      all_goals simp (disch := omega) only [g158_0, g158_1, g158_2, g158_3, g158_6t, g158_6f, g158_9, g158_11, g158_12, g158_13, g158_16, g158_17, g158_18, g158_19, g158_20, g158_22, g158_23, g158_27, g158_29t, g158_29f, g158_32, g158_33, g158_35, g158_38, g158_39, g158_42, g158_44, g158_46, g158_48t, g158_48f, g158_51, g158_53, g158_56, g158_57, g158_58, g158_60, g158_62t, g158_62f, g158_65, g158_67, g158_70, g158_72, g158_74, g158_77, g158_80, g158_81, g158_82, g158_85, g158_86t, g158_86f, g158_89, g158_90, g158_93, g158_95, cont_1, cont_0, in_f]
  · obtain ⟨X0, f0, t0⟩ := take_17_7 hS (M := M)
    have hX0 := Thk_of t0
    have h17 : ∀ j, j < 15 → j ≠ 12 → (j = 4 ∨ 10 ≤ j) → X0 17 j = M 7 j := fun j hj _ h => by
      obtain ⟨_, _, _, _, q4, q10, q11, q12, q13, q14⟩ := t0
      rcases (by omega : j = 4 ∨ j = 10 ∨ j = 11 ∨ j = 12 ∨ j = 13 ∨ j = 14) with rfl | rfl | rfl | rfl | rfl | rfl
      all_goals assumption
    obtain ⟨M1, z1, fr1⟩ := when_c (r := 16) (by omega) hS hI hx ((24 : Int)).toNat 0 X0 (-1) (-1) none (by omega) hX0 h17
    have hI1 := Inv_frC hI fr1
    have r84 : M1 84 = M 84 := fr1 84 (by unfold scrC; omega)
    obtain ⟨M2, z2, fr2⟩ := when_m (r := 18) (by omega) hS hI1 hx ((24 : Int)).toNat 0 M1 (-1) (-1) none (by omega) FrX_r
    obtain ⟨r7, _⟩ := now_fr fr1
    rw [cvW_fr fr1, r7] at z2
    refine PQ_mk (v := aI (pick x1 (bestF (fun k => cvW M (M 7 13) (M 7 11) (k : Int) (M 7 14)) (fun k => (k : Int)) ((24 : Int)).toNat 0 (-1) (-1)))) (M1 := M1) (M2 := M2) ?_ ?_ (Inv_frM hI1 fr2) hS
    · rw [g68]
      simp (disch := omega) only [g68_0, g68_1, g68_4t, g68_4f, g68_7, g68_9, g68_10, g68_11, g68_12, g68_13, g68_14, g68_15, g68_18, g68_19, g68_22, g68_25, g68_26, g68_30, g68_32t, g68_32f, g68_35, g68_36, g68_39, g68_41, g68_44, g68_45, g68_46, g68_49, g68_52, g68_54, g68_56, g68_57t, g68_57f, g68_60, g68_62, g68_63, g68_65, g68_66, g68_69, g68_72, g68_73t, g68_73f, g68_76, g68_77, g68_80, g68_81, cont_1, cont_0, isHalf_t, P6_0 hS, P6_1 hS, f0]
      exact z1
    · rw [g158]
      simp (disch := omega) only [g158_0, g158_1, g158_2, g158_3, g158_6t, g158_6f, g158_9, g158_11, g158_12, g158_13, g158_16, g158_17, g158_18, g158_19, g158_20, g158_22, g158_23, g158_27, g158_29t, g158_29f, g158_32, g158_33, g158_35, g158_38, g158_39, g158_42, g158_44, g158_46, g158_48t, g158_48f, g158_51, g158_53, g158_56, g158_57, g158_58, g158_60, g158_62t, g158_62f, g158_65, g158_67, g158_70, g158_72, g158_74, g158_77, g158_80, g158_81, g158_82, g158_85, g158_86t, g158_86f, g158_89, g158_90, g158_93, g158_95, cont_1, cont_0, in_t]
      exact z2
theorem p_who {x1 : Int} {n : Nat} {sc : Nat → Int} {M : Mem} {S : Sh} (hS : Std n S) (hI : Inv sc M) : Pr (res 67 [aR 6, aI x1] M S) (PQ 157 [aR 84, aI x1] n S.2.2.2.1 S.2.2.2.2 sc) := by
  have k6 := K6 hS
  have k7 := K7 hS
  have k17 := K17 hS
  have k84 := K84 hS
  have p1 := hI.2.2.1.1
  have p2 := hI.2.2.1.2.1
  rcases (by omega : (x1 ≠ 0 ∧ x1 ≠ 1) ∨ (x1 = 0 ∨ x1 = 1)) with hx | hx
  · refine PQ_mk (v := aI (-2)) (M1 := M) (M2 := M) ?_ ?_ hI hS
    · rw [g67]
      simp (disch := omega) only [g67_0, g67_1, g67_4t, g67_4f, g67_7, g67_9, g67_10, g67_11, g67_12, g67_13, g67_14, g67_15, g67_18, g67_19, g67_22, g67_25, g67_26, g67_30, g67_31, g67_34, g67_37t, g67_37f, g67_40, g67_41, g67_44, g67_46, g67_49, g67_50, g67_51, g67_54, g67_57, g67_59, g67_61, g67_62t, g67_62f, g67_65, g67_67, g67_68, g67_70, g67_71, g67_74, g67_77, g67_78t, g67_78f, g67_81, g67_82, g67_85, g67_86, cont_1, cont_0, isHalf_f]
    · rw [g157]
      rcases (by omega : x1 < 0 ∨ 1 < x1) with hy | hy
      all_goals simp (disch := omega) only [g157_0, g157_1, g157_2, g157_3, g157_6t, g157_6f, g157_9, g157_11, g157_12, g157_13, g157_16, g157_17, g157_18, g157_19, g157_20, g157_22, g157_23, g157_27, g157_28, g157_31t, g157_31f, g157_34, g157_35, g157_37, g157_40, g157_41, g157_44, g157_46, g157_48, g157_50t, g157_50f, g157_53, g157_55, g157_58, g157_59, g157_60, g157_62, g157_64t, g157_64f, g157_67, g157_69, g157_72, g157_74, g157_76, g157_79, g157_82, g157_83, g157_84, g157_87, g157_88t, g157_88f, g157_91, g157_92, g157_95, g157_97, cont_1, cont_0, in_f]
  · obtain ⟨X0, f0, t0⟩ := take_17_7 hS (M := M)
    have hX0 := Thk_of t0
    have h17 : ∀ j, j < 15 → j ≠ 13 → (j = 4 ∨ 10 ≤ j) → X0 17 j = M 7 j := fun j hj _ h => by
      obtain ⟨_, _, _, _, q4, q10, q11, q12, q13, q14⟩ := t0
      rcases (by omega : j = 4 ∨ j = 10 ∨ j = 11 ∨ j = 12 ∨ j = 13 ∨ j = 14) with rfl | rfl | rfl | rfl | rfl | rfl
      all_goals assumption
    obtain ⟨M1, z1, fr1⟩ := who_c (r := 16) (by omega) hS hI hx (M 7 10).toNat 0 X0 (-1) (-1) none (by omega) hX0 h17
    have hI1 := Inv_frC hI fr1
    have r84 : M1 84 = M 84 := fr1 84 (by unfold scrC; omega)
    obtain ⟨M2, z2, fr2⟩ := who_m (r := 18) (by omega) hS hI1 hx (M 7 10).toNat 0 M1 (-1) (-1) none (by rw [r84]; omega) FrX_r
    obtain ⟨r7, _⟩ := now_fr fr1
    rw [cvW_fr fr1, r7] at z2
    refine PQ_mk (v := aI (pick x1 (bestF (fun k => cvW M (k : Int) (M 7 11) (M 7 12) (M 7 14)) (fun k => (k : Int)) (M 7 10).toNat 0 (-1) (-1)))) (M1 := M1) (M2 := M2) ?_ ?_ (Inv_frM hI1 fr2) hS
    · rw [g67]
      simp (disch := omega) only [g67_0, g67_1, g67_4t, g67_4f, g67_7, g67_9, g67_10, g67_11, g67_12, g67_13, g67_14, g67_15, g67_18, g67_19, g67_22, g67_25, g67_26, g67_30, g67_31, g67_34, g67_37t, g67_37f, g67_40, g67_41, g67_44, g67_46, g67_49, g67_50, g67_51, g67_54, g67_57, g67_59, g67_61, g67_62t, g67_62f, g67_65, g67_67, g67_68, g67_70, g67_71, g67_74, g67_77, g67_78t, g67_78f, g67_81, g67_82, g67_85, g67_86, cont_1, cont_0, isHalf_t, P6_0 hS, P6_1 hS, f0]
      exact z1
    · rw [g157]
      simp (disch := omega) only [g157_0, g157_1, g157_2, g157_3, g157_6t, g157_6f, g157_9, g157_11, g157_12, g157_13, g157_16, g157_17, g157_18, g157_19, g157_20, g157_22, g157_23, g157_27, g157_28, g157_31t, g157_31f, g157_34, g157_35, g157_37, g157_40, g157_41, g157_44, g157_46, g157_48, g157_50t, g157_50f, g157_53, g157_55, g157_58, g157_59, g157_60, g157_62, g157_64t, g157_64f, g157_67, g157_69, g157_72, g157_74, g157_76, g157_79, g157_82, g157_83, g157_84, g157_87, g157_88t, g157_88f, g157_91, g157_92, g157_95, g157_97, cont_1, cont_0, in_t]
      exact z2
