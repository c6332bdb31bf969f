theorem apart_c {n r : Nat} {ac fr mi wh : Int} {c d : Nat → Int} {M : Mem} {S : Sh} (hr : 15 < r) (hS : Std n S) (hx : wh = 0 ∨ wh = 1) (one : ∀ (k : Nat) (X : Mem), k < 9 → FrC M X → ∃ X1 X2, res 92 [aR 6, aI ac, aI fr, aI (9 - (k : Int))] X S = some (none, X1, S) ∧ res 91 [aR 6, aR 17] X1 S = some (some (aI (c k)), X2, S) ∧ FrC M X2 ∧ X2 40 3 = d k) : ∀ (rem k : Nat) (X : Mem), k + rem = 9 → FrC M X → ∃ X', go r 64 43 [some (aR 6), some (aI ac), some (aI fr), some (aI mi), some (aI wh), some (aI (9 - (k : Int)))] [] X S = some (some (aI (pick wh (fstF c d (fun k => 9 - (k : Int)) mi rem k))), X', S) ∧ FrC M X' := by
  have k6 := K6 hS
  have k17 := K17 hS
  have k40 := K40 hS
  intro rem
  induction rem with
  | zero =>
    intro k X hk hX
    rw [g64_43]
    rcases hx with rfl | rfl
    all_goals simp (disch := omega) only [g64_0, g64_1, g64_4t, g64_4f, g64_7, g64_8t, g64_8f, g64_11, g64_12, g64_14t, g64_14f, g64_17, g64_18t, g64_18f, g64_21, g64_22, g64_25t, g64_25f, g64_28, g64_30, g64_33t, g64_33f, g64_36, g64_38, g64_39, g64_41, g64_45, g64_46t, g64_46f, g64_49, g64_50, g64_51, g64_52, g64_54, g64_57, g64_58, g64_59, g64_62, g64_65, g64_66t, g64_66f, g64_69, g64_71t, g64_71f, g64_74, g64_76, g64_79, g64_80, g64_83, g64_86, g64_87, g64_90, g64_93, g64_94, cont_1, cont_0, w32_k]
    all_goals exact ⟨X, rfl, hX⟩
  | succ rem ih =>
    intro k X hk hX
    obtain ⟨X1, X2, f1, f2, hX2, hd⟩ := one k X (by omega) hX
    rw [g64_43]
    by_cases hm : mi ≤ c k
    · refine ⟨X2, ?_, hX2⟩
      rw [fst_t hm]
      rcases hx with rfl | rfl
      all_goals simp (disch := omega) only [g64_0, g64_1, g64_4t, g64_4f, g64_7, g64_8t, g64_8f, g64_11, g64_12, g64_14t, g64_14f, g64_17, g64_18t, g64_18f, g64_21, g64_22, g64_25t, g64_25f, g64_28, g64_30, g64_33t, g64_33f, g64_36, g64_38, g64_39, g64_41, g64_45, g64_46t, g64_46f, g64_49, g64_50, g64_51, g64_52, g64_54, g64_57, g64_58, g64_59, g64_62, g64_65, g64_66t, g64_66f, g64_69, g64_71t, g64_71f, g64_74, g64_76, g64_79, g64_80, g64_83, g64_86, g64_87, g64_90, g64_93, g64_94, cont_1, cont_0, w32_k, P6_1 hS, P6_9 hS, f1, f2, hd, pick_0, pick_1]
    · obtain ⟨X3, z, fr3⟩ := ih (k + 1) X2 (by omega) hX2
      refine ⟨X3, ?_, fr3⟩
      rw [fst_f hm, ← z, show (9 : Int) - ((k + 1 : Nat) : Int) = 9 - (k : Int) + -1 by omega]
      simp (disch := omega) only [g64_0, g64_1, g64_4t, g64_4f, g64_7, g64_8t, g64_8f, g64_11, g64_12, g64_14t, g64_14f, g64_17, g64_18t, g64_18f, g64_21, g64_22, g64_25t, g64_25f, g64_28, g64_30, g64_33t, g64_33f, g64_36, g64_38, g64_39, g64_41, g64_45, g64_46t, g64_46f, g64_49, g64_50, g64_51, g64_52, g64_54, g64_57, g64_58, g64_59, g64_62, g64_65, g64_66t, g64_66f, g64_69, g64_71t, g64_71f, g64_74, g64_76, g64_79, g64_80, g64_83, g64_86, g64_87, g64_90, g64_93, g64_94, cont_1, cont_0, w32_k, P6_1 hS, w32_o, f1, f2]
theorem apart_m {n r : Nat} {ac fr mi wh : Int} {c d : Nat → Int} {M : Mem} {S : Sh} (hr : 18 < r) (hS : Std n S) (hx : wh = 0 ∨ wh = 1) (one : ∀ (k : Nat) (Y : Mem), k < 9 → FrM M Y → ∃ Y2, res 153 [aR 84, aI ac, aI fr, aI (9 - (k : Int))] Y S = some (some (aI (c k)), Y2, S) ∧ FrM M Y2 ∧ Y2 84 40 = d k) : ∀ (rem k : Nat) (Y : Mem), k + rem = 9 → FrM M Y → ∃ Y', go r 154 47 [some (aR 84), some (aI ac), some (aI fr), some (aI mi), some (aI wh), some (aI (9 - (k : Int)))] [] Y S = some (some (aI (pick wh (fstF c d (fun k => 9 - (k : Int)) mi rem k))), Y', S) ∧ FrM M Y' := by
  have k84 := K84 hS
  intro rem
  induction rem with
  | zero =>
    intro k Y hk hY
    rw [g154_47]
    rcases hx with rfl | rfl
    all_goals simp (disch := omega) only [g154_0, g154_1, g154_2, g154_3, g154_6t, g154_6f, g154_9, g154_10, g154_11, g154_13, g154_16t, g154_16f, g154_19, g154_20, g154_21, g154_24, g154_27t, g154_27f, g154_30, g154_32, g154_33, g154_34, g154_37t, g154_37f, g154_40, g154_42, g154_43, g154_45, g154_49, g154_50t, g154_50f, g154_53, g154_54, g154_55, g154_56, g154_58, g154_61, g154_62t, g154_62f, g154_65, g154_67t, g154_67f, g154_70, g154_72, g154_75, g154_76, g154_79, g154_80, g154_83, g154_86, g154_87, cont_1, cont_0, w32_k]
    all_goals exact ⟨Y, rfl, hY⟩
  | succ rem ih =>
    intro k Y hk hY
    obtain ⟨Y2, f2, hY2, hd⟩ := one k Y (by omega) hY
    rw [g154_47]
    by_cases hm : mi ≤ c k
    · refine ⟨Y2, ?_, hY2⟩
      rw [fst_t hm]
      rcases hx with rfl | rfl
      all_goals simp (disch := omega) only [g154_0, g154_1, g154_2, g154_3, g154_6t, g154_6f, g154_9, g154_10, g154_11, g154_13, g154_16t, g154_16f, g154_19, g154_20, g154_21, g154_24, g154_27t, g154_27f, g154_30, g154_32, g154_33, g154_34, g154_37t, g154_37f, g154_40, g154_42, g154_43, g154_45, g154_49, g154_50t, g154_50f, g154_53, g154_54, g154_55, g154_56, g154_58, g154_61, g154_62t, g154_62f, g154_65, g154_67t, g154_67f, g154_70, g154_72, g154_75, g154_76, g154_79, g154_80, g154_83, g154_86, g154_87, cont_1, cont_0, w32_k, f2, hd, pick_0, pick_1]
    · obtain ⟨Y3, z, fr3⟩ := ih (k + 1) Y2 (by omega) hY2
      refine ⟨Y3, ?_, fr3⟩
      rw [fst_f hm, ← z, show (9 : Int) - ((k + 1 : Nat) : Int) = 9 - (k : Int) + -1 by omega]
      simp (disch := omega) only [g154_0, g154_1, g154_2, g154_3, g154_6t, g154_6f, g154_9, g154_10, g154_11, g154_13, g154_16t, g154_16f, g154_19, g154_20, g154_21, g154_24, g154_27t, g154_27f, g154_30, g154_32, g154_33, g154_34, g154_37t, g154_37f, g154_40, g154_42, g154_43, g154_45, g154_49, g154_50t, g154_50f, g154_53, g154_54, g154_55, g154_56, g154_58, g154_61, g154_62t, g154_62f, g154_65, g154_67t, g154_67f, g154_70, g154_72, g154_75, g154_76, g154_79, g154_80, g154_83, g154_86, g154_87, cont_1, cont_0, w32_k, w32_o, f2]
theorem p_apart {x1 x2 x3 x4 : Int} {n : Nat} {sc : Nat → Int} {M : Mem} {S : Sh} (hS : Std n S) (hI : Inv sc M) : Pr (res 64 [aR 6, aI x1, aI x2, aI x3, aI x4] M S) (PQ 154 [aR 84, aI x1, aI x2, aI x3, aI x4] n S.2.2.2.1 S.2.2.2.2 sc) := by
  have k6 := K6 hS
  have k84 := K84 hS
  by_cases c0 : x1 < 0
  · refine PQ_mk (v := aI (-2)) (M1 := M) (M2 := M) ?_ ?_ hI hS
    · rw [g64]
      simp (disch := omega) only [g64_0, g64_1, g64_4t, g64_4f, g64_7, g64_8t, g64_8f, g64_11, g64_12, g64_14t, g64_14f, g64_17, g64_18t, g64_18f, g64_21, g64_22, g64_25t, g64_25f, g64_28, g64_30, g64_33t, g64_33f, g64_36, g64_38, g64_39, g64_41, g64_45, g64_46t, g64_46f, g64_49, g64_50, g64_51, g64_52, g64_54, g64_57, g64_58, g64_59, g64_62, g64_65, g64_66t, g64_66f, g64_69, g64_71t, g64_71f, g64_74, g64_76, g64_79, g64_80, g64_83, g64_86, g64_87, g64_90, g64_93, g64_94, cont_1, cont_0, w32_k, isHalf_t, isHalf_f]
    · rw [g154]
      simp (disch := omega) only [g154_0, g154_1, g154_2, g154_3, g154_6t, g154_6f, g154_9, g154_10, g154_11, g154_13, g154_16t, g154_16f, g154_19, g154_20, g154_21, g154_24, g154_27t, g154_27f, g154_30, g154_32, g154_33, g154_34, g154_37t, g154_37f, g154_40, g154_42, g154_43, g154_45, g154_49, g154_50t, g154_50f, g154_53, g154_54, g154_55, g154_56, g154_58, g154_61, g154_62t, g154_62f, g154_65, g154_67t, g154_67f, g154_70, g154_72, g154_75, g154_76, g154_79, g154_80, g154_83, g154_86, g154_87, cont_1, cont_0, w32_k, in_t, in_f]
  by_cases c1 : 1 < x1
  · refine PQ_mk (v := aI (-2)) (M1 := M) (M2 := M) ?_ ?_ hI hS
    · rw [g64]
      simp (disch := omega) only [g64_0, g64_1, g64_4t, g64_4f, g64_7, g64_8t, g64_8f, g64_11, g64_12, g64_14t, g64_14f, g64_17, g64_18t, g64_18f, g64_21, g64_22, g64_25t, g64_25f, g64_28, g64_30, g64_33t, g64_33f, g64_36, g64_38, g64_39, g64_41, g64_45, g64_46t, g64_46f, g64_49, g64_50, g64_51, g64_52, g64_54, g64_57, g64_58, g64_59, g64_62, g64_65, g64_66t, g64_66f, g64_69, g64_71t, g64_71f, g64_74, g64_76, g64_79, g64_80, g64_83, g64_86, g64_87, g64_90, g64_93, g64_94, cont_1, cont_0, w32_k, isHalf_t, isHalf_f]
    · rw [g154]
      simp (disch := omega) only [g154_0, g154_1, g154_2, g154_3, g154_6t, g154_6f, g154_9, g154_10, g154_11, g154_13, g154_16t, g154_16f, g154_19, g154_20, g154_21, g154_24, g154_27t, g154_27f, g154_30, g154_32, g154_33, g154_34, g154_37t, g154_37f, g154_40, g154_42, g154_43, g154_45, g154_49, g154_50t, g154_50f, g154_53, g154_54, g154_55, g154_56, g154_58, g154_61, g154_62t, g154_62f, g154_65, g154_67t, g154_67f, g154_70, g154_72, g154_75, g154_76, g154_79, g154_80, g154_83, g154_86, g154_87, cont_1, cont_0, w32_k, in_t, in_f]
  by_cases c2 : x2 < 0
  · refine PQ_mk (v := aI (-2)) (M1 := M) (M2 := M) ?_ ?_ hI hS
    · rw [g64]
      simp (disch := omega) only [g64_0, g64_1, g64_4t, g64_4f, g64_7, g64_8t, g64_8f, g64_11, g64_12, g64_14t, g64_14f, g64_17, g64_18t, g64_18f, g64_21, g64_22, g64_25t, g64_25f, g64_28, g64_30, g64_33t, g64_33f, g64_36, g64_38, g64_39, g64_41, g64_45, g64_46t, g64_46f, g64_49, g64_50, g64_51, g64_52, g64_54, g64_57, g64_58, g64_59, g64_62, g64_65, g64_66t, g64_66f, g64_69, g64_71t, g64_71f, g64_74, g64_76, g64_79, g64_80, g64_83, g64_86, g64_87, g64_90, g64_93, g64_94, cont_1, cont_0, w32_k, isHalf_t, isHalf_f]
    · rw [g154]
      simp (disch := omega) only [g154_0, g154_1, g154_2, g154_3, g154_6t, g154_6f, g154_9, g154_10, g154_11, g154_13, g154_16t, g154_16f, g154_19, g154_20, g154_21, g154_24, g154_27t, g154_27f, g154_30, g154_32, g154_33, g154_34, g154_37t, g154_37f, g154_40, g154_42, g154_43, g154_45, g154_49, g154_50t, g154_50f, g154_53, g154_54, g154_55, g154_56, g154_58, g154_61, g154_62t, g154_62f, g154_65, g154_67t, g154_67f, g154_70, g154_72, g154_75, g154_76, g154_79, g154_80, g154_83, g154_86, g154_87, cont_1, cont_0, w32_k, in_t, in_f]
  by_cases c3 : 9 < x2
  · refine PQ_mk (v := aI (-2)) (M1 := M) (M2 := M) ?_ ?_ hI hS
    · rw [g64]
      simp (disch := omega) only [g64_0, g64_1, g64_4t, g64_4f, g64_7, g64_8t, g64_8f, g64_11, g64_12, g64_14t, g64_14f, g64_17, g64_18t, g64_18f, g64_21, g64_22, g64_25t, g64_25f, g64_28, g64_30, g64_33t, g64_33f, g64_36, g64_38, g64_39, g64_41, g64_45, g64_46t, g64_46f, g64_49, g64_50, g64_51, g64_52, g64_54, g64_57, g64_58, g64_59, g64_62, g64_65, g64_66t, g64_66f, g64_69, g64_71t, g64_71f, g64_74, g64_76, g64_79, g64_80, g64_83, g64_86, g64_87, g64_90, g64_93, g64_94, cont_1, cont_0, w32_k, isHalf_t, isHalf_f]
    · rw [g154]
      simp (disch := omega) only [g154_0, g154_1, g154_2, g154_3, g154_6t, g154_6f, g154_9, g154_10, g154_11, g154_13, g154_16t, g154_16f, g154_19, g154_20, g154_21, g154_24, g154_27t, g154_27f, g154_30, g154_32, g154_33, g154_34, g154_37t, g154_37f, g154_40, g154_42, g154_43, g154_45, g154_49, g154_50t, g154_50f, g154_53, g154_54, g154_55, g154_56, g154_58, g154_61, g154_62t, g154_62f, g154_65, g154_67t, g154_67f, g154_70, g154_72, g154_75, g154_76, g154_79, g154_80, g154_83, g154_86, g154_87, cont_1, cont_0, w32_k, in_t, in_f]
  by_cases c4 : x3 < 0
  · refine PQ_mk (v := aI (-2)) (M1 := M) (M2 := M) ?_ ?_ hI hS
    · rw [g64]
      simp (disch := omega) only [g64_0, g64_1, g64_4t, g64_4f, g64_7, g64_8t, g64_8f, g64_11, g64_12, g64_14t, g64_14f, g64_17, g64_18t, g64_18f, g64_21, g64_22, g64_25t, g64_25f, g64_28, g64_30, g64_33t, g64_33f, g64_36, g64_38, g64_39, g64_41, g64_45, g64_46t, g64_46f, g64_49, g64_50, g64_51, g64_52, g64_54, g64_57, g64_58, g64_59, g64_62, g64_65, g64_66t, g64_66f, g64_69, g64_71t, g64_71f, g64_74, g64_76, g64_79, g64_80, g64_83, g64_86, g64_87, g64_90, g64_93, g64_94, cont_1, cont_0, w32_k, isHalf_t, isHalf_f]
    · rw [g154]
      simp (disch := omega) only [g154_0, g154_1, g154_2, g154_3, g154_6t, g154_6f, g154_9, g154_10, g154_11, g154_13, g154_16t, g154_16f, g154_19, g154_20, g154_21, g154_24, g154_27t, g154_27f, g154_30, g154_32, g154_33, g154_34, g154_37t, g154_37f, g154_40, g154_42, g154_43, g154_45, g154_49, g154_50t, g154_50f, g154_53, g154_54, g154_55, g154_56, g154_58, g154_61, g154_62t, g154_62f, g154_65, g154_67t, g154_67f, g154_70, g154_72, g154_75, g154_76, g154_79, g154_80, g154_83, g154_86, g154_87, cont_1, cont_0, w32_k, in_t, in_f]
  by_cases c5 : 192 < x3
  · refine PQ_mk (v := aI (-2)) (M1 := M) (M2 := M) ?_ ?_ hI hS
    · rw [g64]
      simp (disch := omega) only [g64_0, g64_1, g64_4t, g64_4f, g64_7, g64_8t, g64_8f, g64_11, g64_12, g64_14t, g64_14f, g64_17, g64_18t, g64_18f, g64_21, g64_22, g64_25t, g64_25f, g64_28, g64_30, g64_33t, g64_33f, g64_36, g64_38, g64_39, g64_41, g64_45, g64_46t, g64_46f, g64_49, g64_50, g64_51, g64_52, g64_54, g64_57, g64_58, g64_59, g64_62, g64_65, g64_66t, g64_66f, g64_69, g64_71t, g64_71f, g64_74, g64_76, g64_79, g64_80, g64_83, g64_86, g64_87, g64_90, g64_93, g64_94, cont_1, cont_0, w32_k, isHalf_t, isHalf_f]
    · rw [g154]
      simp (disch := omega) only [g154_0, g154_1, g154_2, g154_3, g154_6t, g154_6f, g154_9, g154_10, g154_11, g154_13, g154_16t, g154_16f, g154_19, g154_20, g154_21, g154_24, g154_27t, g154_27f, g154_30, g154_32, g154_33, g154_34, g154_37t, g154_37f, g154_40, g154_42, g154_43, g154_45, g154_49, g154_50t, g154_50f, g154_53, g154_54, g154_55, g154_56, g154_58, g154_61, g154_62t, g154_62f, g154_65, g154_67t, g154_67f, g154_70, g154_72, g154_75, g154_76, g154_79, g154_80, g154_83, g154_86, g154_87, cont_1, cont_0, w32_k, in_t, in_f]
  by_cases c6 : x4 < 0
  · refine PQ_mk (v := aI (-2)) (M1 := M) (M2 := M) ?_ ?_ hI hS
    · rw [g64]
      simp (disch := omega) only [g64_0, g64_1, g64_4t, g64_4f, g64_7, g64_8t, g64_8f, g64_11, g64_12, g64_14t, g64_14f, g64_17, g64_18t, g64_18f, g64_21, g64_22, g64_25t, g64_25f, g64_28, g64_30, g64_33t, g64_33f, g64_36, g64_38, g64_39, g64_41, g64_45, g64_46t, g64_46f, g64_49, g64_50, g64_51, g64_52, g64_54, g64_57, g64_58, g64_59, g64_62, g64_65, g64_66t, g64_66f, g64_69, g64_71t, g64_71f, g64_74, g64_76, g64_79, g64_80, g64_83, g64_86, g64_87, g64_90, g64_93, g64_94, cont_1, cont_0, w32_k, isHalf_t, isHalf_f]
    · rw [g154]
      simp (disch := omega) only [g154_0, g154_1, g154_2, g154_3, g154_6t, g154_6f, g154_9, g154_10, g154_11, g154_13, g154_16t, g154_16f, g154_19, g154_20, g154_21, g154_24, g154_27t, g154_27f, g154_30, g154_32, g154_33, g154_34, g154_37t, g154_37f, g154_40, g154_42, g154_43, g154_45, g154_49, g154_50t, g154_50f, g154_53, g154_54, g154_55, g154_56, g154_58, g154_61, g154_62t, g154_62f, g154_65, g154_67t, g154_67f, g154_70, g154_72, g154_75, g154_76, g154_79, g154_80, g154_83, g154_86, g154_87, cont_1, cont_0, w32_k, in_t, in_f]
  by_cases c7 : 1 < x4
  · refine PQ_mk (v := aI (-2)) (M1 := M) (M2 := M) ?_ ?_ hI hS
    · rw [g64]
      simp (disch := omega) only [g64_0, g64_1, g64_4t, g64_4f, g64_7, g64_8t, g64_8f, g64_11, g64_12, g64_14t, g64_14f, g64_17, g64_18t, g64_18f, g64_21, g64_22, g64_25t, g64_25f, g64_28, g64_30, g64_33t, g64_33f, g64_36, g64_38, g64_39, g64_41, g64_45, g64_46t, g64_46f, g64_49, g64_50, g64_51, g64_52, g64_54, g64_57, g64_58, g64_59, g64_62, g64_65, g64_66t, g64_66f, g64_69, g64_71t, g64_71f, g64_74, g64_76, g64_79, g64_80, g64_83, g64_86, g64_87, g64_90, g64_93, g64_94, cont_1, cont_0, w32_k, isHalf_t, isHalf_f]
    · rw [g154]
      simp (disch := omega) only [g154_0, g154_1, g154_2, g154_3, g154_6t, g154_6f, g154_9, g154_10, g154_11, g154_13, g154_16t, g154_16f, g154_19, g154_20, g154_21, g154_24, g154_27t, g154_27f, g154_30, g154_32, g154_33, g154_34, g154_37t, g154_37f, g154_40, g154_42, g154_43, g154_45, g154_49, g154_50t, g154_50f, g154_53, g154_54, g154_55, g154_56, g154_58, g154_61, g154_62t, g154_62f, g154_65, g154_67t, g154_67f, g154_70, g154_72, g154_75, g154_76, g154_79, g154_80, g154_83, g154_86, g154_87, cont_1, cont_0, w32_k, in_t, in_f]
  have h1 : x1 = 0 ∨ x1 = 1 := by omega
  have h4 : x4 = 0 ∨ x4 = 1 := by omega
  obtain ⟨M1, z1, fr1⟩ := apart_c (r := 16) (n := n) (ac := x1) (fr := x2) (mi := x3) (wh := x4) (c := fun k => cvN M (flP M x1 x2 (9 - (k : Int)))) (d := fun k => (flP M x1 x2 (9 - (k : Int))).1.2.2.2) (by omega) hS h4 (fun k X hk hX => planIn_ hS hI h1 (by omega) (by omega) (by omega) (by omega) hX) 9 0 M (by omega) FrC_r
  have hI1 := Inv_frC hI fr1
  obtain ⟨M2, z2, fr2⟩ := apart_m (r := 19) (n := n) (ac := x1) (fr := x2) (mi := x3) (wh := x4) (c := fun k => cvN M1 (flP M1 x1 x2 (9 - (k : Int)))) (d := fun k => (flP M1 x1 x2 (9 - (k : Int))).1.2.2.2) (by omega) hS h4 (fun k Y hk hY => flownPlanned_ hS hI1 h1 (by omega) (by omega) (by omega) (by omega) hY) 9 0 M1 (by omega) FrM_r
  rw [flP_fr fr1, cvN_fr fr1] at z2
  refine PQ_mk (v := aI (pick x4 (fstF (fun k => cvN M (flP M x1 x2 (9 - (k : Int)))) (fun k => (flP M x1 x2 (9 - (k : Int))).1.2.2.2) (fun k => 9 - (k : Int)) x3 9 0))) (M1 := M1) (M2 := M2) ?_ ?_ (Inv_frM hI1 fr2) hS
  · rw [g64]
    simp (disch := omega) only [g64_0, g64_1, g64_4t, g64_4f, g64_7, g64_8t, g64_8f, g64_11, g64_12, g64_14t, g64_14f, g64_17, g64_18t, g64_18f, g64_21, g64_22, g64_25t, g64_25f, g64_28, g64_30, g64_33t, g64_33f, g64_36, g64_38, g64_39, g64_41, g64_45, g64_46t, g64_46f, g64_49, g64_50, g64_51, g64_52, g64_54, g64_57, g64_58, g64_59, g64_62, g64_65, g64_66t, g64_66f, g64_69, g64_71t, g64_71f, g64_74, g64_76, g64_79, g64_80, g64_83, g64_86, g64_87, g64_90, g64_93, g64_94, cont_1, cont_0, w32_k, isHalf_t]
    exact z1
  · rw [g154]
    simp (disch := omega) only [g154_0, g154_1, g154_2, g154_3, g154_6t, g154_6f, g154_9, g154_10, g154_11, g154_13, g154_16t, g154_16f, g154_19, g154_20, g154_21, g154_24, g154_27t, g154_27f, g154_30, g154_32, g154_33, g154_34, g154_37t, g154_37f, g154_40, g154_42, g154_43, g154_45, g154_49, g154_50t, g154_50f, g154_53, g154_54, g154_55, g154_56, g154_58, g154_61, g154_62t, g154_62f, g154_65, g154_67t, g154_67f, g154_70, g154_72, g154_75, g154_76, g154_79, g154_80, g154_83, g154_86, g154_87, cont_1, cont_0, w32_k, in_t]
    exact z2
theorem best_add {c enc : Nat → Int} : ∀ (p q k : Nat) (b m : Int), bestF c enc (p + q) k b m = bestF c enc q (k + p) (bestF c enc p k b m).1 (bestF c enc p k b m).2 := by
  intro p
  induction p with
  | zero => intro q k b m; rw [Nat.zero_add]; rfl
  | succ p ih =>
    intro q k b m
    rw [show p + 1 + q = p + q + 1 by omega, show k + (p + 1) = k + 1 + p by omega]
    by_cases h : m < c k
    · rw [best_t h, best_t h, ih]
    · rw [best_f h, best_f h, ih]
theorem begin_in {n r a : Nat} {ap wh : Int} {c : Nat → Int} {M : Mem} {S : Sh} (hr : 15 < r) (hS : Std n S) (ha : a < 2) (one : ∀ (a f : Nat) (X : Mem), a < 2 → f < 10 → FrC M X → ∃ X1 X2, res 92 [aR 6, aI (a : Int), aI (f : Int), aI ap] X S = some (none, X1, S) ∧ res 91 [aR 6, aR 17] X1 S = some (some (aI (c (10 * a + f))), X2, S) ∧ FrC M X2) : ∀ (rem f : Nat) (X : Mem) (b m : Int) (l7 : Option AV), f + rem = 10 → FrC M X → ∃ X' l7', go r 65 38 [some (aR 6), some (aI ap), some (aI wh), some (aI b), some (aI m), some (aI (a : Int)), some (aI (f : Int)), l7] [] X S = go r 65 29 [some (aR 6), some (aI ap), some (aI wh), some (aI (bestF c (fun k => (k : Int)) rem (10 * a + f) b m).1), some (aI (bestF c (fun k => (k : Int)) rem (10 * a + f) b m).2), some (aI ((a : Int) + 1)), some (aI 10), l7'] [] X' S ∧ FrC M X' := by
  have k6 := K6 hS
  have k17 := K17 hS
  have k40 := K40 hS
  intro rem
  induction rem with
  | zero =>
    intro f X b m l7 hk hX
    have e : f = 10 := by omega
    subst e
    refine ⟨X, l7, ?_, hX⟩
    rw [g65_38, bestF]
    simp (disch := omega) only [g65_0, g65_1, g65_2t, g65_2f, g65_5, g65_6, g65_8t, g65_8f, g65_11, g65_12, g65_15t, g65_15f, g65_18, g65_20, g65_21, g65_22, g65_23, g65_24, g65_26, g65_27, g65_31, g65_32t, g65_32f, g65_35, g65_36, g65_40, g65_42t, g65_42f, g65_45, g65_46, g65_48, g65_50, g65_51, g65_54, g65_55, g65_56, g65_59, g65_62, g65_64, g65_66, g65_68t, g65_68f, g65_71, g65_73, g65_75, g65_77, g65_79, g65_80, g65_82, g65_83, g65_84, g65_87, g65_90, g65_93, g65_96, g65_97t, g65_97f, g65_100, g65_101, g65_104, g65_106, cont_1, cont_0, w32_k, w32_o]
    rfl
  | succ rem ih =>
    intro f X b m l7 hk hX
    obtain ⟨X1, X2, f1, f2, hX2⟩ := one a f X ha (by omega) hX
    rw [g65_38]
    have ec : ((10 * a + f : Nat) : Int) = 10 * (a : Int) + (f : Int) := by omega
    by_cases hm : m < c (10 * a + f)
    · obtain ⟨X3, l7', z, fr3⟩ := ih (f + 1) X2 ((10 * a + f : Nat) : Int) (c (10 * a + f)) (some (aI (c (10 * a + f)))) (by omega) hX2
      refine ⟨X3, l7', ?_, fr3⟩
      rw [best_t hm, show 10 * a + f + 1 = 10 * a + (f + 1) by omega, ← z, nc_1, ec]
      simp (disch := omega) only [g65_0, g65_1, g65_2t, g65_2f, g65_5, g65_6, g65_8t, g65_8f, g65_11, g65_12, g65_15t, g65_15f, g65_18, g65_20, g65_21, g65_22, g65_23, g65_24, g65_26, g65_27, g65_31, g65_32t, g65_32f, g65_35, g65_36, g65_40, g65_42t, g65_42f, g65_45, g65_46, g65_48, g65_50, g65_51, g65_54, g65_55, g65_56, g65_59, g65_62, g65_64, g65_66, g65_68t, g65_68f, g65_71, g65_73, g65_75, g65_77, g65_79, g65_80, g65_82, g65_83, g65_84, g65_87, g65_90, g65_93, g65_96, g65_97t, g65_97f, g65_100, g65_101, g65_104, g65_106, cont_1, cont_0, w32_k, P6_1 hS, w32_o, f1, f2]
    · obtain ⟨X3, l7', z, fr3⟩ := ih (f + 1) X2 b m (some (aI (c (10 * a + f)))) (by omega) hX2
      refine ⟨X3, l7', ?_, fr3⟩
      rw [best_f hm, show 10 * a + f + 1 = 10 * a + (f + 1) by omega, ← z, nc_1]
      simp (disch := omega) only [g65_0, g65_1, g65_2t, g65_2f, g65_5, g65_6, g65_8t, g65_8f, g65_11, g65_12, g65_15t, g65_15f, g65_18, g65_20, g65_21, g65_22, g65_23, g65_24, g65_26, g65_27, g65_31, g65_32t, g65_32f, g65_35, g65_36, g65_40, g65_42t, g65_42f, g65_45, g65_46, g65_48, g65_50, g65_51, g65_54, g65_55, g65_56, g65_59, g65_62, g65_64, g65_66, g65_68t, g65_68f, g65_71, g65_73, g65_75, g65_77, g65_79, g65_80, g65_82, g65_83, g65_84, g65_87, g65_90, g65_93, g65_96, g65_97t, g65_97f, g65_100, g65_101, g65_104, g65_106, cont_1, cont_0, w32_k, P6_1 hS, w32_o, f1, f2]
theorem begin_c {n r : Nat} {ap wh : Int} {c : Nat → Int} {M X : Mem} {S : Sh} (hr : 15 < r) (hS : Std n S) (hx : wh = 0 ∨ wh = 1) (one : ∀ (a f : Nat) (X : Mem), a < 2 → f < 10 → FrC M X → ∃ X1 X2, res 92 [aR 6, aI (a : Int), aI (f : Int), aI ap] X S = some (none, X1, S) ∧ res 91 [aR 6, aR 17] X1 S = some (some (aI (c (10 * a + f))), X2, S) ∧ FrC M X2) (hX : FrC M X) (b m : Int) : ∃ X', go r 65 29 [some (aR 6), some (aI ap), some (aI wh), some (aI b), some (aI m), some (aI 0), none, none] [] X S = some (some (aI (pick wh (bestF c (fun k => (k : Int)) 20 0 b m))), X', S) ∧ FrC M X' := by
  rw [show (20 : Nat) = 10 + 10 by rfl, best_add]
  obtain ⟨X1, l7, z1, h1⟩ := begin_in (a := 0) (wh := wh) hr hS (by omega) one 10 0 X b m none (by omega) hX
  rw [show 10 * 0 + 0 = 0 by rfl] at z1
  rw [show 0 + 10 = 10 by rfl]
  generalize bestF c (fun k => (k : Int)) 10 0 b m = q at z1 ⊢
  obtain ⟨X2, l7', z2, h2⟩ := begin_in (a := 1) (wh := wh) hr hS (by omega) one 10 0 X1 q.1 q.2 l7 (by omega) h1
  rw [show 10 * 1 + 0 = 10 by rfl] at z2
  generalize bestF c (fun k => (k : Int)) 10 10 q.1 q.2 = q' at z2 ⊢
  refine ⟨X2, ?_, h2⟩
  rw [g65_29]
  simp (disch := omega) only [g65_0, g65_1, g65_2t, g65_2f, g65_5, g65_6, g65_8t, g65_8f, g65_11, g65_12, g65_15t, g65_15f, g65_18, g65_20, g65_21, g65_22, g65_23, g65_24, g65_26, g65_27, g65_31, g65_32t, g65_32f, g65_35, g65_36, g65_40, g65_42t, g65_42f, g65_45, g65_46, g65_48, g65_50, g65_51, g65_54, g65_55, g65_56, g65_59, g65_62, g65_64, g65_66, g65_68t, g65_68f, g65_71, g65_73, g65_75, g65_77, g65_79, g65_80, g65_82, g65_83, g65_84, g65_87, g65_90, g65_93, g65_96, g65_97t, g65_97f, g65_100, g65_101, g65_104, g65_106, cont_1, cont_0, w32_k]
  refine Eq.trans z1 ?_
  rw [g65_29]
  simp (disch := omega) only [g65_0, g65_1, g65_2t, g65_2f, g65_5, g65_6, g65_8t, g65_8f, g65_11, g65_12, g65_15t, g65_15f, g65_18, g65_20, g65_21, g65_22, g65_23, g65_24, g65_26, g65_27, g65_31, g65_32t, g65_32f, g65_35, g65_36, g65_40, g65_42t, g65_42f, g65_45, g65_46, g65_48, g65_50, g65_51, g65_54, g65_55, g65_56, g65_59, g65_62, g65_64, g65_66, g65_68t, g65_68f, g65_71, g65_73, g65_75, g65_77, g65_79, g65_80, g65_82, g65_83, g65_84, g65_87, g65_90, g65_93, g65_96, g65_97t, g65_97f, g65_100, g65_101, g65_104, g65_106, cont_1, cont_0, w32_k]
  refine Eq.trans z2 ?_
  rw [g65_29]
  rcases hx with rfl | rfl
  all_goals simp (disch := omega) only [g65_0, g65_1, g65_2t, g65_2f, g65_5, g65_6, g65_8t, g65_8f, g65_11, g65_12, g65_15t, g65_15f, g65_18, g65_20, g65_21, g65_22, g65_23, g65_24, g65_26, g65_27, g65_31, g65_32t, g65_32f, g65_35, g65_36, g65_40, g65_42t, g65_42f, g65_45, g65_46, g65_48, g65_50, g65_51, g65_54, g65_55, g65_56, g65_59, g65_62, g65_64, g65_66, g65_68t, g65_68f, g65_71, g65_73, g65_75, g65_77, g65_79, g65_80, g65_82, g65_83, g65_84, g65_87, g65_90, g65_93, g65_96, g65_97t, g65_97f, g65_100, g65_101, g65_104, g65_106, cont_1, cont_0, w32_k]
  all_goals rfl
theorem td10 (c : Nat) : Int.tdiv (c : Int) 10 = ((c / 10 : Nat) : Int) := by
  rw [Int.tdiv_eq_ediv_of_nonneg (by omega)]
  omega
theorem tm10 (c : Nat) : Int.tmod (c : Int) 10 = ((c % 10 : Nat) : Int) := by
  rw [Int.tmod_eq_emod_of_nonneg (by omega)]
  omega
theorem begin_m {n r : Nat} {ap wh : Int} {c : Nat → Int} {M : Mem} {S : Sh} (hr : 18 < r) (hS : Std n S) (hx : wh = 0 ∨ wh = 1) (one : ∀ (a f : Nat) (Y : Mem), a < 2 → f < 10 → FrM M Y → ∃ Y2, res 153 [aR 84, aI (a : Int), aI (f : Int), aI ap] Y S = some (some (aI (c (10 * a + f))), Y2, S) ∧ FrM M Y2) : ∀ (rem k : Nat) (Y : Mem) (b m : Int) (l6 : Option AV), k + rem = 20 → FrM M Y → ∃ Y', go r 155 30 [some (aR 84), some (aI ap), some (aI wh), some (aI b), some (aI m), some (aI (k : Int)), l6] [] Y S = some (some (aI (pick wh (bestF c (fun k => (k : Int)) rem k b m))), Y', S) ∧ FrM M Y' := by
  have k84 := K84 hS
  intro rem
  induction rem with
  | zero =>
    intro k Y b m l6 hk hY
    rw [g155_30]
    rcases hx with rfl | rfl
    all_goals simp (disch := omega) only [g155_0, g155_1, g155_2, g155_4, g155_7t, g155_7f, g155_10, g155_11, g155_12, g155_13, g155_16t, g155_16f, g155_19, g155_21, g155_22, g155_23, g155_24, g155_25, g155_27, g155_28, g155_32, g155_34t, g155_34f, g155_37, g155_38, g155_40, g155_42, g155_43, g155_45, g155_47, g155_48, g155_49, g155_52, g155_54, g155_56, g155_58t, g155_58f, g155_61, g155_63, g155_66, g155_67, g155_68, g155_70, g155_72t, g155_72f, g155_75, g155_77, g155_80, g155_82, g155_84, g155_87, g155_90, g155_91t, g155_91f, g155_94, g155_95, g155_98, g155_100, cont_1, cont_0, w32_k]
    all_goals exact ⟨Y, rfl, hY⟩
  | succ rem ih =>
    intro k Y b m l6 hk hY
    obtain ⟨w, l, rfl, hl10, hw2⟩ : ∃ w l : Nat, k = 10 * w + l ∧ l < 10 ∧ w < 2 := ⟨k / 10, k % 10, by omega, by omega, by omega⟩
    have et1 : Int.tdiv ((10 * w + l : Nat) : Int) 10 = (w : Int) := by rw [td10]; omega
    have et2 : Int.tmod ((10 * w + l : Nat) : Int) 10 = (l : Int) := by rw [tm10]; omega
    obtain ⟨Y2, f, hY2⟩ := one w l Y hw2 hl10 hY
    rw [g155_30]
    by_cases hm : m < c (10 * w + l)
    · obtain ⟨Y3, z, fr3⟩ := ih (10 * w + l + 1) Y2 ((10 * w + l : Nat) : Int) (c (10 * w + l)) (some (aI (c (10 * w + l)))) (by omega) hY2
      refine ⟨Y3, ?_, fr3⟩
      rw [best_t hm, ← z, nc_1]
      simp (disch := omega) only [g155_0, g155_1, g155_2, g155_4, g155_7t, g155_7f, g155_10, g155_11, g155_12, g155_13, g155_16t, g155_16f, g155_19, g155_21, g155_22, g155_23, g155_24, g155_25, g155_27, g155_28, g155_32, g155_34t, g155_34f, g155_37, g155_38, g155_40, g155_42, g155_43, g155_45, g155_47, g155_48, g155_49, g155_52, g155_54, g155_56, g155_58t, g155_58f, g155_61, g155_63, g155_66, g155_67, g155_68, g155_70, g155_72t, g155_72f, g155_75, g155_77, g155_80, g155_82, g155_84, g155_87, g155_90, g155_91t, g155_91f, g155_94, g155_95, g155_98, g155_100, cont_1, cont_0, w32_k, et1, et2, w32_o, f]
    · obtain ⟨Y3, z, fr3⟩ := ih (10 * w + l + 1) Y2 b m (some (aI (c (10 * w + l)))) (by omega) hY2
      refine ⟨Y3, ?_, fr3⟩
      rw [best_f hm, ← z, nc_1]
      simp (disch := omega) only [g155_0, g155_1, g155_2, g155_4, g155_7t, g155_7f, g155_10, g155_11, g155_12, g155_13, g155_16t, g155_16f, g155_19, g155_21, g155_22, g155_23, g155_24, g155_25, g155_27, g155_28, g155_32, g155_34t, g155_34f, g155_37, g155_38, g155_40, g155_42, g155_43, g155_45, g155_47, g155_48, g155_49, g155_52, g155_54, g155_56, g155_58t, g155_58f, g155_61, g155_63, g155_66, g155_67, g155_68, g155_70, g155_72t, g155_72f, g155_75, g155_77, g155_80, g155_82, g155_84, g155_87, g155_90, g155_91t, g155_91f, g155_94, g155_95, g155_98, g155_100, cont_1, cont_0, w32_k, et1, et2, w32_o, f]
theorem p_begin {x1 x2 : Int} {n : Nat} {sc : Nat → Int} {M : Mem} {S : Sh} (hS : Std n S) (hI : Inv sc M) : Pr (res 65 [aR 6, aI x1, aI x2] M S) (PQ 155 [aR 84, aI x1, aI x2] n S.2.2.2.1 S.2.2.2.2 sc) := by
  have k6 := K6 hS
  have k84 := K84 hS
  by_cases c0 : x1 < 1
  · refine PQ_mk (v := aI (-2)) (M1 := M) (M2 := M) ?_ ?_ hI hS
    · rw [g65]
      simp (disch := omega) only [g65_0, g65_1, g65_2t, g65_2f, g65_5, g65_6, g65_8t, g65_8f, g65_11, g65_12, g65_15t, g65_15f, g65_18, g65_20, g65_21, g65_22, g65_23, g65_24, g65_26, g65_27, g65_31, g65_32t, g65_32f, g65_35, g65_36, g65_40, g65_42t, g65_42f, g65_45, g65_46, g65_48, g65_50, g65_51, g65_54, g65_55, g65_56, g65_59, g65_62, g65_64, g65_66, g65_68t, g65_68f, g65_71, g65_73, g65_75, g65_77, g65_79, g65_80, g65_82, g65_83, g65_84, g65_87, g65_90, g65_93, g65_96, g65_97t, g65_97f, g65_100, g65_101, g65_104, g65_106, cont_1, cont_0, w32_k, isHalf_t, isHalf_f]
    · rw [g155]
      simp (disch := omega) only [g155_0, g155_1, g155_2, g155_4, g155_7t, g155_7f, g155_10, g155_11, g155_12, g155_13, g155_16t, g155_16f, g155_19, g155_21, g155_22, g155_23, g155_24, g155_25, g155_27, g155_28, g155_32, g155_34t, g155_34f, g155_37, g155_38, g155_40, g155_42, g155_43, g155_45, g155_47, g155_48, g155_49, g155_52, g155_54, g155_56, g155_58t, g155_58f, g155_61, g155_63, g155_66, g155_67, g155_68, g155_70, g155_72t, g155_72f, g155_75, g155_77, g155_80, g155_82, g155_84, g155_87, g155_90, g155_91t, g155_91f, g155_94, g155_95, g155_98, g155_100, cont_1, cont_0, w32_k, in_t, in_f]
  by_cases c1 : 9 < x1
  · refine PQ_mk (v := aI (-2)) (M1 := M) (M2 := M) ?_ ?_ hI hS
    · rw [g65]
      simp (disch := omega) only [g65_0, g65_1, g65_2t, g65_2f, g65_5, g65_6, g65_8t, g65_8f, g65_11, g65_12, g65_15t, g65_15f, g65_18, g65_20, g65_21, g65_22, g65_23, g65_24, g65_26, g65_27, g65_31, g65_32t, g65_32f, g65_35, g65_36, g65_40, g65_42t, g65_42f, g65_45, g65_46, g65_48, g65_50, g65_51, g65_54, g65_55, g65_56, g65_59, g65_62, g65_64, g65_66, g65_68t, g65_68f, g65_71, g65_73, g65_75, g65_77, g65_79, g65_80, g65_82, g65_83, g65_84, g65_87, g65_90, g65_93, g65_96, g65_97t, g65_97f, g65_100, g65_101, g65_104, g65_106, cont_1, cont_0, w32_k, isHalf_t, isHalf_f]
    · rw [g155]
      simp (disch := omega) only [g155_0, g155_1, g155_2, g155_4, g155_7t, g155_7f, g155_10, g155_11, g155_12, g155_13, g155_16t, g155_16f, g155_19, g155_21, g155_22, g155_23, g155_24, g155_25, g155_27, g155_28, g155_32, g155_34t, g155_34f, g155_37, g155_38, g155_40, g155_42, g155_43, g155_45, g155_47, g155_48, g155_49, g155_52, g155_54, g155_56, g155_58t, g155_58f, g155_61, g155_63, g155_66, g155_67, g155_68, g155_70, g155_72t, g155_72f, g155_75, g155_77, g155_80, g155_82, g155_84, g155_87, g155_90, g155_91t, g155_91f, g155_94, g155_95, g155_98, g155_100, cont_1, cont_0, w32_k, in_t, in_f]
  by_cases c2 : x2 < 0
  · refine PQ_mk (v := aI (-2)) (M1 := M) (M2 := M) ?_ ?_ hI hS
    · rw [g65]
      simp (disch := omega) only [g65_0, g65_1, g65_2t, g65_2f, g65_5, g65_6, g65_8t, g65_8f, g65_11, g65_12, g65_15t, g65_15f, g65_18, g65_20, g65_21, g65_22, g65_23, g65_24, g65_26, g65_27, g65_31, g65_32t, g65_32f, g65_35, g65_36, g65_40, g65_42t, g65_42f, g65_45, g65_46, g65_48, g65_50, g65_51, g65_54, g65_55, g65_56, g65_59, g65_62, g65_64, g65_66, g65_68t, g65_68f, g65_71, g65_73, g65_75, g65_77, g65_79, g65_80, g65_82, g65_83, g65_84, g65_87, g65_90, g65_93, g65_96, g65_97t, g65_97f, g65_100, g65_101, g65_104, g65_106, cont_1, cont_0, w32_k, isHalf_t, isHalf_f]
    · rw [g155]
      simp (disch := omega) only [g155_0, g155_1, g155_2, g155_4, g155_7t, g155_7f, g155_10, g155_11, g155_12, g155_13, g155_16t, g155_16f, g155_19, g155_21, g155_22, g155_23, g155_24, g155_25, g155_27, g155_28, g155_32, g155_34t, g155_34f, g155_37, g155_38, g155_40, g155_42, g155_43, g155_45, g155_47, g155_48, g155_49, g155_52, g155_54, g155_56, g155_58t, g155_58f, g155_61, g155_63, g155_66, g155_67, g155_68, g155_70, g155_72t, g155_72f, g155_75, g155_77, g155_80, g155_82, g155_84, g155_87, g155_90, g155_91t, g155_91f, g155_94, g155_95, g155_98, g155_100, cont_1, cont_0, w32_k, in_t, in_f]
  by_cases c3 : 1 < x2
  · refine PQ_mk (v := aI (-2)) (M1 := M) (M2 := M) ?_ ?_ hI hS
    · rw [g65]
      simp (disch := omega) only [g65_0, g65_1, g65_2t, g65_2f, g65_5, g65_6, g65_8t, g65_8f, g65_11, g65_12, g65_15t, g65_15f, g65_18, g65_20, g65_21, g65_22, g65_23, g65_24, g65_26, g65_27, g65_31, g65_32t, g65_32f, g65_35, g65_36, g65_40, g65_42t, g65_42f, g65_45, g65_46, g65_48, g65_50, g65_51, g65_54, g65_55, g65_56, g65_59, g65_62, g65_64, g65_66, g65_68t, g65_68f, g65_71, g65_73, g65_75, g65_77, g65_79, g65_80, g65_82, g65_83, g65_84, g65_87, g65_90, g65_93, g65_96, g65_97t, g65_97f, g65_100, g65_101, g65_104, g65_106, cont_1, cont_0, w32_k, isHalf_t, isHalf_f]
    · rw [g155]
      simp (disch := omega) only [g155_0, g155_1, g155_2, g155_4, g155_7t, g155_7f, g155_10, g155_11, g155_12, g155_13, g155_16t, g155_16f, g155_19, g155_21, g155_22, g155_23, g155_24, g155_25, g155_27, g155_28, g155_32, g155_34t, g155_34f, g155_37, g155_38, g155_40, g155_42, g155_43, g155_45, g155_47, g155_48, g155_49, g155_52, g155_54, g155_56, g155_58t, g155_58f, g155_61, g155_63, g155_66, g155_67, g155_68, g155_70, g155_72t, g155_72f, g155_75, g155_77, g155_80, g155_82, g155_84, g155_87, g155_90, g155_91t, g155_91f, g155_94, g155_95, g155_98, g155_100, cont_1, cont_0, w32_k, in_t, in_f]
  have h4 : x2 = 0 ∨ x2 = 1 := by omega
  have ed : ∀ a f : Nat, f < 10 → (10 * a + f) / 10 = a ∧ (10 * a + f) % 10 = f := fun a f hf => by omega
  obtain ⟨M1, z1, fr1⟩ := begin_c (r := 16) (n := n) (ap := x1) (wh := x2) (c := fun k => cvN M (flP M ((k / 10 : Nat) : Int) ((k % 10 : Nat) : Int) x1)) (by omega) hS h4 (fun a f X ha hf hX => by
    obtain ⟨X1, X2, g1, g2, g3, _⟩ := planIn_ (ac := (a : Int)) (fr := (f : Int)) (ap := x1) hS hI (by omega) (by omega) (by omega) (by omega) (by omega) hX
    refine ⟨X1, X2, g1, ?_, g3⟩
    rw [(ed a f hf).1, (ed a f hf).2]
    exact g2) (FrC_r (M := M)) (-1) (-1)
  have hI1 := Inv_frC hI fr1
  obtain ⟨M2, z2, fr2⟩ := begin_m (r := 19) (n := n) (ap := x1) (wh := x2) (c := fun k => cvN M1 (flP M1 ((k / 10 : Nat) : Int) ((k % 10 : Nat) : Int) x1)) (by omega) hS h4 (fun a f Y ha hf hY => by
    obtain ⟨Y2, g2, g3, _⟩ := flownPlanned_ (ac := (a : Int)) (fr := (f : Int)) (ap := x1) hS hI1 (by omega) (by omega) (by omega) (by omega) (by omega) hY
    refine ⟨Y2, ?_, g3⟩
    rw [(ed a f hf).1, (ed a f hf).2]
    exact g2) 20 0 M1 (-1) (-1) none (by omega) FrM_r
  rw [flP_fr fr1, cvN_fr fr1] at z2
  refine PQ_mk (v := aI (pick x2 (bestF (fun k => cvN M (flP M ((k / 10 : Nat) : Int) ((k % 10 : Nat) : Int) x1)) (fun k => (k : Int)) 20 0 (-1) (-1)))) (M1 := M1) (M2 := M2) ?_ ?_ (Inv_frM hI1 fr2) hS
  · rw [g65]
    simp (disch := omega) only [g65_0, g65_1, g65_2t, g65_2f, g65_5, g65_6, g65_8t, g65_8f, g65_11, g65_12, g65_15t, g65_15f, g65_18, g65_20, g65_21, g65_22, g65_23, g65_24, g65_26, g65_27, g65_31, g65_32t, g65_32f, g65_35, g65_36, g65_40, g65_42t, g65_42f, g65_45, g65_46, g65_48, g65_50, g65_51, g65_54, g65_55, g65_56, g65_59, g65_62, g65_64, g65_66, g65_68t, g65_68f, g65_71, g65_73, g65_75, g65_77, g65_79, g65_80, g65_82, g65_83, g65_84, g65_87, g65_90, g65_93, g65_96, g65_97t, g65_97f, g65_100, g65_101, g65_104, g65_106, cont_1, cont_0, w32_k, isHalf_t]
    exact z1
  · rw [g155]
    simp (disch := omega) only [g155_0, g155_1, g155_2, g155_4, g155_7t, g155_7f, g155_10, g155_11, g155_12, g155_13, g155_16t, g155_16f, g155_19, g155_21, g155_22, g155_23, g155_24, g155_25, g155_27, g155_28, g155_32, g155_34t, g155_34f, g155_37, g155_38, g155_40, g155_42, g155_43, g155_45, g155_47, g155_48, g155_49, g155_52, g155_54, g155_56, g155_58t, g155_58f, g155_61, g155_63, g155_66, g155_67, g155_68, g155_70, g155_72t, g155_72f, g155_75, g155_77, g155_80, g155_82, g155_84, g155_87, g155_90, g155_91t, g155_91f, g155_94, g155_95, g155_98, g155_100, cont_1, cont_0, w32_k, in_t]
    exact z2
