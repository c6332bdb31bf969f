theorem p_count {x1 : Int} {n : Nat} {sc : Nat → Int} {M : Mem} {S : Sh} (hS : Std n S) (hI : Inv sc M) : Pr (res 45 [aR 6, aI x1] M S) (PQ 110 [aR 84, aI x1] n S.2.2.2.1 S.2.2.2.2 sc) := by
  have hI0 := hI
  obtain ⟨hLand, hStr, hPla, hNow, hTap, hImg, hShe, hCst, hLaw⟩ := hI
  have k6 := K6 hS
  have k7 := K7 hS
  have k84 := K84 hS
  have q1 := hStr.1
  have q2 := hStr.2.1
  have q3 := hStr.2.2.1
  have q4 := hPla.1
  have q5 := hPla.2.1
  have q6 := hPla.2.2.1
  have q7 := hTap.1
  have q8 := hTap.2.1
  have q9 := hTap.2.2.1
  have q10 := hTap.2.2.2.1
  have q11 := hTap.2.2.2.2.1
  have q12 := hTap.2.2.2.2.2.1
  have ⟨n1, n2, n3, n4, n5, n6, n7, n8, n9, n10, n11, n12⟩ := hNow
  rcases (by omega : x1 = 0 ∨ x1 = 1 ∨ x1 = 2 ∨ x1 = 3 ∨ x1 = 4 ∨ x1 = 5 ∨ x1 = 6 ∨ x1 = 7 ∨ (x1 < 0 ∨ 7 < x1)) with rfl | rfl | rfl | rfl | rfl | rfl | rfl | rfl | hd
  all_goals rw [g45]
  all_goals simp (disch := omega) only [g45_0, g45_1c0, g45_1c1, g45_1c2, g45_1c3, g45_1c4, g45_1c5, g45_1c6, g45_1c7, g45_1d, g45_48, g45_49, g45_52, g45_55, g45_56, g45_57, g45_60, g45_63, g45_64, g45_65, g45_68, g45_71, g45_72, g45_73, g45_76, g45_79, g45_80, g45_81, g45_84, g45_87, g45_88, g45_89, g45_92, g45_93, g45_94, g45_97, g45_100, g45_101, g45_102, g45_105, g45_106, g45_108, cont_1, cont_0, Pr_some, P6_0 hS, mset_eq, mset_ne, mset_nk]
  all_goals (unfold PQ; rw [g110])
  all_goals simp (disch := omega) only [g110_0, g110_1c0, g110_1c1, g110_1c2, g110_1c3, g110_1c4, g110_1c5, g110_1c6, g110_1c7, g110_1d, g110_48, g110_49, g110_52, g110_53, g110_54, g110_57, g110_58, g110_59, g110_62, g110_63, g110_64, g110_67, g110_68, g110_69, g110_72, g110_73, g110_74, g110_77, g110_78, g110_79, g110_82, g110_83, g110_84, g110_87, g110_88, g110_90, cont_1, cont_0, Pr_some, mset_eq, mset_ne, mset_nk]
  all_goals (refine Fin_id hS hI0 (aI_eq ?_); omega)
theorem p_set {x1 x2 : Int} {n : Nat} {sc : Nat → Int} {M : Mem} {S : Sh} (hS : Std n S) (hI : Inv sc M) : Pr (res 46 [aR 6, aI x1, aI x2] M S) (PQ 111 [aR 84, aI x1, aI x2] n S.2.2.2.1 S.2.2.2.2 sc) := by
  have hI0 := hI
  obtain ⟨hLand, hStr, hPla, hNow, hTap, hImg, hShe, hCst, hLaw⟩ := hI
  have k6 := K6 hS
  have k7 := K7 hS
  have k84 := K84 hS
  have q1 := hStr.1
  have q2 := hStr.2.1
  have q3 := hStr.2.2.1
  have q4 := hPla.1
  have q5 := hPla.2.1
  have q6 := hPla.2.2.1
  have q7 := hTap.1
  have q8 := hTap.2.1
  have q9 := hTap.2.2.1
  have q10 := hTap.2.2.2.1
  have q11 := hTap.2.2.2.2.1
  have q12 := hTap.2.2.2.2.2.1
  have ⟨n1, n2, n3, n4, n5, n6, n7, n8, n9, n10, n11, n12⟩ := hNow
  have w1 : w32 (M 84 5 - 1) = M 84 5 - 1 := w32_id (by unfold r32; omega)
  all_goals rw [g46]
  all_goals repeat' (first | simp (disch := omega) only [g46_0, g46_1t, g46_1f, g46_4, g46_5, g46_6t, g46_6f, g46_9, g46_11, g46_12, g46_13t, g46_13f, g46_16, g46_17, g46_19t, g46_19f, g46_22, g46_23, g46_24t, g46_24f, g46_27, g46_29, g46_30, g46_31, g46_34, g46_37, g46_38, g46_39, g46_42, g46_43, g46_46, g46_49, g46_50, g46_51t, g46_51f, g46_54, g46_55t, g46_55f, g46_58, g46_59, g46_61t, g46_61f, g46_64, g46_66, g46_67, g46_68, g46_71, g46_74, g46_75, g46_76, g46_79, g46_80, g46_83, g46_86, g46_87, g46_88t, g46_88f, g46_91, g46_92, g46_93, g46_96t, g46_96f, g46_99, g46_101, g46_102, g46_103, g46_106, g46_109, g46_110, g46_111, g46_114, g46_115, g46_118, g46_119, cont_1, cont_0, Pr_some, P6_0 hS, isPlane_t hS, isPlane_f hS, mset_eq, mset_ne, mset_nk] | (simp only [g46_1, g46_6, g46_13, g46_19, g46_24, g46_51, g46_55, g46_61, g46_88, g46_96]; split) | (simp (disch := omega) only [isMile_i, isByte_i, isHalf_i, in_i, mMile_i, mByte_i, at_i, put_i, isPlane_i hS, mPlane_i hS, mStrip_i hS]; split))
  all_goals (unfold PQ; rw [g111])
  all_goals repeat' (first | simp (disch := omega) only [g111_0, g111_1, g111_2, g111_3, g111_6t, g111_6f, g111_9, g111_11, g111_12, g111_13t, g111_13f, g111_16, g111_17, g111_19, g111_20, g111_23t, g111_23f, g111_26, g111_29, g111_30, g111_31t, g111_31f, g111_34, g111_35, g111_36, g111_38, g111_41t, g111_41f, g111_44, g111_47, g111_48, g111_49, g111_50, g111_53, g111_54, g111_55, g111_58t, g111_58f, g111_61, g111_63, g111_64, g111_65t, g111_65f, g111_68, g111_69, g111_72, g111_75, g111_76, g111_77t, g111_77f, g111_80, g111_81, g111_84, g111_87, g111_88, g111_91, g111_92, g111_93, g111_94t, g111_94f, g111_97, g111_98, g111_101, g111_102, g111_105, g111_108, g111_109, g111_110, g111_111t, g111_111f, g111_114, g111_115, g111_118, g111_119, g111_122, g111_125, g111_126, g111_127, g111_128t, g111_128f, g111_131, g111_132, g111_135, g111_136, g111_139, g111_142, g111_143, cont_1, cont_0, Pr_some, in_t, in_f, w1, mset_eq, mset_ne, mset_nk] | (simp only [g111_6, g111_13, g111_23, g111_31, g111_41, g111_58, g111_65, g111_77, g111_94, g111_111, g111_128]; split) | (simp (disch := omega) only [isMile_i, isByte_i, isHalf_i, in_i, mMile_i, mByte_i, at_i, put_i, isPlane_i hS, mPlane_i hS, mStrip_i hS]; split))
  all_goals first | (refine Fin_id hS hI0 (aI_eq ?_); omega) | refine ⟨aI_eq (by omega), ⟨by (unfold iLand at hLand ⊢; simp (disch := omega) only [mset_eq, mset_ne, mset_nk]; exact hLand), by (unfold iStr at hStr ⊢; simp (disch := omega) only [mset_eq, mset_ne, mset_nk]; exact hStr), by (unfold iPla at hPla ⊢; simp (disch := omega) only [mset_eq, mset_ne, mset_nk]; exact hPla), by (unfold iNow; simp (disch := omega) only [mset_eq, mset_ne, mset_nk, true_and, and_true]; omega), by (unfold iTap at hTap ⊢; simp (disch := omega) only [mset_eq, mset_ne, mset_nk]; exact hTap), by (unfold iImg at hImg ⊢; simp (disch := omega) only [mset_eq, mset_ne, mset_nk]; exact hImg), by (intro s hs; have := hShe s hs; simp (disch := omega) only [mset_eq, mset_ne, mset_nk] at this ⊢; exact this), by (unfold iCst at hCst ⊢; simp (disch := omega) only [mset_eq, mset_ne, mset_nk]; exact hCst), by (refine ⟨fun t ht => by (simp (disch := omega) only [mset_eq, mset_ne, mset_nk] at ht; have := hLaw.1 t ht; unfold lawRel at this ⊢; simp (disch := unfold wkOf; split <;> omega) only [mset_eq, mset_ne, mset_nk] at this ⊢; exact this), fun t t6 => by (simp (disch := unfold wkOf; split <;> omega) only [mset_eq, mset_ne, mset_nk]; exact hLaw.2 t t6)⟩)⟩, hS, Nat.le_refl _, Nat.le_refl _⟩
theorem p_force {x1 : Int} {n : Nat} {sc : Nat → Int} {M : Mem} {S : Sh} (hS : Std n S) (hI : Inv sc M) : Pr (res 51 [aR 6, aI x1] M S) (PQ 129 [aR 84, aI x1] n S.2.2.2.1 S.2.2.2.2 sc) := by
  have hI0 := hI
  obtain ⟨hLand, hStr, hPla, hNow, hTap, hImg, hShe, hCst, hLaw⟩ := hI
  have k6 := K6 hS
  have k7 := K7 hS
  have k84 := K84 hS
  have q1 := hStr.1
  have q2 := hStr.2.1
  have q3 := hStr.2.2.1
  have q4 := hPla.1
  have q5 := hPla.2.1
  have q6 := hPla.2.2.1
  have q7 := hTap.1
  have q8 := hTap.2.1
  have q9 := hTap.2.2.1
  have q10 := hTap.2.2.2.1
  have q11 := hTap.2.2.2.2.1
  have q12 := hTap.2.2.2.2.2.1
  have ⟨n1, n2, n3, n4, n5, n6, n7, n8, n9, n10, n11, n12⟩ := hNow
  have w1 : w32 (M 84 16 - 1) = M 84 16 - 1 := w32_id (by unfold r32; omega)
  all_goals rw [g51]
  all_goals repeat' (first | simp (disch := omega) only [g51_0, g51_1t, g51_1f, g51_4, g51_5, g51_6, g51_9t, g51_9f, g51_12, g51_14, g51_15, g51_16, g51_19, g51_22, g51_23, g51_24, g51_27, g51_28, g51_31, g51_32, cont_1, cont_0, Pr_some, P6_0 hS, mset_eq, mset_ne, mset_nk] | (simp only [g51_1, g51_9]; split) | (simp (disch := omega) only [isMile_i, isByte_i, isHalf_i, in_i, mMile_i, mByte_i, at_i, put_i, isPlane_i hS, mPlane_i hS, mStrip_i hS]; split))
  all_goals (unfold PQ; rw [g129])
  all_goals repeat' (first | simp (disch := omega) only [g129_0, g129_1, g129_2, g129_3, g129_6, g129_7, g129_8, g129_11t, g129_11f, g129_14, g129_16, g129_17, g129_18, g129_21, g129_22, g129_23, g129_24, g129_27, g129_28, cont_1, cont_0, Pr_some, in_t, in_f, w1, mset_eq, mset_ne, mset_nk] | (simp only [g129_11]; split) | (simp (disch := omega) only [isMile_i, isByte_i, isHalf_i, in_i, mMile_i, mByte_i, at_i, put_i, isPlane_i hS, mPlane_i hS, mStrip_i hS]; split))
  all_goals first | (refine Fin_id hS hI0 (aI_eq ?_); omega) | refine ⟨aI_eq (by omega), ⟨by (unfold iLand at hLand ⊢; simp (disch := omega) only [mset_eq, mset_ne, mset_nk]; exact hLand), by (unfold iStr at hStr ⊢; simp (disch := omega) only [mset_eq, mset_ne, mset_nk]; exact hStr), by (unfold iPla at hPla ⊢; simp (disch := omega) only [mset_eq, mset_ne, mset_nk]; exact hPla), by (unfold iNow; simp (disch := omega) only [mset_eq, mset_ne, mset_nk, true_and, and_true]; omega), by (unfold iTap at hTap ⊢; simp (disch := omega) only [mset_eq, mset_ne, mset_nk]; exact hTap), by (unfold iImg at hImg ⊢; simp (disch := omega) only [mset_eq, mset_ne, mset_nk]; exact hImg), by (intro s hs; have := hShe s hs; simp (disch := omega) only [mset_eq, mset_ne, mset_nk] at this ⊢; exact this), by (unfold iCst at hCst ⊢; simp (disch := omega) only [mset_eq, mset_ne, mset_nk]; exact hCst), by (refine ⟨fun t ht => by (simp (disch := omega) only [mset_eq, mset_ne, mset_nk] at ht; have := hLaw.1 t ht; unfold lawRel at this ⊢; simp (disch := unfold wkOf; split <;> omega) only [mset_eq, mset_ne, mset_nk] at this ⊢; exact this), fun t t6 => by (simp (disch := unfold wkOf; split <;> omega) only [mset_eq, mset_ne, mset_nk]; exact hLaw.2 t t6)⟩)⟩, hS, Nat.le_refl _, Nat.le_refl _⟩
theorem p_mile {x1 x2 : Int} {n : Nat} {sc : Nat → Int} {M : Mem} {S : Sh} (hS : Std n S) (hI : Inv sc M) : Pr (res 48 [aR 6, aI x1, aI x2] M S) (PQ 113 [aR 84, aI x1, aI x2] n S.2.2.2.1 S.2.2.2.2 sc) := by
  have hI0 := hI
  obtain ⟨hLand, hStr, hPla, hNow, hTap, hImg, hShe, hCst, hLaw⟩ := hI
  have k6 := K6 hS
  have k7 := K7 hS
  have k84 := K84 hS
  have q1 := hStr.1
  have q2 := hStr.2.1
  have q3 := hStr.2.2.1
  have q4 := hPla.1
  have q5 := hPla.2.1
  have q6 := hPla.2.2.1
  have q7 := hTap.1
  have q8 := hTap.2.1
  have q9 := hTap.2.2.1
  have q10 := hTap.2.2.2.1
  have q11 := hTap.2.2.2.2.1
  have q12 := hTap.2.2.2.2.2.1
  have ⟨n1, n2, n3, n4, n5, n6, n7, n8, n9, n10, n11, n12⟩ := hNow
  have k8 := K8 hS
  have k9 := K9 hS
  have k85 := K85 hS
  have k86 := K86 hS
  have l8 := L8 hS
  have l9 := L9 hS
  have l85 := L85 hS
  have l86 := L86 hS
  have ml := fun (h0 : 0 ≤ x1) (h1 : x1 < 192) => hLand x1.toNat (by omega)
  all_goals rw [g48]
  all_goals repeat' (first | simp (disch := omega) only [g48_0, g48_1, g48_4t, g48_4f, g48_7, g48_9, g48_10, g48_11t, g48_11f, g48_14, g48_15, g48_16t, g48_16f, g48_19, g48_21, g48_22, g48_23t, g48_23f, g48_26, g48_27, g48_30, g48_33, g48_36, g48_37, g48_40, g48_43, g48_44, g48_47, cont_1, cont_0, Pr_some, P6_0 hS, P7_0 hS, P7_1 hS, mset_eq, mset_ne, mset_nk] | (simp only [g48_4, g48_11, g48_16, g48_23]; split) | (simp (disch := omega) only [isMile_i, isByte_i, isHalf_i, in_i, mMile_i, mByte_i, at_i, put_i, isPlane_i hS, mPlane_i hS, mStrip_i hS]; split))
  all_goals (unfold PQ; rw [g113])
  all_goals repeat' (first | simp (disch := omega) only [g113_0, g113_1, g113_4t, g113_4f, g113_7, g113_9, g113_10, g113_11t, g113_11f, g113_14, g113_15, g113_18, g113_19, g113_20, g113_23, g113_24, g113_25t, g113_25f, g113_28, g113_29, g113_32, g113_33, g113_34, g113_37, g113_39, cont_1, cont_0, Pr_some, P84_0 hS, P84_1 hS, mset_eq, mset_ne, mset_nk] | (simp only [g113_4, g113_11, g113_25]; split) | (simp (disch := omega) only [isMile_i, isByte_i, isHalf_i, in_i, mMile_i, mByte_i, at_i, put_i, isPlane_i hS, mPlane_i hS, mStrip_i hS]; split))
  all_goals (refine Fin_id hS hI0 (aI_eq ?_); first | omega | (have := ml (by omega) (by omega); omega))
