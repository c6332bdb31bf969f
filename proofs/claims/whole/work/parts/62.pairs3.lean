theorem tn3_0 {x : Int} (h : 0 ≤ x) : (3 * x + 0).toNat = 3 * x.toNat := by omega
theorem tn3_1 {x : Int} (h : 0 ≤ x) : (3 * x + 1).toNat = 3 * x.toNat + 1 := by omega
theorem tn3_2 {x : Int} (h : 0 ≤ x) : (3 * x + 2).toNat = 3 * x.toNat + 2 := by omega
theorem p_load {x1 x2 x3 : Int} {n : Nat} {sc : Nat → Int} {M : Mem} {S : Sh} (hS : Std n S) (hI : Inv sc M) : Pr (res 54 [aR 6, aI x1, aI x2, aI x3] M S) (PQ 133 [aR 84, aI x1, aI x2, aI x3] n S.2.2.2.1 S.2.2.2.2 sc) := by
  have hI0 := hI
  obtain ⟨hLand, hStr, hPla, hNow, hTap, hImg, hShe, hCst, hLaw⟩ := hI
  have k6 := K6 hS
  have k7 := K7 hS
  have k84 := K84 hS
  have q1 := hStr.1
  have q2 := hStr.2.1
  have q3 := hStr.2.2.1
  have q4 := hPla.1
  have q5 := hPla.2.1
  have q6 := hPla.2.2.1
  have q7 := hTap.1
  have q8 := hTap.2.1
  have q9 := hTap.2.2.1
  have q10 := hTap.2.2.2.1
  have q11 := hTap.2.2.2.2.1
  have q12 := hTap.2.2.2.2.2.1
  have ⟨n1, n2, n3, n4, n5, n6, n7, n8, n9, n10, n11, n12⟩ := hNow
  have k14 := K14 hS
  have k15 := K15 hS
  have k16 := K16 hS
  have k89 := K89 hS
  have l14 := L14 hS
  have l15 := L15 hS
  have l16 := L16 hS
  have l89 := L89 hS
  rcases (by omega : (x1 < 0 ∨ M 7 10 ≤ x1) ∨ (0 ≤ x1 ∧ x1 < M 7 10)) with hc | hc
  rotate_left
  have hp := hPla.2.2.2 x1.toNat (by omega)
  rotate_left
  all_goals rcases (by omega : x2 = 0 ∨ x2 = 1 ∨ x2 = 2 ∨ (x2 < 0 ∨ 2 < x2)) with rfl | rfl | rfl | hd
  all_goals rw [g54]
  all_goals repeat' (first | simp (disch := first | omega | (simp (disch := omega) only [mset_eq, mset_ne, mset_nk]; omega)) only [g54_0, g54_1, g54_2, g54_5t, g54_5f, g54_8, g54_10, g54_11, g54_12, g54_13t, g54_13f, g54_16, g54_17, g54_20, g54_21, g54_23, g54_24t, g54_24f, g54_27, g54_28, g54_29t, g54_29f, g54_32, g54_33, g54_35t, g54_35f, g54_38, g54_39, g54_42, g54_43t, g54_43f, g54_46, g54_47, g54_49t, g54_49f, g54_52, g54_54, g54_57, g54_60t, g54_60f, g54_63, g54_65, g54_66, g54_67t, g54_67f, g54_70, g54_71, g54_74, g54_77, g54_80, g54_81, g54_82t, g54_82f, g54_85, g54_86, g54_89, g54_92, g54_95, g54_96, g54_99, g54_102, g54_102n, g54_104, g54_104n, g54_106, g54_107, g54_110, g54_112, g54_112n, g54_114, g54_115, g54_116, g54_119, g54_121, cont_1, cont_0, Pr_some, w32_o, isMile_t, isMile_f, isByte_t, isByte_f, isHalf_t, isHalf_f, in_t, in_f, mMile_t, mMile_f, mByte_t, mByte_f, at_in, at_out, put_in, put_out, P6_0 hS, P7_7 hS, P7_8 hS, P7_9 hS, isPlane_t hS, isPlane_f hS, mset_eq, mset_ne, mset_nk] | (simp only [g54_5, g54_13, g54_24, g54_29, g54_35, g54_43, g54_49, g54_60, g54_67, g54_82]; split) | (simp (disch := omega) only [isMile_i, isByte_i, isHalf_i, in_i, mMile_i, mByte_i, at_i, put_i, isPlane_i hS, mPlane_i hS, mStrip_i hS]; split))
  all_goals (unfold PQ; rw [g133])
  all_goals repeat' (first | simp (disch := first | omega | (simp (disch := omega) only [mset_eq, mset_ne, mset_nk]; omega)) only [g133_0, g133_1, g133_2, g133_5t, g133_5f, g133_8, g133_10, g133_11, g133_12, g133_13, g133_14, g133_17t, g133_17f, g133_20, g133_21, g133_22, g133_23t, g133_23f, g133_26, g133_27, g133_30, g133_31, g133_32, g133_33t, g133_33f, g133_36, g133_38, g133_41, g133_44, g133_47t, g133_47f, g133_50, g133_52, g133_53, g133_54, g133_57, g133_58, g133_59, g133_60, g133_61, g133_62, g133_63, g133_65, g133_66, g133_69, g133_70, g133_71, g133_72, g133_73, g133_74, g133_75, g133_76, g133_78, cont_1, cont_0, Pr_some, w32_o, isMile_t, isMile_f, isByte_t, isByte_f, isHalf_t, isHalf_f, in_t, in_f, mMile_t, mMile_f, mByte_t, mByte_f, at_in, at_out, put_in, put_out, P84_8 hS, mPlane_t hS, mPlane_f hS, tn3_0, tn3_1, tn3_2, mset_eq, mset_ne, mset_nk] | (simp only [g133_5, g133_17, g133_23, g133_33, g133_47]; split) | (simp (disch := omega) only [isMile_i, isByte_i, isHalf_i, in_i, mMile_i, mByte_i, at_i, put_i, isPlane_i hS, mPlane_i hS, mStrip_i hS]; split))
  all_goals first | (refine Fin_id hS hI0 (aI_eq ?_); omega) | refine ⟨aI_eq (by omega), ⟨by (unfold iLand at hLand ⊢; simp (disch := omega) only [mset_eq, mset_ne, mset_nk]; exact hLand), by (unfold iStr at hStr ⊢; simp (disch := omega) only [mset_eq, mset_ne, mset_nk]; exact hStr), by (unfold iPla; simp (disch := omega) only [mset_ne, mset_nk]; refine ⟨q4, q5, q6, ?_⟩; intro k hk2; have := hPla.2.2.2 k (by omega); by_cases hkk : k = x1.toNat; (rw [hkk]; simp (disch := omega) only [mset_eq, mset_ne, mset_nk, true_and, and_true]; omega); (simp (disch := omega) only [mset_eq, mset_ne, mset_nk, true_and, and_true]; omega)), by (unfold iNow at hNow ⊢; simp (disch := omega) only [mset_eq, mset_ne, mset_nk]; exact hNow), by (unfold iTap at hTap ⊢; simp (disch := omega) only [mset_eq, mset_ne, mset_nk]; exact hTap), by (unfold iImg at hImg ⊢; simp (disch := omega) only [mset_eq, mset_ne, mset_nk]; exact hImg), by (intro s hs; have := hShe s hs; simp (disch := omega) only [mset_eq, mset_ne, mset_nk] at this ⊢; exact this), by (unfold iCst at hCst ⊢; simp (disch := omega) only [mset_eq, mset_ne, mset_nk]; exact hCst), by (refine ⟨fun t ht => by (simp (disch := omega) only [mset_eq, mset_ne, mset_nk] at ht; have := hLaw.1 t ht; unfold lawRel at this ⊢; simp (disch := unfold wkOf; split <;> omega) only [mset_eq, mset_ne, mset_nk] at this ⊢; exact this), fun t t6 => by (simp (disch := unfold wkOf; split <;> omega) only [mset_eq, mset_ne, mset_nk]; exact hLaw.2 t t6)⟩)⟩, hS, Nat.le_refl _, Nat.le_refl _⟩
theorem addStrip_ {n : Nat} {w l : Int} {M : Mem} {S : Sh} (hS : Std n S) (h0 : 0 ≤ M 7 4) (h1 : M 7 4 < 12) : res 35 [aR 7, aI w, aI l] M S = some (none, mset (mset (mset M 10 (M 7 4).toNat w) 11 (M 7 4).toNat l) 7 4 (M 7 4 + 1), S) := by
  have k7 := K7 hS
  have k10 := K10 hS
  have k11 := K11 hS
  have l10 := L10 hS
  have l11 := L11 hS
  rw [g35]
  simp (disch := omega) only [g35_0, g35_1, g35_4, g35_6t, g35_6f, g35_9, g35_10, g35_13, g35_14, g35_17, g35_18, g35_21, g35_22, g35_25, g35_26, g35_29, g35_30, g35_33, g35_34, g35_35, g35_38, g35_39, g35_40, g35_43, cont_1, cont_0, Pr_some, w32_o, isMile_t, isMile_f, isByte_t, isByte_f, isHalf_t, isHalf_f, in_t, in_f, mMile_t, mMile_f, mByte_t, mByte_f, at_in, at_out, put_in, put_out, P7_2 hS, P7_3 hS, mset_eq, mset_ne, mset_nk]
theorem p_strip {x1 x2 : Int} {n : Nat} {sc : Nat → Int} {M : Mem} {S : Sh} (hS : Std n S) (hI : Inv sc M) : Pr (res 56 [aR 6, aI x1, aI x2] M S) (PQ 137 [aR 84, aI x1, aI x2] n S.2.2.2.1 S.2.2.2.2 sc) := by
  have hI0 := hI
  obtain ⟨hLand, hStr, hPla, hNow, hTap, hImg, hShe, hCst, hLaw⟩ := hI
  have k6 := K6 hS
  have k7 := K7 hS
  have k84 := K84 hS
  have q1 := hStr.1
  have q2 := hStr.2.1
  have q3 := hStr.2.2.1
  have q4 := hPla.1
  have q5 := hPla.2.1
  have q6 := hPla.2.2.1
  have q7 := hTap.1
  have q8 := hTap.2.1
  have q9 := hTap.2.2.1
  have q10 := hTap.2.2.2.1
  have q11 := hTap.2.2.2.2.1
  have q12 := hTap.2.2.2.2.2.1
  have ⟨n1, n2, n3, n4, n5, n6, n7, n8, n9, n10, n11, n12⟩ := hNow
  have k10 := K10 hS
  have k11 := K11 hS
  have k90 := K90 hS
  have k91 := K91 hS
  have l10 := L10 hS
  have l11 := L11 hS
  have l90 := L90 hS
  have l91 := L91 hS
  rcases (by omega : x1 < 2 ∨ 2 ≤ x1) with hd | hd
  all_goals rw [g56]
  all_goals repeat' (first | simp (disch := first | omega | (simp (disch := omega) only [mset_eq, mset_ne, mset_nk]; omega)) only [g56_0, g56_1t, g56_1f, g56_4, g56_5, g56_6t, g56_6f, g56_9, g56_10t, g56_10f, g56_13, g56_14, g56_15, g56_18t, g56_18f, g56_21, g56_23, g56_24, g56_25, g56_28, g56_31, g56_33t, g56_33f, g56_36, g56_38, g56_39, g56_40, g56_43, g56_44, g56_45, g56_48, g56_49, g56_52, g56_55, cont_1, cont_0, Pr_some, w32_o, isMile_t, isMile_f, isByte_t, isByte_f, isHalf_t, isHalf_f, in_t, in_f, mMile_t, mMile_f, mByte_t, mByte_f, at_in, at_out, put_in, put_out, P6_0 hS, linesOf_lt, linesOf_ge, addStrip_ hS, mset_eq, mset_ne, mset_nk] | (simp only [g56_1, g56_6, g56_10, g56_18, g56_33]; split) | (simp (disch := omega) only [isMile_i, isByte_i, isHalf_i, in_i, mMile_i, mByte_i, at_i, put_i, isPlane_i hS, mPlane_i hS, mStrip_i hS]; split))
  all_goals (unfold PQ; rw [g137])
  all_goals repeat' (first | simp (disch := first | omega | (simp (disch := omega) only [mset_eq, mset_ne, mset_nk]; omega)) only [g137_0, g137_1, g137_2, g137_3, g137_6t, g137_6f, g137_9, g137_10, g137_11, g137_12, g137_13t, g137_13f, g137_16, g137_18, g137_21, g137_23, g137_26t, g137_26f, g137_29, g137_31, g137_32, g137_33, g137_36, g137_38t, g137_38f, g137_41, g137_43, g137_44, g137_45, g137_48, g137_49, g137_52, g137_53, g137_54, g137_55, g137_58, g137_59, g137_62, g137_63, g137_64, g137_65, g137_66, g137_69, g137_70, g137_71, g137_74, g137_75, g137_78, cont_1, cont_0, Pr_some, w32_o, isMile_t, isMile_f, isByte_t, isByte_f, isHalf_t, isHalf_f, in_t, in_f, mMile_t, mMile_f, mByte_t, mByte_f, at_in, at_out, put_in, put_out, P84_10 hS, P84_11 hS, q1, mset_eq, mset_ne, mset_nk] | (simp only [g137_6, g137_13, g137_26, g137_38]; split) | (simp (disch := omega) only [isMile_i, isByte_i, isHalf_i, in_i, mMile_i, mByte_i, at_i, put_i, isPlane_i hS, mPlane_i hS, mStrip_i hS]; split))
  all_goals first | (refine Fin_id hS hI0 (aI_eq ?_); omega) | refine ⟨aI_eq (by omega), ⟨by (unfold iLand at hLand ⊢; simp (disch := omega) only [mset_eq, mset_ne, mset_nk]; exact hLand), by (unfold iStr; simp (disch := omega) only [mset_eq, mset_ne, mset_nk, true_and, and_true]; refine ⟨by omega, by omega, ?_⟩; intro k hk2; by_cases hkk : k = (M 7 4).toNat; (rw [hkk]; simp (disch := omega) only [mset_eq, mset_ne, mset_nk, true_and, and_true]; omega); (have := hStr.2.2.2 k (by omega); simp (disch := omega) only [mset_eq, mset_ne, mset_nk, true_and, and_true]; omega)), by (unfold iPla at hPla ⊢; simp (disch := omega) only [mset_eq, mset_ne, mset_nk]; exact hPla), by (unfold iNow at hNow ⊢; simp (disch := omega) only [mset_eq, mset_ne, mset_nk]; exact hNow), by (unfold iTap at hTap ⊢; simp (disch := omega) only [mset_eq, mset_ne, mset_nk]; exact hTap), by (unfold iImg at hImg ⊢; simp (disch := omega) only [mset_eq, mset_ne, mset_nk]; exact hImg), by (intro s hs; have := hShe s hs; simp (disch := omega) only [mset_eq, mset_ne, mset_nk] at this ⊢; exact this), by (unfold iCst at hCst ⊢; simp (disch := omega) only [mset_eq, mset_ne, mset_nk]; exact hCst), by (refine ⟨fun t ht => by (simp (disch := omega) only [mset_eq, mset_ne, mset_nk] at ht; have := hLaw.1 t ht; unfold lawRel at this ⊢; simp (disch := unfold wkOf; split <;> omega) only [mset_eq, mset_ne, mset_nk] at this ⊢; exact this), fun t t6 => by (simp (disch := unfold wkOf; split <;> omega) only [mset_eq, mset_ne, mset_nk]; exact hLaw.2 t t6)⟩)⟩, hS, Nat.le_refl _, Nat.le_refl _⟩
