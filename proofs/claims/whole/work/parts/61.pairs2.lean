theorem stripNumber_ {n : Nat} {i : Int} {M : Mem} {S : Sh} (hS : Std n S) (h0 : 0 ≤ i) (h1 : i < 12) (a0 : 0 ≤ M 10 i.toNat) (a1 : M 10 i.toNat ≤ 3) (a2 : 0 ≤ M 11 i.toNat) (a3 : M 11 i.toNat < 16) : res 37 [aR 7, aI i] M S = some (some (aI (100 * M 10 i.toNat + M 11 i.toNat)), M, S) := by
  have k7 := K7 hS
  have k10 := K10 hS
  have k11 := K11 hS
  have l10 := L10 hS
  have l11 := L11 hS
  rw [g37]
  simp (disch := omega) only [g37_0, g37_2, g37_3, g37_6, g37_7, g37_10, g37_11, g37_12, g37_15, g37_16, g37_19, g37_20, cont_1, cont_0, Pr_some, w32_o, isMile_t, isMile_f, isByte_t, isByte_f, isHalf_t, isHalf_f, in_t, in_f, mMile_t, mMile_f, mByte_t, mByte_f, at_in, at_out, put_in, put_out, P7_2 hS, P7_3 hS, at_in, mset_eq, mset_ne, mset_nk]
/-! planned, drop -/
theorem p_planned {x1 : Int} {n : Nat} {sc : Nat → Int} {M : Mem} {S : Sh} (hS : Std n S) (hI : Inv sc M) : Pr (res 58 [aR 6, aI x1] M S) (PQ 140 [aR 84, aI x1] n S.2.2.2.1 S.2.2.2.2 sc) := by
  have hI0 := hI
  obtain ⟨hLand, hStr, hPla, hNow, hTap, hImg, hShe, hCst, hLaw⟩ := hI
  have k6 := K6 hS
  have k7 := K7 hS
  have k84 := K84 hS
  have q1 := hStr.1
  have q2 := hStr.2.1
  have q3 := hStr.2.2.1
  have q4 := hPla.1
  have q5 := hPla.2.1
  have q6 := hPla.2.2.1
  have q7 := hTap.1
  have q8 := hTap.2.1
  have q9 := hTap.2.2.1
  have q10 := hTap.2.2.2.1
  have q11 := hTap.2.2.2.2.1
  have q12 := hTap.2.2.2.2.2.1
  have ⟨n1, n2, n3, n4, n5, n6, n7, n8, n9, n10, n11, n12⟩ := hNow
  have k10 := K10 hS
  have k11 := K11 hS
  have k90 := K90 hS
  have k91 := K91 hS
  have l10 := L10 hS
  have l11 := L11 hS
  have l90 := L90 hS
  have l91 := L91 hS
  rcases (by omega : (x1 < 0 ∨ M 7 4 ≤ x1) ∨ (0 ≤ x1 ∧ x1 < M 7 4)) with hc | hc
  rotate_left
  have hk := hStr.2.2.2 x1.toNat (by omega)
  rotate_left
  all_goals rw [g58]
  all_goals repeat' (first | simp (disch := omega) only [g58_0, g58_1t, g58_1f, g58_4, g58_5, g58_6, g58_9, g58_12t, g58_12f, g58_15, g58_17, g58_18, g58_19, g58_22, g58_23, g58_26, cont_1, cont_0, Pr_some, w32_o, isMile_t, isMile_f, isByte_t, isByte_f, isHalf_t, isHalf_f, in_t, in_f, mMile_t, mMile_f, mByte_t, mByte_f, at_in, at_out, put_in, put_out, P6_0 hS, stripNumber_ hS, mset_eq, mset_ne, mset_nk] | (simp only [g58_1, g58_12]; split) | (simp (disch := omega) only [isMile_i, isByte_i, isHalf_i, in_i, mMile_i, mByte_i, at_i, put_i, isPlane_i hS, mPlane_i hS, mStrip_i hS]; split))
  all_goals (unfold PQ; rw [g140])
  all_goals repeat' (first | simp (disch := omega) only [g140_0, g140_1, g140_2, g140_5t, g140_5f, g140_8, g140_10, g140_11, g140_14, g140_15, g140_16, g140_17, g140_18, g140_21, g140_22, g140_23, g140_24, g140_27, g140_29, cont_1, cont_0, Pr_some, w32_o, isMile_t, isMile_f, isByte_t, isByte_f, isHalf_t, isHalf_f, in_t, in_f, mMile_t, mMile_f, mByte_t, mByte_f, at_in, at_out, put_in, put_out, P84_10 hS, P84_11 hS, mset_eq, mset_ne, mset_nk] | (simp only [g140_5]; split) | (simp (disch := omega) only [isMile_i, isByte_i, isHalf_i, in_i, mMile_i, mByte_i, at_i, put_i, isPlane_i hS, mPlane_i hS, mStrip_i hS]; split))
  all_goals (refine Fin_id hS hI0 (aI_eq ?_); omega)
theorem mmile_0 {n : Nat} {i : Int} {M : Mem} {S : Sh} (hS : Std n S) (h0 : 0 ≤ i) (h1 : i < 192) : res 113 [aR 84, aI i, aI 0] M S = some (some (aI (M 85 i.toNat)), M, S) := by
  have k84 := K84 hS
  have k85 := K85 hS
  have k86 := K86 hS
  have l85 := L85 hS
  have l86 := L86 hS
  rw [g113]
  simp (disch := omega) only [g113_0, g113_1, g113_4t, g113_4f, g113_7, g113_9, g113_10, g113_11t, g113_11f, g113_14, g113_15, g113_18, g113_19, g113_20, g113_23, g113_24, g113_25t, g113_25f, g113_28, g113_29, g113_32, g113_33, g113_34, g113_37, g113_39, cont_1, cont_0, Pr_some, w32_o, isMile_t, isMile_f, isByte_t, isByte_f, isHalf_t, isHalf_f, in_t, in_f, mMile_t, mMile_f, mByte_t, mByte_f, at_in, at_out, put_in, put_out, P84_0 hS, P84_1 hS, mMile_t, mset_eq, mset_ne, mset_nk]
theorem mmile_1 {n : Nat} {i : Int} {M : Mem} {S : Sh} (hS : Std n S) (h0 : 0 ≤ i) (h1 : i < 192) : res 113 [aR 84, aI i, aI 1] M S = some (some (aI (M 86 i.toNat)), M, S) := by
  have k84 := K84 hS
  have k85 := K85 hS
  have k86 := K86 hS
  have l85 := L85 hS
  have l86 := L86 hS
  rw [g113]
  simp (disch := omega) only [g113_0, g113_1, g113_4t, g113_4f, g113_7, g113_9, g113_10, g113_11t, g113_11f, g113_14, g113_15, g113_18, g113_19, g113_20, g113_23, g113_24, g113_25t, g113_25f, g113_28, g113_29, g113_32, g113_33, g113_34, g113_37, g113_39, cont_1, cont_0, Pr_some, w32_o, isMile_t, isMile_f, isByte_t, isByte_f, isHalf_t, isHalf_f, in_t, in_f, mMile_t, mMile_f, mByte_t, mByte_f, at_in, at_out, put_in, put_out, P84_0 hS, P84_1 hS, mMile_t, mset_eq, mset_ne, mset_nk]
theorem p_land {x1 x2 x3 : Int} {n : Nat} {sc : Nat → Int} {M : Mem} {S : Sh} (hS : Std n S) (hI : Inv sc M) : Pr (res 47 [aR 6, aI x1, aI x2, aI x3] M S) (PQ 112 [aR 84, aI x1, aI x2, aI x3] n S.2.2.2.1 S.2.2.2.2 sc) := by
  have hI0 := hI
  obtain ⟨hLand, hStr, hPla, hNow, hTap, hImg, hShe, hCst, hLaw⟩ := hI
  have k6 := K6 hS
  have k7 := K7 hS
  have k84 := K84 hS
  have q1 := hStr.1
  have q2 := hStr.2.1
  have q3 := hStr.2.2.1
  have q4 := hPla.1
  have q5 := hPla.2.1
  have q6 := hPla.2.2.1
  have q7 := hTap.1
  have q8 := hTap.2.1
  have q9 := hTap.2.2.1
  have q10 := hTap.2.2.2.1
  have q11 := hTap.2.2.2.2.1
  have q12 := hTap.2.2.2.2.2.1
  have ⟨n1, n2, n3, n4, n5, n6, n7, n8, n9, n10, n11, n12⟩ := hNow
  have k8 := K8 hS
  have k9 := K9 hS
  have k85 := K85 hS
  have k86 := K86 hS
  have l8 := L8 hS
  have l9 := L9 hS
  have l85 := L85 hS
  have l86 := L86 hS
  rcases (by omega : (x1 < 0 ∨ 192 ≤ x1) ∨ (0 ≤ x1 ∧ x1 < 192)) with hc | hc
  rotate_left
  have hk := hLand x1.toNat (by omega)
  rotate_left
  all_goals rcases (by omega : x2 = 0 ∨ x2 = 1 ∨ (x2 < 0 ∨ 1 < x2)) with rfl | rfl | hd
  all_goals rw [g47]
  all_goals repeat' (first | simp (disch := omega) only [g47_0, g47_1, g47_4t, g47_4f, g47_7, g47_9, g47_10, g47_11t, g47_11f, g47_14, g47_15, g47_16t, g47_16f, g47_19, g47_20t, g47_20f, g47_23, g47_24, g47_25t, g47_25f, g47_28, g47_30, g47_33, g47_34t, g47_34f, g47_37, g47_39, g47_40, g47_41t, g47_41f, g47_44, g47_45, g47_48, g47_51, g47_54, g47_55, g47_58, g47_61, g47_61n, g47_63, g47_63n, g47_65, g47_66, g47_69, g47_71, g47_71n, g47_73, g47_74, g47_75, g47_78, g47_80, cont_1, cont_0, Pr_some, w32_o, isMile_t, isMile_f, isByte_t, isByte_f, isHalf_t, isHalf_f, in_t, in_f, mMile_t, mMile_f, mByte_t, mByte_f, at_in, at_out, put_in, put_out, P6_0 hS, P7_0 hS, P7_1 hS, mset_eq, mset_ne, mset_nk] | (simp only [g47_4, g47_11, g47_16, g47_20, g47_25, g47_34, g47_41]; split) | (simp (disch := omega) only [isMile_i, isByte_i, isHalf_i, in_i, mMile_i, mByte_i, at_i, put_i, isPlane_i hS, mPlane_i hS, mStrip_i hS]; split))
  all_goals (unfold PQ; rw [g112])
  all_goals repeat' (first | simp (disch := omega) only [g112_0, g112_1, g112_4t, g112_4f, g112_7, g112_9, g112_10, g112_11, g112_12, g112_13, g112_16t, g112_16f, g112_19, g112_20, g112_21, g112_22t, g112_22f, g112_25, g112_27, g112_30, g112_31, g112_34t, g112_34f, g112_37, g112_39, g112_40, g112_41, g112_42, g112_43, g112_46, g112_48, g112_49, g112_52, g112_53, g112_54t, g112_54f, g112_57, g112_58, g112_61, g112_62, g112_65, g112_66, g112_67, g112_68, g112_69, g112_72, g112_73, g112_74, g112_75t, g112_75f, g112_78, g112_79, g112_82, g112_83, g112_86, g112_87, g112_88, g112_89, g112_91, cont_1, cont_0, Pr_some, w32_o, isMile_t, isMile_f, isByte_t, isByte_f, isHalf_t, isHalf_f, in_t, in_f, mMile_t, mMile_f, mByte_t, mByte_f, at_in, at_out, put_in, put_out, P84_0 hS, P84_1 hS, mmile_0 hS, mmile_1 hS, mset_eq, mset_ne, mset_nk] | (simp only [g112_4, g112_16, g112_22, g112_34, g112_54, g112_75]; split) | (simp (disch := omega) only [isMile_i, isByte_i, isHalf_i, in_i, mMile_i, mByte_i, at_i, put_i, isPlane_i hS, mPlane_i hS, mStrip_i hS]; split))
  all_goals first | (refine Fin_id hS hI0 (aI_eq ?_); omega) | refine ⟨aI_eq (by omega), ⟨by (intro k hk2; have := hLand k hk2; by_cases hkk : k = x1.toNat; (rw [hkk]; simp (disch := omega) only [mset_eq, mset_ne, mset_nk, true_and, and_true]; omega); (simp (disch := omega) only [mset_ne, mset_nk, true_and, and_true]; omega)), by (unfold iStr at hStr ⊢; simp (disch := omega) only [mset_eq, mset_ne, mset_nk]; exact hStr), by (unfold iPla at hPla ⊢; simp (disch := omega) only [mset_eq, mset_ne, mset_nk]; exact hPla), by (unfold iNow at hNow ⊢; simp (disch := omega) only [mset_eq, mset_ne, mset_nk]; exact hNow), by (unfold iTap at hTap ⊢; simp (disch := omega) only [mset_eq, mset_ne, mset_nk]; exact hTap), by (unfold iImg at hImg ⊢; simp (disch := omega) only [mset_eq, mset_ne, mset_nk]; exact hImg), by (intro s hs; have := hShe s hs; simp (disch := omega) only [mset_eq, mset_ne, mset_nk] at this ⊢; exact this), by (unfold iCst at hCst ⊢; simp (disch := omega) only [mset_eq, mset_ne, mset_nk]; exact hCst), by (refine ⟨fun t ht => by (simp (disch := omega) only [mset_eq, mset_ne, mset_nk] at ht; have := hLaw.1 t ht; unfold lawRel at this ⊢; simp (disch := unfold wkOf; split <;> omega) only [mset_eq, mset_ne, mset_nk] at this ⊢; exact this), fun t t6 => by (simp (disch := unfold wkOf; split <;> omega) only [mset_eq, mset_ne, mset_nk]; exact hLaw.2 t t6)⟩)⟩, hS, Nat.le_refl _, Nat.le_refl _⟩
