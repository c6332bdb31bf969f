theorem tm3_2 {x : Int} (h : 0 ≤ x) : (3 * x + 2 - 2).toNat = 3 * x.toNat := by omega
theorem tm3_3 {x : Int} (h : 0 ≤ x) : (3 * x + 3 - 2).toNat = 3 * x.toNat + 1 := by omega
theorem tm3_4 {x : Int} (h : 0 ≤ x) : (3 * x + 4 - 2).toNat = 3 * x.toNat + 2 := by omega
theorem p_told {x1 x2 : Int} {n : Nat} {sc : Nat → Int} {M : Mem} {S : Sh} (hS : Std n S) (hI : Inv sc M) : Pr (res 55 [aR 6, aI x1, aI x2] M S) (PQ 136 [aR 84, aI x1, aI x2] n S.2.2.2.1 S.2.2.2.2 sc) := by
  have hI0 := hI
  obtain ⟨hLand, hStr, hPla, hNow, hTap, hImg, hShe, hCst, hLaw⟩ := hI
  have k6 := K6 hS
  have k7 := K7 hS
  have k84 := K84 hS
  have q1 := hStr.1
  have q2 := hStr.2.1
  have q3 := hStr.2.2.1
  have q4 := hPla.1
  have q5 := hPla.2.1
  have q6 := hPla.2.2.1
  have q7 := hTap.1
  have q8 := hTap.2.1
  have q9 := hTap.2.2.1
  have q10 := hTap.2.2.2.1
  have q11 := hTap.2.2.2.2.1
  have q12 := hTap.2.2.2.2.2.1
  have ⟨n1, n2, n3, n4, n5, n6, n7, n8, n9, n10, n11, n12⟩ := hNow
  have k12 := K12 hS
  have k13 := K13 hS
  have k14 := K14 hS
  have k15 := K15 hS
  have k16 := K16 hS
  have k87 := K87 hS
  have k88 := K88 hS
  have k89 := K89 hS
  have l12 := L12 hS
  have l13 := L13 hS
  have l14 := L14 hS
  have l15 := L15 hS
  have l16 := L16 hS
  have l87 := L87 hS
  have l88 := L88 hS
  have l89 := L89 hS
  rcases (by omega : (x1 < 0 ∨ M 7 10 ≤ x1) ∨ (0 ≤ x1 ∧ x1 < M 7 10)) with hc | hc
  rotate_left
  have hp := hPla.2.2.2 x1.toNat (by omega)
  rotate_left
  all_goals rcases (by omega : x2 = 0 ∨ x2 = 1 ∨ x2 = 2 ∨ x2 = 3 ∨ x2 = 4 ∨ x2 = 5 ∨ x2 = 6 ∨ (x2 < 0 ∨ 6 < x2)) with rfl | rfl | rfl | rfl | rfl | rfl | rfl | hd
  all_goals rw [g55]
  all_goals repeat' (first | simp (disch := omega) only [g55_0, g55_1, g55_2, g55_5t, g55_5f, g55_8, g55_10, g55_11, g55_12c0, g55_12c1, g55_12c2, g55_12c3, g55_12c4, g55_12c5, g55_12c6, g55_12d, g55_56, g55_57, g55_60, g55_63, g55_64, g55_67, g55_68, g55_69, g55_72, g55_75, g55_76, g55_79, g55_80, g55_81, g55_84, g55_87, g55_88, g55_91, g55_92, g55_93, g55_96, g55_99, g55_100, g55_103, g55_104, g55_105, g55_108, g55_111, g55_112, g55_115, g55_116, g55_117, g55_120, g55_123, g55_124, g55_127, g55_130, g55_131, g55_132, g55_135, g55_138, g55_139, g55_142, g55_143, g55_146, g55_149, g55_150, g55_153, g55_156, g55_157, g55_159, cont_1, cont_0, Pr_some, w32_o, isMile_t, isMile_f, isByte_t, isByte_f, isHalf_t, isHalf_f, in_t, in_f, mMile_t, mMile_f, mByte_t, mByte_f, at_in, at_out, put_in, put_out, P6_0 hS, P7_5 hS, P7_6 hS, P7_7 hS, P7_8 hS, P7_9 hS, isPlane_t hS, isPlane_f hS, mileMinutes_ hS hCst, turnMinutes_ hS hCst, mset_eq, mset_ne, mset_nk] | (simp only [g55_5]; split) | (simp (disch := omega) only [isMile_i, isByte_i, isHalf_i, in_i, mMile_i, mByte_i, at_i, put_i, isPlane_i hS, mPlane_i hS, mStrip_i hS]; split))
  all_goals (unfold PQ; rw [g136])
  all_goals repeat' (first | simp (disch := omega) only [g136_0, g136_1, g136_2, g136_5t, g136_5f, g136_8, g136_10, g136_11, g136_12c0, g136_12c1, g136_12c2, g136_12c3, g136_12c4, g136_12c5, g136_12c6, g136_12d, g136_56, g136_57, g136_60, g136_61, g136_62, g136_63, g136_64, g136_67, g136_68, g136_69, g136_70, g136_71, g136_74, g136_75, g136_76, g136_77, g136_78, g136_79, g136_80, g136_81, g136_82, g136_83, g136_84, g136_85, g136_88, g136_89, g136_90, g136_91, g136_94, g136_95, g136_97, cont_1, cont_0, Pr_some, w32_o, isMile_t, isMile_f, isByte_t, isByte_f, isHalf_t, isHalf_f, in_t, in_f, mMile_t, mMile_f, mByte_t, mByte_f, at_in, at_out, put_in, put_out, P84_6 hS, P84_7 hS, P84_8 hS, mPlane_t hS, mPlane_f hS, mileOf_ hS, turnOf_ hS, tm3_2, tm3_3, tm3_4, mset_eq, mset_ne, mset_nk] | (simp only [g136_5]; split) | (simp (disch := omega) only [isMile_i, isByte_i, isHalf_i, in_i, mMile_i, mByte_i, at_i, put_i, isPlane_i hS, mPlane_i hS, mStrip_i hS]; split))
  all_goals (refine Fin_id hS hI0 (aI_eq ?_); first | omega | (rw [hp.1, hp.2.1]) | (rw [hp.1]))
