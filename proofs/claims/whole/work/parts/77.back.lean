/-! back -/
theorem p_back {n : Nat} {sc : Nat → Int} {M : Mem} {S : Sh} (hS : Std n S) (hI : Inv sc M) : Pr (res 78 [aR 6] M S) (PQ 172 [aR 84] n S.2.2.2.1 S.2.2.2.2 sc) := by
  have k6 := K6 hS
  have k7 := K7 hS
  have k27 := K27 hS
  have k84 := K84 hS
  have k97 := K97 hS
  have l97 := L97 hS
  have hI0 := hI
  obtain ⟨hLand, hStr, hPla, hNow, hTap, hImg, hShe, hCst, hLaw⟩ := hI
  have g1 := hImg.1
  rcases hImg.2.1 with g0 | g0
  · refine PQ_mk (v := aI (-3)) (M1 := M) (M2 := M) ?_ ?_ hI0 hS
    · rw [g78]
      simp (disch := omega) only [g78_0, g78_1, g78_4t, g78_4f, g78_7, g78_9, g78_10, g78_11, g78_14, g78_15, g78_18, g78_21, g78_22, g78_25, g78_28, cont_1, cont_0, w32_k]
    · rw [g172]
      simp (disch := omega) only [g172_0, g172_1, g172_4t, g172_4f, g172_7, g172_9, g172_10, g172_11, g172_13, g172_16t, g172_16f, g172_19, g172_20, g172_23, g172_24, g172_25, g172_28, g172_29, g172_30, g172_31, g172_32, g172_35, g172_36, g172_37, g172_40, g172_43, g172_44, g172_45, g172_46, g172_47, g172_50, g172_53, g172_54, g172_56, g172_58t, g172_58f, g172_61, g172_62, g172_65, g172_66, g172_67, g172_70, g172_71, g172_72, g172_73, g172_74, g172_77, g172_78, g172_79, g172_82, g172_84, g172_85, g172_86, g172_87, g172_88, g172_89, g172_92, g172_93, g172_94, g172_97, g172_99, g172_100, g172_101, g172_102, g172_103, g172_106, g172_109, g172_110, g172_111, g172_114, g172_115, g172_116, g172_119, g172_120, g172_121, g172_124, g172_125, g172_126, g172_129, g172_130, g172_131, g172_134, g172_135, g172_136, g172_139, g172_140, g172_141, g172_144, g172_145, g172_146, g172_149, g172_150, g172_151, g172_154, g172_155, g172_156, g172_159, g172_160, g172_161, g172_164, g172_165, g172_166, g172_169, g172_170, g172_173, cont_1, cont_0, w32_k]
  have g18 : M 84 18 = 1 := g1.trans g0
  obtain ⟨i1, s1, s2, s3, i2, q1, q2, q3, i3, m1, m2, m3, m4, m5, m6, m7, m8, m9, m10, m11, m12⟩ := hImg.2.2 g0
  obtain ⟨X, fX, x0, x1, x2, x3, x4, x10, x11, x12, x13, x14⟩ := take_7_27 hS (M := M)
  have rX : ∀ a, ¬ (7 ≤ a ∧ a ≤ 16) → X a = M a := x0
  have z1 : res 78 [aR 6] M S = some (some (aI (M 27 10)), X, S) := by
    rw [← x10, g78]
    simp (disch := omega) only [g78_0, g78_1, g78_4t, g78_4f, g78_7, g78_9, g78_10, g78_11, g78_14, g78_15, g78_18, g78_21, g78_22, g78_25, g78_28, cont_1, cont_0, w32_k, P6_0 hS, P6_2 hS, fX]
  have za := bk_1 (r := 10) (M := X) hS 192 0 (by omega)
  rw [rpre_0, rpre_0, mrow_self, mrow_self] at za
  obtain ⟨Ya, hYa⟩ : ∃ Ya, Ya = mrow (mrow X 85 (rpre 192 (X 95) (X 85))) 86 (rpre 192 (fun j => X 95 (192 + j)) (X 86)) := ⟨_, rfl⟩
  rw [← hYa] at za
  have zb := bk_2 (r := 10) (M := Ya) hS 12 0 (by omega)
  rw [rpre_0, rpre_0, rpre_0, mrow_self, mrow_self, mrow_self] at zb
  obtain ⟨Yb, hYb⟩ : ∃ Yb, Yb = mrow (mrow (mrow Ya 89 (rpre 12 (Ya 96) (Ya 89))) 90 (rpre 12 (fun j => Ya 96 (12 + j)) (Ya 90))) 91 (rpre 12 (fun j => Ya 96 (24 + j)) (Ya 91)) := ⟨_, rfl⟩
  rw [← hYb] at zb
  have ya : ∀ a, a ≠ 85 → a ≠ 86 → Ya a = X a := fun a h1 h2 => by
    rw [hYa, mrow_ne _ _ h2, mrow_ne _ _ h1]
  have ya85 : Ya 85 = rpre 192 (M 95) (M 85) := by
    rw [hYa, mrow_ne _ _ (by omega), mrow_eq, rX 95 (by omega), rX 85 (by omega)]
  have ya86 : Ya 86 = rpre 192 (fun j => M 95 (192 + j)) (M 86) := by
    rw [hYa, mrow_eq, rX 95 (by omega), rX 86 (by omega)]
  clear hYa
  have yb : ∀ a, a ≠ 89 → a ≠ 90 → a ≠ 91 → Yb a = Ya a := fun a h1 h2 h3 => by
    rw [hYb, mrow_ne _ _ h3, mrow_ne _ _ h2, mrow_ne _ _ h1]
  have yb89 : Yb 89 = rpre 12 (M 96) (M 89) := by
    rw [hYb, mrow_ne _ _ (by omega), mrow_ne _ _ (by omega), mrow_eq, ya 96 (by omega) (by omega), ya 89 (by omega) (by omega), rX 96 (by omega), rX 89 (by omega)]
  have yb90 : Yb 90 = rpre 12 (fun j => M 96 (12 + j)) (M 90) := by
    rw [hYb, mrow_ne _ _ (by omega), mrow_eq, ya 96 (by omega) (by omega), ya 90 (by omega) (by omega), rX 96 (by omega), rX 90 (by omega)]
  have yb91 : Yb 91 = rpre 12 (fun j => M 96 (24 + j)) (M 91) := by
    rw [hYb, mrow_eq, ya 96 (by omega) (by omega), ya 91 (by omega) (by omega), rX 96 (by omega), rX 91 (by omega)]
  clear hYb
  have yX : ∀ a, a ≠ 85 → a ≠ 86 → a ≠ 89 → a ≠ 90 → a ≠ 91 → Yb a = X a := fun a h1 h2 h3 h4 h5 => by
    rw [yb a h3 h4 h5, ya a h1 h2]
  have y85 : Yb 85 = rpre 192 (M 95) (M 85) := by rw [yb 85 (by omega) (by omega) (by omega)]; exact ya85
  have y86 : Yb 86 = rpre 192 (fun j => M 95 (192 + j)) (M 86) := by rw [yb 86 (by omega) (by omega) (by omega)]; exact ya86
  have y97 : Yb 97 = M 97 := by rw [yX 97 (by omega) (by omega) (by omega) (by omega) (by omega), rX 97 (by omega)]
  have y84 : Yb 84 = M 84 := by rw [yX 84 (by omega) (by omega) (by omega) (by omega) (by omega), rX 84 (by omega)]
  obtain ⟨M2, hM2⟩ : ∃ M2, M2 = mset (mset (mset (mset (mset (mset Yb 84 5 (M 97 0)) 84 9 (M 97 1)) 84 2 (M 97 2)) 84 3 (M 97 3)) 84 4 (M 97 4)) 84 17 (M 97 5) := ⟨_, rfl⟩
  have x18 : X 84 18 = 1 := by rw [rX 84 (by omega)]; exact g18
  have z2 : res 172 [aR 84] X S = some (some (aI (M 97 0)), M2, S) := by
    rw [hM2, g172]
    simp (disch := omega) only [g172_0, g172_1, g172_4t, g172_4f, g172_7, g172_9, g172_10, g172_11, g172_13, g172_16t, g172_16f, g172_19, g172_20, g172_23, g172_24, g172_25, g172_28, g172_29, g172_30, g172_31, g172_32, g172_35, g172_36, g172_37, g172_40, g172_43, g172_44, g172_45, g172_46, g172_47, g172_50, g172_53, g172_54, g172_56, g172_58t, g172_58f, g172_61, g172_62, g172_65, g172_66, g172_67, g172_70, g172_71, g172_72, g172_73, g172_74, g172_77, g172_78, g172_79, g172_82, g172_84, g172_85, g172_86, g172_87, g172_88, g172_89, g172_92, g172_93, g172_94, g172_97, g172_99, g172_100, g172_101, g172_102, g172_103, g172_106, g172_109, g172_110, g172_111, g172_114, g172_115, g172_116, g172_119, g172_120, g172_121, g172_124, g172_125, g172_126, g172_129, g172_130, g172_131, g172_134, g172_135, g172_136, g172_139, g172_140, g172_141, g172_144, g172_145, g172_146, g172_149, g172_150, g172_151, g172_154, g172_155, g172_156, g172_159, g172_160, g172_161, g172_164, g172_165, g172_166, g172_169, g172_170, g172_173, cont_1, cont_0, w32_k, x18]
    refine Eq.trans za ?_
    simp (disch := omega) only [g172_0, g172_1, g172_4t, g172_4f, g172_7, g172_9, g172_10, g172_11, g172_13, g172_16t, g172_16f, g172_19, g172_20, g172_23, g172_24, g172_25, g172_28, g172_29, g172_30, g172_31, g172_32, g172_35, g172_36, g172_37, g172_40, g172_43, g172_44, g172_45, g172_46, g172_47, g172_50, g172_53, g172_54, g172_56, g172_58t, g172_58f, g172_61, g172_62, g172_65, g172_66, g172_67, g172_70, g172_71, g172_72, g172_73, g172_74, g172_77, g172_78, g172_79, g172_82, g172_84, g172_85, g172_86, g172_87, g172_88, g172_89, g172_92, g172_93, g172_94, g172_97, g172_99, g172_100, g172_101, g172_102, g172_103, g172_106, g172_109, g172_110, g172_111, g172_114, g172_115, g172_116, g172_119, g172_120, g172_121, g172_124, g172_125, g172_126, g172_129, g172_130, g172_131, g172_134, g172_135, g172_136, g172_139, g172_140, g172_141, g172_144, g172_145, g172_146, g172_149, g172_150, g172_151, g172_154, g172_155, g172_156, g172_159, g172_160, g172_161, g172_164, g172_165, g172_166, g172_169, g172_170, g172_173, cont_1, cont_0, w32_k]
    refine Eq.trans zb ?_
    simp (disch := omega) only [g172_0, g172_1, g172_4t, g172_4f, g172_7, g172_9, g172_10, g172_11, g172_13, g172_16t, g172_16f, g172_19, g172_20, g172_23, g172_24, g172_25, g172_28, g172_29, g172_30, g172_31, g172_32, g172_35, g172_36, g172_37, g172_40, g172_43, g172_44, g172_45, g172_46, g172_47, g172_50, g172_53, g172_54, g172_56, g172_58t, g172_58f, g172_61, g172_62, g172_65, g172_66, g172_67, g172_70, g172_71, g172_72, g172_73, g172_74, g172_77, g172_78, g172_79, g172_82, g172_84, g172_85, g172_86, g172_87, g172_88, g172_89, g172_92, g172_93, g172_94, g172_97, g172_99, g172_100, g172_101, g172_102, g172_103, g172_106, g172_109, g172_110, g172_111, g172_114, g172_115, g172_116, g172_119, g172_120, g172_121, g172_124, g172_125, g172_126, g172_129, g172_130, g172_131, g172_134, g172_135, g172_136, g172_139, g172_140, g172_141, g172_144, g172_145, g172_146, g172_149, g172_150, g172_151, g172_154, g172_155, g172_156, g172_159, g172_160, g172_161, g172_164, g172_165, g172_166, g172_169, g172_170, g172_173, cont_1, cont_0, w32_k, P84_21 hS, mset_ne, mset_eq, mset_nk, y97, n0, n1, n2, n3, n4, n5]
  clear za zb
  rw [q1] at z2
  have t : ∀ a, ¬ (7 ≤ a ∧ a ≤ 16) → a ≠ 84 → a ≠ 85 → a ≠ 86 → a ≠ 89 → a ≠ 90 → a ≠ 91 → M2 a = M a := fun a h1 h2 h3 h4 h5 h6 h7 => by
    rw [hM2]
    simp (disch := omega) only [mset_ne]
    rw [yX a h3 h4 h5 h6 h7]
    exact rX a h1
  have tX : ∀ a, 7 ≤ a → a ≤ 16 → M2 a = X a := fun a h1 h2 => by
    rw [hM2]
    simp (disch := omega) only [mset_ne]
    exact yX a (by omega) (by omega) (by omega) (by omega) (by omega)
  have t85 : M2 85 = rpre 192 (M 95) (M 85) := by
    rw [hM2]
    simp (disch := omega) only [mset_ne]
    exact y85
  have t86 : M2 86 = rpre 192 (fun j => M 95 (192 + j)) (M 86) := by
    rw [hM2]
    simp (disch := omega) only [mset_ne]
    exact y86
  have t89 : M2 89 = rpre 12 (M 96) (M 89) := by
    rw [hM2]
    simp (disch := omega) only [mset_ne]
    exact yb89
  have t90 : M2 90 = rpre 12 (fun j => M 96 (12 + j)) (M 90) := by
    rw [hM2]
    simp (disch := omega) only [mset_ne]
    exact yb90
  have t91 : M2 91 = rpre 12 (fun j => M 96 (24 + j)) (M 91) := by
    rw [hM2]
    simp (disch := omega) only [mset_ne]
    exact yb91
  have c5 : M2 84 5 = M 97 0 := by rw [hM2]; simp (disch := omega) only [mset_eq, mset_nk]
  have c9 : M2 84 9 = M 97 1 := by rw [hM2]; simp (disch := omega) only [mset_eq, mset_nk]
  have c2 : M2 84 2 = M 97 2 := by rw [hM2]; simp (disch := omega) only [mset_eq, mset_nk]
  have c3 : M2 84 3 = M 97 3 := by rw [hM2]; simp (disch := omega) only [mset_eq, mset_nk]
  have c4 : M2 84 4 = M 97 4 := by rw [hM2]; simp (disch := omega) only [mset_eq, mset_nk]
  have c17 : M2 84 17 = M 97 5 := by rw [hM2]; simp (disch := omega) only [mset_eq, mset_nk]
  have c84 : ∀ j, j ≠ 5 → j ≠ 9 → j ≠ 2 → j ≠ 3 → j ≠ 4 → j ≠ 17 → M2 84 j = M 84 j := fun j h1 h2 h3 h4 h5 h6 => by
    rw [hM2]
    simp (disch := omega) only [mset_nk]
    rw [y84]
  clear hM2
  have T : ∀ a, (¬ (7 ≤ a ∧ a ≤ 16) ∧ a ≠ 84 ∧ a ≠ 85 ∧ a ≠ 86 ∧ a ≠ 89 ∧ a ≠ 90 ∧ a ≠ 91) → M2 a = M a := fun a h => t a h.1 h.2.1 h.2.2.1 h.2.2.2.1 h.2.2.2.2.1 h.2.2.2.2.2.1 h.2.2.2.2.2.2
  have d4 : M2 7 4 = M 27 4 := by rw [tX 7 (by omega) (by omega)]; exact x4
  have d10 : M2 7 10 = M 27 10 := by rw [tX 7 (by omega) (by omega)]; exact x10
  have d11 : M2 7 11 = M 27 11 := by rw [tX 7 (by omega) (by omega)]; exact x11
  have d12 : M2 7 12 = M 27 12 := by rw [tX 7 (by omega) (by omega)]; exact x12
  have d13 : M2 7 13 = M 27 13 := by rw [tX 7 (by omega) (by omega)]; exact x13
  have d14 : M2 7 14 = M 27 14 := by rw [tX 7 (by omega) (by omega)]; exact x14
  have h3 := hPla.2.2.1
  refine PQ_mk (v := aI (M 27 10)) (M1 := X) (M2 := M2) z1 z2 ?_ hS
  refine ⟨fun k hk => ?_, ⟨?_, ?_, ?_, fun k hk => ?_⟩, ⟨?_, ?_, ?_, fun k hk => ?_⟩, ?_, fr_Tap (T 38 (by omega)) (T 92 (by omega)) (c84 13 (by omega) (by omega) (by omega) (by omega) (by omega) (by omega)) (c84 16 (by omega) (by omega) (by omega) (by omega) (by omega) (by omega)) (by rw [T 6 (by omega)]) (by rw [T 6 (by omega)]) hTap, ?_, fr_She hShe (fun a ha => T a (by omega)), fr_Cst (T 0 (by omega)) (T 1 (by omega)) (T 2 (by omega)) (T 5 (by omega)) (T 102 (by omega)) (c84 43 (by omega) (by omega) (by omega) (by omega) (by omega) (by omega)) hCst, fr_Law hLaw hTap.2.2.1 (by rw [T 6 (by omega)]) (fun a ha => T a (by omega))⟩
  · obtain ⟨v1, v2, v3, v4, v5, v6⟩ := i1 k hk
    have w8 : M2 8 k = M 28 k := by rw [tX 8 (by omega) (by omega)]; exact (x1 k hk).1
    have w9 : M2 9 k = M 29 k := by rw [tX 9 (by omega) (by omega)]; exact (x1 k hk).2
    rw [t85, t86, rpre_lt hk, rpre_lt hk, w8, w9]
    exact ⟨v1, v2, v3, v4, v5, v6⟩
  · rw [c9, d4]; exact s1
  · rw [d4]; exact s2
  · rw [d4]; exact s3
  · rw [d4] at hk
    have w10 : M2 10 k = M 30 k := by rw [tX 10 (by omega) (by omega)]; exact (x2 k (by omega)).1
    have w11 : M2 11 k = M 31 k := by rw [tX 11 (by omega) (by omega)]; exact (x2 k (by omega)).2
    rw [t90, t91, rpre_lt (by omega), rpre_lt (by omega), w10, w11]
    exact i2 k hk
  · rw [c5, d10]; exact q1
  · rw [d10]; exact q2
  · rw [d10]; omega
  · rw [d10] at hk
    obtain ⟨u1, u2, u3, u4, u5, u6, u7, u8⟩ := i3 k hk
    obtain ⟨v1, v2, v3, v4, v5, y1, y2, y3, y4, y5⟩ := hPla.2.2.2 k (by omega)
    have xk := x3 k (by omega)
    have w12 : M2 12 k = M 32 k := by rw [tX 12 (by omega) (by omega)]; exact xk.1
    have w13 : M2 13 k = M 33 k := by rw [tX 13 (by omega) (by omega)]; exact xk.2.1
    have w14 : M2 14 k = M 34 k := by rw [tX 14 (by omega) (by omega)]; exact xk.2.2.1
    have w15 : M2 15 k = M 35 k := by rw [tX 15 (by omega) (by omega)]; exact xk.2.2.2.1
    have w16 : M2 16 k = M 36 k := by rw [tX 16 (by omega) (by omega)]; exact xk.2.2.2.2
    rw [T 87 (by omega), T 88 (by omega), t89, rpre_lt (by omega), rpre_lt (by omega), rpre_lt (by omega), w12, w13, w14, w15, w16, u1, u2]
    exact ⟨v1, v2, u3, u4, u5, y1, y2, y3, y4, u6, u7, u8⟩
  · unfold iNow
    rw [c2, c3, c4, c17, d10, d11, d12, d13, d14, T 6 (by omega)]
    exact ⟨m1, m2, m3, m4, m5, m6, m7, m8, m9, m10, m11, m12⟩
  · unfold iImg
    rw [c84 18 (by omega) (by omega) (by omega) (by omega) (by omega) (by omega), T 6 (by omega), T 27 (by omega), T 28 (by omega), T 29 (by omega), T 30 (by omega), T 31 (by omega), T 32 (by omega), T 33 (by omega), T 34 (by omega), T 35 (by omega), T 36 (by omega), T 95 (by omega), T 96 (by omega), T 97 (by omega), d10]
    refine ⟨g1, Or.inr g0, fun _ => ⟨i1, s1, s2, s3, i2, q1, q2, Int.le_refl _, fun k hk => ?_, m1, m2, m3, m4, m5, m6, m7, m8, m9, m10, m11, m12⟩⟩
    obtain ⟨u1, u2, u3⟩ := i3 k hk
    have xk := x3 k (by omega)
    have w12 : M2 12 k = M 32 k := by rw [tX 12 (by omega) (by omega)]; exact xk.1
    have w13 : M2 13 k = M 33 k := by rw [tX 13 (by omega) (by omega)]; exact xk.2.1
    rw [w12, w13]
    exact ⟨rfl, rfl, u3⟩
