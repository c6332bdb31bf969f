/-! a frame row for each piece of the invariant -/
theorem fr_Land {M M' : Mem} (r8 : M' 8 = M 8) (r9 : M' 9 = M 9) (r85 : M' 85 = M 85) (r86 : M' 86 = M 86)  (h : iLand M) : iLand M' := by
  unfold iLand at h ⊢
  simp only [r8, r9, r85, r86]
  exact h
theorem fr_Str {M M' : Mem} (r10 : M' 10 = M 10) (r11 : M' 11 = M 11) (r90 : M' 90 = M 90) (r91 : M' 91 = M 91) (c7_4 : M' 7 4 = M 7 4) (c84_9 : M' 84 9 = M 84 9) (h : iStr M) : iStr M' := by
  unfold iStr at h ⊢
  simp only [r10, r11, r90, r91, c7_4, c84_9]
  exact h
theorem fr_Pla {M M' : Mem} (r12 : M' 12 = M 12) (r13 : M' 13 = M 13) (r14 : M' 14 = M 14) (r15 : M' 15 = M 15) (r16 : M' 16 = M 16) (r87 : M' 87 = M 87) (r88 : M' 88 = M 88) (r89 : M' 89 = M 89) (c7_10 : M' 7 10 = M 7 10) (c84_5 : M' 84 5 = M 84 5) (h : iPla M) : iPla M' := by
  unfold iPla at h ⊢
  simp only [r12, r13, r14, r15, r16, r87, r88, r89, c7_10, c84_5]
  exact h
theorem fr_Now {M M' : Mem}  (c7_10 : M' 7 10 = M 7 10) (c7_11 : M' 7 11 = M 7 11) (c7_12 : M' 7 12 = M 7 12) (c7_13 : M' 7 13 = M 7 13) (c7_14 : M' 7 14 = M 7 14) (c84_2 : M' 84 2 = M 84 2) (c84_3 : M' 84 3 = M 84 3) (c84_4 : M' 84 4 = M 84 4) (c84_17 : M' 84 17 = M 84 17) (c6_5 : M' 6 5 = M 6 5) (h : iNow M) : iNow M' := by
  unfold iNow at h ⊢
  simp only [c7_10, c7_11, c7_12, c7_13, c7_14, c84_2, c84_3, c84_4, c84_17, c6_5]
  exact h
theorem fr_Tap {M M' : Mem} (r38 : M' 38 = M 38) (r92 : M' 92 = M 92) (c84_13 : M' 84 13 = M 84 13) (c84_16 : M' 84 16 = M 84 16) (c6_5 : M' 6 5 = M 6 5) (c6_7 : M' 6 7 = M 6 7) (h : iTap M) : iTap M' := by
  unfold iTap at h ⊢
  simp only [r38, r92, c84_13, c84_16, c6_5, c6_7]
  exact h
theorem fr_Img {M M' : Mem} (r12 : M' 12 = M 12) (r13 : M' 13 = M 13) (r28 : M' 28 = M 28) (r29 : M' 29 = M 29) (r30 : M' 30 = M 30) (r31 : M' 31 = M 31) (r32 : M' 32 = M 32) (r33 : M' 33 = M 33) (r34 : M' 34 = M 34) (r35 : M' 35 = M 35) (r36 : M' 36 = M 36) (r95 : M' 95 = M 95) (r96 : M' 96 = M 96) (r97 : M' 97 = M 97) (c84_18 : M' 84 18 = M 84 18) (c6_3 : M' 6 3 = M 6 3) (c6_5 : M' 6 5 = M 6 5) (c7_10 : M' 7 10 = M 7 10) (c27_4 : M' 27 4 = M 27 4) (c27_10 : M' 27 10 = M 27 10) (c27_11 : M' 27 11 = M 27 11) (c27_12 : M' 27 12 = M 27 12) (c27_13 : M' 27 13 = M 27 13) (c27_14 : M' 27 14 = M 27 14) (h : iImg M) : iImg M' := by
  unfold iImg at h ⊢
  simp only [r12, r13, r28, r29, r30, r31, r32, r33, r34, r35, r36, r95, r96, r97, c84_18, c6_3, c6_5, c7_10, c27_4, c27_10, c27_11, c27_12, c27_13, c27_14]
  exact h
theorem fr_Cst {sc : Nat → Int} {M M' : Mem} (r0 : M' 0 = M 0) (r1 : M' 1 = M 1) (r2 : M' 2 = M 2) (r5 : M' 5 = M 5) (r102 : M' 102 = M 102) (c84_43 : M' 84 43 = M 84 43) (h : iCst sc M) : iCst sc M' := by
  unfold iCst at h ⊢
  simp only [r0, r1, r2, r5, r102, c84_43]
  exact h
theorem fr_She {M M' : Mem} (h : iShe M) (r : ∀ a, (76 ≤ a ∧ a ≤ 83) ∨ (98 ≤ a ∧ a ≤ 100) → M' a = M a) : iShe M' := by
  intro s hs
  have q := h s hs
  rw [r (76 + 2 * s) (by omega), r (77 + 2 * s) (by omega), r 98 (by omega), r 99 (by omega), r 100 (by omega)]
  exact q
theorem fr_Law {M M' : Mem} (h : iLaw M) (h6 : M 6 5 ≤ 6) (c6 : M' 6 5 = M 6 5) (r : ∀ a, (45 ≤ a ∧ a ≤ 75) ∨ a = 93 ∨ a = 94 → M' a = M a) : iLaw M' := by
  refine ⟨fun t ht => ?_, fun t t6 => (congrFun (r (wkOf t + 2) (by unfold wkOf; split <;> omega)) 0).trans (h.2 t t6)⟩
  rw [c6] at ht
  have q := h.1 t ht
  have wb : wkOf t ≤ 72 ∧ 46 ≤ wkOf t := by unfold wkOf; split <;> omega
  unfold lawRel at q ⊢
  rw [r 93 (by omega), r 94 (by omega), r (wkOf t) (by omega), r (wkOf t + 1) (by omega), r (wkOf t + 2) (by omega)]
  exact q
theorem sdF_says {n : Nat} {sc : Nat → Int} {M : Mem} {S : Sh} {p pl : Nat} {m c : Int} (hS : Std n S) (hI : Inv sc M) (p3 : p < 3) (hp : (pl : Int) < M 7 10) (m0 : 0 ≤ m) (m1 : m < 192) : ∃ M1, res 38 [aR 7, aR 43, aI (pl : Int), aI m, aI c] M S = some (none, M1, S) ∧ (∃ M2, res 13 [aR (laT (M 7 14)), aI (p : Int), aR 43] M1 S = some (some (aI (sdF (cdT M (M 7 14)) (stT M (M 7 14)) (M 8) (M 7 11) (M 13 pl) (M 7 12) p m c)), M2, S) ∧ FrC M M2) := by
  obtain ⟨_, t0, t6, hD⟩ := fyC_of hI
  have p4 := hI.2.2.1.2.2.1
  have hL : LawS S (laT (M 7 14)) := lawS_of hS (by omega)
  have lb : 45 ≤ laT (M 7 14) ∧ laT (M 7 14) ≤ 71 := laOf_b (by omega)
  have z1 := fill_ (M := M) (c := c) (p := (pl : Int)) (sceneS_of hS (Or.inl rfl)) (Or.inr rfl) (K43 hS) (L43 hS) (by omega) (by omega) m0 m1
  rw [Int.toNat_natCast] at z1
  refine ⟨_, z1, ?_⟩
  have hD1 : LwD (mrow M 43 (nmR (M 43) (M (7 + 1) m.toNat) (M 7 11) (M (7 + 6) pl) (M 7 12) (if 200 < c then 200 else c) (w32 (Int.tdiv m 12)))) (laT (M 7 14)) (cdT M (M 7 14)) (stT M (M 7 14)) := by
    unfold LwD at hD ⊢
    simp (disch := omega) only [mrow_ne]
    exact hD
  have hC := hI.2.2.2.2.2.2.2.1
  have z2 := says_ (na := 43) (nm := nmv (M (7 + 1) m.toNat) (M 7 11) (M (7 + 6) pl) (M 7 12) (if 200 < c then 200 else c) (w32 (Int.tdiv m 12))) (a := if p = 1 then -9 else 0) (b := if p = 2 then 100 else 9) hS hL hD1 p3 (Or.inr rfl) (by rw [mrow_eq]; exact nmR_v _ _ _ _ _ _ _) (by
    obtain ⟨_, _, _, ⟨y0, y1, y2⟩, _⟩ := hC
    rcases (by omega : p = 0 ∨ p = 1 ∨ p = 2) with rfl | rfl | rfl
    all_goals simp (disch := omega) only [mrow_ne]
    all_goals assumption) (by
    obtain ⟨_, _, _, _, ⟨y0, y1, y2⟩, _⟩ := hC
    rcases (by omega : p = 0 ∨ p = 1 ∨ p = 2) with rfl | rfl | rfl
    all_goals simp (disch := omega) only [mrow_ne]
    all_goals assumption)
  refine ⟨_, z2, fun a ha => ?_⟩
  have la6 : laT (M 7 14) = 45 ∨ laT (M 7 14) = 51 ∨ laT (M 7 14) = 56 ∨ laT (M 7 14) = 61 ∨ laT (M 7 14) = 66 ∨ laT (M 7 14) = 71 := by
    unfold laT laOf
    split <;> omega
  unfold scrC at ha
  rw [mrow_ne _ _ (by omega), mrow_ne _ _ (by omega)]
theorem p_asks {x1 x2 x3 x4 : Int} {n : Nat} {sc : Nat → Int} {M : Mem} {S : Sh} (hS : Std n S) (hI : Inv sc M) : Pr (res 52 [aR 6, aI x1, aI x2, aI x3, aI x4] M S) (PQ 131 [aR 84, aI x1, aI x2, aI x3, aI x4] n S.2.2.2.1 S.2.2.2.2 sc) := by
  have k6 := K6 hS
  have k7 := K7 hS
  have k84 := K84 hS
  have p1 := hI.2.2.1.1
  have p2 := hI.2.2.1.2.1
  have p3 := hI.2.2.1.2.2.1
  obtain ⟨n1, n2, n3, n4, n5, n6, n7, n8, n9, n10, n11, n12⟩ := hI.2.2.2.1
  have t5 := hI.2.2.2.2.1.2.2.1
  by_cases c0 : x1 < 0
  · refine PQ_mk (v := aI (-1000)) (M1 := M) (M2 := M) ?_ ?_ hI hS
    · rw [g52]
      simp (disch := omega) only [g52_0, g52_1, g52_2, g52_5, g52_8, g52_11, g52_11n, g52_13, g52_13n, g52_15, g52_15n, g52_18, g52_19t, g52_19f, g52_22, g52_23, g52_24t, g52_24f, g52_27, g52_28, g52_29, g52_32t, g52_32f, g52_35, g52_36, g52_39t, g52_39f, g52_42, g52_44t, g52_44f, g52_47, g52_49, g52_52t, g52_52f, g52_55, g52_58, g52_59, g52_60, g52_63, g52_64, g52_67, g52_68, g52_69, g52_71, g52_74, g52_74n, g52_76, g52_77, g52_78, g52_81, g52_84, cont_1, cont_0, w32_k, P6_0 hS, lawT_ hS, isPlane_t hS, isPlane_f hS, isMile_t, isMile_f]
    · rw [g131]
      simp (disch := omega) only [g131_0, g131_1, g131_2, g131_3, g131_6t, g131_6f, g131_9, g131_10, g131_11, g131_14t, g131_14f, g131_17, g131_18, g131_21t, g131_21f, g131_24, g131_26, g131_27, g131_30, g131_33t, g131_33f, g131_36, g131_37, g131_38, g131_39, g131_40, g131_42, g131_45, g131_48, g131_51, cont_1, cont_0, w32_k, in_t, in_f, mPlane_t hS, mPlane_f hS, mMile_t, mMile_f]
  by_cases c1 : 2 < x1
  · refine PQ_mk (v := aI (-1000)) (M1 := M) (M2 := M) ?_ ?_ hI hS
    · rw [g52]
      simp (disch := omega) only [g52_0, g52_1, g52_2, g52_5, g52_8, g52_11, g52_11n, g52_13, g52_13n, g52_15, g52_15n, g52_18, g52_19t, g52_19f, g52_22, g52_23, g52_24t, g52_24f, g52_27, g52_28, g52_29, g52_32t, g52_32f, g52_35, g52_36, g52_39t, g52_39f, g52_42, g52_44t, g52_44f, g52_47, g52_49, g52_52t, g52_52f, g52_55, g52_58, g52_59, g52_60, g52_63, g52_64, g52_67, g52_68, g52_69, g52_71, g52_74, g52_74n, g52_76, g52_77, g52_78, g52_81, g52_84, cont_1, cont_0, w32_k, P6_0 hS, lawT_ hS, isPlane_t hS, isPlane_f hS, isMile_t, isMile_f]
    · rw [g131]
      simp (disch := omega) only [g131_0, g131_1, g131_2, g131_3, g131_6t, g131_6f, g131_9, g131_10, g131_11, g131_14t, g131_14f, g131_17, g131_18, g131_21t, g131_21f, g131_24, g131_26, g131_27, g131_30, g131_33t, g131_33f, g131_36, g131_37, g131_38, g131_39, g131_40, g131_42, g131_45, g131_48, g131_51, cont_1, cont_0, w32_k, in_t, in_f, mPlane_t hS, mPlane_f hS, mMile_t, mMile_f]
  by_cases c2 : x2 < 0
  · refine PQ_mk (v := aI (-1000)) (M1 := M) (M2 := M) ?_ ?_ hI hS
    · rw [g52]
      simp (disch := omega) only [g52_0, g52_1, g52_2, g52_5, g52_8, g52_11, g52_11n, g52_13, g52_13n, g52_15, g52_15n, g52_18, g52_19t, g52_19f, g52_22, g52_23, g52_24t, g52_24f, g52_27, g52_28, g52_29, g52_32t, g52_32f, g52_35, g52_36, g52_39t, g52_39f, g52_42, g52_44t, g52_44f, g52_47, g52_49, g52_52t, g52_52f, g52_55, g52_58, g52_59, g52_60, g52_63, g52_64, g52_67, g52_68, g52_69, g52_71, g52_74, g52_74n, g52_76, g52_77, g52_78, g52_81, g52_84, cont_1, cont_0, w32_k, P6_0 hS, lawT_ hS, isPlane_t hS, isPlane_f hS, isMile_t, isMile_f]
    · rw [g131]
      simp (disch := omega) only [g131_0, g131_1, g131_2, g131_3, g131_6t, g131_6f, g131_9, g131_10, g131_11, g131_14t, g131_14f, g131_17, g131_18, g131_21t, g131_21f, g131_24, g131_26, g131_27, g131_30, g131_33t, g131_33f, g131_36, g131_37, g131_38, g131_39, g131_40, g131_42, g131_45, g131_48, g131_51, cont_1, cont_0, w32_k, in_t, in_f, mPlane_t hS, mPlane_f hS, mMile_t, mMile_f]
  by_cases c3 : M 7 10 ≤ x2
  · refine PQ_mk (v := aI (-1000)) (M1 := M) (M2 := M) ?_ ?_ hI hS
    · rw [g52]
      simp (disch := omega) only [g52_0, g52_1, g52_2, g52_5, g52_8, g52_11, g52_11n, g52_13, g52_13n, g52_15, g52_15n, g52_18, g52_19t, g52_19f, g52_22, g52_23, g52_24t, g52_24f, g52_27, g52_28, g52_29, g52_32t, g52_32f, g52_35, g52_36, g52_39t, g52_39f, g52_42, g52_44t, g52_44f, g52_47, g52_49, g52_52t, g52_52f, g52_55, g52_58, g52_59, g52_60, g52_63, g52_64, g52_67, g52_68, g52_69, g52_71, g52_74, g52_74n, g52_76, g52_77, g52_78, g52_81, g52_84, cont_1, cont_0, w32_k, P6_0 hS, lawT_ hS, isPlane_t hS, isPlane_f hS, isMile_t, isMile_f]
    · rw [g131]
      simp (disch := omega) only [g131_0, g131_1, g131_2, g131_3, g131_6t, g131_6f, g131_9, g131_10, g131_11, g131_14t, g131_14f, g131_17, g131_18, g131_21t, g131_21f, g131_24, g131_26, g131_27, g131_30, g131_33t, g131_33f, g131_36, g131_37, g131_38, g131_39, g131_40, g131_42, g131_45, g131_48, g131_51, cont_1, cont_0, w32_k, in_t, in_f, mPlane_t hS, mPlane_f hS, mMile_t, mMile_f]
  by_cases c4 : x3 < 0
  · refine PQ_mk (v := aI (-1000)) (M1 := M) (M2 := M) ?_ ?_ hI hS
    · rw [g52]
      simp (disch := omega) only [g52_0, g52_1, g52_2, g52_5, g52_8, g52_11, g52_11n, g52_13, g52_13n, g52_15, g52_15n, g52_18, g52_19t, g52_19f, g52_22, g52_23, g52_24t, g52_24f, g52_27, g52_28, g52_29, g52_32t, g52_32f, g52_35, g52_36, g52_39t, g52_39f, g52_42, g52_44t, g52_44f, g52_47, g52_49, g52_52t, g52_52f, g52_55, g52_58, g52_59, g52_60, g52_63, g52_64, g52_67, g52_68, g52_69, g52_71, g52_74, g52_74n, g52_76, g52_77, g52_78, g52_81, g52_84, cont_1, cont_0, w32_k, P6_0 hS, lawT_ hS, isPlane_t hS, isPlane_f hS, isMile_t, isMile_f]
    · rw [g131]
      simp (disch := omega) only [g131_0, g131_1, g131_2, g131_3, g131_6t, g131_6f, g131_9, g131_10, g131_11, g131_14t, g131_14f, g131_17, g131_18, g131_21t, g131_21f, g131_24, g131_26, g131_27, g131_30, g131_33t, g131_33f, g131_36, g131_37, g131_38, g131_39, g131_40, g131_42, g131_45, g131_48, g131_51, cont_1, cont_0, w32_k, in_t, in_f, mPlane_t hS, mPlane_f hS, mMile_t, mMile_f]
  by_cases c5 : 192 ≤ x3
  · refine PQ_mk (v := aI (-1000)) (M1 := M) (M2 := M) ?_ ?_ hI hS
    · rw [g52]
      simp (disch := omega) only [g52_0, g52_1, g52_2, g52_5, g52_8, g52_11, g52_11n, g52_13, g52_13n, g52_15, g52_15n, g52_18, g52_19t, g52_19f, g52_22, g52_23, g52_24t, g52_24f, g52_27, g52_28, g52_29, g52_32t, g52_32f, g52_35, g52_36, g52_39t, g52_39f, g52_42, g52_44t, g52_44f, g52_47, g52_49, g52_52t, g52_52f, g52_55, g52_58, g52_59, g52_60, g52_63, g52_64, g52_67, g52_68, g52_69, g52_71, g52_74, g52_74n, g52_76, g52_77, g52_78, g52_81, g52_84, cont_1, cont_0, w32_k, P6_0 hS, lawT_ hS, isPlane_t hS, isPlane_f hS, isMile_t, isMile_f]
    · rw [g131]
      simp (disch := omega) only [g131_0, g131_1, g131_2, g131_3, g131_6t, g131_6f, g131_9, g131_10, g131_11, g131_14t, g131_14f, g131_17, g131_18, g131_21t, g131_21f, g131_24, g131_26, g131_27, g131_30, g131_33t, g131_33f, g131_36, g131_37, g131_38, g131_39, g131_40, g131_42, g131_45, g131_48, g131_51, cont_1, cont_0, w32_k, in_t, in_f, mPlane_t hS, mPlane_f hS, mMile_t, mMile_f]
  by_cases c6 : x4 < 0
  · refine PQ_mk (v := aI (-1000)) (M1 := M) (M2 := M) ?_ ?_ hI hS
    · rw [g52]
      simp (disch := omega) only [g52_0, g52_1, g52_2, g52_5, g52_8, g52_11, g52_11n, g52_13, g52_13n, g52_15, g52_15n, g52_18, g52_19t, g52_19f, g52_22, g52_23, g52_24t, g52_24f, g52_27, g52_28, g52_29, g52_32t, g52_32f, g52_35, g52_36, g52_39t, g52_39f, g52_42, g52_44t, g52_44f, g52_47, g52_49, g52_52t, g52_52f, g52_55, g52_58, g52_59, g52_60, g52_63, g52_64, g52_67, g52_68, g52_69, g52_71, g52_74, g52_74n, g52_76, g52_77, g52_78, g52_81, g52_84, cont_1, cont_0, w32_k, P6_0 hS, lawT_ hS, isPlane_t hS, isPlane_f hS, isMile_t, isMile_f]
    · rw [g131]
      simp (disch := omega) only [g131_0, g131_1, g131_2, g131_3, g131_6t, g131_6f, g131_9, g131_10, g131_11, g131_14t, g131_14f, g131_17, g131_18, g131_21t, g131_21f, g131_24, g131_26, g131_27, g131_30, g131_33t, g131_33f, g131_36, g131_37, g131_38, g131_39, g131_40, g131_42, g131_45, g131_48, g131_51, cont_1, cont_0, w32_k, in_t, in_f, mPlane_t hS, mPlane_f hS, mMile_t, mMile_f]
  by_cases c7 : 200 < x4
  · refine PQ_mk (v := aI (-1000)) (M1 := M) (M2 := M) ?_ ?_ hI hS
    · rw [g52]
      simp (disch := omega) only [g52_0, g52_1, g52_2, g52_5, g52_8, g52_11, g52_11n, g52_13, g52_13n, g52_15, g52_15n, g52_18, g52_19t, g52_19f, g52_22, g52_23, g52_24t, g52_24f, g52_27, g52_28, g52_29, g52_32t, g52_32f, g52_35, g52_36, g52_39t, g52_39f, g52_42, g52_44t, g52_44f, g52_47, g52_49, g52_52t, g52_52f, g52_55, g52_58, g52_59, g52_60, g52_63, g52_64, g52_67, g52_68, g52_69, g52_71, g52_74, g52_74n, g52_76, g52_77, g52_78, g52_81, g52_84, cont_1, cont_0, w32_k, P6_0 hS, lawT_ hS, isPlane_t hS, isPlane_f hS, isMile_t, isMile_f]
    · rw [g131]
      simp (disch := omega) only [g131_0, g131_1, g131_2, g131_3, g131_6t, g131_6f, g131_9, g131_10, g131_11, g131_14t, g131_14f, g131_17, g131_18, g131_21t, g131_21f, g131_24, g131_26, g131_27, g131_30, g131_33t, g131_33f, g131_36, g131_37, g131_38, g131_39, g131_40, g131_42, g131_45, g131_48, g131_51, cont_1, cont_0, w32_k, in_t, in_f, mPlane_t hS, mPlane_f hS, mMile_t, mMile_f]
  obtain ⟨p, rfl⟩ : ∃ q : Nat, x1 = (q : Int) := ⟨x1.toNat, by omega⟩
  obtain ⟨pl, rfl⟩ : ∃ q : Nat, x2 = (q : Int) := ⟨x2.toNat, by omega⟩
  obtain ⟨M1, f1, M2, f2, fr⟩ := sdF_says (p := p) (pl := pl) (m := x3) (c := x4) hS hI (by omega) (by omega) (by omega) (by omega)
  have hI2 := Inv_frC hI fr
  obtain ⟨r7, r8, r9, r10, r11, r12, r13, r14, r15, r16, r93, r94, r6⟩ := now_fr fr
  have r84 : M2 84 = M 84 := fr 84 (by unfold scrC; omega)
  obtain ⟨_, hD⟩ := fyM_of hI2
  have z := asksOf_ (p := p) (pl := (pl : Int)) (m := x3) (c := x4) hS hD (by omega) (by omega) (by omega) (by omega) (by omega)
  have hv : bnd3 (if p = 1 then -9 else 0) (if p = 2 then 100 else 9) (evV (cdT M2 (M2 84 17)) (nmv (M2 85 x3.toNat) (M2 84 2) (M2 88 (pl : Int).toNat) (M2 84 3) (if 200 < x4 then 200 else x4) (w32 (Int.tdiv x3 12))) (stT M2 (M2 84 17) p).toNat (stT M2 (M2 84 17) (p + 1) - stT M2 (M2 84 17) p).toNat) = sdF (cdT M (M 7 14)) (stT M (M 7 14)) (M 8) (M 7 11) (M 13 pl) (M 7 12) p x3 x4 := by
    obtain ⟨m1, m2, m3, m4, m5, m6, m7, m8, m9, m10, _⟩ := hI2.2.2.2.1
    have h85 := (hI2.1 x3.toNat (by omega)).1
    have h88 := (hI2.2.2.1.2.2.2 pl (by rw [r7]; omega)).2.1
    unfold sdF cdT stT
    rw [h85, Int.toNat_natCast, h88, m1, m4, m10, r7, r8, r13, r93, r94]
  rw [hv] at z
  obtain ⟨M3, hM3⟩ : ∃ M3, M3 = mrow (mrow M2 105 (nmR (M2 105) (M2 85 x3.toNat) (M2 84 2) (M2 88 (pl : Int).toNat) (M2 84 3) (if 200 < x4 then 200 else x4) (w32 (Int.tdiv x3 12)))) 104 (evF (cdT M2 (M2 84 17)) (nmR (M2 105) (M2 85 x3.toNat) (M2 84 2) (M2 88 (pl : Int).toNat) (M2 84 3) (if 200 < x4 then 200 else x4) (w32 (Int.tdiv x3 12))) (stT M2 (M2 84 17) p).toNat (M2 104) (stT M2 (M2 84 17) (p + 1) - stT M2 (M2 84 17) p).toNat) := ⟨_, rfl⟩
  rw [← hM3] at z
  have frM : FrM M2 M3 := by
    refine ⟨fun a e1 e2 => ?_, fun k hk => ?_⟩
    · rw [hM3, mrow_ne _ _ (by omega), mrow_ne _ _ (by omega)]
    · rw [hM3, mrow_ne _ _ (by omega), mrow_ne _ _ (by omega)]
  have q5 : M2 84 5 = M 84 5 := by rw [r84]
  refine PQ_mk (v := aI (sdF (cdT M (M 7 14)) (stT M (M 7 14)) (M 8) (M 7 11) (M 13 pl) (M 7 12) p x3 x4)) (M1 := M2) (M2 := M3) ?_ ?_ (Inv_frM hI2 frM) hS
  · rw [g52]
    have kl := (lawS_of hS (t := (M 7 14).toNat) (by omega)).2.1
    rw [show laOf (M 7 14).toNat = laT (M 7 14) from rfl] at kl
    simp (disch := omega) only [g52_0, g52_1, g52_2, g52_5, g52_8, g52_11, g52_11n, g52_13, g52_13n, g52_15, g52_15n, g52_18, g52_19t, g52_19f, g52_22, g52_23, g52_24t, g52_24f, g52_27, g52_28, g52_29, g52_32t, g52_32f, g52_35, g52_36, g52_39t, g52_39f, g52_42, g52_44t, g52_44f, g52_47, g52_49, g52_52t, g52_52f, g52_55, g52_58, g52_59, g52_60, g52_63, g52_64, g52_67, g52_68, g52_69, g52_71, g52_74, g52_74n, g52_76, g52_77, g52_78, g52_81, g52_84, cont_1, cont_0, w32_k, P6_0 hS, P6_10 hS, lawT_ hS, isPlane_t hS, isMile_t, f1, f2]
  · rw [g131]
    simp (disch := omega) only [g131_0, g131_1, g131_2, g131_3, g131_6t, g131_6f, g131_9, g131_10, g131_11, g131_14t, g131_14f, g131_17, g131_18, g131_21t, g131_21f, g131_24, g131_26, g131_27, g131_30, g131_33t, g131_33f, g131_36, g131_37, g131_38, g131_39, g131_40, g131_42, g131_45, g131_48, g131_51, cont_1, cont_0, w32_k, in_t, mPlane_t hS, mMile_t, q5, z]
theorem strNo {n : Nat} {i : Int} {M : Mem} {S : Sh} (hS : Std n S) (h0 : 0 ≤ i) (h1 : i < 12) (a0 : 0 ≤ M 10 i.toNat) (a1 : M 10 i.toNat ≤ 3) (a2 : 0 ≤ M 11 i.toNat) (a3 : M 11 i.toNat < 16) : res 37 [aR 7, aI i] M S = some (some (aI (100 * M 10 i.toNat + M 11 i.toNat)), M, S) := by
  have k7 := K7 hS
  have k10 := K10 hS
  have k11 := K11 hS
  have l10 := L10 hS
  have l11 := L11 hS
  rw [g37]
  simp (disch := omega) only [g37_0, g37_2, g37_3, g37_6, g37_7, g37_10, g37_11, g37_12, g37_15, g37_16, g37_19, g37_20, cont_1, cont_0, w32_k, w32_o, at_in, P7_2 hS, P7_3 hS]
theorem isUnd_ {k w : Int} {M : Mem} {S : Sh} (k0 : 0 ≤ k) (k1 : k < 6) (w0 : 0 ≤ w) (w1 : w < 6) : res 177 [aI k, aI w] M S = some (some (aI (isOf k w)), M, S) := by
  rcases (by omega : k = 0 ∨ k = 1 ∨ k = 2 ∨ k = 3 ∨ k = 4 ∨ k = 5) with rfl | rfl | rfl | rfl | rfl | rfl
  all_goals rcases (by omega : w = 0 ∨ w = 1 ∨ w = 2 ∨ w = 3 ∨ w = 4 ∨ w = 5) with rfl | rfl | rfl | rfl | rfl | rfl
  all_goals rw [g177]
  all_goals simp (disch := omega) only [g177_0, g177_1t, g177_1f, g177_4, g177_5, g177_6t, g177_6f, g177_9, g177_10, g177_11t, g177_11f, g177_14, g177_15, g177_16t, g177_16f, g177_19, g177_20, g177_21t, g177_21f, g177_24, g177_25, g177_26t, g177_26f, g177_29, g177_30, g177_33, g177_34]
  all_goals rfl
theorem p_taken {x1 x2 : Int} {n : Nat} {sc : Nat → Int} {M : Mem} {S : Sh} (hS : Std n S) (hI : Inv sc M) : Pr (res 83 [aR 6, aI x1, aI x2] M S) (PQ 178 [aR 84, aI x1, aI x2] n S.2.2.2.1 S.2.2.2.2 sc) := by
  have k6 := K6 hS
  have k7 := K7 hS
  have k10 := K10 hS
  have k11 := K11 hS
  have k12 := K12 hS
  have k84 := K84 hS
  have k87 := K87 hS
  have k90 := K90 hS
  have k91 := K91 hS
  have l10 := L10 hS
  have l11 := L11 hS
  have l12 := L12 hS
  have l87 := L87 hS
  have l90 := L90 hS
  have l91 := L91 hS
  have p1 := hI.2.2.1.1
  have p2 := hI.2.2.1.2.1
  have p3 := hI.2.2.1.2.2.1
  have s1 := hI.2.1.1
  have s2 := hI.2.1.2.1
  have s3 := hI.2.1.2.2.1
  have hC := hI.2.2.2.2.2.2.2.1
  suffices hh : ∃ v, res 83 [aR 6, aI x1, aI x2] M S = some (some v, M, S) ∧ res 178 [aR 84, aI x1, aI x2] M S = some (some v, M, S) by
    obtain ⟨v, h1, h2⟩ := hh
    exact PQ_mk h1 h2 hI hS
  rw [g83, g178]
  by_cases c0 : x2 < 0
  · simp (disch := omega) only [g83_0, g83_1t, g83_1f, g83_4, g83_5, g83_7t, g83_7f, g83_10, g83_12, g83_13, g83_14t, g83_14f, g83_17, g83_18, g83_20t, g83_20f, g83_23, g83_25, g83_26, g83_27, g83_28t, g83_28f, g83_31, g83_32, g83_33, g83_36, g83_39t, g83_39f, g83_42, g83_44, g83_45, g83_46, g83_49, g83_52, g83_53, g83_56, g83_57, g83_60t, g83_60f, g83_63, g83_64, g83_67, g83_69, g83_70, g83_71, g83_72, g83_73, g83_74, g83_77, g83_80t, g83_80f, g83_83, g83_85, g83_86, g83_87, g83_89t, g83_89f, g83_92, g83_93, g83_96, g83_97, g83_98, g83_99, g83_102, g83_105, g83_107, cont_1, cont_0, w32_k, w32_o, P6_0 hS, P7_5 hS, at_in, isOfKind_ hS hC, strNo hS, g178_0, g178_1, g178_2, g178_4, g178_7t, g178_7f, g178_10, g178_12, g178_13, g178_14, g178_15, g178_17, g178_20t, g178_20f, g178_23, g178_25, g178_26, g178_27, g178_28t, g178_28f, g178_31, g178_32, g178_33, g178_34, g178_35, g178_38t, g178_38f, g178_41, g178_43, g178_46, g178_47, g178_49t, g178_49f, g178_52, g178_54, g178_55, g178_58, g178_59, g178_60, g178_61, g178_62, g178_63, g178_64, g178_67, g178_68, g178_69, g178_70, g178_71, g178_72, g178_75, g178_77, g178_78, g178_79, g178_80, g178_83t, g178_83f, g178_86, g178_88, g178_91, g178_92, g178_94t, g178_94f, g178_97, g178_98, g178_101, g178_102, g178_103, g178_104, g178_107t, g178_107f, g178_110, g178_111, g178_114, g178_116, cont_1, cont_0, w32_k, in_t, in_f, P84_6 hS, P84_10 hS, P84_11 hS, isUnd_]
    exact ⟨_, rfl, rfl⟩
  by_cases c1 : 6 < x2
  · simp (disch := omega) only [g83_0, g83_1t, g83_1f, g83_4, g83_5, g83_7t, g83_7f, g83_10, g83_12, g83_13, g83_14t, g83_14f, g83_17, g83_18, g83_20t, g83_20f, g83_23, g83_25, g83_26, g83_27, g83_28t, g83_28f, g83_31, g83_32, g83_33, g83_36, g83_39t, g83_39f, g83_42, g83_44, g83_45, g83_46, g83_49, g83_52, g83_53, g83_56, g83_57, g83_60t, g83_60f, g83_63, g83_64, g83_67, g83_69, g83_70, g83_71, g83_72, g83_73, g83_74, g83_77, g83_80t, g83_80f, g83_83, g83_85, g83_86, g83_87, g83_89t, g83_89f, g83_92, g83_93, g83_96, g83_97, g83_98, g83_99, g83_102, g83_105, g83_107, cont_1, cont_0, w32_k, w32_o, P6_0 hS, P7_5 hS, at_in, isOfKind_ hS hC, strNo hS, g178_0, g178_1, g178_2, g178_4, g178_7t, g178_7f, g178_10, g178_12, g178_13, g178_14, g178_15, g178_17, g178_20t, g178_20f, g178_23, g178_25, g178_26, g178_27, g178_28t, g178_28f, g178_31, g178_32, g178_33, g178_34, g178_35, g178_38t, g178_38f, g178_41, g178_43, g178_46, g178_47, g178_49t, g178_49f, g178_52, g178_54, g178_55, g178_58, g178_59, g178_60, g178_61, g178_62, g178_63, g178_64, g178_67, g178_68, g178_69, g178_70, g178_71, g178_72, g178_75, g178_77, g178_78, g178_79, g178_80, g178_83t, g178_83f, g178_86, g178_88, g178_91, g178_92, g178_94t, g178_94f, g178_97, g178_98, g178_101, g178_102, g178_103, g178_104, g178_107t, g178_107f, g178_110, g178_111, g178_114, g178_116, cont_1, cont_0, w32_k, in_t, in_f, P84_6 hS, P84_10 hS, P84_11 hS, isUnd_]
    exact ⟨_, rfl, rfl⟩
  by_cases c2 : x1 < 0
  · simp (disch := omega) only [g83_0, g83_1t, g83_1f, g83_4, g83_5, g83_7t, g83_7f, g83_10, g83_12, g83_13, g83_14t, g83_14f, g83_17, g83_18, g83_20t, g83_20f, g83_23, g83_25, g83_26, g83_27, g83_28t, g83_28f, g83_31, g83_32, g83_33, g83_36, g83_39t, g83_39f, g83_42, g83_44, g83_45, g83_46, g83_49, g83_52, g83_53, g83_56, g83_57, g83_60t, g83_60f, g83_63, g83_64, g83_67, g83_69, g83_70, g83_71, g83_72, g83_73, g83_74, g83_77, g83_80t, g83_80f, g83_83, g83_85, g83_86, g83_87, g83_89t, g83_89f, g83_92, g83_93, g83_96, g83_97, g83_98, g83_99, g83_102, g83_105, g83_107, cont_1, cont_0, w32_k, w32_o, P6_0 hS, P7_5 hS, at_in, isOfKind_ hS hC, strNo hS, g178_0, g178_1, g178_2, g178_4, g178_7t, g178_7f, g178_10, g178_12, g178_13, g178_14, g178_15, g178_17, g178_20t, g178_20f, g178_23, g178_25, g178_26, g178_27, g178_28t, g178_28f, g178_31, g178_32, g178_33, g178_34, g178_35, g178_38t, g178_38f, g178_41, g178_43, g178_46, g178_47, g178_49t, g178_49f, g178_52, g178_54, g178_55, g178_58, g178_59, g178_60, g178_61, g178_62, g178_63, g178_64, g178_67, g178_68, g178_69, g178_70, g178_71, g178_72, g178_75, g178_77, g178_78, g178_79, g178_80, g178_83t, g178_83f, g178_86, g178_88, g178_91, g178_92, g178_94t, g178_94f, g178_97, g178_98, g178_101, g178_102, g178_103, g178_104, g178_107t, g178_107f, g178_110, g178_111, g178_114, g178_116, cont_1, cont_0, w32_k, in_t, in_f, P84_6 hS, P84_10 hS, P84_11 hS, isUnd_]
    exact ⟨_, rfl, rfl⟩
  by_cases c3 : 15 < x1
  · simp (disch := omega) only [g83_0, g83_1t, g83_1f, g83_4, g83_5, g83_7t, g83_7f, g83_10, g83_12, g83_13, g83_14t, g83_14f, g83_17, g83_18, g83_20t, g83_20f, g83_23, g83_25, g83_26, g83_27, g83_28t, g83_28f, g83_31, g83_32, g83_33, g83_36, g83_39t, g83_39f, g83_42, g83_44, g83_45, g83_46, g83_49, g83_52, g83_53, g83_56, g83_57, g83_60t, g83_60f, g83_63, g83_64, g83_67, g83_69, g83_70, g83_71, g83_72, g83_73, g83_74, g83_77, g83_80t, g83_80f, g83_83, g83_85, g83_86, g83_87, g83_89t, g83_89f, g83_92, g83_93, g83_96, g83_97, g83_98, g83_99, g83_102, g83_105, g83_107, cont_1, cont_0, w32_k, w32_o, P6_0 hS, P7_5 hS, at_in, isOfKind_ hS hC, strNo hS, g178_0, g178_1, g178_2, g178_4, g178_7t, g178_7f, g178_10, g178_12, g178_13, g178_14, g178_15, g178_17, g178_20t, g178_20f, g178_23, g178_25, g178_26, g178_27, g178_28t, g178_28f, g178_31, g178_32, g178_33, g178_34, g178_35, g178_38t, g178_38f, g178_41, g178_43, g178_46, g178_47, g178_49t, g178_49f, g178_52, g178_54, g178_55, g178_58, g178_59, g178_60, g178_61, g178_62, g178_63, g178_64, g178_67, g178_68, g178_69, g178_70, g178_71, g178_72, g178_75, g178_77, g178_78, g178_79, g178_80, g178_83t, g178_83f, g178_86, g178_88, g178_91, g178_92, g178_94t, g178_94f, g178_97, g178_98, g178_101, g178_102, g178_103, g178_104, g178_107t, g178_107f, g178_110, g178_111, g178_114, g178_116, cont_1, cont_0, w32_k, in_t, in_f, P84_6 hS, P84_10 hS, P84_11 hS, isUnd_]
    exact ⟨_, rfl, rfl⟩
  by_cases h4 : x1 < 4
  · by_cases h5 : M 7 10 ≤ x1
    · simp (disch := omega) only [g83_0, g83_1t, g83_1f, g83_4, g83_5, g83_7t, g83_7f, g83_10, g83_12, g83_13, g83_14t, g83_14f, g83_17, g83_18, g83_20t, g83_20f, g83_23, g83_25, g83_26, g83_27, g83_28t, g83_28f, g83_31, g83_32, g83_33, g83_36, g83_39t, g83_39f, g83_42, g83_44, g83_45, g83_46, g83_49, g83_52, g83_53, g83_56, g83_57, g83_60t, g83_60f, g83_63, g83_64, g83_67, g83_69, g83_70, g83_71, g83_72, g83_73, g83_74, g83_77, g83_80t, g83_80f, g83_83, g83_85, g83_86, g83_87, g83_89t, g83_89f, g83_92, g83_93, g83_96, g83_97, g83_98, g83_99, g83_102, g83_105, g83_107, cont_1, cont_0, w32_k, w32_o, P6_0 hS, P7_5 hS, at_in, isOfKind_ hS hC, strNo hS, g178_0, g178_1, g178_2, g178_4, g178_7t, g178_7f, g178_10, g178_12, g178_13, g178_14, g178_15, g178_17, g178_20t, g178_20f, g178_23, g178_25, g178_26, g178_27, g178_28t, g178_28f, g178_31, g178_32, g178_33, g178_34, g178_35, g178_38t, g178_38f, g178_41, g178_43, g178_46, g178_47, g178_49t, g178_49f, g178_52, g178_54, g178_55, g178_58, g178_59, g178_60, g178_61, g178_62, g178_63, g178_64, g178_67, g178_68, g178_69, g178_70, g178_71, g178_72, g178_75, g178_77, g178_78, g178_79, g178_80, g178_83t, g178_83f, g178_86, g178_88, g178_91, g178_92, g178_94t, g178_94f, g178_97, g178_98, g178_101, g178_102, g178_103, g178_104, g178_107t, g178_107f, g178_110, g178_111, g178_114, g178_116, cont_1, cont_0, w32_k, in_t, in_f, P84_6 hS, P84_10 hS, P84_11 hS, isUnd_]
      exact ⟨_, rfl, rfl⟩
    · obtain ⟨v0, v1, _, _, _, u0, u1, _⟩ := hI.2.2.1.2.2.2 x1.toNat (by omega)
      by_cases h6 : x2 = 6
      · subst h6
        have e : isOf (M 12 x1.toNat) 6 = 0 := by
          unfold isOf
          rw [if_neg (by omega)]
        simp (disch := omega) only [g83_0, g83_1t, g83_1f, g83_4, g83_5, g83_7t, g83_7f, g83_10, g83_12, g83_13, g83_14t, g83_14f, g83_17, g83_18, g83_20t, g83_20f, g83_23, g83_25, g83_26, g83_27, g83_28t, g83_28f, g83_31, g83_32, g83_33, g83_36, g83_39t, g83_39f, g83_42, g83_44, g83_45, g83_46, g83_49, g83_52, g83_53, g83_56, g83_57, g83_60t, g83_60f, g83_63, g83_64, g83_67, g83_69, g83_70, g83_71, g83_72, g83_73, g83_74, g83_77, g83_80t, g83_80f, g83_83, g83_85, g83_86, g83_87, g83_89t, g83_89f, g83_92, g83_93, g83_96, g83_97, g83_98, g83_99, g83_102, g83_105, g83_107, cont_1, cont_0, w32_k, w32_o, P6_0 hS, P7_5 hS, at_in, isOfKind_ hS hC, strNo hS, g178_0, g178_1, g178_2, g178_4, g178_7t, g178_7f, g178_10, g178_12, g178_13, g178_14, g178_15, g178_17, g178_20t, g178_20f, g178_23, g178_25, g178_26, g178_27, g178_28t, g178_28f, g178_31, g178_32, g178_33, g178_34, g178_35, g178_38t, g178_38f, g178_41, g178_43, g178_46, g178_47, g178_49t, g178_49f, g178_52, g178_54, g178_55, g178_58, g178_59, g178_60, g178_61, g178_62, g178_63, g178_64, g178_67, g178_68, g178_69, g178_70, g178_71, g178_72, g178_75, g178_77, g178_78, g178_79, g178_80, g178_83t, g178_83f, g178_86, g178_88, g178_91, g178_92, g178_94t, g178_94f, g178_97, g178_98, g178_101, g178_102, g178_103, g178_104, g178_107t, g178_107f, g178_110, g178_111, g178_114, g178_116, cont_1, cont_0, w32_k, in_t, in_f, P84_6 hS, P84_10 hS, P84_11 hS, isUnd_, v0, e]
        exact ⟨_, rfl, rfl⟩
      · have e : isOf (M 12 x1.toNat) x2 = 0 ∨ isOf (M 12 x1.toNat) x2 = 1 := by
          unfold isOf
          split
          · exact Or.inr rfl
          · exact Or.inl rfl
        rcases e with e | e
        all_goals simp (disch := omega) only [g83_0, g83_1t, g83_1f, g83_4, g83_5, g83_7t, g83_7f, g83_10, g83_12, g83_13, g83_14t, g83_14f, g83_17, g83_18, g83_20t, g83_20f, g83_23, g83_25, g83_26, g83_27, g83_28t, g83_28f, g83_31, g83_32, g83_33, g83_36, g83_39t, g83_39f, g83_42, g83_44, g83_45, g83_46, g83_49, g83_52, g83_53, g83_56, g83_57, g83_60t, g83_60f, g83_63, g83_64, g83_67, g83_69, g83_70, g83_71, g83_72, g83_73, g83_74, g83_77, g83_80t, g83_80f, g83_83, g83_85, g83_86, g83_87, g83_89t, g83_89f, g83_92, g83_93, g83_96, g83_97, g83_98, g83_99, g83_102, g83_105, g83_107, cont_1, cont_0, w32_k, w32_o, P6_0 hS, P7_5 hS, at_in, isOfKind_ hS hC, strNo hS, g178_0, g178_1, g178_2, g178_4, g178_7t, g178_7f, g178_10, g178_12, g178_13, g178_14, g178_15, g178_17, g178_20t, g178_20f, g178_23, g178_25, g178_26, g178_27, g178_28t, g178_28f, g178_31, g178_32, g178_33, g178_34, g178_35, g178_38t, g178_38f, g178_41, g178_43, g178_46, g178_47, g178_49t, g178_49f, g178_52, g178_54, g178_55, g178_58, g178_59, g178_60, g178_61, g178_62, g178_63, g178_64, g178_67, g178_68, g178_69, g178_70, g178_71, g178_72, g178_75, g178_77, g178_78, g178_79, g178_80, g178_83t, g178_83f, g178_86, g178_88, g178_91, g178_92, g178_94t, g178_94f, g178_97, g178_98, g178_101, g178_102, g178_103, g178_104, g178_107t, g178_107f, g178_110, g178_111, g178_114, g178_116, cont_1, cont_0, w32_k, in_t, in_f, P84_6 hS, P84_10 hS, P84_11 hS, isUnd_, v0, e]
        all_goals exact ⟨_, rfl, rfl⟩
  · by_cases h5 : M 7 4 ≤ x1 - 4
    · simp (disch := omega) only [g83_0, g83_1t, g83_1f, g83_4, g83_5, g83_7t, g83_7f, g83_10, g83_12, g83_13, g83_14t, g83_14f, g83_17, g83_18, g83_20t, g83_20f, g83_23, g83_25, g83_26, g83_27, g83_28t, g83_28f, g83_31, g83_32, g83_33, g83_36, g83_39t, g83_39f, g83_42, g83_44, g83_45, g83_46, g83_49, g83_52, g83_53, g83_56, g83_57, g83_60t, g83_60f, g83_63, g83_64, g83_67, g83_69, g83_70, g83_71, g83_72, g83_73, g83_74, g83_77, g83_80t, g83_80f, g83_83, g83_85, g83_86, g83_87, g83_89t, g83_89f, g83_92, g83_93, g83_96, g83_97, g83_98, g83_99, g83_102, g83_105, g83_107, cont_1, cont_0, w32_k, w32_o, P6_0 hS, P7_5 hS, at_in, isOfKind_ hS hC, strNo hS, g178_0, g178_1, g178_2, g178_4, g178_7t, g178_7f, g178_10, g178_12, g178_13, g178_14, g178_15, g178_17, g178_20t, g178_20f, g178_23, g178_25, g178_26, g178_27, g178_28t, g178_28f, g178_31, g178_32, g178_33, g178_34, g178_35, g178_38t, g178_38f, g178_41, g178_43, g178_46, g178_47, g178_49t, g178_49f, g178_52, g178_54, g178_55, g178_58, g178_59, g178_60, g178_61, g178_62, g178_63, g178_64, g178_67, g178_68, g178_69, g178_70, g178_71, g178_72, g178_75, g178_77, g178_78, g178_79, g178_80, g178_83t, g178_83f, g178_86, g178_88, g178_91, g178_92, g178_94t, g178_94f, g178_97, g178_98, g178_101, g178_102, g178_103, g178_104, g178_107t, g178_107f, g178_110, g178_111, g178_114, g178_116, cont_1, cont_0, w32_k, in_t, in_f, P84_6 hS, P84_10 hS, P84_11 hS, isUnd_]
      exact ⟨_, rfl, rfl⟩
    · obtain ⟨v0, v1, u0, u1, u2, u3, _⟩ := hI.2.1.2.2.2 (x1 - 4).toNat (by omega)
      by_cases h6 : x2 = 6
      all_goals simp (disch := omega) only [g83_0, g83_1t, g83_1f, g83_4, g83_5, g83_7t, g83_7f, g83_10, g83_12, g83_13, g83_14t, g83_14f, g83_17, g83_18, g83_20t, g83_20f, g83_23, g83_25, g83_26, g83_27, g83_28t, g83_28f, g83_31, g83_32, g83_33, g83_36, g83_39t, g83_39f, g83_42, g83_44, g83_45, g83_46, g83_49, g83_52, g83_53, g83_56, g83_57, g83_60t, g83_60f, g83_63, g83_64, g83_67, g83_69, g83_70, g83_71, g83_72, g83_73, g83_74, g83_77, g83_80t, g83_80f, g83_83, g83_85, g83_86, g83_87, g83_89t, g83_89f, g83_92, g83_93, g83_96, g83_97, g83_98, g83_99, g83_102, g83_105, g83_107, cont_1, cont_0, w32_k, w32_o, P6_0 hS, P7_5 hS, at_in, isOfKind_ hS hC, strNo hS, g178_0, g178_1, g178_2, g178_4, g178_7t, g178_7f, g178_10, g178_12, g178_13, g178_14, g178_15, g178_17, g178_20t, g178_20f, g178_23, g178_25, g178_26, g178_27, g178_28t, g178_28f, g178_31, g178_32, g178_33, g178_34, g178_35, g178_38t, g178_38f, g178_41, g178_43, g178_46, g178_47, g178_49t, g178_49f, g178_52, g178_54, g178_55, g178_58, g178_59, g178_60, g178_61, g178_62, g178_63, g178_64, g178_67, g178_68, g178_69, g178_70, g178_71, g178_72, g178_75, g178_77, g178_78, g178_79, g178_80, g178_83t, g178_83f, g178_86, g178_88, g178_91, g178_92, g178_94t, g178_94f, g178_97, g178_98, g178_101, g178_102, g178_103, g178_104, g178_107t, g178_107f, g178_110, g178_111, g178_114, g178_116, cont_1, cont_0, w32_k, in_t, in_f, P84_6 hS, P84_10 hS, P84_11 hS, isUnd_, v0, v1]
      all_goals exact ⟨_, rfl, rfl⟩
