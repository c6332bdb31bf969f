theorem Inv_frC {sc : Nat → Int} {M M' : Mem} (hI : Inv sc M) (h : FrC M M') : Inv sc M' := by
  obtain ⟨hLand, hStr, hPla, hNow, hTap, hImg, hShe, hCst, hLaw⟩ := hI
  have r0 : M' 0 = M 0 := h 0 (by unfold scrC; omega)
  have r1 : M' 1 = M 1 := h 1 (by unfold scrC; omega)
  have r2 : M' 2 = M 2 := h 2 (by unfold scrC; omega)
  have r5 : M' 5 = M 5 := h 5 (by unfold scrC; omega)
  have r6 : M' 6 = M 6 := h 6 (by unfold scrC; omega)
  have r7 : M' 7 = M 7 := h 7 (by unfold scrC; omega)
  have r8 : M' 8 = M 8 := h 8 (by unfold scrC; omega)
  have r9 : M' 9 = M 9 := h 9 (by unfold scrC; omega)
  have r10 : M' 10 = M 10 := h 10 (by unfold scrC; omega)
  have r11 : M' 11 = M 11 := h 11 (by unfold scrC; omega)
  have r12 : M' 12 = M 12 := h 12 (by unfold scrC; omega)
  have r13 : M' 13 = M 13 := h 13 (by unfold scrC; omega)
  have r14 : M' 14 = M 14 := h 14 (by unfold scrC; omega)
  have r15 : M' 15 = M 15 := h 15 (by unfold scrC; omega)
  have r16 : M' 16 = M 16 := h 16 (by unfold scrC; omega)
  have r27 : M' 27 = M 27 := h 27 (by unfold scrC; omega)
  have r28 : M' 28 = M 28 := h 28 (by unfold scrC; omega)
  have r29 : M' 29 = M 29 := h 29 (by unfold scrC; omega)
  have r30 : M' 30 = M 30 := h 30 (by unfold scrC; omega)
  have r31 : M' 31 = M 31 := h 31 (by unfold scrC; omega)
  have r32 : M' 32 = M 32 := h 32 (by unfold scrC; omega)
  have r33 : M' 33 = M 33 := h 33 (by unfold scrC; omega)
  have r34 : M' 34 = M 34 := h 34 (by unfold scrC; omega)
  have r35 : M' 35 = M 35 := h 35 (by unfold scrC; omega)
  have r36 : M' 36 = M 36 := h 36 (by unfold scrC; omega)
  have r38 : M' 38 = M 38 := h 38 (by unfold scrC; omega)
  have r84 : M' 84 = M 84 := h 84 (by unfold scrC; omega)
  have r85 : M' 85 = M 85 := h 85 (by unfold scrC; omega)
  have r86 : M' 86 = M 86 := h 86 (by unfold scrC; omega)
  have r87 : M' 87 = M 87 := h 87 (by unfold scrC; omega)
  have r88 : M' 88 = M 88 := h 88 (by unfold scrC; omega)
  have r89 : M' 89 = M 89 := h 89 (by unfold scrC; omega)
  have r90 : M' 90 = M 90 := h 90 (by unfold scrC; omega)
  have r91 : M' 91 = M 91 := h 91 (by unfold scrC; omega)
  have r92 : M' 92 = M 92 := h 92 (by unfold scrC; omega)
  have r93 : M' 93 = M 93 := h 93 (by unfold scrC; omega)
  have r94 : M' 94 = M 94 := h 94 (by unfold scrC; omega)
  have r95 : M' 95 = M 95 := h 95 (by unfold scrC; omega)
  have r96 : M' 96 = M 96 := h 96 (by unfold scrC; omega)
  have r97 : M' 97 = M 97 := h 97 (by unfold scrC; omega)
  have r98 : M' 98 = M 98 := h 98 (by unfold scrC; omega)
  have r99 : M' 99 = M 99 := h 99 (by unfold scrC; omega)
  have r100 : M' 100 = M 100 := h 100 (by unfold scrC; omega)
  have r101 : M' 101 = M 101 := h 101 (by unfold scrC; omega)
  have r102 : M' 102 = M 102 := h 102 (by unfold scrC; omega)
  refine ⟨?_, ?_, ?_, ?_, ?_, ?_, ?_, ?_, ?_⟩
  · unfold iLand at hLand ⊢
    simp only [r0, r1, r2, r5, r6, r7, r8, r9, r10, r11, r12, r13, r14, r15, r16, r27, r28, r29, r30, r31, r32, r33, r34, r35, r36, r38, r84, r85, r86, r87, r88, r89, r90, r91, r92, r93, r94, r95, r96, r97, r98, r99, r100, r101, r102]
    exact hLand
  · unfold iStr at hStr ⊢
    simp only [r0, r1, r2, r5, r6, r7, r8, r9, r10, r11, r12, r13, r14, r15, r16, r27, r28, r29, r30, r31, r32, r33, r34, r35, r36, r38, r84, r85, r86, r87, r88, r89, r90, r91, r92, r93, r94, r95, r96, r97, r98, r99, r100, r101, r102]
    exact hStr
  · unfold iPla at hPla ⊢
    simp only [r0, r1, r2, r5, r6, r7, r8, r9, r10, r11, r12, r13, r14, r15, r16, r27, r28, r29, r30, r31, r32, r33, r34, r35, r36, r38, r84, r85, r86, r87, r88, r89, r90, r91, r92, r93, r94, r95, r96, r97, r98, r99, r100, r101, r102]
    exact hPla
  · unfold iNow at hNow ⊢
    simp only [r0, r1, r2, r5, r6, r7, r8, r9, r10, r11, r12, r13, r14, r15, r16, r27, r28, r29, r30, r31, r32, r33, r34, r35, r36, r38, r84, r85, r86, r87, r88, r89, r90, r91, r92, r93, r94, r95, r96, r97, r98, r99, r100, r101, r102]
    exact hNow
  · unfold iTap at hTap ⊢
    simp only [r0, r1, r2, r5, r6, r7, r8, r9, r10, r11, r12, r13, r14, r15, r16, r27, r28, r29, r30, r31, r32, r33, r34, r35, r36, r38, r84, r85, r86, r87, r88, r89, r90, r91, r92, r93, r94, r95, r96, r97, r98, r99, r100, r101, r102]
    exact hTap
  · unfold iImg at hImg ⊢
    simp only [r0, r1, r2, r5, r6, r7, r8, r9, r10, r11, r12, r13, r14, r15, r16, r27, r28, r29, r30, r31, r32, r33, r34, r35, r36, r38, r84, r85, r86, r87, r88, r89, r90, r91, r92, r93, r94, r95, r96, r97, r98, r99, r100, r101, r102]
    exact hImg
  · intro s hs
    have q := hShe s hs
    rw [show M' (76 + 2 * s) = M (76 + 2 * s) from h (76 + 2 * s) (by unfold scrC; omega), show M' (77 + 2 * s) = M (77 + 2 * s) from h (77 + 2 * s) (by unfold scrC; omega), r98, r99, r100]
    exact q
  · unfold iCst at hCst ⊢
    simp only [r0, r1, r2, r5, r6, r7, r8, r9, r10, r11, r12, r13, r14, r15, r16, r27, r28, r29, r30, r31, r32, r33, r34, r35, r36, r38, r84, r85, r86, r87, r88, r89, r90, r91, r92, r93, r94, r95, r96, r97, r98, r99, r100, r101, r102]
    exact hCst
  · refine ⟨fun t ht => ?_, fun t t6 => (congrFun (show M' (wkOf t + 2) = M (wkOf t + 2) from h (wkOf t + 2) (by unfold scrC wkOf; split <;> omega)) 0).trans (hLaw.2 t t6)⟩
    rw [r6] at ht
    have q := hLaw.1 t ht
    have t5 := hTap.2.2.1
    have w0 : M' (wkOf t) = M (wkOf t) := h (wkOf t) (by unfold scrC wkOf; split <;> omega)
    have w1 : M' (wkOf t + 1) = M (wkOf t + 1) := h (wkOf t + 1) (by unfold scrC wkOf; split <;> omega)
    have w2 : M' (wkOf t + 2) = M (wkOf t + 2) := h (wkOf t + 2) (by unfold scrC wkOf; split <;> omega)
    unfold lawRel at q ⊢
    rw [r93, r94, w0, w1, w2]
    exact q
theorem Inv_frM {sc : Nat → Int} {M M' : Mem} (hI : Inv sc M) (h : FrM M M') : Inv sc M' := by
  have k2 : M' 84 2 = M 84 2 := h.2 2 (by omega)
  have k3 : M' 84 3 = M 84 3 := h.2 3 (by omega)
  have k4 : M' 84 4 = M 84 4 := h.2 4 (by omega)
  have k5 : M' 84 5 = M 84 5 := h.2 5 (by omega)
  have k9 : M' 84 9 = M 84 9 := h.2 9 (by omega)
  have k13 : M' 84 13 = M 84 13 := h.2 13 (by omega)
  have k16 : M' 84 16 = M 84 16 := h.2 16 (by omega)
  have k17 : M' 84 17 = M 84 17 := h.2 17 (by omega)
  have k18 : M' 84 18 = M 84 18 := h.2 18 (by omega)
  have k43 : M' 84 43 = M 84 43 := h.2 43 (by omega)
  obtain ⟨hLand, hStr, hPla, hNow, hTap, hImg, hShe, hCst, hLaw⟩ := hI
  have r0 : M' 0 = M 0 := h.1 0 (by omega) (by omega)
  have r1 : M' 1 = M 1 := h.1 1 (by omega) (by omega)
  have r2 : M' 2 = M 2 := h.1 2 (by omega) (by omega)
  have r5 : M' 5 = M 5 := h.1 5 (by omega) (by omega)
  have r6 : M' 6 = M 6 := h.1 6 (by omega) (by omega)
  have r7 : M' 7 = M 7 := h.1 7 (by omega) (by omega)
  have r8 : M' 8 = M 8 := h.1 8 (by omega) (by omega)
  have r9 : M' 9 = M 9 := h.1 9 (by omega) (by omega)
  have r10 : M' 10 = M 10 := h.1 10 (by omega) (by omega)
  have r11 : M' 11 = M 11 := h.1 11 (by omega) (by omega)
  have r12 : M' 12 = M 12 := h.1 12 (by omega) (by omega)
  have r13 : M' 13 = M 13 := h.1 13 (by omega) (by omega)
  have r14 : M' 14 = M 14 := h.1 14 (by omega) (by omega)
  have r15 : M' 15 = M 15 := h.1 15 (by omega) (by omega)
  have r16 : M' 16 = M 16 := h.1 16 (by omega) (by omega)
  have r27 : M' 27 = M 27 := h.1 27 (by omega) (by omega)
  have r28 : M' 28 = M 28 := h.1 28 (by omega) (by omega)
  have r29 : M' 29 = M 29 := h.1 29 (by omega) (by omega)
  have r30 : M' 30 = M 30 := h.1 30 (by omega) (by omega)
  have r31 : M' 31 = M 31 := h.1 31 (by omega) (by omega)
  have r32 : M' 32 = M 32 := h.1 32 (by omega) (by omega)
  have r33 : M' 33 = M 33 := h.1 33 (by omega) (by omega)
  have r34 : M' 34 = M 34 := h.1 34 (by omega) (by omega)
  have r35 : M' 35 = M 35 := h.1 35 (by omega) (by omega)
  have r36 : M' 36 = M 36 := h.1 36 (by omega) (by omega)
  have r38 : M' 38 = M 38 := h.1 38 (by omega) (by omega)
  have r85 : M' 85 = M 85 := h.1 85 (by omega) (by omega)
  have r86 : M' 86 = M 86 := h.1 86 (by omega) (by omega)
  have r87 : M' 87 = M 87 := h.1 87 (by omega) (by omega)
  have r88 : M' 88 = M 88 := h.1 88 (by omega) (by omega)
  have r89 : M' 89 = M 89 := h.1 89 (by omega) (by omega)
  have r90 : M' 90 = M 90 := h.1 90 (by omega) (by omega)
  have r91 : M' 91 = M 91 := h.1 91 (by omega) (by omega)
  have r92 : M' 92 = M 92 := h.1 92 (by omega) (by omega)
  have r93 : M' 93 = M 93 := h.1 93 (by omega) (by omega)
  have r94 : M' 94 = M 94 := h.1 94 (by omega) (by omega)
  have r95 : M' 95 = M 95 := h.1 95 (by omega) (by omega)
  have r96 : M' 96 = M 96 := h.1 96 (by omega) (by omega)
  have r97 : M' 97 = M 97 := h.1 97 (by omega) (by omega)
  have r98 : M' 98 = M 98 := h.1 98 (by omega) (by omega)
  have r99 : M' 99 = M 99 := h.1 99 (by omega) (by omega)
  have r100 : M' 100 = M 100 := h.1 100 (by omega) (by omega)
  have r101 : M' 101 = M 101 := h.1 101 (by omega) (by omega)
  have r102 : M' 102 = M 102 := h.1 102 (by omega) (by omega)
  refine ⟨?_, ?_, ?_, ?_, ?_, ?_, ?_, ?_, ?_⟩
  · unfold iLand at hLand ⊢
    simp only [r0, r1, r2, r5, r6, r7, r8, r9, r10, r11, r12, r13, r14, r15, r16, r27, r28, r29, r30, r31, r32, r33, r34, r35, r36, r38, r85, r86, r87, r88, r89, r90, r91, r92, r93, r94, r95, r96, r97, r98, r99, r100, r101, r102, k2, k3, k4, k5, k9, k13, k16, k17, k18, k43]
    exact hLand
  · unfold iStr at hStr ⊢
    simp only [r0, r1, r2, r5, r6, r7, r8, r9, r10, r11, r12, r13, r14, r15, r16, r27, r28, r29, r30, r31, r32, r33, r34, r35, r36, r38, r85, r86, r87, r88, r89, r90, r91, r92, r93, r94, r95, r96, r97, r98, r99, r100, r101, r102, k2, k3, k4, k5, k9, k13, k16, k17, k18, k43]
    exact hStr
  · unfold iPla at hPla ⊢
    simp only [r0, r1, r2, r5, r6, r7, r8, r9, r10, r11, r12, r13, r14, r15, r16, r27, r28, r29, r30, r31, r32, r33, r34, r35, r36, r38, r85, r86, r87, r88, r89, r90, r91, r92, r93, r94, r95, r96, r97, r98, r99, r100, r101, r102, k2, k3, k4, k5, k9, k13, k16, k17, k18, k43]
    exact hPla
  · unfold iNow at hNow ⊢
    simp only [r0, r1, r2, r5, r6, r7, r8, r9, r10, r11, r12, r13, r14, r15, r16, r27, r28, r29, r30, r31, r32, r33, r34, r35, r36, r38, r85, r86, r87, r88, r89, r90, r91, r92, r93, r94, r95, r96, r97, r98, r99, r100, r101, r102, k2, k3, k4, k5, k9, k13, k16, k17, k18, k43]
    exact hNow
  · unfold iTap at hTap ⊢
    simp only [r0, r1, r2, r5, r6, r7, r8, r9, r10, r11, r12, r13, r14, r15, r16, r27, r28, r29, r30, r31, r32, r33, r34, r35, r36, r38, r85, r86, r87, r88, r89, r90, r91, r92, r93, r94, r95, r96, r97, r98, r99, r100, r101, r102, k2, k3, k4, k5, k9, k13, k16, k17, k18, k43]
    exact hTap
  · unfold iImg at hImg ⊢
    simp only [r0, r1, r2, r5, r6, r7, r8, r9, r10, r11, r12, r13, r14, r15, r16, r27, r28, r29, r30, r31, r32, r33, r34, r35, r36, r38, r85, r86, r87, r88, r89, r90, r91, r92, r93, r94, r95, r96, r97, r98, r99, r100, r101, r102, k2, k3, k4, k5, k9, k13, k16, k17, k18, k43]
    exact hImg
  · intro s hs
    have q := hShe s hs
    rw [show M' (76 + 2 * s) = M (76 + 2 * s) from h.1 (76 + 2 * s) (by omega) (by omega), show M' (77 + 2 * s) = M (77 + 2 * s) from h.1 (77 + 2 * s) (by omega) (by omega), r98, r99, r100]
    exact q
  · unfold iCst at hCst ⊢
    simp only [r0, r1, r2, r5, r6, r7, r8, r9, r10, r11, r12, r13, r14, r15, r16, r27, r28, r29, r30, r31, r32, r33, r34, r35, r36, r38, r85, r86, r87, r88, r89, r90, r91, r92, r93, r94, r95, r96, r97, r98, r99, r100, r101, r102, k2, k3, k4, k5, k9, k13, k16, k17, k18, k43]
    exact hCst
  · refine ⟨fun t ht => ?_, fun t t6 => (congrFun (show M' (wkOf t + 2) = M (wkOf t + 2) from h.1 (wkOf t + 2) (by unfold wkOf; split <;> omega) (by unfold wkOf; split <;> omega)) 0).trans (hLaw.2 t t6)⟩
    rw [r6] at ht
    have q := hLaw.1 t ht
    have t5 := hTap.2.2.1
    have w0 : M' (wkOf t) = M (wkOf t) := h.1 (wkOf t) (by unfold wkOf; split <;> omega) (by unfold wkOf; split <;> omega)
    have w1 : M' (wkOf t + 1) = M (wkOf t + 1) := h.1 (wkOf t + 1) (by unfold wkOf; split <;> omega) (by unfold wkOf; split <;> omega)
    have w2 : M' (wkOf t + 2) = M (wkOf t + 2) := h.1 (wkOf t + 2) (by unfold wkOf; split <;> omega) (by unfold wkOf; split <;> omega)
    unfold lawRel at q ⊢
    rw [r93, r94, w0, w1, w2]
    exact q
theorem lawD_of {t : Nat} {M : Mem} (t6 : t < 6) (h : lawRel t M) : LwD M (laOf t) (fun j => M 93 (200 * t + j)) (fun q => M 94 (4 * t + q)) ∧ ((0 ≤ M 94 (4 * t) ∧ M 94 (4 * t) < M 94 (4 * t + 1) ∧ M 94 (4 * t + 1) < M 94 (4 * t + 2) ∧ M 94 (4 * t + 2) < M 94 (4 * t + 3) ∧ M 94 (4 * t + 3) ≤ 160)) := by
  obtain ⟨⟨b0, b1⟩, e1, e2, e3⟩ := h
  have w : laOf t + 1 = wkOf t := by unfold laOf wkOf; split <;> omega
  have w2 : laOf t + 2 = wkOf t + 1 := by omega
  have w3 : laOf t + 3 = wkOf t + 2 := by omega
  refine ⟨⟨b1, ?_, ?_, ?_⟩, b1⟩
  · rw [w3]
    exact e1
  · rw [w, w2]
    exact e2
  · intro p p3 k hk
    have m : 0 ≤ M 94 (4 * t + p) ∧ M 94 (4 * t + p) < M 94 (4 * t + p + 1) ∧ _ := st_mono (st := fun q => M 94 (4 * t + q)) b1 p3
    have hk2 : k < (M 94 (4 * t + p + 1) - M 94 (4 * t + p)).toNat := hk
    exact e3 p p3 k (by omega)
/-- what a flight of the class rests on -/
def FyC (M : Mem) (b : Nat) : Prop := ScO M b ∧ 0 ≤ M b 14 ∧ M b 14 < 6 ∧ LwD M (laT (M b 14)) (cdT M (M b 14)) (stT M (M b 14))
def FyM (M : Mem) : Prop := MdO M ∧ MwD M (M 84 17).toNat (cdT M (M 84 17)) (stT M (M 84 17))
theorem lwT_of {sc : Nat → Int} {M : Mem} {t : Int} (hI : Inv sc M) (h0 : 0 ≤ t) (h1 : t < M 6 5) : LwD M (laT t) (cdT M t) (stT M t) := by
  obtain ⟨hLand, hStr, hPla, hNow, hTap, hImg, hShe, hCst, hLaw⟩ := hI
  have t5 := hTap.2.2.1
  exact (lawD_of (by omega) (hLaw.1 t.toNat (by omega))).1
theorem fyC_of {sc : Nat → Int} {M : Mem} (hI : Inv sc M) : FyC M 7 := by
  have hI0 := hI
  obtain ⟨hLand, hStr, hPla, hNow, hTap, hImg, hShe, hCst, hLaw⟩ := hI
  have ⟨n1, n2, n3, n4, n5, n6, n7, n8, n9, n10, n11, n12⟩ := hNow
  have t5 := hTap.2.2.1
  have p3 := hPla.2.2.1
  refine ⟨⟨⟨hStr.2.1, hStr.2.2.1, fun k hk => ?_⟩, n8, by omega, fun hw => ?_⟩, n11, by omega, lwT_of hI0 n11 n12⟩
  · obtain ⟨_, _, u⟩ := hStr.2.2.2 k hk
    exact u
  · obtain ⟨_, _, _, _, _, u0, u1, u2, u3, _, _, _, _, u4, u5⟩ := hPla.2.2.2 (M 7 13).toNat (by omega)
    exact ⟨u0, u1, u2, u3, u4, u5⟩
theorem fyM_of {sc : Nat → Int} {M : Mem} (hI : Inv sc M) : FyM M := by
  have hI0 := hI
  obtain ⟨hLand, hStr, hPla, hNow, hTap, hImg, hShe, hCst, hLaw⟩ := hI
  have ⟨n1, n2, n3, n4, n5, n6, n7, n8, n9, n10, n11, n12⟩ := hNow
  have t5 := hTap.2.2.1
  have p3 := hPla.2.2.1
  have q1 := hStr.1
  have q2 := hStr.2.1
  have q3 := hStr.2.2.1
  refine ⟨⟨⟨by omega, by omega, fun k hk => ?_⟩, fun k hk => ?_, by omega, by omega, fun hw => ?_⟩, ?_⟩
  · obtain ⟨v0, v1, u⟩ := hStr.2.2.2 k (by omega)
    rw [v0, v1]
    exact u
  · obtain ⟨_, v, _, _, v0, v1⟩ := hLand k hk
    omega
  · obtain ⟨v0, v1, _, _, v2, u0, u1, u2, u3, _, _, _, _, u4, u5⟩ := hPla.2.2.2 (M 84 4).toNat (by omega)
    rw [v0, v1, v2]
    exact ⟨u0, u1, u2, u3, u4, u5⟩
  · have hl := hLaw.1 (M 84 17).toNat (by omega)
    obtain ⟨⟨_, d1, d2, d3⟩, d0⟩ := lawD_of (by omega) hl
    refine ⟨by omega, by omega, d0, fun p hp => rfl, fun k hk => rfl, d3⟩
/-- both flights are one -/
theorem fl_eq {sc : Nat → Int} {M : Mem} (hI : Inv sc M) : flMd M (-1) = flC M 7 := by
  obtain ⟨hLand, hStr, hPla, hNow, hTap, hImg, hShe, hCst, hLaw⟩ := hI
  have ⟨n1, n2, n3, n4, n5, n6, n7, n8, n9, n10, n11, n12⟩ := hNow
  unfold flMd flC flMR flR
  rw [n7]
  by_cases hw : M 7 13 = -1
  · rw [if_pos hw, if_pos hw]
  · rw [if_neg hw, if_neg hw, flM_none _ _ _ _ _ (by rw [if_pos rfl])]
    obtain ⟨v0, v1, v2, v3, v4, _⟩ := hPla.2.2.2 (M 7 13).toNat (by omega)
    rw [v0, v1, v2, v3, v4, n1, n4, hStr.1, n10]
    have e1 : tr 192 (M 85) = tr 192 (M (7 + 1)) := tr_ext (fun k hk => (hLand k hk).1)
    have e2 : tr (M 7 4).toNat (M 90) = tr (M 7 4).toNat (M (7 + 3)) := tr_ext (fun k hk => (hStr.2.2.2 k (by omega)).1)
    have e3 : tr (M 7 4).toNat (M 91) = tr (M 7 4).toNat (M (7 + 4)) := tr_ext (fun k hk => (hStr.2.2.2 k (by omega)).2.1)
    rw [e1, e2, e3]
/-- miles that are covered, both sides -/
theorem msk_eq {sc : Nat → Int} {M : Mem} {ov : Nat → Int} (hI : Inv sc M) : ∀ k, k < 192 → mskF (M 86) ov k = mskF (M 9) ov k := by
  intro k hk
  unfold mskF
  rw [(hI.1 k hk).2.1]
theorem flC_fr {M M' : Mem} (h : FrC M M') : flC M' 7 = flC M 7 := by
  have r : ∀ a, (7 ≤ a ∧ a ≤ 16) ∨ a = 93 ∨ a = 94 → M' a = M a := fun a ha => h a (by unfold scrC; omega)
  unfold flC cdT stT
  rw [r 7 (by omega), r (7 + 1) (by omega), r (7 + 3) (by omega), r (7 + 4) (by omega), r (7 + 5) (by omega), r (7 + 6) (by omega), r (7 + 7) (by omega), r (7 + 8) (by omega), r (7 + 9) (by omega), r 93 (by omega), r 94 (by omega)]
theorem PQ_mk {n mx mm : Nat} {as as' : List AV} {sc : Nat → Int} {v : AV} {M M1 M2 : Mem} {S : Sh} (h1 : res mx as M S = some (some v, M1, S)) (h2 : res mm as' M1 S = some (some v, M2, S)) (hI : Inv sc M2) (hS : Std n S) : Pr (res mx as M S) (PQ mm as' n S.2.2.2.1 S.2.2.2.2 sc) := ⟨v, M1, S, h1, v, M2, S, h2, rfl, hI, hS, Nat.le_refl _, Nat.le_refl _⟩
theorem flyN {n : Nat} {sc : Nat → Int} {M : Mem} {S : Sh} (hS : Std n S) (hI : Inv sc M) : ∃ M', res 90 [aR 6] M S = some (none, M', S) ∧ AfC M (flC M 7) M' := by
  obtain ⟨o, t0, t6, d⟩ := fyC_of hI
  obtain ⟨M', h, a⟩ := flyNow_ hS hI.2.2.2.2.2.2.2.1 o t0 t6 d
  exact ⟨M', h, afC_AfC t0 t6 a⟩
theorem flyM {n : Nat} {sc : Nat → Int} {M : Mem} {S : Sh} (hS : Std n S) (hI : Inv sc M) : ∃ M', res 146 [aR 84] M S = some (some (aI ((cnt (mskF (M 9) (flC M 7).1.1) 1 192 : Nat) : Int)), M', S) ∧ AfM M (flC M 7) M' := by
  obtain ⟨o, d⟩ := fyM_of hI
  obtain ⟨M', h, a⟩ := flown_ hS o d
  rw [hI.2.2.2.2.2.2.2.1.2.1, fl_eq hI] at h a
  rw [cnt_ext (msk_eq hI)] at h
  exact ⟨M', h, a⟩
