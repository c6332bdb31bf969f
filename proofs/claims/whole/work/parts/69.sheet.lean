/-! sheets that change -/
theorem Inv_sh {sc : Nat → Int} {M M' : Mem} (hI : Inv sc M) (h : ∀ a, ¬ (76 ≤ a ∧ a ≤ 83) → a ≠ 98 → a ≠ 99 → a ≠ 100 → M' a = M a) (hs : iShe M') : Inv sc M' := by
  obtain ⟨hLand, hStr, hPla, hNow, hTap, hImg, hShe, hCst, hLaw⟩ := hI
  have r0 : M' 0 = M 0 := h 0 (by omega) (by omega) (by omega) (by omega)
  have r1 : M' 1 = M 1 := h 1 (by omega) (by omega) (by omega) (by omega)
  have r2 : M' 2 = M 2 := h 2 (by omega) (by omega) (by omega) (by omega)
  have r5 : M' 5 = M 5 := h 5 (by omega) (by omega) (by omega) (by omega)
  have r6 : M' 6 = M 6 := h 6 (by omega) (by omega) (by omega) (by omega)
  have r7 : M' 7 = M 7 := h 7 (by omega) (by omega) (by omega) (by omega)
  have r8 : M' 8 = M 8 := h 8 (by omega) (by omega) (by omega) (by omega)
  have r9 : M' 9 = M 9 := h 9 (by omega) (by omega) (by omega) (by omega)
  have r10 : M' 10 = M 10 := h 10 (by omega) (by omega) (by omega) (by omega)
  have r11 : M' 11 = M 11 := h 11 (by omega) (by omega) (by omega) (by omega)
  have r12 : M' 12 = M 12 := h 12 (by omega) (by omega) (by omega) (by omega)
  have r13 : M' 13 = M 13 := h 13 (by omega) (by omega) (by omega) (by omega)
  have r14 : M' 14 = M 14 := h 14 (by omega) (by omega) (by omega) (by omega)
  have r15 : M' 15 = M 15 := h 15 (by omega) (by omega) (by omega) (by omega)
  have r16 : M' 16 = M 16 := h 16 (by omega) (by omega) (by omega) (by omega)
  have r27 : M' 27 = M 27 := h 27 (by omega) (by omega) (by omega) (by omega)
  have r28 : M' 28 = M 28 := h 28 (by omega) (by omega) (by omega) (by omega)
  have r29 : M' 29 = M 29 := h 29 (by omega) (by omega) (by omega) (by omega)
  have r30 : M' 30 = M 30 := h 30 (by omega) (by omega) (by omega) (by omega)
  have r31 : M' 31 = M 31 := h 31 (by omega) (by omega) (by omega) (by omega)
  have r32 : M' 32 = M 32 := h 32 (by omega) (by omega) (by omega) (by omega)
  have r33 : M' 33 = M 33 := h 33 (by omega) (by omega) (by omega) (by omega)
  have r34 : M' 34 = M 34 := h 34 (by omega) (by omega) (by omega) (by omega)
  have r35 : M' 35 = M 35 := h 35 (by omega) (by omega) (by omega) (by omega)
  have r36 : M' 36 = M 36 := h 36 (by omega) (by omega) (by omega) (by omega)
  have r38 : M' 38 = M 38 := h 38 (by omega) (by omega) (by omega) (by omega)
  have r84 : M' 84 = M 84 := h 84 (by omega) (by omega) (by omega) (by omega)
  have r85 : M' 85 = M 85 := h 85 (by omega) (by omega) (by omega) (by omega)
  have r86 : M' 86 = M 86 := h 86 (by omega) (by omega) (by omega) (by omega)
  have r87 : M' 87 = M 87 := h 87 (by omega) (by omega) (by omega) (by omega)
  have r88 : M' 88 = M 88 := h 88 (by omega) (by omega) (by omega) (by omega)
  have r89 : M' 89 = M 89 := h 89 (by omega) (by omega) (by omega) (by omega)
  have r90 : M' 90 = M 90 := h 90 (by omega) (by omega) (by omega) (by omega)
  have r91 : M' 91 = M 91 := h 91 (by omega) (by omega) (by omega) (by omega)
  have r92 : M' 92 = M 92 := h 92 (by omega) (by omega) (by omega) (by omega)
  have r93 : M' 93 = M 93 := h 93 (by omega) (by omega) (by omega) (by omega)
  have r94 : M' 94 = M 94 := h 94 (by omega) (by omega) (by omega) (by omega)
  have r95 : M' 95 = M 95 := h 95 (by omega) (by omega) (by omega) (by omega)
  have r96 : M' 96 = M 96 := h 96 (by omega) (by omega) (by omega) (by omega)
  have r97 : M' 97 = M 97 := h 97 (by omega) (by omega) (by omega) (by omega)
  have r102 : M' 102 = M 102 := h 102 (by omega) (by omega) (by omega) (by omega)
  refine ⟨?_, ?_, ?_, ?_, ?_, ?_, hs, ?_, ?_⟩
  · unfold iLand at hLand ⊢
    simp only [r0, r1, r2, r5, r6, r7, r8, r9, r10, r11, r12, r13, r14, r15, r16, r27, r28, r29, r30, r31, r32, r33, r34, r35, r36, r38, r84, r85, r86, r87, r88, r89, r90, r91, r92, r93, r94, r95, r96, r97, r102]
    exact hLand
  · unfold iStr at hStr ⊢
    simp only [r0, r1, r2, r5, r6, r7, r8, r9, r10, r11, r12, r13, r14, r15, r16, r27, r28, r29, r30, r31, r32, r33, r34, r35, r36, r38, r84, r85, r86, r87, r88, r89, r90, r91, r92, r93, r94, r95, r96, r97, r102]
    exact hStr
  · unfold iPla at hPla ⊢
    simp only [r0, r1, r2, r5, r6, r7, r8, r9, r10, r11, r12, r13, r14, r15, r16, r27, r28, r29, r30, r31, r32, r33, r34, r35, r36, r38, r84, r85, r86, r87, r88, r89, r90, r91, r92, r93, r94, r95, r96, r97, r102]
    exact hPla
  · unfold iNow at hNow ⊢
    simp only [r0, r1, r2, r5, r6, r7, r8, r9, r10, r11, r12, r13, r14, r15, r16, r27, r28, r29, r30, r31, r32, r33, r34, r35, r36, r38, r84, r85, r86, r87, r88, r89, r90, r91, r92, r93, r94, r95, r96, r97, r102]
    exact hNow
  · unfold iTap at hTap ⊢
    simp only [r0, r1, r2, r5, r6, r7, r8, r9, r10, r11, r12, r13, r14, r15, r16, r27, r28, r29, r30, r31, r32, r33, r34, r35, r36, r38, r84, r85, r86, r87, r88, r89, r90, r91, r92, r93, r94, r95, r96, r97, r102]
    exact hTap
  · unfold iImg at hImg ⊢
    simp only [r0, r1, r2, r5, r6, r7, r8, r9, r10, r11, r12, r13, r14, r15, r16, r27, r28, r29, r30, r31, r32, r33, r34, r35, r36, r38, r84, r85, r86, r87, r88, r89, r90, r91, r92, r93, r94, r95, r96, r97, r102]
    exact hImg
  · unfold iCst at hCst ⊢
    simp only [r0, r1, r2, r5, r6, r7, r8, r9, r10, r11, r12, r13, r14, r15, r16, r27, r28, r29, r30, r31, r32, r33, r34, r35, r36, r38, r84, r85, r86, r87, r88, r89, r90, r91, r92, r93, r94, r95, r96, r97, r102]
    exact hCst
  · refine ⟨fun t ht => ?_, fun t t6 => (congrFun (show M' (wkOf t + 2) = M (wkOf t + 2) from by
      have wb : wkOf t ≤ 72 ∧ 46 ≤ wkOf t := by unfold wkOf; split <;> omega
      exact h _ (by omega) (by omega) (by omega) (by omega)) 0).trans (hLaw.2 t t6)⟩
    rw [r6] at ht
    have q := hLaw.1 t ht
    have t5 := hTap.2.2.1
    have wb : wkOf t ≤ 72 ∧ 46 ≤ wkOf t := by unfold wkOf; split <;> omega
    have w0 : M' (wkOf t) = M (wkOf t) := h _ (by omega) (by omega) (by omega) (by omega)
    have w1 : M' (wkOf t + 1) = M (wkOf t + 1) := h _ (by omega) (by omega) (by omega) (by omega)
    have w2 : M' (wkOf t + 2) = M (wkOf t + 2) := h _ (by omega) (by omega) (by omega) (by omega)
    unfold lawRel at q ⊢
    rw [r93, r94, w0, w1, w2]
    exact q
theorem she_set {M M' : Mem} {s : Nat} {so n : Int} (h : iShe M) (s0 : -1 ≤ so) (s1 : so ≤ 2) (n0 : 0 ≤ n) (n1 : n ≤ 40) (o : ∀ q, q < 4 → q ≠ s → M' (76 + 2 * q) = M (76 + 2 * q) ∧ M' (77 + 2 * q) = M (77 + 2 * q) ∧ M' 98 q = M 98 q ∧ M' 99 q = M 99 q ∧ ∀ k, k < 40 → M' 100 (40 * q + k) = M 100 (40 * q + k)) (e : M' 98 s = so ∧ M' (76 + 2 * s) 1 = so ∧ M' 99 s = n ∧ M' (76 + 2 * s) 2 = n) (c : ∀ k, k < 40 → M' 100 (40 * s + k) = M' (77 + 2 * s) k) : iShe M' := by
  intro q hq
  by_cases hqs : q = s
  · subst hqs
    obtain ⟨e1, e2, e3, e4⟩ := e
    rw [e1, e2, e3, e4]
    exact ⟨rfl, s0, s1, rfl, n0, n1, c⟩
  · obtain ⟨o1, o2, o3, o4, o5⟩ := o q hq hqs
    obtain ⟨g1, g2, g3, g4, g5, g6, g7⟩ := h q hq
    rw [o1, o2, o3, o4]
    exact ⟨g1, g2, g3, g4, g5, g6, fun k hk => (o5 k hk).trans (g7 k hk)⟩
def rseg (a i : Nat) (g f : Nat → Int) : Nat → Int := fun j => if a ≤ j ∧ j < a + i then g (j - a) else f j
theorem rseg_s {a i : Nat} {g f : Nat → Int} {v : Int} (h : v = g i) : fset (rseg a i g f) (a + i) v = rseg a (i + 1) g f := by
  funext j
  unfold fset rseg
  by_cases e : j = a + i
  · rw [if_pos e, if_pos (by omega), h, e, Nat.add_sub_cancel_left]
  · rw [if_neg e]
    by_cases e2 : a ≤ j ∧ j < a + i
    · rw [if_pos e2, if_pos (by omega)]
    · rw [if_neg e2, if_neg (by omega)]
theorem rseg_0 {a : Nat} {g f : Nat → Int} : rseg a 0 g f = f := by
  funext j
  unfold rseg
  rw [if_neg (by omega)]
theorem rseg_in {a i k : Nat} {g f : Nat → Int} (h : k < i) : rseg a i g f (a + k) = g k := by
  unfold rseg
  rw [if_pos (by omega), Nat.add_sub_cancel_left]
theorem rseg_out {a i j : Nat} {g f : Nat → Int} (h : j < a ∨ a + i ≤ j) : rseg a i g f j = f j := by
  unfold rseg
  rw [if_neg (by omega)]
/-- a class's sheet becomes -/
def shC (M : Mem) (s : Nat) (so n : Int) (f : Nat → Int) : Mem := mrow (mset (mset M (76 + 2 * s) 1 so) (76 + 2 * s) 2 n) (77 + 2 * s) f
theorem become_ {n s : Nat} {so nn : Int} {M : Mem} {S : Sh} (hS : Std n S) (hs : s < 4) : res 40 [aR (76 + 2 * s), aI so, aI nn] M S = some (none, shC M s so nn (rfill 40 0 (M (77 + 2 * s))), S) := by
  obtain ⟨k1, k2, l2, p⟩ := sheS_of hS hs
  unfold shC
  rw [g40]
  simp (disch := omega) only [g40_0, g40_1, g40_2, g40_5, g40_6, g40_7, g40_10, g40_11, g40_14, g40_15, g40_18, cont_1, cont_0, w32_k, p]
  rw [afill_ k2 (by omega) l2 (by omega)]
  simp (disch := omega) only [g40_0, g40_1, g40_2, g40_5, g40_6, g40_7, g40_10, g40_11, g40_14, g40_15, g40_18, cont_1, cont_0, w32_k, mset_ne]
def wrS (so v : Int) : Int := if so = 0 then w8 v else if so = 1 then w16 v else v
theorem write_ {n s : Nat} {i v : Int} {M : Mem} {S : Sh} (hS : Std n S) (hs : s < 4) (i0 : 0 ≤ i) (i1 : i < 40) : res 41 [aR (76 + 2 * s), aI i, aI v] M S = some (none, mset M (77 + 2 * s) i.toNat (wrS (M (76 + 2 * s) 1) v), S) := by
  obtain ⟨k1, k2, l2, p⟩ := sheS_of hS hs
  unfold wrS
  rw [g41]
  by_cases h0 : M (76 + 2 * s) 1 = 0
  · rw [if_pos h0]
    simp (disch := omega) only [g41_0, g41_1, g41_4, g41_5, g41_6, g41_9t, g41_9f, g41_12, g41_13, g41_14, g41_17, g41_18, g41_21, g41_22t, g41_22f, g41_25, g41_26, g41_27, g41_30, g41_31, g41_34, cont_1, cont_0, w32_k, p, put_in]
  · rw [if_neg h0]
    by_cases h1 : M (76 + 2 * s) 1 = 1
    · rw [if_pos h1]
      simp (disch := omega) only [g41_0, g41_1, g41_4, g41_5, g41_6, g41_9t, g41_9f, g41_12, g41_13, g41_14, g41_17, g41_18, g41_21, g41_22t, g41_22f, g41_25, g41_26, g41_27, g41_30, g41_31, g41_34, cont_1, cont_0, w32_k, p, put_in]
    · rw [if_neg h1]
      simp (disch := omega) only [g41_0, g41_1, g41_4, g41_5, g41_6, g41_9t, g41_9f, g41_12, g41_13, g41_14, g41_17, g41_18, g41_21, g41_22t, g41_22f, g41_25, g41_26, g41_27, g41_30, g41_31, g41_34, cont_1, cont_0, w32_k, p, put_in]
theorem sheet_loop {n r s : Nat} {so nn : Int} {M : Mem} {S : Sh} (hS : Std n S) (hs : s < 4) : ∀ (rem k : Nat), k + rem = 40 → go r 173 70 [some (aR 84), some (aI (s : Int)), some (aI so), some (aI nn), some (aI (k : Int))] [] (mrow M 100 (rseg (40 * s) k (fun _ => 0) (M 100))) S = some (some (aI 1), mrow M 100 (rseg (40 * s) 40 (fun _ => 0) (M 100)), S) := by
  have k84 := K84 hS
  have k100 := K100 hS
  have l100 := L100 hS
  intro rem
  induction rem with
  | zero =>
    intro k hk
    have e : k = 40 := by omega
    subst e
    rw [g173_70]
    simp (disch := omega) only [g173_0, g173_1, g173_2, g173_3, g173_6t, g173_6f, g173_9, g173_10, g173_11, g173_12, g173_15t, g173_15f, g173_18, g173_19, g173_20t, g173_20f, g173_23, g173_24, g173_26t, g173_26f, g173_29, g173_31, g173_32, g173_33, g173_34t, g173_34f, g173_37, g173_38t, g173_38f, g173_41, g173_43, g173_44, g173_45, g173_48, g173_49, g173_50, g173_51, g173_52, g173_55, g173_56, g173_57, g173_58t, g173_58f, g173_61, g173_62, g173_65, g173_66, g173_67, g173_68, g173_72, g173_74t, g173_74f, g173_77, g173_78, g173_81, g173_83, g173_84, g173_85, g173_87, g173_88, g173_89, g173_90, g173_93, g173_96, g173_97, cont_1, cont_0, w32_k]
  | succ rem ih =>
    intro k hk
    have z := ih (k + 1) (by omega)
    rw [nc_1] at z
    have e1 : (40 * (s : Int) + (k : Int)).toNat = 40 * s + k := by omega
    rw [g173_70, ← z]
    simp (disch := omega) only [g173_0, g173_1, g173_2, g173_3, g173_6t, g173_6f, g173_9, g173_10, g173_11, g173_12, g173_15t, g173_15f, g173_18, g173_19, g173_20t, g173_20f, g173_23, g173_24, g173_26t, g173_26f, g173_29, g173_31, g173_32, g173_33, g173_34t, g173_34f, g173_37, g173_38t, g173_38f, g173_41, g173_43, g173_44, g173_45, g173_48, g173_49, g173_50, g173_51, g173_52, g173_55, g173_56, g173_57, g173_58t, g173_58f, g173_61, g173_62, g173_65, g173_66, g173_67, g173_68, g173_72, g173_74t, g173_74f, g173_77, g173_78, g173_81, g173_83, g173_84, g173_85, g173_87, g173_88, g173_89, g173_90, g173_93, g173_96, g173_97, cont_1, cont_0, w32_k, w32_o, P84_24 hS, mset_mrow, e1]
    rw [rseg_s rfl]
theorem p_sheet {x1 x2 x3 : Int} {n : Nat} {sc : Nat → Int} {M : Mem} {S : Sh} (hS : Std n S) (hI : Inv sc M) : Pr (res 79 [aR 6, aI x1, aI x2, aI x3] M S) (PQ 173 [aR 84, aI x1, aI x2, aI x3] n S.2.2.2.1 S.2.2.2.2 sc) := by
  have k6 := K6 hS
  have k84 := K84 hS
  have k98 := K98 hS
  have k99 := K99 hS
  have l98 := L98 hS
  have l99 := L99 hS
  by_cases h1 : x1 < 0 ∨ 3 < x1
  · refine PQ_mk (v := aI (-2)) (M1 := M) (M2 := M) ?_ ?_ hI hS
    · rw [g79]
      simp (disch := omega) only [g79_0, g79_1, g79_2, g79_5, g79_5n, g79_7, g79_7n, g79_9, g79_9n, g79_12, g79_13, g79_14t, g79_14f, g79_17, g79_18, g79_19t, g79_19f, g79_22, g79_23, g79_24t, g79_24f, g79_27, g79_28, g79_30t, g79_30f, g79_33, g79_35, g79_36, g79_37, g79_38t, g79_38f, g79_41, g79_42t, g79_42f, g79_45, g79_47, g79_48, g79_48n, g79_50, g79_51, g79_52, g79_53t, g79_53f, g79_56, g79_57, g79_60, g79_61, g79_64, g79_65, cont_1, cont_0, w32_k, sheetAt_n hS h1]
    · rw [g173]
      simp (disch := omega) only [g173_0, g173_1, g173_2, g173_3, g173_6t, g173_6f, g173_9, g173_10, g173_11, g173_12, g173_15t, g173_15f, g173_18, g173_19, g173_20t, g173_20f, g173_23, g173_24, g173_26t, g173_26f, g173_29, g173_31, g173_32, g173_33, g173_34t, g173_34f, g173_37, g173_38t, g173_38f, g173_41, g173_43, g173_44, g173_45, g173_48, g173_49, g173_50, g173_51, g173_52, g173_55, g173_56, g173_57, g173_58t, g173_58f, g173_61, g173_62, g173_65, g173_66, g173_67, g173_68, g173_72, g173_74t, g173_74f, g173_77, g173_78, g173_81, g173_83, g173_84, g173_85, g173_87, g173_88, g173_89, g173_90, g173_93, g173_96, g173_97, cont_1, cont_0, w32_k, in_f]
  · obtain ⟨s, rfl⟩ : ∃ q : Nat, x1 = (q : Int) := ⟨x1.toNat, by omega⟩
    have hs : s < 4 := by omega
    obtain ⟨sk, sk7, sl, sp⟩ := sheS_of hS hs
    have fs := fun M => sheetAt_ (M := M) hS hs
    by_cases c0 : x2 < -1
    · refine PQ_mk (v := aI (-2)) (M1 := M) (M2 := M) ?_ ?_ hI hS
      · rw [g79]
        simp (disch := omega) only [g79_0, g79_1, g79_2, g79_5, g79_5n, g79_7, g79_7n, g79_9, g79_9n, g79_12, g79_13, g79_14t, g79_14f, g79_17, g79_18, g79_19t, g79_19f, g79_22, g79_23, g79_24t, g79_24f, g79_27, g79_28, g79_30t, g79_30f, g79_33, g79_35, g79_36, g79_37, g79_38t, g79_38f, g79_41, g79_42t, g79_42f, g79_45, g79_47, g79_48, g79_48n, g79_50, g79_51, g79_52, g79_53t, g79_53f, g79_56, g79_57, g79_60, g79_61, g79_64, g79_65, cont_1, cont_0, w32_k, fs]
      · rw [g173]
        simp (disch := omega) only [g173_0, g173_1, g173_2, g173_3, g173_6t, g173_6f, g173_9, g173_10, g173_11, g173_12, g173_15t, g173_15f, g173_18, g173_19, g173_20t, g173_20f, g173_23, g173_24, g173_26t, g173_26f, g173_29, g173_31, g173_32, g173_33, g173_34t, g173_34f, g173_37, g173_38t, g173_38f, g173_41, g173_43, g173_44, g173_45, g173_48, g173_49, g173_50, g173_51, g173_52, g173_55, g173_56, g173_57, g173_58t, g173_58f, g173_61, g173_62, g173_65, g173_66, g173_67, g173_68, g173_72, g173_74t, g173_74f, g173_77, g173_78, g173_81, g173_83, g173_84, g173_85, g173_87, g173_88, g173_89, g173_90, g173_93, g173_96, g173_97, cont_1, cont_0, w32_k, in_t, in_f]
    by_cases c1 : 2 < x2
    · refine PQ_mk (v := aI (-2)) (M1 := M) (M2 := M) ?_ ?_ hI hS
      · rw [g79]
        simp (disch := omega) only [g79_0, g79_1, g79_2, g79_5, g79_5n, g79_7, g79_7n, g79_9, g79_9n, g79_12, g79_13, g79_14t, g79_14f, g79_17, g79_18, g79_19t, g79_19f, g79_22, g79_23, g79_24t, g79_24f, g79_27, g79_28, g79_30t, g79_30f, g79_33, g79_35, g79_36, g79_37, g79_38t, g79_38f, g79_41, g79_42t, g79_42f, g79_45, g79_47, g79_48, g79_48n, g79_50, g79_51, g79_52, g79_53t, g79_53f, g79_56, g79_57, g79_60, g79_61, g79_64, g79_65, cont_1, cont_0, w32_k, fs]
      · rw [g173]
        simp (disch := omega) only [g173_0, g173_1, g173_2, g173_3, g173_6t, g173_6f, g173_9, g173_10, g173_11, g173_12, g173_15t, g173_15f, g173_18, g173_19, g173_20t, g173_20f, g173_23, g173_24, g173_26t, g173_26f, g173_29, g173_31, g173_32, g173_33, g173_34t, g173_34f, g173_37, g173_38t, g173_38f, g173_41, g173_43, g173_44, g173_45, g173_48, g173_49, g173_50, g173_51, g173_52, g173_55, g173_56, g173_57, g173_58t, g173_58f, g173_61, g173_62, g173_65, g173_66, g173_67, g173_68, g173_72, g173_74t, g173_74f, g173_77, g173_78, g173_81, g173_83, g173_84, g173_85, g173_87, g173_88, g173_89, g173_90, g173_93, g173_96, g173_97, cont_1, cont_0, w32_k, in_t, in_f]
    by_cases c2 : x2 ≠ -1 ∧ 40 < x3
    · refine PQ_mk (v := aI (-2)) (M1 := M) (M2 := M) ?_ ?_ hI hS
      · rw [g79]
        simp (disch := omega) only [g79_0, g79_1, g79_2, g79_5, g79_5n, g79_7, g79_7n, g79_9, g79_9n, g79_12, g79_13, g79_14t, g79_14f, g79_17, g79_18, g79_19t, g79_19f, g79_22, g79_23, g79_24t, g79_24f, g79_27, g79_28, g79_30t, g79_30f, g79_33, g79_35, g79_36, g79_37, g79_38t, g79_38f, g79_41, g79_42t, g79_42f, g79_45, g79_47, g79_48, g79_48n, g79_50, g79_51, g79_52, g79_53t, g79_53f, g79_56, g79_57, g79_60, g79_61, g79_64, g79_65, cont_1, cont_0, w32_k, fs]
      · rw [g173]
        simp (disch := omega) only [g173_0, g173_1, g173_2, g173_3, g173_6t, g173_6f, g173_9, g173_10, g173_11, g173_12, g173_15t, g173_15f, g173_18, g173_19, g173_20t, g173_20f, g173_23, g173_24, g173_26t, g173_26f, g173_29, g173_31, g173_32, g173_33, g173_34t, g173_34f, g173_37, g173_38t, g173_38f, g173_41, g173_43, g173_44, g173_45, g173_48, g173_49, g173_50, g173_51, g173_52, g173_55, g173_56, g173_57, g173_58t, g173_58f, g173_61, g173_62, g173_65, g173_66, g173_67, g173_68, g173_72, g173_74t, g173_74f, g173_77, g173_78, g173_81, g173_83, g173_84, g173_85, g173_87, g173_88, g173_89, g173_90, g173_93, g173_96, g173_97, cont_1, cont_0, w32_k, in_t, in_f]
    by_cases c3 : x2 ≠ -1 ∧ x3 < 0
    · refine PQ_mk (v := aI (-14)) (M1 := M) (M2 := M) ?_ ?_ hI hS
      · rw [g79]
        simp (disch := omega) only [g79_0, g79_1, g79_2, g79_5, g79_5n, g79_7, g79_7n, g79_9, g79_9n, g79_12, g79_13, g79_14t, g79_14f, g79_17, g79_18, g79_19t, g79_19f, g79_22, g79_23, g79_24t, g79_24f, g79_27, g79_28, g79_30t, g79_30f, g79_33, g79_35, g79_36, g79_37, g79_38t, g79_38f, g79_41, g79_42t, g79_42f, g79_45, g79_47, g79_48, g79_48n, g79_50, g79_51, g79_52, g79_53t, g79_53f, g79_56, g79_57, g79_60, g79_61, g79_64, g79_65, cont_1, cont_0, w32_k, fs]
      · rw [g173]
        simp (disch := omega) only [g173_0, g173_1, g173_2, g173_3, g173_6t, g173_6f, g173_9, g173_10, g173_11, g173_12, g173_15t, g173_15f, g173_18, g173_19, g173_20t, g173_20f, g173_23, g173_24, g173_26t, g173_26f, g173_29, g173_31, g173_32, g173_33, g173_34t, g173_34f, g173_37, g173_38t, g173_38f, g173_41, g173_43, g173_44, g173_45, g173_48, g173_49, g173_50, g173_51, g173_52, g173_55, g173_56, g173_57, g173_58t, g173_58f, g173_61, g173_62, g173_65, g173_66, g173_67, g173_68, g173_72, g173_74t, g173_74f, g173_77, g173_78, g173_81, g173_83, g173_84, g173_85, g173_87, g173_88, g173_89, g173_90, g173_93, g173_96, g173_97, cont_1, cont_0, w32_k, in_t, in_f]
    obtain ⟨so, nn, hso, hnn⟩ : ∃ so nn : Int, so = x2 ∧ nn = if x2 = -1 then 0 else x3 := ⟨_, _, rfl, rfl⟩
    have b1 : 0 ≤ nn ∧ nn ≤ 40 := by
      rw [hnn]
      split <;> omega
    have z1 : res 79 [aR 6, aI (s : Int), aI x2, aI x3] M S = some (some (aI 1), shC M s so nn (rfill 40 0 (M (77 + 2 * s))), S) := by
      rw [hso, hnn, g79]
      by_cases h2 : x2 = -1
      · rw [if_pos h2]
        simp (disch := omega) only [g79_0, g79_1, g79_2, g79_5, g79_5n, g79_7, g79_7n, g79_9, g79_9n, g79_12, g79_13, g79_14t, g79_14f, g79_17, g79_18, g79_19t, g79_19f, g79_22, g79_23, g79_24t, g79_24f, g79_27, g79_28, g79_30t, g79_30f, g79_33, g79_35, g79_36, g79_37, g79_38t, g79_38f, g79_41, g79_42t, g79_42f, g79_45, g79_47, g79_48, g79_48n, g79_50, g79_51, g79_52, g79_53t, g79_53f, g79_56, g79_57, g79_60, g79_61, g79_64, g79_65, cont_1, cont_0, w32_k, fs, become_ hS hs]
      · rw [if_neg h2]
        simp (disch := omega) only [g79_0, g79_1, g79_2, g79_5, g79_5n, g79_7, g79_7n, g79_9, g79_9n, g79_12, g79_13, g79_14t, g79_14f, g79_17, g79_18, g79_19t, g79_19f, g79_22, g79_23, g79_24t, g79_24f, g79_27, g79_28, g79_30t, g79_30f, g79_33, g79_35, g79_36, g79_37, g79_38t, g79_38f, g79_41, g79_42t, g79_42f, g79_45, g79_47, g79_48, g79_48n, g79_50, g79_51, g79_52, g79_53t, g79_53f, g79_56, g79_57, g79_60, g79_61, g79_64, g79_65, cont_1, cont_0, w32_k, fs, become_ hS hs]
    obtain ⟨M1, hM1⟩ : ∃ M1, M1 = shC M s so nn (rfill 40 0 (M (77 + 2 * s))) := ⟨_, rfl⟩
    rw [← hM1] at z1
    have z2 : res 173 [aR 84, aI (s : Int), aI x2, aI x3] M1 S = some (some (aI 1), mrow (mset (mset M1 98 s so) 99 s nn) 100 (rseg (40 * s) 40 (fun _ => 0) (M1 100)), S) := by
      have z := sheet_loop (r := 11) (so := x2) (nn := x3) (M := mset (mset M1 98 s so) 99 s nn) hS hs 40 0 (by omega)
      rw [rseg_0, mrow_self, mset_ne _ _ _ (by omega), mset_ne _ _ _ (by omega)] at z
      rw [← z, hso, hnn, g173]
      by_cases h2 : x2 = -1
      · rw [if_pos h2]
        simp (disch := omega) only [g173_0, g173_1, g173_2, g173_3, g173_6t, g173_6f, g173_9, g173_10, g173_11, g173_12, g173_15t, g173_15f, g173_18, g173_19, g173_20t, g173_20f, g173_23, g173_24, g173_26t, g173_26f, g173_29, g173_31, g173_32, g173_33, g173_34t, g173_34f, g173_37, g173_38t, g173_38f, g173_41, g173_43, g173_44, g173_45, g173_48, g173_49, g173_50, g173_51, g173_52, g173_55, g173_56, g173_57, g173_58t, g173_58f, g173_61, g173_62, g173_65, g173_66, g173_67, g173_68, g173_72, g173_74t, g173_74f, g173_77, g173_78, g173_81, g173_83, g173_84, g173_85, g173_87, g173_88, g173_89, g173_90, g173_93, g173_96, g173_97, cont_1, cont_0, w32_k, in_t, P84_22 hS, P84_23 hS, Int.toNat_natCast]
        rfl
      · rw [if_neg h2]
        simp (disch := omega) only [g173_0, g173_1, g173_2, g173_3, g173_6t, g173_6f, g173_9, g173_10, g173_11, g173_12, g173_15t, g173_15f, g173_18, g173_19, g173_20t, g173_20f, g173_23, g173_24, g173_26t, g173_26f, g173_29, g173_31, g173_32, g173_33, g173_34t, g173_34f, g173_37, g173_38t, g173_38f, g173_41, g173_43, g173_44, g173_45, g173_48, g173_49, g173_50, g173_51, g173_52, g173_55, g173_56, g173_57, g173_58t, g173_58f, g173_61, g173_62, g173_65, g173_66, g173_67, g173_68, g173_72, g173_74t, g173_74f, g173_77, g173_78, g173_81, g173_83, g173_84, g173_85, g173_87, g173_88, g173_89, g173_90, g173_93, g173_96, g173_97, cont_1, cont_0, w32_k, in_t, P84_22 hS, P84_23 hS, Int.toNat_natCast]
        rfl
    refine PQ_mk z1 z2 (Inv_sh hI (fun a e1 e2 e3 e4 => ?_) (she_set (s := s) (so := so) (n := nn) hI.2.2.2.2.2.2.1 (by omega) (by omega) b1.1 b1.2 (fun q hq hqs => ?_) ?_ (fun k hk => ?_))) hS
    · rw [hM1]
      unfold shC
      simp (disch := omega) only [mset_ne, mrow_ne]
    · rw [hM1]
      unfold shC
      refine ⟨?_, ?_, ?_, ?_, fun k hk => ?_⟩
      · simp (disch := omega) only [mset_ne, mrow_ne]
      · simp (disch := omega) only [mset_ne, mrow_ne]
      · simp (disch := omega) only [mset_ne, mset_nk, mrow_ne]
      · simp (disch := omega) only [mset_ne, mset_nk, mrow_ne]
      · rw [mrow_eq, rseg_out (by omega)]
        simp (disch := omega) only [mset_ne, mrow_ne]
    · rw [hM1]
      unfold shC
      simp (disch := omega) only [mset_eq, mset_ne, mset_nk, mrow_ne, and_self]
    · rw [mrow_eq, rseg_in hk, hM1]
      unfold shC
      simp (disch := omega) only [mset_ne, mrow_ne, mrow_eq]
      exact (if_pos hk).symm
theorem p_cell {x1 x2 x3 : Int} {n : Nat} {sc : Nat → Int} {M : Mem} {S : Sh} (hS : Std n S) (hI : Inv sc M) : Pr (res 80 [aR 6, aI x1, aI x2, aI x3] M S) (PQ 174 [aR 84, aI x1, aI x2, aI x3] n S.2.2.2.1 S.2.2.2.2 sc) := by
  have k6 := K6 hS
  have k84 := K84 hS
  have k98 := K98 hS
  have k99 := K99 hS
  have k100 := K100 hS
  have l98 := L98 hS
  have l99 := L99 hS
  have l100 := L100 hS
  by_cases h1 : x1 < 0 ∨ 3 < x1
  · refine PQ_mk (v := aI (-2)) (M1 := M) (M2 := M) ?_ ?_ hI hS
    · rw [g80]
      simp (disch := omega) only [g80_0, g80_1, g80_2, g80_5, g80_5n, g80_7, g80_7n, g80_9, g80_9n, g80_12, g80_14, g80_15, g80_15n, g80_17, g80_20, g80_21t, g80_21f, g80_24, g80_26, g80_27, g80_28t, g80_28f, g80_31, g80_32, g80_32n, g80_34, g80_37t, g80_37f, g80_40, g80_42, g80_43, g80_43n, g80_45, g80_46, g80_47, g80_50, g80_51, cont_1, cont_0, w32_k, sheetAt_n hS h1]
    · rw [g174]
      rcases h1 with h1 | h1
      all_goals simp (disch := omega) only [g174_0, g174_1, g174_2, g174_3, g174_6t, g174_6f, g174_9, g174_11, g174_12, g174_13, g174_16, g174_17, g174_18, g174_19t, g174_19f, g174_22, g174_24, g174_25, g174_26, g174_27, g174_28, g174_31, g174_32, g174_33, g174_34, g174_35, g174_38t, g174_38f, g174_41, g174_43, g174_44, g174_45, g174_48, g174_50, g174_51, g174_52, g174_53, g174_54, g174_55, g174_58, g174_59, g174_60t, g174_60f, g174_63, g174_64, g174_65, g174_68, g174_69, g174_72, g174_73, g174_74, g174_75t, g174_75f, g174_78, g174_79, g174_80, g174_83, g174_84, g174_85, g174_86, cont_1, cont_0, w32_k, in_f]
  · obtain ⟨s, rfl⟩ : ∃ q : Nat, x1 = (q : Int) := ⟨x1.toNat, by omega⟩
    have hs : s < 4 := by omega
    have fs := fun M => sheetAt_ (M := M) hS hs
    obtain ⟨sk, sk7, sl, sp⟩ := sheS_of hS hs
    obtain ⟨g1, g2, g3, g4, g5, g6, g7⟩ := hI.2.2.2.2.2.2.1 s hs
    by_cases c0 : M 98 s = -1
    · refine PQ_mk (v := aI (-11)) (M1 := M) (M2 := M) ?_ ?_ hI hS
      · rw [g80]
        simp (disch := omega) only [g80_0, g80_1, g80_2, g80_5, g80_5n, g80_7, g80_7n, g80_9, g80_9n, g80_12, g80_14, g80_15, g80_15n, g80_17, g80_20, g80_21t, g80_21f, g80_24, g80_26, g80_27, g80_28t, g80_28f, g80_31, g80_32, g80_32n, g80_34, g80_37t, g80_37f, g80_40, g80_42, g80_43, g80_43n, g80_45, g80_46, g80_47, g80_50, g80_51, cont_1, cont_0, w32_k, fs]
      · rw [g174]
        simp (disch := omega) only [g174_0, g174_1, g174_2, g174_3, g174_6t, g174_6f, g174_9, g174_11, g174_12, g174_13, g174_16, g174_17, g174_18, g174_19t, g174_19f, g174_22, g174_24, g174_25, g174_26, g174_27, g174_28, g174_31, g174_32, g174_33, g174_34, g174_35, g174_38t, g174_38f, g174_41, g174_43, g174_44, g174_45, g174_48, g174_50, g174_51, g174_52, g174_53, g174_54, g174_55, g174_58, g174_59, g174_60t, g174_60f, g174_63, g174_64, g174_65, g174_68, g174_69, g174_72, g174_73, g174_74, g174_75t, g174_75f, g174_78, g174_79, g174_80, g174_83, g174_84, g174_85, g174_86, cont_1, cont_0, w32_k, in_t, P84_22 hS, Int.toNat_natCast]
    · by_cases c1 : x2 < 0 ∨ M 99 s ≤ x2
      · refine PQ_mk (v := aI (-12)) (M1 := M) (M2 := M) ?_ ?_ hI hS
        · rw [g80]
          rcases (by omega : x2 < 0 ∨ (0 ≤ x2 ∧ M 99 s ≤ x2)) with c2 | c2
          all_goals simp (disch := omega) only [g80_0, g80_1, g80_2, g80_5, g80_5n, g80_7, g80_7n, g80_9, g80_9n, g80_12, g80_14, g80_15, g80_15n, g80_17, g80_20, g80_21t, g80_21f, g80_24, g80_26, g80_27, g80_28t, g80_28f, g80_31, g80_32, g80_32n, g80_34, g80_37t, g80_37f, g80_40, g80_42, g80_43, g80_43n, g80_45, g80_46, g80_47, g80_50, g80_51, cont_1, cont_0, w32_k, fs]
        · rw [g174]
          simp (disch := omega) only [g174_0, g174_1, g174_2, g174_3, g174_6t, g174_6f, g174_9, g174_11, g174_12, g174_13, g174_16, g174_17, g174_18, g174_19t, g174_19f, g174_22, g174_24, g174_25, g174_26, g174_27, g174_28, g174_31, g174_32, g174_33, g174_34, g174_35, g174_38t, g174_38f, g174_41, g174_43, g174_44, g174_45, g174_48, g174_50, g174_51, g174_52, g174_53, g174_54, g174_55, g174_58, g174_59, g174_60t, g174_60f, g174_63, g174_64, g174_65, g174_68, g174_69, g174_72, g174_73, g174_74, g174_75t, g174_75f, g174_78, g174_79, g174_80, g174_83, g174_84, g174_85, g174_86, cont_1, cont_0, w32_k, w32_o, in_t, in_f, P84_22 hS, P84_23 hS, Int.toNat_natCast]
      · have z1 : res 80 [aR 6, aI (s : Int), aI x2, aI x3] M S = some (some (aI 1), mset M (77 + 2 * s) x2.toNat (wrS (M 98 s) x3), S) := by
          rw [g1, g80]
          simp (disch := omega) only [g80_0, g80_1, g80_2, g80_5, g80_5n, g80_7, g80_7n, g80_9, g80_9n, g80_12, g80_14, g80_15, g80_15n, g80_17, g80_20, g80_21t, g80_21f, g80_24, g80_26, g80_27, g80_28t, g80_28f, g80_31, g80_32, g80_32n, g80_34, g80_37t, g80_37f, g80_40, g80_42, g80_43, g80_43n, g80_45, g80_46, g80_47, g80_50, g80_51, cont_1, cont_0, w32_k, fs, write_ hS hs]
        obtain ⟨M1, hM1⟩ : ∃ M1, M1 = mset M (77 + 2 * s) x2.toNat (wrS (M 98 s) x3) := ⟨_, rfl⟩
        rw [← hM1] at z1
        have r98 : M1 98 = M 98 := by rw [hM1, mset_ne _ _ _ (by omega)]
        have r99 : M1 99 = M 99 := by rw [hM1, mset_ne _ _ _ (by omega)]
        have i1 : (40 * (s : Int) + x2).toNat = 40 * s + x2.toNat := by omega
        have z2 : res 174 [aR 84, aI (s : Int), aI x2, aI x3] M1 S = some (some (aI 1), mset M1 100 (40 * s + x2.toNat) (wrS (M 98 s) x3), S) := by
          unfold wrS
          rw [g174]
          by_cases d0 : M 98 s = 0
          · rw [if_pos d0]
            simp (disch := omega) only [g174_0, g174_1, g174_2, g174_3, g174_6t, g174_6f, g174_9, g174_11, g174_12, g174_13, g174_16, g174_17, g174_18, g174_19t, g174_19f, g174_22, g174_24, g174_25, g174_26, g174_27, g174_28, g174_31, g174_32, g174_33, g174_34, g174_35, g174_38t, g174_38f, g174_41, g174_43, g174_44, g174_45, g174_48, g174_50, g174_51, g174_52, g174_53, g174_54, g174_55, g174_58, g174_59, g174_60t, g174_60f, g174_63, g174_64, g174_65, g174_68, g174_69, g174_72, g174_73, g174_74, g174_75t, g174_75f, g174_78, g174_79, g174_80, g174_83, g174_84, g174_85, g174_86, cont_1, cont_0, w32_k, w32_o, in_t, P84_22 hS, P84_23 hS, P84_24 hS, Int.toNat_natCast, r98, r99, i1]
          · rw [if_neg d0]
            by_cases d1 : M 98 s = 1
            · rw [if_pos d1]
              simp (disch := omega) only [g174_0, g174_1, g174_2, g174_3, g174_6t, g174_6f, g174_9, g174_11, g174_12, g174_13, g174_16, g174_17, g174_18, g174_19t, g174_19f, g174_22, g174_24, g174_25, g174_26, g174_27, g174_28, g174_31, g174_32, g174_33, g174_34, g174_35, g174_38t, g174_38f, g174_41, g174_43, g174_44, g174_45, g174_48, g174_50, g174_51, g174_52, g174_53, g174_54, g174_55, g174_58, g174_59, g174_60t, g174_60f, g174_63, g174_64, g174_65, g174_68, g174_69, g174_72, g174_73, g174_74, g174_75t, g174_75f, g174_78, g174_79, g174_80, g174_83, g174_84, g174_85, g174_86, cont_1, cont_0, w32_k, w32_o, in_t, P84_22 hS, P84_23 hS, P84_24 hS, Int.toNat_natCast, r98, r99, i1]
            · rw [if_neg d1]
              simp (disch := omega) only [g174_0, g174_1, g174_2, g174_3, g174_6t, g174_6f, g174_9, g174_11, g174_12, g174_13, g174_16, g174_17, g174_18, g174_19t, g174_19f, g174_22, g174_24, g174_25, g174_26, g174_27, g174_28, g174_31, g174_32, g174_33, g174_34, g174_35, g174_38t, g174_38f, g174_41, g174_43, g174_44, g174_45, g174_48, g174_50, g174_51, g174_52, g174_53, g174_54, g174_55, g174_58, g174_59, g174_60t, g174_60f, g174_63, g174_64, g174_65, g174_68, g174_69, g174_72, g174_73, g174_74, g174_75t, g174_75f, g174_78, g174_79, g174_80, g174_83, g174_84, g174_85, g174_86, cont_1, cont_0, w32_k, w32_o, in_t, P84_22 hS, P84_23 hS, P84_24 hS, Int.toNat_natCast, r98, r99, i1]
        refine PQ_mk z1 z2 (Inv_sh hI (fun a e1 e2 e3 e4 => ?_) (she_set (s := s) (so := M 98 s) (n := M 99 s) hI.2.2.2.2.2.2.1 g2 g3 g5 g6 (fun q hq hqs => ?_) ?_ (fun k hk => ?_))) hS
        · rw [hM1]
          simp (disch := omega) only [mset_ne]
        · rw [hM1]
          refine ⟨?_, ?_, ?_, ?_, fun k hk => ?_⟩
          all_goals simp (disch := omega) only [mset_ne, mset_nk]
        · rw [hM1]
          refine ⟨?_, ?_, ?_, ?_⟩
          · simp (disch := omega) only [mset_ne]
          · simp (disch := omega) only [mset_ne]
            exact g1.symm
          · simp (disch := omega) only [mset_ne]
          · simp (disch := omega) only [mset_ne]
            exact g4.symm
        · rw [hM1]
          by_cases hkx : k = x2.toNat
          · subst hkx
            simp (disch := omega) only [mset_ne, mset_eq]
          · simp (disch := omega) only [mset_ne, mset_nk]
            exact g7 k hk
