/-! again -/
theorem addT_ {n ns : Nat} {w l : Int} {M : Mem} {S : Sh} (hS : Std n S) (h4 : M 17 4 = (ns : Int)) (h1 : ns < 12) : res 35 [aR 17, aI w, aI l] M S = some (none, mset (mset (mset M 20 ns w) 21 ns l) 17 4 ((ns : Int) + 1), S) := by
  have k17 := K17 hS
  have k20 := K20 hS
  have k21 := K21 hS
  have l20 := L20 hS
  have l21 := L21 hS
  rw [g35]
  simp (disch := omega) only [g35_0, g35_1, g35_4, g35_6t, g35_6f, g35_9, g35_10, g35_13, g35_14, g35_17, g35_18, g35_21, g35_22, g35_25, g35_26, g35_29, g35_30, g35_33, g35_34, g35_35, g35_38, g35_39, g35_40, g35_43, cont_1, cont_0, w32_k, w32_o, put_in, P17_2 hS, P17_3 hS, h4, mset_eq, mset_ne, mset_nk, Int.toNat_natCast]
/-- the model's strips at will -/
theorem md_S {sc : Nat → Int} {M Y : Mem} {ns : Nat} {ws ls : Nat → Int} (hI : Inv sc M) (r : ∀ a, 85 ≤ a → a ≤ 94 → a ≠ 90 → a ≠ 91 → Y a = M a) (h84 : ∀ j, j = 2 ∨ j = 3 ∨ j = 4 ∨ j = 17 → Y 84 j = M 84 j) (h43 : Y 84 43 = -1) (h9 : Y 84 9 = (ns : Int)) (hs : ∀ k, k < ns → Y 90 k = ws k ∧ Y 91 k = ls k) : flMd Y (Y 84 43) = flT M ns ws ls := by
  obtain ⟨hLand, hStr, hPla, hNow, _⟩ := hI
  obtain ⟨n1, n2, n3, n4, n5, n6, n7, n8, n9, n10, n11, n12⟩ := hNow
  unfold flMd flT flS cdT stT
  rw [h43, flMR_none]
  unfold flR
  rw [h84 2 (by omega), h84 3 (by omega), h84 4 (by omega), h84 17 (by omega), h9, n7]
  by_cases hw : M 7 13 = -1
  · rw [if_pos hw, if_pos hw]
  · rw [if_neg hw, if_neg hw]
    obtain ⟨v0, v1, v2, v3, v4, _⟩ := hPla.2.2.2 (M 7 13).toNat (by omega)
    rw [r 85 (by omega) (by omega) (by omega) (by omega), r 87 (by omega) (by omega) (by omega) (by omega), r 88 (by omega) (by omega) (by omega) (by omega), r 89 (by omega) (by omega) (by omega) (by omega), r 93 (by omega) (by omega) (by omega) (by omega), r 94 (by omega) (by omega) (by omega) (by omega), v0, v1, v2, v3, v4, n1, n4, n10, Int.toNat_natCast]
    have e1 : tr 192 (M 85) = tr 192 (M 8) := tr_ext (fun k hk => (hLand k hk).1)
    have e2 : tr ns (Y 90) = tr ns ws := tr_ext (fun k hk => (hs k hk).1)
    have e3 : tr ns (Y 91) = tr ns ls := tr_ext (fun k hk => (hs k hk).2)
    rw [e1, e2, e3]
theorem fyM_S {sc : Nat → Int} {M Y : Mem} {ns : Nat} {ws ls : Nat → Int} (hI : Inv sc M) (r : ∀ a, 85 ≤ a → a ≤ 94 → a ≠ 90 → a ≠ 91 → Y a = M a) (h84 : ∀ j, j = 2 ∨ j = 3 ∨ j = 4 ∨ j = 17 → Y 84 j = M 84 j) (h9 : Y 84 9 = (ns : Int)) (n12 : ns ≤ 12) (hs : ∀ k, k < ns → Y 90 k = ws k ∧ Y 91 k = ls k) (hv : ∀ k, k < ns → 0 ≤ ws k ∧ ws k ≤ 3 ∧ 0 ≤ ls k ∧ ls k < 16 ∧ (ws k < 2 → ls k < 12)) : FyM Y := by
  obtain ⟨⟨_, oc, o3, o4, o5⟩, _⟩ := fyM_of hI
  have hNow := hI.2.2.2.1
  have e4 := h84 4 (by omega)
  have e17 := h84 17 (by omega)
  refine fyM_mk hI (r 93 (by omega) (by omega) (by omega) (by omega)) (r 94 (by omega) (by omega) (by omega) (by omega)) ⟨by omega, by omega, fun k hk => ?_⟩ (by
    rw [r 86 (by omega) (by omega) (by omega) (by omega)]
    exact oc) (by rw [e4]; exact o3) (by rw [e4]; exact o4) (by
    rw [e4, r 87 (by omega) (by omega) (by omega) (by omega), r 88 (by omega) (by omega) (by omega) (by omega), r 89 (by omega) (by omega) (by omega) (by omega)]
    exact o5) (by rw [e17, hNow.2.2.2.2.2.2.2.2.2.1]; exact hNow.2.2.2.2.2.2.2.2.2.2.1) (by rw [e17, hNow.2.2.2.2.2.2.2.2.2.1]; exact hNow.2.2.2.2.2.2.2.2.2.2.2)
  rw [(hs k (by omega)).1, (hs k (by omega)).2]
  exact hv k (by omega)
/-- the model's rows but for strips behind the last -/
def FrA (M Y : Mem) : Prop := (∀ a, a ≠ 84 → a ≠ 90 → a ≠ 91 → (a < 103 ∨ 109 < a) → Y a = M a) ∧ (∀ k : Nat, (k : Int) < M 84 9 → Y 90 k = M 90 k ∧ Y 91 k = M 91 k) ∧ (∀ k, (k < 26 ∨ k = 43) → Y 84 k = M 84 k)
theorem Inv_frA {sc : Nat → Int} {M M' : Mem} (hI : Inv sc M) (h : FrA M M') : Inv sc M' := by
  have k2 : M' 84 2 = M 84 2 := h.2.2 2 (by omega)
  have k3 : M' 84 3 = M 84 3 := h.2.2 3 (by omega)
  have k4 : M' 84 4 = M 84 4 := h.2.2 4 (by omega)
  have k5 : M' 84 5 = M 84 5 := h.2.2 5 (by omega)
  have k9 : M' 84 9 = M 84 9 := h.2.2 9 (by omega)
  have k13 : M' 84 13 = M 84 13 := h.2.2 13 (by omega)
  have k16 : M' 84 16 = M 84 16 := h.2.2 16 (by omega)
  have k17 : M' 84 17 = M 84 17 := h.2.2 17 (by omega)
  have k18 : M' 84 18 = M 84 18 := h.2.2 18 (by omega)
  have k43 : M' 84 43 = M 84 43 := h.2.2 43 (by omega)
  obtain ⟨hLand, hStr, hPla, hNow, hTap, hImg, hShe, hCst, hLaw⟩ := hI
  have r0 : M' 0 = M 0 := h.1 0 (by omega) (by omega) (by omega) (by omega)
  have r1 : M' 1 = M 1 := h.1 1 (by omega) (by omega) (by omega) (by omega)
  have r2 : M' 2 = M 2 := h.1 2 (by omega) (by omega) (by omega) (by omega)
  have r5 : M' 5 = M 5 := h.1 5 (by omega) (by omega) (by omega) (by omega)
  have r6 : M' 6 = M 6 := h.1 6 (by omega) (by omega) (by omega) (by omega)
  have r7 : M' 7 = M 7 := h.1 7 (by omega) (by omega) (by omega) (by omega)
  have r8 : M' 8 = M 8 := h.1 8 (by omega) (by omega) (by omega) (by omega)
  have r9 : M' 9 = M 9 := h.1 9 (by omega) (by omega) (by omega) (by omega)
  have r10 : M' 10 = M 10 := h.1 10 (by omega) (by omega) (by omega) (by omega)
  have r11 : M' 11 = M 11 := h.1 11 (by omega) (by omega) (by omega) (by omega)
  have r12 : M' 12 = M 12 := h.1 12 (by omega) (by omega) (by omega) (by omega)
  have r13 : M' 13 = M 13 := h.1 13 (by omega) (by omega) (by omega) (by omega)
  have r14 : M' 14 = M 14 := h.1 14 (by omega) (by omega) (by omega) (by omega)
  have r15 : M' 15 = M 15 := h.1 15 (by omega) (by omega) (by omega) (by omega)
  have r16 : M' 16 = M 16 := h.1 16 (by omega) (by omega) (by omega) (by omega)
  have r27 : M' 27 = M 27 := h.1 27 (by omega) (by omega) (by omega) (by omega)
  have r28 : M' 28 = M 28 := h.1 28 (by omega) (by omega) (by omega) (by omega)
  have r29 : M' 29 = M 29 := h.1 29 (by omega) (by omega) (by omega) (by omega)
  have r30 : M' 30 = M 30 := h.1 30 (by omega) (by omega) (by omega) (by omega)
  have r31 : M' 31 = M 31 := h.1 31 (by omega) (by omega) (by omega) (by omega)
  have r32 : M' 32 = M 32 := h.1 32 (by omega) (by omega) (by omega) (by omega)
  have r33 : M' 33 = M 33 := h.1 33 (by omega) (by omega) (by omega) (by omega)
  have r34 : M' 34 = M 34 := h.1 34 (by omega) (by omega) (by omega) (by omega)
  have r35 : M' 35 = M 35 := h.1 35 (by omega) (by omega) (by omega) (by omega)
  have r36 : M' 36 = M 36 := h.1 36 (by omega) (by omega) (by omega) (by omega)
  have r38 : M' 38 = M 38 := h.1 38 (by omega) (by omega) (by omega) (by omega)
  have r85 : M' 85 = M 85 := h.1 85 (by omega) (by omega) (by omega) (by omega)
  have r86 : M' 86 = M 86 := h.1 86 (by omega) (by omega) (by omega) (by omega)
  have r87 : M' 87 = M 87 := h.1 87 (by omega) (by omega) (by omega) (by omega)
  have r88 : M' 88 = M 88 := h.1 88 (by omega) (by omega) (by omega) (by omega)
  have r89 : M' 89 = M 89 := h.1 89 (by omega) (by omega) (by omega) (by omega)
  have r92 : M' 92 = M 92 := h.1 92 (by omega) (by omega) (by omega) (by omega)
  have r93 : M' 93 = M 93 := h.1 93 (by omega) (by omega) (by omega) (by omega)
  have r94 : M' 94 = M 94 := h.1 94 (by omega) (by omega) (by omega) (by omega)
  have r95 : M' 95 = M 95 := h.1 95 (by omega) (by omega) (by omega) (by omega)
  have r96 : M' 96 = M 96 := h.1 96 (by omega) (by omega) (by omega) (by omega)
  have r97 : M' 97 = M 97 := h.1 97 (by omega) (by omega) (by omega) (by omega)
  have r98 : M' 98 = M 98 := h.1 98 (by omega) (by omega) (by omega) (by omega)
  have r99 : M' 99 = M 99 := h.1 99 (by omega) (by omega) (by omega) (by omega)
  have r100 : M' 100 = M 100 := h.1 100 (by omega) (by omega) (by omega) (by omega)
  have r101 : M' 101 = M 101 := h.1 101 (by omega) (by omega) (by omega) (by omega)
  have r102 : M' 102 = M 102 := h.1 102 (by omega) (by omega) (by omega) (by omega)
  refine ⟨?_, ?_, ?_, ?_, ?_, ?_, ?_, ?_, ?_⟩
  · unfold iLand at hLand ⊢
    simp only [r0, r1, r2, r5, r6, r7, r8, r9, r10, r11, r12, r13, r14, r15, r16, r27, r28, r29, r30, r31, r32, r33, r34, r35, r36, r38, r85, r86, r87, r88, r89, r92, r93, r94, r95, r96, r97, r98, r99, r100, r101, r102, k2, k3, k4, k5, k9, k13, k16, k17, k18, k43]
    exact hLand
  · unfold iStr at hStr ⊢
    rw [k9, r7, r10, r11]
    refine ⟨hStr.1, hStr.2.1, hStr.2.2.1, fun k hk => ?_⟩
    obtain ⟨e1, e2⟩ := h.2.1 k (by rw [hStr.1]; exact hk)
    rw [e1, e2]
    exact hStr.2.2.2 k hk
  · unfold iPla at hPla ⊢
    simp only [r0, r1, r2, r5, r6, r7, r8, r9, r10, r11, r12, r13, r14, r15, r16, r27, r28, r29, r30, r31, r32, r33, r34, r35, r36, r38, r85, r86, r87, r88, r89, r92, r93, r94, r95, r96, r97, r98, r99, r100, r101, r102, k2, k3, k4, k5, k9, k13, k16, k17, k18, k43]
    exact hPla
  · unfold iNow at hNow ⊢
    simp only [r0, r1, r2, r5, r6, r7, r8, r9, r10, r11, r12, r13, r14, r15, r16, r27, r28, r29, r30, r31, r32, r33, r34, r35, r36, r38, r85, r86, r87, r88, r89, r92, r93, r94, r95, r96, r97, r98, r99, r100, r101, r102, k2, k3, k4, k5, k9, k13, k16, k17, k18, k43]
    exact hNow
  · unfold iTap at hTap ⊢
    simp only [r0, r1, r2, r5, r6, r7, r8, r9, r10, r11, r12, r13, r14, r15, r16, r27, r28, r29, r30, r31, r32, r33, r34, r35, r36, r38, r85, r86, r87, r88, r89, r92, r93, r94, r95, r96, r97, r98, r99, r100, r101, r102, k2, k3, k4, k5, k9, k13, k16, k17, k18, k43]
    exact hTap
  · unfold iImg at hImg ⊢
    simp only [r0, r1, r2, r5, r6, r7, r8, r9, r10, r11, r12, r13, r14, r15, r16, r27, r28, r29, r30, r31, r32, r33, r34, r35, r36, r38, r85, r86, r87, r88, r89, r92, r93, r94, r95, r96, r97, r98, r99, r100, r101, r102, k2, k3, k4, k5, k9, k13, k16, k17, k18, k43]
    exact hImg
  · intro s hs
    have q := hShe s hs
    rw [show M' (76 + 2 * s) = M (76 + 2 * s) from h.1 _ (by omega) (by omega) (by omega) (by omega), show M' (77 + 2 * s) = M (77 + 2 * s) from h.1 _ (by omega) (by omega) (by omega) (by omega), r98, r99, r100]
    exact q
  · unfold iCst at hCst ⊢
    simp only [r0, r1, r2, r5, r6, r7, r8, r9, r10, r11, r12, r13, r14, r15, r16, r27, r28, r29, r30, r31, r32, r33, r34, r35, r36, r38, r85, r86, r87, r88, r89, r92, r93, r94, r95, r96, r97, r98, r99, r100, r101, r102, k2, k3, k4, k5, k9, k13, k16, k17, k18, k43]
    exact hCst
  · refine ⟨fun t ht => ?_, fun t t6 => (congrFun (show M' (wkOf t + 2) = M (wkOf t + 2) from by
      have wb : wkOf t ≤ 72 ∧ 46 ≤ wkOf t := by unfold wkOf; split <;> omega
      exact h.1 _ (by omega) (by omega) (by omega) (by omega)) 0).trans (hLaw.2 t t6)⟩
    rw [r6] at ht
    have q := hLaw.1 t ht
    have t5 := hTap.2.2.1
    have wb : wkOf t ≤ 72 ∧ 46 ≤ wkOf t := by unfold wkOf; split <;> omega
    have w0 : M' (wkOf t) = M (wkOf t) := h.1 _ (by omega) (by omega) (by omega) (by omega)
    have w1 : M' (wkOf t + 1) = M (wkOf t + 1) := h.1 _ (by omega) (by omega) (by omega) (by omega)
    have w2 : M' (wkOf t + 2) = M (wkOf t + 2) := h.1 _ (by omega) (by omega) (by omega) (by omega)
    unfold lawRel at q ⊢
    rw [r93, r94, w0, w1, w2]
    exact q
/-- over ways and lines -/
def agP (c : Nat → Int) : Nat → Nat → Int → Int → Int × Int
  | 0, _, b, m => (b, m)
  | rem + 1, k, b, m => if (1 < k / 16 ∨ k % 16 < 12) ∧ m < c k then agP c rem (k + 1) (100 * ((k / 16 : Nat) : Int) + ((k % 16 : Nat) : Int)) (c k) else agP c rem (k + 1) b m
theorem ag_t {c : Nat → Int} {rem k : Nat} {b m : Int} (h : (1 < k / 16 ∨ k % 16 < 12) ∧ m < c k) : agP c (rem + 1) k b m = agP c rem (k + 1) (100 * ((k / 16 : Nat) : Int) + ((k % 16 : Nat) : Int)) (c k) := if_pos h
theorem ag_f {c : Nat → Int} {rem k : Nat} {b m : Int} (h : ¬ ((1 < k / 16 ∨ k % 16 < 12) ∧ m < c k)) : agP c (rem + 1) k b m = agP c rem (k + 1) b m := if_neg h
theorem ag_add {c : Nat → Int} : ∀ (p q k : Nat) (b m : Int), agP c (p + q) k b m = agP c q (k + p) (agP c p k b m).1 (agP c p k b m).2 := by
  intro p
  induction p with
  | zero => intro q k b m; rw [Nat.zero_add]; rfl
  | succ p ih =>
    intro q k b m
    rw [show p + 1 + q = p + q + 1 by omega, show k + (p + 1) = k + 1 + p by omega]
    by_cases h : (1 < k / 16 ∨ k % 16 < 12) ∧ m < c k
    · rw [ag_t h, ag_t h, ih]
    · rw [ag_f h, ag_f h, ih]
/-- four that are none -/
theorem ag_4 {c : Nat → Int} {k : Nat} {b m : Int} (h : k / 16 ≤ 1) (h2 : k % 16 = 12) : agP c 4 k b m = (b, m) := by
  rw [ag_f (by omega), ag_f (by omega), ag_f (by omega), ag_f (by omega)]
  rfl
theorem ag_d {w l : Nat} (h : l < 16) : (16 * w + l) / 16 = w := by omega
theorem ag_m {w l : Nat} (h : l < 16) : (16 * w + l) % 16 = l := by omega
/-- a flight of one strip more -/
def flA (M : Mem) (k : Nat) : FS × Int := flT M ((M 7 4).toNat + 1) (fset (M 10) (M 7 4).toNat ((k / 16 : Nat) : Int)) (fset (M 11) (M 7 4).toNat ((k % 16 : Nat) : Int))
theorem flA_fr {M M' : Mem} (h : FrC M M') : flA M' = flA M := by
  have e := flT_fr h
  obtain ⟨r7, r8, r9, r10, r11, _⟩ := now_fr h
  funext k
  unfold flA
  rw [e, r7, r10, r11]
theorem ag_one {n way line ns : Nat} {sc : Nat → Int} {M X : Mem} {S : Sh} (hS : Std n S) (hI : Inv sc M) (hw : way < 4) (hl16 : line < 16) (hgd : 1 < way ∨ line < 12) (hns : M 7 4 = (ns : Int)) (n12 : ns < 12) (hX : FrC M X) : ∃ X1 X2 X3, res 34 [aR 17, aR 7] X S = some (none, X1, S) ∧ res 35 [aR 17, aI (way : Int), aI (line : Int)] X1 S = some (none, X2, S) ∧ res 91 [aR 6, aR 17] X2 S = some (some (aI (cvN M (flA M (16 * way + line)))), X3, S) ∧ FrC M X3 := by
  obtain ⟨X1, f1, t1⟩ := take_17_7 hS (M := X)
  obtain ⟨hX1, h17⟩ := Thk_of2 hX t1
  have e4 : X1 17 4 = (ns : Int) := (h17 4 (by omega)).trans hns
  have f2 := addT_ (w := (way : Int)) (l := (line : Int)) hS e4 n12
  have hS1 := ThkS_of hX1 h17
  obtain ⟨X2, hX2⟩ : ∃ X2, X2 = mset (mset (mset X1 20 ns (way : Int)) 21 ns (line : Int)) 17 4 ((ns : Int) + 1) := ⟨_, rfl⟩
  rw [← hX2] at f2
  have hS2 : ThkS M X2 := ThkS_x hS1 (fun a h1 h2 h3 => by
    rw [hX2, mset_ne _ _ _ h1, mset_ne _ _ _ h3, mset_ne _ _ _ h2]) (fun j h1 h2 => by
    rw [hX2]
    simp (disch := omega) only [mset_ne, mset_nk])
  have e5 : X2 17 4 = ((ns + 1 : Nat) : Int) := by
    rw [hX2, mset_eq]
    rfl
  have r20 : X2 20 = fset (X1 20) ns (way : Int) := by
    rw [hX2]
    simp (disch := omega) only [mset_ne, mset_row, mrow_eq, mrow_ne]
  have r21 : X2 21 = fset (X1 21) ns (line : Int) := by
    rw [hX2]
    simp (disch := omega) only [mset_ne, mset_row, mrow_eq, mrow_ne]
  clear hX2
  have hs : ∀ j, j < ns + 1 → X2 20 j = fset (M 10) ns (way : Int) j ∧ X2 21 j = fset (M 11) ns (line : Int) j := fun j hj => by
    rw [r20, r21]
    by_cases hjn : j = ns
    · rw [hjn, fset_eq, fset_eq, fset_eq, fset_eq]
      exact ⟨rfl, rfl⟩
    · rw [fset_ne _ _ hjn, fset_ne _ _ hjn, fset_ne _ _ hjn, fset_ne _ _ hjn]
      exact hX1.2.2.2.1 j (by omega)
  have hv : ∀ j, j < ns + 1 → 0 ≤ fset (M 10) ns (way : Int) j ∧ fset (M 10) ns (way : Int) j ≤ 3 ∧ 0 ≤ fset (M 11) ns (line : Int) j ∧ fset (M 11) ns (line : Int) j < 16 ∧ (fset (M 10) ns (way : Int) j < 2 → fset (M 11) ns (line : Int) j < 12) := fun j hj => by
    by_cases hjn : j = ns
    · rw [hjn, fset_eq, fset_eq]
      omega
    · rw [fset_ne _ _ hjn, fset_ne _ _ hjn]
      exact (hI.2.1.2.2.2 j (by omega)).2.2
  have hF := fyC_S hI hS2 e5 (by omega) hs hv
  obtain ⟨X3, f3, a3⟩ := cov_th hS hI hS2.1 hS2.2.2.1 hF
  have eL : flT M (ns + 1) (fset (M 10) ns (way : Int)) (fset (M 11) ns (line : Int)) = flA M (16 * way + line) := by
    unfold flA
    rw [hns, Int.toNat_natCast, ag_d hl16, ag_m hl16]
  rw [th_S hI hS2 e5 hs, eL] at f3
  exact ⟨X1, X2, X3, f1, f2, f3, FrC_t hS2.1 (FrT_C a3.1)⟩
theorem again_in {n r way L : Nat} {x1 : Int} {c : Nat → Int} {M : Mem} {S : Sh} (hr : 15 < r) (hS : Std n S) (one : ∀ (way line : Nat) (X : Mem), way < 4 → line < 16 → (1 < way ∨ line < 12) → FrC M X → ∃ X1 X2 X3, res 34 [aR 17, aR 7] X S = some (none, X1, S) ∧ res 35 [aR 17, aI (way : Int), aI (line : Int)] X1 S = some (none, X2, S) ∧ res 91 [aR 6, aR 17] X2 S = some (some (aI (c (16 * way + line))), X3, S) ∧ FrC M X3) (hL : (way < 2 ∧ L = 12) ∨ (2 ≤ way ∧ L = 16)) (hw : way < 4) : ∀ (rem line : Nat) (X : Mem) (b m : Int) (l6 : Option AV), line + rem = L → FrC M X → ∃ X' l6', go r 63 45 [some (aR 6), some (aI x1), some (aI b), some (aI m), some (aI (way : Int)), some (aI (line : Int)), l6] [] X S = go r 63 36 [some (aR 6), some (aI x1), some (aI (agP c rem (16 * way + line) b m).1), some (aI (agP c rem (16 * way + line) b m).2), some (aI ((way + 1 : Nat) : Int)), some (aI (L : Int)), l6'] [] X' S ∧ FrC M X' := by
  have k6 := K6 hS
  have k7 := K7 hS
  have k17 := K17 hS
  have k40 := K40 hS
  have hll : ∀ X, res 99 [aI (way : Int)] X S = some (some (aI (L : Int)), X, S) := fun X => by
    rcases hL with ⟨h1, h2⟩ | ⟨h1, h2⟩
    · rw [linesOf_lt (by omega), h2]
      rfl
    · rw [linesOf_ge (by omega), h2]
      rfl
  intro rem
  induction rem with
  | zero =>
    intro line X b m l6 hk hX
    have e : line = L := by omega
    subst e
    refine ⟨X, l6, ?_, hX⟩
    rw [g63_45, agP]
    simp (disch := omega) only [g63_0, g63_1, g63_4t, g63_4f, g63_7, g63_9, g63_10, g63_11, g63_12, g63_13, g63_14, g63_17, g63_20, g63_21, g63_22, g63_25, g63_28, g63_30t, g63_30f, g63_33, g63_34, g63_38, g63_39t, g63_39f, g63_42, g63_43, g63_47, g63_49, g63_52t, g63_52f, g63_55, g63_56, g63_59, g63_60, g63_63, g63_66, g63_67, g63_70, g63_72, g63_74, g63_77, g63_78, g63_79, g63_82, g63_85, g63_87, g63_89, g63_90t, g63_90f, g63_93, g63_95, g63_96, g63_98, g63_100, g63_101, g63_103, g63_104, g63_105, g63_108, g63_111, g63_114, g63_117, g63_118t, g63_118f, g63_121, g63_122, g63_125, g63_126, cont_1, cont_0, w32_k, hll, nc_1]
  | succ rem ih =>
    intro line X b m l6 hk hX
    have hl16 : line < 16 := by omega
    have hgd : 1 < way ∨ line < 12 := by omega
    obtain ⟨X1, X2, X3, f1, f2, f3, hX3⟩ := one way line X hw hl16 hgd hX
    rw [g63_45]
    by_cases hm : m < c (16 * way + line)
    · obtain ⟨X4, l6', z, fr⟩ := ih (line + 1) X3 (100 * (way : Int) + (line : Int)) (c (16 * way + line)) (some (aI (c (16 * way + line)))) (by omega) hX3
      refine ⟨X4, l6', ?_, fr⟩
      rw [ag_t ⟨by rw [ag_d hl16, ag_m hl16]; exact hgd, hm⟩, ag_d hl16, ag_m hl16]
      rw [show 16 * way + line + 1 = 16 * way + (line + 1) by omega, ← z, nc_1]
      simp (disch := omega) only [g63_0, g63_1, g63_4t, g63_4f, g63_7, g63_9, g63_10, g63_11, g63_12, g63_13, g63_14, g63_17, g63_20, g63_21, g63_22, g63_25, g63_28, g63_30t, g63_30f, g63_33, g63_34, g63_38, g63_39t, g63_39f, g63_42, g63_43, g63_47, g63_49, g63_52t, g63_52f, g63_55, g63_56, g63_59, g63_60, g63_63, g63_66, g63_67, g63_70, g63_72, g63_74, g63_77, g63_78, g63_79, g63_82, g63_85, g63_87, g63_89, g63_90t, g63_90f, g63_93, g63_95, g63_96, g63_98, g63_100, g63_101, g63_103, g63_104, g63_105, g63_108, g63_111, g63_114, g63_117, g63_118t, g63_118f, g63_121, g63_122, g63_125, g63_126, cont_1, cont_0, w32_k, P6_0 hS, P6_1 hS, hll, f1, f2, f3, w32_o]
    · obtain ⟨X4, l6', z, fr⟩ := ih (line + 1) X3 b m (some (aI (c (16 * way + line)))) (by omega) hX3
      refine ⟨X4, l6', ?_, fr⟩
      rw [ag_f (fun z => hm z.2)]
      rw [show 16 * way + line + 1 = 16 * way + (line + 1) by omega, ← z, nc_1]
      simp (disch := omega) only [g63_0, g63_1, g63_4t, g63_4f, g63_7, g63_9, g63_10, g63_11, g63_12, g63_13, g63_14, g63_17, g63_20, g63_21, g63_22, g63_25, g63_28, g63_30t, g63_30f, g63_33, g63_34, g63_38, g63_39t, g63_39f, g63_42, g63_43, g63_47, g63_49, g63_52t, g63_52f, g63_55, g63_56, g63_59, g63_60, g63_63, g63_66, g63_67, g63_70, g63_72, g63_74, g63_77, g63_78, g63_79, g63_82, g63_85, g63_87, g63_89, g63_90t, g63_90f, g63_93, g63_95, g63_96, g63_98, g63_100, g63_101, g63_103, g63_104, g63_105, g63_108, g63_111, g63_114, g63_117, g63_118t, g63_118f, g63_121, g63_122, g63_125, g63_126, cont_1, cont_0, w32_k, P6_0 hS, P6_1 hS, hll, f1, f2, f3, w32_o]
theorem again_out {n r : Nat} {x1 : Int} {c : Nat → Int} {M : Mem} {S : Sh} (hr : 15 < r) (hS : Std n S) (one : ∀ (way line : Nat) (X : Mem), way < 4 → line < 16 → (1 < way ∨ line < 12) → FrC M X → ∃ X1 X2 X3, res 34 [aR 17, aR 7] X S = some (none, X1, S) ∧ res 35 [aR 17, aI (way : Int), aI (line : Int)] X1 S = some (none, X2, S) ∧ res 91 [aR 6, aR 17] X2 S = some (some (aI (c (16 * way + line))), X3, S) ∧ FrC M X3) (hx : x1 = 0 ∨ x1 = 1) : ∀ (rem way : Nat) (X : Mem) (b m : Int) (l5 l6 : Option AV), way + rem = 4 → FrC M X → ∃ X', go r 63 36 [some (aR 6), some (aI x1), some (aI b), some (aI m), some (aI (way : Int)), l5, l6] [] X S = some (some (aI (pick x1 (agP c (16 * rem) (16 * way) b m))), X', S) ∧ FrC M X' := by
  intro rem
  induction rem with
  | zero =>
    intro way X b m l5 l6 hk hX
    have e : way = 4 := by omega
    subst e
    rw [g63_36]
    rcases hx with rfl | rfl
    all_goals simp (disch := omega) only [g63_0, g63_1, g63_4t, g63_4f, g63_7, g63_9, g63_10, g63_11, g63_12, g63_13, g63_14, g63_17, g63_20, g63_21, g63_22, g63_25, g63_28, g63_30t, g63_30f, g63_33, g63_34, g63_38, g63_39t, g63_39f, g63_42, g63_43, g63_47, g63_49, g63_52t, g63_52f, g63_55, g63_56, g63_59, g63_60, g63_63, g63_66, g63_67, g63_70, g63_72, g63_74, g63_77, g63_78, g63_79, g63_82, g63_85, g63_87, g63_89, g63_90t, g63_90f, g63_93, g63_95, g63_96, g63_98, g63_100, g63_101, g63_103, g63_104, g63_105, g63_108, g63_111, g63_114, g63_117, g63_118t, g63_118f, g63_121, g63_122, g63_125, g63_126, cont_1, cont_0, w32_k]
    all_goals exact ⟨X, rfl, hX⟩
  | succ rem ih =>
    intro way X b m l5 l6 hk hX
    rw [show 16 * (rem + 1) = 16 + 16 * rem by omega, ag_add]
    rcases (by omega : way < 2 ∨ 2 ≤ way) with hw2 | hw2
    · obtain ⟨X1, l6', z1, fr1⟩ := again_in (L := 12) (x1 := x1) (n := n) hr hS one (Or.inl ⟨hw2, rfl⟩) (by omega) 12 0 X b m l6 (by omega) hX
      have e16 : agP c 16 (16 * way) b m = agP c 12 (16 * way) b m := by
        have q := ag_add (c := c) 12 4 (16 * way) b m
        rw [ag_4 (by omega) (by omega)] at q
        exact q
      rw [e16]
      rw [Nat.add_zero] at z1
      generalize agP c 12 (16 * way) b m = q at z1 ⊢
      obtain ⟨X2, z2, fr2⟩ := ih (way + 1) X1 q.1 q.2 (some (aI ((12 : Nat) : Int))) l6' (by omega) fr1
      refine ⟨X2, ?_, fr2⟩
      rw [show 16 * way + 16 = 16 * (way + 1) by omega, ← z2, ← z1, g63_36]
      simp (disch := omega) only [g63_0, g63_1, g63_4t, g63_4f, g63_7, g63_9, g63_10, g63_11, g63_12, g63_13, g63_14, g63_17, g63_20, g63_21, g63_22, g63_25, g63_28, g63_30t, g63_30f, g63_33, g63_34, g63_38, g63_39t, g63_39f, g63_42, g63_43, g63_47, g63_49, g63_52t, g63_52f, g63_55, g63_56, g63_59, g63_60, g63_63, g63_66, g63_67, g63_70, g63_72, g63_74, g63_77, g63_78, g63_79, g63_82, g63_85, g63_87, g63_89, g63_90t, g63_90f, g63_93, g63_95, g63_96, g63_98, g63_100, g63_101, g63_103, g63_104, g63_105, g63_108, g63_111, g63_114, g63_117, g63_118t, g63_118f, g63_121, g63_122, g63_125, g63_126, cont_1, cont_0, w32_k]
      rfl
    · obtain ⟨X1, l6', z1, fr1⟩ := again_in (L := 16) (x1 := x1) (n := n) hr hS one (Or.inr ⟨hw2, rfl⟩) (by omega) 16 0 X b m l6 (by omega) hX
      rw [Nat.add_zero] at z1
      generalize agP c 16 (16 * way) b m = q at z1 ⊢
      obtain ⟨X2, z2, fr2⟩ := ih (way + 1) X1 q.1 q.2 (some (aI ((16 : Nat) : Int))) l6' (by omega) fr1
      refine ⟨X2, ?_, fr2⟩
      rw [show 16 * way + 16 = 16 * (way + 1) by omega, ← z2, ← z1, g63_36]
      simp (disch := omega) only [g63_0, g63_1, g63_4t, g63_4f, g63_7, g63_9, g63_10, g63_11, g63_12, g63_13, g63_14, g63_17, g63_20, g63_21, g63_22, g63_25, g63_28, g63_30t, g63_30f, g63_33, g63_34, g63_38, g63_39t, g63_39f, g63_42, g63_43, g63_47, g63_49, g63_52t, g63_52f, g63_55, g63_56, g63_59, g63_60, g63_63, g63_66, g63_67, g63_70, g63_72, g63_74, g63_77, g63_78, g63_79, g63_82, g63_85, g63_87, g63_89, g63_90t, g63_90f, g63_93, g63_95, g63_96, g63_98, g63_100, g63_101, g63_103, g63_104, g63_105, g63_108, g63_111, g63_114, g63_117, g63_118t, g63_118f, g63_121, g63_122, g63_125, g63_126, cont_1, cont_0, w32_k]
      rfl
theorem td16 (c : Nat) : Int.tdiv (c : Int) 16 = ((c / 16 : Nat) : Int) := by
  rw [Int.tdiv_eq_ediv_of_nonneg (by omega)]
  omega
theorem tm16 (c : Nat) : Int.tmod (c : Int) 16 = ((c % 16 : Nat) : Int) := by
  rw [Int.tmod_eq_emod_of_nonneg (by omega)]
  omega
theorem ag_mone {n w l ns : Nat} {sc : Nat → Int} {M Y : Mem} {S : Sh} (hS : Std n S) (hI : Inv sc M) (hw : w < 4) (hl16 : l < 16) (hgd : 1 < w ∨ l < 12) (hns : M 7 4 = (ns : Int)) (n12 : ns < 12) (hY : FrA M Y) : ∃ Y2, res 146 [aR 84] (mset (mset (mset Y 90 ns (w : Int)) 91 ns (l : Int)) 84 9 ((ns : Int) + 1)) S = some (some (aI (cvN M (flA M (16 * w + l)))), Y2, S) ∧ Y2 84 9 = (ns : Int) + 1 ∧ FrA M (mset Y2 84 9 (ns : Int)) := by
  have q1 := hI.2.1.1
  have m43 := hI.2.2.2.2.2.2.2.1.2.1
  obtain ⟨Y1, hY1⟩ : ∃ Y1, Y1 = mset (mset (mset Y 90 ns (w : Int)) 91 ns (l : Int)) 84 9 ((ns : Int) + 1) := ⟨_, rfl⟩
  rw [← hY1]
  have R : ∀ a, a ≠ 84 → a ≠ 90 → a ≠ 91 → Y1 a = Y a := fun a h1 h2 h3 => by
    rw [hY1, mset_ne _ _ _ h1, mset_ne _ _ _ h3, mset_ne _ _ _ h2]
  have h84 : ∀ j, j ≠ 9 → Y1 84 j = Y 84 j := fun j hj => by
    rw [hY1]
    simp (disch := omega) only [mset_ne, mset_nk]
  have h9 : Y1 84 9 = (ns : Int) + 1 := by
    rw [hY1, mset_eq]
  have r90 : Y1 90 = fset (Y 90) ns (w : Int) := by
    rw [hY1]
    simp (disch := omega) only [mset_ne, mset_row, mrow_eq, mrow_ne]
  have r91 : Y1 91 = fset (Y 91) ns (l : Int) := by
    rw [hY1]
    simp (disch := omega) only [mset_ne, mset_row, mrow_eq, mrow_ne]
  clear hY1
  have r : ∀ a, 85 ≤ a → a ≤ 94 → a ≠ 90 → a ≠ 91 → Y1 a = M a := fun a h1 h2 h3 h4 => by
    rw [R a (by omega) h3 h4]
    exact hY.1 a (by omega) h3 h4 (by omega)
  have h84b : ∀ j, j = 2 ∨ j = 3 ∨ j = 4 ∨ j = 17 → Y1 84 j = M 84 j := fun j hj => by
    rw [h84 j (by omega)]
    exact hY.2.2 j (by omega)
  have h43 : Y1 84 43 = -1 := by
    rw [h84 43 (by omega), hY.2.2 43 (by omega)]
    exact m43
  have hs : ∀ j, j < ns + 1 → Y1 90 j = fset (M 10) ns (w : Int) j ∧ Y1 91 j = fset (M 11) ns (l : Int) j := fun j hj => by
    rw [r90, r91]
    by_cases hjn : j = ns
    · rw [hjn, fset_eq, fset_eq, fset_eq, fset_eq]
      exact ⟨rfl, rfl⟩
    · rw [fset_ne _ _ hjn, fset_ne _ _ hjn, fset_ne _ _ hjn, fset_ne _ _ hjn]
      obtain ⟨u1, u2⟩ := hY.2.1 j (by omega)
      obtain ⟨u3, u4, _⟩ := hI.2.1.2.2.2 j (by omega)
      rw [u1, u2, u3, u4]
      exact ⟨rfl, rfl⟩
  have hv : ∀ j, j < ns + 1 → 0 ≤ fset (M 10) ns (w : Int) j ∧ fset (M 10) ns (w : Int) j ≤ 3 ∧ 0 ≤ fset (M 11) ns (l : Int) j ∧ fset (M 11) ns (l : Int) j < 16 ∧ (fset (M 10) ns (w : Int) j < 2 → fset (M 11) ns (l : Int) j < 12) := fun j hj => by
    by_cases hjn : j = ns
    · rw [hjn, fset_eq, fset_eq]
      omega
    · rw [fset_ne _ _ hjn, fset_ne _ _ hjn]
      exact (hI.2.1.2.2.2 j (by omega)).2.2
  have hF := fyM_S hI r h84b (ns := ns + 1) h9 (by omega) hs hv
  obtain ⟨Y2, f, a⟩ := cov_md (M := M) hS (fun q hq => by
    rw [r 86 (by omega) (by omega) (by omega) (by omega)]
    exact (hI.1 q hq).2.1) hF
  have eL : flT M (ns + 1) (fset (M 10) ns (w : Int)) (fset (M 11) ns (l : Int)) = flA M (16 * w + l) := by
    unfold flA
    rw [hns, Int.toNat_natCast, ag_d hl16, ag_m hl16]
  rw [md_S hI r h84b h43 (ns := ns + 1) h9 hs, eL] at f
  refine ⟨Y2, f, ?_, fun x g1 g2 g3 g4 => ?_, fun j hj => ?_, fun j hj => ?_⟩
  · rw [a.1.2 9 (by omega), h9]
  · rw [mset_ne _ _ _ g1, a.1.1 x g1 (by omega), R x g1 g2 g3]
    exact hY.1 x g1 g2 g3 g4
  · have hjn : j ≠ ns := by omega
    rw [mset_ne _ _ _ (show (90 : Nat) ≠ 84 by omega), mset_ne _ _ _ (show (91 : Nat) ≠ 84 by omega), a.1.1 90 (by omega) (by omega), a.1.1 91 (by omega) (by omega), r90, r91, fset_ne _ _ hjn, fset_ne _ _ hjn]
    exact hY.2.1 j hj
  · by_cases h9j : j = 9
    · rw [h9j, mset_eq, q1, hns]
    · rw [mset_nk _ h9j, a.1.2 j (by omega), h84 j h9j]
      exact hY.2.2 j hj
theorem again_m {n r ns : Nat} {x1 : Int} {c : Nat → Int} {M : Mem} {S : Sh} (hr : 17 < r) (hS : Std n S) (hx : x1 = 0 ∨ x1 = 1) (m9 : M 84 9 = (ns : Int)) (n12 : ns < 12) (one : ∀ (w l : Nat) (Y : Mem), w < 4 → l < 16 → (1 < w ∨ l < 12) → FrA M Y → ∃ Y2, res 146 [aR 84] (mset (mset (mset Y 90 ns (w : Int)) 91 ns (l : Int)) 84 9 ((ns : Int) + 1)) S = some (some (aI (c (16 * w + l))), Y2, S) ∧ Y2 84 9 = (ns : Int) + 1 ∧ FrA M (mset Y2 84 9 (ns : Int))) : ∀ (rem k : Nat) (Y : Mem) (b m : Int) (l5 l6 l7 : Option AV), k + rem = 64 → FrA M Y → ∃ Y', go r 152 22 [some (aR 84), some (aI x1), some (aI b), some (aI m), some (aI (k : Int)), l5, l6, l7] [] Y S = some (some (aI (pick x1 (agP c rem k b m))), Y', S) ∧ FrA M Y' := by
  have k84 := K84 hS
  have k90 := K90 hS
  have k91 := K91 hS
  have l90 := L90 hS
  have l91 := L91 hS
  intro rem
  induction rem with
  | zero =>
    intro k Y b m l5 l6 l7 hk hY
    rw [g152_22]
    rcases hx with rfl | rfl
    all_goals simp (disch := omega) only [g152_0, g152_1, g152_2, g152_3, g152_6t, g152_6f, g152_9, g152_11, g152_12, g152_13, g152_14, g152_15, g152_18, g152_19, g152_20, g152_24, g152_26t, g152_26f, g152_29, g152_30, g152_33, g152_35t, g152_35f, g152_38, g152_40, g152_42, g152_43, g152_45, g152_47, g152_49, g152_50, g152_52, g152_54, g152_55t, g152_55f, g152_58, g152_60, g152_62t, g152_62f, g152_65, g152_66, g152_69, g152_70, g152_73, g152_75, g152_76, g152_77, g152_80, g152_81, g152_84, g152_86, g152_87, g152_88, g152_89, g152_92, g152_93, g152_94, g152_97, g152_98, g152_101, g152_103, g152_104, g152_105, g152_108, g152_109, g152_110, g152_113, g152_115, g152_116t, g152_116f, g152_119, g152_121, g152_123, g152_124, g152_126, g152_127, g152_130, g152_131, g152_132, g152_134, g152_135t, g152_135f, g152_138, g152_140, g152_143, g152_144, g152_145, g152_148, g152_151, g152_152t, g152_152f, g152_155, g152_156, g152_159, g152_160, cont_1, cont_0, w32_k]
    all_goals exact ⟨Y, rfl, hY⟩
  | succ rem ih =>
    intro k Y b m l5 l6 l7 hk hY
    have y9 : Y 84 9 = (ns : Int) := (hY.2.2 9 (by omega)).trans m9
    obtain ⟨w, l, rfl, hl16, hw4⟩ : ∃ w l : Nat, k = 16 * w + l ∧ l < 16 ∧ w < 4 := ⟨k / 16, k % 16, by omega, by omega, by omega⟩
    have et1 : Int.tdiv ((16 * w + l : Nat) : Int) 16 = (w : Int) := by rw [td16, ag_d hl16]
    have et2 : Int.tmod ((16 * w + l : Nat) : Int) 16 = (l : Int) := by rw [tm16, ag_m hl16]
    by_cases hg : 1 < w ∨ l < 12
    · obtain ⟨Y2, f, y29, hY3⟩ := one w l Y hw4 hl16 hg hY
      rw [g152_22]
      have hgi : (1 < (w : Int) ∨ ((w : Int) ≤ 1 ∧ (l : Int) < 12)) := by omega
      clear hg
      by_cases hm : m < c (16 * w + l)
      · obtain ⟨Y4, z, fr⟩ := ih (16 * w + l + 1) (mset Y2 84 9 (ns : Int)) (100 * (w : Int) + (l : Int)) (c (16 * w + l)) (some (aI (w : Int))) (some (aI (l : Int))) (some (aI (c (16 * w + l)))) (by omega) hY3
        refine ⟨Y4, ?_, fr⟩
        rw [ag_t ⟨by rw [ag_d hl16, ag_m hl16]; omega, hm⟩, ag_d hl16, ag_m hl16, ← z, nc_1]
        rcases hgi with hgi | hgi
        all_goals simp (disch := omega) only [g152_0, g152_1, g152_2, g152_3, g152_6t, g152_6f, g152_9, g152_11, g152_12, g152_13, g152_14, g152_15, g152_18, g152_19, g152_20, g152_24, g152_26t, g152_26f, g152_29, g152_30, g152_33, g152_35t, g152_35f, g152_38, g152_40, g152_42, g152_43, g152_45, g152_47, g152_49, g152_50, g152_52, g152_54, g152_55t, g152_55f, g152_58, g152_60, g152_62t, g152_62f, g152_65, g152_66, g152_69, g152_70, g152_73, g152_75, g152_76, g152_77, g152_80, g152_81, g152_84, g152_86, g152_87, g152_88, g152_89, g152_92, g152_93, g152_94, g152_97, g152_98, g152_101, g152_103, g152_104, g152_105, g152_108, g152_109, g152_110, g152_113, g152_115, g152_116t, g152_116f, g152_119, g152_121, g152_123, g152_124, g152_126, g152_127, g152_130, g152_131, g152_132, g152_134, g152_135t, g152_135f, g152_138, g152_140, g152_143, g152_144, g152_145, g152_148, g152_151, g152_152t, g152_152f, g152_155, g152_156, g152_159, g152_160, cont_1, cont_0, w32_k, y9, y29, mset_ne, mset_eq, P84_10 hS, P84_11 hS, Int.toNat_natCast, et1, et2, w32_o, Int.add_sub_cancel, f]
      · obtain ⟨Y4, z, fr⟩ := ih (16 * w + l + 1) (mset Y2 84 9 (ns : Int)) b m (some (aI (w : Int))) (some (aI (l : Int))) (some (aI (c (16 * w + l)))) (by omega) hY3
        refine ⟨Y4, ?_, fr⟩
        rw [ag_f (fun z => hm z.2), ← z, nc_1]
        rcases hgi with hgi | hgi
        all_goals simp (disch := omega) only [g152_0, g152_1, g152_2, g152_3, g152_6t, g152_6f, g152_9, g152_11, g152_12, g152_13, g152_14, g152_15, g152_18, g152_19, g152_20, g152_24, g152_26t, g152_26f, g152_29, g152_30, g152_33, g152_35t, g152_35f, g152_38, g152_40, g152_42, g152_43, g152_45, g152_47, g152_49, g152_50, g152_52, g152_54, g152_55t, g152_55f, g152_58, g152_60, g152_62t, g152_62f, g152_65, g152_66, g152_69, g152_70, g152_73, g152_75, g152_76, g152_77, g152_80, g152_81, g152_84, g152_86, g152_87, g152_88, g152_89, g152_92, g152_93, g152_94, g152_97, g152_98, g152_101, g152_103, g152_104, g152_105, g152_108, g152_109, g152_110, g152_113, g152_115, g152_116t, g152_116f, g152_119, g152_121, g152_123, g152_124, g152_126, g152_127, g152_130, g152_131, g152_132, g152_134, g152_135t, g152_135f, g152_138, g152_140, g152_143, g152_144, g152_145, g152_148, g152_151, g152_152t, g152_152f, g152_155, g152_156, g152_159, g152_160, cont_1, cont_0, w32_k, y9, y29, mset_ne, mset_eq, P84_10 hS, P84_11 hS, Int.toNat_natCast, et1, et2, w32_o, Int.add_sub_cancel, f]
    · obtain ⟨Y4, z, fr⟩ := ih (16 * w + l + 1) Y b m (some (aI (w : Int))) (some (aI (l : Int))) l7 (by omega) hY
      refine ⟨Y4, ?_, fr⟩
      rw [ag_f (fun z => hg (by have q := z.1; rw [ag_d hl16, ag_m hl16] at q; exact q)), ← z, nc_1, g152_22]
      have hg1 : (w : Int) ≤ 1 := by omega
      have hg2 : 12 ≤ (l : Int) := by omega
      clear hg
      simp (disch := omega) only [g152_0, g152_1, g152_2, g152_3, g152_6t, g152_6f, g152_9, g152_11, g152_12, g152_13, g152_14, g152_15, g152_18, g152_19, g152_20, g152_24, g152_26t, g152_26f, g152_29, g152_30, g152_33, g152_35t, g152_35f, g152_38, g152_40, g152_42, g152_43, g152_45, g152_47, g152_49, g152_50, g152_52, g152_54, g152_55t, g152_55f, g152_58, g152_60, g152_62t, g152_62f, g152_65, g152_66, g152_69, g152_70, g152_73, g152_75, g152_76, g152_77, g152_80, g152_81, g152_84, g152_86, g152_87, g152_88, g152_89, g152_92, g152_93, g152_94, g152_97, g152_98, g152_101, g152_103, g152_104, g152_105, g152_108, g152_109, g152_110, g152_113, g152_115, g152_116t, g152_116f, g152_119, g152_121, g152_123, g152_124, g152_126, g152_127, g152_130, g152_131, g152_132, g152_134, g152_135t, g152_135f, g152_138, g152_140, g152_143, g152_144, g152_145, g152_148, g152_151, g152_152t, g152_152f, g152_155, g152_156, g152_159, g152_160, cont_1, cont_0, w32_k, y9, et1, et2, w32_o]
theorem p_again {x1 : Int} {n : Nat} {sc : Nat → Int} {M : Mem} {S : Sh} (hS : Std n S) (hI : Inv sc M) : Pr (res 63 [aR 6, aI x1] M S) (PQ 152 [aR 84, aI x1] n S.2.2.2.1 S.2.2.2.2 sc) := by
  have k6 := K6 hS
  have k7 := K7 hS
  have k84 := K84 hS
  have q1 := hI.2.1.1
  have q2 := hI.2.1.2.1
  have q3 := hI.2.1.2.2.1
  rcases (by omega : (x1 ≠ 0 ∧ x1 ≠ 1) ∨ (x1 = 0 ∨ x1 = 1)) with hx | hx
  · refine PQ_mk (v := aI (-2)) (M1 := M) (M2 := M) ?_ ?_ hI hS
    · rw [g63]
      simp (disch := omega) only [g63_0, g63_1, g63_4t, g63_4f, g63_7, g63_9, g63_10, g63_11, g63_12, g63_13, g63_14, g63_17, g63_20, g63_21, g63_22, g63_25, g63_28, g63_30t, g63_30f, g63_33, g63_34, g63_38, g63_39t, g63_39f, g63_42, g63_43, g63_47, g63_49, g63_52t, g63_52f, g63_55, g63_56, g63_59, g63_60, g63_63, g63_66, g63_67, g63_70, g63_72, g63_74, g63_77, g63_78, g63_79, g63_82, g63_85, g63_87, g63_89, g63_90t, g63_90f, g63_93, g63_95, g63_96, g63_98, g63_100, g63_101, g63_103, g63_104, g63_105, g63_108, g63_111, g63_114, g63_117, g63_118t, g63_118f, g63_121, g63_122, g63_125, g63_126, cont_1, cont_0, w32_k, isHalf_f]
    · rw [g152]
      rcases (by omega : x1 < 0 ∨ 1 < x1) with hy | hy
      all_goals simp (disch := omega) only [g152_0, g152_1, g152_2, g152_3, g152_6t, g152_6f, g152_9, g152_11, g152_12, g152_13, g152_14, g152_15, g152_18, g152_19, g152_20, g152_24, g152_26t, g152_26f, g152_29, g152_30, g152_33, g152_35t, g152_35f, g152_38, g152_40, g152_42, g152_43, g152_45, g152_47, g152_49, g152_50, g152_52, g152_54, g152_55t, g152_55f, g152_58, g152_60, g152_62t, g152_62f, g152_65, g152_66, g152_69, g152_70, g152_73, g152_75, g152_76, g152_77, g152_80, g152_81, g152_84, g152_86, g152_87, g152_88, g152_89, g152_92, g152_93, g152_94, g152_97, g152_98, g152_101, g152_103, g152_104, g152_105, g152_108, g152_109, g152_110, g152_113, g152_115, g152_116t, g152_116f, g152_119, g152_121, g152_123, g152_124, g152_126, g152_127, g152_130, g152_131, g152_132, g152_134, g152_135t, g152_135f, g152_138, g152_140, g152_143, g152_144, g152_145, g152_148, g152_151, g152_152t, g152_152f, g152_155, g152_156, g152_159, g152_160, cont_1, cont_0, w32_k, in_f]
  · obtain ⟨ns, hns⟩ : ∃ ns : Nat, M 7 4 = (ns : Int) := ⟨(M 7 4).toNat, by omega⟩
    obtain ⟨Ma, fa, aa⟩ := cov_now hS hI
    have fra := FrT_C aa.1
    have ra7 : Ma 7 = M 7 := fra 7 (by unfold scrC; omega)
    by_cases n12 : ns < 12
    · obtain ⟨M1, z1, fr1⟩ := again_out (n := n) (r := 16) (c := fun k => cvN M (flA M k)) (by omega) hS (fun way line X h1 h2 h3 h4 => ag_one hS hI h1 h2 h3 hns n12 h4) hx 4 0 Ma (-1) (cvN M (flC M 7)) none none (by omega) fra
      have hI1 := Inv_frC hI fr1
      obtain ⟨r7, r8, r9, _⟩ := now_fr fr1
      obtain ⟨Yb, fb, ab⟩ := flyM hS hI1
      rw [flC_fr fr1, r9] at fb
      have frb := FrN_M ab.1
      obtain ⟨M2, z2, fr2⟩ := again_m (ns := ns) (r := 18) (c := fun k => cvN M1 (flA M1 k)) (by omega) hS hx (hI1.2.1.1.trans (by rw [r7]; exact hns)) n12 (fun w l Y h1 h2 h3 h4 => ag_mone hS hI1 h1 h2 h3 (by rw [r7]; exact hns) n12 h4) 64 0 Yb (-1) (cvN M (flC M 7)) none none none (by omega) ⟨fun x e1 e2 e3 e4 => frb.1 x e1 e4, fun j _ => by rw [frb.1 90 (by omega) (by omega), frb.1 91 (by omega) (by omega)]; exact ⟨rfl, rfl⟩, frb.2⟩
      rw [flA_fr fr1, cvN_fr fr1] at z2
      refine PQ_mk (v := aI (pick x1 (agP (fun k => cvN M (flA M k)) 64 0 (-1) (cvN M (flC M 7))))) (M1 := M1) (M2 := M2) ?_ ?_ (Inv_frA hI1 fr2) hS
      · rw [g63]
        simp (disch := omega) only [g63_0, g63_1, g63_4t, g63_4f, g63_7, g63_9, g63_10, g63_11, g63_12, g63_13, g63_14, g63_17, g63_20, g63_21, g63_22, g63_25, g63_28, g63_30t, g63_30f, g63_33, g63_34, g63_38, g63_39t, g63_39f, g63_42, g63_43, g63_47, g63_49, g63_52t, g63_52f, g63_55, g63_56, g63_59, g63_60, g63_63, g63_66, g63_67, g63_70, g63_72, g63_74, g63_77, g63_78, g63_79, g63_82, g63_85, g63_87, g63_89, g63_90t, g63_90f, g63_93, g63_95, g63_96, g63_98, g63_100, g63_101, g63_103, g63_104, g63_105, g63_108, g63_111, g63_114, g63_117, g63_118t, g63_118f, g63_121, g63_122, g63_125, g63_126, cont_1, cont_0, w32_k, isHalf_t, P6_0 hS, fa, ra7, hns]
        exact z1
      · rw [g152]
        simp (disch := omega) only [g152_0, g152_1, g152_2, g152_3, g152_6t, g152_6f, g152_9, g152_11, g152_12, g152_13, g152_14, g152_15, g152_18, g152_19, g152_20, g152_24, g152_26t, g152_26f, g152_29, g152_30, g152_33, g152_35t, g152_35f, g152_38, g152_40, g152_42, g152_43, g152_45, g152_47, g152_49, g152_50, g152_52, g152_54, g152_55t, g152_55f, g152_58, g152_60, g152_62t, g152_62f, g152_65, g152_66, g152_69, g152_70, g152_73, g152_75, g152_76, g152_77, g152_80, g152_81, g152_84, g152_86, g152_87, g152_88, g152_89, g152_92, g152_93, g152_94, g152_97, g152_98, g152_101, g152_103, g152_104, g152_105, g152_108, g152_109, g152_110, g152_113, g152_115, g152_116t, g152_116f, g152_119, g152_121, g152_123, g152_124, g152_126, g152_127, g152_130, g152_131, g152_132, g152_134, g152_135t, g152_135f, g152_138, g152_140, g152_143, g152_144, g152_145, g152_148, g152_151, g152_152t, g152_152f, g152_155, g152_156, g152_159, g152_160, cont_1, cont_0, w32_k, in_t, fb]
        exact z2
    · have hI1 := Inv_frC hI fra
      obtain ⟨r7, r8, r9, _⟩ := now_fr fra
      obtain ⟨Yb, fb, ab⟩ := flyM hS hI1
      rw [flC_fr fra, r9] at fb
      have frb := FrN_M ab.1
      have yb9 : Yb 84 9 = (ns : Int) := by
        rw [frb.2 9 (by omega), fra 84 (by unfold scrC; omega), q1]
        exact hns
      refine PQ_mk (v := aI (pick x1 (-1, cvN M (flC M 7)))) (M1 := Ma) (M2 := Yb) ?_ ?_ (Inv_frM hI1 frb) hS
      · rw [g63]
        rcases hx with rfl | rfl
        all_goals simp (disch := omega) only [g63_0, g63_1, g63_4t, g63_4f, g63_7, g63_9, g63_10, g63_11, g63_12, g63_13, g63_14, g63_17, g63_20, g63_21, g63_22, g63_25, g63_28, g63_30t, g63_30f, g63_33, g63_34, g63_38, g63_39t, g63_39f, g63_42, g63_43, g63_47, g63_49, g63_52t, g63_52f, g63_55, g63_56, g63_59, g63_60, g63_63, g63_66, g63_67, g63_70, g63_72, g63_74, g63_77, g63_78, g63_79, g63_82, g63_85, g63_87, g63_89, g63_90t, g63_90f, g63_93, g63_95, g63_96, g63_98, g63_100, g63_101, g63_103, g63_104, g63_105, g63_108, g63_111, g63_114, g63_117, g63_118t, g63_118f, g63_121, g63_122, g63_125, g63_126, cont_1, cont_0, w32_k, isHalf_t, P6_0 hS, fa, ra7, hns, pick_0, pick_1]
      · rw [g152]
        rcases hx with rfl | rfl
        all_goals simp (disch := omega) only [g152_0, g152_1, g152_2, g152_3, g152_6t, g152_6f, g152_9, g152_11, g152_12, g152_13, g152_14, g152_15, g152_18, g152_19, g152_20, g152_24, g152_26t, g152_26f, g152_29, g152_30, g152_33, g152_35t, g152_35f, g152_38, g152_40, g152_42, g152_43, g152_45, g152_47, g152_49, g152_50, g152_52, g152_54, g152_55t, g152_55f, g152_58, g152_60, g152_62t, g152_62f, g152_65, g152_66, g152_69, g152_70, g152_73, g152_75, g152_76, g152_77, g152_80, g152_81, g152_84, g152_86, g152_87, g152_88, g152_89, g152_92, g152_93, g152_94, g152_97, g152_98, g152_101, g152_103, g152_104, g152_105, g152_108, g152_109, g152_110, g152_113, g152_115, g152_116t, g152_116f, g152_119, g152_121, g152_123, g152_124, g152_126, g152_127, g152_130, g152_131, g152_132, g152_134, g152_135t, g152_135f, g152_138, g152_140, g152_143, g152_144, g152_145, g152_148, g152_151, g152_152t, g152_152f, g152_155, g152_156, g152_159, g152_160, cont_1, cont_0, w32_k, in_t, fb]
        all_goals rw [g152_22]
        all_goals simp (disch := omega) only [g152_0, g152_1, g152_2, g152_3, g152_6t, g152_6f, g152_9, g152_11, g152_12, g152_13, g152_14, g152_15, g152_18, g152_19, g152_20, g152_24, g152_26t, g152_26f, g152_29, g152_30, g152_33, g152_35t, g152_35f, g152_38, g152_40, g152_42, g152_43, g152_45, g152_47, g152_49, g152_50, g152_52, g152_54, g152_55t, g152_55f, g152_58, g152_60, g152_62t, g152_62f, g152_65, g152_66, g152_69, g152_70, g152_73, g152_75, g152_76, g152_77, g152_80, g152_81, g152_84, g152_86, g152_87, g152_88, g152_89, g152_92, g152_93, g152_94, g152_97, g152_98, g152_101, g152_103, g152_104, g152_105, g152_108, g152_109, g152_110, g152_113, g152_115, g152_116t, g152_116f, g152_119, g152_121, g152_123, g152_124, g152_126, g152_127, g152_130, g152_131, g152_132, g152_134, g152_135t, g152_135f, g152_138, g152_140, g152_143, g152_144, g152_145, g152_148, g152_151, g152_152t, g152_152f, g152_155, g152_156, g152_159, g152_160, cont_1, cont_0, w32_k, yb9, pick_0, pick_1]
        all_goals rfl
