/-! a row closing up -/
def shf (k i : Nat) (f : Nat → Int) : Nat → Int := fun j => if k ≤ j ∧ j < i then f (j + 1) else f j
theorem shf_s {k i : Nat} {f : Nat → Int} {v : Int} (h : k ≤ i) (hv : v = f (i + 1)) : fset (shf k i f) i v = shf k (i + 1) f := by
  funext j
  unfold fset shf
  by_cases e : j = i
  · rw [if_pos e, if_pos (by omega), hv, e]
  · rw [if_neg e]
    by_cases e2 : k ≤ j ∧ j < i
    · rw [if_pos e2, if_pos (by omega)]
    · rw [if_neg e2, if_neg (by omega)]
theorem shf_0 {k : Nat} {f : Nat → Int} : shf k k f = f := by
  funext j
  unfold shf
  rw [if_neg (by omega)]
theorem shf_n {k i j : Nat} {f : Nat → Int} (h : i ≤ j) : shf k i f j = f j := by
  unfold shf
  rw [if_neg (by omega)]
theorem shf_r {k i j : Nat} {f : Nat → Int} (h : j < i) : shf k i f j = rmv k f j := by
  unfold shf rmv
  by_cases e : j < k
  · rw [if_neg (by omega), if_pos e]
  · rw [if_pos (by omega), if_neg e]
def lvM (M : Mem) (b k i : Nat) : Mem := mrow (mrow M (b + 3) (shf k i (M (b + 3)))) (b + 4) (shf k i (M (b + 4)))
theorem leave_loop {n r b k ns : Nat} {M : Mem} {S : Sh} (hr : 10 < r) (hB : SceneS S b) (hn : M b 4 = (ns : Int)) (n12 : ns ≤ 12) : ∀ (rem i : Nat), i + rem + 1 = ns → k ≤ i → go r 36 2 [some (aR b), some (aI (k : Int)), some (aI (i : Int))] [] (lvM M b k i) S = some (none, mset (lvM M b k (ns - 1)) b 4 ((ns : Int) - 1), S) := by
  obtain ⟨hb, ⟨k0, k1, k2, k3, k4, _⟩, ⟨l1, l2, l3, l4, _⟩, P0, P1, P2, P3, _⟩ := hB
  intro rem
  induction rem with
  | zero =>
    intro i hi hk
    have e : ns - 1 = i := by omega
    rw [e]
    unfold lvM
    rw [g36_2]
    simp (disch := omega) only [g36_0, g36_1, g36_3, g36_4, g36_5, g36_6, g36_9t, g36_9f, g36_12, g36_13, g36_16, g36_17, g36_18, g36_21, g36_22, g36_23, g36_24, g36_27, g36_30, g36_31, g36_34, g36_35, g36_36, g36_39, g36_40, g36_41, g36_42, g36_45, g36_48, g36_51, g36_54, g36_55, g36_56, g36_59, g36_60, g36_61, g36_64, cont_1, cont_0, w32_k, w32_o, mrow_ne, hn]
  | succ rem ih =>
    intro i hi hk
    rw [← ih (i + 1) (by omega) (by omega), nc_1]
    unfold lvM
    have e1 : ((i : Int) + 1).toNat = i + 1 := by omega
    rw [g36_2]
    simp (disch := omega) only [g36_0, g36_1, g36_3, g36_4, g36_5, g36_6, g36_9t, g36_9f, g36_12, g36_13, g36_16, g36_17, g36_18, g36_21, g36_22, g36_23, g36_24, g36_27, g36_30, g36_31, g36_34, g36_35, g36_36, g36_39, g36_40, g36_41, g36_42, g36_45, g36_48, g36_51, g36_54, g36_55, g36_56, g36_59, g36_60, g36_61, g36_64, cont_1, cont_0, w32_k, w32_o, mrow_ne, mrow_eq, mset_mrow, mset_mrow_c, hn, P2, P3, at_in, put_in, Int.toNat_natCast, e1, shf_n]
    rw [shf_s hk rfl, shf_s hk rfl]
theorem leaveOut_ {n b k ns : Nat} {M : Mem} {S : Sh} (hS : Std n S) (hB : SceneS S b) (hn : M b 4 = (ns : Int)) (n12 : ns ≤ 12) (hk : k < ns) : res 36 [aR b, aI (k : Int)] M S = some (none, mset (lvM M b k (ns - 1)) b 4 ((ns : Int) - 1), S) := by
  have z := leave_loop (n := n) (r := 11) (k := k) (M := M) (by omega) hB hn n12 (ns - 1 - k) k (by omega) (Nat.le_refl _)
  have e : lvM M b k k = M := by
    unfold lvM
    rw [shf_0, shf_0, mrow_self, mrow_self]
  rw [e] at z
  rw [g36]
  simp (disch := omega) only [g36_0, g36_1, g36_3, g36_4, g36_5, g36_6, g36_9t, g36_9f, g36_12, g36_13, g36_16, g36_17, g36_18, g36_21, g36_22, g36_23, g36_24, g36_27, g36_30, g36_31, g36_34, g36_35, g36_36, g36_39, g36_40, g36_41, g36_42, g36_45, g36_48, g36_51, g36_54, g36_55, g36_56, g36_59, g36_60, g36_61, g36_64, cont_1, cont_0, w32_k]
  exact z
/-! flights over strips of thought -/
def flT (M : Mem) (ns : Nat) (ws ls : Nat → Int) : FS × Int := flS M ns (tr ns ws) (tr ns ls)
/-- thought is now, but for its strips -/
def ThkS (M X : Mem) : Prop := FrC M X ∧ (∀ k, k < 192 → X 18 k = M 8 k) ∧ (∀ k, k < 192 → X 19 k = M 9 k) ∧ (∀ k, k < 4 → X 22 k = M 12 k ∧ X 23 k = M 13 k ∧ X 24 k = M 14 k ∧ X 25 k = M 15 k ∧ X 26 k = M 16 k) ∧ X 17 11 = M 7 11 ∧ X 17 12 = M 7 12 ∧ X 17 13 = M 7 13 ∧ X 17 14 = M 7 14
theorem ThkS_of {M X : Mem} (h : Thk M X) (h17 : ∀ j, (j = 4 ∨ (10 ≤ j ∧ j < 15)) → X 17 j = M 7 j) : ThkS M X := ⟨h.1, h.2.1, h.2.2.1, h.2.2.2.2, h17 11 (by omega), h17 12 (by omega), h17 13 (by omega), h17 14 (by omega)⟩
theorem ThkS_x {M X X' : Mem} (h : ThkS M X) (r : ∀ a, a ≠ 17 → a ≠ 20 → a ≠ 21 → X' a = X a) (r17 : ∀ j, 11 ≤ j → j ≤ 14 → X' 17 j = X 17 j) : ThkS M X' := by
  obtain ⟨f, h1, h2, h3, h4, h5, h6, h7⟩ := h
  refine ⟨fun a ha => ?_, ?_, ?_, ?_, ?_, ?_, ?_, ?_⟩
  · rw [r a (by unfold scrC at ha; omega) (by unfold scrC at ha; omega) (by unfold scrC at ha; omega)]
    exact f a ha
  · rw [r 18 (by omega) (by omega) (by omega)]; exact h1
  · rw [r 19 (by omega) (by omega) (by omega)]; exact h2
  · rw [r 22 (by omega) (by omega) (by omega), r 23 (by omega) (by omega) (by omega), r 24 (by omega) (by omega) (by omega), r 25 (by omega) (by omega) (by omega), r 26 (by omega) (by omega) (by omega)]; exact h3
  · rw [r17 11 (by omega) (by omega)]; exact h4
  · rw [r17 12 (by omega) (by omega)]; exact h5
  · rw [r17 13 (by omega) (by omega)]; exact h6
  · rw [r17 14 (by omega) (by omega)]; exact h7
theorem th_S {sc : Nat → Int} {M X : Mem} {ns : Nat} {ws ls : Nat → Int} (hI : Inv sc M) (h : ThkS M X) (h4 : X 17 4 = (ns : Int)) (hs : ∀ k, k < ns → X 20 k = ws k ∧ X 21 k = ls k) : flC X 17 = flT M ns ws ls := by
  obtain ⟨f, h1, h2, h3, h5, h6, h7, h8⟩ := h
  have w0 := hI.2.2.2.1.2.2.2.2.2.2.2.1
  have w1 := hI.2.2.2.1.2.2.2.2.2.2.2.2.1
  have p3 := hI.2.2.1.2.2.1
  have r93 : X 93 = M 93 := f 93 (by unfold scrC; omega)
  have r94 : X 94 = M 94 := f 94 (by unfold scrC; omega)
  obtain ⟨e1, e2, e3, e4, e5⟩ := h3 (M 7 13).toNat (by omega)
  unfold flC flT flS cdT stT
  have t1 : tr 192 (X (17 + 1)) = tr 192 (M 8) := tr_ext h1
  have t2 : tr ns (X (17 + 3)) = tr ns ws := tr_ext (fun k hk => (hs k hk).1)
  have t3 : tr ns (X (17 + 4)) = tr ns ls := tr_ext (fun k hk => (hs k hk).2)
  rw [h4, h5, h6, h7, h8, Int.toNat_natCast, t1, t2, t3, r93, r94, e1, e2, e3, e4, e5]
theorem fyC_S {sc : Nat → Int} {M X : Mem} {ns : Nat} {ws ls : Nat → Int} (hI : Inv sc M) (h : ThkS M X) (h4 : X 17 4 = (ns : Int)) (n12 : ns ≤ 12) (hs : ∀ k, k < ns → X 20 k = ws k ∧ X 21 k = ls k) (hv : ∀ k, k < ns → 0 ≤ ws k ∧ ws k ≤ 3 ∧ 0 ≤ ls k ∧ ls k < 16 ∧ (ws k < 2 → ls k < 12)) : FyC X 17 := by
  obtain ⟨f, h1, h2, h3, h5, h6, h7, h8⟩ := h
  obtain ⟨_, _, _, _, _, _, _, w0, w1, _, n11, n12'⟩ := hI.2.2.2.1
  have p3 := hI.2.2.1.2.2.1
  refine fyC_th hI f ⟨by omega, by omega, fun k hk => ?_⟩ (by omega) (by omega) (fun hw => ?_) (by omega) (by omega)
  · rw [(hs k (by omega)).1, (hs k (by omega)).2]
    exact hv k (by omega)
  · obtain ⟨e1, e2, e3, e4, e5⟩ := h3 (X 17 13).toNat (by omega)
    obtain ⟨_, _, _, _, _, u0, u1, u2, u3, _, _, _, _, u4, u5⟩ := hI.2.2.1.2.2.2 (X 17 13).toNat (by omega)
    unfold PlO
    rw [e1, e2, e5]
    exact ⟨u0, u1, u2, u3, u4, u5⟩
theorem flT_fr {M M' : Mem} (h : FrC M M') : flT M' = flT M := by
  obtain ⟨r7, r8, r9, r10, r11, r12, r13, r14, r15, r16, r93, r94, r6⟩ := now_fr h
  funext ns ws ls
  unfold flT flS cdT stT
  rw [r7, r8, r12, r13, r14, r15, r16, r93, r94]
theorem cvN_fr {M M' : Mem} (h : FrC M M') : cvN M' = cvN M := by
  obtain ⟨r7, r8, r9, _⟩ := now_fr h
  funext R
  unfold cvN
  rw [r9]
theorem rmv_tr {k ns : Nat} {f : Nat → Int} (h : k < ns) : rmv k (tr ns f) = tr (ns - 1) (rmv k f) := by
  funext j
  by_cases h1 : j < ns - 1
  · rw [tr_lt h1]
    unfold rmv
    by_cases h2 : j < k
    · rw [if_pos h2, if_pos h2, tr_lt (by omega)]
    · rw [if_neg h2, if_neg h2, tr_lt (by omega)]
  · rw [rmv_ge (by omega)]
    unfold tr
    rw [if_neg (by omega), if_neg h1]
/-- a flight without strip k -/
def flL (M : Mem) (k : Nat) : FS × Int := flT M ((M 7 4).toNat - 1) (rmv k (M 10)) (rmv k (M 11))
theorem flL_fr {M M' : Mem} (h : FrC M M') : flL M' = flL M := by
  have e := flT_fr h
  obtain ⟨r7, r8, r9, r10, r11, _⟩ := now_fr h
  funext k
  unfold flL
  rw [e, r7, r10, r11]
theorem md_L {sc : Nat → Int} {M Y : Mem} {k : Nat} (hI : Inv sc M) (h : FrX 43 M Y) (h43 : Y 84 43 = (k : Int)) (hk : (k : Int) < M 7 4) : flMd Y (Y 84 43) = flL M k := by
  obtain ⟨r, h84⟩ := h
  obtain ⟨hLand, hStr, hPla, hNow, _⟩ := hI
  obtain ⟨n1, n2, n3, n4, n5, n6, n7, n8, n9, n10, n11, n12⟩ := hNow
  have R : ∀ a, 85 ≤ a → a ≤ 94 → Y a = M a := fun a h0 h1 => r a (by omega) (by omega)
  have q2 := hStr.2.1
  unfold flMd flL flT flS cdT stT flMR flR
  rw [h84 2 (by omega) (by omega), h84 3 (by omega) (by omega), h84 4 (by omega) (by omega), h84 9 (by omega) (by omega), h84 17 (by omega) (by omega), n7, h43]
  by_cases hw : M 7 13 = -1
  · rw [if_pos hw, if_pos hw]
  · rw [if_neg hw, if_neg hw]
    obtain ⟨v0, v1, v2, v3, v4, _⟩ := hPla.2.2.2 (M 7 13).toNat (by omega)
    rw [R 85 (by omega) (by omega), R 87 (by omega) (by omega), R 88 (by omega) (by omega), R 89 (by omega) (by omega), R 90 (by omega) (by omega), R 91 (by omega) (by omega), R 93 (by omega) (by omega), R 94 (by omega) (by omega), v0, v1, v2, v3, v4, n1, n4, hStr.1, n10]
    have e1 : tr 192 (M 85) = tr 192 (M 8) := tr_ext (fun k hk => (hLand k hk).1)
    have e2 : tr (M 7 4).toNat (M 90) = tr (M 7 4).toNat (M 10) := tr_ext (fun k hk => (hStr.2.2.2 k (by omega)).1)
    have e3 : tr (M 7 4).toNat (M 91) = tr (M 7 4).toNat (M 11) := tr_ext (fun k hk => (hStr.2.2.2 k (by omega)).2.1)
    obtain ⟨q, hq⟩ : ∃ q : Nat, (M 7 4).toNat = q + 1 := ⟨(M 7 4).toNat - 1, by omega⟩
    rw [e1, e2, e3, ← rmv_tr (by omega), ← rmv_tr (by omega), hq]
    exact flM_left q 0 _ 0 1 (by omega) (by omega) (by rw [if_pos rfl])
theorem spare_c {n r : Nat} {x1 cv : Int} {sc : Nat → Int} {M : Mem} {S : Sh} (hr : 15 < r) (hS : Std n S) (hI : Inv sc M) (hx : x1 = 0 ∨ x1 = 1) : ∀ (rem k : Nat) (X : Mem), ((k + rem : Nat) : Int) = M 7 4 → FrC M X → ∃ X', go r 62 21 [some (aR 6), some (aI x1), some (aI cv), some (aI (k : Int))] [] X S = some (some (aI (pick x1 (fstF (fun k => cvN M (flL M k)) (fun k => (flL M k).1.2.2.2) (fun k => (k : Int)) cv rem k))), X', S) ∧ FrC M X' := by
  have k6 := K6 hS
  have k7 := K7 hS
  have k17 := K17 hS
  have k40 := K40 hS
  have q2 := hI.2.1.2.1
  have q3 := hI.2.1.2.2.1
  obtain ⟨ns, hns⟩ : ∃ ns : Nat, M 7 4 = (ns : Int) := ⟨(M 7 4).toNat, by omega⟩
  intro rem
  induction rem with
  | zero =>
    intro k X hk hX
    have r7 : X 7 = M 7 := hX 7 (by unfold scrC; omega)
    rw [g62_21]
    simp (disch := omega) only [g62_0, g62_1, g62_4t, g62_4f, g62_7, g62_9, g62_10, g62_11, g62_12, g62_15, g62_18, g62_19, g62_20, g62_22, g62_23, g62_26, g62_29t, g62_29f, g62_32, g62_33, g62_36, g62_37, g62_40, g62_43, g62_44, g62_47, g62_48, g62_51, g62_52, g62_53, g62_56, g62_59, g62_60t, g62_60f, g62_63, g62_64t, g62_64f, g62_67, g62_68, g62_71, g62_72, g62_75, g62_78, g62_79, g62_82, g62_85, g62_86, cont_1, cont_0, w32_k, P6_0 hS, r7, hns]
    rcases hx with rfl | rfl
    all_goals exact ⟨X, rfl, hX⟩
  | succ rem ih =>
    intro k X hk hX
    have r7 : X 7 = M 7 := hX 7 (by unfold scrC; omega)
    obtain ⟨X1, f1, t1⟩ := take_17_7 hS (M := X)
    obtain ⟨hX1, h17⟩ := Thk_of2 hX t1
    have e4 : X1 17 4 = (ns : Int) := (h17 4 (by omega)).trans hns
    have hkn : k < ns := by omega
    have f2 := leaveOut_ (b := 17) (k := k) (ns := ns) (M := X1) hS (sceneS_of hS (Or.inr rfl)) e4 (by omega) hkn
    have hS1 := ThkS_of hX1 h17
    have hS2 : ThkS M (mset (lvM X1 17 k (ns - 1)) 17 4 ((ns : Int) - 1)) := ThkS_x hS1 (fun a h1 h2 h3 => by
      unfold lvM
      rw [mset_ne _ _ _ h1, mrow_ne _ _ h3, mrow_ne _ _ h2]) (fun j h1 h2 => by
      unfold lvM
      rw [mset_nk _ (by omega), mrow_ne _ _ (by omega), mrow_ne _ _ (by omega)])
    have e5 : mset (lvM X1 17 k (ns - 1)) 17 4 ((ns : Int) - 1) 17 4 = ((ns - 1 : Nat) : Int) := by
      rw [mset_eq]
      omega
    have hs : ∀ j, j < ns - 1 → mset (lvM X1 17 k (ns - 1)) 17 4 ((ns : Int) - 1) 20 j = rmv k (M 10) j ∧ mset (lvM X1 17 k (ns - 1)) 17 4 ((ns : Int) - 1) 21 j = rmv k (M 11) j := fun j hj => by
      unfold lvM
      rw [mset_ne _ _ _ (by omega), mset_ne _ _ _ (by omega), mrow_ne _ _ (by omega), mrow_eq, mrow_eq, shf_r hj, shf_r hj]
      unfold rmv
      by_cases hjk : j < k
      · rw [if_pos hjk, if_pos hjk, if_pos hjk, if_pos hjk]
        exact hX1.2.2.2.1 j (by omega)
      · rw [if_neg hjk, if_neg hjk, if_neg hjk, if_neg hjk]
        exact hX1.2.2.2.1 (j + 1) (by omega)
    have hv : ∀ j, j < ns - 1 → 0 ≤ rmv k (M 10) j ∧ rmv k (M 10) j ≤ 3 ∧ 0 ≤ rmv k (M 11) j ∧ rmv k (M 11) j < 16 ∧ (rmv k (M 10) j < 2 → rmv k (M 11) j < 12) := fun j hj => by
      unfold rmv
      by_cases hjk : j < k
      · rw [if_pos hjk, if_pos hjk]
        exact (hI.2.1.2.2.2 j (by omega)).2.2
      · rw [if_neg hjk, if_neg hjk]
        exact (hI.2.1.2.2.2 (j + 1) (by omega)).2.2
    have hF := fyC_S hI hS2 e5 (by omega) hs hv
    obtain ⟨X3, f3, a3⟩ := cov_th hS hI hS2.1 hS2.2.2.1 hF
    have eL : flT M (ns - 1) (rmv k (M 10)) (rmv k (M 11)) = flL M k := by
      unfold flL
      rw [hns, Int.toNat_natCast]
    rw [th_S hI hS2 e5 hs, eL] at f3 a3
    have hX3 : FrC M X3 := FrC_t hS2.1 (FrT_C a3.1)
    rw [g62_21]
    by_cases hm : cv ≤ cvN M (flL M k)
    · refine ⟨X3, ?_, hX3⟩
      rw [fst_t (c := fun k => cvN M (flL M k)) hm]
      rcases hx with rfl | rfl
      all_goals simp (disch := omega) only [g62_0, g62_1, g62_4t, g62_4f, g62_7, g62_9, g62_10, g62_11, g62_12, g62_15, g62_18, g62_19, g62_20, g62_22, g62_23, g62_26, g62_29t, g62_29f, g62_32, g62_33, g62_36, g62_37, g62_40, g62_43, g62_44, g62_47, g62_48, g62_51, g62_52, g62_53, g62_56, g62_59, g62_60t, g62_60f, g62_63, g62_64t, g62_64f, g62_67, g62_68, g62_71, g62_72, g62_75, g62_78, g62_79, g62_82, g62_85, g62_86, cont_1, cont_0, w32_k, P6_0 hS, P6_1 hS, P6_9 hS, r7, f1, f2, f3, a3.2.2.2.2.1, pick_0, pick_1]
    · obtain ⟨X4, z, fr⟩ := ih (k + 1) X3 (by omega) hX3
      refine ⟨X4, ?_, fr⟩
      rw [fst_f (c := fun k => cvN M (flL M k)) hm, ← z, nc_1]
      simp (disch := omega) only [g62_0, g62_1, g62_4t, g62_4f, g62_7, g62_9, g62_10, g62_11, g62_12, g62_15, g62_18, g62_19, g62_20, g62_22, g62_23, g62_26, g62_29t, g62_29f, g62_32, g62_33, g62_36, g62_37, g62_40, g62_43, g62_44, g62_47, g62_48, g62_51, g62_52, g62_53, g62_56, g62_59, g62_60t, g62_60f, g62_63, g62_64t, g62_64f, g62_67, g62_68, g62_71, g62_72, g62_75, g62_78, g62_79, g62_82, g62_85, g62_86, cont_1, cont_0, w32_k, P6_0 hS, P6_1 hS, r7, f1, f2, f3]
theorem spare_m {n r : Nat} {x1 cv : Int} {sc : Nat → Int} {M : Mem} {S : Sh} (hr : 17 < r) (hS : Std n S) (hI : Inv sc M) (hx : x1 = 0 ∨ x1 = 1) : ∀ (rem k : Nat) (Y : Mem), ((k + rem : Nat) : Int) = M 7 4 → FrX 43 M Y → ∃ Y', go r 151 25 [some (aR 84), some (aI x1), some (aI cv), some (aI (-1)), some (aI (-1)), some (aI (k : Int))] [] Y S = some (some (aI (pick x1 (fstF (fun k => cvN M (flL M k)) (fun k => (flL M k).1.2.2.2) (fun k => (k : Int)) cv rem k))), Y', S) ∧ FrM M Y' := by
  have k84 := K84 hS
  have hN := hI.2.2.2.1
  have q1 := hI.2.1.1
  have q2 := hI.2.1.2.1
  have q3 := hI.2.1.2.2.1
  have p3 := hI.2.2.1.2.2.1
  have m43 := hI.2.2.2.2.2.2.2.1.2.1
  obtain ⟨n1, n2, n3, n4, n5, n6, n7, n8, n9, n10, n11, n12⟩ := hN
  intro rem
  induction rem with
  | zero =>
    intro k Y hk hY
    have y9 : Y 84 9 = M 7 4 := (hY.2 9 (by omega) (by omega)).trans q1
    have hE := FrX_end hY
    rw [m43] at hE
    rw [g151_25]
    rcases hx with rfl | rfl
    all_goals simp (disch := omega) only [g151_0, g151_1, g151_2, g151_3, g151_6t, g151_6f, g151_9, g151_11, g151_12, g151_13, g151_16, g151_17, g151_18, g151_19, g151_20, g151_22, g151_23, g151_27, g151_28, g151_31t, g151_31f, g151_34, g151_35, g151_36t, g151_36f, g151_39, g151_40, g151_42, g151_45, g151_46, g151_49, g151_50t, g151_50f, g151_53, g151_55, g151_56, g151_57, g151_60, g151_62, g151_65, g151_68, g151_69, g151_70, g151_73, g151_74t, g151_74f, g151_77, g151_78, g151_81, g151_83, cont_1, cont_0, w32_k, y9]
    all_goals exact ⟨_, rfl, hE⟩
  | succ rem ih =>
    intro k Y hk hY
    have y9 : Y 84 9 = M 7 4 := (hY.2 9 (by omega) (by omega)).trans q1
    have hY1 := FrX_s (v := (k : Int)) hY
    have e43 : mset Y 84 43 (k : Int) 84 43 = (k : Int) := mset_eq
    have h1 := hY1.2
    have e4 := h1 4 (by omega) (by omega)
    have e17 := h1 17 (by omega) (by omega)
    have hF : FyM (mset Y 84 43 (k : Int)) := fyM_W hI hY1.1 (h1 9 (by omega) (by omega)) (by omega) (by omega) (by omega) (by omega)
    obtain ⟨Y2, f, a⟩ := cov_md (M := M) hS (fun q hq => by
      rw [hY1.1 86 (by omega) (by omega)]
      exact (hI.1 q hq).2.1) hF
    rw [md_L hI hY1 e43 (by omega)] at f a
    have hY2 := FrX_N hY1 a.1
    have y29 : Y2 84 9 = M 7 4 := (hY2.2 9 (by omega) (by omega)).trans q1
    rw [g151_25]
    by_cases hm : cv ≤ cvN M (flL M k)
    · rw [fst_t (c := fun k => cvN M (flL M k)) hm]
      have hE := FrX_end hY2
      rw [m43] at hE
      simp (disch := omega) only [g151_0, g151_1, g151_2, g151_3, g151_6t, g151_6f, g151_9, g151_11, g151_12, g151_13, g151_16, g151_17, g151_18, g151_19, g151_20, g151_22, g151_23, g151_27, g151_28, g151_31t, g151_31f, g151_34, g151_35, g151_36t, g151_36f, g151_39, g151_40, g151_42, g151_45, g151_46, g151_49, g151_50t, g151_50f, g151_53, g151_55, g151_56, g151_57, g151_60, g151_62, g151_65, g151_68, g151_69, g151_70, g151_73, g151_74t, g151_74f, g151_77, g151_78, g151_81, g151_83, cont_1, cont_0, w32_k, y9, f, a.2.2.2.2.1]
      rw [g151_25]
      rcases (by omega : M 7 4 ≤ (k : Int) + 1 ∨ (k : Int) + 1 < M 7 4) with hk8 | hk8
      all_goals rcases hx with rfl | rfl
      all_goals simp (disch := omega) only [g151_0, g151_1, g151_2, g151_3, g151_6t, g151_6f, g151_9, g151_11, g151_12, g151_13, g151_16, g151_17, g151_18, g151_19, g151_20, g151_22, g151_23, g151_27, g151_28, g151_31t, g151_31f, g151_34, g151_35, g151_36t, g151_36f, g151_39, g151_40, g151_42, g151_45, g151_46, g151_49, g151_50t, g151_50f, g151_53, g151_55, g151_56, g151_57, g151_60, g151_62, g151_65, g151_68, g151_69, g151_70, g151_73, g151_74t, g151_74f, g151_77, g151_78, g151_81, g151_83, cont_1, cont_0, w32_k, y29, pick_0, pick_1]
      all_goals exact ⟨_, rfl, hE⟩
    · obtain ⟨Y3, z, fr⟩ := ih (k + 1) Y2 (by omega) hY2
      refine ⟨Y3, ?_, fr⟩
      rw [fst_f (c := fun k => cvN M (flL M k)) hm, ← z, nc_1]
      simp (disch := omega) only [g151_0, g151_1, g151_2, g151_3, g151_6t, g151_6f, g151_9, g151_11, g151_12, g151_13, g151_16, g151_17, g151_18, g151_19, g151_20, g151_22, g151_23, g151_27, g151_28, g151_31t, g151_31f, g151_34, g151_35, g151_36t, g151_36f, g151_39, g151_40, g151_42, g151_45, g151_46, g151_49, g151_50t, g151_50f, g151_53, g151_55, g151_56, g151_57, g151_60, g151_62, g151_65, g151_68, g151_69, g151_70, g151_73, g151_74t, g151_74f, g151_77, g151_78, g151_81, g151_83, cont_1, cont_0, w32_k, y9, f]
theorem p_spare {x1 : Int} {n : Nat} {sc : Nat → Int} {M : Mem} {S : Sh} (hS : Std n S) (hI : Inv sc M) : Pr (res 62 [aR 6, aI x1] M S) (PQ 151 [aR 84, aI x1] n S.2.2.2.1 S.2.2.2.2 sc) := by
  have k6 := K6 hS
  have k7 := K7 hS
  have k84 := K84 hS
  have q2 := hI.2.1.2.1
  rcases (by omega : (x1 ≠ 0 ∧ x1 ≠ 1) ∨ (x1 = 0 ∨ x1 = 1)) with hx | hx
  · refine PQ_mk (v := aI (-2)) (M1 := M) (M2 := M) ?_ ?_ hI hS
    · rw [g62]
      simp (disch := omega) only [g62_0, g62_1, g62_4t, g62_4f, g62_7, g62_9, g62_10, g62_11, g62_12, g62_15, g62_18, g62_19, g62_20, g62_22, g62_23, g62_26, g62_29t, g62_29f, g62_32, g62_33, g62_36, g62_37, g62_40, g62_43, g62_44, g62_47, g62_48, g62_51, g62_52, g62_53, g62_56, g62_59, g62_60t, g62_60f, g62_63, g62_64t, g62_64f, g62_67, g62_68, g62_71, g62_72, g62_75, g62_78, g62_79, g62_82, g62_85, g62_86, cont_1, cont_0, w32_k, isHalf_f]
    · rw [g151]
      rcases (by omega : x1 < 0 ∨ 1 < x1) with hy | hy
      all_goals simp (disch := omega) only [g151_0, g151_1, g151_2, g151_3, g151_6t, g151_6f, g151_9, g151_11, g151_12, g151_13, g151_16, g151_17, g151_18, g151_19, g151_20, g151_22, g151_23, g151_27, g151_28, g151_31t, g151_31f, g151_34, g151_35, g151_36t, g151_36f, g151_39, g151_40, g151_42, g151_45, g151_46, g151_49, g151_50t, g151_50f, g151_53, g151_55, g151_56, g151_57, g151_60, g151_62, g151_65, g151_68, g151_69, g151_70, g151_73, g151_74t, g151_74f, g151_77, g151_78, g151_81, g151_83, cont_1, cont_0, w32_k, in_f]
  · obtain ⟨Ma, fa, aa⟩ := cov_now hS hI
    obtain ⟨M1, z1, fr1⟩ := spare_c (r := 16) (cv := cvN M (flC M 7)) (by omega) hS hI hx (M 7 4).toNat 0 Ma (by omega) (FrT_C aa.1)
    have hI1 := Inv_frC hI fr1
    obtain ⟨r7, r8, r9, _⟩ := now_fr fr1
    obtain ⟨Yb, fb, ab⟩ := flyM hS hI1
    rw [flC_fr fr1, r9] at fb
    have frb := FrN_M ab.1
    obtain ⟨M2, z2, fr2⟩ := spare_m (r := 18) (cv := cvN M (flC M 7)) (by omega) hS hI1 hx (M 7 4).toNat 0 Yb (by rw [r7]; omega) ⟨frb.1, fun k hk _ => frb.2 k hk⟩
    rw [flL_fr fr1, cvN_fr fr1] at z2
    refine PQ_mk (v := aI (pick x1 (fstF (fun k => cvN M (flL M k)) (fun k => (flL M k).1.2.2.2) (fun k => (k : Int)) (cvN M (flC M 7)) (M 7 4).toNat 0))) (M1 := M1) (M2 := M2) ?_ ?_ (Inv_frM hI1 fr2) hS
    · rw [g62]
      simp (disch := omega) only [g62_0, g62_1, g62_4t, g62_4f, g62_7, g62_9, g62_10, g62_11, g62_12, g62_15, g62_18, g62_19, g62_20, g62_22, g62_23, g62_26, g62_29t, g62_29f, g62_32, g62_33, g62_36, g62_37, g62_40, g62_43, g62_44, g62_47, g62_48, g62_51, g62_52, g62_53, g62_56, g62_59, g62_60t, g62_60f, g62_63, g62_64t, g62_64f, g62_67, g62_68, g62_71, g62_72, g62_75, g62_78, g62_79, g62_82, g62_85, g62_86, cont_1, cont_0, w32_k, isHalf_t, P6_0 hS, fa]
      exact z1
    · rw [g151]
      simp (disch := omega) only [g151_0, g151_1, g151_2, g151_3, g151_6t, g151_6f, g151_9, g151_11, g151_12, g151_13, g151_16, g151_17, g151_18, g151_19, g151_20, g151_22, g151_23, g151_27, g151_28, g151_31t, g151_31f, g151_34, g151_35, g151_36t, g151_36f, g151_39, g151_40, g151_42, g151_45, g151_46, g151_49, g151_50t, g151_50f, g151_53, g151_55, g151_56, g151_57, g151_60, g151_62, g151_65, g151_68, g151_69, g151_70, g151_73, g151_74t, g151_74f, g151_77, g151_78, g151_81, g151_83, cont_1, cont_0, w32_k, in_t, fb]
      exact z2
