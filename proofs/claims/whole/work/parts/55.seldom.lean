/-! the first one by which no fewer -/
def fstF (c d enc : Nat → Int) (cv : Int) : Nat → Nat → Int × Int
  | 0, _ => (-1, -1)
  | rem + 1, k => if cv ≤ c k then (enc k, d k) else fstF c d enc cv rem (k + 1)
theorem fst_t {c d enc : Nat → Int} {cv : Int} {rem k : Nat} (h : cv ≤ c k) : fstF c d enc cv (rem + 1) k = (enc k, d k) := if_pos h
theorem fst_f {c d enc : Nat → Int} {cv : Int} {rem k : Nat} (h : ¬ cv ≤ c k) : fstF c d enc cv (rem + 1) k = fstF c d enc cv rem (k + 1) := if_neg h
theorem Thk_of2 {M Ma X : Mem} (f : FrC M Ma) (h : Tak Ma 17 7 X) : Thk M X ∧ ∀ j, (j = 4 ∨ (10 ≤ j ∧ j < 15)) → X 17 j = M 7 j := by
  obtain ⟨h0, h1, h2, h3, h4⟩ := Thk_of h
  obtain ⟨r7, r8, r9, r10, r11, r12, r13, r14, r15, r16, r93, r94, r6⟩ := now_fr f
  rw [r8] at h1
  rw [r9] at h2
  rw [r10, r11] at h3
  rw [r12, r13, r14, r15, r16] at h4
  refine ⟨⟨FrC_t f h0, h1, h2, h3, h4⟩, fun j hj => ?_⟩
  rw [thk_17 h j hj, r7]
/-- the model's rows but for place q of 89 -/
def FrE (q : Nat) (M Y : Mem) : Prop := (∀ a, a ≠ 84 → a ≠ 89 → (a < 103 ∨ 109 < a) → Y a = M a) ∧ (∀ j, j ≠ q → Y 89 j = M 89 j) ∧ (∀ k, (k < 26 ∨ k = 43) → Y 84 k = M 84 k)
theorem FrE_s {q : Nat} {M Y : Mem} {v : Int} (h : FrE q M Y) : FrE q M (mset Y 89 q v) := by
  obtain ⟨h0, h1, h2⟩ := h
  refine ⟨fun x e1 e2 e3 => ?_, fun j hj => ?_, fun k hk => ?_⟩
  · rw [mset_ne _ _ _ e2]
    exact h0 x e1 e2 e3
  · rw [mset_nk _ hj]
    exact h1 j hj
  · rw [mset_ne _ _ _ (by omega)]
    exact h2 k hk
theorem FrE_N {q : Nat} {M Y Y' : Mem} (h : FrE q M Y) (f : FrN Y Y') : FrE q M Y' := by
  obtain ⟨h0, h1, h2⟩ := h
  refine ⟨fun x e1 e2 e3 => (f.1 x e1 (by omega)).trans (h0 x e1 e2 e3), fun j hj => ?_, fun k hk => (f.2 k (by omega)).trans (h2 k hk)⟩
  rw [f.1 89 (by omega) (by omega)]
  exact h1 j hj
theorem FrE_of {q : Nat} {M Y : Mem} (f : FrM M Y) : FrE q M Y := ⟨fun x e1 _ e3 => f.1 x e1 e3, fun j _ => by rw [f.1 89 (by omega) (by omega)], fun k hk => f.2 k hk⟩
theorem FrE_end {q : Nat} {M Y : Mem} (h : FrE q M Y) : FrM M (mset Y 89 q (M 89 q)) := by
  obtain ⟨h0, h1, h2⟩ := FrE_s (v := M 89 q) h
  refine ⟨fun x e1 e3 => ?_, h2⟩
  by_cases e2 : x = 89
  · funext j
    by_cases hj : j = q
    · rw [e2, hj, mset_eq]
    · rw [e2]
      exact h1 j hj
  · exact h0 x e1 e2 e3
/-- a flight of who flies, clicking so seldom -/
def flE (M : Mem) (p : Nat) (ev : Int) : FS × Int := flN M (p : Int) (M 7 11) (M 7 12) (M 12 p) (M 13 p) (M 14 p) (M 15 p) ev (M 7 14)
def slF (M : Mem) (p : Nat) : Int × Int := fstF (fun k => cvN M (flE M p (9 - (k : Int)))) (fun k => (flE M p (9 - (k : Int))).1.2.1) (fun k => 9 - (k : Int)) (cvN M (flC M 7)) 9 0
theorem slF_fr {M M' : Mem} (h : FrC M M') : slF M' = slF M := by
  have e := flC_fr h
  obtain ⟨r7, r8, r9, r10, r11, r12, r13, r14, r15, r16, r93, r94, r6⟩ := now_fr h
  funext p
  unfold slF
  rw [e]
  unfold cvN flE flN cdT stT
  rw [r7, r8, r9, r10, r11, r12, r13, r14, r15, r93, r94]
theorem seldom_c {n r p : Nat} {x1 cv : Int} {sc : Nat → Int} {M : Mem} {S : Sh} (hr : 15 < r) (hS : Std n S) (hI : Inv sc M) (hx : x1 = 0 ∨ x1 = 1) (hp : M 7 13 = (p : Int)) : ∀ (rem k : Nat) (X : Mem), k + rem = 9 → ThkL M X → (∀ j, (j = 4 ∨ (10 ≤ j ∧ j < 15)) → X 17 j = M 7 j) → (X 22 p = M 12 p ∧ X 23 p = M 13 p ∧ X 24 p = M 14 p ∧ X 25 p = M 15 p) → ∃ X', go r 66 46 [some (aR 6), some (aI x1), some (aI cv), some (aI (9 - (k : Int)))] [] X S = some (some (aI (pick x1 (fstF (fun k => cvN M (flE M p (9 - (k : Int)))) (fun k => (flE M p (9 - (k : Int))).1.2.1) (fun k => 9 - (k : Int)) cv rem k))), X', S) ∧ FrC M X' := by
  have k6 := K6 hS
  have k7 := K7 hS
  have k17 := K17 hS
  have k26 := K26 hS
  have k40 := K40 hS
  have l26 := L26 hS
  have hP := hI.2.2.1
  have hN := hI.2.2.2.1
  have p3 := hP.2.2.1
  have t5 := hI.2.2.2.2.1.2.2.1
  obtain ⟨_, n2, n3, _, n5, n6, _, n8, n9, _, n11, n12⟩ := hN
  obtain ⟨_, _, _, _, _, v0, v1, v2, v3, _, _, _, _, v4, v5⟩ := hP.2.2.2 p (by omega)
  intro rem
  induction rem with
  | zero =>
    intro k X hk hX h17 hq
    rw [g66_46]
    rcases hx with rfl | rfl
    all_goals simp (disch := omega) only [g66_0, g66_1, g66_4t, g66_4f, g66_7, g66_9, g66_10, g66_11, g66_14, g66_17, g66_18t, g66_18f, g66_21, g66_22, g66_23, g66_24, g66_25, g66_28, g66_31, g66_32, g66_33, g66_36, g66_37, g66_40, g66_43, g66_45, g66_47, g66_48t, g66_48f, g66_51, g66_52, g66_55, g66_58, g66_59, g66_62, g66_65, g66_66, g66_69, g66_70, g66_71, g66_74, g66_77, g66_78t, g66_78f, g66_81, g66_82t, g66_82f, g66_85, g66_86, g66_89, g66_90, g66_93, g66_96, g66_97, g66_100, g66_103, g66_104, cont_1, cont_0, w32_k]
    all_goals exact ⟨X, rfl, hX.1⟩
  | succ rem ih =>
    intro k X hk hX h17 hq
    obtain ⟨x22, x23, x24, x25⟩ := hq
    have hX1 := ThkL_s (a := 26) (j := p) (v := 9 - (k : Int)) hX (by omega)
    have h1 : ∀ j, (j = 4 ∨ (10 ≤ j ∧ j < 15)) → mset X 26 p (9 - (k : Int)) 17 j = M 7 j := fun j hj => by
      rw [mset_ne _ _ _ (by omega)]
      exact h17 j hj
    have e0 : mset X 26 p (9 - (k : Int)) 26 p = 9 - (k : Int) := mset_eq
    have u22 : mset X 26 p (9 - (k : Int)) 22 p = M 12 p := by rw [mset_ne _ _ _ (by omega)]; exact x22
    have u23 : mset X 26 p (9 - (k : Int)) 23 p = M 13 p := by rw [mset_ne _ _ _ (by omega)]; exact x23
    have u24 : mset X 26 p (9 - (k : Int)) 24 p = M 14 p := by rw [mset_ne _ _ _ (by omega)]; exact x24
    have u25 : mset X 26 p (9 - (k : Int)) 25 p = M 15 p := by rw [mset_ne _ _ _ (by omega)]; exact x25
    have e4 := h1 4 (by omega)
    have e11 := h1 11 (by omega)
    have e12 := h1 12 (by omega)
    have e13 := h1 13 (by omega)
    have e14 := h1 14 (by omega)
    have x13 := h17 13 (by omega)
    have tp : (M 7 13).toNat = p := by omega
    have hF : FyC (mset X 26 p (9 - (k : Int))) 17 := fyC_th hI hX1.1 (str_thL hI hX1 e4) (by omega) (by omega) (fun hw => by
      rw [e13, tp]
      unfold PlO
      omega) (by omega) (by omega)
    obtain ⟨X2, f, a⟩ := cov_th hS hI hX1.1 hX1.2.2.1 hF
    rw [th_flL hI hX1 e4, e11, e12, e13, e14, tp, e0, u22, u23, u24, u25, hp, show flN M (p : Int) (M 7 11) (M 7 12) (M 12 p) (M 13 p) (M 14 p) (M 15 p) (9 - (k : Int)) (M 7 14) = flE M p (9 - (k : Int)) from rfl] at f a
    have h2 : ∀ j, (j = 4 ∨ (10 ≤ j ∧ j < 15)) → X2 17 j = M 7 j := fun j hj => by
      rw [a.1 17 (by omega)]
      exact h1 j hj
    have h3 : X2 22 p = M 12 p ∧ X2 23 p = M 13 p ∧ X2 24 p = M 14 p ∧ X2 25 p = M 15 p := by
      rw [a.1 22 (by omega), a.1 23 (by omega), a.1 24 (by omega), a.1 25 (by omega)]
      exact ⟨u22, u23, u24, u25⟩
    have e5 : w32 (9 - (k : Int) + -1) = 9 - (k : Int) + -1 := w32_o (by omega) (by omega)
    rw [g66_46]
    by_cases hm : cv ≤ cvN M (flE M p (9 - (k : Int)))
    · refine ⟨X2, ?_, FrC_t hX1.1 (FrT_C a.1)⟩
      rw [fst_t (c := fun k => cvN M (flE M p (9 - (k : Int)))) hm]
      rcases hx with rfl | rfl
      all_goals simp (disch := omega) only [g66_0, g66_1, g66_4t, g66_4f, g66_7, g66_9, g66_10, g66_11, g66_14, g66_17, g66_18t, g66_18f, g66_21, g66_22, g66_23, g66_24, g66_25, g66_28, g66_31, g66_32, g66_33, g66_36, g66_37, g66_40, g66_43, g66_45, g66_47, g66_48t, g66_48f, g66_51, g66_52, g66_55, g66_58, g66_59, g66_62, g66_65, g66_66, g66_69, g66_70, g66_71, g66_74, g66_77, g66_78t, g66_78f, g66_81, g66_82t, g66_82f, g66_85, g66_86, g66_89, g66_90, g66_93, g66_96, g66_97, g66_100, g66_103, g66_104, cont_1, cont_0, w32_k, put_in, Int.toNat_natCast, P6_0 hS, P6_1 hS, P6_9 hS, P17_9 hS, x13, hp, f, a.2.2.1, pick_0, pick_1]
    · obtain ⟨X3, z, fr⟩ := ih (k + 1) X2 (by omega) (ThkL_T hX1 a.1) h2 h3
      refine ⟨X3, ?_, fr⟩
      rw [fst_f (c := fun k => cvN M (flE M p (9 - (k : Int)))) hm, ← z, show (9 : Int) - ((k + 1 : Nat) : Int) = 9 - (k : Int) + -1 by omega]
      simp (disch := omega) only [g66_0, g66_1, g66_4t, g66_4f, g66_7, g66_9, g66_10, g66_11, g66_14, g66_17, g66_18t, g66_18f, g66_21, g66_22, g66_23, g66_24, g66_25, g66_28, g66_31, g66_32, g66_33, g66_36, g66_37, g66_40, g66_43, g66_45, g66_47, g66_48t, g66_48f, g66_51, g66_52, g66_55, g66_58, g66_59, g66_62, g66_65, g66_66, g66_69, g66_70, g66_71, g66_74, g66_77, g66_78t, g66_78f, g66_81, g66_82t, g66_82f, g66_85, g66_86, g66_89, g66_90, g66_93, g66_96, g66_97, g66_100, g66_103, g66_104, cont_1, cont_0, w32_k, put_in, Int.toNat_natCast, P6_0 hS, P6_1 hS, P6_9 hS, P17_9 hS, x13, hp, f, e5]
theorem seldom_m {n r p : Nat} {x1 cv : Int} {sc : Nat → Int} {M : Mem} {S : Sh} (hr : 17 < r) (hS : Std n S) (hI : Inv sc M) (hx : x1 = 0 ∨ x1 = 1) (hp : M 84 4 = (p : Int)) : ∀ (rem k : Nat) (Y : Mem), k + rem = 9 → FrE (3 * p + 2) M Y → ∃ Y', go r 156 54 [some (aR 84), some (aI x1), some (aI cv), some (aI (3 * (p : Int) + 2)), some (aI (M 89 (3 * p + 2))), some (aI (-1)), some (aI (-1)), some (aI (9 - (k : Int)))] [] Y S = some (some (aI (pick x1 (fstF (fun k => cvN M (flE M p (9 - (k : Int)))) (fun k => (flE M p (9 - (k : Int))).1.2.1) (fun k => 9 - (k : Int)) cv rem k))), Y', S) ∧ FrM M Y' := by
  have k84 := K84 hS
  have k89 := K89 hS
  have l89 := L89 hS
  have hP := hI.2.2.1
  have hN := hI.2.2.2.1
  have p1 := hP.1
  have p3 := hP.2.2.1
  have t1 := hI.2.2.2.2.1.1
  have t5 := hI.2.2.2.2.1.2.2.1
  obtain ⟨n1, n2, n3, n4, n5, n6, n7, n8, n9, n10, n11, n12⟩ := hN
  obtain ⟨w0, w1, w2, w3, w4, v0, v1, v2, v3, _, _, _, _, v4, v5⟩ := hP.2.2.2 p (by omega)
  have i3 : (3 * (p : Int) + 2).toNat = 3 * p + 2 := by omega
  intro rem
  induction rem with
  | zero =>
    intro k Y hk hY
    rw [g156_54]
    rcases hx with rfl | rfl
    all_goals simp (disch := omega) only [g156_0, g156_1, g156_2, g156_3, g156_6t, g156_6f, g156_9, g156_11, g156_12, g156_13, g156_16, g156_17t, g156_17f, g156_20, g156_21, g156_22, g156_23, g156_26, g156_27, g156_28, g156_29, g156_32, g156_33, g156_34, g156_35, g156_36, g156_37, g156_40, g156_41, g156_42, g156_44, g156_45, g156_47, g156_48, g156_50, g156_52, g156_56, g156_57t, g156_57f, g156_60, g156_62, g156_63t, g156_63f, g156_66, g156_67, g156_70, g156_71, g156_73, g156_74, g156_75, g156_78, g156_79t, g156_79f, g156_82, g156_84, g156_86, g156_87, g156_90, g156_92, g156_95, g156_98, g156_99, g156_102, g156_103, g156_105, g156_106, g156_107t, g156_107f, g156_110, g156_112, g156_115, g156_117, cont_1, cont_0, w32_k, P84_8 hS, i3]
    all_goals exact ⟨_, rfl, FrE_end hY⟩
  | succ rem ih =>
    intro k Y hk hY
    have hY1 : FrE (3 * p + 2) M (mset Y 89 (3 * p + 2) (9 - (k : Int))) := FrE_s hY
    have h1 := hY1.2.2
    have e9 := h1 9 (by omega)
    have e43 := h1 43 (by omega)
    have e2 := h1 2 (by omega)
    have e3 := h1 3 (by omega)
    have e4 := h1 4 (by omega)
    have e17 := h1 17 (by omega)
    have tp : ((p : Int)).toNat = p := by omega
    have u4 := e4.trans hp
    have u87 : (mset Y 89 (3 * p + 2) (9 - (k : Int))) 87 = M 87 := hY1.1 87 (by omega) (by omega) (by omega)
    have u88 : (mset Y 89 (3 * p + 2) (9 - (k : Int))) 88 = M 88 := hY1.1 88 (by omega) (by omega) (by omega)
    have u89 : (mset Y 89 (3 * p + 2) (9 - (k : Int))) 89 (3 * p) = M 89 (3 * p) := hY1.2.1 _ (by omega)
    have u891 : (mset Y 89 (3 * p + 2) (9 - (k : Int))) 89 (3 * p + 1) = M 89 (3 * p + 1) := hY1.2.1 _ (by omega)
    have u892 : (mset Y 89 (3 * p + 2) (9 - (k : Int))) 89 (3 * p + 2) = 9 - (k : Int) := mset_eq
    have r90 : (mset Y 89 (3 * p + 2) (9 - (k : Int))) 90 = M 90 := hY1.1 90 (by omega) (by omega) (by omega)
    have r91 : (mset Y 89 (3 * p + 2) (9 - (k : Int))) 91 = M 91 := hY1.1 91 (by omega) (by omega) (by omega)
    have hF : FyM (mset Y 89 (3 * p + 2) (9 - (k : Int))) := fyM_mk hI (hY1.1 93 (by omega) (by omega) (by omega)) (hY1.1 94 (by omega) (by omega) (by omega)) (by
      rw [e9, r90, r91]
      exact (fyM_of hI).1.1) (by
      rw [hY1.1 86 (by omega) (by omega) (by omega)]
      exact (fyM_of hI).1.2.1) (by omega) (by omega) (fun _ => by
      rw [u4, tp, u87, u88, u892]
      omega) (by omega) (by omega)
    obtain ⟨Y2, f, a⟩ := cov_md (M := M) hS (fun q hq => by
      rw [hY1.1 86 (by omega) (by omega) (by omega)]
      exact (hI.1 q hq).2.1) hF
    rw [md_fl (M := M) ⟨fun q hq => by
      rw [hY1.1 85 (by omega) (by omega) (by omega)]
      exact (hI.1 q hq).1, hY1.1 93 (by omega) (by omega) (by omega), hY1.1 94 (by omega) (by omega) (by omega)⟩ (e9.trans hI.2.1.1) (e43.trans hI.2.2.2.2.2.2.2.1.2.1) (fun q hq => by
      rw [r90, r91]
      exact ⟨(hI.2.1.2.2.2 q hq).1, (hI.2.1.2.2.2 q hq).2.1⟩), u4, tp, u87, u88, u89, u891, u892, e2, e3, e17, n1, n4, n10, w0, w1, w2, w3, show flN M (p : Int) (M 7 11) (M 7 12) (M 12 p) (M 13 p) (M 14 p) (M 15 p) (9 - (k : Int)) (M 7 14) = flE M p (9 - (k : Int)) from rfl] at f a
    have e5 : w32 (9 - (k : Int) + -1) = 9 - (k : Int) + -1 := w32_o (by omega) (by omega)
    have fr := FrE_N hY1 a.1
    rw [g156_54]
    by_cases hm : cv ≤ cvN M (flE M p (9 - (k : Int)))
    · rw [fst_t (c := fun k => cvN M (flE M p (9 - (k : Int)))) hm]
      simp (disch := omega) only [g156_0, g156_1, g156_2, g156_3, g156_6t, g156_6f, g156_9, g156_11, g156_12, g156_13, g156_16, g156_17t, g156_17f, g156_20, g156_21, g156_22, g156_23, g156_26, g156_27, g156_28, g156_29, g156_32, g156_33, g156_34, g156_35, g156_36, g156_37, g156_40, g156_41, g156_42, g156_44, g156_45, g156_47, g156_48, g156_50, g156_52, g156_56, g156_57t, g156_57f, g156_60, g156_62, g156_63t, g156_63f, g156_66, g156_67, g156_70, g156_71, g156_73, g156_74, g156_75, g156_78, g156_79t, g156_79f, g156_82, g156_84, g156_86, g156_87, g156_90, g156_92, g156_95, g156_98, g156_99, g156_102, g156_103, g156_105, g156_106, g156_107t, g156_107f, g156_110, g156_112, g156_115, g156_117, cont_1, cont_0, w32_k, P84_8 hS, i3, mset_ne, f, a.2.2.1, e5]
      rw [g156_54]
      rcases (by omega : k = 8 ∨ k < 8) with hk8 | hk8
      all_goals rcases hx with rfl | rfl
      all_goals simp (disch := omega) only [g156_0, g156_1, g156_2, g156_3, g156_6t, g156_6f, g156_9, g156_11, g156_12, g156_13, g156_16, g156_17t, g156_17f, g156_20, g156_21, g156_22, g156_23, g156_26, g156_27, g156_28, g156_29, g156_32, g156_33, g156_34, g156_35, g156_36, g156_37, g156_40, g156_41, g156_42, g156_44, g156_45, g156_47, g156_48, g156_50, g156_52, g156_56, g156_57t, g156_57f, g156_60, g156_62, g156_63t, g156_63f, g156_66, g156_67, g156_70, g156_71, g156_73, g156_74, g156_75, g156_78, g156_79t, g156_79f, g156_82, g156_84, g156_86, g156_87, g156_90, g156_92, g156_95, g156_98, g156_99, g156_102, g156_103, g156_105, g156_106, g156_107t, g156_107f, g156_110, g156_112, g156_115, g156_117, cont_1, cont_0, w32_k, P84_8 hS, i3, mset_ne, f, pick_0, pick_1]
      all_goals exact ⟨_, rfl, FrE_end fr⟩
    · obtain ⟨Y3, z, fr⟩ := ih (k + 1) Y2 (by omega) fr
      refine ⟨Y3, ?_, fr⟩
      rw [fst_f (c := fun k => cvN M (flE M p (9 - (k : Int)))) hm, ← z, show (9 : Int) - ((k + 1 : Nat) : Int) = 9 - (k : Int) + -1 by omega]
      simp (disch := omega) only [g156_0, g156_1, g156_2, g156_3, g156_6t, g156_6f, g156_9, g156_11, g156_12, g156_13, g156_16, g156_17t, g156_17f, g156_20, g156_21, g156_22, g156_23, g156_26, g156_27, g156_28, g156_29, g156_32, g156_33, g156_34, g156_35, g156_36, g156_37, g156_40, g156_41, g156_42, g156_44, g156_45, g156_47, g156_48, g156_50, g156_52, g156_56, g156_57t, g156_57f, g156_60, g156_62, g156_63t, g156_63f, g156_66, g156_67, g156_70, g156_71, g156_73, g156_74, g156_75, g156_78, g156_79t, g156_79f, g156_82, g156_84, g156_86, g156_87, g156_90, g156_92, g156_95, g156_98, g156_99, g156_102, g156_103, g156_105, g156_106, g156_107t, g156_107f, g156_110, g156_112, g156_115, g156_117, cont_1, cont_0, w32_k, P84_8 hS, i3, mset_ne, f, e5]
theorem p_seldom {x1 : Int} {n : Nat} {sc : Nat → Int} {M : Mem} {S : Sh} (hS : Std n S) (hI : Inv sc M) : Pr (res 66 [aR 6, aI x1] M S) (PQ 156 [aR 84, aI x1] n S.2.2.2.1 S.2.2.2.2 sc) := by
  have k6 := K6 hS
  have k7 := K7 hS
  have k17 := K17 hS
  have k84 := K84 hS
  have k89 := K89 hS
  have l89 := L89 hS
  have n7 := hI.2.2.2.1.2.2.2.2.2.2.1
  have n8 := hI.2.2.2.1.2.2.2.2.2.2.2.1
  have n9 := hI.2.2.2.1.2.2.2.2.2.2.2.2.1
  have pp3 := hI.2.2.1.2.2.1
  rcases (by omega : (x1 ≠ 0 ∧ x1 ≠ 1) ∨ (x1 = 0 ∨ x1 = 1)) with hx | hx
  · refine PQ_mk (v := aI (-2)) (M1 := M) (M2 := M) ?_ ?_ hI hS
    · rw [g66]
      simp (disch := omega) only [g66_0, g66_1, g66_4t, g66_4f, g66_7, g66_9, g66_10, g66_11, g66_14, g66_17, g66_18t, g66_18f, g66_21, g66_22, g66_23, g66_24, g66_25, g66_28, g66_31, g66_32, g66_33, g66_36, g66_37, g66_40, g66_43, g66_45, g66_47, g66_48t, g66_48f, g66_51, g66_52, g66_55, g66_58, g66_59, g66_62, g66_65, g66_66, g66_69, g66_70, g66_71, g66_74, g66_77, g66_78t, g66_78f, g66_81, g66_82t, g66_82f, g66_85, g66_86, g66_89, g66_90, g66_93, g66_96, g66_97, g66_100, g66_103, g66_104, cont_1, cont_0, w32_k, isHalf_f]
    · rw [g156]
      rcases (by omega : x1 < 0 ∨ 1 < x1) with hy | hy
      all_goals simp (disch := omega) only [g156_0, g156_1, g156_2, g156_3, g156_6t, g156_6f, g156_9, g156_11, g156_12, g156_13, g156_16, g156_17t, g156_17f, g156_20, g156_21, g156_22, g156_23, g156_26, g156_27, g156_28, g156_29, g156_32, g156_33, g156_34, g156_35, g156_36, g156_37, g156_40, g156_41, g156_42, g156_44, g156_45, g156_47, g156_48, g156_50, g156_52, g156_56, g156_57t, g156_57f, g156_60, g156_62, g156_63t, g156_63f, g156_66, g156_67, g156_70, g156_71, g156_73, g156_74, g156_75, g156_78, g156_79t, g156_79f, g156_82, g156_84, g156_86, g156_87, g156_90, g156_92, g156_95, g156_98, g156_99, g156_102, g156_103, g156_105, g156_106, g156_107t, g156_107f, g156_110, g156_112, g156_115, g156_117, cont_1, cont_0, w32_k, in_f]
  · by_cases hw : M 7 13 = -1
    · refine PQ_mk (v := aI (-1)) (M1 := M) (M2 := M) ?_ ?_ hI hS
      · rw [g66]
        simp (disch := omega) only [g66_0, g66_1, g66_4t, g66_4f, g66_7, g66_9, g66_10, g66_11, g66_14, g66_17, g66_18t, g66_18f, g66_21, g66_22, g66_23, g66_24, g66_25, g66_28, g66_31, g66_32, g66_33, g66_36, g66_37, g66_40, g66_43, g66_45, g66_47, g66_48t, g66_48f, g66_51, g66_52, g66_55, g66_58, g66_59, g66_62, g66_65, g66_66, g66_69, g66_70, g66_71, g66_74, g66_77, g66_78t, g66_78f, g66_81, g66_82t, g66_82f, g66_85, g66_86, g66_89, g66_90, g66_93, g66_96, g66_97, g66_100, g66_103, g66_104, cont_1, cont_0, w32_k, isHalf_t, P6_0 hS, hw]
      · rw [g156]
        simp (disch := omega) only [g156_0, g156_1, g156_2, g156_3, g156_6t, g156_6f, g156_9, g156_11, g156_12, g156_13, g156_16, g156_17t, g156_17f, g156_20, g156_21, g156_22, g156_23, g156_26, g156_27, g156_28, g156_29, g156_32, g156_33, g156_34, g156_35, g156_36, g156_37, g156_40, g156_41, g156_42, g156_44, g156_45, g156_47, g156_48, g156_50, g156_52, g156_56, g156_57t, g156_57f, g156_60, g156_62, g156_63t, g156_63f, g156_66, g156_67, g156_70, g156_71, g156_73, g156_74, g156_75, g156_78, g156_79t, g156_79f, g156_82, g156_84, g156_86, g156_87, g156_90, g156_92, g156_95, g156_98, g156_99, g156_102, g156_103, g156_105, g156_106, g156_107t, g156_107f, g156_110, g156_112, g156_115, g156_117, cont_1, cont_0, w32_k, in_t, n7, hw]
    · obtain ⟨p, hp⟩ : ∃ p : Nat, M 7 13 = (p : Int) := ⟨(M 7 13).toNat, by omega⟩
      have i1 : w32 (3 * (p : Int)) = 3 * (p : Int) := w32_o (by omega) (by omega)
      have i2 : w32 (3 * (p : Int) + 2) = 3 * (p : Int) + 2 := w32_o (by omega) (by omega)
      have i3 : (3 * (p : Int) + 2).toNat = 3 * p + 2 := by omega
      obtain ⟨Ma, fa, aa⟩ := cov_now hS hI
      obtain ⟨X0, f0, t0⟩ := take_17_7 hS (M := Ma)
      obtain ⟨hX0, h17⟩ := Thk_of2 (FrT_C aa.1) t0
      obtain ⟨x22, x23, x24, x25, x26⟩ := hX0.2.2.2.2 p (by omega)
      obtain ⟨M1, z1, fr1⟩ := seldom_c (r := 16) (cv := cvN M (flC M 7)) (by omega) hS hI hx hp 9 0 X0 (by omega) (Thk_L hX0) h17 ⟨x22, x23, x24, x25⟩
      have hI1 := Inv_frC hI fr1
      have r84 : M1 84 = M 84 := fr1 84 (by unfold scrC; omega)
      have e4 : M1 84 4 = (p : Int) := by rw [r84, n7]; exact hp
      obtain ⟨Yb, fb, ab⟩ := flyM hS hI1
      have r9 : M1 9 = M 9 := fr1 9 (by unfold scrC; omega)
      rw [flC_fr fr1, r9] at fb
      have frb := FrN_M ab.1
      have eb89 : Yb 89 = M1 89 := frb.1 89 (by omega) (by omega)
      have eb4 : Yb 84 4 = (p : Int) := (frb.2 4 (by omega)).trans e4
      obtain ⟨M2, z2, fr2⟩ := seldom_m (r := 18) (cv := cvN M (flC M 7)) (by omega) hS hI1 hx e4 9 0 Yb (by omega) (FrE_of frb)
      have es : fstF (fun k => cvN M1 (flE M1 p (9 - (k : Int)))) (fun k => (flE M1 p (9 - (k : Int))).1.2.1) (fun k => 9 - (k : Int)) (cvN M (flC M 7)) 9 0 = slF M p := by
        have q := congrFun (slF_fr fr1) p
        unfold slF at q ⊢
        rw [flC_fr fr1, show cvN M1 (flC M 7) = cvN M (flC M 7) by unfold cvN; rw [r9]] at q
        exact q
      rw [es] at z2
      refine PQ_mk (v := aI (pick x1 (slF M p))) (M1 := M1) (M2 := M2) ?_ ?_ (Inv_frM hI1 fr2) hS
      · rw [g66]
        simp (disch := omega) only [g66_0, g66_1, g66_4t, g66_4f, g66_7, g66_9, g66_10, g66_11, g66_14, g66_17, g66_18t, g66_18f, g66_21, g66_22, g66_23, g66_24, g66_25, g66_28, g66_31, g66_32, g66_33, g66_36, g66_37, g66_40, g66_43, g66_45, g66_47, g66_48t, g66_48f, g66_51, g66_52, g66_55, g66_58, g66_59, g66_62, g66_65, g66_66, g66_69, g66_70, g66_71, g66_74, g66_77, g66_78t, g66_78f, g66_81, g66_82t, g66_82f, g66_85, g66_86, g66_89, g66_90, g66_93, g66_96, g66_97, g66_100, g66_103, g66_104, cont_1, cont_0, w32_k, isHalf_t, P6_0 hS, P6_1 hS, fa, f0]
        exact z1
      · rw [g156]
        simp (disch := omega) only [g156_0, g156_1, g156_2, g156_3, g156_6t, g156_6f, g156_9, g156_11, g156_12, g156_13, g156_16, g156_17t, g156_17f, g156_20, g156_21, g156_22, g156_23, g156_26, g156_27, g156_28, g156_29, g156_32, g156_33, g156_34, g156_35, g156_36, g156_37, g156_40, g156_41, g156_42, g156_44, g156_45, g156_47, g156_48, g156_50, g156_52, g156_56, g156_57t, g156_57f, g156_60, g156_62, g156_63t, g156_63f, g156_66, g156_67, g156_70, g156_71, g156_73, g156_74, g156_75, g156_78, g156_79t, g156_79f, g156_82, g156_84, g156_86, g156_87, g156_90, g156_92, g156_95, g156_98, g156_99, g156_102, g156_103, g156_105, g156_106, g156_107t, g156_107f, g156_110, g156_112, g156_115, g156_117, cont_1, cont_0, w32_k, in_t, e4, fb, eb4, eb89, P84_8 hS, i1, i2, i3]
        exact z2
