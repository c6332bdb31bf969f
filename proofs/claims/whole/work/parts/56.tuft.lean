/-! tuft -/
theorem cnt_one {f g : Nat → Int} {many : Int} {m : Nat} (h : ∀ k, k ≠ m → g k = f k) (hm : f m < many) : ∀ N, cnt g many N = cnt f many N + (if m < N ∧ many ≤ g m then 1 else 0) := by
  intro N
  induction N with
  | zero => rfl
  | succ N ih =>
    rw [cnt, cnt, ih]
    by_cases e : N = m
    · subst e
      rw [if_neg (by omega), if_neg (c := many ≤ f N) (by omega)]
      by_cases e2 : many ≤ g N
      · rw [if_pos e2, if_pos ⟨by omega, e2⟩]
      · rw [if_neg e2, if_neg (fun z => e2 z.2)]
    · rw [h N e]
      by_cases e2 : m < N ∧ many ≤ g m
      · rw [if_pos e2, if_pos (c := m < N + 1 ∧ many ≤ g m) ⟨by omega, e2.2⟩]
        omega
      · rw [if_neg e2, if_neg (c := m < N + 1 ∧ many ≤ g m) (by omega)]
        omega
/-- without the cloud of mile m -/
theorem cnt_cloud {cl ov : Nat → Int} {m : Nat} (h1 : m < 192) (hc : cl m = 1) : cnt (mskF (fset cl m 0) ov) 1 192 = cnt (mskF cl ov) 1 192 + (if 0 < ov m then 1 else 0) := by
  rw [cnt_one (f := mskF cl ov) (m := m) (fun k hk => by unfold mskF; rw [fset_ne _ _ hk]) (by unfold mskF; rw [if_neg (by omega)]; omega) 192]
  congr 1
  have e : mskF (fset cl m 0) ov m = ov m := by unfold mskF; rw [fset_eq, if_pos rfl]
  rw [e]
  by_cases h : 0 < ov m
  · rw [if_pos h, if_pos ⟨h1, by omega⟩]
  · rw [if_neg h, if_neg (by omega)]
def tftF (cl ov : Nat → Int) (cv : Int) : Nat → Nat → Int × Int
  | 0, _ => (-1, cv)
  | rem + 1, k => if cl k ≠ 0 ∧ 0 < ov k then ((k : Int), cv + 1) else tftF cl ov cv rem (k + 1)
theorem tft_t {cl ov : Nat → Int} {cv : Int} {rem k : Nat} (h : cl k ≠ 0 ∧ 0 < ov k) : tftF cl ov cv (rem + 1) k = ((k : Int), cv + 1) := if_pos h
theorem tft_f {cl ov : Nat → Int} {cv : Int} {rem k : Nat} (h : ¬ (cl k ≠ 0 ∧ 0 < ov k)) : tftF cl ov cv (rem + 1) k = tftF cl ov cv rem (k + 1) := if_neg h
theorem tuft_c {n r : Nat} {x1 cv : Int} {ov : Nat → Int} {M : Mem} {S : Sh} (hr : 10 < r) (hS : Std n S) (hx : x1 = 0 ∨ x1 = 1) (cv0 : 0 ≤ cv) (cv1 : cv ≤ 192) (ho : ∀ k, k < 192 → M 41 k = ov k) : ∀ (rem k : Nat), k + rem = 192 → go r 69 21 [some (aR 6), some (aI x1), some (aI cv), some (aI (k : Int))] [] M S = some (some (aI (pick x1 (tftF (M 9) ov cv rem k))), M, S) := by
  have k6 := K6 hS
  have k7 := K7 hS
  have k9 := K9 hS
  have k40 := K40 hS
  have k41 := K41 hS
  have l9 := L9 hS
  have l41 := L41 hS
  intro rem
  induction rem with
  | zero =>
    intro k hk
    rw [g69_21]
    rcases hx with rfl | rfl
    all_goals simp (disch := omega) only [g69_0, g69_1, g69_4t, g69_4f, g69_7, g69_9, g69_10, g69_11, g69_12, g69_15, g69_18, g69_19, g69_20, g69_22, g69_25t, g69_25f, g69_28, g69_29, g69_32, g69_35, g69_36, g69_39t, g69_39f, g69_42, g69_43, g69_46, g69_49, g69_50, g69_53t, g69_53f, g69_56, g69_57t, g69_57f, g69_60, g69_61, g69_64, g69_65, g69_66, g69_67, g69_68, g69_71, g69_74, g69_75t, g69_75f, g69_78, g69_79, g69_82, g69_83, cont_1, cont_0, w32_k]
    all_goals rfl
  | succ rem ih =>
    intro k hk
    have z := ih (k + 1) (by omega)
    rw [nc_1] at z
    have e1 : w32 (cv + 1) = cv + 1 := w32_o (by omega) (by omega)
    rw [g69_21]
    by_cases h1 : M 9 k = 0
    · rw [tft_f (fun z => z.1 h1), ← z]
      simp (disch := omega) only [g69_0, g69_1, g69_4t, g69_4f, g69_7, g69_9, g69_10, g69_11, g69_12, g69_15, g69_18, g69_19, g69_20, g69_22, g69_25t, g69_25f, g69_28, g69_29, g69_32, g69_35, g69_36, g69_39t, g69_39f, g69_42, g69_43, g69_46, g69_49, g69_50, g69_53t, g69_53f, g69_56, g69_57t, g69_57f, g69_60, g69_61, g69_64, g69_65, g69_66, g69_67, g69_68, g69_71, g69_74, g69_75t, g69_75f, g69_78, g69_79, g69_82, g69_83, cont_1, cont_0, w32_k, at_in, P6_0 hS, P6_9 hS, P7_1 hS, Int.toNat_natCast]
    · by_cases h2 : 0 < ov k
      · rw [tft_t ⟨h1, h2⟩]
        rcases hx with rfl | rfl
        all_goals simp (disch := omega) only [g69_0, g69_1, g69_4t, g69_4f, g69_7, g69_9, g69_10, g69_11, g69_12, g69_15, g69_18, g69_19, g69_20, g69_22, g69_25t, g69_25f, g69_28, g69_29, g69_32, g69_35, g69_36, g69_39t, g69_39f, g69_42, g69_43, g69_46, g69_49, g69_50, g69_53t, g69_53f, g69_56, g69_57t, g69_57f, g69_60, g69_61, g69_64, g69_65, g69_66, g69_67, g69_68, g69_71, g69_74, g69_75t, g69_75f, g69_78, g69_79, g69_82, g69_83, cont_1, cont_0, w32_k, at_in, P6_0 hS, P6_9 hS, P7_1 hS, P40_0 hS, Int.toNat_natCast, ho, e1, pick_0, pick_1]
      · rw [tft_f (fun z => h2 z.2), ← z]
        simp (disch := omega) only [g69_0, g69_1, g69_4t, g69_4f, g69_7, g69_9, g69_10, g69_11, g69_12, g69_15, g69_18, g69_19, g69_20, g69_22, g69_25t, g69_25f, g69_28, g69_29, g69_32, g69_35, g69_36, g69_39t, g69_39f, g69_42, g69_43, g69_46, g69_49, g69_50, g69_53t, g69_53f, g69_56, g69_57t, g69_57f, g69_60, g69_61, g69_64, g69_65, g69_66, g69_67, g69_68, g69_71, g69_74, g69_75t, g69_75f, g69_78, g69_79, g69_82, g69_83, cont_1, cont_0, w32_k, at_in, P6_0 hS, P6_9 hS, P7_1 hS, P40_0 hS, Int.toNat_natCast, ho]
theorem flMd_rows {M Y : Mem} (h : ∀ j, j = 2 ∨ j = 3 ∨ j = 4 ∨ j = 9 ∨ j = 17 → Y 84 j = M 84 j) (r : ∀ a, a = 85 ∨ (87 ≤ a ∧ a ≤ 91) ∨ a = 93 ∨ a = 94 → Y a = M a) : flMd Y = flMd M := by
  funext lf
  unfold flMd cdT stT
  rw [h 2 (by omega), h 3 (by omega), h 4 (by omega), h 9 (by omega), h 17 (by omega), r 85 (by omega), r 87 (by omega), r 88 (by omega), r 89 (by omega), r 90 (by omega), r 91 (by omega), r 93 (by omega), r 94 (by omega)]
/-- a flight of the model under other clouds -/
theorem fly_clouds {n : Nat} {sc : Nat → Int} {M Y : Mem} {S : Sh} (hS : Std n S) (hI : Inv sc M) (h84 : ∀ k, (k < 26 ∨ k = 43) → Y 84 k = M 84 k) (r : ∀ a, 85 ≤ a → a ≤ 94 → a ≠ 86 → Y a = M a) (hc : ∀ k, k < 192 → Y 86 k = 0 ∨ Y 86 k = 1) : ∃ Y', res 146 [aR 84] Y S = some (some (aI ((cnt (mskF (Y 86) (flC M 7).1.1) 1 192 : Nat) : Int)), Y', S) ∧ AfM Y (flC M 7) Y' := by
  obtain ⟨⟨o, oc, o3, o4, o5⟩, d⟩ := fyM_of hI
  have e4 := h84 4 (by omega)
  have e9 := h84 9 (by omega)
  have e17 := h84 17 (by omega)
  have N := hI.2.2.2.1
  have hF : FyM Y := fyM_mk hI (r 93 (by omega) (by omega) (by omega)) (r 94 (by omega) (by omega) (by omega)) (by
    rw [e9, r 90 (by omega) (by omega) (by omega), r 91 (by omega) (by omega) (by omega)]
    exact o) hc (by rw [e4]; exact o3) (by rw [e4]; exact o4) (by
    rw [e4, r 87 (by omega) (by omega) (by omega), r 88 (by omega) (by omega) (by omega), r 89 (by omega) (by omega) (by omega)]
    exact o5) (by rw [e17, N.2.2.2.2.2.2.2.2.2.1]; exact N.2.2.2.2.2.2.2.2.2.2.1) (by rw [e17, N.2.2.2.2.2.2.2.2.2.1]; exact N.2.2.2.2.2.2.2.2.2.2.2)
  obtain ⟨Y', h, a⟩ := flown_ hS hF.1 hF.2
  rw [flMd_rows (M := M) (fun j hj => h84 j (by omega)) (fun a ha => r a (by omega) (by omega) (by omega)), h84 43 (by omega), hI.2.2.2.2.2.2.2.1.2.1, fl_eq hI] at h a
  exact ⟨Y', h, a⟩
theorem tuft_m2 {n r : Nat} {x1 b cv : Int} {sc : Nat → Int} {M : Mem} {S : Sh} (hr : 17 < r) (hS : Std n S) (hI : Inv sc M) (hx : x1 = 0 ∨ x1 = 1) (hcv : cv = cvN M (flC M 7)) : ∀ (rem k : Nat) (Y : Mem) (l5 : Option AV), k + rem = 192 → FrM M Y → ∃ Y', go r 159 22 [some (aR 84), some (aI x1), some (aI b), some (aI (cv + 1)), some (aI (k : Int)), l5] [] Y S = some (some (aI (pick x1 (b, cv + 1))), Y', S) ∧ FrM M Y' := by
  have k84 := K84 hS
  have k86 := K86 hS
  have l86 := L86 hS
  intro rem
  induction rem with
  | zero =>
    intro k Y l5 hk hY
    rw [g159_22]
    rcases hx with rfl | rfl
    all_goals simp (disch := omega) only [g159_0, g159_1, g159_2, g159_3, g159_6t, g159_6f, g159_9, g159_11, g159_12, g159_13, g159_14, g159_15, g159_18, g159_19, g159_20, g159_24, g159_27t, g159_27f, g159_30, g159_31, g159_34, g159_36, g159_37, g159_38t, g159_38f, g159_41, g159_42, g159_45, g159_47, g159_48, g159_49, g159_50, g159_53, g159_55, g159_56, g159_59, g159_61, g159_62, g159_63, g159_65, g159_66t, g159_66f, g159_69, g159_71, g159_74, g159_75, g159_76, g159_78, g159_79t, g159_79f, g159_82, g159_84, g159_87, g159_88, g159_89, g159_92, g159_95, g159_96t, g159_96f, g159_99, g159_100, g159_103, g159_104, cont_1, cont_0, w32_k]
    all_goals exact ⟨Y, rfl, hY⟩
  | succ rem ih =>
    intro k Y l5 hk hY
    have r86 : Y 86 = M 86 := hY.1 86 (by omega) (by omega)
    rw [g159_22]
    by_cases h1 : M 86 k = 1
    · obtain ⟨Y2, f, a⟩ := fly_clouds (Y := mset Y 86 k 0) hS hI (fun j hj => by rw [mset_ne _ _ _ (by omega)]; exact hY.2 j hj) (fun x h0 h2 h3 => by rw [mset_ne _ _ _ h3]; exact hY.1 x (by omega) (by omega)) (fun j hj => by
        by_cases hjk : j = k
        · rw [hjk, mset_eq]; omega
        · rw [mset_nk _ hjk, r86]; exact (fyM_of hI).1.2.1 j hj)
      have e : mset Y 86 k 0 86 = fset (M 86) k 0 := by
        rw [mset_row, mrow_eq, r86]
      rw [e, cnt_cloud (by omega) h1, cnt_ext (msk_eq hI)] at f
      have hY3 : FrM M (mset Y2 86 k 1) := by
        refine ⟨fun x e1 e2 => ?_, fun j hj => ?_⟩
        · by_cases e3 : x = 86
          · rw [e3, mset_row, mrow_eq, a.1.1 86 (by omega) (by omega), e]
            funext j
            by_cases hj : j = k
            · rw [hj, fset_eq, h1]
            · rw [fset_ne _ _ hj, fset_ne _ _ hj]
          · rw [mset_ne _ _ _ e3, a.1.1 x e1 (by omega), mset_ne _ _ _ e3]
            exact hY.1 x e1 e2
        · rw [mset_ne _ _ _ (by omega), a.1.2 j (by omega), mset_ne _ _ _ (by omega)]
          exact hY.2 j hj
      have ge : ∀ q : Nat, ((cnt (mskF (M 9) (flC M 7).1.1) 1 192 + q : Nat) : Int) = cv + q := fun q => by rw [hcv]; unfold cvN; omega
      rw [ge] at f
      have hle : (if 0 < (flC M 7).1.1 k then 1 else 0) ≤ 1 := by split <;> omega
      obtain ⟨Y4, z, fr⟩ := ih (k + 1) (mset Y2 86 k 1) (some (aI (cv + ((if 0 < (flC M 7).1.1 k then 1 else 0 : Nat) : Int)))) (by omega) hY3
      rw [nc_1] at z
      refine ⟨Y4, ?_, fr⟩
      rw [← z]
      simp (disch := omega) only [g159_0, g159_1, g159_2, g159_3, g159_6t, g159_6f, g159_9, g159_11, g159_12, g159_13, g159_14, g159_15, g159_18, g159_19, g159_20, g159_24, g159_27t, g159_27f, g159_30, g159_31, g159_34, g159_36, g159_37, g159_38t, g159_38f, g159_41, g159_42, g159_45, g159_47, g159_48, g159_49, g159_50, g159_53, g159_55, g159_56, g159_59, g159_61, g159_62, g159_63, g159_65, g159_66t, g159_66f, g159_69, g159_71, g159_74, g159_75, g159_76, g159_78, g159_79t, g159_79f, g159_82, g159_84, g159_87, g159_88, g159_89, g159_92, g159_95, g159_96t, g159_96f, g159_99, g159_100, g159_103, g159_104, cont_1, cont_0, w32_k, P84_1 hS, Int.toNat_natCast, r86, h1, f]
    · obtain ⟨Y4, z, fr⟩ := ih (k + 1) Y l5 (by omega) hY
      rw [nc_1] at z
      refine ⟨Y4, ?_, fr⟩
      rw [← z]
      simp (disch := omega) only [g159_0, g159_1, g159_2, g159_3, g159_6t, g159_6f, g159_9, g159_11, g159_12, g159_13, g159_14, g159_15, g159_18, g159_19, g159_20, g159_24, g159_27t, g159_27f, g159_30, g159_31, g159_34, g159_36, g159_37, g159_38t, g159_38f, g159_41, g159_42, g159_45, g159_47, g159_48, g159_49, g159_50, g159_53, g159_55, g159_56, g159_59, g159_61, g159_62, g159_63, g159_65, g159_66t, g159_66f, g159_69, g159_71, g159_74, g159_75, g159_76, g159_78, g159_79t, g159_79f, g159_82, g159_84, g159_87, g159_88, g159_89, g159_92, g159_95, g159_96t, g159_96f, g159_99, g159_100, g159_103, g159_104, cont_1, cont_0, w32_k, P84_1 hS, Int.toNat_natCast, r86]
theorem tuft_m {n r : Nat} {x1 cv : Int} {sc : Nat → Int} {M : Mem} {S : Sh} (hr : 17 < r) (hS : Std n S) (hI : Inv sc M) (hx : x1 = 0 ∨ x1 = 1) (hcv : cv = cvN M (flC M 7)) : ∀ (rem k : Nat) (Y : Mem) (l5 : Option AV), k + rem = 192 → FrM M Y → ∃ Y', go r 159 22 [some (aR 84), some (aI x1), some (aI (-1)), some (aI cv), some (aI (k : Int)), l5] [] Y S = some (some (aI (pick x1 (tftF (M 9) (flC M 7).1.1 cv rem k))), Y', S) ∧ FrM M Y' := by
  have k84 := K84 hS
  have k86 := K86 hS
  have l86 := L86 hS
  intro rem
  induction rem with
  | zero =>
    intro k Y l5 hk hY
    rw [g159_22]
    rcases hx with rfl | rfl
    all_goals simp (disch := omega) only [g159_0, g159_1, g159_2, g159_3, g159_6t, g159_6f, g159_9, g159_11, g159_12, g159_13, g159_14, g159_15, g159_18, g159_19, g159_20, g159_24, g159_27t, g159_27f, g159_30, g159_31, g159_34, g159_36, g159_37, g159_38t, g159_38f, g159_41, g159_42, g159_45, g159_47, g159_48, g159_49, g159_50, g159_53, g159_55, g159_56, g159_59, g159_61, g159_62, g159_63, g159_65, g159_66t, g159_66f, g159_69, g159_71, g159_74, g159_75, g159_76, g159_78, g159_79t, g159_79f, g159_82, g159_84, g159_87, g159_88, g159_89, g159_92, g159_95, g159_96t, g159_96f, g159_99, g159_100, g159_103, g159_104, cont_1, cont_0, w32_k]
    all_goals exact ⟨Y, rfl, hY⟩
  | succ rem ih =>
    intro k Y l5 hk hY
    have r86 : Y 86 = M 86 := hY.1 86 (by omega) (by omega)
    have r9 : M 86 k = M 9 k := (hI.1 k (by omega)).2.1
    have c01 := (fyM_of hI).1.2.1 k (by omega)
    rw [g159_22]
    by_cases h1 : M 86 k = 1
    · obtain ⟨Y2, f, a⟩ := fly_clouds (Y := mset Y 86 k 0) hS hI (fun j hj => by rw [mset_ne _ _ _ (by omega)]; exact hY.2 j hj) (fun x h0 h2 h3 => by rw [mset_ne _ _ _ h3]; exact hY.1 x (by omega) (by omega)) (fun j hj => by
        by_cases hjk : j = k
        · rw [hjk, mset_eq]; omega
        · rw [mset_nk _ hjk, r86]; exact (fyM_of hI).1.2.1 j hj)
      have e : mset Y 86 k 0 86 = fset (M 86) k 0 := by
        rw [mset_row, mrow_eq, r86]
      rw [e, cnt_cloud (by omega) h1, cnt_ext (msk_eq hI)] at f
      have hY3 : FrM M (mset Y2 86 k 1) := by
        refine ⟨fun x e1 e2 => ?_, fun j hj => ?_⟩
        · by_cases e3 : x = 86
          · rw [e3, mset_row, mrow_eq, a.1.1 86 (by omega) (by omega), e]
            funext j
            by_cases hj : j = k
            · rw [hj, fset_eq, h1]
            · rw [fset_ne _ _ hj, fset_ne _ _ hj]
          · rw [mset_ne _ _ _ e3, a.1.1 x e1 (by omega), mset_ne _ _ _ e3]
            exact hY.1 x e1 e2
        · rw [mset_ne _ _ _ (by omega), a.1.2 j (by omega), mset_ne _ _ _ (by omega)]
          exact hY.2 j hj
      by_cases h2 : 0 < (flC M 7).1.1 k
      · rw [if_pos h2] at f
        have ge : ((cnt (mskF (M 9) (flC M 7).1.1) 1 192 + 1 : Nat) : Int) = cv + 1 := by rw [hcv]; unfold cvN; omega
        rw [ge] at f
        obtain ⟨Y4, z, fr⟩ := tuft_m2 (b := (k : Int)) hr hS hI hx hcv rem (k + 1) (mset Y2 86 k 1) (some (aI (cv + 1))) (by omega) hY3
        rw [nc_1] at z
        refine ⟨Y4, ?_, fr⟩
        rw [tft_t ⟨by omega, h2⟩, ← z]
        simp (disch := omega) only [g159_0, g159_1, g159_2, g159_3, g159_6t, g159_6f, g159_9, g159_11, g159_12, g159_13, g159_14, g159_15, g159_18, g159_19, g159_20, g159_24, g159_27t, g159_27f, g159_30, g159_31, g159_34, g159_36, g159_37, g159_38t, g159_38f, g159_41, g159_42, g159_45, g159_47, g159_48, g159_49, g159_50, g159_53, g159_55, g159_56, g159_59, g159_61, g159_62, g159_63, g159_65, g159_66t, g159_66f, g159_69, g159_71, g159_74, g159_75, g159_76, g159_78, g159_79t, g159_79f, g159_82, g159_84, g159_87, g159_88, g159_89, g159_92, g159_95, g159_96t, g159_96f, g159_99, g159_100, g159_103, g159_104, cont_1, cont_0, w32_k, P84_1 hS, Int.toNat_natCast, r86, h1, f]
      · rw [if_neg h2] at f
        have ge : ((cnt (mskF (M 9) (flC M 7).1.1) 1 192 + 0 : Nat) : Int) = cv := by rw [hcv]; unfold cvN; omega
        rw [ge] at f
        obtain ⟨Y4, z, fr⟩ := ih (k + 1) (mset Y2 86 k 1) (some (aI cv)) (by omega) hY3
        rw [nc_1] at z
        refine ⟨Y4, ?_, fr⟩
        rw [tft_f (fun z => h2 z.2), ← z]
        simp (disch := omega) only [g159_0, g159_1, g159_2, g159_3, g159_6t, g159_6f, g159_9, g159_11, g159_12, g159_13, g159_14, g159_15, g159_18, g159_19, g159_20, g159_24, g159_27t, g159_27f, g159_30, g159_31, g159_34, g159_36, g159_37, g159_38t, g159_38f, g159_41, g159_42, g159_45, g159_47, g159_48, g159_49, g159_50, g159_53, g159_55, g159_56, g159_59, g159_61, g159_62, g159_63, g159_65, g159_66t, g159_66f, g159_69, g159_71, g159_74, g159_75, g159_76, g159_78, g159_79t, g159_79f, g159_82, g159_84, g159_87, g159_88, g159_89, g159_92, g159_95, g159_96t, g159_96f, g159_99, g159_100, g159_103, g159_104, cont_1, cont_0, w32_k, P84_1 hS, Int.toNat_natCast, r86, h1, f]
    · obtain ⟨Y4, z, fr⟩ := ih (k + 1) Y l5 (by omega) hY
      rw [nc_1] at z
      refine ⟨Y4, ?_, fr⟩
      rw [tft_f (fun z => z.1 (by omega)), ← z]
      simp (disch := omega) only [g159_0, g159_1, g159_2, g159_3, g159_6t, g159_6f, g159_9, g159_11, g159_12, g159_13, g159_14, g159_15, g159_18, g159_19, g159_20, g159_24, g159_27t, g159_27f, g159_30, g159_31, g159_34, g159_36, g159_37, g159_38t, g159_38f, g159_41, g159_42, g159_45, g159_47, g159_48, g159_49, g159_50, g159_53, g159_55, g159_56, g159_59, g159_61, g159_62, g159_63, g159_65, g159_66t, g159_66f, g159_69, g159_71, g159_74, g159_75, g159_76, g159_78, g159_79t, g159_79f, g159_82, g159_84, g159_87, g159_88, g159_89, g159_92, g159_95, g159_96t, g159_96f, g159_99, g159_100, g159_103, g159_104, cont_1, cont_0, w32_k, P84_1 hS, Int.toNat_natCast, r86]
theorem p_tuft {x1 : Int} {n : Nat} {sc : Nat → Int} {M : Mem} {S : Sh} (hS : Std n S) (hI : Inv sc M) : Pr (res 69 [aR 6, aI x1] M S) (PQ 159 [aR 84, aI x1] n S.2.2.2.1 S.2.2.2.2 sc) := by
  have k6 := K6 hS
  have k7 := K7 hS
  have k84 := K84 hS
  rcases (by omega : (x1 ≠ 0 ∧ x1 ≠ 1) ∨ (x1 = 0 ∨ x1 = 1)) with hx | hx
  · refine PQ_mk (v := aI (-2)) (M1 := M) (M2 := M) ?_ ?_ hI hS
    · rw [g69]
      simp (disch := omega) only [g69_0, g69_1, g69_4t, g69_4f, g69_7, g69_9, g69_10, g69_11, g69_12, g69_15, g69_18, g69_19, g69_20, g69_22, g69_25t, g69_25f, g69_28, g69_29, g69_32, g69_35, g69_36, g69_39t, g69_39f, g69_42, g69_43, g69_46, g69_49, g69_50, g69_53t, g69_53f, g69_56, g69_57t, g69_57f, g69_60, g69_61, g69_64, g69_65, g69_66, g69_67, g69_68, g69_71, g69_74, g69_75t, g69_75f, g69_78, g69_79, g69_82, g69_83, cont_1, cont_0, w32_k, isHalf_f]
    · rw [g159]
      rcases (by omega : x1 < 0 ∨ 1 < x1) with hy | hy
      all_goals simp (disch := omega) only [g159_0, g159_1, g159_2, g159_3, g159_6t, g159_6f, g159_9, g159_11, g159_12, g159_13, g159_14, g159_15, g159_18, g159_19, g159_20, g159_24, g159_27t, g159_27f, g159_30, g159_31, g159_34, g159_36, g159_37, g159_38t, g159_38f, g159_41, g159_42, g159_45, g159_47, g159_48, g159_49, g159_50, g159_53, g159_55, g159_56, g159_59, g159_61, g159_62, g159_63, g159_65, g159_66t, g159_66f, g159_69, g159_71, g159_74, g159_75, g159_76, g159_78, g159_79t, g159_79f, g159_82, g159_84, g159_87, g159_88, g159_89, g159_92, g159_95, g159_96t, g159_96f, g159_99, g159_100, g159_103, g159_104, cont_1, cont_0, w32_k, in_f]
  · obtain ⟨M1, f1, a1⟩ := cov_now hS hI
    have fr1 := FrT_C a1.1
    have hI1 := Inv_frC hI fr1
    have cb := cnt_cv (M := M) (R := flC M 7)
    have r9 : M1 9 = M 9 := fr1 9 (by unfold scrC; omega)
    have z1 := tuft_c (r := 16) (M := M1) (cv := cvN M (flC M 7)) (by omega) hS hx cb.1 cb.2 a1.2.1 192 0 (by omega)
    obtain ⟨Yb, fb, ab⟩ := flyM hS hI1
    have ecv : cvN M (flC M 7) = cvN M1 (flC M1 7) := by unfold cvN; rw [flC_fr fr1, r9]
    obtain ⟨M2, z2, fr2⟩ := tuft_m (r := 18) (cv := cvN M (flC M 7)) (by omega) hS hI1 hx ecv 192 0 Yb none (by omega) (FrN_M ab.1)
    rw [flC_fr fr1] at fb z2
    rw [r9] at fb z1
    rw [r9] at z2
    refine PQ_mk (v := aI (pick x1 (tftF (M 9) (flC M 7).1.1 (cvN M (flC M 7)) 192 0))) (M1 := M1) (M2 := M2) ?_ ?_ (Inv_frM hI1 fr2) hS
    · rw [g69]
      simp (disch := omega) only [g69_0, g69_1, g69_4t, g69_4f, g69_7, g69_9, g69_10, g69_11, g69_12, g69_15, g69_18, g69_19, g69_20, g69_22, g69_25t, g69_25f, g69_28, g69_29, g69_32, g69_35, g69_36, g69_39t, g69_39f, g69_42, g69_43, g69_46, g69_49, g69_50, g69_53t, g69_53f, g69_56, g69_57t, g69_57f, g69_60, g69_61, g69_64, g69_65, g69_66, g69_67, g69_68, g69_71, g69_74, g69_75t, g69_75f, g69_78, g69_79, g69_82, g69_83, cont_1, cont_0, w32_k, isHalf_t, P6_0 hS, f1]
      exact z1
    · rw [g159]
      simp (disch := omega) only [g159_0, g159_1, g159_2, g159_3, g159_6t, g159_6f, g159_9, g159_11, g159_12, g159_13, g159_14, g159_15, g159_18, g159_19, g159_20, g159_24, g159_27t, g159_27f, g159_30, g159_31, g159_34, g159_36, g159_37, g159_38t, g159_38f, g159_41, g159_42, g159_45, g159_47, g159_48, g159_49, g159_50, g159_53, g159_55, g159_56, g159_59, g159_61, g159_62, g159_63, g159_65, g159_66t, g159_66f, g159_69, g159_71, g159_74, g159_75, g159_76, g159_78, g159_79t, g159_79f, g159_82, g159_84, g159_87, g159_88, g159_89, g159_92, g159_95, g159_96t, g159_96f, g159_99, g159_100, g159_103, g159_104, cont_1, cont_0, w32_k, in_t, fb]
      exact z2
