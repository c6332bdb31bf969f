/-! sheets -/
def SheS (S : Sh) (s : Nat) : Prop := S.1 (76 + 2 * s) = 4 ∧ S.1 (77 + 2 * s) = 7 ∧ S.2.1 (77 + 2 * s) = 40 ∧ S.2.2.1 (76 + 2 * s) 0 = some (77 + 2 * s)
theorem sheS_of {n s : Nat} {S : Sh} (hS : Std n S) (h : s < 4) : SheS S s := by
  rcases (by omega : s = 0 ∨ s = 1 ∨ s = 2 ∨ s = 3) with rfl | rfl | rfl | rfl
  · exact ⟨K76 hS, K77 hS, L77 hS, P76_0 hS⟩
  · exact ⟨K78 hS, K79 hS, L79 hS, P78_0 hS⟩
  · exact ⟨K80 hS, K81 hS, L81 hS, P80_0 hS⟩
  · exact ⟨K82 hS, K83 hS, L83 hS, P82_0 hS⟩
theorem sheetAt_ {n s : Nat} {M : Mem} {S : Sh} (hS : Std n S) (h : s < 4) : res 89 [aR 6, aI (s : Int)] M S = some (some (aR (76 + 2 * s)), M, S) := by
  have k6 := K6 hS
  have k39 := K39 hS
  have l39 := L39 hS
  rcases (by omega : s = 0 ∨ s = 1 ∨ s = 2 ∨ s = 3) with rfl | rfl | rfl | rfl
  all_goals rw [g89]
  all_goals simp (disch := omega) only [g89_0, g89_1t, g89_1f, g89_4, g89_5, g89_6, g89_9, g89_10t, g89_10f, g89_13, g89_14, g89_17, g89_18, g89_19, g89_22, g89_23, g89_23n, cont_1, cont_0, w32_k, P6_8 hS, Int.toNat_natCast, P39_0 hS, P39_1 hS, P39_2 hS, P39_3 hS]
theorem sheetAt_n {n : Nat} {s : Int} {M : Mem} {S : Sh} (hS : Std n S) (h : s < 0 ∨ 3 < s) : res 89 [aR 6, aI s] M S = some (some aN, M, S) := by
  have k6 := K6 hS
  have k39 := K39 hS
  have l39 := L39 hS
  rcases h with h | h
  all_goals rw [g89]
  all_goals simp (disch := omega) only [g89_0, g89_1t, g89_1f, g89_4, g89_5, g89_6, g89_9, g89_10t, g89_10f, g89_13, g89_14, g89_17, g89_18, g89_19, g89_22, g89_23, g89_23n, cont_1, cont_0, w32_k, P6_8 hS]
/-- why a sheet can't tell of a row -/
def refV (M : Mem) (s y : Int) : Int := if s < 0 ∨ 3 < s then -2 else if M 98 s.toNat = -1 then -11 else if M 99 s.toNat ≠ 12 then -2 else if y < 0 ∨ 15 < y then -5 else 0
theorem refusalOf_ {n : Nat} {sc : Nat → Int} {s y : Int} {M : Mem} {S : Sh} (hS : Std n S) (hI : Inv sc M) : res 94 [aR 6, aI s, aI y] M S = some (some (aI (refV M s y)), M, S) := by
  have k6 := K6 hS
  unfold refV
  by_cases hs : s < 0 ∨ 3 < s
  · rw [if_pos hs, g94]
    simp (disch := omega) only [g94_0, g94_1, g94_2, g94_5, g94_5n, g94_6, g94_6n, g94_7, g94_7n, g94_10, g94_12, g94_13, g94_13n, g94_14, g94_17, g94_18t, g94_18f, g94_21, g94_23, g94_24, g94_24n, g94_25, g94_28, g94_30t, g94_30f, g94_33, g94_35, g94_36, g94_37t, g94_37f, g94_40, g94_41, g94_43t, g94_43f, g94_46, g94_48, g94_51, g94_52, cont_1, cont_0, w32_k, sheetAt_n hS hs]
  · rw [if_neg hs]
    obtain ⟨q, rfl⟩ : ∃ q : Nat, s = (q : Int) := ⟨s.toNat, by omega⟩
    rw [Int.toNat_natCast]
    obtain ⟨e1, _, _, e2, _⟩ := hI.2.2.2.2.2.2.1 q (by omega)
    obtain ⟨sk, _⟩ := sheS_of hS (s := q) (by omega)
    have hq : q < 4 := by omega
    rw [e1, e2, g94]
    by_cases h1 : M (76 + 2 * q) 1 = -1
    · rw [if_pos h1]
      simp (disch := omega) only [g94_0, g94_1, g94_2, g94_5, g94_5n, g94_6, g94_6n, g94_7, g94_7n, g94_10, g94_12, g94_13, g94_13n, g94_14, g94_17, g94_18t, g94_18f, g94_21, g94_23, g94_24, g94_24n, g94_25, g94_28, g94_30t, g94_30f, g94_33, g94_35, g94_36, g94_37t, g94_37f, g94_40, g94_41, g94_43t, g94_43f, g94_46, g94_48, g94_51, g94_52, cont_1, cont_0, w32_k, sheetAt_ hS hq]
    · rw [if_neg h1]
      by_cases h2 : M (76 + 2 * q) 2 = 12
      · rw [if_neg (by omega)]
        rcases (by omega : y < 0 ∨ 15 < y ∨ (0 ≤ y ∧ y ≤ 15)) with h3 | h3 | h3
        · rw [if_pos (by omega)]
          simp (disch := omega) only [g94_0, g94_1, g94_2, g94_5, g94_5n, g94_6, g94_6n, g94_7, g94_7n, g94_10, g94_12, g94_13, g94_13n, g94_14, g94_17, g94_18t, g94_18f, g94_21, g94_23, g94_24, g94_24n, g94_25, g94_28, g94_30t, g94_30f, g94_33, g94_35, g94_36, g94_37t, g94_37f, g94_40, g94_41, g94_43t, g94_43f, g94_46, g94_48, g94_51, g94_52, cont_1, cont_0, w32_k, sheetAt_ hS hq]
        · rw [if_pos (by omega)]
          simp (disch := omega) only [g94_0, g94_1, g94_2, g94_5, g94_5n, g94_6, g94_6n, g94_7, g94_7n, g94_10, g94_12, g94_13, g94_13n, g94_14, g94_17, g94_18t, g94_18f, g94_21, g94_23, g94_24, g94_24n, g94_25, g94_28, g94_30t, g94_30f, g94_33, g94_35, g94_36, g94_37t, g94_37f, g94_40, g94_41, g94_43t, g94_43f, g94_46, g94_48, g94_51, g94_52, cont_1, cont_0, w32_k, sheetAt_ hS hq]
        · rw [if_neg (by omega)]
          simp (disch := omega) only [g94_0, g94_1, g94_2, g94_5, g94_5n, g94_6, g94_6n, g94_7, g94_7n, g94_10, g94_12, g94_13, g94_13n, g94_14, g94_17, g94_18t, g94_18f, g94_21, g94_23, g94_24, g94_24n, g94_25, g94_28, g94_30t, g94_30f, g94_33, g94_35, g94_36, g94_37t, g94_37f, g94_40, g94_41, g94_43t, g94_43f, g94_46, g94_48, g94_51, g94_52, cont_1, cont_0, w32_k, sheetAt_ hS hq]
      · rw [if_pos h2]
        simp (disch := omega) only [g94_0, g94_1, g94_2, g94_5, g94_5n, g94_6, g94_6n, g94_7, g94_7n, g94_10, g94_12, g94_13, g94_13n, g94_14, g94_17, g94_18t, g94_18f, g94_21, g94_23, g94_24, g94_24n, g94_25, g94_28, g94_30t, g94_30f, g94_33, g94_35, g94_36, g94_37t, g94_37f, g94_40, g94_41, g94_43t, g94_43f, g94_46, g94_48, g94_51, g94_52, cont_1, cont_0, w32_k, sheetAt_ hS hq]
theorem toldWrong_ {n : Nat} {sc : Nat → Int} {s y : Int} {M : Mem} {S : Sh} (hS : Std n S) (hI : Inv sc M) : res 160 [aR 84, aI s, aI y] M S = some (some (aI (refV M s y)), M, S) := by
  have k84 := K84 hS
  have k98 := K98 hS
  have k99 := K99 hS
  have l98 := L98 hS
  have l99 := L99 hS
  unfold refV
  by_cases hs : s < 0 ∨ 3 < s
  · rw [if_pos hs, g160]
    simp (disch := omega) only [g160_0, g160_1, g160_2, g160_3, g160_6t, g160_6f, g160_9, g160_11, g160_12, g160_13, g160_16, g160_17, g160_18, g160_19t, g160_19f, g160_22, g160_24, g160_25, g160_26, g160_29, g160_30, g160_31, g160_33t, g160_33f, g160_36, g160_38, g160_41, g160_42, g160_43, g160_45, g160_48t, g160_48f, g160_51, g160_52, g160_55, g160_57, cont_1, cont_0, w32_k, in_f]
  · rw [if_neg hs, g160]
    by_cases h1 : M 98 s.toNat = -1
    · rw [if_pos h1]
      simp (disch := omega) only [g160_0, g160_1, g160_2, g160_3, g160_6t, g160_6f, g160_9, g160_11, g160_12, g160_13, g160_16, g160_17, g160_18, g160_19t, g160_19f, g160_22, g160_24, g160_25, g160_26, g160_29, g160_30, g160_31, g160_33t, g160_33f, g160_36, g160_38, g160_41, g160_42, g160_43, g160_45, g160_48t, g160_48f, g160_51, g160_52, g160_55, g160_57, cont_1, cont_0, w32_k, in_t, P84_22 hS, P84_23 hS]
    · rw [if_neg h1]
      by_cases h2 : M 99 s.toNat = 12
      · rw [if_neg (by omega)]
        by_cases h3 : y < 0 ∨ 15 < y
        · rw [if_pos h3]
          simp (disch := omega) only [g160_0, g160_1, g160_2, g160_3, g160_6t, g160_6f, g160_9, g160_11, g160_12, g160_13, g160_16, g160_17, g160_18, g160_19t, g160_19f, g160_22, g160_24, g160_25, g160_26, g160_29, g160_30, g160_31, g160_33t, g160_33f, g160_36, g160_38, g160_41, g160_42, g160_43, g160_45, g160_48t, g160_48f, g160_51, g160_52, g160_55, g160_57, cont_1, cont_0, w32_k, in_t, in_f, P84_22 hS, P84_23 hS]
        · rw [if_neg h3]
          simp (disch := omega) only [g160_0, g160_1, g160_2, g160_3, g160_6t, g160_6f, g160_9, g160_11, g160_12, g160_13, g160_16, g160_17, g160_18, g160_19t, g160_19f, g160_22, g160_24, g160_25, g160_26, g160_29, g160_30, g160_31, g160_33t, g160_33f, g160_36, g160_38, g160_41, g160_42, g160_43, g160_45, g160_48t, g160_48f, g160_51, g160_52, g160_55, g160_57, cont_1, cont_0, w32_k, in_t, P84_22 hS, P84_23 hS]
      · rw [if_pos h2]
        simp (disch := omega) only [g160_0, g160_1, g160_2, g160_3, g160_6t, g160_6f, g160_9, g160_11, g160_12, g160_13, g160_16, g160_17, g160_18, g160_19t, g160_19f, g160_22, g160_24, g160_25, g160_26, g160_29, g160_30, g160_31, g160_33t, g160_33f, g160_36, g160_38, g160_41, g160_42, g160_43, g160_45, g160_48t, g160_48f, g160_51, g160_52, g160_55, g160_57, cont_1, cont_0, w32_k, in_t, P84_22 hS, P84_23 hS]
theorem refV_fr {M M' : Mem} (h : FrC M M') : refV M' = refV M := by
  funext s y
  unfold refV
  rw [h 98 (by unfold scrC; omega), h 99 (by unfold scrC; omega)]
theorem refV_0 {M : Mem} {s y : Int} (h : refV M s y = 0) : 0 ≤ s ∧ s < 4 ∧ 0 ≤ y ∧ y < 16 := by
  unfold refV at h
  split at h
  · omega
  · split at h
    · omega
    · split at h
      · omega
      · split at h
        · omega
        · omega
/-- the first column that is otherwise -/
def unlF (c f : Nat → Int) : Nat → Nat → Int
  | 0, _ => -1
  | rem + 1, k => if c k = f k then unlF c f rem (k + 1) else (k : Int)
theorem unlF_ext {c c' f f' : Nat → Int} {N : Nat} (h1 : ∀ k, k < N → c k = c' k) (h2 : ∀ k, k < N → f k = f' k) : ∀ rem k, k + rem = N → unlF c f rem k = unlF c' f' rem k := by
  intro rem
  induction rem with
  | zero => intro k _; rfl
  | succ rem ih =>
    intro k hk
    rw [unlF, unlF, h1 k (by omega), h2 k (by omega), ih (k + 1) (by omega)]
def unV (M : Mem) (s y : Nat) (R : FS × Int) : Int := unlF (M (77 + 2 * s)) (fun k => mskF (M 9) R.1.1 (12 * y + k)) 12 0
theorem fo_loop {n r b s : Nat} {y : Nat} {M : Mem} {S : Sh} (hr : 11 < r) (hS : Std n S) (hB : SceneS S b) (hs : s < 4) (hy : y < 16) : ∀ (rem k : Nat), k + rem = 12 → go r 95 33 [some (aR 6), some (aR b), some (aI (s : Int)), some (aI (y : Int)), some (aR (76 + 2 * s)), some (aI (k : Int))] [] M S = some (some (aI (unlF (M (77 + 2 * s)) (fun k => mskF (M (b + 2)) (M 41) (12 * y + k)) rem k)), M, S) := by
  have k6 := K6 hS
  have k40 := K40 hS
  have k41 := K41 hS
  have l41 := L41 hS
  obtain ⟨⟨k3, kk1, kk2, _⟩, ⟨_, sl2, _⟩, P0, P1, _⟩ := hB.2
  obtain ⟨sk, sk7, sl, sp⟩ := sheS_of hS hs
  have hb := hB.1
  intro rem
  induction rem with
  | zero =>
    intro k hk
    rw [g95_33]
    simp (disch := omega) only [g95_0, g95_1, g95_2, g95_5, g95_5n, g95_7, g95_7n, g95_9, g95_9n, g95_12, g95_13, g95_14, g95_15, g95_18, g95_18n, g95_19, g95_20, g95_20n, g95_21, g95_24, g95_27, g95_30, g95_31, g95_35, g95_37t, g95_37f, g95_40, g95_40n, g95_42, g95_45, g95_47, g95_50, g95_51, g95_54, g95_54n, g95_55, g95_58, g95_60, g95_61, g95_62, g95_64, g95_65, g95_68t, g95_68f, g95_71, g95_73, g95_74, g95_77, g95_80, g95_81, cont_1, cont_0, w32_k]
    rfl
  | succ rem ih =>
    intro k hk
    have z := ih (k + 1) (by omega)
    rw [nc_1] at z
    have e1 : (12 * (y : Int) + (k : Int)).toNat = 12 * y + k := by omega
    rw [g95_33, unlF]
    by_cases h : M (77 + 2 * s) k = mskF (M (b + 2)) (M 41) (12 * y + k)
    · rw [if_pos h]
      simp (disch := omega) only [g95_0, g95_1, g95_2, g95_5, g95_5n, g95_7, g95_7n, g95_9, g95_9n, g95_12, g95_13, g95_14, g95_15, g95_18, g95_18n, g95_19, g95_20, g95_20n, g95_21, g95_24, g95_27, g95_30, g95_31, g95_35, g95_37t, g95_37f, g95_40, g95_40n, g95_42, g95_45, g95_47, g95_50, g95_51, g95_54, g95_54n, g95_55, g95_58, g95_60, g95_61, g95_62, g95_64, g95_65, g95_68t, g95_68f, g95_71, g95_73, g95_74, g95_77, g95_80, g95_81, cont_1, cont_0, w32_k, w32_o, at_in, sp, P1, P6_9 hS, times_ hS kk2 sl2, Int.toNat_natCast, e1]
      exact z
    · rw [if_neg h]
      simp (disch := omega) only [g95_0, g95_1, g95_2, g95_5, g95_5n, g95_7, g95_7n, g95_9, g95_9n, g95_12, g95_13, g95_14, g95_15, g95_18, g95_18n, g95_19, g95_20, g95_20n, g95_21, g95_24, g95_27, g95_30, g95_31, g95_35, g95_37t, g95_37f, g95_40, g95_40n, g95_42, g95_45, g95_47, g95_50, g95_51, g95_54, g95_54n, g95_55, g95_58, g95_60, g95_61, g95_62, g95_64, g95_65, g95_68t, g95_68f, g95_71, g95_73, g95_74, g95_77, g95_80, g95_81, cont_1, cont_0, w32_k, w32_o, at_in, sp, P1, P6_9 hS, times_ hS kk2 sl2, Int.toNat_natCast, e1]
theorem fo_ {n b s y : Nat} {sc : Nat → Int} {M X : Mem} {S : Sh} (hS : Std n S) (hC : iCst sc X) (hb : b = 7 ∨ b = 17) (hc : ∀ k, k < 192 → X (b + 2) k = M 9 k) (hr : X (77 + 2 * s) = M (77 + 2 * s)) (hF : FyC X b) (hs : s < 4) (hy : y < 16) : ∃ X', res 95 [aR 6, aR b, aI (s : Int), aI (y : Int)] X S = some (some (aI (unV M s y (flC X b))), X', S) ∧ AfC X (flC X b) X' := by
  obtain ⟨o, t0, t6, d⟩ := hF
  obtain ⟨X', h, a⟩ := flyC_ hS hC hb o t0 t6 d
  have a := afC_AfC t0 t6 a
  have hB := sceneS_of hS hb
  refine ⟨X', ?_, a⟩
  have k6 := K6 hS
  have k40 := K40 hS
  obtain ⟨⟨k3, kk1, kk2, _⟩, ⟨_, sl2, _⟩, P0, P1, _⟩ := hB.2
  have z := fo_loop (r := 15) (M := X') (by omega) hS hB hs hy 12 0 (by omega)
  have e : unlF (X' (77 + 2 * s)) (fun k => mskF (X' (b + 2)) (X' 41) (12 * y + k)) 12 0 = unV M s y (flC X b) := by
    refine unlF_ext (N := 12) (fun k hk => ?_) (fun k hk => ?_) 12 0 (by omega)
    · rw [a.1 (77 + 2 * s) (by unfold scrC; omega), hr]
    · show mskF (X' (b + 2)) (X' 41) (12 * y + k) = mskF (M 9) (flC X b).1.1 (12 * y + k)
      unfold mskF
      rw [a.1 (b + 2) (by omega), a.2.1 _ (by omega), hc _ (by omega)]
  rw [e] at z
  rw [g95]
  simp (disch := omega) only [g95_0, g95_1, g95_2, g95_5, g95_5n, g95_7, g95_7n, g95_9, g95_9n, g95_12, g95_13, g95_14, g95_15, g95_18, g95_18n, g95_19, g95_20, g95_20n, g95_21, g95_24, g95_27, g95_30, g95_31, g95_35, g95_37t, g95_37f, g95_40, g95_40n, g95_42, g95_45, g95_47, g95_50, g95_51, g95_54, g95_54n, g95_55, g95_58, g95_60, g95_61, g95_62, g95_64, g95_65, g95_68t, g95_68f, g95_71, g95_73, g95_74, g95_77, g95_80, g95_81, cont_1, cont_0, w32_k, sheetAt_ hS hs, P6_9 hS, lawT_ hS, h]
  exact z
theorem ul_loop {n r s y : Nat} {M : Mem} {S : Sh} (hS : Std n S) (hs : s < 4) (hy : y < 16) : ∀ (rem k : Nat), k + rem = 12 → go r 161 7 [some (aR 84), some (aI (s : Int)), some (aI (y : Int)), some (aI (k : Int))] [] M S = some (some (aI (unlF (fun k => M 100 (40 * s + k)) (fun k => M 106 (12 * y + k)) rem k)), M, S) := by
  have k84 := K84 hS
  have k100 := K100 hS
  have k106 := K106 hS
  have l100 := L100 hS
  have l106 := L106 hS
  intro rem
  induction rem with
  | zero =>
    intro k hk
    rw [g161_7]
    simp (disch := omega) only [g161_0, g161_1, g161_4, g161_5, g161_6, g161_8, g161_10t, g161_10f, g161_13, g161_14, g161_17, g161_19, g161_20, g161_21, g161_22, g161_23, g161_24, g161_25, g161_28, g161_30, g161_31, g161_32, g161_33, g161_34, g161_35t, g161_35f, g161_38, g161_39, g161_40, g161_43, g161_46, g161_47, cont_1, cont_0, w32_k]
    rfl
  | succ rem ih =>
    intro k hk
    have z := ih (k + 1) (by omega)
    rw [nc_1] at z
    have e1 : (12 * (y : Int) + (k : Int)).toNat = 12 * y + k := by omega
    have e2 : (40 * (s : Int) + (k : Int)).toNat = 40 * s + k := by omega
    rw [g161_7, unlF]
    by_cases h : M 100 (40 * s + k) = M 106 (12 * y + k)
    · rw [if_pos h]
      simp (disch := omega) only [g161_0, g161_1, g161_4, g161_5, g161_6, g161_8, g161_10t, g161_10f, g161_13, g161_14, g161_17, g161_19, g161_20, g161_21, g161_22, g161_23, g161_24, g161_25, g161_28, g161_30, g161_31, g161_32, g161_33, g161_34, g161_35t, g161_35f, g161_38, g161_39, g161_40, g161_43, g161_46, g161_47, cont_1, cont_0, w32_k, w32_o, P84_24 hS, P84_37 hS, e1, e2]
      exact z
    · rw [if_neg h]
      simp (disch := omega) only [g161_0, g161_1, g161_4, g161_5, g161_6, g161_8, g161_10t, g161_10f, g161_13, g161_14, g161_17, g161_19, g161_20, g161_21, g161_22, g161_23, g161_24, g161_25, g161_28, g161_30, g161_31, g161_32, g161_33, g161_34, g161_35t, g161_35f, g161_38, g161_39, g161_40, g161_43, g161_46, g161_47, cont_1, cont_0, w32_k, w32_o, P84_24 hS, P84_37 hS, e1, e2]
theorem ul_ {n s y : Nat} {M Y : Mem} {S : Sh} (hS : Std n S) (hc : ∀ k, k < 192 → Y 86 k = M 9 k) (hr : ∀ k, k < 12 → Y 100 (40 * s + k) = M (77 + 2 * s) k) (hF : FyM Y) (hs : s < 4) (hy : y < 16) : ∃ Y', res 161 [aR 84, aI (s : Int), aI (y : Int)] Y S = some (some (aI (unV M s y (flMd Y (Y 84 43)))), Y', S) ∧ AfM Y (flMd Y (Y 84 43)) Y' := by
  obtain ⟨o, d⟩ := hF
  obtain ⟨Y', h, a⟩ := flown_ hS o d
  refine ⟨Y', ?_, a⟩
  have k84 := K84 hS
  have z := ul_loop (r := 18) (M := Y') hS hs hy 12 0 (by omega)
  have e : unlF (fun k => Y' 100 (40 * s + k)) (fun k => Y' 106 (12 * y + k)) 12 0 = unV M s y (flMd Y (Y 84 43)) := by
    refine unlF_ext (N := 12) (fun k hk => ?_) (fun k hk => ?_) 12 0 (by omega)
    · show Y' 100 (40 * s + k) = M (77 + 2 * s) k
      rw [a.1.1 100 (by omega) (by omega), hr k hk]
    · show Y' 106 (12 * y + k) = mskF (M 9) (flMd Y (Y 84 43)).1.1 (12 * y + k)
      rw [a.2.1 _ (by omega)]
      unfold mskF
      rw [hc _ (by omega)]
  rw [e] at z
  rw [g161]
  simp (disch := omega) only [g161_0, g161_1, g161_4, g161_5, g161_6, g161_8, g161_10t, g161_10f, g161_13, g161_14, g161_17, g161_19, g161_20, g161_21, g161_22, g161_23, g161_24, g161_25, g161_28, g161_30, g161_31, g161_32, g161_33, g161_34, g161_35t, g161_35f, g161_38, g161_39, g161_40, g161_43, g161_46, g161_47, cont_1, cont_0, w32_k, h]
  exact z
theorem p_judge {x1 x2 : Int} {n : Nat} {sc : Nat → Int} {M : Mem} {S : Sh} (hS : Std n S) (hI : Inv sc M) : Pr (res 70 [aR 6, aI x1, aI x2] M S) (PQ 162 [aR 84, aI x1, aI x2] n S.2.2.2.1 S.2.2.2.2 sc) := by
  have k6 := K6 hS
  have k7 := K7 hS
  have k84 := K84 hS
  by_cases hx : refV M x1 x2 = 0
  · obtain ⟨b0, b1, b2, b3⟩ := refV_0 hx
    obtain ⟨s, rfl⟩ : ∃ q : Nat, x1 = (q : Int) := ⟨x1.toNat, by omega⟩
    obtain ⟨y, rfl⟩ : ∃ q : Nat, x2 = (q : Int) := ⟨x2.toNat, by omega⟩
    obtain ⟨M1, f1, a1⟩ := fo_ hS hI.2.2.2.2.2.2.2.1 (Or.inl rfl) (M := M) (fun k hk => rfl) rfl (fyC_of hI) (s := s) (y := y) (by omega) (by omega)
    have fr1 := FrT_C a1.1
    have hI1 := Inv_frC hI fr1
    obtain ⟨M2, f2, a2⟩ := ul_ hS (M := M) (fun k hk => ((hI1.1 k hk).2.1).trans (congrFun (fr1 9 (by unfold scrC; omega)) k)) (fun k hk => ((hI1.2.2.2.2.2.2.1 s (by omega)).2.2.2.2.2.2 k (by omega)).trans (congrFun (fr1 (77 + 2 * s) (by unfold scrC; omega)) k)) (fyM_of hI1) (s := s) (y := y) (by omega) (by omega)
    rw [hI1.2.2.2.2.2.2.2.1.2.1, fl_eq hI1, flC_fr fr1] at f2
    have g1 := refusalOf_ (s := (s : Int)) (y := (y : Int)) hS hI
    have g2 := toldWrong_ (s := (s : Int)) (y := (y : Int)) hS hI1
    rw [refV_fr fr1] at g2
    rw [hx] at g1 g2
    refine PQ_mk (v := aI (unV M s y (flC M 7))) (M1 := M1) (M2 := M2) ?_ ?_ (Inv_frM hI1 (FrN_M a2.1)) hS
    · rw [g70]
      simp (disch := omega) only [g70_0, g70_1, g70_2, g70_3, g70_6, g70_7, g70_8t, g70_8f, g70_11, g70_12, g70_13, g70_14, g70_15, g70_18, g70_19, g70_20, g70_23, cont_1, cont_0, w32_k, P6_0 hS, g1, f1]
    · rw [g162]
      simp (disch := omega) only [g162_0, g162_1, g162_2, g162_3, g162_6, g162_7, g162_8t, g162_8f, g162_11, g162_12, g162_13, g162_14, g162_17, g162_20, g162_21, cont_1, cont_0, w32_k, g2, f2]
  · refine PQ_mk (v := aI (refV M x1 x2)) (M1 := M) (M2 := M) ?_ ?_ hI hS
    · rw [g70]
      simp (disch := omega) only [g70_0, g70_1, g70_2, g70_3, g70_6, g70_7, g70_8t, g70_8f, g70_11, g70_12, g70_13, g70_14, g70_15, g70_18, g70_19, g70_20, g70_23, cont_1, cont_0, w32_k, refusalOf_ hS hI]
    · rw [g162]
      simp (disch := omega) only [g162_0, g162_1, g162_2, g162_3, g162_6, g162_7, g162_8t, g162_8f, g162_11, g162_12, g162_13, g162_14, g162_17, g162_20, g162_21, cont_1, cont_0, w32_k, toldWrong_ hS hI]
