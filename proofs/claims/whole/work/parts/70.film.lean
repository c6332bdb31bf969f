/-! how often a mile can be covered -/
def OvB (B : Int) (ov : Nat → Int) : Prop := ∀ k, 0 ≤ ov k ∧ ov k ≤ B
theorem ovb_le {B C : Int} {ov : Nat → Int} (h : OvB B ov) (hc : B ≤ C) : OvB C ov := fun k => ⟨(h k).1, by have := (h k).2; omega⟩
theorem covF_b {B : Int} {ov : Nat → Int} {y ry x rx : Int} (h : OvB B ov) (hB : B < 100000) : OvB (B + 1) (covF ov y ry x rx) := by
  intro k
  have := h k
  unfold covF covRect
  split
  · rw [w32_o (by omega) (by omega)]
    omega
  · omega
theorem clkG_b {B ho kd mr al y x : Int} {sd : Nat → Int → Int → Int} {s : FS} (h : OvB B s.1) (hB : B < 100000) : OvB (B + 1) (clkG ho kd mr sd al y x s).1 := by
  unfold clkG
  split
  · exact ovb_le h (by omega)
  · split
    · exact ovb_le h (by omega)
    · split
      · exact ovb_le h (by omega)
      · show OvB (B + 1) (if al = 0 then _ else _)
        split
        · exact covF_b h hB
        · exact covF_b h hB
theorem clkF_b {B ho kd mr al ah as : Int} {sd : Nat → Int → Int → Int} {s : FS} (h : OvB B s.1) (hB : B < 100000) : OvB (B + 1) (clkF ho kd mr sd al ah as s).1 := by
  unfold clkF
  split
  · exact clkG_b h hB
  · exact clkG_b h hB
theorem stF_b {kd mr fu fi ev ho : Int} {sd : Nat → Int → Int → Int} {al bk stp line dr : Int} : ∀ (rem : Nat) (i : Int) (s : FS) (B : Int), OvB B s.1 → B + rem < 100000 → OvB (B + rem) (stF kd mr fu fi ev ho sd al bk stp line dr rem i s).2.1 := by
  intro rem
  induction rem with
  | zero => intro i s B h _; exact ovb_le h (by omega)
  | succ rem ih =>
    intro i s B h hB
    rw [stF]
    split
    · exact ovb_le h (by omega)
    · split
      · exact ovb_le (ih _ _ (B + 1) (clkF_b (s := (s.1, s.2.1, s.2.2.1, w32 (s.2.2.2 + mileMin kd))) h (by omega)) (by omega)) (by omega)
      · exact ovb_le (ih _ (s.1, s.2.1, s.2.2.1, w32 (s.2.2.2 + mileMin kd)) B h (by omega)) (by omega)
theorem stripF_b {kd mr fu fi ev ho : Int} {sd : Nat → Int → Int → Int} {way line : Int} {s : FS} {B : Int} (h : OvB B s.1) (hB : B + 16 < 100000) : OvB (B + 16) (stripF kd mr fu fi ev ho sd way line s).2.1 := by
  unfold stripF
  split
  · exact stF_b 16 0 s B h (by omega)
  · split
    · exact stF_b 16 0 s B h (by omega)
    · split
      · exact ovb_le (stF_b 12 0 s B h (by omega)) (by omega)
      · exact ovb_le (stF_b 12 0 s B h (by omega)) (by omega)
theorem flF_b {kd mr fu fi ev ho : Int} {sd : Nat → Int → Int → Int} {ws ls : Nat → Int} : ∀ (rem k : Nat) (s : FS) (f B : Int), OvB B s.1 → B + 16 * rem < 100000 → OvB (B + 16 * rem) (flF kd mr fu fi ev ho sd ws ls rem k s f).1.1 := by
  intro rem
  induction rem with
  | zero => intro k s f B h _; exact ovb_le h (by omega)
  | succ rem ih =>
    intro k s f B h hB
    have q := stripF_b (kd := kd) (mr := mr) (fu := fu) (fi := fi) (ev := ev) (ho := ho) (sd := sd) (way := ws k) (line := ls k) (s := (s.1, s.2.1, s.2.2.1, w32 (s.2.2.2 + (if k = 0 then 0 else turnMin kd mr)))) (B := B) h (by omega)
    rw [flF]
    generalize (s.1, s.2.1, s.2.2.1, w32 (s.2.2.2 + (if k = 0 then 0 else turnMin kd mr))) = s1 at q ⊢
    split
    · exact ovb_le (B := B + 16) q (by omega)
    · exact ovb_le (B := B + 16 + 16 * (rem : Int)) (ih _ _ _ (B + 16) q (by omega)) (by omega)
theorem flC_b {sc : Nat → Int} {M : Mem} (hI : Inv sc M) : OvB 192 (flC M 7).1.1 := by
  have q2 := hI.2.1.2.1
  have q3 := hI.2.1.2.2.1
  unfold flC flR
  split
  · intro k
    exact ⟨Int.le_refl _, by show (0 : Int) ≤ 192; omega⟩
  · exact ovb_le (flF_b _ _ _ _ 0 (fun k => ⟨Int.le_refl _, Int.le_refl _⟩) (by omega)) (by omega)
theorem msk_b {B : Int} {cl ov : Nat → Int} (h : OvB B ov) (hB : 0 ≤ B) : OvB B (mskF cl ov) := by
  intro k
  unfold mskF
  split
  · exact h k
  · omega
theorem w16_o {x : Int} (h0 : -32768 ≤ x) (h1 : x < 32768) : w16 x = x := by unfold w16; omega
theorem film_c {n r s y : Nat} {f : Nat → Int} {M : Mem} {S : Sh} (hr : 11 < r) (hS : Std n S) (hs : s < 4) (hy : y < 16) (hso : M (76 + 2 * s) 1 = 1) (hf : ∀ k, k < 12 → mskF (M 9) (M 41) (12 * y + k) = f k) (hb : ∀ k, k < 12 → 0 ≤ f k ∧ f k ≤ 192) {g : Nat → Int} : ∀ (rem k : Nat) (l6 : Option AV), k + rem = 12 → ∃ l6', go r 74 43 [some (aR 6), some (aI (s : Int)), some (aI (y : Int)), some (aR (76 + 2 * s)), some (aI ((cnt f 1 k : Nat) : Int)), some (aI (k : Int)), l6] [] (mrow M (77 + 2 * s) (rpre k f g)) S = go r 74 95 [some (aR 6), some (aI (s : Int)), some (aI (y : Int)), some (aR (76 + 2 * s)), some (aI ((cnt f 1 12 : Nat) : Int)), some (aI 12), l6'] [] (mrow M (77 + 2 * s) (rpre 12 f g)) S := by
  have k6 := K6 hS
  have k7 := K7 hS
  have k9 := K9 hS
  have k40 := K40 hS
  have k41 := K41 hS
  have l9 := L9 hS
  have l41 := L41 hS
  obtain ⟨sk, sk7, sl, sp⟩ := sheS_of hS hs
  intro rem
  induction rem with
  | zero =>
    intro k l6 hk
    have e : k = 12 := by omega
    subst e
    refine ⟨l6, ?_⟩
    rw [g74_43]
    simp (disch := omega) only [g74_0, g74_1, g74_2, g74_5, g74_5n, g74_6, g74_6n, g74_7, g74_7n, g74_10, g74_12, g74_13, g74_14t, g74_14f, g74_17, g74_18, g74_20t, g74_20f, g74_23, g74_25, g74_26, g74_27, g74_30, g74_30n, g74_31, g74_32, g74_34, g74_37, g74_38, g74_40, g74_41, g74_45, g74_47t, g74_47f, g74_50, g74_51, g74_54, g74_55, g74_58, g74_61, g74_63, g74_64, g74_65, g74_67, g74_68, g74_71, g74_73, g74_73n, g74_74, g74_76, g74_78, g74_81, g74_83t, g74_83f, g74_86, g74_89, g74_92, g74_95, g74_97, cont_1, cont_0, w32_k]
    try rfl
  | succ rem ih =>
    intro k l6 hk
    obtain ⟨l6', z⟩ := ih (k + 1) (some (aI (f k))) (by omega)
    have le := cnt_le f 1 k
    have b := hb k (by omega)
    have e1 : (12 * (y : Int) + (k : Int)).toNat = 12 * y + k := by omega
    have t1 : ∀ M', M' 9 = M 9 → M' 41 = M 41 → res 7 [aR 40, aR 9, aI (12 * (y : Int) + (k : Int))] M' S = some (some (aI (f k)), M', S) := fun M' h1 h2 => by
      rw [times_ hS k9 l9 (by omega) (by omega), h1, h2, e1, hf k (by omega)]
    have t2 := t1 (mrow M (77 + 2 * s) (rpre k f g)) (mrow_ne _ _ (by omega)) (mrow_ne _ _ (by omega))
    have t3 : res 41 [aR (76 + 2 * s), aI (k : Int), aI (f k)] (mrow M (77 + 2 * s) (rpre k f g)) S = some (none, mrow M (77 + 2 * s) (rpre (k + 1) f g), S) := by
      rw [write_ hS hs (by omega) (by omega), mrow_ne _ _ (by omega), hso, Int.toNat_natCast, mset_mrow, rpre_s (show wrS 1 (f k) = f k from w16_o (by omega) (by omega))]
    refine ⟨l6', ?_⟩
    rw [g74_43]
    by_cases hp : 1 ≤ f k
    · rw [cnt_t hp, nc_1, nc_1] at z
      rw [← z]
      simp (disch := omega) only [g74_0, g74_1, g74_2, g74_5, g74_5n, g74_6, g74_6n, g74_7, g74_7n, g74_10, g74_12, g74_13, g74_14t, g74_14f, g74_17, g74_18, g74_20t, g74_20f, g74_23, g74_25, g74_26, g74_27, g74_30, g74_30n, g74_31, g74_32, g74_34, g74_37, g74_38, g74_40, g74_41, g74_45, g74_47t, g74_47f, g74_50, g74_51, g74_54, g74_55, g74_58, g74_61, g74_63, g74_64, g74_65, g74_67, g74_68, g74_71, g74_73, g74_73n, g74_74, g74_76, g74_78, g74_81, g74_83t, g74_83f, g74_86, g74_89, g74_92, g74_95, g74_97, cont_1, cont_0, w32_k, w32_o, P6_0 hS, P6_9 hS, P7_1 hS, t2, t3]
    · rw [cnt_f (Int.not_le.mp hp), nc_1] at z
      rw [← z]
      simp (disch := omega) only [g74_0, g74_1, g74_2, g74_5, g74_5n, g74_6, g74_6n, g74_7, g74_7n, g74_10, g74_12, g74_13, g74_14t, g74_14f, g74_17, g74_18, g74_20t, g74_20f, g74_23, g74_25, g74_26, g74_27, g74_30, g74_30n, g74_31, g74_32, g74_34, g74_37, g74_38, g74_40, g74_41, g74_45, g74_47t, g74_47f, g74_50, g74_51, g74_54, g74_55, g74_58, g74_61, g74_63, g74_64, g74_65, g74_67, g74_68, g74_71, g74_73, g74_73n, g74_74, g74_76, g74_78, g74_81, g74_83t, g74_83f, g74_86, g74_89, g74_92, g74_95, g74_97, cont_1, cont_0, w32_k, w32_o, P6_0 hS, P6_9 hS, P7_1 hS, t2, t3]
/-- what film's sheet holds -/
def flmF (f : Nat → Int) : Nat → Int := fun k => if k < 12 then f k else 0
theorem film_m {n r s y : Nat} {f : Nat → Int} {M : Mem} {S : Sh} (hr : 10 < r) (hS : Std n S) (hs : s < 4) (hy : y < 16) (hf : ∀ k, k < 12 → M 106 (12 * y + k) = f k) : ∀ (rem k : Nat) (l5 : Option AV), k + rem = 40 → go r 166 50 [some (aR 84), some (aI (s : Int)), some (aI (y : Int)), some (aI ((cnt (flmF f) 1 k : Nat) : Int)), some (aI (k : Int)), l5] [] (mrow M 100 (rseg (40 * s) k (flmF f) (M 100))) S = some (some (aI ((cnt (flmF f) 1 40 : Nat) : Int)), mrow M 100 (rseg (40 * s) 40 (flmF f) (M 100)), S) := by
  have k84 := K84 hS
  have k100 := K100 hS
  have k106 := K106 hS
  have l100 := L100 hS
  have l106 := L106 hS
  intro rem
  induction rem with
  | zero =>
    intro k l5 hk
    have e : k = 40 := by omega
    subst e
    rw [g166_50]
    simp (disch := omega) only [g166_0, g166_1, g166_2, g166_3, g166_6t, g166_6f, g166_9, g166_11, g166_12, g166_13, g166_14, g166_16, g166_19t, g166_19f, g166_22, g166_24, g166_25, g166_26, g166_27, g166_28, g166_31, g166_32, g166_33, g166_36, g166_37, g166_38, g166_39, g166_40, g166_43, g166_44, g166_46, g166_47, g166_48, g166_52, g166_54t, g166_54f, g166_57, g166_59, g166_61t, g166_61f, g166_64, g166_65, g166_68, g166_70, g166_71, g166_72, g166_74, g166_75, g166_77, g166_80, g166_81, g166_82, g166_85, g166_86, g166_88, g166_89, g166_92, g166_94, g166_95, g166_96, g166_98, g166_99, g166_101, g166_102, g166_103, g166_105t, g166_105f, g166_108, g166_109, g166_112, g166_113, g166_114, g166_115, g166_118, g166_121, g166_122, cont_1, cont_0, w32_k]
  | succ rem ih =>
    intro k l5 hk
    have z := ih (k + 1) (some (aI (flmF f k))) (by omega)
    have le := cnt_le (flmF f) 1 k
    have e1 : (12 * (y : Int) + (k : Int)).toNat = 12 * y + k := by omega
    have e2 : (40 * (s : Int) + (k : Int)).toNat = 40 * s + k := by omega
    rw [← rseg_s (v := flmF f k) rfl] at z
    rw [g166_50]
    by_cases hk12 : k < 12
    · have ef : flmF f k = f k := if_pos hk12
      have ek : (if (k : Int) < 0 then 0 else if 11 < (k : Int) then 11 else (k : Int)) = (k : Int) := by rw [if_neg (by omega), if_neg (by omega)]
      have hfk := hf k hk12
      by_cases hp : 1 ≤ flmF f k
      · rw [cnt_t hp, nc_1, nc_1] at z
        rw [← z]
        rw [ef] at hp ⊢
        simp (disch := omega) only [g166_0, g166_1, g166_2, g166_3, g166_6t, g166_6f, g166_9, g166_11, g166_12, g166_13, g166_14, g166_16, g166_19t, g166_19f, g166_22, g166_24, g166_25, g166_26, g166_27, g166_28, g166_31, g166_32, g166_33, g166_36, g166_37, g166_38, g166_39, g166_40, g166_43, g166_44, g166_46, g166_47, g166_48, g166_52, g166_54t, g166_54f, g166_57, g166_59, g166_61t, g166_61f, g166_64, g166_65, g166_68, g166_70, g166_71, g166_72, g166_74, g166_75, g166_77, g166_80, g166_81, g166_82, g166_85, g166_86, g166_88, g166_89, g166_92, g166_94, g166_95, g166_96, g166_98, g166_99, g166_101, g166_102, g166_103, g166_105t, g166_105f, g166_108, g166_109, g166_112, g166_113, g166_114, g166_115, g166_118, g166_121, g166_122, cont_1, cont_0, w32_k, w32_o, within_, ek, P84_24 hS, P84_37 hS, mrow_ne, mset_mrow, e1, e2, hfk, Int.add_comm 1]
      · rw [cnt_f (Int.not_le.mp hp), nc_1] at z
        rw [← z]
        rw [ef] at hp ⊢
        simp (disch := omega) only [g166_0, g166_1, g166_2, g166_3, g166_6t, g166_6f, g166_9, g166_11, g166_12, g166_13, g166_14, g166_16, g166_19t, g166_19f, g166_22, g166_24, g166_25, g166_26, g166_27, g166_28, g166_31, g166_32, g166_33, g166_36, g166_37, g166_38, g166_39, g166_40, g166_43, g166_44, g166_46, g166_47, g166_48, g166_52, g166_54t, g166_54f, g166_57, g166_59, g166_61t, g166_61f, g166_64, g166_65, g166_68, g166_70, g166_71, g166_72, g166_74, g166_75, g166_77, g166_80, g166_81, g166_82, g166_85, g166_86, g166_88, g166_89, g166_92, g166_94, g166_95, g166_96, g166_98, g166_99, g166_101, g166_102, g166_103, g166_105t, g166_105f, g166_108, g166_109, g166_112, g166_113, g166_114, g166_115, g166_118, g166_121, g166_122, cont_1, cont_0, w32_k, w32_o, within_, ek, P84_24 hS, P84_37 hS, mrow_ne, mset_mrow, e1, e2, hfk, Int.zero_add, Int.add_zero]
    · have ef : flmF f k = 0 := if_neg hk12
      rw [cnt_f (by omega), nc_1] at z
      rw [← z, ef]
      simp (disch := omega) only [g166_0, g166_1, g166_2, g166_3, g166_6t, g166_6f, g166_9, g166_11, g166_12, g166_13, g166_14, g166_16, g166_19t, g166_19f, g166_22, g166_24, g166_25, g166_26, g166_27, g166_28, g166_31, g166_32, g166_33, g166_36, g166_37, g166_38, g166_39, g166_40, g166_43, g166_44, g166_46, g166_47, g166_48, g166_52, g166_54t, g166_54f, g166_57, g166_59, g166_61t, g166_61f, g166_64, g166_65, g166_68, g166_70, g166_71, g166_72, g166_74, g166_75, g166_77, g166_80, g166_81, g166_82, g166_85, g166_86, g166_88, g166_89, g166_92, g166_94, g166_95, g166_96, g166_98, g166_99, g166_101, g166_102, g166_103, g166_105t, g166_105f, g166_108, g166_109, g166_112, g166_113, g166_114, g166_115, g166_118, g166_121, g166_122, cont_1, cont_0, w32_k, w32_o, P84_24 hS, P84_37 hS, mset_mrow, e2, Int.zero_add, Int.add_zero]
theorem cnt_flm {f : Nat → Int} : ∀ k, cnt (flmF f) 1 (12 + k) = cnt f 1 12 := by
  intro k
  induction k with
  | zero =>
    exact cnt_ext (fun k hk => if_pos hk)
  | succ k ih =>
    rw [show 12 + (k + 1) = 12 + k + 1 by omega, cnt_f (by unfold flmF; rw [if_neg (by omega)]; omega), ih]
theorem p_film {x1 x2 : Int} {n : Nat} {sc : Nat → Int} {M : Mem} {S : Sh} (hS : Std n S) (hI : Inv sc M) : Pr (res 74 [aR 6, aI x1, aI x2] M S) (PQ 166 [aR 84, aI x1, aI x2] n S.2.2.2.1 S.2.2.2.2 sc) := by
  have k6 := K6 hS
  have k7 := K7 hS
  have k84 := K84 hS
  have k98 := K98 hS
  have k99 := K99 hS
  have l98 := L98 hS
  have l99 := L99 hS
  by_cases h1 : x1 < 0 ∨ 3 < x1
  · refine PQ_mk (v := aI (-2)) (M1 := M) (M2 := M) ?_ ?_ hI hS
    · rw [g74]
      simp (disch := omega) only [g74_0, g74_1, g74_2, g74_5, g74_5n, g74_6, g74_6n, g74_7, g74_7n, g74_10, g74_12, g74_13, g74_14t, g74_14f, g74_17, g74_18, g74_20t, g74_20f, g74_23, g74_25, g74_26, g74_27, g74_30, g74_30n, g74_31, g74_32, g74_34, g74_37, g74_38, g74_40, g74_41, g74_45, g74_47t, g74_47f, g74_50, g74_51, g74_54, g74_55, g74_58, g74_61, g74_63, g74_64, g74_65, g74_67, g74_68, g74_71, g74_73, g74_73n, g74_74, g74_76, g74_78, g74_81, g74_83t, g74_83f, g74_86, g74_89, g74_92, g74_95, g74_97, cont_1, cont_0, w32_k, sheetAt_n hS h1]
    · rw [g166]
      simp (disch := omega) only [g166_0, g166_1, g166_2, g166_3, g166_6t, g166_6f, g166_9, g166_11, g166_12, g166_13, g166_14, g166_16, g166_19t, g166_19f, g166_22, g166_24, g166_25, g166_26, g166_27, g166_28, g166_31, g166_32, g166_33, g166_36, g166_37, g166_38, g166_39, g166_40, g166_43, g166_44, g166_46, g166_47, g166_48, g166_52, g166_54t, g166_54f, g166_57, g166_59, g166_61t, g166_61f, g166_64, g166_65, g166_68, g166_70, g166_71, g166_72, g166_74, g166_75, g166_77, g166_80, g166_81, g166_82, g166_85, g166_86, g166_88, g166_89, g166_92, g166_94, g166_95, g166_96, g166_98, g166_99, g166_101, g166_102, g166_103, g166_105t, g166_105f, g166_108, g166_109, g166_112, g166_113, g166_114, g166_115, g166_118, g166_121, g166_122, cont_1, cont_0, w32_k, in_f]
  · obtain ⟨s, rfl⟩ : ∃ q : Nat, x1 = (q : Int) := ⟨x1.toNat, by omega⟩
    have hs : s < 4 := by omega
    obtain ⟨sk, sk7, sl, sp⟩ := sheS_of hS hs
    have fs := fun M => sheetAt_ (M := M) hS hs
    by_cases h2 : x2 < 0 ∨ 15 < x2
    · refine PQ_mk (v := aI (-5)) (M1 := M) (M2 := M) ?_ ?_ hI hS
      · rw [g74]
        rcases h2 with h2 | h2
        all_goals simp (disch := omega) only [g74_0, g74_1, g74_2, g74_5, g74_5n, g74_6, g74_6n, g74_7, g74_7n, g74_10, g74_12, g74_13, g74_14t, g74_14f, g74_17, g74_18, g74_20t, g74_20f, g74_23, g74_25, g74_26, g74_27, g74_30, g74_30n, g74_31, g74_32, g74_34, g74_37, g74_38, g74_40, g74_41, g74_45, g74_47t, g74_47f, g74_50, g74_51, g74_54, g74_55, g74_58, g74_61, g74_63, g74_64, g74_65, g74_67, g74_68, g74_71, g74_73, g74_73n, g74_74, g74_76, g74_78, g74_81, g74_83t, g74_83f, g74_86, g74_89, g74_92, g74_95, g74_97, cont_1, cont_0, w32_k, fs]
      · rw [g166]
        simp (disch := omega) only [g166_0, g166_1, g166_2, g166_3, g166_6t, g166_6f, g166_9, g166_11, g166_12, g166_13, g166_14, g166_16, g166_19t, g166_19f, g166_22, g166_24, g166_25, g166_26, g166_27, g166_28, g166_31, g166_32, g166_33, g166_36, g166_37, g166_38, g166_39, g166_40, g166_43, g166_44, g166_46, g166_47, g166_48, g166_52, g166_54t, g166_54f, g166_57, g166_59, g166_61t, g166_61f, g166_64, g166_65, g166_68, g166_70, g166_71, g166_72, g166_74, g166_75, g166_77, g166_80, g166_81, g166_82, g166_85, g166_86, g166_88, g166_89, g166_92, g166_94, g166_95, g166_96, g166_98, g166_99, g166_101, g166_102, g166_103, g166_105t, g166_105f, g166_108, g166_109, g166_112, g166_113, g166_114, g166_115, g166_118, g166_121, g166_122, cont_1, cont_0, w32_k, in_t, in_f]
    · obtain ⟨y, rfl⟩ : ∃ q : Nat, x2 = (q : Int) := ⟨x2.toNat, by omega⟩
      have hy : y < 16 := by omega
      obtain ⟨X, f1, a1⟩ := flyN hS hI
      have frX := FrT_C a1.1
      have hIX := Inv_frC hI frX
      have bb := msk_b (cl := M 9) (flC_b hI) (by omega)
      obtain ⟨f, hf⟩ : ∃ f : Nat → Int, f = fun k => mskF (M 9) (flC M 7).1.1 (12 * y + k) := ⟨_, rfl⟩
      obtain ⟨X1, hX1⟩ : ∃ X1, X1 = shC X s 1 12 (rfill 40 0 (X (77 + 2 * s))) := ⟨_, rfl⟩
      have fb : res 40 [aR (76 + 2 * s), aI 1, aI 12] X S = some (none, X1, S) := by
        rw [hX1]
        exact become_ hS hs
      have rX : ∀ a, ¬ (76 ≤ a ∧ a ≤ 83) → X1 a = X a := fun a ha => by
        rw [hX1]
        unfold shC
        simp (disch := omega) only [mset_ne, mrow_ne]
      have x11 : X1 (76 + 2 * s) 1 = 1 := by
        rw [hX1]
        unfold shC
        simp (disch := omega) only [mset_eq, mset_nk, mrow_ne]
      have x12 : X1 (76 + 2 * s) 2 = 12 := by
        rw [hX1]
        unfold shC
        simp (disch := omega) only [mset_eq, mrow_ne]
      have x77 : X1 (77 + 2 * s) = rfill 40 0 (X (77 + 2 * s)) := by
        rw [hX1]
        unfold shC
        simp (disch := omega) only [mrow_eq]
      have xo : ∀ q, q < 4 → q ≠ s → X1 (76 + 2 * q) = X (76 + 2 * q) ∧ X1 (77 + 2 * q) = X (77 + 2 * q) := fun q hq hqs => by
        rw [hX1]
        unfold shC
        refine ⟨?_, ?_⟩
        all_goals simp (disch := omega) only [mset_ne, mrow_ne]
      clear hX1
      have hfX : ∀ k, k < 12 → mskF (X1 9) (X1 41) (12 * y + k) = f k := fun k hk => by
        rw [hf, rX 9 (by omega), rX 41 (by omega), frX 9 (by unfold scrC; omega)]
        show mskF (M 9) (X 41) (12 * y + k) = mskF (M 9) (flC M 7).1.1 (12 * y + k)
        unfold mskF
        rw [a1.2.1 _ (by omega)]
      have hbf : ∀ k, k < 12 → 0 ≤ f k ∧ f k ≤ 192 := fun k hk => by
        rw [hf]
        exact bb _
      obtain ⟨l6', z1⟩ := film_c (r := 16) (M := X1) (g := X1 (77 + 2 * s)) (by omega) hS hs hy x11 hfX hbf 12 0 none (by omega)
      rw [rpre_0, mrow_self] at z1
      obtain ⟨M1, hM1⟩ : ∃ M1, M1 = mrow X1 (77 + 2 * s) (rpre 12 f (X1 (77 + 2 * s))) := ⟨_, rfl⟩
      rw [← hM1] at z1
      have r1 : ∀ a, ¬ (76 ≤ a ∧ a ≤ 83) → M1 a = X a := fun a ha => by
        rw [hM1, mrow_ne _ _ (by omega)]
        exact rX a ha
      have m11 : M1 (76 + 2 * s) 1 = 1 := by rw [hM1, mrow_ne _ _ (by omega)]; exact x11
      have m12 : M1 (76 + 2 * s) 2 = 12 := by rw [hM1, mrow_ne _ _ (by omega)]; exact x12
      have m77 : ∀ k, k < 40 → M1 (77 + 2 * s) k = flmF f k := fun k hk => by
        rw [hM1, mrow_eq]
        unfold flmF
        by_cases hk12 : k < 12
        · rw [if_pos hk12, rpre_lt hk12]
        · rw [if_neg hk12, rpre_ge (by omega), x77]
          exact if_pos hk
      have mo : ∀ q, q < 4 → q ≠ s → M1 (76 + 2 * q) = X (76 + 2 * q) ∧ M1 (77 + 2 * q) = X (77 + 2 * q) := fun q hq hqs => by
        rw [hM1, mrow_ne _ _ (by omega), mrow_ne _ _ (by omega)]
        exact xo q hq hqs
      clear hM1
      obtain ⟨Y2, f2, a2⟩ := fly_clouds (Y := M1) hS hIX (fun k hk => by rw [r1 84 (by omega)]) (fun a h0 h3 h4 => r1 a (by omega)) (by rw [r1 86 (by omega)]; exact (fyM_of hIX).1.2.1)
      rw [flC_fr frX] at a2
      have y98 : Y2 98 = X 98 := (a2.1.1 98 (by omega) (by omega)).trans (r1 98 (by omega))
      have y99 : Y2 99 = X 99 := (a2.1.1 99 (by omega) (by omega)).trans (r1 99 (by omega))
      have y100 : Y2 100 = X 100 := (a2.1.1 100 (by omega) (by omega)).trans (r1 100 (by omega))
      have y106 : ∀ k, k < 12 → Y2 106 (12 * y + k) = f k := fun k hk => by
        rw [a2.2.1 _ (by omega), r1 86 (by omega), hf]
        show mskF (X 86) (flC M 7).1.1 (12 * y + k) = mskF (M 9) (flC M 7).1.1 (12 * y + k)
        rw [msk_eq hIX _ (by omega), frX 9 (by unfold scrC; omega)]
      have z2 := film_m (r := 18) (M := mset (mset Y2 98 s 1) 99 s 12) (f := f) (by omega) hS hs hy (fun k hk => by
        rw [mset_ne _ _ _ (by omega), mset_ne _ _ _ (by omega)]
        exact y106 k hk) 40 0 none (by omega)
      rw [rseg_0, mrow_self, show (40 : Nat) = 12 + 28 from rfl, cnt_flm] at z2
      rw [show (12 + 28 : Nat) = 40 from rfl] at z2
      refine PQ_mk (v := aI ((cnt f 1 12 : Nat) : Int)) (M1 := M1) (M2 := mrow (mset (mset Y2 98 s 1) 99 s 12) 100 (rseg (40 * s) 40 (flmF f) (mset (mset Y2 98 s 1) 99 s 12 100))) ?_ ?_ ?_ hS
      · rw [g74]
        simp (disch := omega) only [g74_0, g74_1, g74_2, g74_5, g74_5n, g74_6, g74_6n, g74_7, g74_7n, g74_10, g74_12, g74_13, g74_14t, g74_14f, g74_17, g74_18, g74_20t, g74_20f, g74_23, g74_25, g74_26, g74_27, g74_30, g74_30n, g74_31, g74_32, g74_34, g74_37, g74_38, g74_40, g74_41, g74_45, g74_47t, g74_47f, g74_50, g74_51, g74_54, g74_55, g74_58, g74_61, g74_63, g74_64, g74_65, g74_67, g74_68, g74_71, g74_73, g74_73n, g74_74, g74_76, g74_78, g74_81, g74_83t, g74_83f, g74_86, g74_89, g74_92, g74_95, g74_97, cont_1, cont_0, w32_k, fs, f1, fb]
        refine Eq.trans z1 ?_
        simp (disch := omega) only [g74_0, g74_1, g74_2, g74_5, g74_5n, g74_6, g74_6n, g74_7, g74_7n, g74_10, g74_12, g74_13, g74_14t, g74_14f, g74_17, g74_18, g74_20t, g74_20f, g74_23, g74_25, g74_26, g74_27, g74_30, g74_30n, g74_31, g74_32, g74_34, g74_37, g74_38, g74_40, g74_41, g74_45, g74_47t, g74_47f, g74_50, g74_51, g74_54, g74_55, g74_58, g74_61, g74_63, g74_64, g74_65, g74_67, g74_68, g74_71, g74_73, g74_73n, g74_74, g74_76, g74_78, g74_81, g74_83t, g74_83f, g74_86, g74_89, g74_92, g74_95, g74_97, cont_1, cont_0, w32_k]
      · rw [g166]
        simp (disch := omega) only [g166_0, g166_1, g166_2, g166_3, g166_6t, g166_6f, g166_9, g166_11, g166_12, g166_13, g166_14, g166_16, g166_19t, g166_19f, g166_22, g166_24, g166_25, g166_26, g166_27, g166_28, g166_31, g166_32, g166_33, g166_36, g166_37, g166_38, g166_39, g166_40, g166_43, g166_44, g166_46, g166_47, g166_48, g166_52, g166_54t, g166_54f, g166_57, g166_59, g166_61t, g166_61f, g166_64, g166_65, g166_68, g166_70, g166_71, g166_72, g166_74, g166_75, g166_77, g166_80, g166_81, g166_82, g166_85, g166_86, g166_88, g166_89, g166_92, g166_94, g166_95, g166_96, g166_98, g166_99, g166_101, g166_102, g166_103, g166_105t, g166_105f, g166_108, g166_109, g166_112, g166_113, g166_114, g166_115, g166_118, g166_121, g166_122, cont_1, cont_0, w32_k, in_t, f2, P84_22 hS, P84_23 hS, Int.toNat_natCast]
        exact z2
      · have hIY : Inv sc (mrow (mset (mset Y2 98 s 1) 99 s 12) 100 (rseg (40 * s) 40 (flmF f) (mset (mset Y2 98 s 1) 99 s 12 100))) := by
          have hN : FrN X (fun a j => if (76 ≤ a ∧ a ≤ 83) then X a j else Y2 a j) := by
            refine ⟨fun a e1 e2 => ?_, fun k hk => ?_⟩
            · funext j
              show (if (76 ≤ a ∧ a ≤ 83) then X a j else Y2 a j) = X a j
              by_cases e : 76 ≤ a ∧ a ≤ 83
              · rw [if_pos e]
              · rw [if_neg e, a2.1.1 a e1 e2, r1 a e]
            · show (if (76 ≤ 84 ∧ 84 ≤ 83) then X 84 k else Y2 84 k) = X 84 k
              rw [if_neg (by omega), a2.1.2 k hk, r1 84 (by omega)]
          refine Inv_sh (Inv_frM hIX (FrN_M hN)) (fun a e1 e2 e3 e4 => ?_) (she_set (M := X) (s := s) (so := 1) (n := 12) hIX.2.2.2.2.2.2.1 (by omega) (by omega) (by omega) (by omega) (fun q hq hqs => ?_) ?_ (fun k hk => ?_))
          · funext j
            simp (disch := omega) only [mset_ne, mrow_ne]
            exact (if_neg e1).symm
          · obtain ⟨o1, o2⟩ := mo q hq hqs
            refine ⟨?_, ?_, ?_, ?_, fun k hk => ?_⟩
            · simp (disch := omega) only [mset_ne, mrow_ne]
              rw [a2.1.1 _ (by omega) (by omega), o1]
            · simp (disch := omega) only [mset_ne, mrow_ne]
              rw [a2.1.1 _ (by omega) (by omega), o2]
            · simp (disch := omega) only [mset_ne, mset_nk, mrow_ne]
              rw [y98]
            · simp (disch := omega) only [mset_ne, mset_nk, mrow_ne]
              rw [y99]
            · rw [mrow_eq, rseg_out (by omega)]
              simp (disch := omega) only [mset_ne]
              rw [y100]
          · refine ⟨?_, ?_, ?_, ?_⟩
            · simp (disch := omega) only [mset_ne, mset_eq, mrow_ne]
            · simp (disch := omega) only [mset_ne, mrow_ne]
              rw [a2.1.1 _ (by omega) (by omega), m11]
            · simp (disch := omega) only [mset_eq, mrow_ne]
            · simp (disch := omega) only [mset_ne, mrow_ne]
              rw [a2.1.1 _ (by omega) (by omega), m12]
          · rw [mrow_eq, rseg_in hk]
            simp (disch := omega) only [mset_ne, mrow_ne]
            rw [a2.1.1 _ (by omega) (by omega), m77 k hk]
        exact hIY
