/-- what a flight of the model rests on -/
def MdD (M : Mem) (p : Nat) (hl : Nat → Int) (wd ho kd mr fu fi ev : Int) : Prop := (∀ k, k < 192 → M 85 k = hl k) ∧ (∀ k, k < 192 → M 86 k = 0 ∨ M 86 k = 1) ∧ M 84 2 = wd ∧ M 84 3 = ho ∧ M 84 4 = (p : Int) ∧ p < 4 ∧ M 87 p = kd ∧ M 88 p = mr ∧ M 89 (3 * p) = fu ∧ M 89 (3 * p + 1) = fi ∧ M 89 (3 * p + 2) = ev ∧ 0 ≤ kd ∧ kd ≤ 5 ∧ 0 ≤ mr ∧ mr ≤ 9 ∧ 1 ≤ ev ∧ ev ≤ 9
theorem MwD_MM {M : Mem} {ov : Nat → Int} {cl lo mi fl en : Int} {nm st : Nat → Int} {t : Nat} {cd sT : Nat → Int} (h : MwD M t cd sT) : MwD (MM M ov cl lo mi fl en nm st) t cd sT := by
  unfold MwD at h ⊢
  simp (disch := omega) only [MM_o, MM_84]
  exact h
theorem mask_ {n t p : Nat} {cd sT hl : Nat → Int} {wd ho kd mr fu fi ev : Int} {M : Mem} {S : Sh} {ov : Nat → Int} {cl lo mi fl en : Int} {nm st : Nat → Int} {m c : Int} {part : Nat} (hS : Std n S) (hD : MwD M t cd sT) (hsc : MdD M p hl wd ho kd mr fu fi ev) (p3 : part < 3) (m0 : 0 ≤ m) (m1 : m < 192) : res 130 [aR 84, aI (part : Int), aI (p : Int), aI m, aI c] (MM M ov cl lo mi fl en nm st) S = some (some (aI (sdF cd sT hl wd mr ho part m c)), MM M ov cl lo mi fl en (nmR nm (hl m.toNat) wd mr ho (if 200 < c then 200 else c) (w32 (Int.tdiv m 12))) (evF cd (nmR nm (hl m.toNat) wd mr ho (if 200 < c then 200 else c) (w32 (Int.tdiv m 12))) (sT part).toNat st (sT (part + 1) - sT part).toNat), S) := by
  obtain ⟨s0, sc, s1, s2, s3, s4, s5, s6, s7, s8, s9, d0, d1, d2, d3, d4, d5⟩ := hsc
  have hsc : MdD M p hl wd ho kd mr fu fi ev := ⟨s0, sc, s1, s2, s3, s4, s5, s6, s7, s8, s9, d0, d1, d2, d3, d4, d5⟩
  have z := asksOf_ (M := MM M ov cl lo mi fl en nm st) (c := c) hS (MwD_MM hD) p3 (pl := (p : Int)) (by omega) (by omega) m0 m1
  simp (disch := omega) only [MM_o, MM_84, MM_nm, MM_st, MMs_nm, MMs_st, s1, s2, s6, s0, Int.toNat_natCast] at z
  exact z
theorem seesOver_ {n t p : Nat} {cd sT hl : Nat → Int} {wd ho kd mr fu fi ev : Int} {M : Mem} {S : Sh} {ov : Nat → Int} {cl lo mi fl en : Int} {nm st : Nat → Int} {m : Int} (hS : Std n S) (hD : MwD M t cd sT) (hsc : MdD M p hl wd ho kd mr fu fi ev) (m0 : 0 ≤ m) (m1 : m < 192) : ∃ nm' st', res 141 [aR 84, aI (p : Int), aI m] (MM M ov cl lo mi fl en nm st) S = some (some (aI (seesF kd mr (sdF cd sT hl wd mr ho 0 m cl))), MM M ov cl lo mi fl en nm' st', S) := by
  obtain ⟨s0, sc, s1, s2, s3, s4, s5, s6, s7, s8, s9, d0, d1, d2, d3, d4, d5⟩ := hsc
  have hsc : MdD M p hl wd ho kd mr fu fi ev := ⟨s0, sc, s1, s2, s3, s4, s5, s6, s7, s8, s9, d0, d1, d2, d3, d4, d5⟩
  have k84 := K84 hS
  have k87 := K87 hS
  have k88 := K88 hS
  have k106 := K106 hS
  have l87 := L87 hS
  have l88 := L88 hS
  have l106 := L106 hS
  have f1 := mask_ (ov := ov) (cl := cl) (lo := lo) (mi := mi) (fl := fl) (en := en) (nm := nm) (st := st) (m := m) (c := cl) (part := 0) hS hD hsc (by omega) m0 m1
  rw [show ((0 : Nat) : Int) = 0 by rfl] at f1
  rw [g141]
  by_cases hv : sdF cd sT hl wd mr ho 0 m cl = 0
  all_goals rcases (by omega : kd = 0 ∨ kd = 1 ∨ kd = 2 ∨ kd = 3 ∨ kd = 4 ∨ kd = 5) with rfl | rfl | rfl | rfl | rfl | rfl
  all_goals simp (disch := omega) only [g141_0, g141_1, g141_2, g141_3, g141_4, g141_5, g141_8, g141_11, g141_12, g141_13, g141_16, g141_17, g141_18, g141_19t, g141_19f, g141_22, g141_23, g141_24, g141_25, g141_28, g141_29, g141_32, g141_33, g141_34, g141_35t, g141_35f, g141_38, g141_39t, g141_39f, g141_42, g141_43, g141_46, g141_47, g141_48, g141_49, g141_50, g141_53, g141_54, g141_55, g141_56, g141_57, g141_58, g141_61, g141_62, g141_64, g141_66, g141_67, g141_69, g141_72, cont_1, cont_0, MM_cl, MM_lo, MM_mi, MM_fl, MM_en, MMs_cl, MMs_lo, MMs_mi, MMs_fl, MMs_en, MM_84, MM_cv, MM_nm, MM_st, MM_o, MMs_cv0, MMs_cv1, MMs_nm, MMs_st, P84_6 hS, P84_7 hS, f1, s5, s6, Int.toNat_natCast, within_]
  all_goals first | exact ⟨_, _, rfl⟩ | (unfold seesF bnd3; simp only [hv, if_true, if_false]; exact ⟨_, _, rfl⟩)
theorem tdiv2_b {v : Int} (h0 : -9 ≤ v) (h1 : v ≤ 9) : -4 ≤ Int.tdiv v 2 ∧ Int.tdiv v 2 ≤ 4 := by
  rcases Int.lt_or_le v 0 with h | h
  · have e : v = -(-v) := by omega
    rw [e, Int.neg_tdiv, Int.tdiv_eq_ediv_of_nonneg (by omega)]
    omega
  · rw [Int.tdiv_eq_ediv_of_nonneg h]
    omega
theorem drifts_3 {a b : Int} (a0 : -4 ≤ a) (a1 : a ≤ 4) (b0 : -4 ≤ b) (b1 : b ≤ 4) : (if w32 (w32 a - w32 b) < 0 then 0 else if 20 < w32 (w32 a - w32 b) then 20 else w32 (w32 a - w32 b)) = lo0 (w32 (w32 a - w32 b)) := by
  have e1 : w32 a = a := w32_o (by omega) (by omega)
  have e2 : w32 b = b := w32_o (by omega) (by omega)
  have e3 : w32 (a - b) = a - b := w32_o (by omega) (by omega)
  rw [e1, e2, e3]
  exact within_lo (by omega)
theorem drifts_3n {a b : Int} (a0 : -4 ≤ a) (a1 : a ≤ 4) (b0 : -4 ≤ b) (b1 : b ≤ 4) : (if w32 (w32 a + w32 b) < -20 then -20 else if 0 < w32 (w32 a + w32 b) then 0 else w32 (w32 a + w32 b)) = hi0 (w32 (w32 a + w32 b)) 0 := by
  have e1 : w32 a = a := w32_o (by omega) (by omega)
  have e2 : w32 b = b := w32_o (by omega) (by omega)
  have e3 : w32 (a + b) = a + b := w32_o (by omega) (by omega)
  rw [e1, e2, e3]
  unfold hi0
  rw [if_neg (by omega)]
theorem mdriftsOver_ {n t p : Nat} {cd sT hl : Nat → Int} {wd ho kd mr fu fi ev : Int} {M : Mem} {S : Sh} {ov : Nat → Int} {cl lo mi fl en : Int} {nm st : Nat → Int} {m : Int} (hS : Std n S) (hD : MwD M t cd sT) (hsc : MdD M p hl wd ho kd mr fu fi ev) (m0 : 0 ≤ m) (m1 : m < 192) : ∃ nm' st', res 142 [aR 84, aI (p : Int), aI m] (MM M ov cl lo mi fl en nm st) S = some (some (aI (driftsF kd mr (sdF cd sT hl wd mr ho 1 m cl))), MM M ov cl lo mi fl en nm' st', S) := by
  obtain ⟨s0, sc, s1, s2, s3, s4, s5, s6, s7, s8, s9, d0, d1, d2, d3, d4, d5⟩ := hsc
  have hsc : MdD M p hl wd ho kd mr fu fi ev := ⟨s0, sc, s1, s2, s3, s4, s5, s6, s7, s8, s9, d0, d1, d2, d3, d4, d5⟩
  have k84 := K84 hS
  have k87 := K87 hS
  have k88 := K88 hS
  have k106 := K106 hS
  have l87 := L87 hS
  have l88 := L88 hS
  have l106 := L106 hS
  have f1 := mask_ (ov := ov) (cl := cl) (lo := lo) (mi := mi) (fl := fl) (en := en) (nm := nm) (st := st) (m := m) (c := cl) (part := 1) hS hD hsc (by omega) m0 m1
  rw [show ((1 : Nat) : Int) = 1 by rfl] at f1
  have vb : -9 ≤ sdF cd sT hl wd mr ho 1 m cl ∧ sdF cd sT hl wd mr ho 1 m cl ≤ 9 := bnd3_in (by decide)
  have tb := tdiv2_b vb.1 vb.2
  have tm := tdiv2_b (v := mr) (by omega) (by omega)
  have h3 := drifts_3 tb.1 tb.2 tm.1 tm.2
  have h3n := drifts_3n tb.1 tb.2 tm.1 tm.2
  rw [g142]
  by_cases hv : 0 < sdF cd sT hl wd mr ho 1 m cl
  all_goals rcases (by omega : kd = 0 ∨ kd = 1 ∨ kd = 2 ∨ kd = 3 ∨ kd = 4 ∨ kd = 5) with rfl | rfl | rfl | rfl | rfl | rfl
  all_goals simp (disch := omega) only [g142_0, g142_1, g142_2, g142_3, g142_4, g142_5, g142_8, g142_11, g142_12, g142_13, g142_15, g142_16, g142_19, g142_20, g142_21c1, g142_21c2, g142_21c3, g142_21c4, g142_21c5, g142_21d, g142_56, g142_57, g142_58, g142_59, g142_61, g142_64, g142_65t, g142_65f, g142_68, g142_69, g142_70, g142_71, g142_72, g142_75, g142_76, g142_77, g142_78, g142_79, g142_80, g142_81, g142_83, g142_86, g142_89, g142_90, g142_91, g142_92, g142_93, g142_96, g142_97, g142_98, g142_99, g142_100, g142_101, g142_103, g142_104, g142_107, g142_109, g142_112, g142_113, g142_114, g142_115, g142_118, g142_119, g142_120, g142_121, g142_123, g142_124, g142_125, g142_127, g142_130, g142_132, g142_134, g142_136, g142_139, cont_1, cont_0, MM_cl, MM_lo, MM_mi, MM_fl, MM_en, MMs_cl, MMs_lo, MMs_mi, MMs_fl, MMs_en, MM_84, MM_cv, MM_nm, MM_st, MM_o, MMs_cv0, MMs_cv1, MMs_nm, MMs_st, P84_6 hS, P84_7 hS, f1, s5, s6, Int.toNat_natCast, within_, h3, h3n]
  all_goals first | exact ⟨_, _, rfl⟩ | (unfold driftsF bnd3; simp only [hv, if_true, if_false]; exact ⟨_, _, rfl⟩)
theorem coversOver_0 {n t p : Nat} {cd sT hl : Nat → Int} {wd ho kd mr fu fi ev : Int} {M : Mem} {S : Sh} {ov : Nat → Int} {cl lo mi fl en : Int} {nm st : Nat → Int} {y x : Int} (hS : Std n S) (hD : MwD M t cd sT) (hsc : MdD M p hl wd ho kd mr fu fi ev) (y0 : 0 ≤ y) (y1 : y < 16) (x0 : 0 ≤ x) (x1 : x < 12) : ∃ nm' st', res 143 [aR 84, aI (p : Int), aI x, aI y, aI 0] (MM M ov cl lo mi fl en nm st) S = some (none, MM M (covF ov y (seesF kd mr (sdF cd sT hl wd mr ho 0 (12 * y + x) cl)) x 1) cl lo mi fl en nm' st', S) := by
  obtain ⟨s0, sc, s1, s2, s3, s4, s5, s6, s7, s8, s9, d0, d1, d2, d3, d4, d5⟩ := hsc
  have hsc : MdD M p hl wd ho kd mr fu fi ev := ⟨s0, sc, s1, s2, s3, s4, s5, s6, s7, s8, s9, d0, d1, d2, d3, d4, d5⟩
  have k84 := K84 hS
  have sb : 0 ≤ (seesF kd mr (sdF cd sT hl wd mr ho 0 (12 * y + x) cl)) ∧ (seesF kd mr (sdF cd sT hl wd mr ho 0 (12 * y + x) cl)) ≤ 15 := bnd3_in (by omega)
  obtain ⟨nm1, st1, f1⟩ := seesOver_ (ov := ov) (cl := cl) (lo := lo) (mi := mi) (fl := fl) (en := en) (nm := nm) (st := st) (m := 12 * y + x) hS hD hsc (by omega) (by omega)
  have a2 : 0 ≤ lo0 (y - (seesF kd mr (sdF cd sT hl wd mr ho 0 (12 * y + x) cl))) ∧ lo0 (y - (seesF kd mr (sdF cd sT hl wd mr ho 0 (12 * y + x) cl))) ≤ y := by unfold lo0; split <;> omega
  have a4 : y ≤ hi0 (y + (seesF kd mr (sdF cd sT hl wd mr ho 0 (12 * y + x) cl))) 15 ∧ hi0 (y + (seesF kd mr (sdF cd sT hl wd mr ho 0 (12 * y + x) cl))) 15 ≤ 15 := by unfold hi0; split <;> omega
  have z := mcover_out (ov := ov) (M := M) (cl := cl) (lo := lo) (mi := mi) (fl := fl) (en := en) (nm := nm1) (st := st1) (r := 14) (pp := (p : Int)) (ss := (seesF kd mr (sdF cd sT hl wd mr ho 0 (12 * y + x) cl))) (al := 0) (y := y) (ry := (seesF kd mr (sdF cd sT hl wd mr ho 0 (12 * y + x) cl))) (x := x) (rx := 1) (c := lo0 (y - (seesF kd mr (sdF cd sT hl wd mr ho 0 (12 * y + x) cl)))) (by omega) hS sc x0 x1 (by omega) (by omega) y0 y1 (by omega) (by omega) a2.1 (hi0 (y + (seesF kd mr (sdF cd sT hl wd mr ho 0 (12 * y + x) cl))) 15 + 1 - lo0 (y - (seesF kd mr (sdF cd sT hl wd mr ho 0 (12 * y + x) cl)))).toNat (lo0 (y - (seesF kd mr (sdF cd sT hl wd mr ho 0 (12 * y + x) cl)))) none (by omega) (by omega)
  rw [covRect_0] at z
  have e2 : (if y - (seesF kd mr (sdF cd sT hl wd mr ho 0 (12 * y + x) cl)) < 0 then 0 else if 15 < y - (seesF kd mr (sdF cd sT hl wd mr ho 0 (12 * y + x) cl)) then 15 else y - (seesF kd mr (sdF cd sT hl wd mr ho 0 (12 * y + x) cl))) = lo0 (y - (seesF kd mr (sdF cd sT hl wd mr ho 0 (12 * y + x) cl))) := within_lo (by omega)
  have e3 : w32 (y - (seesF kd mr (sdF cd sT hl wd mr ho 0 (12 * y + x) cl))) = y - (seesF kd mr (sdF cd sT hl wd mr ho 0 (12 * y + x) cl)) := w32_o (by omega) (by omega)
  rw [g143]
  simp (disch := omega) only [g143_0, g143_1, g143_2, g143_4, g143_5, g143_6, g143_7, g143_8, g143_11, g143_13, g143_15t, g143_15f, g143_18, g143_20, g143_23, g143_24, g143_26, g143_28t, g143_28f, g143_31, g143_32, g143_35, g143_37, g143_39, g143_40, g143_42, g143_43, g143_44, g143_46, g143_49, g143_53, g143_54, g143_56, g143_57, g143_58, g143_60, g143_63t, g143_63f, g143_66, g143_67, g143_69, g143_70, g143_71, g143_73, g143_76, g143_80, g143_81, g143_83, g143_84, g143_85, g143_87, g143_90t, g143_90f, g143_93, g143_94, g143_97, g143_99, g143_101, g143_102, g143_104, g143_105, g143_106, g143_107, g143_108, g143_111, g143_113, g143_115, g143_116, g143_118, g143_119, g143_120, g143_121t, g143_121f, g143_124, g143_125, g143_128, g143_129, g143_130, g143_131, g143_134, g143_137, g143_140, g143_143, cont_1, cont_0, w32_12, w32_12x, f1, within_, e3, e2]
  exact ⟨_, _, z⟩
theorem coversOver_1 {n t p : Nat} {cd sT hl : Nat → Int} {wd ho kd mr fu fi ev : Int} {M : Mem} {S : Sh} {ov : Nat → Int} {cl lo mi fl en : Int} {nm st : Nat → Int} {y x : Int} (hS : Std n S) (hD : MwD M t cd sT) (hsc : MdD M p hl wd ho kd mr fu fi ev) (y0 : 0 ≤ y) (y1 : y < 16) (x0 : 0 ≤ x) (x1 : x < 12) : ∃ nm' st', res 143 [aR 84, aI (p : Int), aI x, aI y, aI 1] (MM M ov cl lo mi fl en nm st) S = some (none, MM M (covF ov y 1 x (seesF kd mr (sdF cd sT hl wd mr ho 0 (12 * y + x) cl))) cl lo mi fl en nm' st', S) := by
  obtain ⟨s0, sc, s1, s2, s3, s4, s5, s6, s7, s8, s9, d0, d1, d2, d3, d4, d5⟩ := hsc
  have hsc : MdD M p hl wd ho kd mr fu fi ev := ⟨s0, sc, s1, s2, s3, s4, s5, s6, s7, s8, s9, d0, d1, d2, d3, d4, d5⟩
  have k84 := K84 hS
  have sb : 0 ≤ (seesF kd mr (sdF cd sT hl wd mr ho 0 (12 * y + x) cl)) ∧ (seesF kd mr (sdF cd sT hl wd mr ho 0 (12 * y + x) cl)) ≤ 15 := bnd3_in (by omega)
  obtain ⟨nm1, st1, f1⟩ := seesOver_ (ov := ov) (cl := cl) (lo := lo) (mi := mi) (fl := fl) (en := en) (nm := nm) (st := st) (m := 12 * y + x) hS hD hsc (by omega) (by omega)
  have a2 : 0 ≤ lo0 (y - 1) ∧ lo0 (y - 1) ≤ y := by unfold lo0; split <;> omega
  have a4 : y ≤ hi0 (y + 1) 15 ∧ hi0 (y + 1) 15 ≤ 15 := by unfold hi0; split <;> omega
  have z := mcover_out (ov := ov) (M := M) (cl := cl) (lo := lo) (mi := mi) (fl := fl) (en := en) (nm := nm1) (st := st1) (r := 14) (pp := (p : Int)) (ss := (seesF kd mr (sdF cd sT hl wd mr ho 0 (12 * y + x) cl))) (al := 1) (y := y) (ry := 1) (x := x) (rx := (seesF kd mr (sdF cd sT hl wd mr ho 0 (12 * y + x) cl))) (c := lo0 (y - 1)) (by omega) hS sc x0 x1 (by omega) (by omega) y0 y1 (by omega) (by omega) a2.1 (hi0 (y + 1) 15 + 1 - lo0 (y - 1)).toNat (lo0 (y - 1)) none (by omega) (by omega)
  rw [covRect_0] at z
  have e2 : (if y - 1 < 0 then 0 else if 15 < y - 1 then 15 else y - 1) = lo0 (y - 1) := within_lo (by omega)
  have e3 : w32 (y - 1) = y - 1 := w32_o (by omega) (by omega)
  rw [g143]
  simp (disch := omega) only [g143_0, g143_1, g143_2, g143_4, g143_5, g143_6, g143_7, g143_8, g143_11, g143_13, g143_15t, g143_15f, g143_18, g143_20, g143_23, g143_24, g143_26, g143_28t, g143_28f, g143_31, g143_32, g143_35, g143_37, g143_39, g143_40, g143_42, g143_43, g143_44, g143_46, g143_49, g143_53, g143_54, g143_56, g143_57, g143_58, g143_60, g143_63t, g143_63f, g143_66, g143_67, g143_69, g143_70, g143_71, g143_73, g143_76, g143_80, g143_81, g143_83, g143_84, g143_85, g143_87, g143_90t, g143_90f, g143_93, g143_94, g143_97, g143_99, g143_101, g143_102, g143_104, g143_105, g143_106, g143_107, g143_108, g143_111, g143_113, g143_115, g143_116, g143_118, g143_119, g143_120, g143_121t, g143_121f, g143_124, g143_125, g143_128, g143_129, g143_130, g143_131, g143_134, g143_137, g143_140, g143_143, cont_1, cont_0, w32_12, w32_12x, f1, within_, e3, e2]
  exact ⟨_, _, z⟩
theorem mclick_0 {n t p : Nat} {cd sT hl : Nat → Int} {wd ho kd mr fu fi ev : Int} {M : Mem} {S : Sh} {ov : Nat → Int} {cl lo mi fl en : Int} {nm st : Nat → Int} {ah as : Int} (hS : Std n S) (hD : MwD M t cd sT) (hsc : MdD M p hl wd ho kd mr fu fi ev) : ∃ nm' st', res 144 [aR 84, aI (p : Int), aI ah, aI as, aI 0] (MM M ov cl lo mi fl en nm st) S = some (none, MM M (clkF ho kd mr (sdF cd sT hl wd mr ho) 0 ah as (ov, cl, lo, mi)).1 (clkF ho kd mr (sdF cd sT hl wd mr ho) 0 ah as (ov, cl, lo, mi)).2.1 (clkF ho kd mr (sdF cd sT hl wd mr ho) 0 ah as (ov, cl, lo, mi)).2.2.1 mi fl en nm' st', S) := by
  obtain ⟨s0, sc, s1, s2, s3, s4, s5, s6, s7, s8, s9, d0, d1, d2, d3, d4, d5⟩ := hsc
  have hsc : MdD M p hl wd ho kd mr fu fi ev := ⟨s0, sc, s1, s2, s3, s4, s5, s6, s7, s8, s9, d0, d1, d2, d3, d4, d5⟩
  have k84 := K84 hS
  have k87 := K87 hS
  have k88 := K88 hS
  have k106 := K106 hS
  have l87 := L87 hS
  have l88 := L88 hS
  have l106 := L106 hS
  have f2 : ∀ (m : Int), 0 ≤ m → m < 192 → res 130 [aR 84, aI 2, aI (p : Int), aI m, aI (w32 (cl + 1))] (MM M ov (w32 (cl + 1)) lo mi fl en nm st) S = _ := fun m m0 m1 => mask_ (part := 2) hS hD hsc (by omega) m0 m1
  have e : clkF ho kd mr (sdF cd sT hl wd mr ho) 0 ah as (ov, cl, lo, mi) = clkG ho kd mr (sdF cd sT hl wd mr ho) 0 as ah (ov, cl, lo, mi) := if_pos rfl
  rw [e, g144]
  rcases (by omega : as < 0 ∨ (0 ≤ as ∧ 16 ≤ as) ∨ ((0 ≤ as ∧ as < 16) ∧ ah < 0) ∨ ((0 ≤ as ∧ as < 16) ∧ (0 ≤ ah ∧ 12 ≤ ah)) ∨ ((0 ≤ as ∧ as < 16) ∧ (0 ≤ ah ∧ ah < 12))) with ho1 | ho1 | ho1 | ho1 | hin
  · have e2 : clkG ho kd mr (sdF cd sT hl wd mr ho) 0 as ah (ov, cl, lo, mi) = (ov, w32 (cl + 1), w32 (lo + 1), mi) := if_pos (by omega)
    rw [e2]
    rcases (by omega : (ah < 0 ∨ 11 < ah) ∨ (0 ≤ ah ∧ ah ≤ 11)) with hx | hx
    all_goals simp (disch := omega) only [g144_0, g144_1, g144_4, g144_6, g144_7, g144_10, g144_11, g144_14, g144_16, g144_17, g144_18, g144_20, g144_21, g144_22, g144_24, g144_27t, g144_27f, g144_30, g144_31, g144_32, g144_34, g144_37t, g144_37f, g144_40, g144_41, g144_44, g144_45, g144_47, g144_48, g144_49, g144_52, g144_53, g144_54, g144_57, g144_59t, g144_59f, g144_62, g144_64, g144_66t, g144_66f, g144_69, g144_71, g144_73t, g144_73f, g144_76, g144_77, g144_78, g144_81, g144_82, g144_83, g144_86, g144_89, g144_91, g144_93, g144_94, g144_95, g144_96, g144_97, g144_99, g144_100, g144_101, g144_102, g144_103, g144_104, g144_107, g144_110t, g144_110f, g144_113, g144_114, g144_115, g144_118, g144_119, g144_120, g144_123, g144_126, g144_127, g144_128, g144_129, g144_130, g144_132, g144_135, cont_1, cont_0, w32_12, w32_12x, MM_cl, MM_lo, MM_mi, MM_fl, MM_en, MMs_cl, MMs_lo, MMs_mi, MMs_fl, MMs_en, MM_84, MM_cv, MM_nm, MM_st, MM_o, MMs_cv0, MMs_cv1, MMs_nm, MMs_st, in_t, in_f, s2, f2]
    all_goals exact ⟨_, _, rfl⟩
  · have e2 : clkG ho kd mr (sdF cd sT hl wd mr ho) 0 as ah (ov, cl, lo, mi) = (ov, w32 (cl + 1), w32 (lo + 1), mi) := if_pos (by omega)
    rw [e2]
    rcases (by omega : (ah < 0 ∨ 11 < ah) ∨ (0 ≤ ah ∧ ah ≤ 11)) with hx | hx
    all_goals simp (disch := omega) only [g144_0, g144_1, g144_4, g144_6, g144_7, g144_10, g144_11, g144_14, g144_16, g144_17, g144_18, g144_20, g144_21, g144_22, g144_24, g144_27t, g144_27f, g144_30, g144_31, g144_32, g144_34, g144_37t, g144_37f, g144_40, g144_41, g144_44, g144_45, g144_47, g144_48, g144_49, g144_52, g144_53, g144_54, g144_57, g144_59t, g144_59f, g144_62, g144_64, g144_66t, g144_66f, g144_69, g144_71, g144_73t, g144_73f, g144_76, g144_77, g144_78, g144_81, g144_82, g144_83, g144_86, g144_89, g144_91, g144_93, g144_94, g144_95, g144_96, g144_97, g144_99, g144_100, g144_101, g144_102, g144_103, g144_104, g144_107, g144_110t, g144_110f, g144_113, g144_114, g144_115, g144_118, g144_119, g144_120, g144_123, g144_126, g144_127, g144_128, g144_129, g144_130, g144_132, g144_135, cont_1, cont_0, w32_12, w32_12x, MM_cl, MM_lo, MM_mi, MM_fl, MM_en, MMs_cl, MMs_lo, MMs_mi, MMs_fl, MMs_en, MM_84, MM_cv, MM_nm, MM_st, MM_o, MMs_cv0, MMs_cv1, MMs_nm, MMs_st, in_t, in_f, s2, f2]
    all_goals exact ⟨_, _, rfl⟩
  · have e2 : clkG ho kd mr (sdF cd sT hl wd mr ho) 0 as ah (ov, cl, lo, mi) = (ov, w32 (cl + 1), w32 (lo + 1), mi) := if_pos (by omega)
    rw [e2]
    simp (disch := omega) only [g144_0, g144_1, g144_4, g144_6, g144_7, g144_10, g144_11, g144_14, g144_16, g144_17, g144_18, g144_20, g144_21, g144_22, g144_24, g144_27t, g144_27f, g144_30, g144_31, g144_32, g144_34, g144_37t, g144_37f, g144_40, g144_41, g144_44, g144_45, g144_47, g144_48, g144_49, g144_52, g144_53, g144_54, g144_57, g144_59t, g144_59f, g144_62, g144_64, g144_66t, g144_66f, g144_69, g144_71, g144_73t, g144_73f, g144_76, g144_77, g144_78, g144_81, g144_82, g144_83, g144_86, g144_89, g144_91, g144_93, g144_94, g144_95, g144_96, g144_97, g144_99, g144_100, g144_101, g144_102, g144_103, g144_104, g144_107, g144_110t, g144_110f, g144_113, g144_114, g144_115, g144_118, g144_119, g144_120, g144_123, g144_126, g144_127, g144_128, g144_129, g144_130, g144_132, g144_135, cont_1, cont_0, w32_12, w32_12x, MM_cl, MM_lo, MM_mi, MM_fl, MM_en, MMs_cl, MMs_lo, MMs_mi, MMs_fl, MMs_en, MM_84, MM_cv, MM_nm, MM_st, MM_o, MMs_cv0, MMs_cv1, MMs_nm, MMs_st, in_t, in_f, s2, f2]
    exact ⟨_, _, rfl⟩
  · have e2 : clkG ho kd mr (sdF cd sT hl wd mr ho) 0 as ah (ov, cl, lo, mi) = (ov, w32 (cl + 1), w32 (lo + 1), mi) := if_pos (by omega)
    rw [e2]
    simp (disch := omega) only [g144_0, g144_1, g144_4, g144_6, g144_7, g144_10, g144_11, g144_14, g144_16, g144_17, g144_18, g144_20, g144_21, g144_22, g144_24, g144_27t, g144_27f, g144_30, g144_31, g144_32, g144_34, g144_37t, g144_37f, g144_40, g144_41, g144_44, g144_45, g144_47, g144_48, g144_49, g144_52, g144_53, g144_54, g144_57, g144_59t, g144_59f, g144_62, g144_64, g144_66t, g144_66f, g144_69, g144_71, g144_73t, g144_73f, g144_76, g144_77, g144_78, g144_81, g144_82, g144_83, g144_86, g144_89, g144_91, g144_93, g144_94, g144_95, g144_96, g144_97, g144_99, g144_100, g144_101, g144_102, g144_103, g144_104, g144_107, g144_110t, g144_110f, g144_113, g144_114, g144_115, g144_118, g144_119, g144_120, g144_123, g144_126, g144_127, g144_128, g144_129, g144_130, g144_132, g144_135, cont_1, cont_0, w32_12, w32_12x, MM_cl, MM_lo, MM_mi, MM_fl, MM_en, MMs_cl, MMs_lo, MMs_mi, MMs_fl, MMs_en, MM_84, MM_cv, MM_nm, MM_st, MM_o, MMs_cv0, MMs_cv1, MMs_nm, MMs_st, in_t, in_f, s2, f2]
    exact ⟨_, _, rfl⟩
  · have g1 : ¬ ((as < 0 ∨ 16 ≤ as) ∨ (ah < 0 ∨ 12 ≤ ah)) := by omega
    have m0 : 0 ≤ 12 * as + ah := by omega
    have m1 : 12 * as + ah < 192 := by omega
    rcases (by omega : w32 (ho + w32 (Int.tdiv mi 60)) < 10 ∨ (10 ≤ w32 (ho + w32 (Int.tdiv mi 60)) ∧ 14 ≤ w32 (ho + w32 (Int.tdiv mi 60))) ∨ (10 ≤ w32 (ho + w32 (Int.tdiv mi 60)) ∧ w32 (ho + w32 (Int.tdiv mi 60)) < 14)) with hh | hh | hh
    · have e2 : clkG ho kd mr (sdF cd sT hl wd mr ho) 0 as ah (ov, cl, lo, mi) = (ov, w32 (cl + 1), w32 (lo + 1), mi) := (if_neg g1).trans (if_pos (by show w32 (ho + w32 (Int.tdiv mi 60)) < 10 ∨ 14 ≤ w32 (ho + w32 (Int.tdiv mi 60)); omega))
      rw [e2]
      simp (disch := omega) only [g144_0, g144_1, g144_4, g144_6, g144_7, g144_10, g144_11, g144_14, g144_16, g144_17, g144_18, g144_20, g144_21, g144_22, g144_24, g144_27t, g144_27f, g144_30, g144_31, g144_32, g144_34, g144_37t, g144_37f, g144_40, g144_41, g144_44, g144_45, g144_47, g144_48, g144_49, g144_52, g144_53, g144_54, g144_57, g144_59t, g144_59f, g144_62, g144_64, g144_66t, g144_66f, g144_69, g144_71, g144_73t, g144_73f, g144_76, g144_77, g144_78, g144_81, g144_82, g144_83, g144_86, g144_89, g144_91, g144_93, g144_94, g144_95, g144_96, g144_97, g144_99, g144_100, g144_101, g144_102, g144_103, g144_104, g144_107, g144_110t, g144_110f, g144_113, g144_114, g144_115, g144_118, g144_119, g144_120, g144_123, g144_126, g144_127, g144_128, g144_129, g144_130, g144_132, g144_135, cont_1, cont_0, w32_12, w32_12x, MM_cl, MM_lo, MM_mi, MM_fl, MM_en, MMs_cl, MMs_lo, MMs_mi, MMs_fl, MMs_en, MM_84, MM_cv, MM_nm, MM_st, MM_o, MMs_cv0, MMs_cv1, MMs_nm, MMs_st, in_t, in_f, s2, f2]
      exact ⟨_, _, rfl⟩
    · have e2 : clkG ho kd mr (sdF cd sT hl wd mr ho) 0 as ah (ov, cl, lo, mi) = (ov, w32 (cl + 1), w32 (lo + 1), mi) := (if_neg g1).trans (if_pos (by show w32 (ho + w32 (Int.tdiv mi 60)) < 10 ∨ 14 ≤ w32 (ho + w32 (Int.tdiv mi 60)); omega))
      rw [e2]
      simp (disch := omega) only [g144_0, g144_1, g144_4, g144_6, g144_7, g144_10, g144_11, g144_14, g144_16, g144_17, g144_18, g144_20, g144_21, g144_22, g144_24, g144_27t, g144_27f, g144_30, g144_31, g144_32, g144_34, g144_37t, g144_37f, g144_40, g144_41, g144_44, g144_45, g144_47, g144_48, g144_49, g144_52, g144_53, g144_54, g144_57, g144_59t, g144_59f, g144_62, g144_64, g144_66t, g144_66f, g144_69, g144_71, g144_73t, g144_73f, g144_76, g144_77, g144_78, g144_81, g144_82, g144_83, g144_86, g144_89, g144_91, g144_93, g144_94, g144_95, g144_96, g144_97, g144_99, g144_100, g144_101, g144_102, g144_103, g144_104, g144_107, g144_110t, g144_110f, g144_113, g144_114, g144_115, g144_118, g144_119, g144_120, g144_123, g144_126, g144_127, g144_128, g144_129, g144_130, g144_132, g144_135, cont_1, cont_0, w32_12, w32_12x, MM_cl, MM_lo, MM_mi, MM_fl, MM_en, MMs_cl, MMs_lo, MMs_mi, MMs_fl, MMs_en, MM_84, MM_cv, MM_nm, MM_st, MM_o, MMs_cv0, MMs_cv1, MMs_nm, MMs_st, in_t, in_f, s2, f2]
      exact ⟨_, _, rfl⟩
    · have g2 : ¬ (w32 (ho + w32 (Int.tdiv mi 60)) < 10 ∨ 14 ≤ w32 (ho + w32 (Int.tdiv mi 60))) := by omega
      by_cases hf : w32 (Int.tmod cl 100) < sdF cd sT hl wd mr ho 2 (12 * as + ah) (w32 (cl + 1))
      · have e2 : clkG ho kd mr (sdF cd sT hl wd mr ho) 0 as ah (ov, cl, lo, mi) = (ov, w32 (cl + 1), w32 (lo + 1), mi) := (if_neg g1).trans ((if_neg g2).trans (if_pos hf))
        rw [e2]
        simp (disch := omega) only [g144_0, g144_1, g144_4, g144_6, g144_7, g144_10, g144_11, g144_14, g144_16, g144_17, g144_18, g144_20, g144_21, g144_22, g144_24, g144_27t, g144_27f, g144_30, g144_31, g144_32, g144_34, g144_37t, g144_37f, g144_40, g144_41, g144_44, g144_45, g144_47, g144_48, g144_49, g144_52, g144_53, g144_54, g144_57, g144_59t, g144_59f, g144_62, g144_64, g144_66t, g144_66f, g144_69, g144_71, g144_73t, g144_73f, g144_76, g144_77, g144_78, g144_81, g144_82, g144_83, g144_86, g144_89, g144_91, g144_93, g144_94, g144_95, g144_96, g144_97, g144_99, g144_100, g144_101, g144_102, g144_103, g144_104, g144_107, g144_110t, g144_110f, g144_113, g144_114, g144_115, g144_118, g144_119, g144_120, g144_123, g144_126, g144_127, g144_128, g144_129, g144_130, g144_132, g144_135, cont_1, cont_0, w32_12, w32_12x, MM_cl, MM_lo, MM_mi, MM_fl, MM_en, MMs_cl, MMs_lo, MMs_mi, MMs_fl, MMs_en, MM_84, MM_cv, MM_nm, MM_st, MM_o, MMs_cv0, MMs_cv1, MMs_nm, MMs_st, in_t, in_f, s2, f2]
        exact ⟨_, _, rfl⟩
      · have e2 : clkG ho kd mr (sdF cd sT hl wd mr ho) 0 as ah (ov, cl, lo, mi) = (covF ov as (seesF kd mr (sdF cd sT hl wd mr ho 0 (12 * as + ah) (w32 (cl + 1)))) ah 1, w32 (cl + 1), lo, mi) := (if_neg g1).trans ((if_neg g2).trans (if_neg hf))
        rw [e2]
        have f3 : ∀ nm st, ∃ nm' st', res 143 [aR 84, aI (p : Int), aI ah, aI as, aI 0] (MM M ov (w32 (cl + 1)) lo mi fl en nm st) S = _ := fun nm st => coversOver_0 (y := as) (x := ah) hS hD hsc (by omega) (by omega) (by omega) (by omega)
        simp (disch := omega) only [g144_0, g144_1, g144_4, g144_6, g144_7, g144_10, g144_11, g144_14, g144_16, g144_17, g144_18, g144_20, g144_21, g144_22, g144_24, g144_27t, g144_27f, g144_30, g144_31, g144_32, g144_34, g144_37t, g144_37f, g144_40, g144_41, g144_44, g144_45, g144_47, g144_48, g144_49, g144_52, g144_53, g144_54, g144_57, g144_59t, g144_59f, g144_62, g144_64, g144_66t, g144_66f, g144_69, g144_71, g144_73t, g144_73f, g144_76, g144_77, g144_78, g144_81, g144_82, g144_83, g144_86, g144_89, g144_91, g144_93, g144_94, g144_95, g144_96, g144_97, g144_99, g144_100, g144_101, g144_102, g144_103, g144_104, g144_107, g144_110t, g144_110f, g144_113, g144_114, g144_115, g144_118, g144_119, g144_120, g144_123, g144_126, g144_127, g144_128, g144_129, g144_130, g144_132, g144_135, cont_1, cont_0, w32_12, w32_12x, MM_cl, MM_lo, MM_mi, MM_fl, MM_en, MMs_cl, MMs_lo, MMs_mi, MMs_fl, MMs_en, MM_84, MM_cv, MM_nm, MM_st, MM_o, MMs_cv0, MMs_cv1, MMs_nm, MMs_st, in_t, in_f, s2, f2]
        obtain ⟨nm2, st2, hz⟩ := f3 _ _
        rw [hz]
        simp (disch := omega) only [g144_0, g144_1, g144_4, g144_6, g144_7, g144_10, g144_11, g144_14, g144_16, g144_17, g144_18, g144_20, g144_21, g144_22, g144_24, g144_27t, g144_27f, g144_30, g144_31, g144_32, g144_34, g144_37t, g144_37f, g144_40, g144_41, g144_44, g144_45, g144_47, g144_48, g144_49, g144_52, g144_53, g144_54, g144_57, g144_59t, g144_59f, g144_62, g144_64, g144_66t, g144_66f, g144_69, g144_71, g144_73t, g144_73f, g144_76, g144_77, g144_78, g144_81, g144_82, g144_83, g144_86, g144_89, g144_91, g144_93, g144_94, g144_95, g144_96, g144_97, g144_99, g144_100, g144_101, g144_102, g144_103, g144_104, g144_107, g144_110t, g144_110f, g144_113, g144_114, g144_115, g144_118, g144_119, g144_120, g144_123, g144_126, g144_127, g144_128, g144_129, g144_130, g144_132, g144_135, cont_1, cont_0, w32_12, w32_12x, MM_cl, MM_lo, MM_mi, MM_fl, MM_en, MMs_cl, MMs_lo, MMs_mi, MMs_fl, MMs_en, MM_84, MM_cv, MM_nm, MM_st, MM_o, MMs_cv0, MMs_cv1, MMs_nm, MMs_st]
        exact ⟨_, _, rfl⟩
theorem mclick_1 {n t p : Nat} {cd sT hl : Nat → Int} {wd ho kd mr fu fi ev : Int} {M : Mem} {S : Sh} {ov : Nat → Int} {cl lo mi fl en : Int} {nm st : Nat → Int} {ah as : Int} (hS : Std n S) (hD : MwD M t cd sT) (hsc : MdD M p hl wd ho kd mr fu fi ev) : ∃ nm' st', res 144 [aR 84, aI (p : Int), aI as, aI ah, aI 1] (MM M ov cl lo mi fl en nm st) S = some (none, MM M (clkF ho kd mr (sdF cd sT hl wd mr ho) 1 ah as (ov, cl, lo, mi)).1 (clkF ho kd mr (sdF cd sT hl wd mr ho) 1 ah as (ov, cl, lo, mi)).2.1 (clkF ho kd mr (sdF cd sT hl wd mr ho) 1 ah as (ov, cl, lo, mi)).2.2.1 mi fl en nm' st', S) := by
  obtain ⟨s0, sc, s1, s2, s3, s4, s5, s6, s7, s8, s9, d0, d1, d2, d3, d4, d5⟩ := hsc
  have hsc : MdD M p hl wd ho kd mr fu fi ev := ⟨s0, sc, s1, s2, s3, s4, s5, s6, s7, s8, s9, d0, d1, d2, d3, d4, d5⟩
  have k84 := K84 hS
  have k87 := K87 hS
  have k88 := K88 hS
  have k106 := K106 hS
  have l87 := L87 hS
  have l88 := L88 hS
  have l106 := L106 hS
  have f2 : ∀ (m : Int), 0 ≤ m → m < 192 → res 130 [aR 84, aI 2, aI (p : Int), aI m, aI (w32 (cl + 1))] (MM M ov (w32 (cl + 1)) lo mi fl en nm st) S = _ := fun m m0 m1 => mask_ (part := 2) hS hD hsc (by omega) m0 m1
  have e : clkF ho kd mr (sdF cd sT hl wd mr ho) 1 ah as (ov, cl, lo, mi) = clkG ho kd mr (sdF cd sT hl wd mr ho) 1 ah as (ov, cl, lo, mi) := if_neg (by omega)
  rw [e, g144]
  rcases (by omega : ah < 0 ∨ (0 ≤ ah ∧ 16 ≤ ah) ∨ ((0 ≤ ah ∧ ah < 16) ∧ as < 0) ∨ ((0 ≤ ah ∧ ah < 16) ∧ (0 ≤ as ∧ 12 ≤ as)) ∨ ((0 ≤ ah ∧ ah < 16) ∧ (0 ≤ as ∧ as < 12))) with ho1 | ho1 | ho1 | ho1 | hin
  · have e2 : clkG ho kd mr (sdF cd sT hl wd mr ho) 1 ah as (ov, cl, lo, mi) = (ov, w32 (cl + 1), w32 (lo + 1), mi) := if_pos (by omega)
    rw [e2]
    rcases (by omega : (as < 0 ∨ 11 < as) ∨ (0 ≤ as ∧ as ≤ 11)) with hx | hx
    all_goals simp (disch := omega) only [g144_0, g144_1, g144_4, g144_6, g144_7, g144_10, g144_11, g144_14, g144_16, g144_17, g144_18, g144_20, g144_21, g144_22, g144_24, g144_27t, g144_27f, g144_30, g144_31, g144_32, g144_34, g144_37t, g144_37f, g144_40, g144_41, g144_44, g144_45, g144_47, g144_48, g144_49, g144_52, g144_53, g144_54, g144_57, g144_59t, g144_59f, g144_62, g144_64, g144_66t, g144_66f, g144_69, g144_71, g144_73t, g144_73f, g144_76, g144_77, g144_78, g144_81, g144_82, g144_83, g144_86, g144_89, g144_91, g144_93, g144_94, g144_95, g144_96, g144_97, g144_99, g144_100, g144_101, g144_102, g144_103, g144_104, g144_107, g144_110t, g144_110f, g144_113, g144_114, g144_115, g144_118, g144_119, g144_120, g144_123, g144_126, g144_127, g144_128, g144_129, g144_130, g144_132, g144_135, cont_1, cont_0, w32_12, w32_12x, MM_cl, MM_lo, MM_mi, MM_fl, MM_en, MMs_cl, MMs_lo, MMs_mi, MMs_fl, MMs_en, MM_84, MM_cv, MM_nm, MM_st, MM_o, MMs_cv0, MMs_cv1, MMs_nm, MMs_st, in_t, in_f, s2, f2]
    all_goals exact ⟨_, _, rfl⟩
  · have e2 : clkG ho kd mr (sdF cd sT hl wd mr ho) 1 ah as (ov, cl, lo, mi) = (ov, w32 (cl + 1), w32 (lo + 1), mi) := if_pos (by omega)
    rw [e2]
    rcases (by omega : (as < 0 ∨ 11 < as) ∨ (0 ≤ as ∧ as ≤ 11)) with hx | hx
    all_goals simp (disch := omega) only [g144_0, g144_1, g144_4, g144_6, g144_7, g144_10, g144_11, g144_14, g144_16, g144_17, g144_18, g144_20, g144_21, g144_22, g144_24, g144_27t, g144_27f, g144_30, g144_31, g144_32, g144_34, g144_37t, g144_37f, g144_40, g144_41, g144_44, g144_45, g144_47, g144_48, g144_49, g144_52, g144_53, g144_54, g144_57, g144_59t, g144_59f, g144_62, g144_64, g144_66t, g144_66f, g144_69, g144_71, g144_73t, g144_73f, g144_76, g144_77, g144_78, g144_81, g144_82, g144_83, g144_86, g144_89, g144_91, g144_93, g144_94, g144_95, g144_96, g144_97, g144_99, g144_100, g144_101, g144_102, g144_103, g144_104, g144_107, g144_110t, g144_110f, g144_113, g144_114, g144_115, g144_118, g144_119, g144_120, g144_123, g144_126, g144_127, g144_128, g144_129, g144_130, g144_132, g144_135, cont_1, cont_0, w32_12, w32_12x, MM_cl, MM_lo, MM_mi, MM_fl, MM_en, MMs_cl, MMs_lo, MMs_mi, MMs_fl, MMs_en, MM_84, MM_cv, MM_nm, MM_st, MM_o, MMs_cv0, MMs_cv1, MMs_nm, MMs_st, in_t, in_f, s2, f2]
    all_goals exact ⟨_, _, rfl⟩
  · have e2 : clkG ho kd mr (sdF cd sT hl wd mr ho) 1 ah as (ov, cl, lo, mi) = (ov, w32 (cl + 1), w32 (lo + 1), mi) := if_pos (by omega)
    rw [e2]
    simp (disch := omega) only [g144_0, g144_1, g144_4, g144_6, g144_7, g144_10, g144_11, g144_14, g144_16, g144_17, g144_18, g144_20, g144_21, g144_22, g144_24, g144_27t, g144_27f, g144_30, g144_31, g144_32, g144_34, g144_37t, g144_37f, g144_40, g144_41, g144_44, g144_45, g144_47, g144_48, g144_49, g144_52, g144_53, g144_54, g144_57, g144_59t, g144_59f, g144_62, g144_64, g144_66t, g144_66f, g144_69, g144_71, g144_73t, g144_73f, g144_76, g144_77, g144_78, g144_81, g144_82, g144_83, g144_86, g144_89, g144_91, g144_93, g144_94, g144_95, g144_96, g144_97, g144_99, g144_100, g144_101, g144_102, g144_103, g144_104, g144_107, g144_110t, g144_110f, g144_113, g144_114, g144_115, g144_118, g144_119, g144_120, g144_123, g144_126, g144_127, g144_128, g144_129, g144_130, g144_132, g144_135, cont_1, cont_0, w32_12, w32_12x, MM_cl, MM_lo, MM_mi, MM_fl, MM_en, MMs_cl, MMs_lo, MMs_mi, MMs_fl, MMs_en, MM_84, MM_cv, MM_nm, MM_st, MM_o, MMs_cv0, MMs_cv1, MMs_nm, MMs_st, in_t, in_f, s2, f2]
    exact ⟨_, _, rfl⟩
  · have e2 : clkG ho kd mr (sdF cd sT hl wd mr ho) 1 ah as (ov, cl, lo, mi) = (ov, w32 (cl + 1), w32 (lo + 1), mi) := if_pos (by omega)
    rw [e2]
    simp (disch := omega) only [g144_0, g144_1, g144_4, g144_6, g144_7, g144_10, g144_11, g144_14, g144_16, g144_17, g144_18, g144_20, g144_21, g144_22, g144_24, g144_27t, g144_27f, g144_30, g144_31, g144_32, g144_34, g144_37t, g144_37f, g144_40, g144_41, g144_44, g144_45, g144_47, g144_48, g144_49, g144_52, g144_53, g144_54, g144_57, g144_59t, g144_59f, g144_62, g144_64, g144_66t, g144_66f, g144_69, g144_71, g144_73t, g144_73f, g144_76, g144_77, g144_78, g144_81, g144_82, g144_83, g144_86, g144_89, g144_91, g144_93, g144_94, g144_95, g144_96, g144_97, g144_99, g144_100, g144_101, g144_102, g144_103, g144_104, g144_107, g144_110t, g144_110f, g144_113, g144_114, g144_115, g144_118, g144_119, g144_120, g144_123, g144_126, g144_127, g144_128, g144_129, g144_130, g144_132, g144_135, cont_1, cont_0, w32_12, w32_12x, MM_cl, MM_lo, MM_mi, MM_fl, MM_en, MMs_cl, MMs_lo, MMs_mi, MMs_fl, MMs_en, MM_84, MM_cv, MM_nm, MM_st, MM_o, MMs_cv0, MMs_cv1, MMs_nm, MMs_st, in_t, in_f, s2, f2]
    exact ⟨_, _, rfl⟩
  · have g1 : ¬ ((ah < 0 ∨ 16 ≤ ah) ∨ (as < 0 ∨ 12 ≤ as)) := by omega
    have m0 : 0 ≤ 12 * ah + as := by omega
    have m1 : 12 * ah + as < 192 := by omega
    rcases (by omega : w32 (ho + w32 (Int.tdiv mi 60)) < 10 ∨ (10 ≤ w32 (ho + w32 (Int.tdiv mi 60)) ∧ 14 ≤ w32 (ho + w32 (Int.tdiv mi 60))) ∨ (10 ≤ w32 (ho + w32 (Int.tdiv mi 60)) ∧ w32 (ho + w32 (Int.tdiv mi 60)) < 14)) with hh | hh | hh
    · have e2 : clkG ho kd mr (sdF cd sT hl wd mr ho) 1 ah as (ov, cl, lo, mi) = (ov, w32 (cl + 1), w32 (lo + 1), mi) := (if_neg g1).trans (if_pos (by show w32 (ho + w32 (Int.tdiv mi 60)) < 10 ∨ 14 ≤ w32 (ho + w32 (Int.tdiv mi 60)); omega))
      rw [e2]
      simp (disch := omega) only [g144_0, g144_1, g144_4, g144_6, g144_7, g144_10, g144_11, g144_14, g144_16, g144_17, g144_18, g144_20, g144_21, g144_22, g144_24, g144_27t, g144_27f, g144_30, g144_31, g144_32, g144_34, g144_37t, g144_37f, g144_40, g144_41, g144_44, g144_45, g144_47, g144_48, g144_49, g144_52, g144_53, g144_54, g144_57, g144_59t, g144_59f, g144_62, g144_64, g144_66t, g144_66f, g144_69, g144_71, g144_73t, g144_73f, g144_76, g144_77, g144_78, g144_81, g144_82, g144_83, g144_86, g144_89, g144_91, g144_93, g144_94, g144_95, g144_96, g144_97, g144_99, g144_100, g144_101, g144_102, g144_103, g144_104, g144_107, g144_110t, g144_110f, g144_113, g144_114, g144_115, g144_118, g144_119, g144_120, g144_123, g144_126, g144_127, g144_128, g144_129, g144_130, g144_132, g144_135, cont_1, cont_0, w32_12, w32_12x, MM_cl, MM_lo, MM_mi, MM_fl, MM_en, MMs_cl, MMs_lo, MMs_mi, MMs_fl, MMs_en, MM_84, MM_cv, MM_nm, MM_st, MM_o, MMs_cv0, MMs_cv1, MMs_nm, MMs_st, in_t, in_f, s2, f2]
      exact ⟨_, _, rfl⟩
    · have e2 : clkG ho kd mr (sdF cd sT hl wd mr ho) 1 ah as (ov, cl, lo, mi) = (ov, w32 (cl + 1), w32 (lo + 1), mi) := (if_neg g1).trans (if_pos (by show w32 (ho + w32 (Int.tdiv mi 60)) < 10 ∨ 14 ≤ w32 (ho + w32 (Int.tdiv mi 60)); omega))
      rw [e2]
      simp (disch := omega) only [g144_0, g144_1, g144_4, g144_6, g144_7, g144_10, g144_11, g144_14, g144_16, g144_17, g144_18, g144_20, g144_21, g144_22, g144_24, g144_27t, g144_27f, g144_30, g144_31, g144_32, g144_34, g144_37t, g144_37f, g144_40, g144_41, g144_44, g144_45, g144_47, g144_48, g144_49, g144_52, g144_53, g144_54, g144_57, g144_59t, g144_59f, g144_62, g144_64, g144_66t, g144_66f, g144_69, g144_71, g144_73t, g144_73f, g144_76, g144_77, g144_78, g144_81, g144_82, g144_83, g144_86, g144_89, g144_91, g144_93, g144_94, g144_95, g144_96, g144_97, g144_99, g144_100, g144_101, g144_102, g144_103, g144_104, g144_107, g144_110t, g144_110f, g144_113, g144_114, g144_115, g144_118, g144_119, g144_120, g144_123, g144_126, g144_127, g144_128, g144_129, g144_130, g144_132, g144_135, cont_1, cont_0, w32_12, w32_12x, MM_cl, MM_lo, MM_mi, MM_fl, MM_en, MMs_cl, MMs_lo, MMs_mi, MMs_fl, MMs_en, MM_84, MM_cv, MM_nm, MM_st, MM_o, MMs_cv0, MMs_cv1, MMs_nm, MMs_st, in_t, in_f, s2, f2]
      exact ⟨_, _, rfl⟩
    · have g2 : ¬ (w32 (ho + w32 (Int.tdiv mi 60)) < 10 ∨ 14 ≤ w32 (ho + w32 (Int.tdiv mi 60))) := by omega
      by_cases hf : w32 (Int.tmod cl 100) < sdF cd sT hl wd mr ho 2 (12 * ah + as) (w32 (cl + 1))
      · have e2 : clkG ho kd mr (sdF cd sT hl wd mr ho) 1 ah as (ov, cl, lo, mi) = (ov, w32 (cl + 1), w32 (lo + 1), mi) := (if_neg g1).trans ((if_neg g2).trans (if_pos hf))
        rw [e2]
        simp (disch := omega) only [g144_0, g144_1, g144_4, g144_6, g144_7, g144_10, g144_11, g144_14, g144_16, g144_17, g144_18, g144_20, g144_21, g144_22, g144_24, g144_27t, g144_27f, g144_30, g144_31, g144_32, g144_34, g144_37t, g144_37f, g144_40, g144_41, g144_44, g144_45, g144_47, g144_48, g144_49, g144_52, g144_53, g144_54, g144_57, g144_59t, g144_59f, g144_62, g144_64, g144_66t, g144_66f, g144_69, g144_71, g144_73t, g144_73f, g144_76, g144_77, g144_78, g144_81, g144_82, g144_83, g144_86, g144_89, g144_91, g144_93, g144_94, g144_95, g144_96, g144_97, g144_99, g144_100, g144_101, g144_102, g144_103, g144_104, g144_107, g144_110t, g144_110f, g144_113, g144_114, g144_115, g144_118, g144_119, g144_120, g144_123, g144_126, g144_127, g144_128, g144_129, g144_130, g144_132, g144_135, cont_1, cont_0, w32_12, w32_12x, MM_cl, MM_lo, MM_mi, MM_fl, MM_en, MMs_cl, MMs_lo, MMs_mi, MMs_fl, MMs_en, MM_84, MM_cv, MM_nm, MM_st, MM_o, MMs_cv0, MMs_cv1, MMs_nm, MMs_st, in_t, in_f, s2, f2]
        exact ⟨_, _, rfl⟩
      · have e2 : clkG ho kd mr (sdF cd sT hl wd mr ho) 1 ah as (ov, cl, lo, mi) = (covF ov ah 1 as (seesF kd mr (sdF cd sT hl wd mr ho 0 (12 * ah + as) (w32 (cl + 1)))), w32 (cl + 1), lo, mi) := (if_neg g1).trans ((if_neg g2).trans (if_neg hf))
        rw [e2]
        have f3 : ∀ nm st, ∃ nm' st', res 143 [aR 84, aI (p : Int), aI as, aI ah, aI 1] (MM M ov (w32 (cl + 1)) lo mi fl en nm st) S = _ := fun nm st => coversOver_1 (y := ah) (x := as) hS hD hsc (by omega) (by omega) (by omega) (by omega)
        simp (disch := omega) only [g144_0, g144_1, g144_4, g144_6, g144_7, g144_10, g144_11, g144_14, g144_16, g144_17, g144_18, g144_20, g144_21, g144_22, g144_24, g144_27t, g144_27f, g144_30, g144_31, g144_32, g144_34, g144_37t, g144_37f, g144_40, g144_41, g144_44, g144_45, g144_47, g144_48, g144_49, g144_52, g144_53, g144_54, g144_57, g144_59t, g144_59f, g144_62, g144_64, g144_66t, g144_66f, g144_69, g144_71, g144_73t, g144_73f, g144_76, g144_77, g144_78, g144_81, g144_82, g144_83, g144_86, g144_89, g144_91, g144_93, g144_94, g144_95, g144_96, g144_97, g144_99, g144_100, g144_101, g144_102, g144_103, g144_104, g144_107, g144_110t, g144_110f, g144_113, g144_114, g144_115, g144_118, g144_119, g144_120, g144_123, g144_126, g144_127, g144_128, g144_129, g144_130, g144_132, g144_135, cont_1, cont_0, w32_12, w32_12x, MM_cl, MM_lo, MM_mi, MM_fl, MM_en, MMs_cl, MMs_lo, MMs_mi, MMs_fl, MMs_en, MM_84, MM_cv, MM_nm, MM_st, MM_o, MMs_cv0, MMs_cv1, MMs_nm, MMs_st, in_t, in_f, s2, f2]
        obtain ⟨nm2, st2, hz⟩ := f3 _ _
        rw [hz]
        simp (disch := omega) only [g144_0, g144_1, g144_4, g144_6, g144_7, g144_10, g144_11, g144_14, g144_16, g144_17, g144_18, g144_20, g144_21, g144_22, g144_24, g144_27t, g144_27f, g144_30, g144_31, g144_32, g144_34, g144_37t, g144_37f, g144_40, g144_41, g144_44, g144_45, g144_47, g144_48, g144_49, g144_52, g144_53, g144_54, g144_57, g144_59t, g144_59f, g144_62, g144_64, g144_66t, g144_66f, g144_69, g144_71, g144_73t, g144_73f, g144_76, g144_77, g144_78, g144_81, g144_82, g144_83, g144_86, g144_89, g144_91, g144_93, g144_94, g144_95, g144_96, g144_97, g144_99, g144_100, g144_101, g144_102, g144_103, g144_104, g144_107, g144_110t, g144_110f, g144_113, g144_114, g144_115, g144_118, g144_119, g144_120, g144_123, g144_126, g144_127, g144_128, g144_129, g144_130, g144_132, g144_135, cont_1, cont_0, w32_12, w32_12x, MM_cl, MM_lo, MM_mi, MM_fl, MM_en, MMs_cl, MMs_lo, MMs_mi, MMs_fl, MMs_en, MM_84, MM_cv, MM_nm, MM_st, MM_o, MMs_cv0, MMs_cv1, MMs_nm, MMs_st]
        exact ⟨_, _, rfl⟩
