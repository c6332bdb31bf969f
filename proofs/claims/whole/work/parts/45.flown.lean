theorem al_loop {n r : Nat} {many : Int} {M : Mem} {S : Sh} (hS : Std n S) : ∀ (j k : Nat), k + j = 192 → go r 147 4 [some (aR 84), some (aI many), some (aI ((cnt (M 106) many k : Nat) : Int)), some (aI (k : Int))] [] M S = some (some (aI ((cnt (M 106) many 192 : Nat) : Int)), M, S) := by
  have k84 := K84 hS
  have k106 := K106 hS
  have l106 := L106 hS
  intro j
  induction j with
  | zero =>
    intro k hk
    have e : k = 192 := by omega
    subst e
    rw [g147_4]
    simp (disch := omega) only [g147_0, g147_1, g147_2, g147_3, g147_5, g147_8t, g147_8f, g147_11, g147_12, g147_13, g147_16, g147_17, g147_18, g147_19t, g147_19f, g147_22, g147_23, g147_26, g147_27, g147_28, g147_29, g147_32, g147_35, g147_36, cont_1, cont_0, w32_o]
  | succ j ih =>
    intro k hk
    have z := ih (k + 1) (by omega)
    have le := cnt_le (M 106) many k
    rw [g147_4]
    by_cases h : many ≤ M 106 k
    · rw [cnt_t h, nc_1, nc_1] at z
      simp (disch := omega) only [g147_0, g147_1, g147_2, g147_3, g147_5, g147_8t, g147_8f, g147_11, g147_12, g147_13, g147_16, g147_17, g147_18, g147_19t, g147_19f, g147_22, g147_23, g147_26, g147_27, g147_28, g147_29, g147_32, g147_35, g147_36, cont_1, cont_0, w32_o, P84_37 hS, Int.toNat_natCast]
      exact z
    · rw [cnt_f (Int.not_le.mp h), nc_1] at z
      simp (disch := omega) only [g147_0, g147_1, g147_2, g147_3, g147_5, g147_8t, g147_8f, g147_11, g147_12, g147_13, g147_16, g147_17, g147_18, g147_19t, g147_19f, g147_22, g147_23, g147_26, g147_27, g147_28, g147_29, g147_32, g147_35, g147_36, cont_1, cont_0, w32_o, P84_37 hS, Int.toNat_natCast, Int.zero_add]
      exact z
theorem atLeast_ {n : Nat} {many : Int} {M : Mem} {S : Sh} (hS : Std n S) : res 147 [aR 84, aI many] M S = some (some (aI ((cnt (M 106) many 192 : Nat) : Int)), M, S) := by
  have z := al_loop (r := 10) (many := many) (M := M) hS 192 0 (by omega)
  rw [g147]
  simp (disch := omega) only [g147_0, g147_1, g147_2, g147_3, g147_5, g147_8t, g147_8f, g147_11, g147_12, g147_13, g147_16, g147_17, g147_18, g147_19t, g147_19f, g147_22, g147_23, g147_26, g147_27, g147_28, g147_29, g147_32, g147_35, g147_36, cont_1, cont_0, w32_o]
  exact z
/-- as flown does it; lo: the strip left out; q: 1 ahead of the first -/
def flM (kd mr fu fi ev ho : Int) (sd : Nat → Int → Int → Int) (ws ls : Nat → Int) (lo : Int) : Nat → Nat → FS → Int → Int → FS × Int
  | 0, _, s, f, _ => (s, f)
  | rem + 1, k, s, f, q => if (k : Int) = lo then flM kd mr fu fi ev ho sd ws ls lo rem (k + 1) s f q
    else if (stripF kd mr fu fi ev ho sd (ws k) (ls k) (s.1, s.2.1, s.2.2.1, w32 (s.2.2.2 + (if q = 0 then turnMin kd mr else 0)))).1 = 0 then ((stripF kd mr fu fi ev ho sd (ws k) (ls k) (s.1, s.2.1, s.2.2.1, w32 (s.2.2.2 + (if q = 0 then turnMin kd mr else 0)))).2, f)
    else flM kd mr fu fi ev ho sd ws ls lo rem (k + 1) (stripF kd mr fu fi ev ho sd (ws k) (ls k) (s.1, s.2.1, s.2.2.1, w32 (s.2.2.2 + (if q = 0 then turnMin kd mr else 0)))).2 (w32 (f + 1)) 0
theorem flM_none {kd mr fu fi ev ho : Int} {sd : Nat → Int → Int → Int} {ws ls : Nat → Int} : ∀ (rem k : Nat) (s : FS) (f q : Int), (if k = 0 then q = 1 else q = 0) → flM kd mr fu fi ev ho sd ws ls (-1) rem k s f q = flF kd mr fu fi ev ho sd ws ls rem k s f := by
  intro rem
  induction rem with
  | zero => intro k s f q _; rfl
  | succ rem ih =>
    intro k s f q hq
    have e : (if q = 0 then turnMin kd mr else 0) = (if k = 0 then 0 else turnMin kd mr) := by
      by_cases h : k = 0
      · rw [if_pos h] at hq
        rw [if_pos h, if_neg (by omega)]
      · rw [if_neg h] at hq
        rw [if_neg h, if_pos hq]
    rw [flM, flF, if_neg (by omega), e]
    rw [ih (k + 1) _ _ 0 (by rw [if_neg (by omega)])]
/-- a row without its place j -/
def rmv (j : Nat) (f : Nat → Int) : Nat → Int := fun i => if i < j then f i else f (i + 1)
theorem rmv_lt {j i : Nat} {f : Nat → Int} (h : i < j) : rmv j f i = f i := if_pos h
theorem rmv_ge {j i : Nat} {f : Nat → Int} (h : j ≤ i) : rmv j f i = f (i + 1) := if_neg (Nat.not_lt.mpr h)
theorem flM_after {kd mr fu fi ev ho : Int} {sd : Nat → Int → Int → Int} {ws ls : Nat → Int} {j : Nat} : ∀ (rem k : Nat) (s : FS) (f q : Int), j ≤ k → (if k = 0 then q = 1 else q = 0) → flM kd mr fu fi ev ho sd ws ls (j : Int) rem (k + 1) s f q = flF kd mr fu fi ev ho sd (rmv j ws) (rmv j ls) rem k s f := by
  intro rem
  induction rem with
  | zero => intro k s f q _ _; rfl
  | succ rem ih =>
    intro k s f q hj hq
    have e : (if q = 0 then turnMin kd mr else 0) = (if k = 0 then 0 else turnMin kd mr) := by
      by_cases h : k = 0
      · rw [if_pos h] at hq
        rw [if_pos h, if_neg (by omega)]
      · rw [if_neg h] at hq
        rw [if_neg h, if_pos hq]
    rw [flM, flF, if_neg (by omega), e, rmv_ge hj, rmv_ge hj]
    rw [ih (k + 1) _ _ 0 (by omega) (by rw [if_neg (by omega)])]
theorem flM_left {kd mr fu fi ev ho : Int} {sd : Nat → Int → Int → Int} {ws ls : Nat → Int} {j : Nat} : ∀ (rem k : Nat) (s : FS) (f q : Int), k ≤ j → j < k + (rem + 1) → (if k = 0 then q = 1 else q = 0) → flM kd mr fu fi ev ho sd ws ls (j : Int) (rem + 1) k s f q = flF kd mr fu fi ev ho sd (rmv j ws) (rmv j ls) rem k s f := by
  intro rem
  induction rem with
  | zero =>
    intro k s f q h0 h1 hq
    rw [flM, if_pos (by omega)]
    rfl
  | succ rem ih =>
    intro k s f q h0 h1 hq
    by_cases hk : k = j
    · rw [flM, if_pos (by omega)]
      exact flM_after (rem + 1) k s f q (by omega) hq
    · have e : (if q = 0 then turnMin kd mr else 0) = (if k = 0 then 0 else turnMin kd mr) := by
        by_cases h : k = 0
        · rw [if_pos h] at hq
          rw [if_pos h, if_neg (by omega)]
        · rw [if_neg h] at hq
          rw [if_neg h, if_pos hq]
      rw [flM, flF, if_neg (by omega), e, rmv_lt (by omega), rmv_lt (by omega)]
      rw [ih (k + 1) _ _ 0 (by omega) (by omega) (by rw [if_neg (by omega)])]
/-- strips of the model -/
def MsR (M : Mem) (ns : Nat) (ws ls : Nat → Int) : Prop := M 84 9 = (ns : Int) ∧ ns ≤ 12 ∧ ∀ k, k < ns → M 90 k = ws k ∧ M 91 k = ls k ∧ 0 ≤ ws k ∧ ws k ≤ 3 ∧ 0 ≤ ls k ∧ ls k < 16 ∧ (ws k < 2 → ls k < 12)
theorem atMM {M : Mem} {ov : Nat → Int} {cl lo mi fl en : Int} {nm st : Nat → Int} {n : Nat} {S : Sh} (hS : Std n S) (many : Int) : res 147 [aR 84, aI many] (MM M ov cl lo mi fl en nm st) S = some (some (aI ((cnt (mskF (M 86) ov) many 192 : Nat) : Int)), MM M ov cl lo mi fl en nm st, S) := by
  rw [atLeast_ hS, cnt_ext (fun k hk => MM_cv hk)]
theorem flown_end {M : Mem} {ov : Nat → Int} {cl lo mi fl : Int} {nm st : Nat → Int} {n r ns p : Nat} {q lf : Int} {S : Sh} (hr : 10 < r) (hS : Std n S) (hw : M 84 4 = (p : Int)) (hn : M 84 9 = (ns : Int)) (n12 : ns ≤ 12) (hlf : M 84 43 = lf) : ∀ (rem k : Nat), k + rem = ns → go r 146 51 [some (aR 84), some (aI q), some (aI (k : Int))] [] (MM M ov cl lo mi fl 1 nm st) S = some (some (aI ((cnt (mskF (M 86) ov) 1 192 : Nat) : Int)), MM M ov cl lo mi fl 1 nm st, S) := by
  have k84 := K84 hS
  intro rem
  induction rem with
  | zero =>
    intro k hk
    have e : ns = k := by omega
    subst e
    rw [g146_51]
    simp (disch := omega) only [g146_0, g146_1, g146_3, g146_6t, g146_6f, g146_9, g146_10, g146_13, g146_14, g146_15, g146_16, g146_19, g146_22, g146_23, g146_24, g146_27, g146_28, g146_29, g146_32, g146_33, g146_34, g146_37, g146_38, g146_39, g146_42, g146_43, g146_44, g146_47, g146_48, g146_49, g146_50, g146_52, g146_53, g146_56t, g146_56f, g146_59, g146_60, g146_63, g146_64t, g146_64f, g146_67, g146_68, g146_69, g146_72t, g146_72f, g146_75, g146_76, g146_79t, g146_79f, g146_82, g146_83, g146_84, g146_87, g146_88t, g146_88f, g146_91, g146_92, g146_95, g146_96, g146_97, g146_100, g146_103, g146_104, g146_107, g146_108, g146_109, g146_110, g146_111, g146_114, g146_115, g146_118, g146_119, g146_120, g146_121, g146_124, g146_125, g146_126, g146_129, g146_132, g146_135, g146_136, g146_137, g146_140, cont_1, cont_0, w32_k, MM_cl, MM_lo, MM_mi, MM_fl, MM_en, MMs_cl, MMs_lo, MMs_mi, MMs_fl, MMs_en, MM_84, MM_cv, MM_nm, MM_st, MM_o, MMs_cv0, MMs_cv1, MMs_nm, MMs_st, hn, atMM hS]
  | succ rem ih =>
    intro k hk
    rw [g146_51]
    by_cases h : (k : Int) = lf
    all_goals simp (disch := omega) only [g146_0, g146_1, g146_3, g146_6t, g146_6f, g146_9, g146_10, g146_13, g146_14, g146_15, g146_16, g146_19, g146_22, g146_23, g146_24, g146_27, g146_28, g146_29, g146_32, g146_33, g146_34, g146_37, g146_38, g146_39, g146_42, g146_43, g146_44, g146_47, g146_48, g146_49, g146_50, g146_52, g146_53, g146_56t, g146_56f, g146_59, g146_60, g146_63, g146_64t, g146_64f, g146_67, g146_68, g146_69, g146_72t, g146_72f, g146_75, g146_76, g146_79t, g146_79f, g146_82, g146_83, g146_84, g146_87, g146_88t, g146_88f, g146_91, g146_92, g146_95, g146_96, g146_97, g146_100, g146_103, g146_104, g146_107, g146_108, g146_109, g146_110, g146_111, g146_114, g146_115, g146_118, g146_119, g146_120, g146_121, g146_124, g146_125, g146_126, g146_129, g146_132, g146_135, g146_136, g146_137, g146_140, cont_1, cont_0, w32_k, MM_cl, MM_lo, MM_mi, MM_fl, MM_en, MMs_cl, MMs_lo, MMs_mi, MMs_fl, MMs_en, MM_84, MM_cv, MM_nm, MM_st, MM_o, MMs_cv0, MMs_cv1, MMs_nm, MMs_st, hn, hw, hlf, atMM hS]
    all_goals exact ih (k + 1) (by omega)
theorem flown_loop {n t p : Nat} {cd sT hl : Nat → Int} {wd ho kd mr fu fi ev : Int} {M : Mem} {S : Sh} {ns r : Nat} {ws ls : Nat → Int} {lf : Int} (hS : Std n S) (hD : MwD M t cd sT) (hsc : MdD M p hl wd ho kd mr fu fi ev) (hr : 16 < r) (hR : MsR M ns ws ls) (hlf : M 84 43 = lf) : ∀ (rem k : Nat) (ov : Nat → Int) (cl lo mi f q : Int) (nm st : Nat → Int), k + rem = ns → (q = 0 ∨ q = 1) → 0 ≤ f → f ≤ k → ∃ en nm' st', go r 146 51 [some (aR 84), some (aI q), some (aI (k : Int))] [] (MM M ov cl lo mi f 0 nm st) S = some (some (aI ((cnt (mskF (M 86) (flM kd mr fu fi ev ho (sdF cd sT hl wd mr ho) ws ls lf rem k (ov, cl, lo, mi) f q).1.1) 1 192 : Nat) : Int)), MM M (flM kd mr fu fi ev ho (sdF cd sT hl wd mr ho) ws ls lf rem k (ov, cl, lo, mi) f q).1.1 (flM kd mr fu fi ev ho (sdF cd sT hl wd mr ho) ws ls lf rem k (ov, cl, lo, mi) f q).1.2.1 (flM kd mr fu fi ev ho (sdF cd sT hl wd mr ho) ws ls lf rem k (ov, cl, lo, mi) f q).1.2.2.1 (flM kd mr fu fi ev ho (sdF cd sT hl wd mr ho) ws ls lf rem k (ov, cl, lo, mi) f q).1.2.2.2 (flM kd mr fu fi ev ho (sdF cd sT hl wd mr ho) ws ls lf rem k (ov, cl, lo, mi) f q).2 en nm' st', S) := by
  obtain ⟨s0, sc, s1, s2, s3, s4, s5, s6, s7, s8, s9, d0, d1, d2, d3, d4, d5⟩ := hsc
  have hsc : MdD M p hl wd ho kd mr fu fi ev := ⟨s0, sc, s1, s2, s3, s4, s5, s6, s7, s8, s9, d0, d1, d2, d3, d4, d5⟩
  have k84 := K84 hS
  have k87 := K87 hS
  have k88 := K88 hS
  have k89 := K89 hS
  have k90 := K90 hS
  have k91 := K91 hS
  have k106 := K106 hS
  have l87 := L87 hS
  have l88 := L88 hS
  have l89 := L89 hS
  have l90 := L90 hS
  have l91 := L91 hS
  have l106 := L106 hS
  obtain ⟨r0, r1, r2⟩ := hR
  intro rem
  induction rem with
  | zero =>
    intro k ov cl lo mi f q nm st hk hq f0 f1
    have hk2 : ns = k := by omega
    subst hk2
    rw [g146_51]
    simp (disch := omega) only [g146_0, g146_1, g146_3, g146_6t, g146_6f, g146_9, g146_10, g146_13, g146_14, g146_15, g146_16, g146_19, g146_22, g146_23, g146_24, g146_27, g146_28, g146_29, g146_32, g146_33, g146_34, g146_37, g146_38, g146_39, g146_42, g146_43, g146_44, g146_47, g146_48, g146_49, g146_50, g146_52, g146_53, g146_56t, g146_56f, g146_59, g146_60, g146_63, g146_64t, g146_64f, g146_67, g146_68, g146_69, g146_72t, g146_72f, g146_75, g146_76, g146_79t, g146_79f, g146_82, g146_83, g146_84, g146_87, g146_88t, g146_88f, g146_91, g146_92, g146_95, g146_96, g146_97, g146_100, g146_103, g146_104, g146_107, g146_108, g146_109, g146_110, g146_111, g146_114, g146_115, g146_118, g146_119, g146_120, g146_121, g146_124, g146_125, g146_126, g146_129, g146_132, g146_135, g146_136, g146_137, g146_140, cont_1, cont_0, w32_k, MM_cl, MM_lo, MM_mi, MM_fl, MM_en, MMs_cl, MMs_lo, MMs_mi, MMs_fl, MMs_en, MM_84, MM_cv, MM_nm, MM_st, MM_o, MMs_cv0, MMs_cv1, MMs_nm, MMs_st, r0, atMM hS]
    exact ⟨_, _, _, rfl⟩
  | succ rem ih =>
    intro k ov cl lo mi f q nm st hk hq fl0 fl1
    obtain ⟨u0, u1, u2, u3, u4, u5, u6⟩ := r2 k (by omega)
    have f0 : ∀ ov cl lo mi fl en nm st, res 135 [aR 84, aI (p : Int)] (MM M ov cl lo mi fl en nm st) S = some (some (aI (turnMin kd mr)), MM M ov cl lo mi fl en nm st, S) := fun ov cl lo mi fl en nm st => by
      have z := turnOf_ (M := MM M ov cl lo mi fl en nm st) (p := (p : Int)) hS (by omega) (by omega) (by rw [MM_o (by decide) (by decide) (by decide) (by decide), Int.toNat_natCast]; omega) (by rw [MM_o (by decide) (by decide) (by decide) (by decide), Int.toNat_natCast]; omega) (by rw [MM_o (by decide) (by decide) (by decide) (by decide), Int.toNat_natCast]; omega) (by rw [MM_o (by decide) (by decide) (by decide) (by decide), Int.toNat_natCast]; omega)
      rw [MM_o (by decide) (by decide) (by decide) (by decide), MM_o (by decide) (by decide) (by decide) (by decide), Int.toNat_natCast, s5, s6] at z
      exact z
    rw [g146_51]
    by_cases hlo : (k : Int) = lf
    · have e : flM kd mr fu fi ev ho (sdF cd sT hl wd mr ho) ws ls lf (rem + 1) k (ov, cl, lo, mi) f q = flM kd mr fu fi ev ho (sdF cd sT hl wd mr ho) ws ls lf rem (k + 1) (ov, cl, lo, mi) f q := if_pos hlo
      rw [e]
      simp (disch := omega) only [g146_0, g146_1, g146_3, g146_6t, g146_6f, g146_9, g146_10, g146_13, g146_14, g146_15, g146_16, g146_19, g146_22, g146_23, g146_24, g146_27, g146_28, g146_29, g146_32, g146_33, g146_34, g146_37, g146_38, g146_39, g146_42, g146_43, g146_44, g146_47, g146_48, g146_49, g146_50, g146_52, g146_53, g146_56t, g146_56f, g146_59, g146_60, g146_63, g146_64t, g146_64f, g146_67, g146_68, g146_69, g146_72t, g146_72f, g146_75, g146_76, g146_79t, g146_79f, g146_82, g146_83, g146_84, g146_87, g146_88t, g146_88f, g146_91, g146_92, g146_95, g146_96, g146_97, g146_100, g146_103, g146_104, g146_107, g146_108, g146_109, g146_110, g146_111, g146_114, g146_115, g146_118, g146_119, g146_120, g146_121, g146_124, g146_125, g146_126, g146_129, g146_132, g146_135, g146_136, g146_137, g146_140, cont_1, cont_0, w32_k, MM_cl, MM_lo, MM_mi, MM_fl, MM_en, MMs_cl, MMs_lo, MMs_mi, MMs_fl, MMs_en, MM_84, MM_cv, MM_nm, MM_st, MM_o, MMs_cv0, MMs_cv1, MMs_nm, MMs_st, r0, s3, hlf, P84_10 hS, P84_11 hS, u0, u1, f0, Int.toNat_natCast, atMM hS]
      exact ih (k + 1) ov cl lo mi f q nm st (by omega) hq (by omega) (by omega)
    · obtain ⟨nm1, st1, hz⟩ := stripOf_ (ov := ov) (cl := cl) (lo := lo) (mi := w32 (mi + (if q = 0 then turnMin kd mr else 0))) (fl := f) (nm := nm) (st := st) hS hD hsc u2 u3 u4 u5 u6
      by_cases c1 : (stripF kd mr fu fi ev ho (sdF cd sT hl wd mr ho) (ws k) (ls k) (ov, cl, lo, w32 (mi + (if q = 0 then turnMin kd mr else 0)))).1 = 0
      · have e : flM kd mr fu fi ev ho (sdF cd sT hl wd mr ho) ws ls lf (rem + 1) k (ov, cl, lo, mi) f q = ((stripF kd mr fu fi ev ho (sdF cd sT hl wd mr ho) (ws k) (ls k) (ov, cl, lo, w32 (mi + (if q = 0 then turnMin kd mr else 0)))).2, f) := (if_neg hlo).trans (if_pos c1)
        rw [e]
        rw [c1, if_pos rfl, show w32 (f + 0) = f by rw [Int.add_zero]; exact w32_o (by omega) (by omega)] at hz
        have z := fun q2 => flown_end (ov := (stripF kd mr fu fi ev ho (sdF cd sT hl wd mr ho) (ws k) (ls k) (ov, cl, lo, w32 (mi + (if q = 0 then turnMin kd mr else 0)))).2.1) (cl := (stripF kd mr fu fi ev ho (sdF cd sT hl wd mr ho) (ws k) (ls k) (ov, cl, lo, w32 (mi + (if q = 0 then turnMin kd mr else 0)))).2.2.1) (lo := (stripF kd mr fu fi ev ho (sdF cd sT hl wd mr ho) (ws k) (ls k) (ov, cl, lo, w32 (mi + (if q = 0 then turnMin kd mr else 0)))).2.2.2.1) (mi := (stripF kd mr fu fi ev ho (sdF cd sT hl wd mr ho) (ws k) (ls k) (ov, cl, lo, w32 (mi + (if q = 0 then turnMin kd mr else 0)))).2.2.2.2) (fl := f) (nm := nm1) (st := st1) (r := r) (q := q2) (by omega) hS s3 r0 r1 hlf rem (k + 1) (by omega)
        rcases hq with rfl | rfl
        · rw [if_pos rfl] at hz z
          simp (disch := omega) only [g146_0, g146_1, g146_3, g146_6t, g146_6f, g146_9, g146_10, g146_13, g146_14, g146_15, g146_16, g146_19, g146_22, g146_23, g146_24, g146_27, g146_28, g146_29, g146_32, g146_33, g146_34, g146_37, g146_38, g146_39, g146_42, g146_43, g146_44, g146_47, g146_48, g146_49, g146_50, g146_52, g146_53, g146_56t, g146_56f, g146_59, g146_60, g146_63, g146_64t, g146_64f, g146_67, g146_68, g146_69, g146_72t, g146_72f, g146_75, g146_76, g146_79t, g146_79f, g146_82, g146_83, g146_84, g146_87, g146_88t, g146_88f, g146_91, g146_92, g146_95, g146_96, g146_97, g146_100, g146_103, g146_104, g146_107, g146_108, g146_109, g146_110, g146_111, g146_114, g146_115, g146_118, g146_119, g146_120, g146_121, g146_124, g146_125, g146_126, g146_129, g146_132, g146_135, g146_136, g146_137, g146_140, cont_1, cont_0, w32_k, MM_cl, MM_lo, MM_mi, MM_fl, MM_en, MMs_cl, MMs_lo, MMs_mi, MMs_fl, MMs_en, MM_84, MM_cv, MM_nm, MM_st, MM_o, MMs_cv0, MMs_cv1, MMs_nm, MMs_st, r0, s3, hlf, P84_10 hS, P84_11 hS, u0, u1, f0, Int.toNat_natCast, atMM hS, hz]
          exact ⟨_, _, _, z 0⟩
        · rw [if_neg (by omega)] at hz z
          simp (disch := omega) only [g146_0, g146_1, g146_3, g146_6t, g146_6f, g146_9, g146_10, g146_13, g146_14, g146_15, g146_16, g146_19, g146_22, g146_23, g146_24, g146_27, g146_28, g146_29, g146_32, g146_33, g146_34, g146_37, g146_38, g146_39, g146_42, g146_43, g146_44, g146_47, g146_48, g146_49, g146_50, g146_52, g146_53, g146_56t, g146_56f, g146_59, g146_60, g146_63, g146_64t, g146_64f, g146_67, g146_68, g146_69, g146_72t, g146_72f, g146_75, g146_76, g146_79t, g146_79f, g146_82, g146_83, g146_84, g146_87, g146_88t, g146_88f, g146_91, g146_92, g146_95, g146_96, g146_97, g146_100, g146_103, g146_104, g146_107, g146_108, g146_109, g146_110, g146_111, g146_114, g146_115, g146_118, g146_119, g146_120, g146_121, g146_124, g146_125, g146_126, g146_129, g146_132, g146_135, g146_136, g146_137, g146_140, cont_1, cont_0, w32_k, MM_cl, MM_lo, MM_mi, MM_fl, MM_en, MMs_cl, MMs_lo, MMs_mi, MMs_fl, MMs_en, MM_84, MM_cv, MM_nm, MM_st, MM_o, MMs_cv0, MMs_cv1, MMs_nm, MMs_st, r0, s3, hlf, P84_10 hS, P84_11 hS, u0, u1, f0, Int.toNat_natCast, atMM hS, hz]
          exact ⟨_, _, _, z 0⟩
      · have c2 : (stripF kd mr fu fi ev ho (sdF cd sT hl wd mr ho) (ws k) (ls k) (ov, cl, lo, w32 (mi + (if q = 0 then turnMin kd mr else 0)))).1 = 1 := by rcases stripF_01 (kd := kd) (mr := mr) (fu := fu) (fi := fi) (ev := ev) (ho := ho) (sd := (sdF cd sT hl wd mr ho)) (way := ws k) (line := ls k) (s := (ov, cl, lo, w32 (mi + (if q = 0 then turnMin kd mr else 0)))) with qq | qq; exact absurd qq c1; exact qq
        have e : flM kd mr fu fi ev ho (sdF cd sT hl wd mr ho) ws ls lf (rem + 1) k (ov, cl, lo, mi) f q = flM kd mr fu fi ev ho (sdF cd sT hl wd mr ho) ws ls lf rem (k + 1) (stripF kd mr fu fi ev ho (sdF cd sT hl wd mr ho) (ws k) (ls k) (ov, cl, lo, w32 (mi + (if q = 0 then turnMin kd mr else 0)))).2 (w32 (f + 1)) 0 := (if_neg hlo).trans (if_neg c1)
        rw [e]
        rw [c2, if_neg (by decide : ¬ ((1 : Int) = 0))] at hz
        have ef : w32 (f + 1) = f + 1 := w32_o (by omega) (by omega)
        obtain ⟨en2, nm2, st2, hz2⟩ := ih (k + 1) (stripF kd mr fu fi ev ho (sdF cd sT hl wd mr ho) (ws k) (ls k) (ov, cl, lo, w32 (mi + (if q = 0 then turnMin kd mr else 0)))).2.1 (stripF kd mr fu fi ev ho (sdF cd sT hl wd mr ho) (ws k) (ls k) (ov, cl, lo, w32 (mi + (if q = 0 then turnMin kd mr else 0)))).2.2.1 (stripF kd mr fu fi ev ho (sdF cd sT hl wd mr ho) (ws k) (ls k) (ov, cl, lo, w32 (mi + (if q = 0 then turnMin kd mr else 0)))).2.2.2.1 (stripF kd mr fu fi ev ho (sdF cd sT hl wd mr ho) (ws k) (ls k) (ov, cl, lo, w32 (mi + (if q = 0 then turnMin kd mr else 0)))).2.2.2.2 (w32 (f + 1)) 0 nm1 st1 (by omega) (Or.inl rfl) (by omega) (by omega)
        rw [nc_1] at hz2
        rcases hq with rfl | rfl
        · rw [if_pos rfl] at hz hz2 ⊢
          simp (disch := omega) only [g146_0, g146_1, g146_3, g146_6t, g146_6f, g146_9, g146_10, g146_13, g146_14, g146_15, g146_16, g146_19, g146_22, g146_23, g146_24, g146_27, g146_28, g146_29, g146_32, g146_33, g146_34, g146_37, g146_38, g146_39, g146_42, g146_43, g146_44, g146_47, g146_48, g146_49, g146_50, g146_52, g146_53, g146_56t, g146_56f, g146_59, g146_60, g146_63, g146_64t, g146_64f, g146_67, g146_68, g146_69, g146_72t, g146_72f, g146_75, g146_76, g146_79t, g146_79f, g146_82, g146_83, g146_84, g146_87, g146_88t, g146_88f, g146_91, g146_92, g146_95, g146_96, g146_97, g146_100, g146_103, g146_104, g146_107, g146_108, g146_109, g146_110, g146_111, g146_114, g146_115, g146_118, g146_119, g146_120, g146_121, g146_124, g146_125, g146_126, g146_129, g146_132, g146_135, g146_136, g146_137, g146_140, cont_1, cont_0, w32_k, MM_cl, MM_lo, MM_mi, MM_fl, MM_en, MMs_cl, MMs_lo, MMs_mi, MMs_fl, MMs_en, MM_84, MM_cv, MM_nm, MM_st, MM_o, MMs_cv0, MMs_cv1, MMs_nm, MMs_st, r0, s3, hlf, P84_10 hS, P84_11 hS, u0, u1, f0, Int.toNat_natCast, atMM hS, hz]
          exact ⟨_, _, _, hz2⟩
        · rw [if_neg (by omega)] at hz hz2 ⊢
          simp (disch := omega) only [g146_0, g146_1, g146_3, g146_6t, g146_6f, g146_9, g146_10, g146_13, g146_14, g146_15, g146_16, g146_19, g146_22, g146_23, g146_24, g146_27, g146_28, g146_29, g146_32, g146_33, g146_34, g146_37, g146_38, g146_39, g146_42, g146_43, g146_44, g146_47, g146_48, g146_49, g146_50, g146_52, g146_53, g146_56t, g146_56f, g146_59, g146_60, g146_63, g146_64t, g146_64f, g146_67, g146_68, g146_69, g146_72t, g146_72f, g146_75, g146_76, g146_79t, g146_79f, g146_82, g146_83, g146_84, g146_87, g146_88t, g146_88f, g146_91, g146_92, g146_95, g146_96, g146_97, g146_100, g146_103, g146_104, g146_107, g146_108, g146_109, g146_110, g146_111, g146_114, g146_115, g146_118, g146_119, g146_120, g146_121, g146_124, g146_125, g146_126, g146_129, g146_132, g146_135, g146_136, g146_137, g146_140, cont_1, cont_0, w32_k, MM_cl, MM_lo, MM_mi, MM_fl, MM_en, MMs_cl, MMs_lo, MMs_mi, MMs_fl, MMs_en, MM_84, MM_cv, MM_nm, MM_st, MM_o, MMs_cv0, MMs_cv1, MMs_nm, MMs_st, r0, s3, hlf, P84_10 hS, P84_11 hS, u0, u1, f0, Int.toNat_natCast, atMM hS, hz]
          exact ⟨_, _, _, hz2⟩
