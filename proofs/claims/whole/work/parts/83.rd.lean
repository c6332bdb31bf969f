/-! the class's reading of an E is the model's -/
def hdK : List Tok → Int
  | [] => 0
  | t :: _ => t.1
def mC (nn mn : Bool) (k : Int) : Prop := (nn = true → mn = true) ∧ (nn = false → mn = true → k ≠ 6)
def cn7 (ts : List Tok) (H o : List Int) : OutT := syR ts false false (unw 7 H o).1 (unw 7 H o).2
def cnS (ts : List Tok) (H o : List Int) : OutT := syR ts false false H o
def SpX (ra ta la sz : Nat) (f : Nat → Int) (S : Sh) (m l : Nat) (nn : Bool) (tc : Int → Prop) (cn : List Tok → List Int → List Int → OutT) (o : Nat) : Prop :=
  ∀ (M : Mem) (ts : List Tok) (out : List Int), RdS ra ta la sz f M ts out → out.length + ts.length ≤ 161 → ∃ M', res m [aR ra, aI (o : Int)] M S = some (none, M', S) ∧ FrL ra la M M'
    ∧ ((∃ q, FaS ra la M' q ∧ ∀ mn H, opn H = o → tpl l H → mC nn mn (hdK ts) → syR ts true mn H out = Sum.inl q)
      ∨ (∃ ts' out', RdS ra ta la sz f M' ts' out' ∧ ts'.length < ts.length ∧ out'.length + ts'.length ≤ out.length + ts.length ∧ Up out out' ∧ tc (hdK ts') ∧ ∀ mn H, opn H = o → tpl l H → mC nn mn (hdK ts) → syR ts true mn H out = cn ts' H out'))
def SpF (ra la : Nat) (S : Sh) (m o : Nat) : Prop := ∀ (M : Mem) (q : Int), FaS ra la M q → ∃ M', res m [aR ra, aI (o : Int)] M S = some (none, M', S) ∧ FrL ra la M M' ∧ FaS ra la M' q
theorem tpl_7 (H : List Int) : tpl 7 H := by
  cases H with
  | nil => exact trivial
  | cons s H =>
    show rkS s ≤ 7
    unfold rkS
    repeat' split
    all_goals omega
theorem ts_pos {ra ta la sz : Nat} {f : Nat → Int} {M : Mem} {t : Tok} {ts : List Tok} {o : List Int} (h : RdS ra ta la sz f M (t :: ts) o) (ht : ¬ (t.1 = 0 ∨ t.1 = -1)) : 0 < ts.length := by
  obtain ⟨p, _, _, p3⟩ := h.2.2.2.2.2.2.2.2.2 ht
  exact Lx_ne p3
theorem opn_1 {s : Int} {H : List Int} {n : Nat} (hs : cN s = 1) (h : opn H = n) : opn (s :: H) = n + 1 := by
  show cN s + opn H = n + 1
  omega
theorem opn_0 {s : Int} {H : List Int} {n : Nat} (hs : cN s = 0) (h : opn H = n) : opn (s :: H) = n := by
  show cN s + opn H = n
  omega
theorem mC_f (k : Int) : mC false false k := ⟨fun z => absurd z (by decide), fun _ z => absurd z (by decide)⟩
theorem mC_t (k : Int) : mC true true k := ⟨fun _ => rfl, fun z => absurd z (by decide)⟩
theorem sy_op {t : Tok} {ts : List Tok} {H o : List Int} {l : Nat} {c : Int} (hk : sgn t.1 = c) (h1 : t.1 ≠ 59) (h2 : t.1 ≠ 41) (hc : c ≠ -1) (hr : rkS c ≠ 4) (hl : tpl l H) (hlt : l < rkS c) : syR (t :: ts) false false H o = syR ts true (decide (c ≤ 12)) (c :: H) o := by
  have e : lvl t.1 = rkS c := by
    unfold lvl
    rw [hk, if_neg hr]
  rw [sy_sig h1 h2 (by rw [hk]; exact hc), e, hk, unw_0 hl hlt, if_neg (fun z => hr z.1)]
theorem sy_cm {t : Tok} {ts : List Tok} {H o : List Int} {c : Int} (hk : sgn t.1 = c) (h1 : t.1 ≠ 59) (h2 : t.1 ≠ 41) (hc : c ≠ -1) (hr : rkS c = 4) (hl : tpl 3 H) : syR (t :: ts) false false H o = syR ts true (decide (c ≤ 12)) (c :: H) o := by
  have e : lvl t.1 = 5 := by
    unfold lvl
    rw [hk, if_pos hr]
  rw [sy_sig h1 h2 (by rw [hk]; exact hc), e, hk, unw_0 hl (by omega), if_neg (fun z => tp4_n hl (by omega) z.2)]
theorem cnN_bad {t : Tok} {ts : List Tok} {H o : List Int} (h1 : t.1 ≠ 41) (h : t.1 ≠ 42 ∧ t.1 ≠ 43 ∧ t.1 ≠ 45 ∧ t.1 ≠ 5 ∧ t.1 ≠ 4) : cnN (t :: ts) (0 :: H) o = Sum.inl t.2.2 := by
  by_cases hc : isCm t.1
  · exact cnN_t hc
  · rw [cnN_f hc]
    unfold isCm at hc
    by_cases h9 : t.1 = 59
    · rw [sy_end h9, unw_n (by decide), if_neg (fun z => by cases z)]
    · refine sy_non h9 h1 ?_
      unfold sgn
      rw [if_neg (by omega), if_neg (by omega), if_neg (by omega), if_neg (by omega), if_neg (by omega), if_neg (by omega), if_neg (by omega)]
theorem rkR19 (a : Nat) (x : Int) : rk 19 [aR a, aI x] = 19 + 8 * (6 - x.toNat) := rfl
theorem rkR20 (a : Nat) (x : Int) : rk 20 [aR a, aI x] = 18 + 8 * (6 - x.toNat) := rfl
theorem rkR21 (a : Nat) (x : Int) : rk 21 [aR a, aI x] = 17 + 8 * (6 - x.toNat) := rfl
theorem rkR22 (a : Nat) (x : Int) : rk 22 [aR a, aI x] = 16 + 8 * (6 - x.toNat) := rfl
theorem rkR23 (a : Nat) (x : Int) : rk 23 [aR a, aI x] = 15 + 8 * (6 - x.toNat) := rfl
theorem rkR24 (a : Nat) (x : Int) : rk 24 [aR a, aI x] = 14 + 8 * (6 - x.toNat) := rfl
theorem one_ {ra ta la sz : Nat} {f : Nat → Int} {S : Sh} (hR : RdSh S ra ta la) (hz : sz ≤ 160) {o : Nat} (ho : o ≤ 5) (h1 : o < 5 → SpX ra ta la sz f S 24 7 false (fun _ => True) cn7 (o + 1)) (h2 : o < 5 → SpX ra ta la sz f S 19 0 true (fun k => k ≠ 42 ∧ k ≠ 43 ∧ k ≠ 45 ∧ k ≠ 5 ∧ k ≠ 4) cnN (o + 1)) : SpX ra ta la sz f S 24 7 false (fun _ => True) cn7 o := by
  have ⟨K0, P0, P2, Kt, Lt, ⟨a0, La0, La1, La2, La3, La4, LL1, LL2, LL3, LL4, LP0, LP1, LP2, LP3⟩, ⟨n0, n1, n2⟩, ⟨m0, m1, m2, m3, m4⟩, ⟨t0, t1, t2, t3, t4⟩⟩ := hR
  have k24_o := rkR24 ra ((o : Int))
  have k24_p := rkR24 ra ((o : Int) + 1)
  have k19_p := rkR19 ra ((o : Int) + 1)
  intro M ts out h hl
  obtain ⟨t, ts1, rfl⟩ := hdT_pos h.2.2.2.2.2
  have hc := h.2.2.2.2.2.1
  have h6 := h.2.2.2.2.2.2.2.2.1
  have ets : (t :: ts1).length = ts1.length + 1 := List.length_cons
  rw [ets] at hl
  have hhd : hdK (t :: ts1) = t.1 := rfl
  rw [hhd]
  by_cases c1 : t.1 = 1
  · have e5 : M ra 5 = 2 := by unfold tkC at hc; omega
    have e6 := h6 (Or.inl c1)
    have hv : 0 ≤ t.2.1 ∧ t.2.1 ≤ 9999 := by unfold tkC at hc; omega
    have tp := ts_pos h (by omega)
    clear hc
    obtain ⟨M1, y1, y2, y3⟩ := cadd (w := 2) (v := t.2.1) hR hz h (by unfold wOK; omega) (by omega)
    obtain ⟨M2, z1, z2, z3⟩ := cadv hR hz y3 (by omega)
    refine ⟨M2, ?_, FrL_t y2 z2, Or.inr ⟨ts1, (100000 + t.2.1) :: out, z3, by rw [ets]; omega, by rw [ets, List.length_cons]; omega, Up_v (by omega), trivial, fun mn H _ _ _ => sy_num c1⟩⟩
    rw [g24]
    simp (disch := omega) only [g24_0, g24_1, g24_4, g24_6t, g24_6f, g24_9, g24_10, g24_13, g24_15t, g24_15f, g24_18, g24_19, g24_22, g24_23, g24_24, g24_25, g24_28, g24_29t, g24_29f, g24_32, g24_33, g24_36, g24_37t, g24_37f, g24_40, g24_41, g24_44, g24_45, g24_48, g24_49, g24_52, g24_55, g24_56, g24_59, g24_62, g24_63t, g24_63f, g24_66, g24_67, g24_68t, g24_68f, g24_71, g24_72, g24_75, g24_78, g24_79, g24_82, g24_84t, g24_84f, g24_87, g24_88, g24_91, g24_92, g24_93, g24_94, g24_95, g24_98, g24_99, g24_102, g24_104, g24_105, g24_108, g24_111, g24_112, g24_115, g24_116, g24_117, g24_118, g24_119, g24_122, g24_123, g24_125, g24_128, cont_1, cont_0, w32_o, K0, P2, La0, e5, e6, y1, z1]
  by_cases c2 : t.1 = 2
  · have e5 : M ra 5 = 3 := by unfold tkC at hc; omega
    have e6 := h6 (Or.inr c2)
    have hv : 0 ≤ t.2.1 ∧ t.2.1 ≤ 5 := by unfold tkC at hc; omega
    have tp := ts_pos h (by omega)
    clear hc
    obtain ⟨M1, y1, y2, y3⟩ := cadd (w := 3) (v := t.2.1) hR hz h (by unfold wOK; omega) (by omega)
    obtain ⟨M2, z1, z2, z3⟩ := cadv hR hz y3 (by omega)
    refine ⟨M2, ?_, FrL_t y2 z2, Or.inr ⟨ts1, t.2.1 :: out, z3, by rw [ets]; omega, by rw [ets, List.length_cons]; omega, Up_v (by omega), trivial, fun mn H _ _ _ => sy_nam c2⟩⟩
    rw [g24]
    simp (disch := omega) only [g24_0, g24_1, g24_4, g24_6t, g24_6f, g24_9, g24_10, g24_13, g24_15t, g24_15f, g24_18, g24_19, g24_22, g24_23, g24_24, g24_25, g24_28, g24_29t, g24_29f, g24_32, g24_33, g24_36, g24_37t, g24_37f, g24_40, g24_41, g24_44, g24_45, g24_48, g24_49, g24_52, g24_55, g24_56, g24_59, g24_62, g24_63t, g24_63f, g24_66, g24_67, g24_68t, g24_68f, g24_71, g24_72, g24_75, g24_78, g24_79, g24_82, g24_84t, g24_84f, g24_87, g24_88, g24_91, g24_92, g24_93, g24_94, g24_95, g24_98, g24_99, g24_102, g24_104, g24_105, g24_108, g24_111, g24_112, g24_115, g24_116, g24_117, g24_118, g24_119, g24_122, g24_123, g24_125, g24_128, cont_1, cont_0, w32_o, K0, P2, La0, e5, e6, y1, z1]
  by_cases c3 : t.1 = 45
  · have e5 : M ra 5 = 45 := by unfold tkC at hc; omega
    have tp := ts_pos h (by omega)
    clear hc
    by_cases h5 : o < 5
    · obtain ⟨M1, z1, f1, r1⟩ := cadv hR hz h (by omega)
      obtain ⟨M2, z2, f2, r2⟩ := h1 h5 M1 ts1 out r1 (by omega)
      rw [nc_1] at z2
      rcases r2 with ⟨q, fa, sy⟩ | ⟨ts2, o2, rd, l1, l2, up, _, sy⟩
      · obtain ⟨M3, z3, f3, fa3⟩ := cadd_f (w := 10) (v := 0) hR fa
        refine ⟨M3, ?_, FrL_t f1 (FrL_t f2 f3), Or.inl ⟨q, fa3, fun mn H hH _ _ => ?_⟩⟩
        · rw [g24]
          simp (disch := omega) only [g24_0, g24_1, g24_4, g24_6t, g24_6f, g24_9, g24_10, g24_13, g24_15t, g24_15f, g24_18, g24_19, g24_22, g24_23, g24_24, g24_25, g24_28, g24_29t, g24_29f, g24_32, g24_33, g24_36, g24_37t, g24_37f, g24_40, g24_41, g24_44, g24_45, g24_48, g24_49, g24_52, g24_55, g24_56, g24_59, g24_62, g24_63t, g24_63f, g24_66, g24_67, g24_68t, g24_68f, g24_71, g24_72, g24_75, g24_78, g24_79, g24_82, g24_84t, g24_84f, g24_87, g24_88, g24_91, g24_92, g24_93, g24_94, g24_95, g24_98, g24_99, g24_102, g24_104, g24_105, g24_108, g24_111, g24_112, g24_115, g24_116, g24_117, g24_118, g24_119, g24_122, g24_123, g24_125, g24_128, cont_1, cont_0, w32_o, K0, P2, La0, e5, z1, z2, z3]
        · rw [sy_neg c3, if_neg (by omega)]
          exact sy false (19 :: H) (opn_1 (by decide) hH) (tpl_7 _) (mC_f _)
      · obtain ⟨t2, ts3, rfl⟩ := hdT_pos rd.2.2.2.2.2
        rw [List.length_cons] at l1 l2
        obtain ⟨M3, z3, f3, r3⟩ := cadd (w := 10) (v := 0) hR hz rd (by unfold wOK; omega) (by omega)
        refine ⟨M3, ?_, FrL_t f1 (FrL_t f2 f3), Or.inr ⟨t2 :: ts3, 19 :: o2, r3, by rw [ets, List.length_cons]; omega, by rw [ets, List.length_cons, List.length_cons]; omega, Up_u up (Or.inr rfl), trivial, fun mn H hH _ _ => ?_⟩⟩
        · rw [g24]
          simp (disch := omega) only [g24_0, g24_1, g24_4, g24_6t, g24_6f, g24_9, g24_10, g24_13, g24_15t, g24_15f, g24_18, g24_19, g24_22, g24_23, g24_24, g24_25, g24_28, g24_29t, g24_29f, g24_32, g24_33, g24_36, g24_37t, g24_37f, g24_40, g24_41, g24_44, g24_45, g24_48, g24_49, g24_52, g24_55, g24_56, g24_59, g24_62, g24_63t, g24_63f, g24_66, g24_67, g24_68t, g24_68f, g24_71, g24_72, g24_75, g24_78, g24_79, g24_82, g24_84t, g24_84f, g24_87, g24_88, g24_91, g24_92, g24_93, g24_94, g24_95, g24_98, g24_99, g24_102, g24_104, g24_105, g24_108, g24_111, g24_112, g24_115, g24_116, g24_117, g24_118, g24_119, g24_122, g24_123, g24_125, g24_128, cont_1, cont_0, w32_o, K0, P2, La0, e5, z1, z2, z3]
        · rw [sy_neg c3, if_neg (by omega), sy false (19 :: H) (opn_1 (by decide) hH) (tpl_7 _) (mC_f _)]
          unfold cn7
          rw [unw_y (by decide)]
    · obtain ⟨M1, y1, y2, y3⟩ := cref hR h (by omega)
      refine ⟨M1, ?_, y2, Or.inl ⟨t.2.2, y3, fun mn H hH _ hm => by rw [sy_neg c3, if_pos (by omega)]⟩⟩
      rw [g24]
      simp (disch := omega) only [g24_0, g24_1, g24_4, g24_6t, g24_6f, g24_9, g24_10, g24_13, g24_15t, g24_15f, g24_18, g24_19, g24_22, g24_23, g24_24, g24_25, g24_28, g24_29t, g24_29f, g24_32, g24_33, g24_36, g24_37t, g24_37f, g24_40, g24_41, g24_44, g24_45, g24_48, g24_49, g24_52, g24_55, g24_56, g24_59, g24_62, g24_63t, g24_63f, g24_66, g24_67, g24_68t, g24_68f, g24_71, g24_72, g24_75, g24_78, g24_79, g24_82, g24_84t, g24_84f, g24_87, g24_88, g24_91, g24_92, g24_93, g24_94, g24_95, g24_98, g24_99, g24_102, g24_104, g24_105, g24_108, g24_111, g24_112, g24_115, g24_116, g24_117, g24_118, g24_119, g24_122, g24_123, g24_125, g24_128, cont_1, cont_0, w32_o, K0, P2, La0, e5, y1]
  by_cases c4 : t.1 = 40
  · have e5 : M ra 5 = 40 := by unfold tkC at hc; omega
    have tp := ts_pos h (by omega)
    clear hc
    by_cases h5 : o < 5
    · obtain ⟨M1, z1, f1, r1⟩ := cadv hR hz h (by omega)
      obtain ⟨M2, z2, f2, r2⟩ := h2 h5 M1 ts1 out r1 (by omega)
      rw [nc_1] at z2
      rcases r2 with ⟨q, fa, sy⟩ | ⟨ts2, o2, rd, l1, l2, up, tc, sy⟩
      · obtain ⟨M3, z3, f3, fa3⟩ := cexp_f (w := 41) hR fa (by omega)
        refine ⟨M3, ?_, FrL_t f1 (FrL_t f2 f3), Or.inl ⟨q, fa3, fun mn H hH _ _ => ?_⟩⟩
        · rw [g24]
          simp (disch := omega) only [g24_0, g24_1, g24_4, g24_6t, g24_6f, g24_9, g24_10, g24_13, g24_15t, g24_15f, g24_18, g24_19, g24_22, g24_23, g24_24, g24_25, g24_28, g24_29t, g24_29f, g24_32, g24_33, g24_36, g24_37t, g24_37f, g24_40, g24_41, g24_44, g24_45, g24_48, g24_49, g24_52, g24_55, g24_56, g24_59, g24_62, g24_63t, g24_63f, g24_66, g24_67, g24_68t, g24_68f, g24_71, g24_72, g24_75, g24_78, g24_79, g24_82, g24_84t, g24_84f, g24_87, g24_88, g24_91, g24_92, g24_93, g24_94, g24_95, g24_98, g24_99, g24_102, g24_104, g24_105, g24_108, g24_111, g24_112, g24_115, g24_116, g24_117, g24_118, g24_119, g24_122, g24_123, g24_125, g24_128, cont_1, cont_0, w32_o, K0, P2, La0, e5, z1, z2, z3]
        · rw [sy_par c4, if_neg (by omega)]
          exact sy true (0 :: H) (opn_1 (by decide) hH) (Nat.le_refl 0) (mC_t _)
      · obtain ⟨t2, ts3, rfl⟩ := hdT_pos rd.2.2.2.2.2
        rw [List.length_cons] at l1 l2
        have hc2 := rd.2.2.2.2.2.1
        by_cases c5 : t2.1 = 41
        · obtain ⟨M3, z3, f3, r3⟩ := cexp_y (w := 41) hR hz rd (by omega) (by unfold tkC at hc2; omega)
          refine ⟨M3, ?_, FrL_t f1 (FrL_t f2 f3), Or.inr ⟨ts3, o2, r3, by rw [ets]; omega, by rw [ets]; omega, up, trivial, fun mn H hH _ _ => ?_⟩⟩
          · clear hc2
            rw [g24]
            simp (disch := omega) only [g24_0, g24_1, g24_4, g24_6t, g24_6f, g24_9, g24_10, g24_13, g24_15t, g24_15f, g24_18, g24_19, g24_22, g24_23, g24_24, g24_25, g24_28, g24_29t, g24_29f, g24_32, g24_33, g24_36, g24_37t, g24_37f, g24_40, g24_41, g24_44, g24_45, g24_48, g24_49, g24_52, g24_55, g24_56, g24_59, g24_62, g24_63t, g24_63f, g24_66, g24_67, g24_68t, g24_68f, g24_71, g24_72, g24_75, g24_78, g24_79, g24_82, g24_84t, g24_84f, g24_87, g24_88, g24_91, g24_92, g24_93, g24_94, g24_95, g24_98, g24_99, g24_102, g24_104, g24_105, g24_108, g24_111, g24_112, g24_115, g24_116, g24_117, g24_118, g24_119, g24_122, g24_123, g24_125, g24_128, cont_1, cont_0, w32_o, K0, P2, La0, e5, z1, z2, z3]
          · rw [sy_par c4, if_neg (by omega), sy true (0 :: H) (opn_1 (by decide) hH) (Nat.le_refl 0) (mC_t _), cnN_f (by unfold isCm; omega), sy_clo c5, unw_n (by decide), if_neg (fun z => by cases z)]
            rfl
        · obtain ⟨M3, z3, f3, fa3⟩ := cexp_n (w := 41) hR rd (by omega) (by unfold tkC at hc2; omega)
          refine ⟨M3, ?_, FrL_t f1 (FrL_t f2 f3), Or.inl ⟨t2.2.2, fa3, fun mn H hH _ _ => ?_⟩⟩
          · clear hc2
            rw [g24]
            simp (disch := omega) only [g24_0, g24_1, g24_4, g24_6t, g24_6f, g24_9, g24_10, g24_13, g24_15t, g24_15f, g24_18, g24_19, g24_22, g24_23, g24_24, g24_25, g24_28, g24_29t, g24_29f, g24_32, g24_33, g24_36, g24_37t, g24_37f, g24_40, g24_41, g24_44, g24_45, g24_48, g24_49, g24_52, g24_55, g24_56, g24_59, g24_62, g24_63t, g24_63f, g24_66, g24_67, g24_68t, g24_68f, g24_71, g24_72, g24_75, g24_78, g24_79, g24_82, g24_84t, g24_84f, g24_87, g24_88, g24_91, g24_92, g24_93, g24_94, g24_95, g24_98, g24_99, g24_102, g24_104, g24_105, g24_108, g24_111, g24_112, g24_115, g24_116, g24_117, g24_118, g24_119, g24_122, g24_123, g24_125, g24_128, cont_1, cont_0, w32_o, K0, P2, La0, e5, z1, z2, z3]
          · rw [sy_par c4, if_neg (by omega), sy true (0 :: H) (opn_1 (by decide) hH) (Nat.le_refl 0) (mC_t _)]
            exact cnN_bad c5 tc
    · obtain ⟨M1, y1, y2, y3⟩ := cref hR h (by omega)
      refine ⟨M1, ?_, y2, Or.inl ⟨t.2.2, y3, fun mn H hH _ hm => by rw [sy_par c4, if_pos (by omega)]⟩⟩
      rw [g24]
      simp (disch := omega) only [g24_0, g24_1, g24_4, g24_6t, g24_6f, g24_9, g24_10, g24_13, g24_15t, g24_15f, g24_18, g24_19, g24_22, g24_23, g24_24, g24_25, g24_28, g24_29t, g24_29f, g24_32, g24_33, g24_36, g24_37t, g24_37f, g24_40, g24_41, g24_44, g24_45, g24_48, g24_49, g24_52, g24_55, g24_56, g24_59, g24_62, g24_63t, g24_63f, g24_66, g24_67, g24_68t, g24_68f, g24_71, g24_72, g24_75, g24_78, g24_79, g24_82, g24_84t, g24_84f, g24_87, g24_88, g24_91, g24_92, g24_93, g24_94, g24_95, g24_98, g24_99, g24_102, g24_104, g24_105, g24_108, g24_111, g24_112, g24_115, g24_116, g24_117, g24_118, g24_119, g24_122, g24_123, g24_125, g24_128, cont_1, cont_0, w32_o, K0, P2, La0, e5, y1]
  have e2 : M ra 5 ≠ 2 ∧ M ra 5 ≠ 3 ∧ M ra 5 ≠ 45 ∧ M ra 5 ≠ 40 := by unfold tkC at hc; omega
  obtain ⟨e2, e3, e45, e40⟩ := e2
  clear hc
  obtain ⟨M1, y1, y2, y3⟩ := cref hR h (by omega)
  refine ⟨M1, ?_, y2, Or.inl ⟨t.2.2, y3, fun mn H hH _ hm => sy_bad c1 c2 (fun z6 => Bool.eq_false_iff.mpr (fun zm => hm.2 rfl zm z6)) c3 c4⟩⟩
  rw [g24]
  simp (disch := omega) only [g24_0, g24_1, g24_4, g24_6t, g24_6f, g24_9, g24_10, g24_13, g24_15t, g24_15f, g24_18, g24_19, g24_22, g24_23, g24_24, g24_25, g24_28, g24_29t, g24_29f, g24_32, g24_33, g24_36, g24_37t, g24_37f, g24_40, g24_41, g24_44, g24_45, g24_48, g24_49, g24_52, g24_55, g24_56, g24_59, g24_62, g24_63t, g24_63f, g24_66, g24_67, g24_68t, g24_68f, g24_71, g24_72, g24_75, g24_78, g24_79, g24_82, g24_84t, g24_84f, g24_87, g24_88, g24_91, g24_92, g24_93, g24_94, g24_95, g24_98, g24_99, g24_102, g24_104, g24_105, g24_108, g24_111, g24_112, g24_115, g24_116, g24_117, g24_118, g24_119, g24_122, g24_123, g24_125, g24_128, cont_1, cont_0, w32_o, K0, P2, La0, y1]
theorem oneF {ra ta la : Nat} {S : Sh} (hR : RdSh S ra ta la) (o : Nat) : SpF ra la S 24 o := by
  have ⟨K0, P0, P2, Kt, Lt, ⟨a0, La0, La1, La2, La3, La4, LL1, LL2, LL3, LL4, LP0, LP1, LP2, LP3⟩, ⟨n0, n1, n2⟩, ⟨m0, m1, m2, m3, m4⟩, ⟨t0, t1, t2, t3, t4⟩⟩ := hR
  have k24_o := rkR24 ra ((o : Int))
  intro M q h
  have h5 := h.1
  obtain ⟨M1, y1, y2, y3⟩ := cref_f hR h
  refine ⟨M1, ?_, y2, y3⟩
  rw [g24]
  simp (disch := omega) only [g24_0, g24_1, g24_4, g24_6t, g24_6f, g24_9, g24_10, g24_13, g24_15t, g24_15f, g24_18, g24_19, g24_22, g24_23, g24_24, g24_25, g24_28, g24_29t, g24_29f, g24_32, g24_33, g24_36, g24_37t, g24_37f, g24_40, g24_41, g24_44, g24_45, g24_48, g24_49, g24_52, g24_55, g24_56, g24_59, g24_62, g24_63t, g24_63f, g24_66, g24_67, g24_68t, g24_68f, g24_71, g24_72, g24_75, g24_78, g24_79, g24_82, g24_84t, g24_84f, g24_87, g24_88, g24_91, g24_92, g24_93, g24_94, g24_95, g24_98, g24_99, g24_102, g24_104, g24_105, g24_108, g24_111, g24_112, g24_115, g24_116, g24_117, g24_118, g24_119, g24_122, g24_123, g24_125, g24_128, cont_1, cont_0, w32_o, K0, P2, La0, h5, y1]
theorem trmX {ra ta la : Nat} {S : Sh} (hR : RdSh S ra ta la) {o n : Nat} {M : Mem} (e0 : M ra 5 ≠ 42) : go (rk 23 [aR ra, aI (o : Int)]) 23 7 [some (aR ra), some (aI (o : Int)), some (aI (n : Int))] [] M S = some (none, M, S) := by
  have ⟨K0, P0, P2, Kt, Lt, ⟨a0, La0, La1, La2, La3, La4, LL1, LL2, LL3, LL4, LP0, LP1, LP2, LP3⟩, ⟨n0, n1, n2⟩, ⟨m0, m1, m2, m3, m4⟩, ⟨t0, t1, t2, t3, t4⟩⟩ := hR
  rw [g23_7]
  by_cases hn : (n : Int) < 160
  · simp (disch := omega) only [g23_0, g23_1, g23_2, g23_5, g23_6, g23_8, g23_11t, g23_11f, g23_14, g23_15, g23_18, g23_20t, g23_20f, g23_23, g23_24, g23_27, g23_28, g23_29, g23_32, g23_33, g23_36, g23_38, g23_39, g23_42, g23_45, g23_48, cont_1, cont_0, w32_o, K0]
  · simp (disch := omega) only [g23_0, g23_1, g23_2, g23_5, g23_6, g23_8, g23_11t, g23_11f, g23_14, g23_15, g23_18, g23_20t, g23_20f, g23_23, g23_24, g23_27, g23_28, g23_29, g23_32, g23_33, g23_36, g23_38, g23_39, g23_42, g23_45, g23_48, cont_1, cont_0, w32_o, K0]
theorem trmL {ra ta la sz : Nat} {f : Nat → Int} {S : Sh} (hR : RdSh S ra ta la) (hz : sz ≤ 160) {o : Nat} (ho : o ≤ 5) (hi : SpX ra ta la sz f S 24 7 false (fun _ => True) cn7 o) : ∀ (N : Nat) (M : Mem) (ts : List Tok) (out : List Int) (n : Nat), ts.length ≤ N → RdS ra ta la sz f M ts out → out.length + ts.length ≤ 161 → n + ts.length ≤ 161 → (fun _ => True) (hdK ts) → ∃ M', go (rk 23 [aR ra, aI (o : Int)]) 23 7 [some (aR ra), some (aI (o : Int)), some (aI (n : Int))] [] M S = some (none, M', S) ∧ FrL ra la M M' ∧ ((∃ q, FaS ra la M' q ∧ ∀ H, opn H = o → tpl 5 H → cnS ts H out = Sum.inl q) ∨ (∃ ts' out', RdS ra ta la sz f M' ts' out' ∧ ts'.length ≤ ts.length ∧ out'.length + ts'.length ≤ out.length + ts.length ∧ (∀ b, Up b out → Up b out') ∧ (fun k => k ≠ 42) (hdK ts') ∧ ∀ H, opn H = o → tpl 5 H → cnS ts H out = cnS ts' H out')) := by
  have ⟨K0, P0, P2, Kt, Lt, ⟨a0, La0, La1, La2, La3, La4, LL1, LL2, LL3, LL4, LP0, LP1, LP2, LP3⟩, ⟨n0, n1, n2⟩, ⟨m0, m1, m2, m3, m4⟩, ⟨t0, t1, t2, t3, t4⟩⟩ := hR
  have k23_o := rkR23 ra ((o : Int))
  have k24_o := rkR24 ra ((o : Int))
  intro N
  induction N with
  | zero =>
    intro M ts out n hN h
    obtain ⟨t, ts1, rfl⟩ := hdT_pos h.2.2.2.2.2
    rw [List.length_cons] at hN
    omega
  | succ N ih =>
    intro M ts out n hN h hl hn htc
    obtain ⟨t, ts1, rfl⟩ := hdT_pos h.2.2.2.2.2
    have hc := h.2.2.2.2.2.1
    have ets : (t :: ts1).length = ts1.length + 1 := List.length_cons
    rw [ets] at hN hl hn
    have htc' : (fun _ => True) t.1 := htc
    by_cases c0 : t.1 = 42
    · have e5 : M ra 5 = 42 := by unfold tkC at hc; omega
      have tp := ts_pos h (by omega)
      clear hc
      obtain ⟨M1, z1, f1, r1⟩ := cadv hR hz h (by omega)
      obtain ⟨M2, z2, f2, r2⟩ := hi M1 ts1 out r1 (by omega)
      have syt : ∀ H, opn H = o → tpl 5 H → cnS (t :: ts1) H out = syR ts1 true false (18 :: H) out := fun H _ hH => by
        unfold cnS
        exact sy_op (l := 5) (c := 18) (by rw [c0]; rfl) (by omega) (by omega) (by omega) (by decide) hH (by decide)
      rcases r2 with ⟨q, fa, sy⟩ | ⟨ts2, o2, rd, l1, l2, up, tc, sy⟩
      · obtain ⟨M3, z3, f3, fa3⟩ := cadd_f (w := 42) (v := 0) hR fa
        have h35 := fa3.1
        have z4 := trmX (o := o) (n := n + 1) (M := M3) hR (by omega)
        rw [nc_1] at z4
        refine ⟨M3, ?_, FrL_t f1 (FrL_t f2 f3), Or.inl ⟨q, fa3, fun H hH hT => ?_⟩⟩
        · rw [g23_7]
          simp (disch := omega) only [g23_0, g23_1, g23_2, g23_5, g23_6, g23_8, g23_11t, g23_11f, g23_14, g23_15, g23_18, g23_20t, g23_20f, g23_23, g23_24, g23_27, g23_28, g23_29, g23_32, g23_33, g23_36, g23_38, g23_39, g23_42, g23_45, g23_48, cont_1, cont_0, w32_o, K0, P2, La0, e5, z1, z2, z3, z4]
        · rw [syt H hH hT]
          exact sy false (18 :: H) (opn_0 (by decide) hH) (by show rkS 18 ≤ _; decide) (mC_f _)
      · obtain ⟨t2, ts3, rfl⟩ := hdT_pos rd.2.2.2.2.2
        have e23 : (t2 :: ts3).length = ts3.length + 1 := List.length_cons
        rw [e23] at l1 l2
        obtain ⟨M3, z3, f3, r3⟩ := cadd (w := 42) (v := 0) hR hz rd (by unfold wOK; omega) (by omega)
        obtain ⟨M4, z4, f4, r4⟩ := ih M3 (t2 :: ts3) (18 :: o2) (n + 1) (by rw [e23]; omega) r3 (by rw [e23, List.length_cons]; omega) (by rw [e23]; omega) tc
        rw [nc_1] at z4
        have syn : ∀ H, opn H = o → tpl 5 H → cnS (t :: ts1) H out = cnS (t2 :: ts3) H (18 :: o2) := fun H hH hT => by
          rw [syt H hH hT, sy false (18 :: H) (opn_0 (by decide) hH) (by show rkS 18 ≤ _; decide) (mC_f _)]
          unfold cn7 cnS
          rw [unw_n (by decide)]
          exact sy_U (Nat.le_trans (lvA_6 _) (by decide))
        refine ⟨M4, ?_, FrL_t f1 (FrL_t f2 (FrL_t f3 f4)), ?_⟩
        · rw [g23_7]
          simp (disch := omega) only [g23_0, g23_1, g23_2, g23_5, g23_6, g23_8, g23_11t, g23_11f, g23_14, g23_15, g23_18, g23_20t, g23_20f, g23_23, g23_24, g23_27, g23_28, g23_29, g23_32, g23_33, g23_36, g23_38, g23_39, g23_42, g23_45, g23_48, cont_1, cont_0, w32_o, K0, P2, La0, e5, z1, z2, z3, z4]
        · rcases r4 with ⟨q, fa, sy4⟩ | ⟨ts4, o4, rd4, l3', l4, up4, tc4, sy4⟩
          · exact Or.inl ⟨q, fa, fun H hH hT => (syn H hH hT).trans (sy4 H hH hT)⟩
          · refine Or.inr ⟨ts4, o4, rd4, by rw [ets]; rw [e23] at l3'; omega, by rw [ets]; rw [e23, List.length_cons] at l4; omega, fun b hb => up4 b (Up_b hb up (by omega)), tc4, fun H hH hT => (syn H hH hT).trans (sy4 H hH hT)⟩
    have e2 : M ra 5 ≠ 42 := by unfold tkC at hc; omega
    refine ⟨M, trmX hR e2, FrL_r M, Or.inr ⟨t :: ts1, out, h, Nat.le_refl _, Nat.le_refl _, fun _ hb => hb, ?_, fun _ _ _ => rfl⟩⟩
    show (fun k => k ≠ 42) t.1
    exact c0
theorem trm_ {ra ta la sz : Nat} {f : Nat → Int} {S : Sh} (hR : RdSh S ra ta la) (hz : sz ≤ 160) {o : Nat} (ho : o ≤ 5) (hi : SpX ra ta la sz f S 24 7 false (fun _ => True) cn7 o) : SpX ra ta la sz f S 23 5 false (fun k => k ≠ 42) cnS o := by
  have ⟨K0, P0, P2, Kt, Lt, ⟨a0, La0, La1, La2, La3, La4, LL1, LL2, LL3, LL4, LP0, LP1, LP2, LP3⟩, ⟨n0, n1, n2⟩, ⟨m0, m1, m2, m3, m4⟩, ⟨t0, t1, t2, t3, t4⟩⟩ := hR
  have k23_o := rkR23 ra ((o : Int))
  have k24_o := rkR24 ra ((o : Int))
  intro M ts out h hl
  obtain ⟨M1, z1, f1, r1⟩ := hi M ts out h hl
  rcases r1 with ⟨q, fa, sy⟩ | ⟨ts1, o1, rd, l1, l2, up, tc, sy⟩
  · have h15 := fa.1
    have z2 : go (rk 23 [aR ra, aI (o : Int)]) 23 7 [some (aR ra), some (aI (o : Int)), some (aI 0)] [] M1 S = _ := trmX (n := 0) hR (by omega)
    refine ⟨M1, ?_, f1, Or.inl ⟨q, fa, fun mn H hH hT hm => sy mn H hH (tpl_le hT (by omega)) hm⟩⟩
    rw [g23]
    simp (disch := omega) only [g23_0, g23_1, g23_2, g23_5, g23_6, g23_8, g23_11t, g23_11f, g23_14, g23_15, g23_18, g23_20t, g23_20f, g23_23, g23_24, g23_27, g23_28, g23_29, g23_32, g23_33, g23_36, g23_38, g23_39, g23_42, g23_45, g23_48, cont_1, cont_0, w32_o, K0, z1, z2]
  · obtain ⟨M2, z2, f2, r2⟩ := trmL hR hz ho hi ts1.length M1 ts1 o1 0 (Nat.le_refl _) rd (by omega) (by omega) tc
    have z2' : go (rk 23 [aR ra, aI (o : Int)]) 23 7 [some (aR ra), some (aI (o : Int)), some (aI 0)] [] M1 S = _ := z2
    refine ⟨M2, ?_, FrL_t f1 f2, ?_⟩
    · rw [g23]
      simp (disch := omega) only [g23_0, g23_1, g23_2, g23_5, g23_6, g23_8, g23_11t, g23_11f, g23_14, g23_15, g23_18, g23_20t, g23_20f, g23_23, g23_24, g23_27, g23_28, g23_29, g23_32, g23_33, g23_36, g23_38, g23_39, g23_42, g23_45, g23_48, cont_1, cont_0, w32_o, K0, z1, z2']
    · have syn : ∀ mn H, opn H = o → tpl 5 H → mC false mn (hdK ts) → syR ts true mn H out = cnS ts1 H o1 := fun mn H hH hT hm => by
        rw [sy mn H hH (tpl_le hT (by omega)) hm]
        unfold cn7 cnS
        rw [unw_0 hT (by omega)]
      rcases r2 with ⟨q, fa, sy2⟩ | ⟨ts2, o2, rd2, l3, l4, up2, tc2, sy2⟩
      · exact Or.inl ⟨q, fa, fun mn H hH hT hm => (syn mn H hH hT hm).trans (sy2 H hH hT)⟩
      · exact Or.inr ⟨ts2, o2, rd2, by omega, by omega, up2 _ up, tc2, fun mn H hH hT hm => (syn mn H hH hT hm).trans (sy2 H hH hT)⟩
theorem trmF {ra ta la : Nat} {S : Sh} (hR : RdSh S ra ta la) (o : Nat) (hi : SpF ra la S 24 o) : SpF ra la S 23 o := by
  have ⟨K0, P0, P2, Kt, Lt, ⟨a0, La0, La1, La2, La3, La4, LL1, LL2, LL3, LL4, LP0, LP1, LP2, LP3⟩, ⟨n0, n1, n2⟩, ⟨m0, m1, m2, m3, m4⟩, ⟨t0, t1, t2, t3, t4⟩⟩ := hR
  have k23_o := rkR23 ra ((o : Int))
  have k24_o := rkR24 ra ((o : Int))
  intro M q h
  obtain ⟨M1, z1, f1, fa⟩ := hi M q h
  have h15 := fa.1
  have z2 : go (rk 23 [aR ra, aI (o : Int)]) 23 7 [some (aR ra), some (aI (o : Int)), some (aI 0)] [] M1 S = _ := trmX (n := 0) hR (by omega)
  refine ⟨M1, ?_, f1, fa⟩
  rw [g23]
  simp (disch := omega) only [g23_0, g23_1, g23_2, g23_5, g23_6, g23_8, g23_11t, g23_11f, g23_14, g23_15, g23_18, g23_20t, g23_20f, g23_23, g23_24, g23_27, g23_28, g23_29, g23_32, g23_33, g23_36, g23_38, g23_39, g23_42, g23_45, g23_48, cont_1, cont_0, w32_o, K0, z1, z2]
theorem sumX {ra ta la : Nat} {S : Sh} (hR : RdSh S ra ta la) {o n : Nat} {M : Mem} {l3 : Option AV} (e0 : M ra 5 ≠ 43) (e1 : M ra 5 ≠ 45) : go (rk 22 [aR ra, aI (o : Int)]) 22 7 [some (aR ra), some (aI (o : Int)), some (aI (n : Int)), l3] [] M S = some (none, M, S) := by
  have ⟨K0, P0, P2, Kt, Lt, ⟨a0, La0, La1, La2, La3, La4, LL1, LL2, LL3, LL4, LP0, LP1, LP2, LP3⟩, ⟨n0, n1, n2⟩, ⟨m0, m1, m2, m3, m4⟩, ⟨t0, t1, t2, t3, t4⟩⟩ := hR
  rw [g22_7]
  by_cases hn : (n : Int) < 160
  · simp (disch := omega) only [g22_0, g22_1, g22_2, g22_5, g22_6, g22_8, g22_11t, g22_11f, g22_14, g22_15, g22_18, g22_20t, g22_20f, g22_23, g22_24, g22_27, g22_29t, g22_29f, g22_32, g22_33, g22_36, g22_37, g22_38, g22_41, g22_42, g22_43, g22_46, g22_47, g22_50, g22_51, g22_52, g22_55, g22_58, g22_61, cont_1, cont_0, w32_o, K0]
  · simp (disch := omega) only [g22_0, g22_1, g22_2, g22_5, g22_6, g22_8, g22_11t, g22_11f, g22_14, g22_15, g22_18, g22_20t, g22_20f, g22_23, g22_24, g22_27, g22_29t, g22_29f, g22_32, g22_33, g22_36, g22_37, g22_38, g22_41, g22_42, g22_43, g22_46, g22_47, g22_50, g22_51, g22_52, g22_55, g22_58, g22_61, cont_1, cont_0, w32_o, K0]
theorem sumL {ra ta la sz : Nat} {f : Nat → Int} {S : Sh} (hR : RdSh S ra ta la) (hz : sz ≤ 160) {o : Nat} (ho : o ≤ 5) (hi : SpX ra ta la sz f S 23 5 false (fun k => k ≠ 42) cnS o) : ∀ (N : Nat) (M : Mem) (ts : List Tok) (out : List Int) (n : Nat) (l3 : Option AV), ts.length ≤ N → RdS ra ta la sz f M ts out → out.length + ts.length ≤ 161 → n + ts.length ≤ 161 → (fun k => k ≠ 42) (hdK ts) → ∃ M', go (rk 22 [aR ra, aI (o : Int)]) 22 7 [some (aR ra), some (aI (o : Int)), some (aI (n : Int)), l3] [] M S = some (none, M', S) ∧ FrL ra la M M' ∧ ((∃ q, FaS ra la M' q ∧ ∀ H, opn H = o → tpl 4 H → cnS ts H out = Sum.inl q) ∨ (∃ ts' out', RdS ra ta la sz f M' ts' out' ∧ ts'.length ≤ ts.length ∧ out'.length + ts'.length ≤ out.length + ts.length ∧ (∀ b, Up b out → Up b out') ∧ (fun k => k ≠ 42 ∧ k ≠ 43 ∧ k ≠ 45) (hdK ts') ∧ ∀ H, opn H = o → tpl 4 H → cnS ts H out = cnS ts' H out')) := by
  have ⟨K0, P0, P2, Kt, Lt, ⟨a0, La0, La1, La2, La3, La4, LL1, LL2, LL3, LL4, LP0, LP1, LP2, LP3⟩, ⟨n0, n1, n2⟩, ⟨m0, m1, m2, m3, m4⟩, ⟨t0, t1, t2, t3, t4⟩⟩ := hR
  have k22_o := rkR22 ra ((o : Int))
  have k23_o := rkR23 ra ((o : Int))
  intro N
  induction N with
  | zero =>
    intro M ts out n l3 hN h
    obtain ⟨t, ts1, rfl⟩ := hdT_pos h.2.2.2.2.2
    rw [List.length_cons] at hN
    omega
  | succ N ih =>
    intro M ts out n l3 hN h hl hn htc
    obtain ⟨t, ts1, rfl⟩ := hdT_pos h.2.2.2.2.2
    have hc := h.2.2.2.2.2.1
    have ets : (t :: ts1).length = ts1.length + 1 := List.length_cons
    rw [ets] at hN hl hn
    have htc' : (fun k => k ≠ 42) t.1 := htc
    by_cases c0 : t.1 = 43
    · have e5 : M ra 5 = 43 := by unfold tkC at hc; omega
      have tp := ts_pos h (by omega)
      clear hc
      obtain ⟨M1, z1, f1, r1⟩ := cadv hR hz h (by omega)
      obtain ⟨M2, z2, f2, r2⟩ := hi M1 ts1 out r1 (by omega)
      have syt : ∀ H, opn H = o → tpl 4 H → cnS (t :: ts1) H out = syR ts1 true false (16 :: H) out := fun H _ hH => by
        unfold cnS
        exact sy_op (l := 4) (c := 16) (by rw [c0]; rfl) (by omega) (by omega) (by omega) (by decide) hH (by decide)
      rcases r2 with ⟨q, fa, sy⟩ | ⟨ts2, o2, rd, l1, l2, up, tc, sy⟩
      · obtain ⟨M3, z3, f3, fa3⟩ := cadd_f (w := 43) (v := 0) hR fa
        have h35 := fa3.1
        have z4 := sumX (o := o) (n := n + 1) (M := M3) (l3 := some (aI 43)) hR (by omega) (by omega)
        rw [nc_1] at z4
        refine ⟨M3, ?_, FrL_t f1 (FrL_t f2 f3), Or.inl ⟨q, fa3, fun H hH hT => ?_⟩⟩
        · rw [g22_7]
          simp (disch := omega) only [g22_0, g22_1, g22_2, g22_5, g22_6, g22_8, g22_11t, g22_11f, g22_14, g22_15, g22_18, g22_20t, g22_20f, g22_23, g22_24, g22_27, g22_29t, g22_29f, g22_32, g22_33, g22_36, g22_37, g22_38, g22_41, g22_42, g22_43, g22_46, g22_47, g22_50, g22_51, g22_52, g22_55, g22_58, g22_61, cont_1, cont_0, w32_o, K0, P2, La0, e5, z1, z2, z3, z4]
        · rw [syt H hH hT]
          exact sy false (16 :: H) (opn_0 (by decide) hH) (by show rkS 16 ≤ _; decide) (mC_f _)
      · obtain ⟨t2, ts3, rfl⟩ := hdT_pos rd.2.2.2.2.2
        have e23 : (t2 :: ts3).length = ts3.length + 1 := List.length_cons
        rw [e23] at l1 l2
        obtain ⟨M3, z3, f3, r3⟩ := cadd (w := 43) (v := 0) hR hz rd (by unfold wOK; omega) (by omega)
        obtain ⟨M4, z4, f4, r4⟩ := ih M3 (t2 :: ts3) (16 :: o2) (n + 1) (some (aI 43)) (by rw [e23]; omega) r3 (by rw [e23, List.length_cons]; omega) (by rw [e23]; omega) tc
        rw [nc_1] at z4
        have syn : ∀ H, opn H = o → tpl 4 H → cnS (t :: ts1) H out = cnS (t2 :: ts3) H (16 :: o2) := fun H hH hT => by
          rw [syt H hH hT, sy false (16 :: H) (opn_0 (by decide) hH) (by show rkS 16 ≤ _; decide) (mC_f _)]
          unfold cnS
          exact sy_U (Nat.le_trans (lvA_5 tc) (by decide))
        refine ⟨M4, ?_, FrL_t f1 (FrL_t f2 (FrL_t f3 f4)), ?_⟩
        · rw [g22_7]
          simp (disch := omega) only [g22_0, g22_1, g22_2, g22_5, g22_6, g22_8, g22_11t, g22_11f, g22_14, g22_15, g22_18, g22_20t, g22_20f, g22_23, g22_24, g22_27, g22_29t, g22_29f, g22_32, g22_33, g22_36, g22_37, g22_38, g22_41, g22_42, g22_43, g22_46, g22_47, g22_50, g22_51, g22_52, g22_55, g22_58, g22_61, cont_1, cont_0, w32_o, K0, P2, La0, e5, z1, z2, z3, z4]
        · rcases r4 with ⟨q, fa, sy4⟩ | ⟨ts4, o4, rd4, l3', l4, up4, tc4, sy4⟩
          · exact Or.inl ⟨q, fa, fun H hH hT => (syn H hH hT).trans (sy4 H hH hT)⟩
          · refine Or.inr ⟨ts4, o4, rd4, by rw [ets]; rw [e23] at l3'; omega, by rw [ets]; rw [e23, List.length_cons] at l4; omega, fun b hb => up4 b (Up_b hb up (by omega)), tc4, fun H hH hT => (syn H hH hT).trans (sy4 H hH hT)⟩
    by_cases c1 : t.1 = 45
    · have e5 : M ra 5 = 45 := by unfold tkC at hc; omega
      have tp := ts_pos h (by omega)
      clear hc
      obtain ⟨M1, z1, f1, r1⟩ := cadv hR hz h (by omega)
      obtain ⟨M2, z2, f2, r2⟩ := hi M1 ts1 out r1 (by omega)
      have syt : ∀ H, opn H = o → tpl 4 H → cnS (t :: ts1) H out = syR ts1 true false (17 :: H) out := fun H _ hH => by
        unfold cnS
        exact sy_op (l := 4) (c := 17) (by rw [c1]; rfl) (by omega) (by omega) (by omega) (by decide) hH (by decide)
      rcases r2 with ⟨q, fa, sy⟩ | ⟨ts2, o2, rd, l1, l2, up, tc, sy⟩
      · obtain ⟨M3, z3, f3, fa3⟩ := cadd_f (w := 45) (v := 0) hR fa
        have h35 := fa3.1
        have z4 := sumX (o := o) (n := n + 1) (M := M3) (l3 := some (aI 45)) hR (by omega) (by omega)
        rw [nc_1] at z4
        refine ⟨M3, ?_, FrL_t f1 (FrL_t f2 f3), Or.inl ⟨q, fa3, fun H hH hT => ?_⟩⟩
        · rw [g22_7]
          simp (disch := omega) only [g22_0, g22_1, g22_2, g22_5, g22_6, g22_8, g22_11t, g22_11f, g22_14, g22_15, g22_18, g22_20t, g22_20f, g22_23, g22_24, g22_27, g22_29t, g22_29f, g22_32, g22_33, g22_36, g22_37, g22_38, g22_41, g22_42, g22_43, g22_46, g22_47, g22_50, g22_51, g22_52, g22_55, g22_58, g22_61, cont_1, cont_0, w32_o, K0, P2, La0, e5, z1, z2, z3, z4]
        · rw [syt H hH hT]
          exact sy false (17 :: H) (opn_0 (by decide) hH) (by show rkS 17 ≤ _; decide) (mC_f _)
      · obtain ⟨t2, ts3, rfl⟩ := hdT_pos rd.2.2.2.2.2
        have e23 : (t2 :: ts3).length = ts3.length + 1 := List.length_cons
        rw [e23] at l1 l2
        obtain ⟨M3, z3, f3, r3⟩ := cadd (w := 45) (v := 0) hR hz rd (by unfold wOK; omega) (by omega)
        obtain ⟨M4, z4, f4, r4⟩ := ih M3 (t2 :: ts3) (17 :: o2) (n + 1) (some (aI 45)) (by rw [e23]; omega) r3 (by rw [e23, List.length_cons]; omega) (by rw [e23]; omega) tc
        rw [nc_1] at z4
        have syn : ∀ H, opn H = o → tpl 4 H → cnS (t :: ts1) H out = cnS (t2 :: ts3) H (17 :: o2) := fun H hH hT => by
          rw [syt H hH hT, sy false (17 :: H) (opn_0 (by decide) hH) (by show rkS 17 ≤ _; decide) (mC_f _)]
          unfold cnS
          exact sy_U (Nat.le_trans (lvA_5 tc) (by decide))
        refine ⟨M4, ?_, FrL_t f1 (FrL_t f2 (FrL_t f3 f4)), ?_⟩
        · rw [g22_7]
          simp (disch := omega) only [g22_0, g22_1, g22_2, g22_5, g22_6, g22_8, g22_11t, g22_11f, g22_14, g22_15, g22_18, g22_20t, g22_20f, g22_23, g22_24, g22_27, g22_29t, g22_29f, g22_32, g22_33, g22_36, g22_37, g22_38, g22_41, g22_42, g22_43, g22_46, g22_47, g22_50, g22_51, g22_52, g22_55, g22_58, g22_61, cont_1, cont_0, w32_o, K0, P2, La0, e5, z1, z2, z3, z4]
        · rcases r4 with ⟨q, fa, sy4⟩ | ⟨ts4, o4, rd4, l3', l4, up4, tc4, sy4⟩
          · exact Or.inl ⟨q, fa, fun H hH hT => (syn H hH hT).trans (sy4 H hH hT)⟩
          · refine Or.inr ⟨ts4, o4, rd4, by rw [ets]; rw [e23] at l3'; omega, by rw [ets]; rw [e23, List.length_cons] at l4; omega, fun b hb => up4 b (Up_b hb up (by omega)), tc4, fun H hH hT => (syn H hH hT).trans (sy4 H hH hT)⟩
    have e2 : M ra 5 ≠ 43 ∧ M ra 5 ≠ 45 := by unfold tkC at hc; omega
    refine ⟨M, sumX hR e2.1 e2.2, FrL_r M, Or.inr ⟨t :: ts1, out, h, Nat.le_refl _, Nat.le_refl _, fun _ hb => hb, ?_, fun _ _ _ => rfl⟩⟩
    show (fun k => k ≠ 42 ∧ k ≠ 43 ∧ k ≠ 45) t.1
    simp only [] at htc' ⊢
    omega
theorem sum_ {ra ta la sz : Nat} {f : Nat → Int} {S : Sh} (hR : RdSh S ra ta la) (hz : sz ≤ 160) {o : Nat} (ho : o ≤ 5) (hi : SpX ra ta la sz f S 23 5 false (fun k => k ≠ 42) cnS o) : SpX ra ta la sz f S 22 4 false (fun k => k ≠ 42 ∧ k ≠ 43 ∧ k ≠ 45) cnS o := by
  have ⟨K0, P0, P2, Kt, Lt, ⟨a0, La0, La1, La2, La3, La4, LL1, LL2, LL3, LL4, LP0, LP1, LP2, LP3⟩, ⟨n0, n1, n2⟩, ⟨m0, m1, m2, m3, m4⟩, ⟨t0, t1, t2, t3, t4⟩⟩ := hR
  have k22_o := rkR22 ra ((o : Int))
  have k23_o := rkR23 ra ((o : Int))
  intro M ts out h hl
  obtain ⟨M1, z1, f1, r1⟩ := hi M ts out h hl
  rcases r1 with ⟨q, fa, sy⟩ | ⟨ts1, o1, rd, l1, l2, up, tc, sy⟩
  · have h15 := fa.1
    have z2 : go (rk 22 [aR ra, aI (o : Int)]) 22 7 [some (aR ra), some (aI (o : Int)), some (aI 0), none] [] M1 S = _ := sumX (n := 0) (l3 := none) hR (by omega) (by omega)
    refine ⟨M1, ?_, f1, Or.inl ⟨q, fa, fun mn H hH hT hm => sy mn H hH (tpl_le hT (by omega)) hm⟩⟩
    rw [g22]
    simp (disch := omega) only [g22_0, g22_1, g22_2, g22_5, g22_6, g22_8, g22_11t, g22_11f, g22_14, g22_15, g22_18, g22_20t, g22_20f, g22_23, g22_24, g22_27, g22_29t, g22_29f, g22_32, g22_33, g22_36, g22_37, g22_38, g22_41, g22_42, g22_43, g22_46, g22_47, g22_50, g22_51, g22_52, g22_55, g22_58, g22_61, cont_1, cont_0, w32_o, K0, z1, z2]
  · obtain ⟨M2, z2, f2, r2⟩ := sumL hR hz ho hi ts1.length M1 ts1 o1 0 none (Nat.le_refl _) rd (by omega) (by omega) tc
    have z2' : go (rk 22 [aR ra, aI (o : Int)]) 22 7 [some (aR ra), some (aI (o : Int)), some (aI 0), none] [] M1 S = _ := z2
    refine ⟨M2, ?_, FrL_t f1 f2, ?_⟩
    · rw [g22]
      simp (disch := omega) only [g22_0, g22_1, g22_2, g22_5, g22_6, g22_8, g22_11t, g22_11f, g22_14, g22_15, g22_18, g22_20t, g22_20f, g22_23, g22_24, g22_27, g22_29t, g22_29f, g22_32, g22_33, g22_36, g22_37, g22_38, g22_41, g22_42, g22_43, g22_46, g22_47, g22_50, g22_51, g22_52, g22_55, g22_58, g22_61, cont_1, cont_0, w32_o, K0, z1, z2']
    · have syn : ∀ mn H, opn H = o → tpl 4 H → mC false mn (hdK ts) → syR ts true mn H out = cnS ts1 H o1 := fun mn H hH hT hm => by
        rw [sy mn H hH (tpl_le hT (by omega)) hm]
      rcases r2 with ⟨q, fa, sy2⟩ | ⟨ts2, o2, rd2, l3, l4, up2, tc2, sy2⟩
      · exact Or.inl ⟨q, fa, fun mn H hH hT hm => (syn mn H hH hT hm).trans (sy2 H hH hT)⟩
      · exact Or.inr ⟨ts2, o2, rd2, by omega, by omega, up2 _ up, tc2, fun mn H hH hT hm => (syn mn H hH hT hm).trans (sy2 H hH hT)⟩
theorem sumF {ra ta la : Nat} {S : Sh} (hR : RdSh S ra ta la) (o : Nat) (hi : SpF ra la S 23 o) : SpF ra la S 22 o := by
  have ⟨K0, P0, P2, Kt, Lt, ⟨a0, La0, La1, La2, La3, La4, LL1, LL2, LL3, LL4, LP0, LP1, LP2, LP3⟩, ⟨n0, n1, n2⟩, ⟨m0, m1, m2, m3, m4⟩, ⟨t0, t1, t2, t3, t4⟩⟩ := hR
  have k22_o := rkR22 ra ((o : Int))
  have k23_o := rkR23 ra ((o : Int))
  intro M q h
  obtain ⟨M1, z1, f1, fa⟩ := hi M q h
  have h15 := fa.1
  have z2 : go (rk 22 [aR ra, aI (o : Int)]) 22 7 [some (aR ra), some (aI (o : Int)), some (aI 0), none] [] M1 S = _ := sumX (n := 0) (l3 := none) hR (by omega) (by omega)
  refine ⟨M1, ?_, f1, fa⟩
  rw [g22]
  simp (disch := omega) only [g22_0, g22_1, g22_2, g22_5, g22_6, g22_8, g22_11t, g22_11f, g22_14, g22_15, g22_18, g22_20t, g22_20f, g22_23, g22_24, g22_27, g22_29t, g22_29f, g22_32, g22_33, g22_36, g22_37, g22_38, g22_41, g22_42, g22_43, g22_46, g22_47, g22_50, g22_51, g22_52, g22_55, g22_58, g22_61, cont_1, cont_0, w32_o, K0, z1, z2]
theorem cnN_U {t : Tok} {ts : List Tok} {H o : List Int} {s : Int} (h : t.1 ≠ 42 ∧ t.1 ≠ 43 ∧ t.1 ≠ 45) (hs : 2 ≤ rkS s) : cnN (t :: ts) (s :: H) o = cnN (t :: ts) H (s :: o) := by
  by_cases hc : isCm t.1
  · rw [cnN_t hc, cnN_t hc]
  · rw [cnN_f hc, cnN_f hc]
    exact sy_U (Nat.le_trans (lvA_2 h.1 h.2.1 h.2.2 hc) hs)
theorem cnN_C {t : Tok} {ts : List Tok} {H o : List Int} {s : Int} (h : t.1 ≠ 42 ∧ t.1 ≠ 43 ∧ t.1 ≠ 45) (hs : rkS s = 4) : syR (t :: ts) false false (s :: H) o = cnN (t :: ts) H (s :: o) := by
  by_cases hc : isCm t.1
  · rw [cnN_t hc]
    have e : sgn t.1 = 14 ∨ sgn t.1 = 15 := by
      unfold isCm at hc
      rcases hc with hc | hc
      · rw [hc]; exact Or.inl rfl
      · rw [hc]; exact Or.inr rfl
    have e4 : rkS (sgn t.1) = 4 := by rcases e with e | e <;> rw [e] <;> rfl
    have e5 : lvl t.1 = 5 := by unfold lvl; rw [if_pos e4]
    unfold isCm at hc
    rw [sy_sig (by omega) (by omega) (by omega), e5, unw_n (by omega), if_pos ⟨e4, decide_eq_true hs⟩]
  · rw [cnN_f hc]
    exact sy_U (Nat.le_trans (lvA_2 h.1 h.2.1 h.2.2 hc) (by omega))
theorem not_ {ra ta la sz : Nat} {f : Nat → Int} {S : Sh} (hR : RdSh S ra ta la) (hz : sz ≤ 160) {o : Nat} (ho : o ≤ 5) (hi : SpX ra ta la sz f S 22 4 false (fun k => k ≠ 42 ∧ k ≠ 43 ∧ k ≠ 45) cnS o) (h1 : o < 5 → SpX ra ta la sz f S 21 3 true (fun k => k ≠ 42 ∧ k ≠ 43 ∧ k ≠ 45) cnN (o + 1)) : SpX ra ta la sz f S 21 3 true (fun k => k ≠ 42 ∧ k ≠ 43 ∧ k ≠ 45) cnN o := by
  have ⟨K0, P0, P2, Kt, Lt, ⟨a0, La0, La1, La2, La3, La4, LL1, LL2, LL3, LL4, LP0, LP1, LP2, LP3⟩, ⟨n0, n1, n2⟩, ⟨m0, m1, m2, m3, m4⟩, ⟨t0, t1, t2, t3, t4⟩⟩ := hR
  have k21_o := rkR21 ra ((o : Int))
  have k21_p := rkR21 ra ((o : Int) + 1)
  have k22_o := rkR22 ra ((o : Int))
  intro M ts out h hl
  obtain ⟨t, ts1, rfl⟩ := hdT_pos h.2.2.2.2.2
  have hc := h.2.2.2.2.2.1
  have ets : (t :: ts1).length = ts1.length + 1 := List.length_cons
  have hhd : hdK (t :: ts1) = t.1 := rfl
  by_cases c1 : t.1 = 6
  · have e5 : M ra 5 = 9 := by unfold tkC at hc; omega
    have tp := ts_pos h (by omega)
    clear hc
    rw [ets] at hl
    by_cases h5 : o < 5
    · obtain ⟨M1, z1, f1, r1⟩ := cadv hR hz h (by omega)
      obtain ⟨M2, z2, f2, r2⟩ := h1 h5 M1 ts1 out r1 (by omega)
      rw [nc_1] at z2
      rcases r2 with ⟨q, fa, sy⟩ | ⟨ts2, o2, rd, l1, l2, up, tc, sy⟩
      · obtain ⟨M3, z3, f3, fa3⟩ := cadd_f (w := 9) (v := 0) hR fa
        refine ⟨M3, ?_, FrL_t f1 (FrL_t f2 f3), Or.inl ⟨q, fa3, fun mn H hH hT hm => ?_⟩⟩
        · rw [g21]
          simp (disch := omega) only [g21_0, g21_1, g21_4, g21_6t, g21_6f, g21_9, g21_10, g21_11t, g21_11f, g21_14, g21_15, g21_18, g21_19, g21_20, g21_23, g21_24, g21_25, g21_26, g21_27, g21_30, g21_31, g21_34, g21_36, g21_37, g21_40, g21_41, g21_42, g21_43, g21_46, g21_47, g21_50, g21_52t, g21_52f, g21_55, g21_56, g21_59, g21_61t, g21_61f, g21_64, g21_65, g21_68, g21_69, g21_70, g21_73, g21_74, g21_75, g21_78, g21_79, g21_82, g21_83, g21_84, g21_87, cont_1, cont_0, w32_o, K0, P2, La0, e5, z1, z2, z3]
        · rw [hm.1 rfl, sy_not c1, if_neg (by omega)]
          exact sy true (13 :: H) (opn_1 (by decide) hH) (by show rkS 13 ≤ 3; decide) (mC_t _)
      · obtain ⟨t2, ts3, rfl⟩ := hdT_pos rd.2.2.2.2.2
        have e23 : (t2 :: ts3).length = ts3.length + 1 := List.length_cons
        rw [e23] at l1 l2
        obtain ⟨M3, z3, f3, r3⟩ := cadd (w := 9) (v := 0) hR hz rd (by unfold wOK; omega) (by omega)
        refine ⟨M3, ?_, FrL_t f1 (FrL_t f2 f3), Or.inr ⟨t2 :: ts3, 13 :: o2, r3, by rw [ets, e23]; omega, by rw [ets, e23, List.length_cons]; omega, Up_u up (Or.inl rfl), tc, fun mn H hH hT hm => ?_⟩⟩
        · rw [g21]
          simp (disch := omega) only [g21_0, g21_1, g21_4, g21_6t, g21_6f, g21_9, g21_10, g21_11t, g21_11f, g21_14, g21_15, g21_18, g21_19, g21_20, g21_23, g21_24, g21_25, g21_26, g21_27, g21_30, g21_31, g21_34, g21_36, g21_37, g21_40, g21_41, g21_42, g21_43, g21_46, g21_47, g21_50, g21_52t, g21_52f, g21_55, g21_56, g21_59, g21_61t, g21_61f, g21_64, g21_65, g21_68, g21_69, g21_70, g21_73, g21_74, g21_75, g21_78, g21_79, g21_82, g21_83, g21_84, g21_87, cont_1, cont_0, w32_o, K0, P2, La0, e5, z1, z2, z3]
        · rw [hm.1 rfl, sy_not c1, if_neg (by omega), sy true (13 :: H) (opn_1 (by decide) hH) (by show rkS 13 ≤ 3; decide) (mC_t _)]
          exact cnN_U tc (by decide)
    · obtain ⟨M1, y1, y2, y3⟩ := cref hR h (by omega)
      refine ⟨M1, ?_, y2, Or.inl ⟨t.2.2, y3, fun mn H hH _ hm => by rw [hm.1 rfl, sy_not c1, if_pos (by omega)]⟩⟩
      rw [g21]
      simp (disch := omega) only [g21_0, g21_1, g21_4, g21_6t, g21_6f, g21_9, g21_10, g21_11t, g21_11f, g21_14, g21_15, g21_18, g21_19, g21_20, g21_23, g21_24, g21_25, g21_26, g21_27, g21_30, g21_31, g21_34, g21_36, g21_37, g21_40, g21_41, g21_42, g21_43, g21_46, g21_47, g21_50, g21_52t, g21_52f, g21_55, g21_56, g21_59, g21_61t, g21_61f, g21_64, g21_65, g21_68, g21_69, g21_70, g21_73, g21_74, g21_75, g21_78, g21_79, g21_82, g21_83, g21_84, g21_87, cont_1, cont_0, w32_o, K0, P2, La0, e5, y1]
  · have e9 : M ra 5 ≠ 9 := by unfold tkC at hc; omega
    clear hc
    obtain ⟨M1, z1, f1, r1⟩ := hi M (t :: ts1) out h hl
    rw [ets] at hl
    rcases r1 with ⟨q, fa, sy⟩ | ⟨ts2, o2, rd, l1, l2, up, tc, sy⟩
    · have h15 := fa.1
      refine ⟨M1, ?_, f1, Or.inl ⟨q, fa, fun mn H hH hT _ => sy mn H hH (tpl_le hT (by omega)) ⟨fun z => absurd z (by decide), fun _ _ => by rw [hhd]; exact c1⟩⟩⟩
      rw [g21]
      simp (disch := omega) only [g21_0, g21_1, g21_4, g21_6t, g21_6f, g21_9, g21_10, g21_11t, g21_11f, g21_14, g21_15, g21_18, g21_19, g21_20, g21_23, g21_24, g21_25, g21_26, g21_27, g21_30, g21_31, g21_34, g21_36, g21_37, g21_40, g21_41, g21_42, g21_43, g21_46, g21_47, g21_50, g21_52t, g21_52f, g21_55, g21_56, g21_59, g21_61t, g21_61f, g21_64, g21_65, g21_68, g21_69, g21_70, g21_73, g21_74, g21_75, g21_78, g21_79, g21_82, g21_83, g21_84, g21_87, cont_1, cont_0, w32_o, K0, P2, La0, h15, z1]
    · obtain ⟨t2, ts3, rfl⟩ := hdT_pos rd.2.2.2.2.2
      have e23 : (t2 :: ts3).length = ts3.length + 1 := List.length_cons
      rw [e23, ets] at l1 l2
      have hc2 := rd.2.2.2.2.2.1
      have sy1 : ∀ mn H, opn H = o → tpl 3 H → syR (t :: ts1) true mn H out = syR (t2 :: ts3) false false H o2 := fun mn H hH hT => sy mn H hH (tpl_le hT (by omega)) ⟨fun z => absurd z (by decide), fun _ _ => by rw [hhd]; exact c1⟩
      by_cases d60 : t2.1 = 60
      · have e5 : M1 ra 5 = 60 := by unfold tkC at hc2; omega
        have tp2 := ts_pos rd (by omega)
        clear hc2
        obtain ⟨M2, z2, f2, r2⟩ := cadv hR hz rd (by omega)
        obtain ⟨M3, z3, f3, r3⟩ := hi M2 ts3 o2 r2 (by omega)
        have sy2 : ∀ mn H, opn H = o → tpl 3 H → syR (t :: ts1) true mn H out = syR ts3 true false (14 :: H) o2 := fun mn H hH hT => by
          rw [sy1 mn H hH hT]
          exact sy_cm (c := 14) (by rw [d60]; rfl) (by omega) (by omega) (by omega) (by decide) hT
        rcases r3 with ⟨q, fa, sy3⟩ | ⟨ts4, o4, rd4, l3, l4, up4, tc4, sy3⟩
        · obtain ⟨M4, z4, f4, fa4⟩ := cadd_f (w := 60) (v := 0) hR fa
          refine ⟨M4, ?_, FrL_t f1 (FrL_t f2 (FrL_t f3 f4)), Or.inl ⟨q, fa4, fun mn H hH hT _ => ?_⟩⟩
          · rw [g21]
            simp (disch := omega) only [g21_0, g21_1, g21_4, g21_6t, g21_6f, g21_9, g21_10, g21_11t, g21_11f, g21_14, g21_15, g21_18, g21_19, g21_20, g21_23, g21_24, g21_25, g21_26, g21_27, g21_30, g21_31, g21_34, g21_36, g21_37, g21_40, g21_41, g21_42, g21_43, g21_46, g21_47, g21_50, g21_52t, g21_52f, g21_55, g21_56, g21_59, g21_61t, g21_61f, g21_64, g21_65, g21_68, g21_69, g21_70, g21_73, g21_74, g21_75, g21_78, g21_79, g21_82, g21_83, g21_84, g21_87, cont_1, cont_0, w32_o, K0, P2, La0, e5, z1, z2, z3, z4]
          · rw [sy2 mn H hH hT]
            exact sy3 false (14 :: H) (opn_0 (by decide) hH) (by show rkS 14 ≤ 4; decide) (mC_f _)
        · obtain ⟨t4, ts5, rfl⟩ := hdT_pos rd4.2.2.2.2.2
          have e45 : (t4 :: ts5).length = ts5.length + 1 := List.length_cons
          rw [e45] at l3 l4
          obtain ⟨M4, z4, f4, r4⟩ := cadd (w := 60) (v := 0) hR hz rd4 (by unfold wOK; omega) (by omega)
          refine ⟨M4, ?_, FrL_t f1 (FrL_t f2 (FrL_t f3 f4)), Or.inr ⟨t4 :: ts5, 14 :: o4, r4, by rw [ets, e45]; omega, by rw [ets, e45, List.length_cons]; omega, Up_b up up4 (by omega), tc4, fun mn H hH hT _ => ?_⟩⟩
          · rw [g21]
            simp (disch := omega) only [g21_0, g21_1, g21_4, g21_6t, g21_6f, g21_9, g21_10, g21_11t, g21_11f, g21_14, g21_15, g21_18, g21_19, g21_20, g21_23, g21_24, g21_25, g21_26, g21_27, g21_30, g21_31, g21_34, g21_36, g21_37, g21_40, g21_41, g21_42, g21_43, g21_46, g21_47, g21_50, g21_52t, g21_52f, g21_55, g21_56, g21_59, g21_61t, g21_61f, g21_64, g21_65, g21_68, g21_69, g21_70, g21_73, g21_74, g21_75, g21_78, g21_79, g21_82, g21_83, g21_84, g21_87, cont_1, cont_0, w32_o, K0, P2, La0, e5, z1, z2, z3, z4]
          · rw [sy2 mn H hH hT, sy3 false (14 :: H) (opn_0 (by decide) hH) (by show rkS 14 ≤ 4; decide) (mC_f _)]
            exact cnN_C tc4 (by decide)
      by_cases d61 : t2.1 = 61
      · have e5 : M1 ra 5 = 61 := by unfold tkC at hc2; omega
        have tp2 := ts_pos rd (by omega)
        clear hc2
        obtain ⟨M2, z2, f2, r2⟩ := cadv hR hz rd (by omega)
        obtain ⟨M3, z3, f3, r3⟩ := hi M2 ts3 o2 r2 (by omega)
        have sy2 : ∀ mn H, opn H = o → tpl 3 H → syR (t :: ts1) true mn H out = syR ts3 true false (15 :: H) o2 := fun mn H hH hT => by
          rw [sy1 mn H hH hT]
          exact sy_cm (c := 15) (by rw [d61]; rfl) (by omega) (by omega) (by omega) (by decide) hT
        rcases r3 with ⟨q, fa, sy3⟩ | ⟨ts4, o4, rd4, l3, l4, up4, tc4, sy3⟩
        · obtain ⟨M4, z4, f4, fa4⟩ := cadd_f (w := 61) (v := 0) hR fa
          refine ⟨M4, ?_, FrL_t f1 (FrL_t f2 (FrL_t f3 f4)), Or.inl ⟨q, fa4, fun mn H hH hT _ => ?_⟩⟩
          · rw [g21]
            simp (disch := omega) only [g21_0, g21_1, g21_4, g21_6t, g21_6f, g21_9, g21_10, g21_11t, g21_11f, g21_14, g21_15, g21_18, g21_19, g21_20, g21_23, g21_24, g21_25, g21_26, g21_27, g21_30, g21_31, g21_34, g21_36, g21_37, g21_40, g21_41, g21_42, g21_43, g21_46, g21_47, g21_50, g21_52t, g21_52f, g21_55, g21_56, g21_59, g21_61t, g21_61f, g21_64, g21_65, g21_68, g21_69, g21_70, g21_73, g21_74, g21_75, g21_78, g21_79, g21_82, g21_83, g21_84, g21_87, cont_1, cont_0, w32_o, K0, P2, La0, e5, z1, z2, z3, z4]
          · rw [sy2 mn H hH hT]
            exact sy3 false (15 :: H) (opn_0 (by decide) hH) (by show rkS 15 ≤ 4; decide) (mC_f _)
        · obtain ⟨t4, ts5, rfl⟩ := hdT_pos rd4.2.2.2.2.2
          have e45 : (t4 :: ts5).length = ts5.length + 1 := List.length_cons
          rw [e45] at l3 l4
          obtain ⟨M4, z4, f4, r4⟩ := cadd (w := 61) (v := 0) hR hz rd4 (by unfold wOK; omega) (by omega)
          refine ⟨M4, ?_, FrL_t f1 (FrL_t f2 (FrL_t f3 f4)), Or.inr ⟨t4 :: ts5, 15 :: o4, r4, by rw [ets, e45]; omega, by rw [ets, e45, List.length_cons]; omega, Up_b up up4 (by omega), tc4, fun mn H hH hT _ => ?_⟩⟩
          · rw [g21]
            simp (disch := omega) only [g21_0, g21_1, g21_4, g21_6t, g21_6f, g21_9, g21_10, g21_11t, g21_11f, g21_14, g21_15, g21_18, g21_19, g21_20, g21_23, g21_24, g21_25, g21_26, g21_27, g21_30, g21_31, g21_34, g21_36, g21_37, g21_40, g21_41, g21_42, g21_43, g21_46, g21_47, g21_50, g21_52t, g21_52f, g21_55, g21_56, g21_59, g21_61t, g21_61f, g21_64, g21_65, g21_68, g21_69, g21_70, g21_73, g21_74, g21_75, g21_78, g21_79, g21_82, g21_83, g21_84, g21_87, cont_1, cont_0, w32_o, K0, P2, La0, e5, z1, z2, z3, z4]
          · rw [sy2 mn H hH hT, sy3 false (15 :: H) (opn_0 (by decide) hH) (by show rkS 15 ≤ 4; decide) (mC_f _)]
            exact cnN_C tc4 (by decide)
      have e60 : M1 ra 5 ≠ 60 ∧ M1 ra 5 ≠ 61 := by unfold tkC at hc2; omega
      obtain ⟨e60, e61⟩ := e60
      clear hc2
      refine ⟨M1, ?_, f1, Or.inr ⟨t2 :: ts3, o2, rd, by rw [e23, ets]; omega, by rw [e23, ets]; omega, up, tc, fun mn H hH hT _ => ?_⟩⟩
      · rw [g21]
        simp (disch := omega) only [g21_0, g21_1, g21_4, g21_6t, g21_6f, g21_9, g21_10, g21_11t, g21_11f, g21_14, g21_15, g21_18, g21_19, g21_20, g21_23, g21_24, g21_25, g21_26, g21_27, g21_30, g21_31, g21_34, g21_36, g21_37, g21_40, g21_41, g21_42, g21_43, g21_46, g21_47, g21_50, g21_52t, g21_52f, g21_55, g21_56, g21_59, g21_61t, g21_61f, g21_64, g21_65, g21_68, g21_69, g21_70, g21_73, g21_74, g21_75, g21_78, g21_79, g21_82, g21_83, g21_84, g21_87, cont_1, cont_0, w32_o, K0, P2, La0, z1]
      · rw [sy1 mn H hH hT, cnN_f (by unfold isCm; omega)]
theorem notF {ra ta la : Nat} {S : Sh} (hR : RdSh S ra ta la) (o : Nat) (hi : SpF ra la S 22 o) : SpF ra la S 21 o := by
  have ⟨K0, P0, P2, Kt, Lt, ⟨a0, La0, La1, La2, La3, La4, LL1, LL2, LL3, LL4, LP0, LP1, LP2, LP3⟩, ⟨n0, n1, n2⟩, ⟨m0, m1, m2, m3, m4⟩, ⟨t0, t1, t2, t3, t4⟩⟩ := hR
  have k21_o := rkR21 ra ((o : Int))
  have k22_o := rkR22 ra ((o : Int))
  intro M q h
  obtain ⟨M1, z1, f1, fa⟩ := hi M q h
  have h5 := h.1
  have h15 := fa.1
  refine ⟨M1, ?_, f1, fa⟩
  rw [g21]
  simp (disch := omega) only [g21_0, g21_1, g21_4, g21_6t, g21_6f, g21_9, g21_10, g21_11t, g21_11f, g21_14, g21_15, g21_18, g21_19, g21_20, g21_23, g21_24, g21_25, g21_26, g21_27, g21_30, g21_31, g21_34, g21_36, g21_37, g21_40, g21_41, g21_42, g21_43, g21_46, g21_47, g21_50, g21_52t, g21_52f, g21_55, g21_56, g21_59, g21_61t, g21_61f, g21_64, g21_65, g21_68, g21_69, g21_70, g21_73, g21_74, g21_75, g21_78, g21_79, g21_82, g21_83, g21_84, g21_87, cont_1, cont_0, w32_o, K0, h5, h15, z1]
theorem bthX {ra ta la : Nat} {S : Sh} (hR : RdSh S ra ta la) {o n : Nat} {M : Mem} (e0 : M ra 5 ≠ 8) : go (rk 20 [aR ra, aI (o : Int)]) 20 7 [some (aR ra), some (aI (o : Int)), some (aI (n : Int))] [] M S = some (none, M, S) := by
  have ⟨K0, P0, P2, Kt, Lt, ⟨a0, La0, La1, La2, La3, La4, LL1, LL2, LL3, LL4, LP0, LP1, LP2, LP3⟩, ⟨n0, n1, n2⟩, ⟨m0, m1, m2, m3, m4⟩, ⟨t0, t1, t2, t3, t4⟩⟩ := hR
  rw [g20_7]
  by_cases hn : (n : Int) < 160
  · simp (disch := omega) only [g20_0, g20_1, g20_2, g20_5, g20_6, g20_8, g20_11t, g20_11f, g20_14, g20_15, g20_18, g20_20t, g20_20f, g20_23, g20_24, g20_27, g20_28, g20_29, g20_32, g20_33, g20_36, g20_38, g20_39, g20_42, g20_45, g20_48, cont_1, cont_0, w32_o, K0]
  · simp (disch := omega) only [g20_0, g20_1, g20_2, g20_5, g20_6, g20_8, g20_11t, g20_11f, g20_14, g20_15, g20_18, g20_20t, g20_20f, g20_23, g20_24, g20_27, g20_28, g20_29, g20_32, g20_33, g20_36, g20_38, g20_39, g20_42, g20_45, g20_48, cont_1, cont_0, w32_o, K0]
theorem bthL {ra ta la sz : Nat} {f : Nat → Int} {S : Sh} (hR : RdSh S ra ta la) (hz : sz ≤ 160) {o : Nat} (ho : o ≤ 5) (hi : SpX ra ta la sz f S 21 3 true (fun k => k ≠ 42 ∧ k ≠ 43 ∧ k ≠ 45) cnN o) : ∀ (N : Nat) (M : Mem) (ts : List Tok) (out : List Int) (n : Nat), ts.length ≤ N → RdS ra ta la sz f M ts out → out.length + ts.length ≤ 161 → n + ts.length ≤ 161 → (fun k => k ≠ 42 ∧ k ≠ 43 ∧ k ≠ 45) (hdK ts) → ∃ M', go (rk 20 [aR ra, aI (o : Int)]) 20 7 [some (aR ra), some (aI (o : Int)), some (aI (n : Int))] [] M S = some (none, M', S) ∧ FrL ra la M M' ∧ ((∃ q, FaS ra la M' q ∧ ∀ H, opn H = o → tpl 1 H → cnN ts H out = Sum.inl q) ∨ (∃ ts' out', RdS ra ta la sz f M' ts' out' ∧ ts'.length ≤ ts.length ∧ out'.length + ts'.length ≤ out.length + ts.length ∧ (∀ b, Up b out → Up b out') ∧ (fun k => k ≠ 42 ∧ k ≠ 43 ∧ k ≠ 45 ∧ k ≠ 5) (hdK ts') ∧ ∀ H, opn H = o → tpl 1 H → cnN ts H out = cnN ts' H out')) := by
  have ⟨K0, P0, P2, Kt, Lt, ⟨a0, La0, La1, La2, La3, La4, LL1, LL2, LL3, LL4, LP0, LP1, LP2, LP3⟩, ⟨n0, n1, n2⟩, ⟨m0, m1, m2, m3, m4⟩, ⟨t0, t1, t2, t3, t4⟩⟩ := hR
  have k20_o := rkR20 ra ((o : Int))
  have k21_o := rkR21 ra ((o : Int))
  intro N
  induction N with
  | zero =>
    intro M ts out n hN h
    obtain ⟨t, ts1, rfl⟩ := hdT_pos h.2.2.2.2.2
    rw [List.length_cons] at hN
    omega
  | succ N ih =>
    intro M ts out n hN h hl hn htc
    obtain ⟨t, ts1, rfl⟩ := hdT_pos h.2.2.2.2.2
    have hc := h.2.2.2.2.2.1
    have ets : (t :: ts1).length = ts1.length + 1 := List.length_cons
    rw [ets] at hN hl hn
    have htc' : (fun k => k ≠ 42 ∧ k ≠ 43 ∧ k ≠ 45) t.1 := htc
    by_cases c0 : t.1 = 5
    · have e5 : M ra 5 = 8 := by unfold tkC at hc; omega
      have tp := ts_pos h (by omega)
      clear hc
      obtain ⟨M1, z1, f1, r1⟩ := cadv hR hz h (by omega)
      obtain ⟨M2, z2, f2, r2⟩ := hi M1 ts1 out r1 (by omega)
      have syt : ∀ H, opn H = o → tpl 1 H → cnN (t :: ts1) H out = syR ts1 true true (12 :: H) out := fun H _ hH => by
        rw [cnN_f (by unfold isCm; omega)]
        exact sy_op (l := 1) (c := 12) (by rw [c0]; rfl) (by omega) (by omega) (by omega) (by decide) hH (by decide)
      rcases r2 with ⟨q, fa, sy⟩ | ⟨ts2, o2, rd, l1, l2, up, tc, sy⟩
      · obtain ⟨M3, z3, f3, fa3⟩ := cadd_f (w := 8) (v := 0) hR fa
        have h35 := fa3.1
        have z4 := bthX (o := o) (n := n + 1) (M := M3) hR (by omega)
        rw [nc_1] at z4
        refine ⟨M3, ?_, FrL_t f1 (FrL_t f2 f3), Or.inl ⟨q, fa3, fun H hH hT => ?_⟩⟩
        · rw [g20_7]
          simp (disch := omega) only [g20_0, g20_1, g20_2, g20_5, g20_6, g20_8, g20_11t, g20_11f, g20_14, g20_15, g20_18, g20_20t, g20_20f, g20_23, g20_24, g20_27, g20_28, g20_29, g20_32, g20_33, g20_36, g20_38, g20_39, g20_42, g20_45, g20_48, cont_1, cont_0, w32_o, K0, P2, La0, e5, z1, z2, z3, z4]
        · rw [syt H hH hT]
          exact sy true (12 :: H) (opn_0 (by decide) hH) (by show rkS 12 ≤ _; decide) (mC_t _)
      · obtain ⟨t2, ts3, rfl⟩ := hdT_pos rd.2.2.2.2.2
        have e23 : (t2 :: ts3).length = ts3.length + 1 := List.length_cons
        rw [e23] at l1 l2
        obtain ⟨M3, z3, f3, r3⟩ := cadd (w := 8) (v := 0) hR hz rd (by unfold wOK; omega) (by omega)
        obtain ⟨M4, z4, f4, r4⟩ := ih M3 (t2 :: ts3) (12 :: o2) (n + 1) (by rw [e23]; omega) r3 (by rw [e23, List.length_cons]; omega) (by rw [e23]; omega) tc
        rw [nc_1] at z4
        have syn : ∀ H, opn H = o → tpl 1 H → cnN (t :: ts1) H out = cnN (t2 :: ts3) H (12 :: o2) := fun H hH hT => by
          rw [syt H hH hT, sy true (12 :: H) (opn_0 (by decide) hH) (by show rkS 12 ≤ _; decide) (mC_t _)]
          exact cnN_U tc (by decide)
        refine ⟨M4, ?_, FrL_t f1 (FrL_t f2 (FrL_t f3 f4)), ?_⟩
        · rw [g20_7]
          simp (disch := omega) only [g20_0, g20_1, g20_2, g20_5, g20_6, g20_8, g20_11t, g20_11f, g20_14, g20_15, g20_18, g20_20t, g20_20f, g20_23, g20_24, g20_27, g20_28, g20_29, g20_32, g20_33, g20_36, g20_38, g20_39, g20_42, g20_45, g20_48, cont_1, cont_0, w32_o, K0, P2, La0, e5, z1, z2, z3, z4]
        · rcases r4 with ⟨q, fa, sy4⟩ | ⟨ts4, o4, rd4, l3', l4, up4, tc4, sy4⟩
          · exact Or.inl ⟨q, fa, fun H hH hT => (syn H hH hT).trans (sy4 H hH hT)⟩
          · refine Or.inr ⟨ts4, o4, rd4, by rw [ets]; rw [e23] at l3'; omega, by rw [ets]; rw [e23, List.length_cons] at l4; omega, fun b hb => up4 b (Up_b hb up (by omega)), tc4, fun H hH hT => (syn H hH hT).trans (sy4 H hH hT)⟩
    have e2 : M ra 5 ≠ 8 := by unfold tkC at hc; omega
    refine ⟨M, bthX hR e2, FrL_r M, Or.inr ⟨t :: ts1, out, h, Nat.le_refl _, Nat.le_refl _, fun _ hb => hb, ?_, fun _ _ _ => rfl⟩⟩
    show (fun k => k ≠ 42 ∧ k ≠ 43 ∧ k ≠ 45 ∧ k ≠ 5) t.1
    simp only [] at htc' ⊢
    omega
theorem bth_ {ra ta la sz : Nat} {f : Nat → Int} {S : Sh} (hR : RdSh S ra ta la) (hz : sz ≤ 160) {o : Nat} (ho : o ≤ 5) (hi : SpX ra ta la sz f S 21 3 true (fun k => k ≠ 42 ∧ k ≠ 43 ∧ k ≠ 45) cnN o) : SpX ra ta la sz f S 20 1 true (fun k => k ≠ 42 ∧ k ≠ 43 ∧ k ≠ 45 ∧ k ≠ 5) cnN o := by
  have ⟨K0, P0, P2, Kt, Lt, ⟨a0, La0, La1, La2, La3, La4, LL1, LL2, LL3, LL4, LP0, LP1, LP2, LP3⟩, ⟨n0, n1, n2⟩, ⟨m0, m1, m2, m3, m4⟩, ⟨t0, t1, t2, t3, t4⟩⟩ := hR
  have k20_o := rkR20 ra ((o : Int))
  have k21_o := rkR21 ra ((o : Int))
  intro M ts out h hl
  obtain ⟨M1, z1, f1, r1⟩ := hi M ts out h hl
  rcases r1 with ⟨q, fa, sy⟩ | ⟨ts1, o1, rd, l1, l2, up, tc, sy⟩
  · have h15 := fa.1
    have z2 : go (rk 20 [aR ra, aI (o : Int)]) 20 7 [some (aR ra), some (aI (o : Int)), some (aI 0)] [] M1 S = _ := bthX (n := 0) hR (by omega)
    refine ⟨M1, ?_, f1, Or.inl ⟨q, fa, fun mn H hH hT hm => sy mn H hH (tpl_le hT (by omega)) hm⟩⟩
    rw [g20]
    simp (disch := omega) only [g20_0, g20_1, g20_2, g20_5, g20_6, g20_8, g20_11t, g20_11f, g20_14, g20_15, g20_18, g20_20t, g20_20f, g20_23, g20_24, g20_27, g20_28, g20_29, g20_32, g20_33, g20_36, g20_38, g20_39, g20_42, g20_45, g20_48, cont_1, cont_0, w32_o, K0, z1, z2]
  · obtain ⟨M2, z2, f2, r2⟩ := bthL hR hz ho hi ts1.length M1 ts1 o1 0 (Nat.le_refl _) rd (by omega) (by omega) tc
    have z2' : go (rk 20 [aR ra, aI (o : Int)]) 20 7 [some (aR ra), some (aI (o : Int)), some (aI 0)] [] M1 S = _ := z2
    refine ⟨M2, ?_, FrL_t f1 f2, ?_⟩
    · rw [g20]
      simp (disch := omega) only [g20_0, g20_1, g20_2, g20_5, g20_6, g20_8, g20_11t, g20_11f, g20_14, g20_15, g20_18, g20_20t, g20_20f, g20_23, g20_24, g20_27, g20_28, g20_29, g20_32, g20_33, g20_36, g20_38, g20_39, g20_42, g20_45, g20_48, cont_1, cont_0, w32_o, K0, z1, z2']
    · have syn : ∀ mn H, opn H = o → tpl 1 H → mC true mn (hdK ts) → syR ts true mn H out = cnN ts1 H o1 := fun mn H hH hT hm => by
        rw [sy mn H hH (tpl_le hT (by omega)) hm]
      rcases r2 with ⟨q, fa, sy2⟩ | ⟨ts2, o2, rd2, l3, l4, up2, tc2, sy2⟩
      · exact Or.inl ⟨q, fa, fun mn H hH hT hm => (syn mn H hH hT hm).trans (sy2 H hH hT)⟩
      · exact Or.inr ⟨ts2, o2, rd2, by omega, by omega, up2 _ up, tc2, fun mn H hH hT hm => (syn mn H hH hT hm).trans (sy2 H hH hT)⟩
theorem bthF {ra ta la : Nat} {S : Sh} (hR : RdSh S ra ta la) (o : Nat) (hi : SpF ra la S 21 o) : SpF ra la S 20 o := by
  have ⟨K0, P0, P2, Kt, Lt, ⟨a0, La0, La1, La2, La3, La4, LL1, LL2, LL3, LL4, LP0, LP1, LP2, LP3⟩, ⟨n0, n1, n2⟩, ⟨m0, m1, m2, m3, m4⟩, ⟨t0, t1, t2, t3, t4⟩⟩ := hR
  have k20_o := rkR20 ra ((o : Int))
  have k21_o := rkR21 ra ((o : Int))
  intro M q h
  obtain ⟨M1, z1, f1, fa⟩ := hi M q h
  have h15 := fa.1
  have z2 : go (rk 20 [aR ra, aI (o : Int)]) 20 7 [some (aR ra), some (aI (o : Int)), some (aI 0)] [] M1 S = _ := bthX (n := 0) hR (by omega)
  refine ⟨M1, ?_, f1, fa⟩
  rw [g20]
  simp (disch := omega) only [g20_0, g20_1, g20_2, g20_5, g20_6, g20_8, g20_11t, g20_11f, g20_14, g20_15, g20_18, g20_20t, g20_20f, g20_23, g20_24, g20_27, g20_28, g20_29, g20_32, g20_33, g20_36, g20_38, g20_39, g20_42, g20_45, g20_48, cont_1, cont_0, w32_o, K0, z1, z2]
theorem eitX {ra ta la : Nat} {S : Sh} (hR : RdSh S ra ta la) {o n : Nat} {M : Mem} (e0 : M ra 5 ≠ 7) : go (rk 19 [aR ra, aI (o : Int)]) 19 7 [some (aR ra), some (aI (o : Int)), some (aI (n : Int))] [] M S = some (none, M, S) := by
  have ⟨K0, P0, P2, Kt, Lt, ⟨a0, La0, La1, La2, La3, La4, LL1, LL2, LL3, LL4, LP0, LP1, LP2, LP3⟩, ⟨n0, n1, n2⟩, ⟨m0, m1, m2, m3, m4⟩, ⟨t0, t1, t2, t3, t4⟩⟩ := hR
  rw [g19_7]
  by_cases hn : (n : Int) < 160
  · simp (disch := omega) only [g19_0, g19_1, g19_2, g19_5, g19_6, g19_8, g19_11t, g19_11f, g19_14, g19_15, g19_18, g19_20t, g19_20f, g19_23, g19_24, g19_27, g19_28, g19_29, g19_32, g19_33, g19_36, g19_38, g19_39, g19_42, g19_45, g19_48, cont_1, cont_0, w32_o, K0]
  · simp (disch := omega) only [g19_0, g19_1, g19_2, g19_5, g19_6, g19_8, g19_11t, g19_11f, g19_14, g19_15, g19_18, g19_20t, g19_20f, g19_23, g19_24, g19_27, g19_28, g19_29, g19_32, g19_33, g19_36, g19_38, g19_39, g19_42, g19_45, g19_48, cont_1, cont_0, w32_o, K0]
theorem eitL {ra ta la sz : Nat} {f : Nat → Int} {S : Sh} (hR : RdSh S ra ta la) (hz : sz ≤ 160) {o : Nat} (ho : o ≤ 5) (hi : SpX ra ta la sz f S 20 1 true (fun k => k ≠ 42 ∧ k ≠ 43 ∧ k ≠ 45 ∧ k ≠ 5) cnN o) : ∀ (N : Nat) (M : Mem) (ts : List Tok) (out : List Int) (n : Nat), ts.length ≤ N → RdS ra ta la sz f M ts out → out.length + ts.length ≤ 161 → n + ts.length ≤ 161 → (fun k => k ≠ 42 ∧ k ≠ 43 ∧ k ≠ 45 ∧ k ≠ 5) (hdK ts) → ∃ M', go (rk 19 [aR ra, aI (o : Int)]) 19 7 [some (aR ra), some (aI (o : Int)), some (aI (n : Int))] [] M S = some (none, M', S) ∧ FrL ra la M M' ∧ ((∃ q, FaS ra la M' q ∧ ∀ H, opn H = o → tpl 0 H → cnN ts H out = Sum.inl q) ∨ (∃ ts' out', RdS ra ta la sz f M' ts' out' ∧ ts'.length ≤ ts.length ∧ out'.length + ts'.length ≤ out.length + ts.length ∧ (∀ b, Up b out → Up b out') ∧ (fun k => k ≠ 42 ∧ k ≠ 43 ∧ k ≠ 45 ∧ k ≠ 5 ∧ k ≠ 4) (hdK ts') ∧ ∀ H, opn H = o → tpl 0 H → cnN ts H out = cnN ts' H out')) := by
  have ⟨K0, P0, P2, Kt, Lt, ⟨a0, La0, La1, La2, La3, La4, LL1, LL2, LL3, LL4, LP0, LP1, LP2, LP3⟩, ⟨n0, n1, n2⟩, ⟨m0, m1, m2, m3, m4⟩, ⟨t0, t1, t2, t3, t4⟩⟩ := hR
  have k19_o := rkR19 ra ((o : Int))
  have k20_o := rkR20 ra ((o : Int))
  intro N
  induction N with
  | zero =>
    intro M ts out n hN h
    obtain ⟨t, ts1, rfl⟩ := hdT_pos h.2.2.2.2.2
    rw [List.length_cons] at hN
    omega
  | succ N ih =>
    intro M ts out n hN h hl hn htc
    obtain ⟨t, ts1, rfl⟩ := hdT_pos h.2.2.2.2.2
    have hc := h.2.2.2.2.2.1
    have ets : (t :: ts1).length = ts1.length + 1 := List.length_cons
    rw [ets] at hN hl hn
    have htc' : (fun k => k ≠ 42 ∧ k ≠ 43 ∧ k ≠ 45 ∧ k ≠ 5) t.1 := htc
    by_cases c0 : t.1 = 4
    · have e5 : M ra 5 = 7 := by unfold tkC at hc; omega
      have tp := ts_pos h (by omega)
      clear hc
      obtain ⟨M1, z1, f1, r1⟩ := cadv hR hz h (by omega)
      obtain ⟨M2, z2, f2, r2⟩ := hi M1 ts1 out r1 (by omega)
      have syt : ∀ H, opn H = o → tpl 0 H → cnN (t :: ts1) H out = syR ts1 true true (11 :: H) out := fun H _ hH => by
        rw [cnN_f (by unfold isCm; omega)]
        exact sy_op (l := 0) (c := 11) (by rw [c0]; rfl) (by omega) (by omega) (by omega) (by decide) hH (by decide)
      rcases r2 with ⟨q, fa, sy⟩ | ⟨ts2, o2, rd, l1, l2, up, tc, sy⟩
      · obtain ⟨M3, z3, f3, fa3⟩ := cadd_f (w := 7) (v := 0) hR fa
        have h35 := fa3.1
        have z4 := eitX (o := o) (n := n + 1) (M := M3) hR (by omega)
        rw [nc_1] at z4
        refine ⟨M3, ?_, FrL_t f1 (FrL_t f2 f3), Or.inl ⟨q, fa3, fun H hH hT => ?_⟩⟩
        · rw [g19_7]
          simp (disch := omega) only [g19_0, g19_1, g19_2, g19_5, g19_6, g19_8, g19_11t, g19_11f, g19_14, g19_15, g19_18, g19_20t, g19_20f, g19_23, g19_24, g19_27, g19_28, g19_29, g19_32, g19_33, g19_36, g19_38, g19_39, g19_42, g19_45, g19_48, cont_1, cont_0, w32_o, K0, P2, La0, e5, z1, z2, z3, z4]
        · rw [syt H hH hT]
          exact sy true (11 :: H) (opn_0 (by decide) hH) (by show rkS 11 ≤ _; decide) (mC_t _)
      · obtain ⟨t2, ts3, rfl⟩ := hdT_pos rd.2.2.2.2.2
        have e23 : (t2 :: ts3).length = ts3.length + 1 := List.length_cons
        rw [e23] at l1 l2
        obtain ⟨M3, z3, f3, r3⟩ := cadd (w := 7) (v := 0) hR hz rd (by unfold wOK; omega) (by omega)
        obtain ⟨M4, z4, f4, r4⟩ := ih M3 (t2 :: ts3) (11 :: o2) (n + 1) (by rw [e23]; omega) r3 (by rw [e23, List.length_cons]; omega) (by rw [e23]; omega) tc
        rw [nc_1] at z4
        have syn : ∀ H, opn H = o → tpl 0 H → cnN (t :: ts1) H out = cnN (t2 :: ts3) H (11 :: o2) := fun H hH hT => by
          rw [syt H hH hT, sy true (11 :: H) (opn_0 (by decide) hH) (by show rkS 11 ≤ _; decide) (mC_t _)]
          by_cases hcm : isCm t2.1
          · rw [cnN_t hcm, cnN_t hcm]
          · rw [cnN_f hcm, cnN_f hcm]
            exact sy_U (Nat.le_trans (lvA_1 tc.1 tc.2.1 tc.2.2.1 hcm tc.2.2.2) (by decide))
        refine ⟨M4, ?_, FrL_t f1 (FrL_t f2 (FrL_t f3 f4)), ?_⟩
        · rw [g19_7]
          simp (disch := omega) only [g19_0, g19_1, g19_2, g19_5, g19_6, g19_8, g19_11t, g19_11f, g19_14, g19_15, g19_18, g19_20t, g19_20f, g19_23, g19_24, g19_27, g19_28, g19_29, g19_32, g19_33, g19_36, g19_38, g19_39, g19_42, g19_45, g19_48, cont_1, cont_0, w32_o, K0, P2, La0, e5, z1, z2, z3, z4]
        · rcases r4 with ⟨q, fa, sy4⟩ | ⟨ts4, o4, rd4, l3', l4, up4, tc4, sy4⟩
          · exact Or.inl ⟨q, fa, fun H hH hT => (syn H hH hT).trans (sy4 H hH hT)⟩
          · refine Or.inr ⟨ts4, o4, rd4, by rw [ets]; rw [e23] at l3'; omega, by rw [ets]; rw [e23, List.length_cons] at l4; omega, fun b hb => up4 b (Up_b hb up (by omega)), tc4, fun H hH hT => (syn H hH hT).trans (sy4 H hH hT)⟩
    have e2 : M ra 5 ≠ 7 := by unfold tkC at hc; omega
    refine ⟨M, eitX hR e2, FrL_r M, Or.inr ⟨t :: ts1, out, h, Nat.le_refl _, Nat.le_refl _, fun _ hb => hb, ?_, fun _ _ _ => rfl⟩⟩
    show (fun k => k ≠ 42 ∧ k ≠ 43 ∧ k ≠ 45 ∧ k ≠ 5 ∧ k ≠ 4) t.1
    simp only [] at htc' ⊢
    omega
theorem eit_ {ra ta la sz : Nat} {f : Nat → Int} {S : Sh} (hR : RdSh S ra ta la) (hz : sz ≤ 160) {o : Nat} (ho : o ≤ 5) (hi : SpX ra ta la sz f S 20 1 true (fun k => k ≠ 42 ∧ k ≠ 43 ∧ k ≠ 45 ∧ k ≠ 5) cnN o) : SpX ra ta la sz f S 19 0 true (fun k => k ≠ 42 ∧ k ≠ 43 ∧ k ≠ 45 ∧ k ≠ 5 ∧ k ≠ 4) cnN o := by
  have ⟨K0, P0, P2, Kt, Lt, ⟨a0, La0, La1, La2, La3, La4, LL1, LL2, LL3, LL4, LP0, LP1, LP2, LP3⟩, ⟨n0, n1, n2⟩, ⟨m0, m1, m2, m3, m4⟩, ⟨t0, t1, t2, t3, t4⟩⟩ := hR
  have k19_o := rkR19 ra ((o : Int))
  have k20_o := rkR20 ra ((o : Int))
  intro M ts out h hl
  obtain ⟨M1, z1, f1, r1⟩ := hi M ts out h hl
  rcases r1 with ⟨q, fa, sy⟩ | ⟨ts1, o1, rd, l1, l2, up, tc, sy⟩
  · have h15 := fa.1
    have z2 : go (rk 19 [aR ra, aI (o : Int)]) 19 7 [some (aR ra), some (aI (o : Int)), some (aI 0)] [] M1 S = _ := eitX (n := 0) hR (by omega)
    refine ⟨M1, ?_, f1, Or.inl ⟨q, fa, fun mn H hH hT hm => sy mn H hH (tpl_le hT (by omega)) hm⟩⟩
    rw [g19]
    simp (disch := omega) only [g19_0, g19_1, g19_2, g19_5, g19_6, g19_8, g19_11t, g19_11f, g19_14, g19_15, g19_18, g19_20t, g19_20f, g19_23, g19_24, g19_27, g19_28, g19_29, g19_32, g19_33, g19_36, g19_38, g19_39, g19_42, g19_45, g19_48, cont_1, cont_0, w32_o, K0, z1, z2]
  · obtain ⟨M2, z2, f2, r2⟩ := eitL hR hz ho hi ts1.length M1 ts1 o1 0 (Nat.le_refl _) rd (by omega) (by omega) tc
    have z2' : go (rk 19 [aR ra, aI (o : Int)]) 19 7 [some (aR ra), some (aI (o : Int)), some (aI 0)] [] M1 S = _ := z2
    refine ⟨M2, ?_, FrL_t f1 f2, ?_⟩
    · rw [g19]
      simp (disch := omega) only [g19_0, g19_1, g19_2, g19_5, g19_6, g19_8, g19_11t, g19_11f, g19_14, g19_15, g19_18, g19_20t, g19_20f, g19_23, g19_24, g19_27, g19_28, g19_29, g19_32, g19_33, g19_36, g19_38, g19_39, g19_42, g19_45, g19_48, cont_1, cont_0, w32_o, K0, z1, z2']
    · have syn : ∀ mn H, opn H = o → tpl 0 H → mC true mn (hdK ts) → syR ts true mn H out = cnN ts1 H o1 := fun mn H hH hT hm => by
        rw [sy mn H hH (tpl_le hT (by omega)) hm]
      rcases r2 with ⟨q, fa, sy2⟩ | ⟨ts2, o2, rd2, l3, l4, up2, tc2, sy2⟩
      · exact Or.inl ⟨q, fa, fun mn H hH hT hm => (syn mn H hH hT hm).trans (sy2 H hH hT)⟩
      · exact Or.inr ⟨ts2, o2, rd2, by omega, by omega, up2 _ up, tc2, fun mn H hH hT hm => (syn mn H hH hT hm).trans (sy2 H hH hT)⟩
theorem eitF {ra ta la : Nat} {S : Sh} (hR : RdSh S ra ta la) (o : Nat) (hi : SpF ra la S 20 o) : SpF ra la S 19 o := by
  have ⟨K0, P0, P2, Kt, Lt, ⟨a0, La0, La1, La2, La3, La4, LL1, LL2, LL3, LL4, LP0, LP1, LP2, LP3⟩, ⟨n0, n1, n2⟩, ⟨m0, m1, m2, m3, m4⟩, ⟨t0, t1, t2, t3, t4⟩⟩ := hR
  have k19_o := rkR19 ra ((o : Int))
  have k20_o := rkR20 ra ((o : Int))
  intro M q h
  obtain ⟨M1, z1, f1, fa⟩ := hi M q h
  have h15 := fa.1
  have z2 : go (rk 19 [aR ra, aI (o : Int)]) 19 7 [some (aR ra), some (aI (o : Int)), some (aI 0)] [] M1 S = _ := eitX (n := 0) hR (by omega)
  refine ⟨M1, ?_, f1, fa⟩
  rw [g19]
  simp (disch := omega) only [g19_0, g19_1, g19_2, g19_5, g19_6, g19_8, g19_11t, g19_11f, g19_14, g19_15, g19_18, g19_20t, g19_20f, g19_23, g19_24, g19_27, g19_28, g19_29, g19_32, g19_33, g19_36, g19_38, g19_39, g19_42, g19_45, g19_48, cont_1, cont_0, w32_o, K0, z1, z2]
theorem rd_all {ra ta la sz : Nat} {f : Nat → Int} {S : Sh} (hR : RdSh S ra ta la) (hz : sz ≤ 160) : ∀ (d o : Nat), o + d = 5 → (SpX ra ta la sz f S 24 7 false (fun _ => True) cn7 o) ∧ (SpX ra ta la sz f S 21 3 true (fun k => k ≠ 42 ∧ k ≠ 43 ∧ k ≠ 45) cnN o) ∧ (SpX ra ta la sz f S 19 0 true (fun k => k ≠ 42 ∧ k ≠ 43 ∧ k ≠ 45 ∧ k ≠ 5 ∧ k ≠ 4) cnN o) := by
  intro d
  induction d with
  | zero =>
    intro o h
    have a1 := one_ (f := f) hR hz (o := o) (by omega) (fun z => absurd z (by omega)) (fun z => absurd z (by omega))
    have a2 := sum_ hR hz (by omega) (trm_ hR hz (by omega) a1)
    have a3 := not_ hR hz (by omega) a2 (fun z => absurd z (by omega))
    exact ⟨a1, a3, eit_ hR hz (by omega) (bth_ hR hz (by omega) a3)⟩
  | succ d ih =>
    intro o h
    obtain ⟨b1, b2, b3⟩ := ih (o + 1) (by omega)
    have a1 := one_ (f := f) hR hz (o := o) (by omega) (fun _ => b1) (fun _ => b3)
    have a2 := sum_ hR hz (by omega) (trm_ hR hz (by omega) a1)
    have a3 := not_ hR hz (by omega) a2 (fun _ => b2)
    exact ⟨a1, a3, eit_ hR hz (by omega) (bth_ hR hz (by omega) a3)⟩
theorem eitFF {ra ta la : Nat} {S : Sh} (hR : RdSh S ra ta la) (o : Nat) : SpF ra la S 19 o := eitF hR o (bthF hR o (notF hR o (sumF hR o (trmF hR o (oneF hR o)))))
