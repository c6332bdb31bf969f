/-! the class's constructor -/
theorem c33_7 {n : Nat} {M : Mem} (hz : ∀ a, 8 ≤ a → M a = fun _ => 0) : res 33 [aR 7] M (sS n 8 0 26) = some (none, mset (mset M 7 12 10) 7 13 (-1), (sS n 17 9 454)) := by
  have y1 : (sS n 17 9 454).1 7 = 3 := rfl
  rw [g33]
  simp (disch := first | exact hz _ (by omega) | omega | (simp (disch := omega) only [mset_ne]; exact hz _ (by omega))) only [g33_0, g33_1, g33_4, g33_5, g33_13, g33_14, g33_22, g33_23, g33_30, g33_31, g33_38, g33_39, g33_45, g33_46, g33_52, g33_53, g33_59, g33_60, g33_66, g33_67, g33_73, g33_74, g33_76, g33_79, g33_80, g33_81, g33_84, x33_8_8000 n, x33_10_9000 n, x33_17_9001 n, x33_19_10001 n, x33_25_10002 n, x33_27_11002 n, x33_33_11003 n, x33_35_12003 n, x33_40_12004 n, x33_42_13004 n, x33_47_13005 n, x33_49_14005 n, x33_54_14006 n, x33_56_15006 n, x33_61_15007 n, x33_63_16007 n, x33_68_16008 n, x33_70_17008 n, cont_1, cont_0, w32_o]
theorem c33_17 {n : Nat} {M : Mem} (hz : ∀ a, 18 ≤ a → M a = fun _ => 0) : res 33 [aR 17] M (sS n 18 10 469) = some (none, mset (mset M 17 12 10) 17 13 (-1), (sS n 27 19 897)) := by
  have y1 : (sS n 27 19 897).1 17 = 3 := rfl
  rw [g33]
  simp (disch := first | exact hz _ (by omega) | omega | (simp (disch := omega) only [mset_ne]; exact hz _ (by omega))) only [g33_0, g33_1, g33_4, g33_5, g33_13, g33_14, g33_22, g33_23, g33_30, g33_31, g33_38, g33_39, g33_45, g33_46, g33_52, g33_53, g33_59, g33_60, g33_66, g33_67, g33_73, g33_74, g33_76, g33_79, g33_80, g33_81, g33_84, x33_8_18010 n, x33_10_19010 n, x33_17_19011 n, x33_19_20011 n, x33_25_20012 n, x33_27_21012 n, x33_33_21013 n, x33_35_22013 n, x33_40_22014 n, x33_42_23014 n, x33_47_23015 n, x33_49_24015 n, x33_54_24016 n, x33_56_25016 n, x33_61_25017 n, x33_63_26017 n, x33_68_26018 n, x33_70_27018 n, cont_1, cont_0, w32_o]
theorem c33_27 {n : Nat} {M : Mem} (hz : ∀ a, 28 ≤ a → M a = fun _ => 0) : res 33 [aR 27] M (sS n 28 20 912) = some (none, mset (mset M 27 12 10) 27 13 (-1), (sS n 37 29 1340)) := by
  have y1 : (sS n 37 29 1340).1 27 = 3 := rfl
  rw [g33]
  simp (disch := first | exact hz _ (by omega) | omega | (simp (disch := omega) only [mset_ne]; exact hz _ (by omega))) only [g33_0, g33_1, g33_4, g33_5, g33_13, g33_14, g33_22, g33_23, g33_30, g33_31, g33_38, g33_39, g33_45, g33_46, g33_52, g33_53, g33_59, g33_60, g33_66, g33_67, g33_73, g33_74, g33_76, g33_79, g33_80, g33_81, g33_84, x33_8_28020 n, x33_10_29020 n, x33_17_29021 n, x33_19_30021 n, x33_25_30022 n, x33_27_31022 n, x33_33_31023 n, x33_35_32023 n, x33_40_32024 n, x33_42_33024 n, x33_47_33025 n, x33_49_34025 n, x33_54_34026 n, x33_56_35026 n, x33_61_35027 n, x33_63_36027 n, x33_68_36028 n, x33_70_37028 n, cont_1, cont_0, w32_o]
theorem c1_40 {n : Nat} {M : Mem} (hz : ∀ a, 41 ≤ a → M a = fun _ => 0) : res 1 [aR 40] M (sS n 41 33 1518) = some (none, M, (sS n 43 35 1716)) := by
  have y1 : (sS n 43 35 1716).1 40 = 0 := rfl
  rw [g1]
  simp (disch := first | exact hz _ (by omega) | omega | (simp (disch := omega) only [mset_ne]; exact hz _ (by omega))) only [g1_0, g1_1, g1_4, g1_5, g1_13, g1_14, g1_21, x1_8_41033 n, x1_10_42033 n, x1_16_42034 n, x1_18_43034 n, cont_1, cont_0, w32_o]
theorem c9_45 {n : Nat} {M : Mem} (hz : ∀ a, 46 ≤ a → M a = fun _ => 0) : res 9 [aR 45] M (sS n 46 37 1887) = some (none, M, (sS n 50 41 2371)) := by
  have y1 : (sS n 50 41 2371).1 45 = 1 := rfl
  rw [g9]
  simp (disch := first | exact hz _ (by omega) | omega | (simp (disch := omega) only [mset_ne]; exact hz _ (by omega))) only [g9_0, g9_1, g9_4, g9_5, g9_13, g9_14, g9_22, g9_23, g9_29, g9_30, g9_38, x9_8_46037 n, x9_10_47037 n, x9_17_47038 n, x9_19_48038 n, x9_24_48039 n, x9_26_49039 n, x9_33_49040 n, x9_35_50040 n, cont_1, cont_0, w32_o]
theorem c9_51 {n : Nat} {M : Mem} (hz : ∀ a, 52 ≤ a → M a = fun _ => 0) : res 9 [aR 51] M (sS n 52 44 2384) = some (none, M, (sS n 56 48 2868)) := by
  have y1 : (sS n 56 48 2868).1 51 = 1 := rfl
  rw [g9]
  simp (disch := first | exact hz _ (by omega) | omega | (simp (disch := omega) only [mset_ne]; exact hz _ (by omega))) only [g9_0, g9_1, g9_4, g9_5, g9_13, g9_14, g9_22, g9_23, g9_29, g9_30, g9_38, x9_8_52044 n, x9_10_53044 n, x9_17_53045 n, x9_19_54045 n, x9_24_54046 n, x9_26_55046 n, x9_33_55047 n, x9_35_56047 n, cont_1, cont_0, w32_o]
theorem c9_56 {n : Nat} {M : Mem} (hz : ∀ a, 57 ≤ a → M a = fun _ => 0) : res 9 [aR 56] M (sS n 57 49 2873) = some (none, M, (sS n 61 53 3357)) := by
  have y1 : (sS n 61 53 3357).1 56 = 1 := rfl
  rw [g9]
  simp (disch := first | exact hz _ (by omega) | omega | (simp (disch := omega) only [mset_ne]; exact hz _ (by omega))) only [g9_0, g9_1, g9_4, g9_5, g9_13, g9_14, g9_22, g9_23, g9_29, g9_30, g9_38, x9_8_57049 n, x9_10_58049 n, x9_17_58050 n, x9_19_59050 n, x9_24_59051 n, x9_26_60051 n, x9_33_60052 n, x9_35_61052 n, cont_1, cont_0, w32_o]
theorem c9_61 {n : Nat} {M : Mem} (hz : ∀ a, 62 ≤ a → M a = fun _ => 0) : res 9 [aR 61] M (sS n 62 54 3362) = some (none, M, (sS n 66 58 3846)) := by
  have y1 : (sS n 66 58 3846).1 61 = 1 := rfl
  rw [g9]
  simp (disch := first | exact hz _ (by omega) | omega | (simp (disch := omega) only [mset_ne]; exact hz _ (by omega))) only [g9_0, g9_1, g9_4, g9_5, g9_13, g9_14, g9_22, g9_23, g9_29, g9_30, g9_38, x9_8_62054 n, x9_10_63054 n, x9_17_63055 n, x9_19_64055 n, x9_24_64056 n, x9_26_65056 n, x9_33_65057 n, x9_35_66057 n, cont_1, cont_0, w32_o]
theorem c9_66 {n : Nat} {M : Mem} (hz : ∀ a, 67 ≤ a → M a = fun _ => 0) : res 9 [aR 66] M (sS n 67 59 3851) = some (none, M, (sS n 71 63 4335)) := by
  have y1 : (sS n 71 63 4335).1 66 = 1 := rfl
  rw [g9]
  simp (disch := first | exact hz _ (by omega) | omega | (simp (disch := omega) only [mset_ne]; exact hz _ (by omega))) only [g9_0, g9_1, g9_4, g9_5, g9_13, g9_14, g9_22, g9_23, g9_29, g9_30, g9_38, x9_8_67059 n, x9_10_68059 n, x9_17_68060 n, x9_19_69060 n, x9_24_69061 n, x9_26_70061 n, x9_33_70062 n, x9_35_71062 n, cont_1, cont_0, w32_o]
theorem c9_71 {n : Nat} {M : Mem} (hz : ∀ a, 72 ≤ a → M a = fun _ => 0) : res 9 [aR 71] M (sS n 72 64 4340) = some (none, M, (sS n 76 68 4824)) := by
  have y1 : (sS n 76 68 4824).1 71 = 1 := rfl
  rw [g9]
  simp (disch := first | exact hz _ (by omega) | omega | (simp (disch := omega) only [mset_ne]; exact hz _ (by omega))) only [g9_0, g9_1, g9_4, g9_5, g9_13, g9_14, g9_22, g9_23, g9_29, g9_30, g9_38, x9_8_72064 n, x9_10_73064 n, x9_17_73065 n, x9_19_74065 n, x9_24_74066 n, x9_26_75066 n, x9_33_75067 n, x9_35_76067 n, cont_1, cont_0, w32_o]
theorem c39_76 {n : Nat} {M : Mem} (hz : ∀ a, 77 ≤ a → M a = fun _ => 0) : res 39 [aR 76] M (sS n 77 69 4827) = some (none, mset M 76 1 (-1), (sS n 78 70 4867)) := by
  have y1 : (sS n 78 70 4867).1 76 = 4 := rfl
  rw [g39]
  simp (disch := first | exact hz _ (by omega) | omega | (simp (disch := omega) only [mset_ne]; exact hz _ (by omega))) only [g39_0, g39_1, g39_4, g39_5, g39_12, g39_13, g39_14, g39_17, x39_7_77069 n, x39_9_78069 n, cont_1, cont_0, w32_o]
theorem c39_78 {n : Nat} {M : Mem} (hz : ∀ a, 79 ≤ a → M a = fun _ => 0) : res 39 [aR 78] M (sS n 79 71 4870) = some (none, mset M 78 1 (-1), (sS n 80 72 4910)) := by
  have y1 : (sS n 80 72 4910).1 78 = 4 := rfl
  rw [g39]
  simp (disch := first | exact hz _ (by omega) | omega | (simp (disch := omega) only [mset_ne]; exact hz _ (by omega))) only [g39_0, g39_1, g39_4, g39_5, g39_12, g39_13, g39_14, g39_17, x39_7_79071 n, x39_9_80071 n, cont_1, cont_0, w32_o]
theorem c39_80 {n : Nat} {M : Mem} (hz : ∀ a, 81 ≤ a → M a = fun _ => 0) : res 39 [aR 80] M (sS n 81 73 4913) = some (none, mset M 80 1 (-1), (sS n 82 74 4953)) := by
  have y1 : (sS n 82 74 4953).1 80 = 4 := rfl
  rw [g39]
  simp (disch := first | exact hz _ (by omega) | omega | (simp (disch := omega) only [mset_ne]; exact hz _ (by omega))) only [g39_0, g39_1, g39_4, g39_5, g39_12, g39_13, g39_14, g39_17, x39_7_81073 n, x39_9_82073 n, cont_1, cont_0, w32_o]
theorem c39_82 {n : Nat} {M : Mem} (hz : ∀ a, 83 ≤ a → M a = fun _ => 0) : res 39 [aR 82] M (sS n 83 75 4956) = some (none, mset M 82 1 (-1), (sS n 84 76 4996)) := by
  have y1 : (sS n 84 76 4996).1 82 = 4 := rfl
  rw [g39]
  simp (disch := first | exact hz _ (by omega) | omega | (simp (disch := omega) only [mset_ne]; exact hz _ (by omega))) only [g39_0, g39_1, g39_4, g39_5, g39_12, g39_13, g39_14, g39_17, x39_7_83075 n, x39_9_84075 n, cont_1, cont_0, w32_o]
def sT (k : Nat) : Int := (am_str 3).getD k 0
theorem am3_get : ∀ k, k < 40 → (am_str 3)[k]? = some (sT k) := by decide +kernel
theorem am3_len : (((am_str 3).length : Nat) : Int) = 40 := by decide +kernel
def ts0 : List Tok := [(3, 0, 0), (1, 3, 5), (45, 0, 7), (2, 0, 9), (59, 0, 14), (3, 1, 16), (2, 1, 23), (59, 0, 28), (3, 2, 30), (1, 0, 37), (59, 0, 39), (0, 0, 40)]
def LxB (f : Nat → Int) (sz : Nat) : List Tok → Nat → Bool
  | [], _ => false
  | t :: ts, p => decide (t = tkA f sz p) && (if t.1 = 0 ∨ t.1 = -1 then ts.isEmpty else LxB f sz ts (tkE f sz p))
theorem LxB_t {f : Nat → Int} {sz : Nat} : ∀ (ts : List Tok) (p : Nat), LxB f sz ts p = true → Lx f sz ts p := by
  intro ts
  induction ts with
  | nil => intro p h; cases h
  | cons t ts ih =>
    intro p h
    have q := Bool.and_eq_true_iff.mp h
    refine ⟨of_decide_eq_true q.1, fun z => ?_, fun z => ?_⟩
    · have q2 := q.2
      rw [if_pos z] at q2
      exact List.isEmpty_iff.mp q2
    · have q2 := q.2
      rw [if_neg z] at q2
      exact ih _ q2
theorem lx0 : Lx sT 40 ts0 0 := LxB_t ts0 0 (by decide +kernel)
theorem tx0 : txR ts0 = Sum.inr ([17, 0, 100003], [1, 17, 0, 100003], [100000, 1, 17, 0, 100003]) := by decide +kernel
theorem g44_30c (r : Nat) (l0 l1 l2 : Option AV) (s0 s1 : AV) (x : Int) (M : Mem) (S : Sh) (h0 : 0 ≤ x) (h1 : x < 40) : go r 44 30 [l0, l1, l2] [aI x, aR 3, s0, s1] M S = go r 44 33 [l0, l1, l2] [aI (sT x.toNat), s0, s1] M S := g44_30 r l0 l1 l2 s0 s1 x (sT x.toNat) 3 M S (am3_get x.toNat (by omega)) h0
theorem fl_in {n r : Nat} {M : Mem} (hr : 10 < r) : ∀ (rem k : Nat), k + rem = 40 → go r 44 20 [some (aR 44), some (aI 40), some (aI (k : Int))] [] (mrow M 44 (rpre k sT (fun _ => 0))) (sS n 45 37 1882) = go r 44 42 [some (aR 44), some (aI 40), some (aI 40)] [] (mrow M 44 (rpre 40 sT (fun _ => 0))) (sS n 45 37 1882) := by
  intro rem
  induction rem with
  | zero =>
    intro k hk
    have e : k = 40 := by omega
    subst e
    rw [g44_20]
    simp (disch := omega) only [g44_21, g44_22t, g44_22f, g44_25, g44_25n, g44_26, g44_27, g44_29, g44_33, g44_36, g44_39, cont_1, cont_0, w32_o]
    all_goals rfl
  | succ rem ih =>
    intro k hk
    have z := ih (k + 1) (by omega)
    rw [nc_1] at z
    rw [← z, ← rpre_s (v := sT k) rfl, g44_20]
    have k44 : ((sS n 45 37 1882)).1 44 = 7 := rfl
    have l44 : ((sS n 45 37 1882)).2.1 44 = 160 := rfl
    simp (disch := omega) only [g44_21, g44_22t, g44_22f, g44_25, g44_25n, g44_26, g44_27, g44_29, g44_33, g44_36, g44_39, cont_1, cont_0, w32_o, g44_30c, put_in, mset_mrow, Int.toNat_natCast]
theorem flaw {n : Nat} {M : Mem} (hz : ∀ a, 44 ≤ a → M a = fun _ => 0) : ∃ M', res 44 [] M (sS n 44 37 1722) = some (some (aR 45), M', (sS n 51 43 2379)) ∧ (∀ a, a < 44 → M' a = M a) ∧ (∀ a, 51 ≤ a → M' a = fun _ => 0) ∧ lawP 45 M' [100000, 1, 17, 0, 100003] ∧ M' 48 0 = 0 ∧ M' 48 1 = 3 ∧ M' 48 2 = 4 ∧ M' 48 3 = 5 := by
  obtain ⟨M1, hM1⟩ : ∃ M1, M1 = mrow M 44 (rpre 40 sT (fun _ => 0)) := ⟨_, rfl⟩
  have m1 : ∀ a, a ≠ 44 → M1 a = M a := fun a ha => by rw [hM1, mrow_ne _ _ ha]
  have m44 : M1 44 = rpre 40 sT (fun _ => 0) := by rw [hM1, mrow_eq]
  have zl := fl_in (n := n) (r := 69) (M := M) (by omega) 40 0 (by omega)
  rw [← hM1, rpre_0, mr0 (hz 44 (by omega))] at zl
  have zl' : go 69 44 20 [some (aR 44), some (aI 40), some (aI 0)] [] M (sS n 45 37 1882) = _ := zl
  clear hM1
  have hz1 : ∀ a, 45 ≤ a → M1 a = fun _ => 0 := fun a ha => by rw [m1 a (by omega)]; exact hz a (by omega)
  have zi := rinit_ (N := 50) (la := 45) (ta := 44) (sz := 40) (M := M1) (S := (sS n 51 41 2379)) rfl
  rw [mr0 (hz1 50 (by omega))] at zi
  have es : (((sS n 51 41 2379)).1, ((sS n 51 41 2379)).2.1, pset (pset ((sS n 51 41 2379)).2.2.1 50 0 (some 44)) 50 2 (some 45), ((sS n 51 41 2379)).2.2.2) = (sS n 51 43 2379) := rfl
  rw [es] at zi
  obtain ⟨M2, hM2⟩ : ∃ M2, M2 = mrow M1 50 (fset (fset (fun _ => 0) 7 (-1)) 1 40) := ⟨_, rfl⟩
  rw [← hM2] at zi
  have m2 : ∀ a, a ≠ 50 → M2 a = M1 a := fun a ha => by rw [hM2, mrow_ne _ _ ha]
  have m50 : M2 50 = fset (fset (fun _ => 0) 7 (-1)) 1 40 := by rw [hM2, mrow_eq]
  clear hM2
  have hR : RdSh (sS n 51 43 2379) 50 44 45 := ⟨rfl, rfl, rfl, rfl, rfl, ⟨by omega, rfl, rfl, rfl, rfl, rfl, rfl, rfl, rfl, rfl, rfl, rfl, rfl, rfl⟩, by omega, by omega, by omega⟩
  obtain ⟨M3, v, zr, fr, hr⟩ := read_ (f := sT) (sz := 40) (ts := ts0) (M := M2) hR (by omega) (fun k hk => by rw [m2 44 (by omega), m44, rpre_lt hk]) (by rw [m50, fset_eq]; rfl) (by rw [m50]; rfl) (by rw [m50]; rfl) lx0 (by decide)
  rw [tx0] at hr
  rcases hr with ⟨_, hv⟩ | ⟨v1, o1, o2, o3, hv, hlp, b1, b2, b3, _⟩
  · cases hv
  · cases hv
    refine ⟨M3, ?_, fun a ha => ?_, fun a ha => ?_, hlp, ?_, b1, b2, b3⟩
    · have hz0 := hz
      have y1 : (sS n 46 37 1887).1 45 = 1 := rfl
      have y2 : (sS n 51 41 2379).1 45 = 1 := rfl
      have y3 : (sS n 51 41 2379).1 50 = 2 := rfl
      have y4 : (sS n 51 43 2379).1 45 = 1 := rfl
      have y5 : (sS n 51 43 2379).1 50 = 2 := rfl
      have hzA : ∀ a, 45 ≤ a → M1 a = fun _ => 0 := hz1
      rw [g44]
      simp (disch := first | exact hz _ (by omega) | omega) only [g44_0, g44_5, g44_5n, g44_6, g44_8, g44_11, g44_14, g44_17, g44_18, g44_19, x44_3_44037 n, x44_42_45037 n, x44_50_50041 n, cont_1, cont_0, w32_o, am3_len]
      rw [show (if (160 : Int) < 40 then (160 : Int) else 40) = 40 from rfl, zl']
      clear hz hz0
      have hz := hzA
      simp (disch := first | exact hz _ (by omega) | exact fun a ha => hz a (by omega) | omega | (simp (disch := omega) only [mset_ne]; exact hz _ (by omega)) | (intro a ha; simp (disch := omega) only [mset_ne]; exact hz _ (by omega))) only [g44_0, g44_5, g44_5n, g44_6, g44_8, g44_11, g44_14, g44_17, g44_18, g44_19, g44_21, g44_22t, g44_22f, g44_25, g44_25n, g44_26, g44_27, g44_29, g44_33, g44_36, g44_39, g44_45, g44_46, g44_49, g44_49n, g44_53, g44_54, g44_54n, g44_55, g44_56, g44_56n, g44_57, g44_60, g44_63, g44_64, g44_64n, g44_65, g44_65n, x44_3_44037 n, x44_42_45037 n, x44_50_50041 n, cont_1, cont_0, w32_o, c9_45, zi, zr]
    · rw [fr.1 a (by omega) (by omega) (by omega) (by omega) (by omega), m2 a (by omega), m1 a (by omega)]
    · rw [fr.1 a (by omega) (by omega) (by omega) (by omega) (by omega), m2 a (by omega)]
      exact hz1 a (by omega)
    · rw [fr.2.2, m2 (45 + 3) (by omega), hz1 (45 + 3) (by omega)]
theorem k_1 {n : Nat} {M : Mem} (hz : ∀ a, 7 ≤ a → M a = fun _ => 0) : res 43 [aR 6] M (sS n 7 0 11) = go 70 43 84 [some (aR 6), some (aI 0)] [] (mset (mset (mset (mset (mset (mset M 7 12 10) 7 13 (-1)) 17 12 10) 17 13 (-1)) 27 12 10) 27 13 (-1)) (sS n 44 37 1722) := by
  have y1 : (sS n 8 0 26).1 7 = 3 := rfl
  have y2 : (sS n 18 10 469).1 7 = 3 := rfl
  have y3 : (sS n 18 10 469).1 17 = 3 := rfl
  have y4 : (sS n 28 20 912).1 7 = 3 := rfl
  have y5 : (sS n 28 20 912).1 17 = 3 := rfl
  have y6 : (sS n 28 20 912).1 27 = 3 := rfl
  have y7 : (sS n 41 33 1518).1 7 = 3 := rfl
  have y8 : (sS n 41 33 1518).1 17 = 3 := rfl
  have y9 : (sS n 41 33 1518).1 27 = 3 := rfl
  have y10 : (sS n 41 33 1518).1 40 = 0 := rfl
  rw [g43]
  simp (disch := first | exact hz _ (by omega) | exact fun a ha => hz a (by omega) | omega | (simp (disch := omega) only [mset_ne]; exact hz _ (by omega)) | (intro a ha; simp (disch := omega) only [mset_ne]; exact hz _ (by omega))) only [g43_0, g43_1, g43_4, g43_8, g43_9, g43_15, g43_19, g43_20, g43_26, g43_30, g43_31, g43_37, g43_38, g43_46, g43_47, g43_55, g43_56, g43_63, g43_67, g43_68, g43_74, g43_75, g43_82, g43_83, g43_85, g43_86, g43_89, g43_90t, g43_90f, g43_93, g43_94, g43_97, g43_98, g43_99t, g43_99f, g43_102, g43_105, g43_108, g43_111, g43_112, g43_115, g43_116, g43_119, g43_122, g43_123, g43_124, g43_127, g43_128, g43_130, g43_131, g43_134, g43_135t, g43_135f, g43_138, g43_139, g43_142, g43_143, g43_146, g43_147, g43_150, g43_151, g43_154, g43_157, x43_5_7000 n, x43_12_17009 n, x43_16_17010 n, x43_23_27019 n, x43_27_27020 n, x43_34_37029 n, x43_40_37030 n, x43_43_38030 n, x43_50_38031 n, x43_52_39031 n, x43_57_39032 n, x43_60_40032 n, x43_64_40033 n, x43_71_43035 n, x43_77_43036 n, x43_79_44036 n, cont_1, cont_0, w32_o, c33_7, c33_17, c33_27, c1_40]
theorem k_l0 {n : Nat} {M M' : Mem} (h : res 44 [] M (sS n 44 37 1722) = some (some (aR 45), M', (sS n 51 43 2379))) : go 70 43 84 [some (aR 6), some (aI 0)] [] M (sS n 44 37 1722) = go 70 43 84 [some (aR 6), some (aI 1)] [] M' (sS n 51 44 2379) := by
  have p64 : ((sS n 44 37 1722)).2.2.1 6 4 = some 37 := rfl
  have l37 : ((sS n 44 37 1722)).2.1 37 = 6 := rfl
  have y1 : (sS n 44 37 1722).1 6 = 5 := rfl
  have y2 : (sS n 44 37 1722).1 37 = 8 := rfl
  rw [g43_84]
  simp (disch := omega) only [g43_0, g43_1, g43_4, g43_5, g43_8, g43_9, g43_12, g43_15, g43_16, g43_19, g43_20, g43_23, g43_26, g43_27, g43_30, g43_31, g43_34, g43_37, g43_38, g43_40, g43_43, g43_46, g43_47, g43_50, g43_52, g43_55, g43_56, g43_57, g43_60, g43_63, g43_64, g43_67, g43_68, g43_71, g43_74, g43_75, g43_77, g43_79, g43_82, g43_83, g43_85, g43_86, g43_89, g43_90t, g43_90f, g43_93, g43_94, g43_97, g43_98, g43_99t, g43_99f, g43_102, g43_105, g43_108, g43_111, g43_112, g43_116, g43_119, g43_122, g43_123, g43_124, g43_127, g43_128, g43_130, g43_131, g43_134, g43_135t, g43_135f, g43_138, g43_139, g43_142, g43_143, g43_146, g43_147, g43_150, g43_151, g43_154, g43_157, x43_115_51043 n, cont_1, cont_0, w32_o, p64, l37, h]
  all_goals rfl
theorem k_l1 {n : Nat} {M : Mem} (hz : ∀ a, 51 ≤ a → M a = fun _ => 0) : go 70 43 84 [some (aR 6), some (aI 1)] [] M (sS n 51 44 2379) = go 70 43 84 [some (aR 6), some (aI 2)] [] M (sS n 56 49 2868) := by
  have p64 : ((sS n 51 44 2379)).2.2.1 6 4 = some 37 := rfl
  have l37 : ((sS n 51 44 2379)).2.1 37 = 6 := rfl
  have y1 : (sS n 51 44 2379).1 6 = 5 := rfl
  have y2 : (sS n 51 44 2379).1 37 = 8 := rfl
  have y3 : (sS n 52 44 2384).1 6 = 5 := rfl
  have y4 : (sS n 52 44 2384).1 37 = 8 := rfl
  have y5 : (sS n 52 44 2384).1 51 = 1 := rfl
  rw [g43_84]
  simp (disch := first | exact hz _ (by omega) | exact fun a ha => hz a (by omega) | omega | (simp (disch := omega) only [mset_ne]; exact hz _ (by omega)) | (intro a ha; simp (disch := omega) only [mset_ne]; exact hz _ (by omega))) only [g43_0, g43_1, g43_4, g43_5, g43_8, g43_9, g43_12, g43_15, g43_16, g43_19, g43_20, g43_23, g43_26, g43_27, g43_30, g43_31, g43_34, g43_37, g43_38, g43_40, g43_43, g43_46, g43_47, g43_50, g43_52, g43_55, g43_56, g43_57, g43_60, g43_63, g43_64, g43_67, g43_68, g43_71, g43_74, g43_75, g43_77, g43_79, g43_82, g43_83, g43_85, g43_86, g43_89, g43_90t, g43_90f, g43_93, g43_94, g43_97, g43_98, g43_99t, g43_99f, g43_102, g43_105, g43_111, g43_112, g43_116, g43_119, g43_122, g43_123, g43_124, g43_127, g43_128, g43_130, g43_131, g43_134, g43_135t, g43_135f, g43_138, g43_139, g43_142, g43_143, g43_146, g43_147, g43_150, g43_151, g43_154, g43_157, x43_108_51044 n, x43_115_56048 n, cont_1, cont_0, w32_o, p64, l37, c9_51]
  all_goals rfl
theorem k_l2 {n : Nat} {M : Mem} (hz : ∀ a, 56 ≤ a → M a = fun _ => 0) : go 70 43 84 [some (aR 6), some (aI 2)] [] M (sS n 56 49 2868) = go 70 43 84 [some (aR 6), some (aI 3)] [] M (sS n 61 54 3357) := by
  have p64 : ((sS n 56 49 2868)).2.2.1 6 4 = some 37 := rfl
  have l37 : ((sS n 56 49 2868)).2.1 37 = 6 := rfl
  have y1 : (sS n 56 49 2868).1 6 = 5 := rfl
  have y2 : (sS n 56 49 2868).1 37 = 8 := rfl
  have y3 : (sS n 57 49 2873).1 6 = 5 := rfl
  have y4 : (sS n 57 49 2873).1 37 = 8 := rfl
  have y5 : (sS n 57 49 2873).1 56 = 1 := rfl
  rw [g43_84]
  simp (disch := first | exact hz _ (by omega) | exact fun a ha => hz a (by omega) | omega | (simp (disch := omega) only [mset_ne]; exact hz _ (by omega)) | (intro a ha; simp (disch := omega) only [mset_ne]; exact hz _ (by omega))) only [g43_0, g43_1, g43_4, g43_5, g43_8, g43_9, g43_12, g43_15, g43_16, g43_19, g43_20, g43_23, g43_26, g43_27, g43_30, g43_31, g43_34, g43_37, g43_38, g43_40, g43_43, g43_46, g43_47, g43_50, g43_52, g43_55, g43_56, g43_57, g43_60, g43_63, g43_64, g43_67, g43_68, g43_71, g43_74, g43_75, g43_77, g43_79, g43_82, g43_83, g43_85, g43_86, g43_89, g43_90t, g43_90f, g43_93, g43_94, g43_97, g43_98, g43_99t, g43_99f, g43_102, g43_105, g43_111, g43_112, g43_116, g43_119, g43_122, g43_123, g43_124, g43_127, g43_128, g43_130, g43_131, g43_134, g43_135t, g43_135f, g43_138, g43_139, g43_142, g43_143, g43_146, g43_147, g43_150, g43_151, g43_154, g43_157, x43_108_56049 n, x43_115_61053 n, cont_1, cont_0, w32_o, p64, l37, c9_56]
  all_goals rfl
theorem k_l3 {n : Nat} {M : Mem} (hz : ∀ a, 61 ≤ a → M a = fun _ => 0) : go 70 43 84 [some (aR 6), some (aI 3)] [] M (sS n 61 54 3357) = go 70 43 84 [some (aR 6), some (aI 4)] [] M (sS n 66 59 3846) := by
  have p64 : ((sS n 61 54 3357)).2.2.1 6 4 = some 37 := rfl
  have l37 : ((sS n 61 54 3357)).2.1 37 = 6 := rfl
  have y1 : (sS n 61 54 3357).1 6 = 5 := rfl
  have y2 : (sS n 61 54 3357).1 37 = 8 := rfl
  have y3 : (sS n 62 54 3362).1 6 = 5 := rfl
  have y4 : (sS n 62 54 3362).1 37 = 8 := rfl
  have y5 : (sS n 62 54 3362).1 61 = 1 := rfl
  rw [g43_84]
  simp (disch := first | exact hz _ (by omega) | exact fun a ha => hz a (by omega) | omega | (simp (disch := omega) only [mset_ne]; exact hz _ (by omega)) | (intro a ha; simp (disch := omega) only [mset_ne]; exact hz _ (by omega))) only [g43_0, g43_1, g43_4, g43_5, g43_8, g43_9, g43_12, g43_15, g43_16, g43_19, g43_20, g43_23, g43_26, g43_27, g43_30, g43_31, g43_34, g43_37, g43_38, g43_40, g43_43, g43_46, g43_47, g43_50, g43_52, g43_55, g43_56, g43_57, g43_60, g43_63, g43_64, g43_67, g43_68, g43_71, g43_74, g43_75, g43_77, g43_79, g43_82, g43_83, g43_85, g43_86, g43_89, g43_90t, g43_90f, g43_93, g43_94, g43_97, g43_98, g43_99t, g43_99f, g43_102, g43_105, g43_111, g43_112, g43_116, g43_119, g43_122, g43_123, g43_124, g43_127, g43_128, g43_130, g43_131, g43_134, g43_135t, g43_135f, g43_138, g43_139, g43_142, g43_143, g43_146, g43_147, g43_150, g43_151, g43_154, g43_157, x43_108_61054 n, x43_115_66058 n, cont_1, cont_0, w32_o, p64, l37, c9_61]
  all_goals rfl
theorem k_l4 {n : Nat} {M : Mem} (hz : ∀ a, 66 ≤ a → M a = fun _ => 0) : go 70 43 84 [some (aR 6), some (aI 4)] [] M (sS n 66 59 3846) = go 70 43 84 [some (aR 6), some (aI 5)] [] M (sS n 71 64 4335) := by
  have p64 : ((sS n 66 59 3846)).2.2.1 6 4 = some 37 := rfl
  have l37 : ((sS n 66 59 3846)).2.1 37 = 6 := rfl
  have y1 : (sS n 66 59 3846).1 6 = 5 := rfl
  have y2 : (sS n 66 59 3846).1 37 = 8 := rfl
  have y3 : (sS n 67 59 3851).1 6 = 5 := rfl
  have y4 : (sS n 67 59 3851).1 37 = 8 := rfl
  have y5 : (sS n 67 59 3851).1 66 = 1 := rfl
  rw [g43_84]
  simp (disch := first | exact hz _ (by omega) | exact fun a ha => hz a (by omega) | omega | (simp (disch := omega) only [mset_ne]; exact hz _ (by omega)) | (intro a ha; simp (disch := omega) only [mset_ne]; exact hz _ (by omega))) only [g43_0, g43_1, g43_4, g43_5, g43_8, g43_9, g43_12, g43_15, g43_16, g43_19, g43_20, g43_23, g43_26, g43_27, g43_30, g43_31, g43_34, g43_37, g43_38, g43_40, g43_43, g43_46, g43_47, g43_50, g43_52, g43_55, g43_56, g43_57, g43_60, g43_63, g43_64, g43_67, g43_68, g43_71, g43_74, g43_75, g43_77, g43_79, g43_82, g43_83, g43_85, g43_86, g43_89, g43_90t, g43_90f, g43_93, g43_94, g43_97, g43_98, g43_99t, g43_99f, g43_102, g43_105, g43_111, g43_112, g43_116, g43_119, g43_122, g43_123, g43_124, g43_127, g43_128, g43_130, g43_131, g43_134, g43_135t, g43_135f, g43_138, g43_139, g43_142, g43_143, g43_146, g43_147, g43_150, g43_151, g43_154, g43_157, x43_108_66059 n, x43_115_71063 n, cont_1, cont_0, w32_o, p64, l37, c9_66]
  all_goals rfl
theorem k_l5 {n : Nat} {M : Mem} (hz : ∀ a, 71 ≤ a → M a = fun _ => 0) : go 70 43 84 [some (aR 6), some (aI 5)] [] M (sS n 71 64 4335) = go 70 43 84 [some (aR 6), some (aI 6)] [] M (sS n 76 69 4824) := by
  have p64 : ((sS n 71 64 4335)).2.2.1 6 4 = some 37 := rfl
  have l37 : ((sS n 71 64 4335)).2.1 37 = 6 := rfl
  have y1 : (sS n 71 64 4335).1 6 = 5 := rfl
  have y2 : (sS n 71 64 4335).1 37 = 8 := rfl
  have y3 : (sS n 72 64 4340).1 6 = 5 := rfl
  have y4 : (sS n 72 64 4340).1 37 = 8 := rfl
  have y5 : (sS n 72 64 4340).1 71 = 1 := rfl
  rw [g43_84]
  simp (disch := first | exact hz _ (by omega) | exact fun a ha => hz a (by omega) | omega | (simp (disch := omega) only [mset_ne]; exact hz _ (by omega)) | (intro a ha; simp (disch := omega) only [mset_ne]; exact hz _ (by omega))) only [g43_0, g43_1, g43_4, g43_5, g43_8, g43_9, g43_12, g43_15, g43_16, g43_19, g43_20, g43_23, g43_26, g43_27, g43_30, g43_31, g43_34, g43_37, g43_38, g43_40, g43_43, g43_46, g43_47, g43_50, g43_52, g43_55, g43_56, g43_57, g43_60, g43_63, g43_64, g43_67, g43_68, g43_71, g43_74, g43_75, g43_77, g43_79, g43_82, g43_83, g43_85, g43_86, g43_89, g43_90t, g43_90f, g43_93, g43_94, g43_97, g43_98, g43_99t, g43_99f, g43_102, g43_105, g43_111, g43_112, g43_116, g43_119, g43_122, g43_123, g43_124, g43_127, g43_128, g43_130, g43_131, g43_134, g43_135t, g43_135f, g43_138, g43_139, g43_142, g43_143, g43_146, g43_147, g43_150, g43_151, g43_154, g43_157, x43_108_71064 n, x43_115_76068 n, cont_1, cont_0, w32_o, p64, l37, c9_71]
  all_goals rfl
theorem k_m {n : Nat} {M : Mem} : go 70 43 84 [some (aR 6), some (aI 6)] [] M (sS n 76 69 4824) = go 70 43 129 [some (aR 6), some (aI 0)] [] (mset M 6 5 1) (sS n 76 69 4824) := by
  have p64 : ((sS n 76 69 4824)).2.2.1 6 4 = some 37 := rfl
  have l37 : ((sS n 76 69 4824)).2.1 37 = 6 := rfl
  have y1 : (sS n 76 69 4824).1 6 = 5 := rfl
  have y2 : (sS n 76 69 4824).1 37 = 8 := rfl
  have y3 : (sS n 76 69 4824).1 39 = 9 := rfl
  rw [g43_84]
  simp (disch := omega) only [g43_0, g43_1, g43_4, g43_5, g43_8, g43_9, g43_12, g43_15, g43_16, g43_19, g43_20, g43_23, g43_26, g43_27, g43_30, g43_31, g43_34, g43_37, g43_38, g43_40, g43_43, g43_46, g43_47, g43_50, g43_52, g43_55, g43_56, g43_57, g43_60, g43_63, g43_64, g43_67, g43_68, g43_71, g43_74, g43_75, g43_77, g43_79, g43_82, g43_83, g43_85, g43_86, g43_89, g43_90t, g43_90f, g43_93, g43_94, g43_97, g43_98, g43_99t, g43_99f, g43_102, g43_105, g43_108, g43_111, g43_112, g43_115, g43_116, g43_119, g43_122, g43_123, g43_124, g43_127, g43_128, g43_130, g43_131, g43_134, g43_135t, g43_135f, g43_138, g43_139, g43_142, g43_143, g43_146, g43_147, g43_150, g43_151, g43_154, g43_157, cont_1, cont_0, w32_o, p64, l37]
theorem k_s0 {n : Nat} {M : Mem} (hz : ∀ a, 76 ≤ a → M a = fun _ => 0) : go 70 43 129 [some (aR 6), some (aI 0)] [] M (sS n 76 69 4824) = go 70 43 129 [some (aR 6), some (aI 1)] [] (mset M 76 1 (-1)) (sS n 78 71 4867) := by
  have p68 : ((sS n 76 69 4824)).2.2.1 6 8 = some 39 := rfl
  have l39 : ((sS n 76 69 4824)).2.1 39 = 4 := rfl
  have y1 : (sS n 76 69 4824).1 6 = 5 := rfl
  have y2 : (sS n 76 69 4824).1 39 = 9 := rfl
  have y3 : (sS n 77 69 4827).1 6 = 5 := rfl
  have y4 : (sS n 77 69 4827).1 39 = 9 := rfl
  have y5 : (sS n 77 69 4827).1 76 = 4 := rfl
  rw [g43_129]
  simp (disch := first | exact hz _ (by omega) | exact fun a ha => hz a (by omega) | omega | (simp (disch := omega) only [mset_ne]; exact hz _ (by omega)) | (intro a ha; simp (disch := omega) only [mset_ne]; exact hz _ (by omega))) only [g43_0, g43_1, g43_4, g43_5, g43_8, g43_9, g43_12, g43_15, g43_16, g43_19, g43_20, g43_23, g43_26, g43_27, g43_30, g43_31, g43_34, g43_37, g43_38, g43_40, g43_43, g43_46, g43_47, g43_50, g43_52, g43_55, g43_56, g43_57, g43_60, g43_63, g43_64, g43_67, g43_68, g43_71, g43_74, g43_75, g43_77, g43_79, g43_82, g43_83, g43_85, g43_86, g43_89, g43_90t, g43_90f, g43_93, g43_94, g43_97, g43_98, g43_99t, g43_99f, g43_102, g43_105, g43_108, g43_111, g43_112, g43_115, g43_116, g43_119, g43_122, g43_123, g43_124, g43_127, g43_128, g43_130, g43_131, g43_134, g43_135t, g43_135f, g43_138, g43_139, g43_142, g43_146, g43_147, g43_151, g43_154, g43_157, x43_143_76069 n, x43_150_78070 n, cont_1, cont_0, w32_o, p68, l39, c39_76]
  all_goals rfl
theorem k_s1 {n : Nat} {M : Mem} (hz : ∀ a, 78 ≤ a → M a = fun _ => 0) : go 70 43 129 [some (aR 6), some (aI 1)] [] M (sS n 78 71 4867) = go 70 43 129 [some (aR 6), some (aI 2)] [] (mset M 78 1 (-1)) (sS n 80 73 4910) := by
  have p68 : ((sS n 78 71 4867)).2.2.1 6 8 = some 39 := rfl
  have l39 : ((sS n 78 71 4867)).2.1 39 = 4 := rfl
  have y1 : (sS n 78 71 4867).1 6 = 5 := rfl
  have y2 : (sS n 78 71 4867).1 39 = 9 := rfl
  have y3 : (sS n 79 71 4870).1 6 = 5 := rfl
  have y4 : (sS n 79 71 4870).1 39 = 9 := rfl
  have y5 : (sS n 79 71 4870).1 78 = 4 := rfl
  rw [g43_129]
  simp (disch := first | exact hz _ (by omega) | exact fun a ha => hz a (by omega) | omega | (simp (disch := omega) only [mset_ne]; exact hz _ (by omega)) | (intro a ha; simp (disch := omega) only [mset_ne]; exact hz _ (by omega))) only [g43_0, g43_1, g43_4, g43_5, g43_8, g43_9, g43_12, g43_15, g43_16, g43_19, g43_20, g43_23, g43_26, g43_27, g43_30, g43_31, g43_34, g43_37, g43_38, g43_40, g43_43, g43_46, g43_47, g43_50, g43_52, g43_55, g43_56, g43_57, g43_60, g43_63, g43_64, g43_67, g43_68, g43_71, g43_74, g43_75, g43_77, g43_79, g43_82, g43_83, g43_85, g43_86, g43_89, g43_90t, g43_90f, g43_93, g43_94, g43_97, g43_98, g43_99t, g43_99f, g43_102, g43_105, g43_108, g43_111, g43_112, g43_115, g43_116, g43_119, g43_122, g43_123, g43_124, g43_127, g43_128, g43_130, g43_131, g43_134, g43_135t, g43_135f, g43_138, g43_139, g43_142, g43_146, g43_147, g43_151, g43_154, g43_157, x43_143_78071 n, x43_150_80072 n, cont_1, cont_0, w32_o, p68, l39, c39_78]
  all_goals rfl
theorem k_s2 {n : Nat} {M : Mem} (hz : ∀ a, 80 ≤ a → M a = fun _ => 0) : go 70 43 129 [some (aR 6), some (aI 2)] [] M (sS n 80 73 4910) = go 70 43 129 [some (aR 6), some (aI 3)] [] (mset M 80 1 (-1)) (sS n 82 75 4953) := by
  have p68 : ((sS n 80 73 4910)).2.2.1 6 8 = some 39 := rfl
  have l39 : ((sS n 80 73 4910)).2.1 39 = 4 := rfl
  have y1 : (sS n 80 73 4910).1 6 = 5 := rfl
  have y2 : (sS n 80 73 4910).1 39 = 9 := rfl
  have y3 : (sS n 81 73 4913).1 6 = 5 := rfl
  have y4 : (sS n 81 73 4913).1 39 = 9 := rfl
  have y5 : (sS n 81 73 4913).1 80 = 4 := rfl
  rw [g43_129]
  simp (disch := first | exact hz _ (by omega) | exact fun a ha => hz a (by omega) | omega | (simp (disch := omega) only [mset_ne]; exact hz _ (by omega)) | (intro a ha; simp (disch := omega) only [mset_ne]; exact hz _ (by omega))) only [g43_0, g43_1, g43_4, g43_5, g43_8, g43_9, g43_12, g43_15, g43_16, g43_19, g43_20, g43_23, g43_26, g43_27, g43_30, g43_31, g43_34, g43_37, g43_38, g43_40, g43_43, g43_46, g43_47, g43_50, g43_52, g43_55, g43_56, g43_57, g43_60, g43_63, g43_64, g43_67, g43_68, g43_71, g43_74, g43_75, g43_77, g43_79, g43_82, g43_83, g43_85, g43_86, g43_89, g43_90t, g43_90f, g43_93, g43_94, g43_97, g43_98, g43_99t, g43_99f, g43_102, g43_105, g43_108, g43_111, g43_112, g43_115, g43_116, g43_119, g43_122, g43_123, g43_124, g43_127, g43_128, g43_130, g43_131, g43_134, g43_135t, g43_135f, g43_138, g43_139, g43_142, g43_146, g43_147, g43_151, g43_154, g43_157, x43_143_80073 n, x43_150_82074 n, cont_1, cont_0, w32_o, p68, l39, c39_80]
  all_goals rfl
theorem k_s3 {n : Nat} {M : Mem} (hz : ∀ a, 82 ≤ a → M a = fun _ => 0) : go 70 43 129 [some (aR 6), some (aI 3)] [] M (sS n 82 75 4953) = go 70 43 129 [some (aR 6), some (aI 4)] [] (mset M 82 1 (-1)) (sS n 84 77 4996) := by
  have p68 : ((sS n 82 75 4953)).2.2.1 6 8 = some 39 := rfl
  have l39 : ((sS n 82 75 4953)).2.1 39 = 4 := rfl
  have y1 : (sS n 82 75 4953).1 6 = 5 := rfl
  have y2 : (sS n 82 75 4953).1 39 = 9 := rfl
  have y3 : (sS n 83 75 4956).1 6 = 5 := rfl
  have y4 : (sS n 83 75 4956).1 39 = 9 := rfl
  have y5 : (sS n 83 75 4956).1 82 = 4 := rfl
  rw [g43_129]
  simp (disch := first | exact hz _ (by omega) | exact fun a ha => hz a (by omega) | omega | (simp (disch := omega) only [mset_ne]; exact hz _ (by omega)) | (intro a ha; simp (disch := omega) only [mset_ne]; exact hz _ (by omega))) only [g43_0, g43_1, g43_4, g43_5, g43_8, g43_9, g43_12, g43_15, g43_16, g43_19, g43_20, g43_23, g43_26, g43_27, g43_30, g43_31, g43_34, g43_37, g43_38, g43_40, g43_43, g43_46, g43_47, g43_50, g43_52, g43_55, g43_56, g43_57, g43_60, g43_63, g43_64, g43_67, g43_68, g43_71, g43_74, g43_75, g43_77, g43_79, g43_82, g43_83, g43_85, g43_86, g43_89, g43_90t, g43_90f, g43_93, g43_94, g43_97, g43_98, g43_99t, g43_99f, g43_102, g43_105, g43_108, g43_111, g43_112, g43_115, g43_116, g43_119, g43_122, g43_123, g43_124, g43_127, g43_128, g43_130, g43_131, g43_134, g43_135t, g43_135f, g43_138, g43_139, g43_142, g43_146, g43_147, g43_151, g43_154, g43_157, x43_143_82075 n, x43_150_84076 n, cont_1, cont_0, w32_o, p68, l39, c39_82]
  all_goals rfl
theorem k_e {n : Nat} {M : Mem} : go 70 43 129 [some (aR 6), some (aI 4)] [] M (sS n 84 77 4996) = some (none, M, (sS n 84 77 4996)) := by
  have p68 : ((sS n 84 77 4996)).2.2.1 6 8 = some 39 := rfl
  have l39 : ((sS n 84 77 4996)).2.1 39 = 4 := rfl
  have y1 : (sS n 84 77 4996).1 6 = 5 := rfl
  have y2 : (sS n 84 77 4996).1 39 = 9 := rfl
  rw [g43_129]
  simp (disch := omega) only [g43_0, g43_1, g43_4, g43_5, g43_8, g43_9, g43_12, g43_15, g43_16, g43_19, g43_20, g43_23, g43_26, g43_27, g43_30, g43_31, g43_34, g43_37, g43_38, g43_40, g43_43, g43_46, g43_47, g43_50, g43_52, g43_55, g43_56, g43_57, g43_60, g43_63, g43_64, g43_67, g43_68, g43_71, g43_74, g43_75, g43_77, g43_79, g43_82, g43_83, g43_85, g43_86, g43_89, g43_90t, g43_90f, g43_93, g43_94, g43_97, g43_98, g43_99t, g43_99f, g43_102, g43_105, g43_108, g43_111, g43_112, g43_115, g43_116, g43_119, g43_122, g43_123, g43_124, g43_127, g43_128, g43_130, g43_131, g43_134, g43_135t, g43_135f, g43_138, g43_139, g43_142, g43_143, g43_146, g43_147, g43_150, g43_151, g43_154, g43_157, cont_1, cont_0, w32_o, p68, l39]
/-- the class as it is made -/
theorem cctor {n : Nat} {M : Mem} (hz : ∀ a, 6 ≤ a → M a = fun _ => 0) : ∃ M', res 43 [aR 6] M (sS n 7 0 11) = some (none, M', (sS n 84 77 4996)) ∧ (∀ a, a < 6 → M' a = M a) ∧ (∀ a, 84 ≤ a → M' a = fun _ => 0) ∧ lawP 45 M' [100000, 1, 17, 0, 100003] ∧ (M' 48 0 = 0 ∧ M' 48 1 = 3 ∧ M' 48 2 = 4 ∧ M' 48 3 = 5) ∧ M' 6 = fset (fun _ => 0) 5 1 ∧ M' 7 = fset (fset (fun _ => 0) 12 10) 13 (-1) ∧ (∀ a, (8 ≤ a ∧ a ≤ 16) ∨ (37 ≤ a ∧ a ≤ 39) ∨ (51 ≤ a ∧ a ≤ 75) → M' a = fun _ => 0) ∧ ∀ s, s < 4 → M' (76 + 2 * s) = fset (fun _ => 0) 1 (-1) ∧ M' (77 + 2 * s) = fun _ => 0 := by
  obtain ⟨M1, hM1⟩ : ∃ M1, M1 = mset (mset (mset (mset (mset (mset M 7 12 10) 7 13 (-1)) 17 12 10) 17 13 (-1)) 27 12 10) 27 13 (-1) := ⟨_, rfl⟩
  have z1 := k_1 (n := n) (M := M) (fun a ha => hz a (by omega))
  rw [← hM1] at z1
  have m1 : ∀ a, a ≠ 7 → a ≠ 17 → a ≠ 27 → M1 a = M a := fun a h1 h2 h3 => by
    rw [hM1]
    simp (disch := omega) only [mset_ne]
  have m7 : M1 7 = fset (fset (fun _ => 0) 12 10) 13 (-1) := by
    rw [hM1]
    simp (disch := omega) only [mset_ne]
    rw [mset_row, mset_row, mrow_eq, mrow_eq, hz 7 (by omega)]
  clear hM1
  obtain ⟨M2, zf, f1, f2, f3, f4⟩ := flaw (n := n) (M := M1) (fun a ha => by rw [m1 a (by omega) (by omega) (by omega)]; exact hz a (by omega))
  have z2 := k_l0 zf
  have hz2 : ∀ a, 51 ≤ a → M2 a = fun _ => 0 := f2
  have z3 := k_l1 (n := n) (M := M2) (fun a ha => hz2 a (by omega))
  have z4 := k_l2 (n := n) (M := M2) (fun a ha => hz2 a (by omega))
  have z5 := k_l3 (n := n) (M := M2) (fun a ha => hz2 a (by omega))
  have z6 := k_l4 (n := n) (M := M2) (fun a ha => hz2 a (by omega))
  have z7 := k_l5 (n := n) (M := M2) (fun a ha => hz2 a (by omega))
  have z8 := k_m (n := n) (M := M2)
  obtain ⟨M3, hM3⟩ : ∃ M3, M3 = mset M2 6 5 1 := ⟨_, rfl⟩
  rw [← hM3] at z8
  have m3 : ∀ a, a ≠ 6 → M3 a = M2 a := fun a ha => by rw [hM3, mset_ne _ _ _ ha]
  have m36 : M3 6 = fset (fun _ => 0) 5 1 := by
    rw [hM3, mset_row, mrow_eq, f1 6 (by omega), m1 6 (by omega) (by omega) (by omega), hz 6 (by omega)]
  clear hM3
  have hz3 : ∀ a, 51 ≤ a → M3 a = fun _ => 0 := fun a ha => by rw [m3 a (by omega)]; exact hz2 a ha
  have w0 := k_s0 (n := n) (M := M3) (fun a ha => hz3 a (by omega))
  have w1 := k_s1 (n := n) (M := mset M3 76 1 (-1)) (fun a ha => by rw [mset_ne _ _ _ (by omega)]; exact hz3 a (by omega))
  have w2 := k_s2 (n := n) (M := mset (mset M3 76 1 (-1)) 78 1 (-1)) (fun a ha => by rw [mset_ne _ _ _ (by omega), mset_ne _ _ _ (by omega)]; exact hz3 a (by omega))
  have w3 := k_s3 (n := n) (M := mset (mset (mset M3 76 1 (-1)) 78 1 (-1)) 80 1 (-1)) (fun a ha => by rw [mset_ne _ _ _ (by omega), mset_ne _ _ _ (by omega), mset_ne _ _ _ (by omega)]; exact hz3 a (by omega))
  obtain ⟨M4, hM4⟩ : ∃ M4, M4 = mset (mset (mset (mset M3 76 1 (-1)) 78 1 (-1)) 80 1 (-1)) 82 1 (-1) := ⟨_, rfl⟩
  rw [← hM4] at w3
  have m4 : ∀ a, a ≠ 76 → a ≠ 78 → a ≠ 80 → a ≠ 82 → M4 a = M3 a := fun a h1 h2 h3 h4 => by
    rw [hM4, mset_ne _ _ _ h4, mset_ne _ _ _ h3, mset_ne _ _ _ h2, mset_ne _ _ _ h1]
  have ms : ∀ a, a = 76 ∨ a = 78 ∨ a = 80 ∨ a = 82 → M4 a = fset (fun _ => 0) 1 (-1) := fun a ha => by
    rw [hM4, ← hz3 a (by omega)]
    rcases ha with rfl | rfl | rfl | rfl
    all_goals (try simp (disch := omega) only [mset_ne])
    all_goals rw [mset_row, mrow_eq]
    all_goals simp (disch := omega) only [mset_ne]
  clear hM4
  have e4 := k_e (n := n) (M := M4)
  refine ⟨M4, z1.trans (z2.trans (z3.trans (z4.trans (z5.trans (z6.trans (z7.trans (z8.trans (w0.trans (w1.trans (w2.trans (w3.trans e4))))))))))), fun a ha => ?_, fun a ha => ?_, lawP_fr (fun k _ => ?_) f3, ?_, ?_, ?_, fun a ha => ?_, fun s hs => ⟨?_, ?_⟩⟩
  · rw [m4 a (by omega) (by omega) (by omega) (by omega), m3 a (by omega), f1 a (by omega), m1 a (by omega) (by omega) (by omega)]
  · rw [m4 a (by omega) (by omega) (by omega) (by omega)]
    exact hz3 a (by omega)
  · rw [m4 (45 + 1) (by omega) (by omega) (by omega) (by omega), m3 (45 + 1) (by omega), m4 (45 + 2) (by omega) (by omega) (by omega) (by omega), m3 (45 + 2) (by omega)]
    exact ⟨rfl, rfl⟩
  · rw [m4 48 (by omega) (by omega) (by omega) (by omega), m3 48 (by omega)]
    exact f4
  · rw [m4 6 (by omega) (by omega) (by omega) (by omega)]
    exact m36
  · rw [m4 7 (by omega) (by omega) (by omega) (by omega), m3 7 (by omega), f1 7 (by omega)]
    exact m7
  · rw [m4 a (by omega) (by omega) (by omega) (by omega), m3 a (by omega)]
    by_cases h : a < 44
    · rw [f1 a h, m1 a (by omega) (by omega) (by omega)]
      exact hz a (by omega)
    · exact hz2 a (by omega)
  · exact ms (76 + 2 * s) (by omega)
  · rw [m4 (77 + 2 * s) (by omega) (by omega) (by omega) (by omega)]
    exact hz3 _ (by omega)
