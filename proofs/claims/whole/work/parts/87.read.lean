/-! read of the class -/
def FrB (ra la : Nat) (M M' : Mem) : Prop := (∀ a, a ≠ ra → a ≠ la → a ≠ la + 1 → a ≠ la + 2 → a ≠ la + 3 → M' a = M a) ∧ (∀ j, j ≠ 4 → M' la j = M la j) ∧ M' (la + 3) 0 = M (la + 3) 0
theorem FrB_t {ra la : Nat} {M M1 M2 : Mem} (h1 : FrB ra la M M1) (h2 : FrB ra la M1 M2) : FrB ra la M M2 := ⟨fun a b c d e f => (h2.1 a b c d e f).trans (h1.1 a b c d e f), fun j hj => (h2.2.1 j hj).trans (h1.2.1 j hj), h2.2.2.trans h1.2.2⟩
theorem FrL_B {ra la : Nat} {M M' : Mem} (h : FrL ra la M M') (n : ra ≠ la + 3) : FrB ra la M M' := ⟨fun a b c d e _ => h.1 a b c d e, h.2, by rw [h.1 (la + 3) (by omega) (by omega) (by omega) (by omega)]⟩
theorem endp_ {M : Mem} {ra ta la : Nat} {S : Sh} (hR : RdSh S ra ta la) {pa : Nat} (hp : pa < 3) : res 12 [aR la, aI (pa : Int)] M S = some (none, mset M (la + 3) (pa + 1) (M la 4), S) := by
  have ⟨K0, P0, P2, Kt, Lt, ⟨a0, La0, La1, La2, La3, La4, LL1, LL2, LL3, LL4, LP0, LP1, LP2, LP3⟩, ⟨n0, n1, n2⟩, ⟨m0, m1, m2, m3, m4⟩, ⟨t0, t1, t2, t3, t4⟩⟩ := hR
  have i1 : ((pa : Int) + 1).toNat = pa + 1 := by omega
  rw [g12]
  simp (disch := omega) only [g12_0, g12_1, g12_4, g12_5, g12_6, g12_7, g12_8, g12_11, g12_14, cont_1, cont_0, w32_o, La0, LP2, put_in, i1]
theorem FrB_e {M : Mem} {ra la : Nat}  {pa : Nat} {v : Int} : FrB ra la M (mset M (la + 3) (pa + 1) v) := ⟨fun a _ _ _ _ e => mset_ne _ _ _ e, fun j _ => by rw [mset_ne _ _ _ (by omega)], mset_nk _ (by omega)⟩
theorem RdS_e {M : Mem} {ra ta la sz : Nat} {f : Nat → Int} {S : Sh} (hR : RdSh S ra ta la) {pa : Nat} {v : Int} {ts : List Tok} {o : List Int} (h : RdS ra ta la sz f M ts o) : RdS ra ta la sz f (mset M (la + 3) (pa + 1) v) ts o := by
  have ⟨K0, P0, P2, Kt, Lt, ⟨a0, La0, La1, La2, La3, La4, LL1, LL2, LL3, LL4, LP0, LP1, LP2, LP3⟩, ⟨n0, n1, n2⟩, ⟨m0, m1, m2, m3, m4⟩, ⟨t0, t1, t2, t3, t4⟩⟩ := hR
  obtain ⟨h1, h7, hf, h4, hl, hd⟩ := h
  have er : mset M (la + 3) (pa + 1) v ra = M ra := mset_ne _ _ _ (by omega)
  have et : mset M (la + 3) (pa + 1) v ta = M ta := mset_ne _ _ _ (by omega)
  unfold RdS
  rw [er, et]
  refine ⟨h1, h7, hf, ?_, lawP_fr (fun k _ => ?_) hl, hdT_fr er hd⟩
  · rw [mset_ne _ _ _ (by omega)]; exact h4
  · rw [mset_ne _ _ _ (by omega), mset_ne _ _ _ (by omega)]; exact ⟨rfl, rfl⟩
theorem FaS_e {M : Mem} {ra ta la : Nat} {S : Sh} (hR : RdSh S ra ta la) {pa : Nat} {v q : Int} (h : FaS ra la M q) : FaS ra la (mset M (la + 3) (pa + 1) v) q := by
  have ⟨K0, P0, P2, Kt, Lt, ⟨a0, La0, La1, La2, La3, La4, LL1, LL2, LL3, LL4, LP0, LP1, LP2, LP3⟩, ⟨n0, n1, n2⟩, ⟨m0, m1, m2, m3, m4⟩, ⟨t0, t1, t2, t3, t4⟩⟩ := hR
  unfold FaS at h ⊢
  rw [mset_ne _ _ _ (by omega), mset_ne _ _ _ (by omega)]
  exact h
theorem cn59 {t : Tok} {ts : List Tok} {o : List Int} (h : t.1 = 59) : cnN (t :: ts) [] o = Sum.inr (ts, o) := by
  rw [cnN_f (by unfold isCm; omega), sy_end h]
  rfl
theorem cn59_n {t : Tok} {ts : List Tok} {o : List Int} (h9 : t.1 ≠ 59) (h : t.1 ≠ 42 ∧ t.1 ≠ 43 ∧ t.1 ≠ 45 ∧ t.1 ≠ 5 ∧ t.1 ≠ 4) : cnN (t :: ts) [] o = Sum.inl t.2.2 := by
  by_cases hc : isCm t.1
  · exact cnN_t hc
  · rw [cnN_f hc]
    by_cases h1 : t.1 = 41
    · rw [sy_clo h1]
      rfl
    · exact sy_non h9 h1 (sgn_o h.2.2.2.2 h.2.2.2.1 h.1 h.2.1 h.2.2.1 hc)
theorem cf_ {M : Mem} {ra ta la : Nat} {S : Sh} (hR : RdSh S ra ta la) {pa : Nat} {q : Int} (hp : pa < 3) (h : FaS ra la M q) : ∃ M', go 68 16 13 [some (aR ra), some (aI (pa : Int))] [] M S = go 68 16 13 [some (aR ra), some (aI ((pa : Int) + 1))] [] M' S ∧ FrB ra la M M' ∧ FaS ra la M' q := by
  have ⟨K0, P0, P2, Kt, Lt, ⟨a0, La0, La1, La2, La3, La4, LL1, LL2, LL3, LL4, LP0, LP1, LP2, LP3⟩, ⟨n0, n1, n2⟩, ⟨m0, m1, m2, m3, m4⟩, ⟨t0, t1, t2, t3, t4⟩⟩ := hR
  have k19 := rkR19 ra 0
  rw [show (0 : Int).toNat = 0 from rfl] at k19
  obtain ⟨M1, z1, f1, a1⟩ := cexp_f (w := 4 + (pa : Int)) hR h (by omega)
  obtain ⟨M2, z2, f2, a2⟩ := eitFF hR 0 M1 q a1
  have z2' : res 19 [aR ra, aI 0] M1 S = _ := z2
  obtain ⟨M3, z3, f3, a3⟩ := cexp_f (w := 59) hR a2 (by omega)
  have z4 := endp_ (M := M3) hR hp
  refine ⟨mset M3 (la + 3) (pa + 1) (M3 la 4), ?_, FrB_t (FrL_B (FrL_t f1 (FrL_t f2 f3)) (by omega)) FrB_e, FaS_e hR a3⟩
  rw [g16_13]
  simp (disch := omega) only [g16_0, g16_1, g16_4, g16_7, g16_8, g16_11, g16_12, g16_14, g16_15t, g16_15f, g16_18, g16_19, g16_20, g16_21, g16_22, g16_25, g16_26, g16_27, g16_30, g16_31, g16_33, g16_36, g16_37, g16_40, g16_41, g16_44, g16_47, g16_50, g16_51, g16_54t, g16_54f, g16_57, g16_58, g16_61, g16_62, g16_65, cont_1, cont_0, w32_o, K0, P2, La0, z1, z2', z3, z4, nc_1]
theorem ci_ {M : Mem} {ra ta la sz : Nat} {f : Nat → Int} {S : Sh} (hR : RdSh S ra ta la) (hz : sz ≤ 160) {pa : Nat} {ts : List Tok} {o : List Int} (hp : pa < 3) (h : RdS ra ta la sz f M ts o) (hn : o.length + ts.length ≤ 161) : ∃ M', go 68 16 13 [some (aR ra), some (aI (pa : Int))] [] M S = go 68 16 13 [some (aR ra), some (aI ((pa : Int) + 1))] [] M' S ∧ FrB ra la M M' ∧ ((∃ q, FaS ra la M' q ∧ tx1 (pa : Int) ts o = Sum.inl q) ∨ (∃ ts' o', tx1 (pa : Int) ts o = Sum.inr (ts', o') ∧ RdS ra ta la sz f M' ts' o' ∧ o'.length + ts'.length ≤ 161 ∧ Up o o' ∧ M' (la + 3) (pa + 1) = ((o'.length : Nat) : Int) ∧ ∀ j, j ≠ pa + 1 → M' (la + 3) j = M (la + 3) j)) := by
  have ⟨K0, P0, P2, Kt, Lt, ⟨a0, La0, La1, La2, La3, La4, LL1, LL2, LL3, LL4, LP0, LP1, LP2, LP3⟩, ⟨n0, n1, n2⟩, ⟨m0, m1, m2, m3, m4⟩, ⟨t0, t1, t2, t3, t4⟩⟩ := hR
  have k19 := rkR19 ra 0
  rw [show (0 : Int).toNat = 0 from rfl] at k19
  obtain ⟨t, ts1, rfl⟩ := hdT_pos h.2.2.2.2.2
  have hc := h.2.2.2.2.2.1
  rw [List.length_cons] at hn
  by_cases hk : t.1 = 3 ∧ t.2.1 = (pa : Int)
  · have e5 : M ra 5 = 4 + (pa : Int) := by unfold tkC at hc; omega
    obtain ⟨M1, z1, f1, r1⟩ := cexp_y hR hz h (by omega) e5
    have etx : tx1 (pa : Int) (t :: ts1) o = syR ts1 true true [] o := if_pos hk
    obtain ⟨M2, z2, f2, r2⟩ := (rd_all (f := f) hR hz 5 0 rfl).2.2 M1 ts1 o r1 (by omega)
    have z2' : res 19 [aR ra, aI 0] M1 S = _ := z2
    rcases r2 with ⟨q, a2, sy⟩ | ⟨ts2, o2, r2, l1, l2, up, tc, sy⟩
    · obtain ⟨M3, z3, f3, a3⟩ := cexp_f (w := 59) hR a2 (by omega)
      have z4 := endp_ (M := M3) hR hp
      refine ⟨mset M3 (la + 3) (pa + 1) (M3 la 4), ?_, FrB_t (FrL_B (FrL_t f1 (FrL_t f2 f3)) (by omega)) FrB_e, Or.inl ⟨q, FaS_e hR a3, etx.trans (sy true [] rfl trivial (mC_t _))⟩⟩
      clear hc
      rw [g16_13]
      simp (disch := omega) only [g16_0, g16_1, g16_4, g16_7, g16_8, g16_11, g16_12, g16_14, g16_15t, g16_15f, g16_18, g16_19, g16_20, g16_21, g16_22, g16_25, g16_26, g16_27, g16_30, g16_31, g16_33, g16_36, g16_37, g16_40, g16_41, g16_44, g16_47, g16_50, g16_51, g16_54t, g16_54f, g16_57, g16_58, g16_61, g16_62, g16_65, cont_1, cont_0, w32_o, K0, P2, La0, z1, z2', z3, z4, nc_1]
    · obtain ⟨t2, ts3, rfl⟩ := hdT_pos r2.2.2.2.2.2
      have hc2 := r2.2.2.2.2.2.1
      rw [List.length_cons] at l1 l2
      have sy2 := etx.trans (sy true [] rfl trivial (mC_t _))
      by_cases h9 : t2.1 = 59
      · have e9 : M2 ra 5 = 59 := by unfold tkC at hc2; omega
        obtain ⟨M3, z3, f3, r3⟩ := cexp_y (w := 59) hR hz r2 (by omega) e9
        have z4 := endp_ (M := M3) hR hp
        refine ⟨mset M3 (la + 3) (pa + 1) (M3 la 4), ?_, FrB_t (FrL_B (FrL_t f1 (FrL_t f2 f3)) (by omega)) FrB_e, Or.inr ⟨ts3, o2, sy2.trans (cn59 h9), RdS_e hR r3, by omega, up, ?_, fun j hj => ?_⟩⟩
        · clear hc hc2
          rw [g16_13]
          simp (disch := omega) only [g16_0, g16_1, g16_4, g16_7, g16_8, g16_11, g16_12, g16_14, g16_15t, g16_15f, g16_18, g16_19, g16_20, g16_21, g16_22, g16_25, g16_26, g16_27, g16_30, g16_31, g16_33, g16_36, g16_37, g16_40, g16_41, g16_44, g16_47, g16_50, g16_51, g16_54t, g16_54f, g16_57, g16_58, g16_61, g16_62, g16_65, cont_1, cont_0, w32_o, K0, P2, La0, z1, z2', z3, z4, nc_1]
        · rw [mset_eq]; exact r3.2.2.2.1
        · rw [mset_nk _ hj, f3.1 (la + 3) (by omega) (by omega) (by omega) (by omega), f2.1 (la + 3) (by omega) (by omega) (by omega) (by omega), f1.1 (la + 3) (by omega) (by omega) (by omega) (by omega)]
      · have e9 : M2 ra 5 ≠ 59 := by unfold tkC at hc2; omega
        obtain ⟨M3, z3, f3, a3⟩ := cexp_n (w := 59) hR r2 (by omega) e9
        have z4 := endp_ (M := M3) hR hp
        refine ⟨mset M3 (la + 3) (pa + 1) (M3 la 4), ?_, FrB_t (FrL_B (FrL_t f1 (FrL_t f2 f3)) (by omega)) FrB_e, Or.inl ⟨t2.2.2, FaS_e hR a3, sy2.trans (cn59_n h9 tc)⟩⟩
        clear hc hc2
        rw [g16_13]
        simp (disch := omega) only [g16_0, g16_1, g16_4, g16_7, g16_8, g16_11, g16_12, g16_14, g16_15t, g16_15f, g16_18, g16_19, g16_20, g16_21, g16_22, g16_25, g16_26, g16_27, g16_30, g16_31, g16_33, g16_36, g16_37, g16_40, g16_41, g16_44, g16_47, g16_50, g16_51, g16_54t, g16_54f, g16_57, g16_58, g16_61, g16_62, g16_65, cont_1, cont_0, w32_o, K0, P2, La0, z1, z2', z3, z4, nc_1]
  · have e5 : M ra 5 ≠ 4 + (pa : Int) := by unfold tkC at hc; omega
    obtain ⟨M1, z1, f1, a1⟩ := cexp_n hR h (by omega) e5
    obtain ⟨M2, z2, f2, a2⟩ := eitFF hR 0 M1 _ a1
    have z2' : res 19 [aR ra, aI 0] M1 S = _ := z2
    obtain ⟨M3, z3, f3, a3⟩ := cexp_f (w := 59) hR a2 (by omega)
    have z4 := endp_ (M := M3) hR hp
    refine ⟨mset M3 (la + 3) (pa + 1) (M3 la 4), ?_, FrB_t (FrL_B (FrL_t f1 (FrL_t f2 f3)) (by omega)) FrB_e, Or.inl ⟨t.2.2, FaS_e hR a3, if_neg hk⟩⟩
    clear hc
    rw [g16_13]
    simp (disch := omega) only [g16_0, g16_1, g16_4, g16_7, g16_8, g16_11, g16_12, g16_14, g16_15t, g16_15f, g16_18, g16_19, g16_20, g16_21, g16_22, g16_25, g16_26, g16_27, g16_30, g16_31, g16_33, g16_36, g16_37, g16_40, g16_41, g16_44, g16_47, g16_50, g16_51, g16_54t, g16_54f, g16_57, g16_58, g16_61, g16_62, g16_65, cont_1, cont_0, w32_o, K0, P2, La0, z1, z2', z3, z4, nc_1]
theorem ce_f {M : Mem} {ra ta la : Nat} {S : Sh} (hR : RdSh S ra ta la) {q : Int} (h : FaS ra la M q) : ∃ M', go 68 16 13 [some (aR ra), some (aI 3)] [] M S = some (some (aI q), M', S) ∧ FrB ra la M M' ∧ 0 ≤ q := by
  have ⟨K0, P0, P2, Kt, Lt, ⟨a0, La0, La1, La2, La3, La4, LL1, LL2, LL3, LL4, LP0, LP1, LP2, LP3⟩, ⟨n0, n1, n2⟩, ⟨m0, m1, m2, m3, m4⟩, ⟨t0, t1, t2, t3, t4⟩⟩ := hR
  obtain ⟨M1, z1, f1, a1⟩ := cref_f hR h
  have h5 := h.1
  have h7 := a1.2.1
  refine ⟨M1, ?_, FrL_B f1 (by omega), h.2.2.1⟩
  rw [g16_13]
  simp (disch := omega) only [g16_0, g16_1, g16_4, g16_7, g16_8, g16_11, g16_12, g16_14, g16_15t, g16_15f, g16_18, g16_19, g16_20, g16_21, g16_22, g16_25, g16_26, g16_27, g16_30, g16_31, g16_33, g16_36, g16_37, g16_40, g16_41, g16_44, g16_47, g16_50, g16_51, g16_54t, g16_54f, g16_57, g16_58, g16_61, g16_62, g16_65, cont_1, cont_0, w32_o, K0, h5, z1, h7]
theorem ce_g {M : Mem} {ra ta la sz : Nat} {f : Nat → Int} {S : Sh} (hR : RdSh S ra ta la) {ts : List Tok} {o : List Int} (h : RdS ra ta la sz f M ts o) (hn : o.length + ts.length ≤ 161) : ∃ M' v, go 68 16 13 [some (aR ra), some (aI 3)] [] M S = some (some (aI v), M', S) ∧ FrB ra la M M' ∧ ((0 ≤ v ∧ txE ts = Sum.inl v) ∨ (v = -1 ∧ txE ts = Sum.inr () ∧ M' = M)) := by
  have ⟨K0, P0, P2, Kt, Lt, ⟨a0, La0, La1, La2, La3, La4, LL1, LL2, LL3, LL4, LP0, LP1, LP2, LP3⟩, ⟨n0, n1, n2⟩, ⟨m0, m1, m2, m3, m4⟩, ⟨t0, t1, t2, t3, t4⟩⟩ := hR
  obtain ⟨t, ts1, rfl⟩ := hdT_pos h.2.2.2.2.2
  have hc := h.2.2.2.2.2.1
  rw [List.length_cons] at hn
  by_cases hk : t.1 = 0
  · have e5 : M ra 5 = 0 := by unfold tkC at hc; omega
    have h7 := h.2.1
    refine ⟨M, -1, ?_, ⟨fun _ _ _ _ _ _ => rfl, fun _ _ => rfl, rfl⟩, Or.inr ⟨rfl, if_pos hk, rfl⟩⟩
    clear hc
    rw [g16_13]
    simp (disch := omega) only [g16_0, g16_1, g16_4, g16_7, g16_8, g16_11, g16_12, g16_14, g16_15t, g16_15f, g16_18, g16_19, g16_20, g16_21, g16_22, g16_25, g16_26, g16_27, g16_30, g16_31, g16_33, g16_36, g16_37, g16_40, g16_41, g16_44, g16_47, g16_50, g16_51, g16_54t, g16_54f, g16_57, g16_58, g16_61, g16_62, g16_65, cont_1, cont_0, w32_o, K0, e5, h7]
  · have e5 : M ra 5 ≠ 0 := by unfold tkC at hc; omega
    obtain ⟨M1, z1, f1, a1⟩ := cref hR h (by omega)
    have h7 := a1.2.1
    refine ⟨M1, t.2.2, ?_, FrL_B f1 (by omega), Or.inl ⟨a1.2.2.1, if_neg hk⟩⟩
    clear hc
    rw [g16_13]
    simp (disch := omega) only [g16_0, g16_1, g16_4, g16_7, g16_8, g16_11, g16_12, g16_14, g16_15t, g16_15f, g16_18, g16_19, g16_20, g16_21, g16_22, g16_25, g16_26, g16_27, g16_30, g16_31, g16_33, g16_36, g16_37, g16_40, g16_41, g16_44, g16_47, g16_50, g16_51, g16_54t, g16_54f, g16_57, g16_58, g16_61, g16_62, g16_65, cont_1, cont_0, w32_o, K0, z1, h7]
theorem lawP_sg {la : Nat} {M : Mem} {o : List Int} : ∀ (s : List Int), lawP la M (s ++ o) → lawP la M o := by
  intro s
  induction s with
  | nil => exact fun h => h
  | cons c s ih => exact fun h => ih h.2
theorem read_ {ra ta la sz : Nat} {f : Nat → Int} {S : Sh} (hR : RdSh S ra ta la) (hz : sz ≤ 160) {M : Mem} {ts : List Tok} (hf : ∀ k, k < sz → M ta k = f k) (h1 : M ra 1 = (sz : Int)) (h3 : M ra 3 = 0) (h7 : M ra 7 = -1) (hL : Lx f sz ts 0) (hl : ts.length ≤ 161) : ∃ M' v, res 16 [aR ra] M S = some (some (aI v), M', S) ∧ FrB ra la M M' ∧ ((0 ≤ v ∧ txR ts = Sum.inl v) ∨ (v = -1 ∧ ∃ o1 o2 o3, txR ts = Sum.inr (o1, o2, o3) ∧ lawP la M' o3 ∧ M' (la + 3) 1 = ((o1.length : Nat) : Int) ∧ M' (la + 3) 2 = ((o2.length : Nat) : Int) ∧ M' (la + 3) 3 = ((o3.length : Nat) : Int) ∧ Up [] o1 ∧ Up o1 o2 ∧ Up o2 o3)) := by
  have ⟨K0, P0, P2, Kt, Lt, ⟨a0, La0, La1, La2, La3, La4, LL1, LL2, LL3, LL4, LP0, LP1, LP2, LP3⟩, ⟨n0, n1, n2⟩, ⟨m0, m1, m2, m3, m4⟩, ⟨t0, t1, t2, t3, t4⟩⟩ := hR
  obtain ⟨M0, hM0⟩ : ∃ M0, M0 = mset M la 4 0 := ⟨_, rfl⟩
  have b : ∀ a, a ≠ la → M0 a = M a := fun a ha => by rw [hM0, mset_ne _ _ _ ha]
  have b4 : M0 la 4 = 0 := by rw [hM0, mset_eq]
  have b4' : ∀ j, j ≠ 4 → M0 la j = M la j := fun j hj => by rw [hM0, mset_nk _ hj]
  obtain ⟨ρ, z, r1, r7, r3, r4, r5, r6⟩ := adv_ (M := M0) (f := f) hR hz (fun k hk => by rw [b ta (by omega)]; exact hf k hk) (by rw [b ra (by omega)]; exact h1) (p := 0) (by rw [b ra (by omega)]; exact h3) (Nat.zero_le _)
  rw [b ra (by omega), h7] at r7
  obtain ⟨M1, hM1⟩ : ∃ M1, M1 = mrow M0 ra ρ := ⟨_, rfl⟩
  rw [← hM1] at z
  have c : ∀ a, a ≠ ra → M1 a = M0 a := fun a ha => by rw [hM1, mrow_ne _ _ ha]
  have cr : M1 ra = ρ := by rw [hM1, mrow_eq]
  have f1 : FrB ra la M M1 := ⟨fun a x y _ _ _ => by rw [c a x, b a y], fun j hj => by rw [c la (by omega), b4' j hj], by rw [c (la + 3) (by omega), b (la + 3) (by omega)]⟩
  have R1 : RdS ra ta la sz f M1 ts [] := by
    unfold RdS
    rw [cr, c ta (by omega), b ta (by omega), c la (by omega), b4]
    refine ⟨r1, r7, hf, rfl, trivial, ?_⟩
    cases ts with
    | nil => exact hL
    | cons t' ts' =>
      unfold hdT
      rw [cr]
      obtain ⟨e1, e2, e3⟩ := hL
      rw [← e1] at r4 r5 r6
      have ok : tOK t'.1 t'.2.1 := by rw [e1]; exact tk_ok f sz (pl f sz 0)
      refine ⟨by rw [r5]; exact tkC_of ok, r4, ?_, r6, fun z2 => ⟨tkE f sz 0, r3, (tkE_le (Nat.zero_le _)).2.1, e3 z2⟩⟩
      rw [e1]
      exact Int.natCast_nonneg _
  have start : res 16 [aR ra] M S = go 68 16 13 [some (aR ra), some (aI 0)] [] M1 S := by
    have c0 : res 10 [aR la] M S = some (none, M0, S) := by
      rw [hM0, g10]
      simp (disch := omega) only [g10_0, g10_1, g10_2, g10_5, cont_1, cont_0, w32_o, La0]
    rw [g16]
    simp (disch := omega) only [g16_0, g16_1, g16_4, g16_7, g16_8, g16_11, g16_12, g16_14, g16_15t, g16_15f, g16_18, g16_19, g16_20, g16_21, g16_22, g16_25, g16_26, g16_27, g16_30, g16_31, g16_33, g16_36, g16_37, g16_40, g16_41, g16_44, g16_47, g16_50, g16_51, g16_54t, g16_54f, g16_57, g16_58, g16_61, g16_62, g16_65, cont_1, cont_0, w32_o, K0, P2, La0, c0, z]
  rw [start]
  clear hM0 hM1 z
  obtain ⟨M2, z2, f2, q2⟩ := ci_ (pa := 0) hR hz (by omega) R1 (by show 0 + ts.length ≤ 161; omega)
  rcases q2 with ⟨q, a2, x2⟩ | ⟨ts2, o1, x2, R2, n2, u1, e2, g2⟩
  · obtain ⟨M3, z3, f3, a3⟩ := cf_ (pa := 1) hR (by omega) a2
    obtain ⟨M4, z4, f4, a4⟩ := cf_ (pa := 2) hR (by omega) a3
    obtain ⟨M5, z5, f5, q0⟩ := ce_f hR a4
    exact ⟨M5, q, z2.trans (z3.trans (z4.trans z5)), FrB_t f1 (FrB_t f2 (FrB_t f3 (FrB_t f4 f5))), Or.inl ⟨q0, bO_l x2⟩⟩
  have y2 : txR ts = _ := bO_r x2
  obtain ⟨M3, z3, f3, q3⟩ := ci_ (pa := 1) hR hz (by omega) R2 n2
  rcases q3 with ⟨q, a3, x3⟩ | ⟨ts3, o2, x3, R3, n3, u2, e3, g3⟩
  · obtain ⟨M4, z4, f4, a4⟩ := cf_ (pa := 2) hR (by omega) a3
    obtain ⟨M5, z5, f5, q0⟩ := ce_f hR a4
    exact ⟨M5, q, z2.trans (z3.trans (z4.trans z5)), FrB_t f1 (FrB_t f2 (FrB_t f3 (FrB_t f4 f5))), Or.inl ⟨q0, y2.trans (bO_l x3)⟩⟩
  have y3 := y2.trans (bO_r x3)
  obtain ⟨M4, z4, f4, q4⟩ := ci_ (pa := 2) hR hz (by omega) R3 n3
  rcases q4 with ⟨q, a4, x4⟩ | ⟨ts4, o3, x4, R4, n4, u3, e4, g4⟩
  · obtain ⟨M5, z5, f5, q0⟩ := ce_f hR a4
    exact ⟨M5, q, z2.trans (z3.trans (z4.trans z5)), FrB_t f1 (FrB_t f2 (FrB_t f3 (FrB_t f4 f5))), Or.inl ⟨q0, y3.trans (bO_l x4)⟩⟩
  have y4 := y3.trans (bO_r x4)
  obtain ⟨M5, v, z5, f5, q5⟩ := ce_g hR R4 n4
  refine ⟨M5, v, z2.trans (z3.trans (z4.trans z5)), FrB_t f1 (FrB_t f2 (FrB_t f3 (FrB_t f4 f5))), ?_⟩
  rcases q5 with ⟨v0, x5⟩ | ⟨v1, x5, em⟩
  · exact Or.inl ⟨v0, by rw [y4, x5]⟩
  · subst em
    exact Or.inr ⟨v1, o1, o2, o3, by rw [y4, x5], R4.2.2.2.2.1, by rw [g4 _ (by omega), g3 _ (by omega)]; exact e2, by rw [g4 _ (by omega)]; exact e3, e4, u1, u2, u3⟩
