/-! the class's reader -/
def tkC (k v c : Int) : Prop := (k = 0 ∧ c = 0) ∨ (k = -1 ∧ c = 1) ∨ (k = 1 ∧ c = 2 ∧ 0 ≤ v ∧ v ≤ 9999) ∨ (k = 2 ∧ c = 3 ∧ 0 ≤ v ∧ v < 6) ∨ (k = 3 ∧ c = 4 + v ∧ 0 ≤ v ∧ v < 3) ∨ (k = 4 ∧ c = 7) ∨ (k = 5 ∧ c = 8) ∨ (k = 6 ∧ c = 9) ∨ (c = k ∧ (k = 40 ∨ k = 41 ∨ k = 59 ∨ k = 43 ∨ k = 45 ∨ k = 42 ∨ k = 60 ∨ k = 61))
theorem tkC_of {k v : Int} (h : tOK k v) : tkC k v (ckd k v) := by
  rcases h with rfl | rfl | ⟨rfl, h⟩ | ⟨rfl, h⟩ | ⟨rfl, h⟩ | rfl | rfl | rfl | rfl | rfl | rfl | rfl | rfl | rfl | rfl | rfl
  · rw [show ckd 0 v = 0 from rfl]; unfold tkC; omega
  · rw [show ckd (-1) v = 1 from rfl]; unfold tkC; omega
  · rw [show ckd 1 v = 2 from rfl]; unfold tkC; omega
  · rw [show ckd 2 v = 3 from rfl]; unfold tkC; omega
  · rw [show ckd 3 v = 4 + v from rfl]; unfold tkC; omega
  · rw [show ckd 4 v = 7 from rfl]; unfold tkC; omega
  · rw [show ckd 5 v = 8 from rfl]; unfold tkC; omega
  · rw [show ckd 6 v = 9 from rfl]; unfold tkC; omega
  · rw [show ckd 40 v = 40 from rfl]; unfold tkC; omega
  · rw [show ckd 41 v = 41 from rfl]; unfold tkC; omega
  · rw [show ckd 59 v = 59 from rfl]; unfold tkC; omega
  · rw [show ckd 43 v = 43 from rfl]; unfold tkC; omega
  · rw [show ckd 45 v = 45 from rfl]; unfold tkC; omega
  · rw [show ckd 42 v = 42 from rfl]; unfold tkC; omega
  · rw [show ckd 60 v = 60 from rfl]; unfold tkC; omega
  · rw [show ckd 61 v = 61 from rfl]; unfold tkC; omega
def lawP (la : Nat) (M : Mem) : List Int → Prop
  | [] => True
  | c :: o => (c = cOf (M (la + 1) o.length) (M (la + 2) o.length) ∧ wOK (M (la + 1) o.length) (M (la + 2) o.length)) ∧ lawP la M o
theorem lawP_fr {la : Nat} {M M' : Mem} : ∀ {o : List Int}, (∀ k, k < o.length → M' (la + 1) k = M (la + 1) k ∧ M' (la + 2) k = M (la + 2) k) → lawP la M o → lawP la M' o := by
  intro o
  induction o with
  | nil => intro _ _; exact trivial
  | cons c o ih =>
    intro h1 h2
    have q := h1 o.length (by rw [List.length_cons]; omega)
    refine ⟨?_, ih (fun k hk => h1 k (by rw [List.length_cons]; omega)) h2.2⟩
    rw [q.1, q.2]
    exact h2.1
def hdT (ra sz : Nat) (f : Nat → Int) (M : Mem) : List Tok → Prop
  | [] => False
  | t :: ts => tkC t.1 t.2.1 (M ra 5) ∧ M ra 4 = t.2.2 ∧ 0 ≤ t.2.2 ∧ (t.1 = 1 ∨ t.1 = 2 → M ra 6 = t.2.1) ∧ (¬ (t.1 = 0 ∨ t.1 = -1) → ∃ p : Nat, M ra 3 = (p : Int) ∧ p ≤ sz ∧ Lx f sz ts p)
/-- a token lies ahead, no fault yet -/
def RdS (ra ta la sz : Nat) (f : Nat → Int) (M : Mem) (ts : List Tok) (o : List Int) : Prop := M ra 1 = (sz : Int) ∧ M ra 7 = -1 ∧ (∀ k, k < sz → M ta k = f k) ∧ M la 4 = ((o.length : Nat) : Int) ∧ lawP la M o ∧ hdT ra sz f M ts
/-- a fault at q -/
def FaS (ra la : Nat) (M : Mem) (q : Int) : Prop := M ra 5 = 1 ∧ M ra 7 = q ∧ 0 ≤ q ∧ 0 ≤ M la 4 ∧ M la 4 ≤ 160
def FrL (ra la : Nat) (M M' : Mem) : Prop := (∀ a, a ≠ ra → a ≠ la → a ≠ la + 1 → a ≠ la + 2 → M' a = M a) ∧ ∀ j, j ≠ 4 → M' la j = M la j
theorem FrL_t {ra la : Nat} {M M1 M2 : Mem} (h1 : FrL ra la M M1) (h2 : FrL ra la M1 M2) : FrL ra la M M2 := ⟨fun a b c d e => (h2.1 a b c d e).trans (h1.1 a b c d e), fun j hj => (h2.2 j hj).trans (h1.2 j hj)⟩
theorem FrL_r {ra la : Nat} (M : Mem) : FrL ra la M M := ⟨fun _ _ _ _ _ => rfl, fun _ _ => rfl⟩
theorem hdT_pos {ra sz : Nat} {f : Nat → Int} {M : Mem} {ts : List Tok} (h : hdT ra sz f M ts) : ∃ t ts', ts = t :: ts' := by
  cases ts with
  | nil => exact absurd h (fun z => z)
  | cons t ts => exact ⟨t, ts, rfl⟩
theorem hdT_fr {ra sz : Nat} {f : Nat → Int} {M M' : Mem} {ts : List Tok} (e : M' ra = M ra) (h : hdT ra sz f M ts) : hdT ra sz f M' ts := by
  cases ts with
  | nil => exact h
  | cons t ts =>
    unfold hdT at h ⊢
    rw [e]
    exact h
theorem cadv {M : Mem} {ra ta la sz : Nat} {f : Nat → Int} {S : Sh} (hR : RdSh S ra ta la) (hz : sz ≤ 160) {t : Tok} {ts : List Tok} {o : List Int} (h : RdS ra ta la sz f M (t :: ts) o) (ht : ¬ (t.1 = 0 ∨ t.1 = -1)) : ∃ M', res 25 [aR ra] M S = some (none, M', S) ∧ FrL ra la M M' ∧ RdS ra ta la sz f M' ts o := by
  obtain ⟨h1, h7, hf, h4, hl, c1, c2, c3, c4, c5⟩ := h
  obtain ⟨p, p1, p2, p3⟩ := c5 ht
  obtain ⟨ρ, z, r1, r7, r3, r4, r5, r6⟩ := adv_ hR hz hf h1 p1 p2
  have ⟨K0, P0, P2, Kt, Lt, ⟨a0, La0, La1, La2, La3, La4, LL1, LL2, LL3, LL4, LP0, LP1, LP2, LP3⟩, ⟨n0, n1, n2⟩, ⟨m0, m1, m2, m3, m4⟩, ⟨t0, t1, t2, t3, t4⟩⟩ := hR
  refine ⟨mrow M ra ρ, z, ⟨fun a ha _ _ _ => mrow_ne _ _ ha, fun j _ => by rw [mrow_ne _ _ (by omega)]⟩, ?_⟩
  unfold RdS
  rw [mrow_eq, mrow_ne _ _ (by omega : ta ≠ ra), mrow_ne _ _ (by omega : la ≠ ra)]
  refine ⟨r1, r7.trans h7, hf, h4, lawP_fr (fun k _ => ?_) hl, ?_⟩
  · rw [mrow_ne _ _ (by omega), mrow_ne _ _ (by omega)]
    exact ⟨rfl, rfl⟩
  · cases ts with
    | nil => exact p3
    | cons t' ts' =>
      unfold hdT
      rw [mrow_eq]
      obtain ⟨e1, e2, e3⟩ := p3
      rw [← e1] at r4 r5 r6
      have ok : tOK t'.1 t'.2.1 := by rw [e1]; exact tk_ok f sz (pl f sz p)
      refine ⟨by rw [r5]; exact tkC_of ok, r4, ?_, r6, fun z2 => ⟨tkE f sz p, r3, (tkE_le p2).2.1, e3 z2⟩⟩
      rw [e1]
      exact Int.natCast_nonneg _
theorem cadd {M : Mem} {ra ta la sz : Nat} {f : Nat → Int} {S : Sh} (hR : RdSh S ra ta la) (hz : sz ≤ 160) {ts : List Tok} {o : List Int} {w v : Int} (h : RdS ra ta la sz f M ts o) (hw : wOK w v) (hn1 : o.length < 160) : ∃ M', res 11 [aR la, aI w, aI v] M S = some (none, M', S) ∧ FrL ra la M M' ∧ RdS ra ta la sz f M' ts (cOf w v :: o) := by
  obtain ⟨h1, h7, hf, h4, hl, hd⟩ := h
  have ⟨K0, P0, P2, Kt, Lt, ⟨a0, La0, La1, La2, La3, La4, LL1, LL2, LL3, LL4, LP0, LP1, LP2, LP3⟩, ⟨n0, n1, n2⟩, ⟨m0, m1, m2, m3, m4⟩, ⟨t0, t1, t2, t3, t4⟩⟩ := hR
  obtain ⟨n, en⟩ : ∃ n, n = o.length := ⟨_, rfl⟩
  rw [← en] at h4 hn1
  refine ⟨mset (mset (mset M (la + 1) n w) (la + 2) n v) la 4 ((n : Int) + 1), ?_, ⟨fun a _ b c d => ?_, fun j hj => ?_⟩, ?_⟩
  · rw [g11]
    simp (disch := omega) only [g11_0, g11_1, g11_4, g11_7t, g11_7f, g11_10, g11_11, g11_14, g11_15, g11_18, g11_19, g11_22, g11_23, g11_26, g11_27, g11_30, g11_31, g11_34, g11_35, g11_36, g11_39, g11_40, g11_41, g11_44, cont_1, cont_0, w32_o, mrow_eq, mrow_ne, mset_mrow, Int.toNat_natCast, nc_1, fset_eq, fset_ne, mset_eq, mset_ne, mset_nk, La0, LP0, LP1, put_in, h4]
  · rw [mset_ne _ _ _ b, mset_ne _ _ _ d, mset_ne _ _ _ c]
  · rw [mset_nk _ hj, mset_ne _ _ _ (by omega), mset_ne _ _ _ (by omega)]
  · unfold RdS
    have er : mset (mset (mset M (la + 1) n w) (la + 2) n v) la 4 ((n : Int) + 1) ra = M ra := by
      rw [mset_ne _ _ _ (by omega), mset_ne _ _ _ (by omega), mset_ne _ _ _ (by omega)]
    have et : mset (mset (mset M (la + 1) n w) (la + 2) n v) la 4 ((n : Int) + 1) ta = M ta := by
      rw [mset_ne _ _ _ (by omega), mset_ne _ _ _ (by omega), mset_ne _ _ _ (by omega)]
    rw [er, et, mset_eq, List.length_cons, ← en]
    refine ⟨h1, h7, hf, by omega, ⟨?_, lawP_fr (fun k hk => ?_) hl⟩, hdT_fr er hd⟩
    · rw [← en]
      have w1 : mset (mset (mset M (la + 1) n w) (la + 2) n v) la 4 ((n : Int) + 1) (la + 1) n = w := by
        simp (disch := omega) only [mset_eq, mset_ne, mset_nk]
      have w2 : mset (mset (mset M (la + 1) n w) (la + 2) n v) la 4 ((n : Int) + 1) (la + 2) n = v := by
        simp (disch := omega) only [mset_eq, mset_ne, mset_nk]
      rw [w1, w2]
      exact ⟨rfl, hw⟩
    · constructor
      · simp (disch := omega) only [mset_eq, mset_ne, mset_nk]
      · simp (disch := omega) only [mset_eq, mset_ne, mset_nk]
theorem cadd_f {M : Mem} {ra ta la : Nat} {S : Sh} (hR : RdSh S ra ta la) {q w v : Int} (h : FaS ra la M q) : ∃ M', res 11 [aR la, aI w, aI v] M S = some (none, M', S) ∧ FrL ra la M M' ∧ FaS ra la M' q := by
  obtain ⟨h5, h7, hq, h4, h4'⟩ := h
  have ⟨K0, P0, P2, Kt, Lt, ⟨a0, La0, La1, La2, La3, La4, LL1, LL2, LL3, LL4, LP0, LP1, LP2, LP3⟩, ⟨n0, n1, n2⟩, ⟨m0, m1, m2, m3, m4⟩, ⟨t0, t1, t2, t3, t4⟩⟩ := hR
  by_cases hn : M la 4 < 160
  · obtain ⟨n, en⟩ : ∃ n : Nat, M la 4 = (n : Int) := ⟨(M la 4).toNat, by omega⟩
    refine ⟨mset (mset (mset M (la + 1) n w) (la + 2) n v) la 4 ((n : Int) + 1), ?_, ⟨fun a _ b c d => ?_, fun j hj => ?_⟩, ?_⟩
    · rw [g11]
      simp (disch := omega) only [g11_0, g11_1, g11_4, g11_7t, g11_7f, g11_10, g11_11, g11_14, g11_15, g11_18, g11_19, g11_22, g11_23, g11_26, g11_27, g11_30, g11_31, g11_34, g11_35, g11_36, g11_39, g11_40, g11_41, g11_44, cont_1, cont_0, w32_o, mrow_eq, mrow_ne, mset_mrow, Int.toNat_natCast, nc_1, fset_eq, fset_ne, mset_eq, mset_ne, mset_nk, La0, LP0, LP1, put_in, en]
    · rw [mset_ne _ _ _ b, mset_ne _ _ _ d, mset_ne _ _ _ c]
    · rw [mset_nk _ hj, mset_ne _ _ _ (by omega), mset_ne _ _ _ (by omega)]
    · unfold FaS
      rw [mset_eq, mset_ne _ _ _ (by omega : ra ≠ la), mset_ne _ _ _ (by omega), mset_ne _ _ _ (by omega)]
      exact ⟨h5, h7, hq, by omega, by omega⟩
  · refine ⟨M, ?_, FrL_r M, h5, h7, hq, h4, h4'⟩
    rw [g11]
    simp (disch := omega) only [g11_0, g11_1, g11_4, g11_7t, g11_7f, g11_10, g11_11, g11_14, g11_15, g11_18, g11_19, g11_22, g11_23, g11_26, g11_27, g11_30, g11_31, g11_34, g11_35, g11_36, g11_39, g11_40, g11_41, g11_44, cont_1, cont_0, w32_o, La0]
theorem cref {M : Mem} {ra ta la sz : Nat} {f : Nat → Int} {S : Sh} (hR : RdSh S ra ta la) {t : Tok} {ts : List Tok} {o : List Int} (h : RdS ra ta la sz f M (t :: ts) o) (hn : o.length ≤ 160) : ∃ M', res 17 [aR ra] M S = some (none, M', S) ∧ FrL ra la M M' ∧ FaS ra la M' t.2.2 := by
  obtain ⟨h1, h7, hf, h4, hl, c1, c2, c3, c4, c5⟩ := h
  have ⟨K0, P0, P2, Kt, Lt, ⟨a0, La0, La1, La2, La3, La4, LL1, LL2, LL3, LL4, LP0, LP1, LP2, LP3⟩, ⟨n0, n1, n2⟩, ⟨m0, m1, m2, m3, m4⟩, ⟨t0, t1, t2, t3, t4⟩⟩ := hR
  refine ⟨mset (mset M ra 7 t.2.2) ra 5 1, ?_, ⟨fun a b _ _ _ => ?_, fun j _ => ?_⟩, ?_⟩
  · rw [g17]
    simp (disch := omega) only [g17_0, g17_1, g17_4, g17_5t, g17_5f, g17_8, g17_9, g17_10, g17_13, g17_16, g17_17, g17_18, g17_21, cont_1, cont_0, w32_o, K0, h7, c2]
  · rw [mset_ne _ _ _ b, mset_ne _ _ _ b]
  · rw [mset_ne _ _ _ (by omega), mset_ne _ _ _ (by omega)]
  · have w5 : mset (mset M ra 7 t.2.2) ra 5 1 ra 5 = 1 := by simp (disch := omega) only [mset_eq, mset_ne, mset_nk]
    have w7 : mset (mset M ra 7 t.2.2) ra 5 1 ra 7 = t.2.2 := by simp (disch := omega) only [mset_eq, mset_nk]
    have w4 : mset (mset M ra 7 t.2.2) ra 5 1 la 4 = M la 4 := by simp (disch := omega) only [mset_ne]
    unfold FaS
    rw [w5, w7, w4]
    exact ⟨rfl, rfl, c3, by omega, by omega⟩
theorem cref_f {M : Mem} {ra ta la : Nat} {S : Sh} (hR : RdSh S ra ta la) {q : Int} (h : FaS ra la M q) : ∃ M', res 17 [aR ra] M S = some (none, M', S) ∧ FrL ra la M M' ∧ FaS ra la M' q := by
  obtain ⟨h5, h7, hq, h4, h4'⟩ := h
  have ⟨K0, P0, P2, Kt, Lt, ⟨a0, La0, La1, La2, La3, La4, LL1, LL2, LL3, LL4, LP0, LP1, LP2, LP3⟩, ⟨n0, n1, n2⟩, ⟨m0, m1, m2, m3, m4⟩, ⟨t0, t1, t2, t3, t4⟩⟩ := hR
  refine ⟨mset M ra 5 1, ?_, ⟨fun a b _ _ _ => ?_, fun j _ => ?_⟩, ?_⟩
  · rw [g17]
    simp (disch := omega) only [g17_0, g17_1, g17_4, g17_5t, g17_5f, g17_8, g17_9, g17_10, g17_13, g17_16, g17_17, g17_18, g17_21, cont_1, cont_0, w32_o, K0, h7]
  · rw [mset_ne _ _ _ b]
  · rw [mset_ne _ _ _ (by omega)]
  · have w5 : mset M ra 5 1 ra 5 = 1 := by simp (disch := omega) only [mset_eq, mset_ne, mset_nk]
    have w7 : mset M ra 5 1 ra 7 = M ra 7 := by simp (disch := omega) only [mset_eq, mset_nk]
    have w4 : mset M ra 5 1 la 4 = M la 4 := by simp (disch := omega) only [mset_ne]
    unfold FaS
    rw [w5, w7, w4]
    exact ⟨rfl, h7, hq, h4, h4'⟩
theorem cexp_y {M : Mem} {ra ta la sz : Nat} {f : Nat → Int} {S : Sh} (hR : RdSh S ra ta la) (hz : sz ≤ 160) {t : Tok} {ts : List Tok} {o : List Int} {w : Int} (h : RdS ra ta la sz f M (t :: ts) o) (ht : ¬ (t.1 = 0 ∨ t.1 = -1)) (hw : M ra 5 = w) : ∃ M', res 18 [aR ra, aI w] M S = some (none, M', S) ∧ FrL ra la M M' ∧ RdS ra ta la sz f M' ts o := by
  obtain ⟨M', z, z1, z2⟩ := cadv hR hz h ht
  have ⟨K0, P0, P2, Kt, Lt, ⟨a0, La0, La1, La2, La3, La4, LL1, LL2, LL3, LL4, LP0, LP1, LP2, LP3⟩, ⟨n0, n1, n2⟩, ⟨m0, m1, m2, m3, m4⟩, ⟨t0, t1, t2, t3, t4⟩⟩ := hR
  refine ⟨M', ?_, z1, z2⟩
  rw [g18]
  simp (disch := omega) only [g18_0, g18_1, g18_4, g18_5t, g18_5f, g18_8, g18_9, g18_12, g18_15, g18_16, g18_19, cont_1, cont_0, w32_o, K0, hw, z]
theorem cexp_n {M : Mem} {ra ta la sz : Nat} {f : Nat → Int} {S : Sh} (hR : RdSh S ra ta la) {t : Tok} {ts : List Tok} {o : List Int} {w : Int} (h : RdS ra ta la sz f M (t :: ts) o) (hn : o.length ≤ 160) (hw : M ra 5 ≠ w) : ∃ M', res 18 [aR ra, aI w] M S = some (none, M', S) ∧ FrL ra la M M' ∧ FaS ra la M' t.2.2 := by
  obtain ⟨M', z, z1, z2⟩ := cref hR h hn
  have ⟨K0, P0, P2, Kt, Lt, ⟨a0, La0, La1, La2, La3, La4, LL1, LL2, LL3, LL4, LP0, LP1, LP2, LP3⟩, ⟨n0, n1, n2⟩, ⟨m0, m1, m2, m3, m4⟩, ⟨t0, t1, t2, t3, t4⟩⟩ := hR
  refine ⟨M', ?_, z1, z2⟩
  rw [g18]
  simp (disch := omega) only [g18_0, g18_1, g18_4, g18_5t, g18_5f, g18_8, g18_9, g18_12, g18_15, g18_16, g18_19, cont_1, cont_0, w32_o, K0, z]
theorem cexp_f {M : Mem} {ra ta la : Nat} {S : Sh} (hR : RdSh S ra ta la) {q w : Int} (h : FaS ra la M q) (hw : w ≠ 1) : ∃ M', res 18 [aR ra, aI w] M S = some (none, M', S) ∧ FrL ra la M M' ∧ FaS ra la M' q := by
  obtain ⟨M', z, z1, z2⟩ := cref_f hR h
  have h5 := h.1
  have ⟨K0, P0, P2, Kt, Lt, ⟨a0, La0, La1, La2, La3, La4, LL1, LL2, LL3, LL4, LP0, LP1, LP2, LP3⟩, ⟨n0, n1, n2⟩, ⟨m0, m1, m2, m3, m4⟩, ⟨t0, t1, t2, t3, t4⟩⟩ := hR
  refine ⟨M', ?_, z1, z2⟩
  rw [g18]
  simp (disch := omega) only [g18_0, g18_1, g18_4, g18_5t, g18_5f, g18_8, g18_9, g18_12, g18_15, g18_16, g18_19, cont_1, cont_0, w32_o, K0, h5, z]
