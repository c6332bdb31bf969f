theorem bnd_t {c : Prop} [Decidable c] {k : Option Rs} (h : c) : bnd c k = k := if_pos h
theorem go_bnd {r m pc pc' : Nat} {ls ls' : Lsl} {st st' : List AV} {M M' : Mem} {S S' : Sh} {f : AI} {c : Prop} [Decidable c] (hf : fetch m pc = some f) (hc : c) (hs : am_step f pc ls st M S = bnd c (nx pc' ls' st' M' S')) : go r m pc ls st M S = go r m pc' ls' st' M' S' := go_nx hf (hs.trans (bnd_t hc))
theorem go_br {r m pc p1 p2 : Nat} {ls : Lsl} {st st' : List AV} {M : Mem} {S : Sh} {f : AI} {off : Int} {b : Bool} {P : Prop} [Decidable P] (hf : fetch m pc = some f) (hs : am_step f pc ls st M S = brn (b = true) pc off ls st' M S) (hP : b = decide P) (h1 : tgt pc off = p1) (h2 : pc + 3 = p2) : go r m pc ls st M S = if P then go r m p1 ls st' M S else go r m p2 ls st' M S := by
  subst h1
  subst h2
  subst hP
  by_cases h : P
  · rw [if_pos h]
    exact go_nx hf (hs.trans (if_pos (decide_eq_true h)))
  · rw [if_neg h]
    exact go_nx hf (hs.trans (if_neg (fun z => h (of_decide_eq_true z))))
theorem go_c {r m pc m' pc' hr n : Nat} {ls : Lsl} {st st' as : List AV} {M : Mem} {S : Sh} {f : AI} (hf : fetch m pc = some f) (hs : am_step f pc ls st M S = am_call m' n hr pc' st) (h1 : (Nat.ble n st.length && Nat.ble (st.drop n).length 4) = true) (h2 : (st.take n).reverse = as) (h3 : st.drop n = st') (h4 : rk m' as < r) (h5 : am_fits m' as = true) : go r m pc ls st M S = cont r m pc' ls st' hr (res m' as M S) := by
  subst h2
  subst h3
  obtain ⟨a, b⟩ := Bool.and_eq_true_iff.mp h1
  exact go_call hf (hs.trans (if_pos ⟨Nat.le_of_ble_eq_true a, Nat.le_of_ble_eq_true b⟩)) ⟨h4, h5⟩
theorem go_cr {r m pc m' pc' hr n a : Nat} {ls : Lsl} {st st' as tl : List AV} {M : Mem} {S : Sh} {f : AI} (hf : fetch m pc = some f) (hs : am_step f pc ls st M S = rcv m' n st S (am_call m' n hr pc' st)) (h0 : st.drop (n - 1) = aR a :: tl) (hK : S.1 a = am_own m') (h1 : (Nat.ble n st.length && Nat.ble (st.drop n).length 4) = true) (h2 : (st.take n).reverse = as) (h3 : st.drop n = st') (h4 : rk m' as < r) (h5 : am_fits m' as = true) : go r m pc ls st M S = cont r m pc' ls st' hr (res m' as M S) := by
  refine go_c hf (hs.trans ?_) h1 h2 h3 h4 h5
  unfold rcv
  rw [h0]
  exact bnd_t hK
theorem rk0 {m : Nat} (h : am_ro m = 0) (as : List AV) : rk m as = am_rb m := by
  unfold rk
  rw [h, Nat.zero_mul, Nat.add_zero]
theorem go_c0 {r m pc m' pc' hr n : Nat} {ls : Lsl} {st st' as : List AV} {M : Mem} {S : Sh} {f : AI} (hf : fetch m pc = some f) (hs : am_step f pc ls st M S = am_call m' n hr pc' st) (h1 : (Nat.ble n st.length && Nat.ble (st.drop n).length 4) = true) (h2 : (st.take n).reverse = as) (h3 : st.drop n = st') (h0 : am_ro m' = 0) (h4 : am_rb m' < r) (h5 : am_fits m' as = true) : go r m pc ls st M S = cont r m pc' ls st' hr (res m' as M S) := go_c hf hs h1 h2 h3 ((rk0 h0 as).symm ▸ h4) h5
theorem go_cr0 {r m pc m' pc' hr n a : Nat} {ls : Lsl} {st st' as tl : List AV} {M : Mem} {S : Sh} {f : AI} (hf : fetch m pc = some f) (hs : am_step f pc ls st M S = rcv m' n st S (am_call m' n hr pc' st)) (hd : st.drop (n - 1) = aR a :: tl) (hK : S.1 a = am_own m') (h1 : (Nat.ble n st.length && Nat.ble (st.drop n).length 4) = true) (h2 : (st.take n).reverse = as) (h3 : st.drop n = st') (h0 : am_ro m' = 0) (h4 : am_rb m' < r) (h5 : am_fits m' as = true) : go r m pc ls st M S = cont r m pc' ls st' hr (res m' as M S) := go_cr hf hs hd hK h1 h2 h3 ((rk0 h0 as).symm ▸ h4) h5
theorem res_e0 {m : Nat} (h : am_ro m = 0) (as : List AV) (M : Mem) (S : Sh) : res m as M S = go (am_rb m) m 0 (ini m as) [] M S := by
  unfold res
  rw [rk0 h]
theorem res_eq (m : Nat) (as : List AV) (M : Mem) (S : Sh) : res m as M S = go (rk m as) m 0 (ini m as) [] M S := rfl
