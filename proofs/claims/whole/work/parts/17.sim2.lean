theorem am_inone0 : ∀ m, m < 179 → (am_at m).2.1.name = "<init>" → (am_at m).2.2.2.2.1 = none := by decide +kernel
theorem am_inone {m : Nat} (h : m < 179) (h2 : (am_at m).2.1.name = "<init>") : (am_at m).2.2.2.2.1 = none := am_inone0 m h h2
theorem step_call {f : AI} {pc : Nat} {ls : Lsl} {st : List AV} {M : Mem} {S : Sh} {q : Nat × List AV × Nat × List AV × Nat} (h : am_step f pc ls st M S = some (Sum.inr (Sum.inr q))) : ∃ (idx : Nat) (m n hr p : Int), f.2.2 = [m, n, hr, p] ∧ ((f.1 = .invokestatic idx ∧ am_call m.toNat n.toNat hr.toNat (pc + 3) st = some (Sum.inr (Sum.inr q))) ∨ (f.1 = .invokespecial idx ∧ rcv m.toNat n.toNat st S (am_call m.toNat n.toNat hr.toNat (pc + 3) st) = some (Sum.inr (Sum.inr q))) ∨ (f.1 = .invokevirtual idx ∧ rcv m.toNat n.toNat st S (am_call m.toNat n.toNat hr.toNat (pc + 3) st) = some (Sum.inr (Sum.inr q)))) := by
  unfold am_step at h
  split at h
  · exact (nx_no h).elim
  · exact (nx_no h).elim
  · exact (nx_no h).elim
  · exact (nx_no h).elim
  · exact (nx_no h).elim
  · split at h
    · exact (nx_no h).elim
    · exact (nx_no h).elim
    · cases h
  · split at h
    · exact (nx_no h).elim
    · cases h
  · split at h
    · exact (nx_no h).elim
    · cases h
  · exact (ld_no (Or.inl h)).elim
  · exact (ld_no (Or.inl h)).elim
  · exact (ld_no (Or.inr (Or.inl h))).elim
  · exact (ld_no (Or.inr (Or.inl h))).elim
  · exact (ld_no (Or.inr (Or.inr h))).elim
  · exact (ld_no (Or.inr (Or.inr h))).elim
  · obtain ⟨_, _, -, h⟩ := pI_inv h
    exact (nx_no h).elim
  · obtain ⟨_, _, -, h⟩ := pI_inv h
    exact (nx_no h).elim
  · obtain ⟨_, _, -, h⟩ := pO_inv h
    exact (nx_no h).elim
  · obtain ⟨_, _, -, h⟩ := pO_inv h
    exact (nx_no h).elim
  · obtain ⟨_, _, -, h⟩ := pL_inv h
    exact (nx_no h).elim
  · obtain ⟨_, _, -, h⟩ := pL_inv h
    exact (nx_no h).elim
  · obtain ⟨_, -, h⟩ := glv_inv h
    split at h
    · exact (nx_no h).elim
    · cases h
  · obtain ⟨_, _, -, h⟩ := pI_inv h
    obtain ⟨_, _, -, h⟩ := pI_inv h
    exact (nx_no h).elim
  · obtain ⟨_, _, -, h⟩ := pI_inv h
    obtain ⟨_, _, -, h⟩ := pI_inv h
    exact (nx_no h).elim
  · obtain ⟨_, _, -, h⟩ := pI_inv h
    obtain ⟨_, _, -, h⟩ := pI_inv h
    exact (nx_no h).elim
  · obtain ⟨_, _, -, h⟩ := pI_inv h
    obtain ⟨_, _, -, h⟩ := pI_inv h
    obtain ⟨-, h⟩ := bnd_inv h
    exact (nx_no h).elim
  · obtain ⟨_, _, -, h⟩ := pI_inv h
    obtain ⟨_, _, -, h⟩ := pI_inv h
    obtain ⟨-, h⟩ := bnd_inv h
    exact (nx_no h).elim
  · obtain ⟨_, _, -, h⟩ := pI_inv h
    exact (nx_no h).elim
  · obtain ⟨_, _, -, h⟩ := pI_inv h
    obtain ⟨_, _, -, h⟩ := pI_inv h
    exact (nx_no h).elim
  · obtain ⟨_, _, -, h⟩ := pI_inv h
    obtain ⟨_, _, -, h⟩ := pI_inv h
    exact (nx_no h).elim
  · obtain ⟨_, _, -, h⟩ := pI_inv h
    obtain ⟨_, _, -, h⟩ := pI_inv h
    exact (nx_no h).elim
  · obtain ⟨_, _, -, h⟩ := pI_inv h
    exact (nx_no h).elim
  · obtain ⟨_, _, -, h⟩ := pI_inv h
    exact (nx_no h).elim
  · obtain ⟨_, _, -, h⟩ := pI_inv h
    exact (nx_no h).elim
  · obtain ⟨_, _, -, h⟩ := pL_inv h
    obtain ⟨_, _, -, h⟩ := pL_inv h
    exact (nx_no h).elim
  · obtain ⟨_, _, -, h⟩ := pL_inv h
    obtain ⟨_, _, -, h⟩ := pL_inv h
    exact (nx_no h).elim
  · obtain ⟨_, _, -, h⟩ := pL_inv h
    obtain ⟨_, _, -, h⟩ := pL_inv h
    obtain ⟨-, h⟩ := bnd_inv h
    exact (nx_no h).elim
  · obtain ⟨_, _, -, h⟩ := pL_inv h
    obtain ⟨_, _, -, h⟩ := pL_inv h
    obtain ⟨-, h⟩ := bnd_inv h
    exact (nx_no h).elim
  · obtain ⟨_, _, -, h⟩ := pL_inv h
    obtain ⟨_, _, -, h⟩ := pL_inv h
    exact (nx_no h).elim
  · split at h
    · exact (nx_no h).elim
    · exact (nx_no h).elim
    · cases h
  · obtain ⟨_, _, -, h⟩ := pI_inv h
    obtain ⟨_, _, -, h⟩ := pR_inv h
    exact (nx_no h).elim
  · obtain ⟨_, _, -, h⟩ := pI_inv h
    exact (nx_no h).elim
  · exact (nx_no h).elim
  · obtain ⟨_, _, -, h⟩ := pI_inv h
    exact (brn_no h).elim
  · obtain ⟨_, _, -, h⟩ := pI_inv h
    obtain ⟨_, _, -, h⟩ := pI_inv h
    exact (brn_no h).elim
  · obtain ⟨_, _, -, h⟩ := pO_inv h
    exact (brn_no h).elim
  · obtain ⟨_, _, -, h⟩ := pO_inv h
    exact (brn_no h).elim
  · obtain ⟨_, _, -, h⟩ := pI_inv h
    split at h
    · exact (nx_no h).elim
    · split at h
      · exact (nx_no h).elim
      · cases h
  · obtain ⟨_, _, -, h⟩ := pI_inv h
    exact (nx_no h).elim
  · split at h
    · exact (nx_no h).elim
    · cases h
  · split at h
    · obtain ⟨_, _, -, h⟩ := pR_inv h
      obtain ⟨-, h⟩ := bnd_inv h
      split at h
      · exact (nx_no h).elim
      · exact (nx_no h).elim
    · cases h
  · split at h
    · split at h
      · obtain ⟨_, _, -, h⟩ := pO_inv h
        obtain ⟨_, _, -, h⟩ := pR_inv h
        obtain ⟨-, h⟩ := bnd_inv h
        exact (nx_no h).elim
      · obtain ⟨_, _, -, h⟩ := pI_inv h
        obtain ⟨_, _, -, h⟩ := pR_inv h
        obtain ⟨-, h⟩ := bnd_inv h
        exact (nx_no h).elim
    · cases h
  · obtain ⟨_, _, -, h⟩ := pR_inv h
    obtain ⟨-, h⟩ := bnd_inv h
    exact (nx_no h).elim
  · obtain ⟨_, _, -, h⟩ := pI_inv h
    obtain ⟨_, _, -, h⟩ := pR_inv h
    obtain ⟨-, h⟩ := bnd_inv h
    exact (nx_no h).elim
  · obtain ⟨_, _, -, h⟩ := pI_inv h
    obtain ⟨_, _, -, h⟩ := pI_inv h
    obtain ⟨_, _, -, h⟩ := pR_inv h
    obtain ⟨-, h⟩ := bnd_inv h
    exact (nx_no h).elim
  · obtain ⟨_, _, -, h⟩ := pI_inv h
    obtain ⟨_, _, -, h⟩ := pR_inv h
    obtain ⟨-, h⟩ := bnd_inv h
    exact (nx_no h).elim
  · obtain ⟨_, _, -, h⟩ := pR_inv h
    obtain ⟨_, _, -, h⟩ := pI_inv h
    obtain ⟨_, _, -, h⟩ := pR_inv h
    obtain ⟨-, h⟩ := bnd_inv h
    exact (nx_no h).elim
  · split at h
    · exact (nx_no h).elim
    · cases h
  · obtain ⟨_, _, -, h⟩ := pI_inv h
    obtain ⟨hb, h⟩ := bnd_inv h
    exact (nx_no h).elim
  · split at h
    · obtain ⟨_, _, -, h⟩ := pI_inv h
      obtain ⟨hb, h⟩ := bnd_inv h
      exact (nx_no h).elim
    · cases h
  · rename_i he
    split at h
    · rename_i m n hr p hi
      exact ⟨_, m, n, hr, p, hi, Or.inl ⟨he, h⟩⟩
    · obtain ⟨_, _, -, h⟩ := pI_inv h
      obtain ⟨_, _, -, h⟩ := pI_inv h
      obtain ⟨_, _, -, h⟩ := pR_inv h
      obtain ⟨_, _, -, h⟩ := pI_inv h
      obtain ⟨_, _, -, h⟩ := pR_inv h
      obtain ⟨-, h⟩ := bnd_inv h
      exact (nx_no h).elim
    · obtain ⟨_, _, -, h⟩ := pI_inv h
      obtain ⟨_, _, -, h⟩ := pI_inv h
      obtain ⟨-, h⟩ := bnd_inv h
      exact (nx_no h).elim
    · obtain ⟨_, _, -, h⟩ := pI_inv h
      obtain ⟨_, _, -, h⟩ := pI_inv h
      obtain ⟨-, h⟩ := bnd_inv h
      exact (nx_no h).elim
    · cases h
  · rename_i he
    split at h
    · rename_i m n hr p hi
      exact ⟨_, m, n, hr, p, hi, Or.inr (Or.inl ⟨he, h⟩)⟩
    · obtain ⟨_, _, -, h⟩ := pR_inv h
      obtain ⟨-, h⟩ := bnd_inv h
      exact (nx_no h).elim
    · cases h
  · rename_i he
    split at h
    · rename_i m n hr p hi
      exact ⟨_, m, n, hr, p, hi, Or.inr (Or.inr ⟨he, h⟩)⟩
    · obtain ⟨_, _, -, h⟩ := pI_inv h
      obtain ⟨_, _, -, h⟩ := pR_inv h
      split at h
      · obtain ⟨-, h⟩ := bnd_inv h
        exact (nx_no h).elim
      · cases h
    · obtain ⟨_, _, -, h⟩ := pR_inv h
      obtain ⟨-, h⟩ := bnd_inv h
      exact (nx_no h).elim
    · cases h
  · split at h
    · first | (cases h; done) | (obtain ⟨-, h⟩ := bnd_inv h; cases h)
    · cases h
  · split at h
    · first | (cases h; done) | (obtain ⟨-, h⟩ := bnd_inv h; cases h)
    · cases h
  · split at h
    · first | (cases h; done) | (obtain ⟨-, h⟩ := bnd_inv h; cases h)
    · cases h
  · split at h
    · first | (cases h; done) | (obtain ⟨-, h⟩ := bnd_inv h; cases h)
    · cases h
  · cases h
theorem mth_i {own : String} {i : Nat} {m n hr p : Int} {s : State} {args : Array Value} {E : am_E} (hts : ∀ w ∈ wsL_law, w.before args s = true) (hSW : am_SW E s s.heap) (h : mth own i m n hr p = true) : m.toNat < 179 ∧ n.toNat = (am_at m.toNat).2.2.2.2.2.2.1 ∧ ((p < 10000 ∧ (Jvm.Cond.methodLink own i (am_at m.toNat).2.1).before args s = true) ∨ (¬ p < 10000 ∧ ∃ host, (Jvm.Cond.methodLinkNest own i (am_at m.toNat).2.1 host).before args s = true)) := by
  unfold mth at h
  obtain ⟨h1, h2⟩ := Bool.and_eq_true_iff.mp h
  have h1 := of_decide_eq_true h1
  refine ⟨by omega, h1.2.2.2.1, ?_⟩
  split at h2
  · rename_i hp
    exact Or.inl ⟨hp, hts _ (tbat_m h2)⟩
  · rename_i hp
    refine Or.inr ⟨hp, ?_⟩
    split at h2
    · rename_i q hq
      obtain ⟨g1, g2, g3⟩ := of_decide_eq_true h2
      have hm := va_Nw.use (A := args) rfl (hSW.2.2.2.2.2.1 q (List.mem_of_getElem? hq))
      rw [g1, g2, g3] at hm
      exact ⟨_, hm⟩
    · cases h2
theorem rb_10 : ∀ m, m < 179 → 10 ≤ am_rb m := by decide +kernel
theorem rk_10 {m : Nat} (h : m < 179) (as : List AV) : 10 ≤ rk m as := Nat.le_trans (rb_10 m h) (Nat.le_add_right _ _)
theorem am_cbN {R : Room} {s : State} {args : Array Value} {own host : String} {index maxL mc ms n k : Nat} {y : MethodName} {bytes : ByteArray} {ret : Option FieldType} (hts : ∀ w ∈ wsL_law, w.before args s = true) (hcw : Jvm.Cond.code y bytes maxL ret ∈ wsL_law) (hini : Jvm.Cond.initialized y.cls ∈ wsL_law) (hl : (Jvm.Cond.methodLinkNest own index y host).before args s = true) (hd : y.cls ≠ "java/lang/invoke/MethodHandle" ∧ y.cls ≠ "java/lang/invoke/VarHandle" ∧ (parseMethodDescriptor y.desc).map (fun d => d.parameters.length) = some n) (hk : k + 1 ≤ R.frames) (hloc : 60 * (k + 1) ≤ R.locals) (hm : maxL ≤ 40) : va_CN R s args own index y host bytes maxL ret (am_ws y bytes maxL ret) (am_rm k mc ms) mc ms n := by
  refine ⟨⟨rfl, rfl, hk, by show 8 + (maxL + 11) + 60 * k ≤ R.locals; omega, am_pay hts hcw, List.mem_cons_self⟩, hts _ hcw, hts _ hini, ⟨hd.1, hd.2.1⟩, fun sig h => ?_, hl⟩
  have h2 := hd.2.2
  rw [h] at h2
  exact (Option.some.inj h2).symm
theorem tr_app (E : am_E) (as t : List AV) : (as.reverse ++ t).map (am_tr E) = (as.map (am_tr E)).reverse ++ t.map (am_tr E) := by rw [List.map_append, List.map_reverse]
theorem tr_appR (E : am_E) (a : Nat) (tl t : List AV) : ((aR a :: tl).reverse ++ t).map (am_tr E) = (tl.map (am_tr E)).reverse ++ Value.ref (am_ro2 E a) :: t.map (am_tr E) := by
  rw [List.reverse_cons, List.append_assoc, List.map_append, List.map_reverse]
  rfl
theorem call_run {p : Program} {l : Launch} {e : Env} {R : Room} {s : State} {mi : MethodId} {args : Array Value} {below : List Frame} {meth : Method} {c : Code} {E : am_E} {N0 U0 m r pc m' hr' pc' : Nat} {ls : Lsl} {st as t : List AV} {M M1 : Mem} {S S1 : Sh} {v1 : Option AV} {f : AI} (C : Cx m r p R s mi args meth c E) (hf : fetch m pc = some f) (hs : am_step f pc ls st M S = some (Sum.inr (Sum.inr (m', as, pc', t, hr')))) (hk : rk m' as < r) (hfit : am_fits m' as = true) (hg : Good m' (rk m' as) 0 (ini m' as) [] M S v1 M1 S1) (hmono : S.2.2.2.1 ≤ S1.2.2.2.1 ∧ S.2.2.2.2 ≤ S1.2.2.2.2) (hN1 : S1.2.2.2.1 ≤ N0 + R.cells) (hU1 : S1.2.2.2.2 ≤ U0 + R.slots) : pc' = pc + 3 ∧ st = as.reverse ++ t ∧ ∀ (H : Heap) (locs : List Loc) (cells slots : Nat) (larr : Array Slot), am_Hy s E N0 U0 (mL m) (mG m) ls (as.reverse ++ t) M S H locs cells slots larr → va_Run p l e R s mi args below meth c H locs cells slots (S1.2.2.2.1 - S.2.2.2.1) (S1.2.2.2.2 - S.2.2.2.2) (F0 mi pc larr ((as.reverse ++ t).map (am_tr E))) (t.map (am_tr E)) (am_Qc E v1 M1 S1 (as.map (am_tr E)).toArray) (am_A E) := by
  obtain ⟨hx, hb, hown, hts, hSW, hnm, hml, hrf, hrl, hr10⟩ := C
  obtain ⟨hd, hok⟩ := fetch_ok hf
  obtain ⟨idx, mI, nI', hrI, pI', hinf, hcase⟩ := step_call hs
  obtain ⟨i, len, inf⟩ := f
  dsimp only at hinf hcase hd
  subst hinf
  rcases hcase with ⟨hi, hc⟩ | ⟨hi, hc⟩ | ⟨hi, hc⟩
  · subst hi
    replace hok : (mth (am_at m).2.1.cls idx mI nI' hrI pI' && isSt mI == 1 && len == 3) = true := hok
    simp only [Bool.and_eq_true, beq_iff_eq] at hok
    obtain ⟨⟨hmt, hst⟩, rfl⟩ := hok
    obtain ⟨hm, hn, hlink⟩ := mth_i hts hSW hmt
    obtain ⟨e1, e2, e3, e4, e5, e6⟩ := call_i hc
    subst e1
    obtain ⟨hpl, hdesc, h40, hini, hcw, hkind⟩ := okMR_i hm
    have hst1 : (am_at mI.toNat).2.2.2.2.2.2.2.1 = 1 := hst
    have hstat := (hkind.resolve_right (fun z => z.1 hst1)).2
    refine ⟨e3, e4, fun H locs cells slots larr hy => ?_⟩
    have ho := hy.ok
    obtain ⟨hR, hL, hS, hM, hLs, hSt, hcc, hss⟩ := id hy
    have has : okSt as := okSt_mem.mpr fun v hv => okSt_mem.mp (okSt_app ho).1 v (List.mem_reverse.mpr hv)
    have hMet := am_met hm l E hg (rk_10 hm as) hmono hfit hM has
    have hcs := cat_sum E t
    have hln : (as.map (am_tr E)).length = (am_at mI.toNat).2.2.2.2.2.2.1 - (1 - (am_at mI.toNat).2.2.2.2.2.2.2.1) := by
      rw [List.length_map, e5, hn, hst1]
      omega
    rcases hlink with ⟨-, hlink⟩ | ⟨-, host, hlink⟩
    · exact va_runS (As := as.map (am_tr E)) (rest := t.map (am_tr E)) ⟨hx, hb, hml, hown, hts⟩ hMet ⟨am_cb hts hcw hini hlink hdesc (by omega) (by omega) h40, hts _ hstat⟩ ⟨am_blind _ _ _ _, am_pre hSW hS hR as⟩ rfl hln hL.1 (tr_app E as t) (by show 2 * 0 + ((t.map (am_tr E)).map fun v => v.category).sum ≤ 8; omega) hd ⟨by omega, by omega⟩
    · exact va_runSN (As := as.map (am_tr E)) (rest := t.map (am_tr E)) ⟨hx, hb, hml, hown, hts⟩ hMet ⟨am_cbN hts hcw hini hlink hdesc (by omega) (by omega) h40, hts _ hstat, trivial⟩ ⟨am_blind _ _ _ _, am_pre hSW hS hR as⟩ rfl hln hL.1 (tr_app E as t) (by show 2 * 0 + ((t.map (am_tr E)).map fun v => v.category).sum ≤ 8; omega) hd ⟨by omega, by omega⟩
  · subst hi
    replace hok : (mth (am_at m).2.1.cls idx mI nI' hrI pI' && isSt mI == 0 && ((am_at mI.toNat).2.1.name == "<init>") && len == 3) = true := hok
    simp only [Bool.and_eq_true, beq_iff_eq] at hok
    obtain ⟨⟨⟨hmt, hst⟩, hinit⟩, rfl⟩ := hok
    obtain ⟨hm, hn, hlink⟩ := mth_i hts hSW hmt
    obtain ⟨hpl, hdesc, h40, hini, hcw, hkind⟩ := okMR_i hm
    have hst1 : (am_at mI.toNat).2.2.2.2.2.2.2.1 = 0 := hst
    obtain ⟨-, hn1, hown7, hcls, hinst, -⟩ := hkind.resolve_left (fun z => by rw [hst1] at z; exact absurd z.1 (by decide))
    obtain ⟨a, tl, e0, hka, hc⟩ := rcv_i (by omega) hc
    obtain ⟨e1, e2, e3, e4, e5, e6⟩ := call_i hc
    subst e1
    subst e0
    refine ⟨e3, e4, fun H locs cells slots larr hy => ?_⟩
    have ho := hy.ok
    obtain ⟨hR, hL, hS, hM, hLs, hSt, hcc, hss⟩ := id hy
    have has : okSt (aR a :: tl) := okSt_mem.mpr fun v hv => okSt_mem.mp (okSt_app ho).1 v (List.mem_reverse.mpr hv)
    have hMet := am_met hm l E hg (rk_10 hm _) hmono hfit hM has
    have hcs := cat_sum E t
    have hret : (am_at mI.toNat).2.2.2.2.1 = none := am_inone hm hinit
    rw [hret] at hMet hcw
    have hln : (tl.map (am_tr E)).length = (am_at mI.toNat).2.2.2.2.2.2.1 - (1 - (am_at mI.toNat).2.2.2.2.2.2.2.1) := by
      rw [List.length_map, ← hn, ← e5, List.length_cons, hst1]
      omega
    rcases hlink with ⟨-, hlink⟩ | ⟨-, host, hlink⟩
    · exact va_runI (b := am_ro2 E a) (As := tl.map (am_tr E)) (rest := t.map (am_tr E)) ⟨hx, hb, hml, hown, hts⟩ hMet ⟨am_cb hts hcw hini hlink hdesc (by omega) (by omega) h40, hinit, hts _ hinst⟩ ⟨am_blind _ _ _ _, am_pre hSW hS hR (aR a :: tl)⟩ rfl hln hL.1 (tr_appR E a tl t) (by show 2 * 0 + ((t.map (am_tr E)).map fun v => v.category).sum ≤ 8; omega) hd ⟨by omega, by omega⟩
    · exact va_runIN (b := am_ro2 E a) (As := tl.map (am_tr E)) (rest := t.map (am_tr E)) ⟨hx, hb, hml, hown, hts⟩ hMet ⟨am_cbN hts hcw hini hlink hdesc (by omega) (by omega) h40, hinit, hts _ hinst⟩ ⟨am_blind _ _ _ _, am_pre hSW hS hR (aR a :: tl)⟩ rfl hln hL.1 (tr_appR E a tl t) (by show 2 * 0 + ((t.map (am_tr E)).map fun v => v.category).sum ≤ 8; omega) hd ⟨by omega, by omega⟩
  · subst hi
    replace hok : (mth (am_at m).2.1.cls idx mI nI' hrI pI' && isSt mI == 0 && decide (pI' < 10000) && !((am_at mI.toNat).2.1.name == "<init>") && len == 3) = true := hok
    simp only [Bool.and_eq_true, beq_iff_eq, decide_eq_true_eq, Bool.not_eq_true', beq_eq_false_iff_ne] at hok
    obtain ⟨⟨⟨⟨hmt, hst⟩, hp⟩, hinit⟩, rfl⟩ := hok
    obtain ⟨hm, hn, hlink⟩ := mth_i hts hSW hmt
    obtain ⟨hpl, hdesc, h40, hini, hcw, hkind⟩ := okMR_i hm
    have hst1 : (am_at mI.toNat).2.2.2.2.2.2.2.1 = 0 := hst
    obtain ⟨-, hn1, hown7, hcls, hinst, hsel⟩ := hkind.resolve_left (fun z => by rw [hst1] at z; exact absurd z.1 (by decide))
    have hsel := hsel.resolve_left hinit
    obtain ⟨a, tl, e0, hka, hc⟩ := rcv_i (by omega) hc
    obtain ⟨e1, e2, e3, e4, e5, e6⟩ := call_i hc
    subst e1
    subst e0
    refine ⟨e3, e4, fun H locs cells slots larr hy => ?_⟩
    have ho := hy.ok
    obtain ⟨hR, hL, hS, hM, hLs, hSt, hcc, hss⟩ := id hy
    have has : okSt (aR a :: tl) := okSt_mem.mpr fun v hv => okSt_mem.mp (okSt_app ho).1 v (List.mem_reverse.mpr hv)
    have hMet := am_met hm l E hg (rk_10 hm _) hmono hfit hM has
    have hcs := cat_sum E t
    have hln : (tl.map (am_tr E)).length = (am_at mI.toNat).2.2.2.2.2.2.1 - (1 - (am_at mI.toNat).2.2.2.2.2.2.2.1) := by
      rw [List.length_map, ← hn, ← e5, List.length_cons, hst1]
      omega
    have hka' : S.1 a = (am_at mI.toNat).2.2.2.2.2.1 := hka
    have hca := hR.cell (a := a) (by omega) (hR.lo (by omega) (by omega))
    rw [cellO (by omega), hka'] at hca
    have hrcv := va_recv hSW.1 (P1 hca) (q0 := 0) (cl_get _ hown7) rfl
    rw [hcls] at hrcv
    have hlink := (hlink.resolve_right (fun z => z.1 hp)).2
    exact va_runV (C := (am_at mI.toNat).2.1.cls) (b := am_ro2 E a) (As := tl.map (am_tr E)) (rest := t.map (am_tr E)) ⟨hx, hb, hml, hown, hts⟩ hMet ⟨am_cb hts hcw hini hlink hdesc (by omega) (by omega) h40, hts _ hinst, hts _ hsel⟩ ⟨am_blind _ _ _ _, hrcv, am_pre hSW hS hR (aR a :: tl)⟩ rfl hln hL.1 (tr_appR E a tl t) (by show 2 * 0 + ((t.map (am_tr E)).map fun v => v.category).sum ≤ 8; omega) hd ⟨by omega, by omega⟩
/-- THE SIMULATION: what a run of the abstract machine says, the machine does -/
theorem am_sim : ∀ (n r m pc : Nat) (ls : Lsl) (st : List AV) (M : Mem) (S : Sh) (v : Option AV) (M' : Mem) (S' : Sh), am_run n r m pc ls st M S = some (v, M', S') → (∀ a, S.2.1 a ≤ 100000) → Good m r pc ls st M S v M' S' := by
  intro n
  induction n with
  | zero => intro r m pc ls st M S v M' S' h; cases h
  | succ n ih =>
    intro r m pc ls st M S v Mf Sf h hLn p l e R s mi args below meth c Q E N0 U0 C hcN hsN hret
    have hmono := run_mono _ _ _ _ _ _ _ _ _ h
    dsimp only at hmono
    rw [am_run] at h
    cases hf : fetch m pc with
    | none => rw [hf] at h; cases h
    | some f =>
      rw [hf, Option.bind_some] at h
      cases hs : am_step f pc ls st M S with
      | none => rw [hs] at h; cases h
      | some rr =>
        rw [hs] at h
        rcases rr with ⟨pc', ls', st', M', S'⟩ | w | ⟨m', as, pc', st', hr⟩
        · have hm2 := run_mono _ _ _ _ _ _ _ _ _ h
          dsimp only at hm2
          have hk := ih _ _ _ _ _ _ _ _ _ _ h ((step_mono hs).2.2 hLn) (l := l) (e := e) (below := below) (Q := Q) (N0 := N0) (U0 := U0) C hcN hsN hret
          obtain ⟨hd, hok⟩ := fetch_ok hf
          obtain ⟨hx, hb, hown, hts, hSW, hnm, hml, hrf, hrl, hr10⟩ := C
          obtain ⟨i, len, inf⟩ := f
          exact so_step (own := (am_at m).2.1.cls) (nm := (am_at m).2.1.name) (ret := (am_at m).2.2.2.2.1) (cc := (am_at m).2.2.1) ⟨hx, hb, hown, hts, hSW, hnm, hml, by omega, by omega, by omega, by omega, by omega, by omega, hLn⟩ hd hok hs hk
        · cases h
          exact hret f pc ls st hf hs
        · dsimp only at h
          split at h
          · rename_i hkf
            cases h1 : am_run n (rk m' as) m' 0 (ini m' as) [] M S with
            | none => rw [h1] at h; cases h
            | some y =>
              rw [h1] at h
              obtain ⟨v1, M1, S1⟩ := y
              dsimp only at h
              cases hbk : am_back v1 hr st' with
              | none => rw [hbk] at h; cases h
              | some st1 =>
                rw [hbk] at h
                dsimp only at h
                have hm1 := run_mono _ _ _ _ _ _ _ _ _ h1
                have hm2 := run_mono _ _ _ _ _ _ _ _ _ h
                dsimp only at hm1 hm2
                have hg : Good m' (rk m' as) 0 (ini m' as) [] M S v1 M1 S1 := @ih _ _ _ _ _ _ _ _ _ _ h1 hLn
                have hk := ih _ _ _ _ _ _ _ _ _ _ h (hm1.2.2 hLn) (l := l) (e := e) (below := below) (Q := Q) (N0 := N0) (U0 := U0) C hcN hsN hret
                obtain ⟨e1, e2, hrun⟩ := call_run (l := l) (e := e) (below := below) (N0 := N0) (U0 := U0) C hf hs hkf.1 hkf.2 hg ⟨hm1.1, hm1.2.1⟩ (by omega) (by omega)
                subst e1
                subst e2
                exact so_call (m' := m') ⟨hm1.1, hm1.2.1⟩ hbk hrun hk
          · cases h
