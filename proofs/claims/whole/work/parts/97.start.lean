/-! the start -/
def am_sp (t0 t1 t2 b : Nat) (k v : Nat → Nat) : Nat → Nat := fun a => if a = 0 then t0 else if a = 1 then t1 else if a = 2 then t2 else if a = 5 then b else if a < 5 then k (a - 3) else v (a - 6)
theorem lt2 {P : Nat → Prop} (h0 : P 0) (h1 : P 1) : ∀ i, i < 2 → P i := by
  intro i hi
  rcases (by omega : i = 0 ∨ i = 1) with rfl | rfl
  · exact h0
  · exact h1
theorem sw_start {s : State} {b L : Nat} {xs : Nat → Int32} (hts : ∀ w ∈ lw_tbl, w.before #[Value.ref b] s = true) (hX : va_X b L xs s s.heap) (hbl : b < s.heap.size) (hgv : (Jvm.Cond.and given_1 narrow_1).before #[Value.ref b] s = true) : ∃ E : am_E, E.1 5 = b ∧ E.2.1 = s.heap.size ∧ E.2.2.2.2.1 = M0 (fun j => (xs j).toInt) ∧ E.2.2.2.2.2 = tLn L 6 ∧ am_SW E s s.heap := by
  have hs : ∀ c ∈ nrL, c.before #[Value.ref b] s = true := flat_of_before _ hgv
  have hw : ∀ w ∈ wsL_law, w.before #[Value.ref b] s = true := fun w h => hts w (ws_in w h)
  have hA : ∀ a : Nat, a < s.heap.size → ¬ (fun q : Nat => s.heap.size ≤ q) a := fun a h => Nat.not_le.mpr h
  obtain ⟨c0, i0, kn0⟩ := u_known (C := RX0) (T := TX0) (N := 8) (n := 8) hts inX0 (hw _ (List.mem_of_getElem? (i := 25) rfl))
  obtain ⟨c1, i1, kn1⟩ := u_known (C := RX1) (T := TX1) (N := 5) (n := 5) hts inX1 (hw _ (List.mem_of_getElem? (i := 29) rfl))
  obtain ⟨c2, i2, kn2⟩ := u_known (C := RX2) (T := TX2) (N := 8) (n := 8) hts inX2 (hw _ (List.mem_of_getElem? (i := 61) rfl))
  obtain ⟨c3, i3, kn3⟩ := u_known (C := RX3) (T := TX3) (N := 15) (n := 15) hts inX3 (hw _ (List.mem_of_getElem? (i := 13) rfl))
  obtain ⟨c4, i4, kn4⟩ := u_known (C := RX4) (T := TX4) (N := 3) (n := 3) hts inX4 (hw _ (List.mem_of_getElem? (i := 32) rfl))
  obtain ⟨c5, i5, kn5⟩ := u_known (C := RX5) (T := TX5) (N := 11) (n := 11) hts inX5 (hw _ (List.mem_of_getElem? (i := 1) rfl))
  obtain ⟨c6, i6, kn6⟩ := u_known (C := RX6) (T := TX6) (N := 47) (n := 47) hts inX6 (hw _ (List.mem_of_getElem? (i := 4) rfl))
  obtain ⟨dC, dI, hKc⟩ : ∃ (dC : Nat → ClassId) (dI : Nat → Nat → Nat), ∀ (k : Nat) (q : vw_C), vwCl[k]? = some q → u_Kn s q.1 q.2.1 q.2.2 (dC k) (dI k) := by
    refine ⟨fun k => if k = 0 then c0 else if k = 1 then c1 else if k = 2 then c2 else if k = 3 then c3 else if k = 4 then c4 else if k = 5 then c5 else c6, fun k => if k = 0 then i0 else if k = 1 then i1 else if k = 2 then i2 else if k = 3 then i3 else if k = 4 then i4 else if k = 5 then i5 else i6, ?_⟩
    intro k q hq
    match k, hq with
    | 0, hq => cases hq; exact kn0
    | 1, hq => cases hq; exact kn1
    | 2, hq => cases hq; exact kn2
    | 3, hq => cases hq; exact kn3
    | 4, hq => cases hq; exact kn4
    | 5, hq => cases hq; exact kn5
    | 6, hq => cases hq; exact kn6
    | k + 7, hq => cases hq
  obtain ⟨cI, kI, compI, e1, e2, e3⟩ := Cond.arrayClass_spec (hw _ (List.mem_of_getElem? (i := 20) rfl))
  obtain ⟨compL, cL, kL, f1, f2, f3, f4, f5⟩ := Cond.arrayOver_spec (hts _ tb_ao.1)
  obtain ⟨compS, cS, kS, g1, g2, g3, g4, g5⟩ := Cond.arrayOver_spec (hts _ tb_ao.2)
  have hTy : ∀ (k : Nat) (q : ClassId × FieldType), ([(cI, .int), (cL, .object RX1), (cS, .object RX4)] : List (ClassId × FieldType))[k]? = some q → ArrOfT s q.1 q.2 ∧ va_RA s q.1 q.2 := by
    intro k q hq
    match k, hq with
    | 0, hq => cases hq; exact ⟨fun n z => ⟨(fun k h => by cases h), kI, e2, compI, e3⟩, e1⟩
    | 1, hq => cases hq; exact ⟨fun n z => ⟨(fun k h => by cases h), kL, f3, compL, f4⟩, kL, compL, f3, f4, f1, f5⟩
    | 2, hq => cases hq; exact ⟨fun n z => ⟨(fun k h => by cases h), kS, g3, compS, g4⟩, kS, compS, g3, g4, g1, g5⟩
    | k + 3, hq => cases hq
  obtain ⟨t0, y0, T0⟩ := va_Tof (tm := .static "StripsFromAbove" "ABOVE" "[I") (ty := .int) (N := 6) (f := fun j => .int (Int32.ofInt (([-1, 0, 0, 1, 2, 0] : List Int).getD j 0))) (A := fun q : Nat => s.heap.size ≤ q) (by decide) (hs _ nr_ABOVE.1) (va_eqt (hs _ nr_ABOVE.2.1)) (fun j hj => va_eqt (hs _ (nr_ABOVE.2.2 j hj))) hA
  have Z0 := va_Zof (hts _ tb_ABOVE) (hw _ (List.mem_of_getElem? (i := 2) rfl)) y0 hA
  obtain ⟨t1, y1, T1⟩ := va_Tof (tm := .static "StripsFromAbove" "LEAST_SAID" "[I") (ty := .int) (N := 3) (f := fun j => .int (Int32.ofInt (([0, -9, 0] : List Int).getD j 0))) (A := fun q : Nat => s.heap.size ≤ q) (by decide) (hs _ nr_LEAST_SAID.1) (va_eqt (hs _ nr_LEAST_SAID.2.1)) (fun j hj => va_eqt (hs _ (nr_LEAST_SAID.2.2 j hj))) hA
  have Z1 := va_Zof (hts _ tb_LEAST_SAID) (hw _ (List.mem_of_getElem? (i := 2) rfl)) y1 hA
  obtain ⟨t2, y2, T2⟩ := va_Tof (tm := .static "StripsFromAbove" "MOST_SAID" "[I") (ty := .int) (N := 3) (f := fun j => .int (Int32.ofInt (([9, 9, 100] : List Int).getD j 0))) (A := fun q : Nat => s.heap.size ≤ q) (by decide) (hs _ nr_MOST_SAID.1) (va_eqt (hs _ nr_MOST_SAID.2.1)) (fun j hj => va_eqt (hs _ (nr_MOST_SAID.2.2 j hj))) hA
  have Z2 := va_Zof (hts _ tb_MOST_SAID) (hw _ (List.mem_of_getElem? (i := 2) rfl)) y2 hA
  obtain ⟨adK, adV, VS, hadK⟩ := vk_Sof (N := 2) (tm := tmS) (len := [40, 72]) (byt := am_byt) (A := fun q : Nat => s.heap.size ≤ q) (lt2 (by decide) (by decide)) (fun i hi => hs _ (nr_str i hi).1) (fun i hi => hs _ (nr_str i hi).2.1) (fun i hi => hs _ (nr_str i hi).2.2.1) (fun i hi => hs _ (nr_str i hi).2.2.2) (fun i hi j hj => hs _ (nr_byt i hi j hj)) (fun i j hi hj hij => by
    rcases (by omega : (i = 0 ∧ j = 1) ∨ (i = 1 ∧ j = 0)) with ⟨rfl, rfl⟩ | ⟨rfl, rfl⟩
    · rcases nr_ne with h | h
      · exact Or.inl (hs _ h)
      · exact Or.inr (hs _ h)
    · rcases nr_ne with h | h
      · exact Or.inr (hs _ h)
      · exact Or.inl (hs _ h)) hA
  have R3 : vk_R "StripsFromAbove" 58 am_tx3 (adK 0) s := vk_R.of (hts _ tb_str.1) (hadK 0 (by omega))
  have R4 : vk_R "StripsFromAbove$Reader" 105 am_tx4 (adK 1) s := vk_R.of (hts _ tb_str.2) (hadK 1 (by omega))
  have Zc := va_Zof (A := fun q : Nat => s.heap.size ≤ q) (hts _ tb_cs.1) (hts _ tb_cs.2.1) (va_eqi (hs _ nr_cs.1)) hA
  have Zq := va_Zqof (A := fun q : Nat => s.heap.size ≤ q) (hts _ tb_cs.2.2.1) (hts _ tb_cs.2.2.2) (hs _ nr_cs.2) hA
  obtain ⟨scr, h1, h2, h3, h4, h5⟩ := hX
  have T5 : va_T .int b L (fun j => .int (Int32.ofInt (xs j).toInt)) (fun q : Nat => s.heap.size ≤ q) s s.heap := ⟨scr, h1, h2, h3, by omega, by rw [h4], fun j hj => by rw [h5 j hj]; show some (Value.int (xs j)) = some (Value.int (Int32.ofInt (xs j).toInt)); rw [Int32.ofInt_toInt], hA b hbl⟩
  refine ⟨(am_sp t0 t1 t2 b adK adV, s.heap.size, (dC, dI), (cI, cL, cS), M0 (fun j => (xs j).toInt), tLn L 6), rfl, rfl, rfl, rfl, ⟨hKc, hTy⟩, Z0, Z1, Z2, ?_, fun q hq => va_tabs rfl rfl (hts _ (tb_NM q hq)), fun q hq => va_tabs rfl rfl (hts _ (tb_NF q hq)), va_AO.of (hts _ tb_ao.1), va_AO.of (hts _ tb_ao.2), ⟨lt2 (VS.1 0 (by omega)) (VS.1 1 (by omega)), fun i j hi hj e => ?_⟩, R3, R4, Zc, Zq⟩
  · intro a ha h3 h4
    rcases (by omega : a = 0 ∨ a = 1 ∨ a = 2 ∨ a = 5) with rfl | rfl | rfl | rfl
    · exact T0
    · exact T1
    · exact T2
    · exact T5
  · rcases (by omega : i = 0 ∨ i = 1) with rfl | rfl
    · rcases (by omega : j = 0 ∨ j = 1) with rfl | rfl
      · rfl
      · exact VS.2 0 1 (by omega) (by omega) e
    · rcases (by omega : j = 0 ∨ j = 1) with rfl | rfl
      · exact VS.2 1 0 (by omega) (by omega) e
      · rfl
theorem M0_ok {sc : Nat → Int} (h : ∀ j, -2147483648 ≤ sc j ∧ sc j < 2147483648) : okM (M0 sc) := by
  have z : r32 0 := by unfold r32; omega
  have l6 : ∀ k, r32 (([-1, 0, 0, 1, 2, 0] : List Int).getD k 0) := fun k => by
    rcases (by omega : k = 0 ∨ k = 1 ∨ k = 2 ∨ k = 3 ∨ k = 4 ∨ k = 5 ∨ 6 ≤ k) with rfl | rfl | rfl | rfl | rfl | rfl | hk
    · show r32 (-1); unfold r32; omega
    · exact z
    · exact z
    · show r32 1; unfold r32; omega
    · show r32 2; unfold r32; omega
    · exact z
    · rw [List.getD_eq_getElem?_getD, List.getElem?_eq_none (by show 6 ≤ k; omega)]; exact z
  have l3 : ∀ x y w : Int, r32 x → r32 y → r32 w → ∀ k, r32 (([x, y, w] : List Int).getD k 0) := fun x y w hx hy hw k => by
    rcases (by omega : k = 0 ∨ k = 1 ∨ k = 2 ∨ 3 ≤ k) with rfl | rfl | rfl | hk
    · exact hx
    · exact hy
    · exact hw
    · rw [List.getD_eq_getElem?_getD, List.getElem?_eq_none (by show 3 ≤ k; omega)]; exact z
  intro a k
  unfold M0
  by_cases h5 : a = 5
  · rw [if_pos h5]; exact h k
  rw [if_neg h5]
  by_cases h0 : a = 0
  · rw [if_pos h0]; exact l6 k
  rw [if_neg h0]
  by_cases h1 : a = 1
  · rw [if_pos h1]; exact l3 0 (-9) 0 z (by unfold r32; omega) z k
  rw [if_neg h1]
  by_cases h2 : a = 2
  · rw [if_pos h2]; exact l3 9 9 100 (by unfold r32; omega) (by unfold r32; omega) (by unfold r32; omega) k
  rw [if_neg h2]
  exact z
theorem tLn_le {L : Nat} (hL : L ≤ 3584) : ∀ a, tLn L 6 a ≤ 100000 := by
  intro a
  unfold tLn
  by_cases h5 : a = 5
  · rw [if_pos h5]; omega
  rw [if_neg h5]
  by_cases h6 : a < 6
  · rw [if_pos h6]
    rcases (by omega : a = 0 ∨ a = 1 ∨ a = 2 ∨ a = 3 ∨ a = 4) with rfl | rfl | rfl | rfl | rfl
    all_goals exact Nat.le_of_ble_eq_true rfl
  · rw [if_neg h6]; omega
def rt1 (f : AI) : Bool := match f.1 with
  | .ireturn => decide (f.2.1 = 1)
  | _ => true
theorem rt_179 : (am_at 179).1.all (fun q => rtI q.2) = true ∧ (am_at 179).1.all (fun q => rt1 q.2) = true := ⟨by decide +kernel, by decide +kernel⟩
/-! THE CLAIM OUT OF ONE WALK OF THE LAW'S BODY. Your part is whole_start (and what it stands on); all else here is the same for every law, but numbers. -/
def R_law : String := "StripsFromAboveLaw"
def lw_P (b : Addr) (xs : List Int32) (args : Array Value) (s : State) : Prop := args = #[.ref b] ∧ s.IntsAt b xs ∧ xs.length ≤ 3584 ∧ (Jvm.Cond.and given_1 narrow_1).before args s = true
def lw_Q (_ : Array Value) (s : State) (o : Outcome) (t : State) : Prop := o = .returned (some (.int 1)) ∧ Framed s o t [] 600000 7302250
def lw_Z (below : List Frame) (a : Array Value) (s : State) : State → Prop := fun t => ∃ o, t.status = .running ∧ Ended t below o ∧ lw_Q a s o t
/-- the law's own end, with 1 on the stack, nothing written that was there before, its room as the claim has it -/
theorem lw_ret {p : Program} {l : Launch} {e : Env} {s : State} {m : MethodId} {below : List Frame} {meth : Method} {c : Code} {b : Nat} (hx : p.tables.exec = Jvm.exec) (hb : c.code = code) (hr : meth.sig.returnType = ret) (hlocks : meth.locks = false) {pc : Nat} {H : Heap} {ls : Array Slot} (hdg : decode code pc = .ok (.ireturn, 1)) : W p l e room_1 s m #[Value.ref b] below meth c H [] 600000 7302250 (lw_Z below #[Value.ref b] s) (F0 m pc ls [.int 1]) := by
  intro T hT X
  obtain ⟨fs, hret, hrun, hended, hW, hframe⟩ := X.leave (v := some (.int 1)) (hlocks := hlocks) (fun h => by rw [hr] at h; cases h)
  have hmeth' : T.vm.method? m = some meth := X.method'
  refine ⟨T.setFrames fs, ?_, .returned (some (.int 1)), hrun, hended, rfl, ⟨_, rfl⟩, hW, hframe⟩
  jvm_step X.here [X.here.top, hx, hb, hdg, hmeth', hr, ret, narrow_b1]
  (try refine ⟨rfl, ?_⟩); (try refine ⟨rfl, ?_⟩)
  first | (intro acts; rw [hret _ acts rfl rfl rfl]) | rw [hret _ _ rfl rfl rfl]
  exact Steps.refl _
/-- what holds at the law's entry: the machine, the code, the tables' words (any of lw_tbl by 'hts w (by decide +kernel)'), the script of L ints xs at the cell b, what the Statement gives of the start (any of its parts by flat_of_before) -/
def lw_At (p : Program) (s : State) (m : MethodId) (meth : Method) (c : Code) (b L : Nat) (xs : Nat → Int32) : Prop :=
  p.tables.exec = Jvm.exec ∧ c.code = code ∧ meth.sig.returnType = ret ∧ c.maxLocals = 4 ∧ s.vm.findClass R_law = some m.cls ∧ (∀ w ∈ lw_tbl, w.before #[Value.ref b] s = true) ∧ va_X b L xs s s.heap ∧ b < s.heap.size ∧ meth.locks = false ∧ (Jvm.Cond.and given_1 narrow_1).before #[Value.ref b] s = true ∧ meth.name = "law"
theorem whole_start {p : Program} {e : Env} {s : State} {m : MethodId} {below : List Frame} {meth : Method} {c : Code} (l : Launch) (hflags : l.flags = flags0) {b L : Nat} {xs : Nat → Int32} (hL : L ≤ 3584) (C0 : lw_At p s m meth c b L xs) : W p l e room_1 s m #[Value.ref b] below meth c s.heap [] 0 0 (lw_Z below #[Value.ref b] s) (entryFrame m ([Value.ref b] : List Value).toArray 4) := by
  obtain ⟨hx, hb, hr, hml, hown, hts, hX, hbl, hlocks, hgv, hname⟩ := id C0
  obtain ⟨E, e5, eB, eM, eL, hSW⟩ := sw_start hts hX hbl hgv
  obtain ⟨sc, hsc0⟩ : ∃ sc : Nat → Int, sc = fun j => (xs j).toInt := ⟨_, rfl⟩
  have hsc : ∀ j, -2147483648 ≤ sc j ∧ sc j < 2147483648 := fun j => by
    rw [hsc0]
    exact i32_r (xs j)
  rw [← hsc0] at eM
  obtain ⟨M', S', hres, hN, hU⟩ := law_all (n := L) hsc hL
  rw [res_eq] at hres
  obtain ⟨n, hn⟩ := go_iff.mp hres
  have hg : Good 179 (rk 179 [aR 5]) 0 (ini 179 [aR 5]) [] (M0 sc) (sS L 6 0 0) (some (aI 1)) M' S' := am_sim _ _ _ _ _ _ _ _ _ _ _ hn (tLn_le hL)
  have hw : ∀ w ∈ wsL_law, w.before #[Value.ref b] s = true := fun w h => hts w (ws_in w h)
  have C : Cx 179 (rk 179 [aR 5]) p room_1 s m #[Value.ref b] meth c E := ⟨hx, hb, hown, hw, hSW, hname, hml, Nat.le_of_ble_eq_true rfl, Nat.le_of_ble_eq_true rfl, Nat.le_of_ble_eq_true rfl⟩
  have hret : RetOK p l e room_1 s m #[Value.ref b] below meth c (lw_Z below #[Value.ref b] s) E 6 0 179 (some (aI 1)) M' S' := by
    intro f pc ls st hf hst H locs cells slots larr hy
    have r1 := fetch_all hf rt_179.1
    have r2 := fetch_all hf rt_179.2
    have hd := (fetch_ok hf).1
    obtain ⟨_, _, hS, _, _, _, hc1, hc2⟩ := hy
    rcases step_ret hst with q | q | q | q
    · obtain ⟨op, ln, dt⟩ := f
      have q' : op = .ireturn := q
      subst q'
      have hln : ln = 1 := of_decide_eq_true r2
      subst hln
      simp only [am_step] at hst
      split at hst
      · obtain ⟨_, hst⟩ := bnd_inv hst
        cases hst
        refine va_forget (fun q hq => ?_) (W.widen (k := 600000) (n := 7302250) (by omega) (by omega) ?_)
        · have := hS.2.2 q hq
          show s.heap.size ≤ q.base
          rw [← eB]
          exact this
        · exact lw_ret hx hb hr hlocks hd
      · cases hst
    all_goals (unfold rtI at r1; rw [q] at r1; cases r1)
  have hW := hg (l := l) (e := e) (below := below) (Q := lw_Z below #[Value.ref b] s) (N0 := 6) (U0 := 0) C (by show _ ≤ 6 + 600000; omega) (by show _ ≤ 0 + 7302250; omega) hret
  have ea : ([aR 5] : List AV).map (am_tr E) = [Value.ref b] := by
    show [Value.ref (am_ro2 E 5)] = _
    rw [ro_lo E (by omega), e5]
  have hl := lrel_ini E (m := 179) (as := [aR 5]) rfl
  rw [ea] at hl
  have hH : HR E (M0 sc) (sS L 6 0 0) s.heap := by
    refine ⟨⟨Nat.le_refl 6, ?_⟩, fun a h1 h2 => absurd h2 (by show ¬ a < 6; omega), fun a ha => ?_, fun a ha => ⟨?_, tLn_le hL a, ?_, ?_⟩⟩
    · rw [eB]
      rfl
    · exact if_neg (by show ¬ a < 6; have h : 6 ≤ a := ha; omega)
    · rcases (by omega : a = 0 ∨ a = 1 ∨ a = 2 ∨ a = 3 ∨ a = 4 ∨ a = 5) with rfl | rfl | rfl | rfl | rfl | rfl
      all_goals rfl
    · rw [eL]
      rfl
    · rw [eM]
  rw [lg_entry_eq]
  exact hW s.heap [] 0 0 _ ⟨hH, hl, va_S.rf, M0_ok hsc, fun i w h => lay_ok [aR 5] ⟨trivial, trivial⟩ i w (ini_get h), trivial, rfl, rfl⟩
set_option maxHeartbeats 4000000 in
theorem lw_walk (l : Launch) (hflags : l.flags = flags0) (b : Addr) (xs : List Int32) : MetFree l x (headSpec (Jvm.Cond.code x code maxLocals ret :: tables_1) room_1) (lw_P b xs) (fun _ _ _ _ _ => True) lw_Q := by
  refine MetFree.of_bodyS (code := code) (maxLocals := maxLocals) (ret := ret) (by decide) ?_ ?_
  · intro args s m h hn
    obtain ⟨meth, c, h1, h2, h3, h4, h5, h6, -, -⟩ := Cond.code_spec hn (atoms_spec (ws := Jvm.Cond.code x code maxLocals ret :: tables_1) h _ List.mem_cons_self)
    exact ⟨meth, c, h1, h2, h3, h4, h5, h6⟩
  · intro p e s m args below meth c s₁ B hml0 hP _
    obtain ⟨rfl, hx, hbd, hgv⟩ := hP
    obtain ⟨scr, harrAt, hlist, hof, hsmall⟩ := hx
    obtain ⟨hcb, hkn, -, -⟩ := State.arrayAt?_spec harrAt
    have hown : s.vm.findClass R_law = some m.cls := findClass_of_methodNamed B.named
    have hts0 : ∀ c ∈ (Jvm.Cond.code x code maxLocals ret :: tables_1), c.before #[Value.ref b] s = true := atoms_spec (ws := Jvm.Cond.code x code maxLocals ret :: tables_1) B.pre
    have hts : ∀ w ∈ lw_tbl, w.before #[Value.ref b] s = true := k2_hts_sels lw_privs (fun w hw => hts0 w (List.mem_cons_of_mem _ hw)) lw_privs_ok
    have hml : c.maxLocals = 4 := B.maxLocals_eq (hts0 _ List.mem_cons_self)
    have X₀ : Stand p l e room_1 s m #[Value.ref b] below meth c s₁ [] 0 0 := Stand.of_body B
    have hh0 : s₁.heap = s.heap := by rw [B.state]; rfl
    have hsz : scr.slots.size = xs.length := by rw [← Array.length_toList, hlist, List.length_map]
    have hval : ∀ j : Nat, j < xs.length → scr.slots[j]? = some (.int (xs.getD j 0)) := fun j hj => by
      rw [← Array.getElem?_toList, hlist]
      simp [hj]
    have hbl : b < s.heap.size := (Array.getElem?_eq_some_iff.mp hcb).1
    have hX : va_X b xs.length (fun j => xs.getD j 0) s s.heap := ⟨scr, hcb, hof, hkn, hsz, hval⟩
    have K : W p l e room_1 s m #[Value.ref b] below meth c s₁.heap [] 0 0 (lw_Z below #[Value.ref b] s) (entryFrame m ([Value.ref b] : List Value).toArray 4) := by
      rw [hh0]
      exact whole_start l hflags hbd ⟨B.exec, B.bytes, B.returns, hml, hown, hts, hX, hbl, B.notSynchronized, hgv, (name_of_methodNamed B.named B.method).1⟩
    obtain ⟨t, a1, o, b1, b2, b3⟩ := K s₁ rfl X₀
    exact ⟨t, o, a1, b1, b2, b3⟩
theorem lw_pre_spec {args : Array Value} {s : State} (h : (Jvm.Cond.and given_1 narrow_1).before args s = true) (hr : rest_1_c.before args s = true) : ∃ (b : Addr) (xs : List Int32), lw_P b xs args s := by
  have hs := flat_of_before _ h
  have hq := flat_of_before _ hr
  have hc : (Cond.count 1).before args s = true := hs _ (by decide +kernel)
  have harr : (Cond.arrayOf (.arg 0) .int).before args s = true := hs _ (by decide +kernel)
  have hle : (Cond.le (.length (.arg 0)) (.int 3584)).before args s = true := hs _ (by decide +kernel)
  have hlen : (Cond.isInt (.length (.arg 0))).before args s = true := hq _ (by decide +kernel)
  have hall : (Cond.all (.arg 0) (.isInt (.elem (.arg 0) (.index 0)))).before args s = true := hq _ (by decide +kernel)
  obtain ⟨b, xs, hb, hx⟩ := State.ints_of_pre rfl harr hlen hall
  have hsm : xs.length < 2 ^ 31 := hx.choose_spec.2.2.2
  have hev : (Term.length (.arg 0)).eval args s none [] s = some (.int xs.length.toInt32) := hx.length_eval hb
  have hv := Cond.le_ints hev (show (Term.int 3584).eval args s none [] s = some (.int 3584) from rfl)
  have hd : xs.length.toInt32 ≤ 3584 := by
    simpa [Cond.before, Cond.holds, hv] using hle
  have hN : xs.length ≤ 3584 := (Int32.ofNat_le_ofNat hsm (by decide)).mp (show Int32.ofNat xs.length ≤ Int32.ofNat 3584 from hd)
  exact ⟨b, xs, Cond.one_arg hc (show args[0]? = some (.ref b) from hb), hx, hN, h⟩
theorem lw_comes (l : Launch) (hflags : l.flags = flags0) : Comes l x (Jvm.Cond.code x code maxLocals ret :: tables_1) room_1 (fun tb e args s => Calls_1 tb e args s ∧ rest_1 tb e args s ∧ Pre_1 tb e args s)
    (fun _ _ args s o t => lw_Q args s o t) := by
  intro p e ha hc hk s m args below hf hfit hheap happ hpre
  obtain ⟨b, xs, hP⟩ := lw_pre_spec hpre.2.2 hpre.2.1
  obtain ⟨k, o, h1, h2, h3, hQ⟩ := lw_walk l hflags b xs p e ha hc hk s m args below hf ((Spec.applies_iff_loose hf).mp happ).1 hP trivial
  exact ⟨k, o, h1, h2, h3, hQ⟩
theorem lw_frame {s t : State} {o : Outcome} {args : Array Value} (h : Framed s o t [] 600000 7302250) :
    Framed s o t (fieldLocs frame_1_writes args s ++ arrayLocs frame_1_arrays args s ++ staticLocs frame_1_statics s) 600000 7302250 := h
theorem lw_limb (L : Cond) (hL : ∀ (args : Array Value) (s t : State), L.after args s (.returned (some (.int 1))) t = true) :
    ArmFor flags0 classFile x code maxLocals ret World_1 tables_1 room_1 Calls_1 rest_1 Pre_1
      (fun tb e a s o t => postC L tb e a s o t ∧ Framed s o t (fieldLocs frame_1_writes a s ++ arrayLocs frame_1_arrays a s ++ staticLocs frame_1_statics s) 600000 7302250) := by
  intro l hflags _ _ p e ha hc hk s m args below hf hfit hheap happ hpre
  obtain ⟨k, o, h1, h2, h3, rfl, hF⟩ := lw_comes l hflags p e ha hc hk s m args below hf hfit hheap happ hpre
  exact ⟨k, _, h1, h2, h3, hL args s _, lw_frame hF⟩
theorem i_vc : Claimed_1_1 ∧ Claimed_1_2 := ⟨lw_limb limb_1_1 (fun args s t => by simp [limb_1_1, Cond.after, Cond.holds, Cond.value]), lw_limb limb_1_2 (fun args s t => Cond.after_iff.mpr (by
  first | (rw [show limb_1_2 = Cond.eq .result (.int 1) from rfl, Cond.eq_ints (x := 1) (y := 1) rfl rfl]; simp; done) | (simp [limb_1_2, Cond.value, Term.eval]; done)))⟩
