theorem so_gets {own : String} {p : Program} {l : Launch} {e : Env} {R : Room} {s : State} {mi : MethodId} {args : Array Value} {below : List Frame} {meth : Method} {c : Code} {Q : State → Prop} {E : am_E} {N0 U0 nL : Nat} {lg : List Nat} {cc : ByteArray} {pc : Nat} {ls : Lsl} {M : Mem} {S : Sh} {t : List AV} {a idx : Nat} (hown : s.vm.findClass own = some mi.cls) {C n d : String} (ha : a < 6) (hZ : va_Z C n d (.ref (E.1 a)) (am_A E) s s.heap) (hlink : (Jvm.Cond.fieldLink own idx C n d).before args s = true) (hx : p.tables.exec = Jvm.exec) (hb : c.code = cc) (hd : decode cc pc = .ok (.getstatic idx, 3)) (k : GW p l e R s mi args below meth c Q E N0 U0 nL lg (pc + 3) (ls) (aR a :: t) (M) (S)) : GW p l e R s mi args below meth c Q E N0 U0 nL lg (pc) (ls) (t) (M) (S) := by
  intro H locs cells slots larr hy
  have ho := hy.ok
  refine va_gets hx hb hZ hy.2.2.1 hown hlink (fun _ z => z) hd ?_
  have h := k H locs cells slots larr (hy.st ⟨trivial, ho⟩)
  have e1 : am_tr E (aR a) = .ref (E.1 a) := by
    show Value.ref (am_ro2 E a) = _
    rw [ro_lo E ha]
  rw [List.map_cons, e1] at h
  exact h
theorem so_getsN {own : String} {p : Program} {l : Launch} {e : Env} {R : Room} {s : State} {mi : MethodId} {args : Array Value} {below : List Frame} {meth : Method} {c : Code} {Q : State → Prop} {E : am_E} {N0 U0 nL : Nat} {lg : List Nat} {cc : ByteArray} {pc : Nat} {ls : Lsl} {M : Mem} {S : Sh} {t : List AV} {a idx : Nat} (hown : s.vm.findClass own = some mi.cls) {C n d host : String} (ha : a < 6) (hZ : va_Z C n d (.ref (E.1 a)) (am_A E) s s.heap) (hlink : (Jvm.Cond.fieldLinkNest own idx C n d host).before args s = true) (hx : p.tables.exec = Jvm.exec) (hb : c.code = cc) (hd : decode cc pc = .ok (.getstatic idx, 3)) (k : GW p l e R s mi args below meth c Q E N0 U0 nL lg (pc + 3) (ls) (aR a :: t) (M) (S)) : GW p l e R s mi args below meth c Q E N0 U0 nL lg (pc) (ls) (t) (M) (S) := by
  intro H locs cells slots larr hy
  have ho := hy.ok
  refine va_getsN hx hb hZ hy.2.2.1 hown hlink (fun _ z => z) hd ?_
  have h := k H locs cells slots larr (hy.st ⟨trivial, ho⟩)
  have e1 : am_tr E (aR a) = .ref (E.1 a) := by
    show Value.ref (am_ro2 E a) = _
    rw [ro_lo E ha]
  rw [List.map_cons, e1] at h
  exact h
theorem so_ldcS {own : String} {p : Program} {l : Launch} {e : Env} {R : Room} {s : State} {mi : MethodId} {args : Array Value} {below : List Frame} {meth : Method} {c : Code} {Q : State → Prop} {E : am_E} {N0 U0 nL : Nat} {lg : List Nat} {cc : ByteArray} {pc : Nat} {ls : Lsl} {M : Mem} {S : Sh} {t : List AV} {a idx : Nat} {tx : String} (hown : s.vm.findClass own = some mi.cls) (ha : a < 6) (hZ : vk_R own idx tx (E.1 a) s) (hx : p.tables.exec = Jvm.exec) (hb : c.code = cc) (hd : decode cc pc = .ok (.ldc idx, 2)) (k : GW p l e R s mi args below meth c Q E N0 U0 nL lg (pc + 2) (ls) (aR a :: t) (M) (S)) : GW p l e R s mi args below meth c Q E N0 U0 nL lg (pc) (ls) (t) (M) (S) := by
  intro H locs cells slots larr hy
  have ho := hy.ok
  refine va_ldcS hx hb hown hZ hd ?_
  have h := k H locs cells slots larr (hy.st ⟨trivial, ho⟩)
  have e1 : am_tr E (aR a) = .ref (E.1 a) := by
    show Value.ref (am_ro2 E a) = _
    rw [ro_lo E ha]
  rw [List.map_cons, e1] at h
  exact h
theorem cat_sum (E : am_E) (t : List AV) : ((t.map (am_tr E)).map fun v => v.category).sum ≤ 2 * t.length := by
  induction t with
  | nil => exact Nat.le_refl _
  | cons v t ih =>
    rw [List.map_cons, List.map_cons, List.sum_cons, List.length_cons]
    have := lv_cat (am_tr E v)
    omega
theorem so_oinit {own : String} {p : Program} {l : Launch} {e : Env} {R : Room} {s : State} {mi : MethodId} {args : Array Value} {below : List Frame} {meth : Method} {c : Code} {Q : State → Prop} {E : am_E} {N0 U0 nL : Nat} {lg : List Nat} {cc : ByteArray} {pc : Nat} {ls : Lsl} {M : Mem} {S : Sh} {t : List AV} {a idx : Nat} (hown : s.vm.findClass own = some mi.cls) (hts : ∀ w ∈ wsL_law, w.before args s = true) (hml : c.maxLocals = nL) (hfr : 10 ≤ R.frames) (hlo : 600 ≤ R.locals) (hlink : (Jvm.Cond.methodLink own idx objectInit).before args s = true) (ht : t.length ≤ 4) (hx : p.tables.exec = Jvm.exec) (hb : c.code = cc) (hd : decode cc pc = .ok (.invokespecial idx, 3)) (k : GW p l e R s mi args below meth c Q E N0 U0 nL lg (pc + 3) (ls) (t) (M) (S)) : GW p l e R s mi args below meth c Q E N0 U0 nL lg (pc) (ls) (aR a :: t) (M) (S) := by
  intro H locs cells slots larr hy
  have ho := hy.ok
  have hcs := cat_sum E t
  refine W.objInit hx hb hown hlink (hts _ (List.mem_of_getElem? (i := 10) (by rfl))) (hts _ (List.mem_of_getElem? (i := 11) (by rfl))) rfl (by rw [hml]; exact hy.2.1.1) rfl hd (by omega) (by show 2 * 0 + ((t.map (am_tr E)).map fun v => v.category).sum + 12 ≤ _; omega) ?_
  exact k H locs cells slots larr (hy.st ho.2)
theorem sx_copy {p : Program} {l : Launch} {e : Env} {R : Room} {s : State} {m : MethodId} {args : Array Value} {below : List Frame} {meth : Method} {c : Code} {H : Heap} {locs : List Loc} {cells slots : Nat} {Q : State → Prop} {cc : ByteArray} {pc : Nat} {ls : Array Slot} {rest : List Value} (hx : p.tables.exec = Jvm.exec) (hb : c.code = cc) (hml : c.maxLocals = ls.size) {own : String} {index : Nat} (hown : s.vm.findClass own = some m.cls) (hlink : (Jvm.Cond.methodLink own index arraycopyName).before args s = true) (hnat : (Jvm.Cond.native arraycopyName).before args s = true) (hstat : (Jvm.Cond.static arraycopyName).before args s = true) (hini : (Jvm.Cond.initialized "java/lang/System").before args s = true) {a0 a : Nat} {c0 : ClassId} {n0 n1 : Nat} {f g : Nat → Int32} (harr : ArrOfT s c0 .int) (hc0 : H[a0]? = some (vp_cell c0 (n0, .inl f))) (hc1 : H[a]? = some (vp_cell c0 (n1, .inl g)))
    {sp dp n : Int32} (h1 : ¬ sp < 0) (h2 : ¬ dp < 0) (h3 : ¬ n < 0) (h4 : sp.toNatClampNeg + n.toNatClampNeg ≤ n0) (h5 : dp.toNatClampNeg + n.toNatClampNeg ≤ n1) (hframes : 1 ≤ R.frames) (hlocals : (rest.map fun v => v.category).sum + (nativeFrameWords "java/lang/System" "arraycopy" 5 + 11) ≤ R.locals) (hdg : decode cc pc = .ok (.invokestatic index, 3))
    (kk : ∀ (H1 : Heap) (L : List Loc), H1[a]? = some (vp_cell c0 (n1, .inl (va_cpy f g sp.toNatClampNeg dp.toNatClampNeg n.toNatClampNeg))) → H1.size = H.size → (∀ q : Nat, q ≠ a → H1[q]? = H[q]?) → (∀ q ∈ L, q.base = a) → W p l e R s m args below meth c H1 (locs ++ L) cells slots Q (F0 m (pc + 3) ls rest)) : W p l e R s m args below meth c H locs cells slots Q (F0 m pc ls (.int n :: .int dp :: .ref a :: .int sp :: .ref a0 :: rest)) := by
  have nn : ∀ z : Int32, ¬ z < 0 → z.toInt = (z.toNatClampNeg : Int) := by
    intro z hz
    have hz0 : (0 : Int) ≤ z.toInt := by
      have := Int32.not_lt.mp hz
      simpa using Int32.le_iff_toInt_le.mp this
    show z.toInt = ((z.toInt.toNat : Nat) : Int)
    omega
  intro T hT X
  obtain ⟨-, k0, hk0, cm0, hkk0⟩ := harr n0 (fun j => .int (f j))
  obtain ⟨-, k1, hk1, cm1, hkk1⟩ := harr n1 (fun j => .int (g j))
  obtain ⟨vm', X', step⟩ := X.arraycopy hx hown hlink hnat hstat hini (src := a0) (dst := a) (cs := vp_cell c0 (n0, .inl f)) (cd := vp_cell c0 (n1, .inl g)) (srcPos := sp) (destPos := dp) (n := n) (by rw [hT]; exact hc0) (by rw [hT]; exact hc1)
    (fun _ h => by cases h) (fun _ h => by cases h) (fun h => by cases h) (fun h => by cases h) hk0 hk1 hkk0 hkk1 (by simp [refKind]) h1 h2 h3
    (by rw [nn sp h1, nn n h3]; show ¬ _ > ((arrV c0 n0 (fun j => .int (f j))).slots.size : Int); rw [arrV_size]; omega)
    (by rw [nn dp h2, nn n h3]; show ¬ _ > ((arrV c0 n1 (fun j => .int (g j))).slots.size : Int); rw [arrV_size]; omega)
    (fun vm₁ _ i hi => by
      have e : (vp_cell c0 (n0, .inl f)).slots.getD (sp.toNatClampNeg + i) .null = .int (f (sp.toNatClampNeg + i)) := by
        show (arrV c0 n0 (fun j => .int (f j))).slots.getD _ _ = _
        rw [Array.getD_eq_getD_getElem?, arrV_read _ _ (by omega)]
        rfl
      refine ⟨?_, ?_⟩
      · rw [e]
        rfl
      · rw [e]
        exact trivial)
    (g := F0 m pc ls (.int n :: .int dp :: .ref a :: .int sp :: .ref a0 :: rest)) rfl (by rw [hml]) (rest := rest) rfl (by rw [hb]; exact hdg) hframes (by show 2 * 0 + _ + _ ≤ _; omega)
  have e1 : copied (vp_cell c0 (n0, .inl f)) (vp_cell c0 (n1, .inl g)) sp dp n = vp_cell c0 (n1, .inl (va_cpy f g sp.toNatClampNeg dp.toNatClampNeg n.toNatClampNeg)) := va_copied (fun z => .int z) c0 c0 f g h4
  rw [e1] at X' step
  have hl : a < H.size := (Array.getElem?_eq_some_iff.mp hc1).1
  have hheap : ((T.setVm vm').setCell a (vp_cell c0 (n1, .inl (va_cpy f g sp.toNatClampNeg dp.toNatClampNeg n.toNatClampNeg)))).heap = H.setIfInBounds a (vp_cell c0 (n1, .inl (va_cpy f g sp.toNatClampNeg dp.toNatClampNeg n.toNatClampNeg))) := by rw [← hT]; rfl
  obtain ⟨t, a1, b1⟩ := kk _ _ (by simp [Array.getElem?_setIfInBounds, hl]) (by simp) (fun q hq => by simp [Array.getElem?_setIfInBounds, Ne.symm hq]) (fun q hq => by
      obtain ⟨z, -, hz⟩ := List.mem_map.mp hq
      rw [← hz]) _ hheap X'
  exact ⟨t, step t a1, b1⟩
theorem am_Hy.puts {s : State} {E : am_E} {N0 U0 nL : Nat} {lg : List Nat} {ls : Lsl} {st st' : List AV} {M M' : Mem} {S : Sh} {H H1 : Heap} {locs L : List Loc} {cells slots : Nat} {larr : Array Slot} (h : am_Hy s E N0 U0 nL lg ls st M S H locs cells slots larr) {a : Nat} (h6 : 6 ≤ a) (hM : ∀ b, b ≠ a → M' b = M b) (hok : ∀ k, r32 (M' a k)) (z : H1.size = H.size) (o : ∀ q, q ≠ am_ro2 E a → H1[q]? = H[q]?) (hL : ∀ q ∈ L, q.base = am_ro2 E a) (hc : va_at E.2.2.1 vwCl (am_ro2 E a, am_cell E M' S a) H1) (h3' : okSt st') : am_Hy s E N0 U0 nL lg ls st' M' S H1 (locs ++ L) cells slots larr := by
  obtain ⟨h1, h2, h3, h4, h5, h6', h7, h8⟩ := h
  refine ⟨h1.put h6 hM (fun _ _ => rfl) rfl rfl rfl z o hc, h2, ⟨by rw [z]; exact h3.1, fun q g1 g2 => ?_, fun q hq => ?_⟩, fun b k => ?_, h5, h3', h7, h8⟩
  · rw [o q (fun e => g2 (by rw [e]; exact ro_A E h6))]
    exact h3.2.1 q g1 g2
  · rcases List.mem_append.mp hq with g | g
    · exact h3.2.2 q g
    · rw [hL q g]; exact ro_A E h6
  · by_cases e : b = a
    · rw [e]; exact hok k
    · rw [hM b e]; exact h4 b k
set_option maxRecDepth 20000 in
theorem so_copy {own : String} {p : Program} {l : Launch} {e : Env} {R : Room} {s : State} {mi : MethodId} {args : Array Value} {below : List Frame} {meth : Method} {c : Code} {Q : State → Prop} {E : am_E} {N0 U0 nL : Nat} {lg : List Nat} {cc : ByteArray} {pc : Nat} {ls : Lsl} {M : Mem} {S : Sh} {t : List AV} {sr ds idx : Nat} {sp dp n : Int} (hown : s.vm.findClass own = some mi.cls) (hts : ∀ w ∈ wsL_law, w.before args s = true) (hSW : am_SW E s s.heap) (hml : c.maxLocals = nL) (hfr : 10 ≤ R.frames) (hlo : 600 ≤ R.locals) (hlink : (Jvm.Cond.methodLink own idx arraycopyName).before args s = true) (ht : t.length ≤ 4) (hK1 : S.1 sr = 7) (hK2 : S.1 ds = 7) (h61 : 6 ≤ sr) (h62 : 6 ≤ ds) (hn : 0 ≤ n) (hsp : 0 ≤ sp) (hdp : 0 ≤ dp) (h4 : sp + n ≤ S.2.1 sr) (h5 : dp + n ≤ S.2.1 ds) (hx : p.tables.exec = Jvm.exec) (hb : c.code = cc) (hd : decode cc pc = .ok (.invokestatic idx, 3)) (k : GW p l e R s mi args below meth c Q E N0 U0 nL lg (pc + 3) (ls) (t) (mrow M ds (am_cpy (M sr) (M ds) sp.toNat dp.toNat n.toNat)) (S)) : GW p l e R s mi args below meth c Q E N0 U0 nL lg (pc) (ls) (aI n :: aI dp :: aR ds :: aI sp :: aR sr :: t) (M) (S) := by
  intro H locs cells slots larr hy
  have ho := hy.ok
  obtain ⟨hR, hL, hS, hM, -⟩ := id hy
  have hc1 := hR.cell (a := sr) (by omega) h61
  have hc2 := hR.cell (a := ds) (by omega) h62
  rw [cellI hK1] at hc1
  rw [cellI hK2] at hc2
  have hcs := cat_sum E t
  have hw : nativeFrameWords "java/lang/System" "arraycopy" 5 + 11 ≤ 100 := by decide +kernel
  refine sx_copy hx hb (by rw [hml]; exact hy.2.1.1.symm) hown hlink (hts _ (List.mem_of_getElem? (i := 670) (by rfl))) (hts _ (List.mem_of_getElem? (i := 671) (by rfl))) (hts _ (List.mem_of_getElem? (i := 672) (by rfl))) (hSW.1.2 0 _ rfl).1 hc1 hc2 (oI_neg ho.2.2.2.1 hsp) (oI_neg ho.2.1 hdp) (oI_neg ho.1 hn) (by rw [oI_cl ho.2.2.2.1 hsp, oI_cl ho.1 hn]; omega) (by rw [oI_cl ho.2.1 hdp, oI_cl ho.1 hn]; omega) (by omega) (by omega) hd fun H1 L e1 z oq hLL => ?_
  refine k H1 _ cells slots larr (hy.puts h62 (fun b hb => mrow_ne M _ hb) (fun q => ?_) z oq hLL ?_ ho.2.2.2.2.2)
  · rw [mrow_eq]
    unfold am_cpy
    split
    · exact hM _ _
    · exact hM _ _
  · rw [cellI hK2, mrow_eq]
    show H1[am_ro2 E ds]? = _
    have e9 : va_cpy (fun k => Int32.ofInt (M sr k)) (fun k => Int32.ofInt (M ds k)) (Int32.ofInt sp).toNatClampNeg (Int32.ofInt dp).toNatClampNeg (Int32.ofInt n).toNatClampNeg = fun k => Int32.ofInt (am_cpy (M sr) (M ds) sp.toNat dp.toNat n.toNat k) := by
      funext q
      unfold va_cpy am_cpy
      rw [oI_cl ho.2.2.2.1 hsp, oI_cl ho.2.1 hdp, oI_cl ho.1 hn]
      split <;> rfl
    rw [e1, e9]
theorem str_all : ∀ j, j < 2 → (am_str (3 + j)).all (fun x => decide (0 ≤ x ∧ x < 128)) = true ∧ (am_str (3 + j)).length ≤ 100 := by decide +kernel
theorem str_r (j : Nat) (hj : j < 2) (k : Nat) : r32 ((am_str (3 + j)).getD k 0) := by
  have h := (str_all j hj).1
  rw [List.getD_eq_getElem?_getD]
  cases e : (am_str (3 + j))[k]? with
  | none => exact r32_0
  | some v =>
    have := of_decide_eq_true (List.all_eq_true.mp h v (List.mem_of_getElem? e))
    show r32 v
    unfold r32
    omega
theorem strl_r (j : Nat) (hj : j < 2) : r32 ((am_str (3 + j)).length : Nat) := by
  have h := (str_all j hj).2
  unfold r32
  omega
theorem so_charAt {own : String} {p : Program} {l : Launch} {e : Env} {R : Room} {s : State} {mi : MethodId} {args : Array Value} {below : List Frame} {meth : Method} {c : Code} {Q : State → Prop} {E : am_E} {N0 U0 nL : Nat} {lg : List Nat} {cc : ByteArray} {pc : Nat} {ls : Lsl} {M : Mem} {S : Sh} {t : List AV} {j idx : Nat} {i : Int} (h0 : 0 ≤ i) (h1 : i < ((am_str (3 + j)).length : Nat)) (hown : s.vm.findClass own = some mi.cls) (hts : ∀ w ∈ wsL_law, w.before args s = true) (hSW : am_SW E s s.heap) (hml : c.maxLocals = nL) (hfr : 10 ≤ R.frames) (hlo : 600 ≤ R.locals) (hlink : (Jvm.Cond.methodLink own idx yJ0_charAt_5068e).before args s = true) (ht : t.length ≤ 4) (hj : j < 2) (hcN : S.2.2.2.1 ≤ N0 + R.cells) (hsN : S.2.2.2.2 ≤ U0 + R.slots) (hx : p.tables.exec = Jvm.exec) (hb : c.code = cc) (hd : decode cc pc = .ok (.invokevirtual idx, 3)) (k : GW p l e R s mi args below meth c Q E N0 U0 nL lg (pc + 3) (ls) (aI ((am_str (3 + j)).getD i.toNat 0) :: t) (M) (S)) : GW p l e R s mi args below meth c Q E N0 U0 nL lg (pc) (ls) (aI i :: aR (3 + j) :: t) (M) (S) := by
  intro H locs cells slots larr hy
  have ho := hy.ok
  obtain ⟨hR, hL, hS, hM, hLs, hSt, hcc, hss⟩ := id hy
  have hcs := cat_sum E t
  have e1 : am_tr E (aR (3 + j)) = .ref (E.1 (3 + j)) := by
    show Value.ref (am_ro2 E (3 + j)) = _
    rw [ro_lo E (by omega)]
  show W p l e R s mi args below meth c H locs cells slots Q (F0 mi pc larr (.int (Int32.ofInt i) :: am_tr E (aR (3 + j)) :: t.map (am_tr E)))
  rw [e1]
  refine am_crun (some (.int (Int32.ofInt ((am_str (3 + j)).getD i.toNat 0)))) (va_runV (As := [.int (Int32.ofInt i)]) (rest := t.map (am_tr E)) (C := "java/lang/String") ⟨hx, hb, hml, hown, hts⟩ (jcJ0_charAt_5068e l E j hj i ho.1 h0 h1) ⟨am_cb (n := 1) hts (List.mem_of_getElem? (i := 78) (by rfl)) (List.mem_of_getElem? (i := 66) (by rfl)) hlink ⟨by decide, by decide, by decide +kernel⟩ (by show 4 ≤ _; omega) (by show 60 * 4 ≤ _; omega) (by decide), (hts _ (List.mem_of_getElem? (i := 76) (by rfl))), (hts _ (List.mem_of_getElem? (i := 77) (by rfl)))⟩ ⟨jd_blind _ _, vk_recv hSW.2.2.2.2.2.2.2.2.2.1 hj hS, jd_pre hSW hS _⟩ rfl rfl hy.2.1.1 rfl (by show 2 * 0 + ((t.map (am_tr E)).map fun v => v.category).sum ≤ 8; omega) hd ⟨by omega, by omega⟩) (fun st o t h => h.1) (fun st t2 L g1 g2 g3 => ?_)
  have hh : t2.heap = H := g2.2.trans g1
  rw [hh]
  refine k H _ cells slots larr ⟨hR, hL, ⟨hS.1, hS.2.1, fun q hq => (List.mem_append.mp hq).elim (hS.2.2 q) (g3 q)⟩, hM, hLs, ⟨str_r j hj _, ho.2.2⟩, hcc, hss⟩
theorem so_length {own : String} {p : Program} {l : Launch} {e : Env} {R : Room} {s : State} {mi : MethodId} {args : Array Value} {below : List Frame} {meth : Method} {c : Code} {Q : State → Prop} {E : am_E} {N0 U0 nL : Nat} {lg : List Nat} {cc : ByteArray} {pc : Nat} {ls : Lsl} {M : Mem} {S : Sh} {t : List AV} {j idx : Nat}  (hown : s.vm.findClass own = some mi.cls) (hts : ∀ w ∈ wsL_law, w.before args s = true) (hSW : am_SW E s s.heap) (hml : c.maxLocals = nL) (hfr : 10 ≤ R.frames) (hlo : 600 ≤ R.locals) (hlink : (Jvm.Cond.methodLink own idx yJ0_length_8abf5).before args s = true) (ht : t.length ≤ 4) (hj : j < 2) (hcN : S.2.2.2.1 ≤ N0 + R.cells) (hsN : S.2.2.2.2 ≤ U0 + R.slots) (hx : p.tables.exec = Jvm.exec) (hb : c.code = cc) (hd : decode cc pc = .ok (.invokevirtual idx, 3)) (k : GW p l e R s mi args below meth c Q E N0 U0 nL lg (pc + 3) (ls) (aI ((am_str (3 + j)).length : Nat) :: t) (M) (S)) : GW p l e R s mi args below meth c Q E N0 U0 nL lg (pc) (ls) (aR (3 + j) :: t) (M) (S) := by
  intro H locs cells slots larr hy
  have ho := hy.ok
  obtain ⟨hR, hL, hS, hM, hLs, hSt, hcc, hss⟩ := id hy
  have hcs := cat_sum E t
  have e1 : am_tr E (aR (3 + j)) = .ref (E.1 (3 + j)) := by
    show Value.ref (am_ro2 E (3 + j)) = _
    rw [ro_lo E (by omega)]
  show W p l e R s mi args below meth c H locs cells slots Q (F0 mi pc larr (am_tr E (aR (3 + j)) :: t.map (am_tr E)))
  rw [e1]
  refine am_crun (some (.int (Int32.ofInt ((am_str (3 + j)).length : Nat)))) (va_runV (As := []) (rest := t.map (am_tr E)) (C := "java/lang/String") ⟨hx, hb, hml, hown, hts⟩ (jcJ0_length_8abf5 l E j hj) ⟨am_cb (n := 0) hts (List.mem_of_getElem? (i := 67) (by rfl)) (List.mem_of_getElem? (i := 66) (by rfl)) hlink ⟨by decide, by decide, by decide +kernel⟩ (by show 2 ≤ _; omega) (by show 60 * 2 ≤ _; omega) (by decide), (hts _ (List.mem_of_getElem? (i := 64) (by rfl))), (hts _ (List.mem_of_getElem? (i := 65) (by rfl)))⟩ ⟨jd_blind _ _, vk_recv hSW.2.2.2.2.2.2.2.2.2.1 hj hS, jd_pre hSW hS _⟩ rfl rfl hy.2.1.1 rfl (by show 2 * 0 + ((t.map (am_tr E)).map fun v => v.category).sum ≤ 8; omega) hd ⟨by omega, by omega⟩) (fun st o t h => h.1) (fun st t2 L g1 g2 g3 => ?_)
  have hh : t2.heap = H := g2.2.trans g1
  rw [hh]
  refine k H _ cells slots larr ⟨hR, hL, ⟨hS.1, hS.2.1, fun q hq => (List.mem_append.mp hq).elim (hS.2.2 q) (g3 q)⟩, hM, hLs, ⟨strl_r j hj, ho.2⟩, hcc, hss⟩
set_option maxRecDepth 20000 in
theorem so_mmax {own : String} {p : Program} {l : Launch} {e : Env} {R : Room} {s : State} {mi : MethodId} {args : Array Value} {below : List Frame} {meth : Method} {c : Code} {Q : State → Prop} {E : am_E} {N0 U0 nL : Nat} {lg : List Nat} {cc : ByteArray} {pc : Nat} {ls : Lsl} {M : Mem} {S : Sh} {t : List AV} {idx : Nat} {x y : Int} (hown : s.vm.findClass own = some mi.cls) (hts : ∀ w ∈ wsL_law, w.before args s = true) (hml : c.maxLocals = nL) (hfr : 10 ≤ R.frames) (hlo : 600 ≤ R.locals) (hlink : (Jvm.Cond.methodLink own idx Lib.Math.max.name).before args s = true) (ht : t.length ≤ 4) (hcN : S.2.2.2.1 ≤ N0 + R.cells) (hsN : S.2.2.2.2 ≤ U0 + R.slots) (hx : p.tables.exec = Jvm.exec) (hb : c.code = cc) (hd : decode cc pc = .ok (.invokestatic idx, 3)) (k : GW p l e R s mi args below meth c Q E N0 U0 nL lg (pc + 3) (ls) (aI (if x < y then y else x) :: t) (M) (S)) : GW p l e R s mi args below meth c Q E N0 U0 nL lg (pc) (ls) (aI y :: aI x :: t) (M) (S) := by
  intro H locs cells slots larr hy
  have ho := hy.ok
  obtain ⟨hR, hL, hS, hM, hLs, hSt, hcc, hss⟩ := id hy
  have hcs := cat_sum E t
  refine va_mmax hx hb (by rw [hml]; exact hy.2.1.1.symm) hown hlink (hts _ (List.mem_of_getElem? (i := 576) (by rfl))) (hts _ (List.mem_of_getElem? (i := 58) (by rfl))) (hts _ (List.mem_of_getElem? (i := 577) (by rfl))) (by omega) (by omega) (by omega) (by omega) hd ?_
  have e : (if Int32.ofInt x < Int32.ofInt y then Int32.ofInt y else Int32.ofInt x) = Int32.ofInt (if x < y then y else x) := by
    by_cases q : x < y
    · rw [if_pos q, if_pos ((oI_lt ho.2.1 ho.1).mpr q)]
    · rw [if_neg q, if_neg (fun z => q ((oI_lt ho.2.1 ho.1).mp z))]
  rw [e]
  exact k H locs cells slots larr (hy.st ⟨by show r32 _; split; exact ho.1; exact ho.2.1, ho.2.2⟩)
set_option maxRecDepth 20000 in
theorem so_mmin {own : String} {p : Program} {l : Launch} {e : Env} {R : Room} {s : State} {mi : MethodId} {args : Array Value} {below : List Frame} {meth : Method} {c : Code} {Q : State → Prop} {E : am_E} {N0 U0 nL : Nat} {lg : List Nat} {cc : ByteArray} {pc : Nat} {ls : Lsl} {M : Mem} {S : Sh} {t : List AV} {idx : Nat} {x y : Int} (hown : s.vm.findClass own = some mi.cls) (hts : ∀ w ∈ wsL_law, w.before args s = true) (hml : c.maxLocals = nL) (hfr : 10 ≤ R.frames) (hlo : 600 ≤ R.locals) (hlink : (Jvm.Cond.methodLink own idx Lib.Math.min.name).before args s = true) (ht : t.length ≤ 4) (hcN : S.2.2.2.1 ≤ N0 + R.cells) (hsN : S.2.2.2.2 ≤ U0 + R.slots) (hx : p.tables.exec = Jvm.exec) (hb : c.code = cc) (hd : decode cc pc = .ok (.invokestatic idx, 3)) (k : GW p l e R s mi args below meth c Q E N0 U0 nL lg (pc + 3) (ls) (aI (if y < x then y else x) :: t) (M) (S)) : GW p l e R s mi args below meth c Q E N0 U0 nL lg (pc) (ls) (aI y :: aI x :: t) (M) (S) := by
  intro H locs cells slots larr hy
  have ho := hy.ok
  obtain ⟨hR, hL, hS, hM, hLs, hSt, hcc, hss⟩ := id hy
  have hcs := cat_sum E t
  refine va_mmin hx hb (by rw [hml]; exact hy.2.1.1.symm) hown hlink (hts _ (List.mem_of_getElem? (i := 57) (by rfl))) (hts _ (List.mem_of_getElem? (i := 58) (by rfl))) (hts _ (List.mem_of_getElem? (i := 59) (by rfl))) (by omega) (by omega) (by omega) (by omega) hd ?_
  have e : (if Int32.ofInt y < Int32.ofInt x then Int32.ofInt y else Int32.ofInt x) = Int32.ofInt (if y < x then y else x) := by
    by_cases q : y < x
    · rw [if_pos q, if_pos ((oI_lt ho.1 ho.2.1).mpr q)]
    · rw [if_neg q, if_neg (fun z => q ((oI_lt ho.1 ho.2.1).mp z))]
  rw [e]
  exact k H locs cells slots larr (hy.st ⟨by show r32 _; split; exact ho.1; exact ho.2.1, ho.2.2⟩)
