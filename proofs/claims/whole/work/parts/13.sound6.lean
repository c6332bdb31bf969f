theorem pI_inv {st : List AV} {k : Int → List AV → Option Rs} {r : Rs} (h : pI st k = some r) : ∃ x t, st = aI x :: t ∧ k x t = some r := by
  unfold pI at h
  split at h
  · exact ⟨_, _, rfl, h⟩
  · cases h
theorem pL_inv {st : List AV} {k : Int → List AV → Option Rs} {r : Rs} (h : pL st k = some r) : ∃ x t, st = aL x :: t ∧ k x t = some r := by
  unfold pL at h
  split at h
  · exact ⟨_, _, rfl, h⟩
  · cases h
theorem pO_inv {st : List AV} {k : Option Nat → List AV → Option Rs} {r : Rs} (h : pO st k = some r) : ∃ x t, st = aO x :: t ∧ k x t = some r := by
  unfold pO at h
  split at h
  · exact ⟨_, _, rfl, h⟩
  · cases h
theorem pR_inv {st : List AV} {k : Nat → List AV → Option Rs} {r : Rs} (h : pR st k = some r) : ∃ x t, st = aR x :: t ∧ k x t = some r := by
  unfold pR at h
  split at h
  · exact ⟨_, _, rfl, h⟩
  · cases h
theorem glv_inv {ls : Lsl} {i : Nat} {k : AV → Option Rs} {r : Rs} (h : glv ls i k = some r) : ∃ v, ls[i]? = some (some v) ∧ k v = some r := by
  unfold glv at h
  split at h
  · rename_i v hv
    exact ⟨v, hv, h⟩
  · cases h
theorem bnd_inv {c : Prop} [Decidable c] {k : Option Rs} {r : Rs} (h : bnd c k = some r) : c ∧ k = some r := by
  unfold bnd at h
  split at h
  · rename_i hc
    exact ⟨hc, h⟩
  · cases h
theorem nx_inv {a a' : Nat} {b b' : Lsl} {d d' : List AV} {M M' : Mem} {S S' : Sh} (h : nx a b d M S = some (Sum.inl (a', b', d', M', S'))) : (a, b, d, M, S) = (a', b', d', M', S') := Sum.inl.inj (Option.some.inj h)
theorem brn_inv {c : Prop} [Decidable c] {pc a' : Nat} {off : Int} {b b' : Lsl} {d d' : List AV} {M M' : Mem} {S S' : Sh} (h : brn c pc off b d M S = some (Sum.inl (a', b', d', M', S'))) : (c ∧ (tgt pc off, b, d, M, S) = (a', b', d', M', S')) ∨ (¬ c ∧ (pc + 3, b, d, M, S) = (a', b', d', M', S')) := by
  unfold brn at h
  split at h
  · rename_i hc
    exact Or.inl ⟨hc, nx_inv h⟩
  · rename_i hc
    exact Or.inr ⟨hc, nx_inv h⟩
theorem ldI_inv {ls b' : Lsl} {i pc a' : Nat} {st d' : List AV} {M M' : Mem} {S S' : Sh} (h : ldI ls i pc st M S = some (Sum.inl (a', b', d', M', S'))) : ∃ x, ls[i]? = some (some (aI x)) ∧ (pc, ls, aI x :: st, M, S) = (a', b', d', M', S') := by
  obtain ⟨v, hv, h⟩ := glv_inv h
  rcases v with x | x | x
  · exact ⟨x, hv, nx_inv h⟩
  · cases h
  · cases h
theorem ldL_inv {ls b' : Lsl} {i pc a' : Nat} {st d' : List AV} {M M' : Mem} {S S' : Sh} (h : ldL ls i pc st M S = some (Sum.inl (a', b', d', M', S'))) : ∃ x, ls[i]? = some (some (aL x)) ∧ (pc, ls, aL x :: st, M, S) = (a', b', d', M', S') := by
  obtain ⟨v, hv, h⟩ := glv_inv h
  rcases v with x | x | x
  · cases h
  · exact ⟨x, hv, nx_inv h⟩
  · cases h
theorem ldO_inv {ls b' : Lsl} {i pc a' : Nat} {st d' : List AV} {M M' : Mem} {S S' : Sh} (h : ldO ls i pc st M S = some (Sum.inl (a', b', d', M', S'))) : ∃ x, ls[i]? = some (some (aO x)) ∧ (pc, ls, aO x :: st, M, S) = (a', b', d', M', S') := by
  obtain ⟨v, hv, h⟩ := glv_inv h
  rcases v with x | x | x
  · cases h
  · cases h
  · exact ⟨x, hv, nx_inv h⟩
theorem in32_r {v : Int} (h : in32 v = true) : r32 v := by
  unfold in32 at h
  exact (of_decide_eq_true h : -2147483648 ≤ v ∧ v < 2147483648)
theorem in64_r {v : Int} (h : in64 v = true) : r64 v := by
  unfold in64 at h
  exact (of_decide_eq_true h : -9223372036854775808 ≤ v ∧ v < 9223372036854775808)
theorem tbat_m {p : Int} {w : Jvm.Cond} (h : tbat p w = true) : w ∈ wsL_law := by
  unfold tbat at h
  simp only [Bool.and_eq_true, decide_eq_true_eq] at h
  exact List.mem_of_getElem? h.2
theorem stok_i {nL i : Nat} {lg : List Nat} (h : stok nL lg i = true) : i < nL ∧ ∀ j ∈ lg, j + 1 ≠ i := by
  unfold stok at h
  simp only [Bool.and_eq_true, decide_eq_true_eq, List.all_eq_true] at h
  exact h
def SC (p : Program) (R : Room) (s : State) (mi : MethodId) (args : Array Value) (meth : Method) (c : Code) (E : am_E) (cc : ByteArray) (nL : Nat) (own nm : String) (N0 U0 : Nat) (S S' : Sh) : Prop := p.tables.exec = Jvm.exec ∧ c.code = cc ∧ s.vm.findClass own = some mi.cls ∧ (∀ w ∈ wsL_law, w.before args s = true) ∧ am_SW E s s.heap ∧ meth.name = nm ∧ c.maxLocals = nL ∧ 10 ≤ R.frames ∧ 600 ≤ R.locals ∧ S.2.2.2.1 ≤ N0 + R.cells ∧ S.2.2.2.2 ≤ U0 + R.slots ∧ S'.2.2.2.1 ≤ N0 + R.cells ∧ S'.2.2.2.2 ≤ U0 + R.slots ∧ ∀ a, S.2.1 a ≤ 100000
theorem st_iadd {p : Program} {l : Launch} {e : Env} {R : Room} {s : State} {mi : MethodId} {args : Array Value} {below : List Frame} {meth : Method} {c : Code} {Q : State → Prop} {E : am_E} {N0 U0 nL : Nat} {lg : List Nat} {cc : ByteArray} {pc : Nat} {ls : Lsl} {st : List AV} {M : Mem} {S : Sh} {own nm : String} {ret : Option FieldType} {len : Nat} {inf : List Int} {pc' : Nat} {ls' : Lsl} {st' : List AV} {M' : Mem} {S' : Sh}  (hC : SC p R s mi args meth c E cc nL own nm N0 U0 S S') (hd : decode cc pc = .ok (.iadd, len)) (hok : okE own nm nL lg ret (pc, (.iadd, len, inf)) = true) (hs : am_step (.iadd, len, inf) pc ls st M S = some (Sum.inl (pc', ls', st', M', S'))) (k : GW p l e R s mi args below meth c Q E N0 U0 nL lg pc' ls' st' M' S') : GW p l e R s mi args below meth c Q E N0 U0 nL lg pc ls st M S := by
  obtain ⟨hx, hb, hown, hts, hSW, hnm, hml, hfr, hlo, hcN, hsN, hcN', hsN', hLn⟩ := hC
  replace hok : (len == 1) = true := hok
  have hln := eq_of_beq hok
  subst hln
  replace hs : (pI st fun y t => pI t fun x t => nx (pc + 1) ls (aI (w32 (x + y)) :: t) M S) = some _ := hs
  obtain ⟨y, t, rfl, hs1⟩ := pI_inv hs
  obtain ⟨x, t, rfl, hs2⟩ := pI_inv hs1
  cases nx_inv hs2
  exact so_iadd hx hb hd k
theorem st_isub {p : Program} {l : Launch} {e : Env} {R : Room} {s : State} {mi : MethodId} {args : Array Value} {below : List Frame} {meth : Method} {c : Code} {Q : State → Prop} {E : am_E} {N0 U0 nL : Nat} {lg : List Nat} {cc : ByteArray} {pc : Nat} {ls : Lsl} {st : List AV} {M : Mem} {S : Sh} {own nm : String} {ret : Option FieldType} {len : Nat} {inf : List Int} {pc' : Nat} {ls' : Lsl} {st' : List AV} {M' : Mem} {S' : Sh}  (hC : SC p R s mi args meth c E cc nL own nm N0 U0 S S') (hd : decode cc pc = .ok (.isub, len)) (hok : okE own nm nL lg ret (pc, (.isub, len, inf)) = true) (hs : am_step (.isub, len, inf) pc ls st M S = some (Sum.inl (pc', ls', st', M', S'))) (k : GW p l e R s mi args below meth c Q E N0 U0 nL lg pc' ls' st' M' S') : GW p l e R s mi args below meth c Q E N0 U0 nL lg pc ls st M S := by
  obtain ⟨hx, hb, hown, hts, hSW, hnm, hml, hfr, hlo, hcN, hsN, hcN', hsN', hLn⟩ := hC
  replace hok : (len == 1) = true := hok
  have hln := eq_of_beq hok
  subst hln
  replace hs : (pI st fun y t => pI t fun x t => nx (pc + 1) ls (aI (w32 (x - y)) :: t) M S) = some _ := hs
  obtain ⟨y, t, rfl, hs1⟩ := pI_inv hs
  obtain ⟨x, t, rfl, hs2⟩ := pI_inv hs1
  cases nx_inv hs2
  exact so_isub hx hb hd k
theorem st_imul {p : Program} {l : Launch} {e : Env} {R : Room} {s : State} {mi : MethodId} {args : Array Value} {below : List Frame} {meth : Method} {c : Code} {Q : State → Prop} {E : am_E} {N0 U0 nL : Nat} {lg : List Nat} {cc : ByteArray} {pc : Nat} {ls : Lsl} {st : List AV} {M : Mem} {S : Sh} {own nm : String} {ret : Option FieldType} {len : Nat} {inf : List Int} {pc' : Nat} {ls' : Lsl} {st' : List AV} {M' : Mem} {S' : Sh}  (hC : SC p R s mi args meth c E cc nL own nm N0 U0 S S') (hd : decode cc pc = .ok (.imul, len)) (hok : okE own nm nL lg ret (pc, (.imul, len, inf)) = true) (hs : am_step (.imul, len, inf) pc ls st M S = some (Sum.inl (pc', ls', st', M', S'))) (k : GW p l e R s mi args below meth c Q E N0 U0 nL lg pc' ls' st' M' S') : GW p l e R s mi args below meth c Q E N0 U0 nL lg pc ls st M S := by
  obtain ⟨hx, hb, hown, hts, hSW, hnm, hml, hfr, hlo, hcN, hsN, hcN', hsN', hLn⟩ := hC
  replace hok : (len == 1) = true := hok
  have hln := eq_of_beq hok
  subst hln
  replace hs : (pI st fun y t => pI t fun x t => nx (pc + 1) ls (aI (w32 (x * y)) :: t) M S) = some _ := hs
  obtain ⟨y, t, rfl, hs1⟩ := pI_inv hs
  obtain ⟨x, t, rfl, hs2⟩ := pI_inv hs1
  cases nx_inv hs2
  exact so_imul hx hb hd k
theorem st_iand {p : Program} {l : Launch} {e : Env} {R : Room} {s : State} {mi : MethodId} {args : Array Value} {below : List Frame} {meth : Method} {c : Code} {Q : State → Prop} {E : am_E} {N0 U0 nL : Nat} {lg : List Nat} {cc : ByteArray} {pc : Nat} {ls : Lsl} {st : List AV} {M : Mem} {S : Sh} {own nm : String} {ret : Option FieldType} {len : Nat} {inf : List Int} {pc' : Nat} {ls' : Lsl} {st' : List AV} {M' : Mem} {S' : Sh}  (hC : SC p R s mi args meth c E cc nL own nm N0 U0 S S') (hd : decode cc pc = .ok (.iand, len)) (hok : okE own nm nL lg ret (pc, (.iand, len, inf)) = true) (hs : am_step (.iand, len, inf) pc ls st M S = some (Sum.inl (pc', ls', st', M', S'))) (k : GW p l e R s mi args below meth c Q E N0 U0 nL lg pc' ls' st' M' S') : GW p l e R s mi args below meth c Q E N0 U0 nL lg pc ls st M S := by
  obtain ⟨hx, hb, hown, hts, hSW, hnm, hml, hfr, hlo, hcN, hsN, hcN', hsN', hLn⟩ := hC
  replace hok : (len == 1) = true := hok
  have hln := eq_of_beq hok
  subst hln
  replace hs : (pI st fun y t => pI t fun x t => nx (pc + 1) ls (aI (and32 x y) :: t) M S) = some _ := hs
  obtain ⟨y, t, rfl, hs1⟩ := pI_inv hs
  obtain ⟨x, t, rfl, hs2⟩ := pI_inv hs1
  cases nx_inv hs2
  exact so_iand hx hb hd k
theorem st_ior {p : Program} {l : Launch} {e : Env} {R : Room} {s : State} {mi : MethodId} {args : Array Value} {below : List Frame} {meth : Method} {c : Code} {Q : State → Prop} {E : am_E} {N0 U0 nL : Nat} {lg : List Nat} {cc : ByteArray} {pc : Nat} {ls : Lsl} {st : List AV} {M : Mem} {S : Sh} {own nm : String} {ret : Option FieldType} {len : Nat} {inf : List Int} {pc' : Nat} {ls' : Lsl} {st' : List AV} {M' : Mem} {S' : Sh}  (hC : SC p R s mi args meth c E cc nL own nm N0 U0 S S') (hd : decode cc pc = .ok (.ior, len)) (hok : okE own nm nL lg ret (pc, (.ior, len, inf)) = true) (hs : am_step (.ior, len, inf) pc ls st M S = some (Sum.inl (pc', ls', st', M', S'))) (k : GW p l e R s mi args below meth c Q E N0 U0 nL lg pc' ls' st' M' S') : GW p l e R s mi args below meth c Q E N0 U0 nL lg pc ls st M S := by
  obtain ⟨hx, hb, hown, hts, hSW, hnm, hml, hfr, hlo, hcN, hsN, hcN', hsN', hLn⟩ := hC
  replace hok : (len == 1) = true := hok
  have hln := eq_of_beq hok
  subst hln
  replace hs : (pI st fun y t => pI t fun x t => nx (pc + 1) ls (aI (or32 x y) :: t) M S) = some _ := hs
  obtain ⟨y, t, rfl, hs1⟩ := pI_inv hs
  obtain ⟨x, t, rfl, hs2⟩ := pI_inv hs1
  cases nx_inv hs2
  exact so_ior hx hb hd k
theorem st_ishl {p : Program} {l : Launch} {e : Env} {R : Room} {s : State} {mi : MethodId} {args : Array Value} {below : List Frame} {meth : Method} {c : Code} {Q : State → Prop} {E : am_E} {N0 U0 nL : Nat} {lg : List Nat} {cc : ByteArray} {pc : Nat} {ls : Lsl} {st : List AV} {M : Mem} {S : Sh} {own nm : String} {ret : Option FieldType} {len : Nat} {inf : List Int} {pc' : Nat} {ls' : Lsl} {st' : List AV} {M' : Mem} {S' : Sh}  (hC : SC p R s mi args meth c E cc nL own nm N0 U0 S S') (hd : decode cc pc = .ok (.ishl, len)) (hok : okE own nm nL lg ret (pc, (.ishl, len, inf)) = true) (hs : am_step (.ishl, len, inf) pc ls st M S = some (Sum.inl (pc', ls', st', M', S'))) (k : GW p l e R s mi args below meth c Q E N0 U0 nL lg pc' ls' st' M' S') : GW p l e R s mi args below meth c Q E N0 U0 nL lg pc ls st M S := by
  obtain ⟨hx, hb, hown, hts, hSW, hnm, hml, hfr, hlo, hcN, hsN, hcN', hsN', hLn⟩ := hC
  replace hok : (len == 1) = true := hok
  have hln := eq_of_beq hok
  subst hln
  replace hs : (pI st fun y t => pI t fun x t => nx (pc + 1) ls (aI (sh32 x y) :: t) M S) = some _ := hs
  obtain ⟨y, t, rfl, hs1⟩ := pI_inv hs
  obtain ⟨x, t, rfl, hs2⟩ := pI_inv hs1
  cases nx_inv hs2
  exact so_ishl hx hb hd k
theorem st_idiv {p : Program} {l : Launch} {e : Env} {R : Room} {s : State} {mi : MethodId} {args : Array Value} {below : List Frame} {meth : Method} {c : Code} {Q : State → Prop} {E : am_E} {N0 U0 nL : Nat} {lg : List Nat} {cc : ByteArray} {pc : Nat} {ls : Lsl} {st : List AV} {M : Mem} {S : Sh} {own nm : String} {ret : Option FieldType} {len : Nat} {inf : List Int} {pc' : Nat} {ls' : Lsl} {st' : List AV} {M' : Mem} {S' : Sh}  (hC : SC p R s mi args meth c E cc nL own nm N0 U0 S S') (hd : decode cc pc = .ok (.idiv, len)) (hok : okE own nm nL lg ret (pc, (.idiv, len, inf)) = true) (hs : am_step (.idiv, len, inf) pc ls st M S = some (Sum.inl (pc', ls', st', M', S'))) (k : GW p l e R s mi args below meth c Q E N0 U0 nL lg pc' ls' st' M' S') : GW p l e R s mi args below meth c Q E N0 U0 nL lg pc ls st M S := by
  obtain ⟨hx, hb, hown, hts, hSW, hnm, hml, hfr, hlo, hcN, hsN, hcN', hsN', hLn⟩ := hC
  replace hok : (len == 1) = true := hok
  have hln := eq_of_beq hok
  subst hln
  replace hs : (pI st fun y t => pI t fun x t => bnd (y ≠ 0) (nx (pc + 1) ls (aI (w32 (Int.tdiv x y)) :: t) M S)) = some _ := hs
  obtain ⟨y, t, rfl, hs1⟩ := pI_inv hs
  obtain ⟨x, t, rfl, hs2⟩ := pI_inv hs1
  obtain ⟨hne, hs3⟩ := bnd_inv hs2
  cases nx_inv hs3
  exact so_idiv hne hx hb hd k
theorem st_irem {p : Program} {l : Launch} {e : Env} {R : Room} {s : State} {mi : MethodId} {args : Array Value} {below : List Frame} {meth : Method} {c : Code} {Q : State → Prop} {E : am_E} {N0 U0 nL : Nat} {lg : List Nat} {cc : ByteArray} {pc : Nat} {ls : Lsl} {st : List AV} {M : Mem} {S : Sh} {own nm : String} {ret : Option FieldType} {len : Nat} {inf : List Int} {pc' : Nat} {ls' : Lsl} {st' : List AV} {M' : Mem} {S' : Sh}  (hC : SC p R s mi args meth c E cc nL own nm N0 U0 S S') (hd : decode cc pc = .ok (.irem, len)) (hok : okE own nm nL lg ret (pc, (.irem, len, inf)) = true) (hs : am_step (.irem, len, inf) pc ls st M S = some (Sum.inl (pc', ls', st', M', S'))) (k : GW p l e R s mi args below meth c Q E N0 U0 nL lg pc' ls' st' M' S') : GW p l e R s mi args below meth c Q E N0 U0 nL lg pc ls st M S := by
  obtain ⟨hx, hb, hown, hts, hSW, hnm, hml, hfr, hlo, hcN, hsN, hcN', hsN', hLn⟩ := hC
  replace hok : (len == 1) = true := hok
  have hln := eq_of_beq hok
  subst hln
  replace hs : (pI st fun y t => pI t fun x t => bnd (y ≠ 0) (nx (pc + 1) ls (aI (w32 (Int.tmod x y)) :: t) M S)) = some _ := hs
  obtain ⟨y, t, rfl, hs1⟩ := pI_inv hs
  obtain ⟨x, t, rfl, hs2⟩ := pI_inv hs1
  obtain ⟨hne, hs3⟩ := bnd_inv hs2
  cases nx_inv hs3
  exact so_irem hne hx hb hd k
theorem st_ineg {p : Program} {l : Launch} {e : Env} {R : Room} {s : State} {mi : MethodId} {args : Array Value} {below : List Frame} {meth : Method} {c : Code} {Q : State → Prop} {E : am_E} {N0 U0 nL : Nat} {lg : List Nat} {cc : ByteArray} {pc : Nat} {ls : Lsl} {st : List AV} {M : Mem} {S : Sh} {own nm : String} {ret : Option FieldType} {len : Nat} {inf : List Int} {pc' : Nat} {ls' : Lsl} {st' : List AV} {M' : Mem} {S' : Sh}  (hC : SC p R s mi args meth c E cc nL own nm N0 U0 S S') (hd : decode cc pc = .ok (.ineg, len)) (hok : okE own nm nL lg ret (pc, (.ineg, len, inf)) = true) (hs : am_step (.ineg, len, inf) pc ls st M S = some (Sum.inl (pc', ls', st', M', S'))) (k : GW p l e R s mi args below meth c Q E N0 U0 nL lg pc' ls' st' M' S') : GW p l e R s mi args below meth c Q E N0 U0 nL lg pc ls st M S := by
  obtain ⟨hx, hb, hown, hts, hSW, hnm, hml, hfr, hlo, hcN, hsN, hcN', hsN', hLn⟩ := hC
  replace hok : (len == 1) = true := hok
  have hln := eq_of_beq hok
  subst hln
  replace hs : (pI st fun x t => nx (pc + 1) ls (aI (w32 (-x)) :: t) M S) = some _ := hs
  obtain ⟨x, t, rfl, hs1⟩ := pI_inv hs
  cases nx_inv hs1
  exact so_ineg hx hb hd k
theorem st_i2b {p : Program} {l : Launch} {e : Env} {R : Room} {s : State} {mi : MethodId} {args : Array Value} {below : List Frame} {meth : Method} {c : Code} {Q : State → Prop} {E : am_E} {N0 U0 nL : Nat} {lg : List Nat} {cc : ByteArray} {pc : Nat} {ls : Lsl} {st : List AV} {M : Mem} {S : Sh} {own nm : String} {ret : Option FieldType} {len : Nat} {inf : List Int} {pc' : Nat} {ls' : Lsl} {st' : List AV} {M' : Mem} {S' : Sh}  (hC : SC p R s mi args meth c E cc nL own nm N0 U0 S S') (hd : decode cc pc = .ok (.i2b, len)) (hok : okE own nm nL lg ret (pc, (.i2b, len, inf)) = true) (hs : am_step (.i2b, len, inf) pc ls st M S = some (Sum.inl (pc', ls', st', M', S'))) (k : GW p l e R s mi args below meth c Q E N0 U0 nL lg pc' ls' st' M' S') : GW p l e R s mi args below meth c Q E N0 U0 nL lg pc ls st M S := by
  obtain ⟨hx, hb, hown, hts, hSW, hnm, hml, hfr, hlo, hcN, hsN, hcN', hsN', hLn⟩ := hC
  replace hok : (len == 1) = true := hok
  have hln := eq_of_beq hok
  subst hln
  replace hs : (pI st fun x t => nx (pc + 1) ls (aI (w8 x) :: t) M S) = some _ := hs
  obtain ⟨x, t, rfl, hs1⟩ := pI_inv hs
  cases nx_inv hs1
  exact so_i2b hx hb hd k
theorem st_i2s {p : Program} {l : Launch} {e : Env} {R : Room} {s : State} {mi : MethodId} {args : Array Value} {below : List Frame} {meth : Method} {c : Code} {Q : State → Prop} {E : am_E} {N0 U0 nL : Nat} {lg : List Nat} {cc : ByteArray} {pc : Nat} {ls : Lsl} {st : List AV} {M : Mem} {S : Sh} {own nm : String} {ret : Option FieldType} {len : Nat} {inf : List Int} {pc' : Nat} {ls' : Lsl} {st' : List AV} {M' : Mem} {S' : Sh}  (hC : SC p R s mi args meth c E cc nL own nm N0 U0 S S') (hd : decode cc pc = .ok (.i2s, len)) (hok : okE own nm nL lg ret (pc, (.i2s, len, inf)) = true) (hs : am_step (.i2s, len, inf) pc ls st M S = some (Sum.inl (pc', ls', st', M', S'))) (k : GW p l e R s mi args below meth c Q E N0 U0 nL lg pc' ls' st' M' S') : GW p l e R s mi args below meth c Q E N0 U0 nL lg pc ls st M S := by
  obtain ⟨hx, hb, hown, hts, hSW, hnm, hml, hfr, hlo, hcN, hsN, hcN', hsN', hLn⟩ := hC
  replace hok : (len == 1) = true := hok
  have hln := eq_of_beq hok
  subst hln
  replace hs : (pI st fun x t => nx (pc + 1) ls (aI (w16 x) :: t) M S) = some _ := hs
  obtain ⟨x, t, rfl, hs1⟩ := pI_inv hs
  cases nx_inv hs1
  exact so_i2s hx hb hd k
theorem st_i2l {p : Program} {l : Launch} {e : Env} {R : Room} {s : State} {mi : MethodId} {args : Array Value} {below : List Frame} {meth : Method} {c : Code} {Q : State → Prop} {E : am_E} {N0 U0 nL : Nat} {lg : List Nat} {cc : ByteArray} {pc : Nat} {ls : Lsl} {st : List AV} {M : Mem} {S : Sh} {own nm : String} {ret : Option FieldType} {len : Nat} {inf : List Int} {pc' : Nat} {ls' : Lsl} {st' : List AV} {M' : Mem} {S' : Sh}  (hC : SC p R s mi args meth c E cc nL own nm N0 U0 S S') (hd : decode cc pc = .ok (.i2l, len)) (hok : okE own nm nL lg ret (pc, (.i2l, len, inf)) = true) (hs : am_step (.i2l, len, inf) pc ls st M S = some (Sum.inl (pc', ls', st', M', S'))) (k : GW p l e R s mi args below meth c Q E N0 U0 nL lg pc' ls' st' M' S') : GW p l e R s mi args below meth c Q E N0 U0 nL lg pc ls st M S := by
  obtain ⟨hx, hb, hown, hts, hSW, hnm, hml, hfr, hlo, hcN, hsN, hcN', hsN', hLn⟩ := hC
  replace hok : (len == 1) = true := hok
  have hln := eq_of_beq hok
  subst hln
  replace hs : (pI st fun x t => nx (pc + 1) ls (aL x :: t) M S) = some _ := hs
  obtain ⟨x, t, rfl, hs1⟩ := pI_inv hs
  cases nx_inv hs1
  exact so_i2l hx hb hd k
theorem st_ladd {p : Program} {l : Launch} {e : Env} {R : Room} {s : State} {mi : MethodId} {args : Array Value} {below : List Frame} {meth : Method} {c : Code} {Q : State → Prop} {E : am_E} {N0 U0 nL : Nat} {lg : List Nat} {cc : ByteArray} {pc : Nat} {ls : Lsl} {st : List AV} {M : Mem} {S : Sh} {own nm : String} {ret : Option FieldType} {len : Nat} {inf : List Int} {pc' : Nat} {ls' : Lsl} {st' : List AV} {M' : Mem} {S' : Sh}  (hC : SC p R s mi args meth c E cc nL own nm N0 U0 S S') (hd : decode cc pc = .ok (.ladd, len)) (hok : okE own nm nL lg ret (pc, (.ladd, len, inf)) = true) (hs : am_step (.ladd, len, inf) pc ls st M S = some (Sum.inl (pc', ls', st', M', S'))) (k : GW p l e R s mi args below meth c Q E N0 U0 nL lg pc' ls' st' M' S') : GW p l e R s mi args below meth c Q E N0 U0 nL lg pc ls st M S := by
  obtain ⟨hx, hb, hown, hts, hSW, hnm, hml, hfr, hlo, hcN, hsN, hcN', hsN', hLn⟩ := hC
  replace hok : (len == 1) = true := hok
  have hln := eq_of_beq hok
  subst hln
  replace hs : (pL st fun y t => pL t fun x t => nx (pc + 1) ls (aL (w64 (x + y)) :: t) M S) = some _ := hs
  obtain ⟨y, t, rfl, hs1⟩ := pL_inv hs
  obtain ⟨x, t, rfl, hs2⟩ := pL_inv hs1
  cases nx_inv hs2
  exact so_ladd hx hb hd k
theorem st_lmul {p : Program} {l : Launch} {e : Env} {R : Room} {s : State} {mi : MethodId} {args : Array Value} {below : List Frame} {meth : Method} {c : Code} {Q : State → Prop} {E : am_E} {N0 U0 nL : Nat} {lg : List Nat} {cc : ByteArray} {pc : Nat} {ls : Lsl} {st : List AV} {M : Mem} {S : Sh} {own nm : String} {ret : Option FieldType} {len : Nat} {inf : List Int} {pc' : Nat} {ls' : Lsl} {st' : List AV} {M' : Mem} {S' : Sh}  (hC : SC p R s mi args meth c E cc nL own nm N0 U0 S S') (hd : decode cc pc = .ok (.lmul, len)) (hok : okE own nm nL lg ret (pc, (.lmul, len, inf)) = true) (hs : am_step (.lmul, len, inf) pc ls st M S = some (Sum.inl (pc', ls', st', M', S'))) (k : GW p l e R s mi args below meth c Q E N0 U0 nL lg pc' ls' st' M' S') : GW p l e R s mi args below meth c Q E N0 U0 nL lg pc ls st M S := by
  obtain ⟨hx, hb, hown, hts, hSW, hnm, hml, hfr, hlo, hcN, hsN, hcN', hsN', hLn⟩ := hC
  replace hok : (len == 1) = true := hok
  have hln := eq_of_beq hok
  subst hln
  replace hs : (pL st fun y t => pL t fun x t => nx (pc + 1) ls (aL (w64 (x * y)) :: t) M S) = some _ := hs
  obtain ⟨y, t, rfl, hs1⟩ := pL_inv hs
  obtain ⟨x, t, rfl, hs2⟩ := pL_inv hs1
  cases nx_inv hs2
  exact so_lmul hx hb hd k
theorem st_ldiv {p : Program} {l : Launch} {e : Env} {R : Room} {s : State} {mi : MethodId} {args : Array Value} {below : List Frame} {meth : Method} {c : Code} {Q : State → Prop} {E : am_E} {N0 U0 nL : Nat} {lg : List Nat} {cc : ByteArray} {pc : Nat} {ls : Lsl} {st : List AV} {M : Mem} {S : Sh} {own nm : String} {ret : Option FieldType} {len : Nat} {inf : List Int} {pc' : Nat} {ls' : Lsl} {st' : List AV} {M' : Mem} {S' : Sh}  (hC : SC p R s mi args meth c E cc nL own nm N0 U0 S S') (hd : decode cc pc = .ok (.ldiv, len)) (hok : okE own nm nL lg ret (pc, (.ldiv, len, inf)) = true) (hs : am_step (.ldiv, len, inf) pc ls st M S = some (Sum.inl (pc', ls', st', M', S'))) (k : GW p l e R s mi args below meth c Q E N0 U0 nL lg pc' ls' st' M' S') : GW p l e R s mi args below meth c Q E N0 U0 nL lg pc ls st M S := by
  obtain ⟨hx, hb, hown, hts, hSW, hnm, hml, hfr, hlo, hcN, hsN, hcN', hsN', hLn⟩ := hC
  replace hok : (len == 1) = true := hok
  have hln := eq_of_beq hok
  subst hln
  replace hs : (pL st fun y t => pL t fun x t => bnd (y ≠ 0) (nx (pc + 1) ls (aL (w64 (Int.tdiv x y)) :: t) M S)) = some _ := hs
  obtain ⟨y, t, rfl, hs1⟩ := pL_inv hs
  obtain ⟨x, t, rfl, hs2⟩ := pL_inv hs1
  obtain ⟨hne, hs3⟩ := bnd_inv hs2
  cases nx_inv hs3
  exact so_ldiv hne hx hb hd k
theorem st_lrem {p : Program} {l : Launch} {e : Env} {R : Room} {s : State} {mi : MethodId} {args : Array Value} {below : List Frame} {meth : Method} {c : Code} {Q : State → Prop} {E : am_E} {N0 U0 nL : Nat} {lg : List Nat} {cc : ByteArray} {pc : Nat} {ls : Lsl} {st : List AV} {M : Mem} {S : Sh} {own nm : String} {ret : Option FieldType} {len : Nat} {inf : List Int} {pc' : Nat} {ls' : Lsl} {st' : List AV} {M' : Mem} {S' : Sh}  (hC : SC p R s mi args meth c E cc nL own nm N0 U0 S S') (hd : decode cc pc = .ok (.lrem, len)) (hok : okE own nm nL lg ret (pc, (.lrem, len, inf)) = true) (hs : am_step (.lrem, len, inf) pc ls st M S = some (Sum.inl (pc', ls', st', M', S'))) (k : GW p l e R s mi args below meth c Q E N0 U0 nL lg pc' ls' st' M' S') : GW p l e R s mi args below meth c Q E N0 U0 nL lg pc ls st M S := by
  obtain ⟨hx, hb, hown, hts, hSW, hnm, hml, hfr, hlo, hcN, hsN, hcN', hsN', hLn⟩ := hC
  replace hok : (len == 1) = true := hok
  have hln := eq_of_beq hok
  subst hln
  replace hs : (pL st fun y t => pL t fun x t => bnd (y ≠ 0) (nx (pc + 1) ls (aL (w64 (Int.tmod x y)) :: t) M S)) = some _ := hs
  obtain ⟨y, t, rfl, hs1⟩ := pL_inv hs
  obtain ⟨x, t, rfl, hs2⟩ := pL_inv hs1
  obtain ⟨hne, hs3⟩ := bnd_inv hs2
  cases nx_inv hs3
  exact so_lrem hne hx hb hd k
theorem st_lcmp {p : Program} {l : Launch} {e : Env} {R : Room} {s : State} {mi : MethodId} {args : Array Value} {below : List Frame} {meth : Method} {c : Code} {Q : State → Prop} {E : am_E} {N0 U0 nL : Nat} {lg : List Nat} {cc : ByteArray} {pc : Nat} {ls : Lsl} {st : List AV} {M : Mem} {S : Sh} {own nm : String} {ret : Option FieldType} {len : Nat} {inf : List Int} {pc' : Nat} {ls' : Lsl} {st' : List AV} {M' : Mem} {S' : Sh}  (hC : SC p R s mi args meth c E cc nL own nm N0 U0 S S') (hd : decode cc pc = .ok (.lcmp, len)) (hok : okE own nm nL lg ret (pc, (.lcmp, len, inf)) = true) (hs : am_step (.lcmp, len, inf) pc ls st M S = some (Sum.inl (pc', ls', st', M', S'))) (k : GW p l e R s mi args below meth c Q E N0 U0 nL lg pc' ls' st' M' S') : GW p l e R s mi args below meth c Q E N0 U0 nL lg pc ls st M S := by
  obtain ⟨hx, hb, hown, hts, hSW, hnm, hml, hfr, hlo, hcN, hsN, hcN', hsN', hLn⟩ := hC
  replace hok : (len == 1) = true := hok
  have hln := eq_of_beq hok
  subst hln
  replace hs : (pL st fun y t => pL t fun x t => nx (pc + 1) ls (aI (if x < y then -1 else if x = y then 0 else 1) :: t) M S) = some _ := hs
  obtain ⟨y, t, rfl, hs1⟩ := pL_inv hs
  obtain ⟨x, t, rfl, hs2⟩ := pL_inv hs1
  cases nx_inv hs2
  exact so_lcmp hx hb hd k
theorem st_iconst {p : Program} {l : Launch} {e : Env} {R : Room} {s : State} {mi : MethodId} {args : Array Value} {below : List Frame} {meth : Method} {c : Code} {Q : State → Prop} {E : am_E} {N0 U0 nL : Nat} {lg : List Nat} {cc : ByteArray} {pc : Nat} {ls : Lsl} {st : List AV} {M : Mem} {S : Sh} {own nm : String} {ret : Option FieldType} {len : Nat} {inf : List Int} {pc' : Nat} {ls' : Lsl} {st' : List AV} {M' : Mem} {S' : Sh} {n : Int} (hC : SC p R s mi args meth c E cc nL own nm N0 U0 S S') (hd : decode cc pc = .ok (.iconst n, len)) (hok : okE own nm nL lg ret (pc, (.iconst n, len, inf)) = true) (hs : am_step (.iconst n, len, inf) pc ls st M S = some (Sum.inl (pc', ls', st', M', S'))) (k : GW p l e R s mi args below meth c Q E N0 U0 nL lg pc' ls' st' M' S') : GW p l e R s mi args below meth c Q E N0 U0 nL lg pc ls st M S := by
  obtain ⟨hx, hb, hown, hts, hSW, hnm, hml, hfr, hlo, hcN, hsN, hcN', hsN', hLn⟩ := hC
  replace hok : (in32 n && len == 1) = true := hok
  simp only [Bool.and_eq_true, Bool.or_eq_true, beq_iff_eq, decide_eq_true_eq] at hok
  obtain ⟨hok, hln⟩ := hok
  subst hln
  replace hs : (nx (pc + 1) ls (aI n :: st) M S) = some _ := hs
  cases nx_inv hs
  exact so_iconst (in32_r hok) hx hb hd k
theorem st_bipush {p : Program} {l : Launch} {e : Env} {R : Room} {s : State} {mi : MethodId} {args : Array Value} {below : List Frame} {meth : Method} {c : Code} {Q : State → Prop} {E : am_E} {N0 U0 nL : Nat} {lg : List Nat} {cc : ByteArray} {pc : Nat} {ls : Lsl} {st : List AV} {M : Mem} {S : Sh} {own nm : String} {ret : Option FieldType} {len : Nat} {inf : List Int} {pc' : Nat} {ls' : Lsl} {st' : List AV} {M' : Mem} {S' : Sh} {n : Int} (hC : SC p R s mi args meth c E cc nL own nm N0 U0 S S') (hd : decode cc pc = .ok (.bipush n, len)) (hok : okE own nm nL lg ret (pc, (.bipush n, len, inf)) = true) (hs : am_step (.bipush n, len, inf) pc ls st M S = some (Sum.inl (pc', ls', st', M', S'))) (k : GW p l e R s mi args below meth c Q E N0 U0 nL lg pc' ls' st' M' S') : GW p l e R s mi args below meth c Q E N0 U0 nL lg pc ls st M S := by
  obtain ⟨hx, hb, hown, hts, hSW, hnm, hml, hfr, hlo, hcN, hsN, hcN', hsN', hLn⟩ := hC
  replace hok : (decide (-128 ≤ n ∧ n < 128) && len == 2) = true := hok
  simp only [Bool.and_eq_true, Bool.or_eq_true, beq_iff_eq, decide_eq_true_eq] at hok
  obtain ⟨hok, hln⟩ := hok
  subst hln
  replace hs : (nx (pc + 2) ls (aI n :: st) M S) = some _ := hs
  cases nx_inv hs
  exact so_bipush hok hx hb hd k
theorem st_sipush {p : Program} {l : Launch} {e : Env} {R : Room} {s : State} {mi : MethodId} {args : Array Value} {below : List Frame} {meth : Method} {c : Code} {Q : State → Prop} {E : am_E} {N0 U0 nL : Nat} {lg : List Nat} {cc : ByteArray} {pc : Nat} {ls : Lsl} {st : List AV} {M : Mem} {S : Sh} {own nm : String} {ret : Option FieldType} {len : Nat} {inf : List Int} {pc' : Nat} {ls' : Lsl} {st' : List AV} {M' : Mem} {S' : Sh} {n : Int} (hC : SC p R s mi args meth c E cc nL own nm N0 U0 S S') (hd : decode cc pc = .ok (.sipush n, len)) (hok : okE own nm nL lg ret (pc, (.sipush n, len, inf)) = true) (hs : am_step (.sipush n, len, inf) pc ls st M S = some (Sum.inl (pc', ls', st', M', S'))) (k : GW p l e R s mi args below meth c Q E N0 U0 nL lg pc' ls' st' M' S') : GW p l e R s mi args below meth c Q E N0 U0 nL lg pc ls st M S := by
  obtain ⟨hx, hb, hown, hts, hSW, hnm, hml, hfr, hlo, hcN, hsN, hcN', hsN', hLn⟩ := hC
  replace hok : (decide (-32768 ≤ n ∧ n < 32768) && len == 3) = true := hok
  simp only [Bool.and_eq_true, Bool.or_eq_true, beq_iff_eq, decide_eq_true_eq] at hok
  obtain ⟨hok, hln⟩ := hok
  subst hln
  replace hs : (nx (pc + 3) ls (aI n :: st) M S) = some _ := hs
  cases nx_inv hs
  exact so_sipush hok hx hb hd k
theorem st_lconst {p : Program} {l : Launch} {e : Env} {R : Room} {s : State} {mi : MethodId} {args : Array Value} {below : List Frame} {meth : Method} {c : Code} {Q : State → Prop} {E : am_E} {N0 U0 nL : Nat} {lg : List Nat} {cc : ByteArray} {pc : Nat} {ls : Lsl} {st : List AV} {M : Mem} {S : Sh} {own nm : String} {ret : Option FieldType} {len : Nat} {inf : List Int} {pc' : Nat} {ls' : Lsl} {st' : List AV} {M' : Mem} {S' : Sh} {n : Fin 2} (hC : SC p R s mi args meth c E cc nL own nm N0 U0 S S') (hd : decode cc pc = .ok (.lconst n, len)) (hok : okE own nm nL lg ret (pc, (.lconst n, len, inf)) = true) (hs : am_step (.lconst n, len, inf) pc ls st M S = some (Sum.inl (pc', ls', st', M', S'))) (k : GW p l e R s mi args below meth c Q E N0 U0 nL lg pc' ls' st' M' S') : GW p l e R s mi args below meth c Q E N0 U0 nL lg pc ls st M S := by
  obtain ⟨hx, hb, hown, hts, hSW, hnm, hml, hfr, hlo, hcN, hsN, hcN', hsN', hLn⟩ := hC
  replace hok : (len == 1) = true := hok
  have hln := eq_of_beq hok
  subst hln
  replace hs : (nx (pc + 1) ls (aL (n : Nat) :: st) M S) = some _ := hs
  cases nx_inv hs
  exact so_lconst hx hb hd k
theorem st_aconst_null {p : Program} {l : Launch} {e : Env} {R : Room} {s : State} {mi : MethodId} {args : Array Value} {below : List Frame} {meth : Method} {c : Code} {Q : State → Prop} {E : am_E} {N0 U0 nL : Nat} {lg : List Nat} {cc : ByteArray} {pc : Nat} {ls : Lsl} {st : List AV} {M : Mem} {S : Sh} {own nm : String} {ret : Option FieldType} {len : Nat} {inf : List Int} {pc' : Nat} {ls' : Lsl} {st' : List AV} {M' : Mem} {S' : Sh}  (hC : SC p R s mi args meth c E cc nL own nm N0 U0 S S') (hd : decode cc pc = .ok (.aconst_null, len)) (hok : okE own nm nL lg ret (pc, (.aconst_null, len, inf)) = true) (hs : am_step (.aconst_null, len, inf) pc ls st M S = some (Sum.inl (pc', ls', st', M', S'))) (k : GW p l e R s mi args below meth c Q E N0 U0 nL lg pc' ls' st' M' S') : GW p l e R s mi args below meth c Q E N0 U0 nL lg pc ls st M S := by
  obtain ⟨hx, hb, hown, hts, hSW, hnm, hml, hfr, hlo, hcN, hsN, hcN', hsN', hLn⟩ := hC
  replace hok : (len == 1) = true := hok
  have hln := eq_of_beq hok
  subst hln
  replace hs : (nx (pc + 1) ls (aN :: st) M S) = some _ := hs
  cases nx_inv hs
  exact so_null hx hb hd k
theorem st_ldc {p : Program} {l : Launch} {e : Env} {R : Room} {s : State} {mi : MethodId} {args : Array Value} {below : List Frame} {meth : Method} {c : Code} {Q : State → Prop} {E : am_E} {N0 U0 nL : Nat} {lg : List Nat} {cc : ByteArray} {pc : Nat} {ls : Lsl} {st : List AV} {M : Mem} {S : Sh} {own nm : String} {ret : Option FieldType} {len : Nat} {inf : List Int} {pc' : Nat} {ls' : Lsl} {st' : List AV} {M' : Mem} {S' : Sh} {i : Nat} (hC : SC p R s mi args meth c E cc nL own nm N0 U0 S S') (hd : decode cc pc = .ok (.ldc i, len)) (hok : okE own nm nL lg ret (pc, (.ldc i, len, inf)) = true) (hs : am_step (.ldc i, len, inf) pc ls st M S = some (Sum.inl (pc', ls', st', M', S'))) (k : GW p l e R s mi args below meth c Q E N0 U0 nL lg pc' ls' st' M' S') : GW p l e R s mi args below meth c Q E N0 U0 nL lg pc ls st M S := by
  obtain ⟨hx, hb, hown, hts, hSW, hnm, hml, hfr, hlo, hcN, hsN, hcN', hsN', hLn⟩ := hC
  simp only [am_step] at hs
  split at hs
  · rename_i v p
    replace hok : (in32 v && tbat p (.constant own i (Int32.ofInt v)) && len == 2) = true := hok
    simp only [Bool.and_eq_true, beq_iff_eq] at hok
    obtain ⟨⟨h1, h2⟩, rfl⟩ := hok
    cases nx_inv hs
    exact so_ldc hown (in32_r h1) (hts _ (tbat_m h2)) hx hb hd k
  · rename_i a p
    replace hok : (((a == 3 && own == "StripsFromAbove" && i == 58) || (a == 4 && own == "StripsFromAbove$Reader" && i == 105)) && len == 2) = true := hok
    simp only [Bool.and_eq_true, Bool.or_eq_true, beq_iff_eq] at hok
    obtain ⟨h1, rfl⟩ := hok
    cases nx_inv hs
    rcases h1 with ⟨⟨rfl, rfl⟩, rfl⟩ | ⟨⟨rfl, rfl⟩, rfl⟩
    · exact so_ldcS (a := 3) hown (by omega) hSW.2.2.2.2.2.2.2.2.2.2.1 hx hb hd k
    · exact so_ldcS (a := 4) hown (by omega) hSW.2.2.2.2.2.2.2.2.2.2.2.1 hx hb hd k
  · cases hs
theorem st_ldc_w {p : Program} {l : Launch} {e : Env} {R : Room} {s : State} {mi : MethodId} {args : Array Value} {below : List Frame} {meth : Method} {c : Code} {Q : State → Prop} {E : am_E} {N0 U0 nL : Nat} {lg : List Nat} {cc : ByteArray} {pc : Nat} {ls : Lsl} {st : List AV} {M : Mem} {S : Sh} {own nm : String} {ret : Option FieldType} {len : Nat} {inf : List Int} {pc' : Nat} {ls' : Lsl} {st' : List AV} {M' : Mem} {S' : Sh} {i : Nat} (hC : SC p R s mi args meth c E cc nL own nm N0 U0 S S') (hd : decode cc pc = .ok (.ldc_w i, len)) (hok : okE own nm nL lg ret (pc, (.ldc_w i, len, inf)) = true) (hs : am_step (.ldc_w i, len, inf) pc ls st M S = some (Sum.inl (pc', ls', st', M', S'))) (k : GW p l e R s mi args below meth c Q E N0 U0 nL lg pc' ls' st' M' S') : GW p l e R s mi args below meth c Q E N0 U0 nL lg pc ls st M S := by
  obtain ⟨hx, hb, hown, hts, hSW, hnm, hml, hfr, hlo, hcN, hsN, hcN', hsN', hLn⟩ := hC
  simp only [am_step] at hs
  split at hs
  · rename_i v p
    replace hok : (in32 v && tbat p (.constant own i (Int32.ofInt v)) && len == 3) = true := hok
    simp only [Bool.and_eq_true, beq_iff_eq] at hok
    obtain ⟨⟨h1, h2⟩, rfl⟩ := hok
    cases nx_inv hs
    exact so_ldcw hown (in32_r h1) (hts _ (tbat_m h2)) hx hb hd k
  · cases hs
theorem st_ldc2_w {p : Program} {l : Launch} {e : Env} {R : Room} {s : State} {mi : MethodId} {args : Array Value} {below : List Frame} {meth : Method} {c : Code} {Q : State → Prop} {E : am_E} {N0 U0 nL : Nat} {lg : List Nat} {cc : ByteArray} {pc : Nat} {ls : Lsl} {st : List AV} {M : Mem} {S : Sh} {own nm : String} {ret : Option FieldType} {len : Nat} {inf : List Int} {pc' : Nat} {ls' : Lsl} {st' : List AV} {M' : Mem} {S' : Sh} {i : Nat} (hC : SC p R s mi args meth c E cc nL own nm N0 U0 S S') (hd : decode cc pc = .ok (.ldc2_w i, len)) (hok : okE own nm nL lg ret (pc, (.ldc2_w i, len, inf)) = true) (hs : am_step (.ldc2_w i, len, inf) pc ls st M S = some (Sum.inl (pc', ls', st', M', S'))) (k : GW p l e R s mi args below meth c Q E N0 U0 nL lg pc' ls' st' M' S') : GW p l e R s mi args below meth c Q E N0 U0 nL lg pc ls st M S := by
  obtain ⟨hx, hb, hown, hts, hSW, hnm, hml, hfr, hlo, hcN, hsN, hcN', hsN', hLn⟩ := hC
  simp only [am_step] at hs
  split at hs
  · rename_i v p
    replace hok : (in64 v && tbat p (.constantLong own i (Int64.ofInt v)) && len == 3) = true := hok
    simp only [Bool.and_eq_true, beq_iff_eq] at hok
    obtain ⟨⟨h1, h2⟩, rfl⟩ := hok
    cases nx_inv hs
    exact so_ldc2 hown (in64_r h1) (hts _ (tbat_m h2)) hx hb hd k
  · cases hs
theorem st_iload {p : Program} {l : Launch} {e : Env} {R : Room} {s : State} {mi : MethodId} {args : Array Value} {below : List Frame} {meth : Method} {c : Code} {Q : State → Prop} {E : am_E} {N0 U0 nL : Nat} {lg : List Nat} {cc : ByteArray} {pc : Nat} {ls : Lsl} {st : List AV} {M : Mem} {S : Sh} {own nm : String} {ret : Option FieldType} {len : Nat} {inf : List Int} {pc' : Nat} {ls' : Lsl} {st' : List AV} {M' : Mem} {S' : Sh} {i : Nat} (hC : SC p R s mi args meth c E cc nL own nm N0 U0 S S') (hd : decode cc pc = .ok (.iload i, len)) (hok : okE own nm nL lg ret (pc, (.iload i, len, inf)) = true) (hs : am_step (.iload i, len, inf) pc ls st M S = some (Sum.inl (pc', ls', st', M', S'))) (k : GW p l e R s mi args below meth c Q E N0 U0 nL lg pc' ls' st' M' S') : GW p l e R s mi args below meth c Q E N0 U0 nL lg pc ls st M S := by
  obtain ⟨hx, hb, hown, hts, hSW, hnm, hml, hfr, hlo, hcN, hsN, hcN', hsN', hLn⟩ := hC
  replace hok : (len == 2) = true := hok
  have hln := eq_of_beq hok
  subst hln
  replace hs : (ldI ls i (pc + 2) st M S) = some _ := hs
  obtain ⟨x, hl, hs1⟩ := ldI_inv hs
  cases hs1
  exact so_iload hx hb hd hl k
theorem st_lload {p : Program} {l : Launch} {e : Env} {R : Room} {s : State} {mi : MethodId} {args : Array Value} {below : List Frame} {meth : Method} {c : Code} {Q : State → Prop} {E : am_E} {N0 U0 nL : Nat} {lg : List Nat} {cc : ByteArray} {pc : Nat} {ls : Lsl} {st : List AV} {M : Mem} {S : Sh} {own nm : String} {ret : Option FieldType} {len : Nat} {inf : List Int} {pc' : Nat} {ls' : Lsl} {st' : List AV} {M' : Mem} {S' : Sh} {i : Nat} (hC : SC p R s mi args meth c E cc nL own nm N0 U0 S S') (hd : decode cc pc = .ok (.lload i, len)) (hok : okE own nm nL lg ret (pc, (.lload i, len, inf)) = true) (hs : am_step (.lload i, len, inf) pc ls st M S = some (Sum.inl (pc', ls', st', M', S'))) (k : GW p l e R s mi args below meth c Q E N0 U0 nL lg pc' ls' st' M' S') : GW p l e R s mi args below meth c Q E N0 U0 nL lg pc ls st M S := by
  obtain ⟨hx, hb, hown, hts, hSW, hnm, hml, hfr, hlo, hcN, hsN, hcN', hsN', hLn⟩ := hC
  replace hok : (len == 2) = true := hok
  have hln := eq_of_beq hok
  subst hln
  replace hs : (ldL ls i (pc + 2) st M S) = some _ := hs
  obtain ⟨x, hl, hs1⟩ := ldL_inv hs
  cases hs1
  exact so_lload hx hb hd hl k
theorem st_aload {p : Program} {l : Launch} {e : Env} {R : Room} {s : State} {mi : MethodId} {args : Array Value} {below : List Frame} {meth : Method} {c : Code} {Q : State → Prop} {E : am_E} {N0 U0 nL : Nat} {lg : List Nat} {cc : ByteArray} {pc : Nat} {ls : Lsl} {st : List AV} {M : Mem} {S : Sh} {own nm : String} {ret : Option FieldType} {len : Nat} {inf : List Int} {pc' : Nat} {ls' : Lsl} {st' : List AV} {M' : Mem} {S' : Sh} {i : Nat} (hC : SC p R s mi args meth c E cc nL own nm N0 U0 S S') (hd : decode cc pc = .ok (.aload i, len)) (hok : okE own nm nL lg ret (pc, (.aload i, len, inf)) = true) (hs : am_step (.aload i, len, inf) pc ls st M S = some (Sum.inl (pc', ls', st', M', S'))) (k : GW p l e R s mi args below meth c Q E N0 U0 nL lg pc' ls' st' M' S') : GW p l e R s mi args below meth c Q E N0 U0 nL lg pc ls st M S := by
  obtain ⟨hx, hb, hown, hts, hSW, hnm, hml, hfr, hlo, hcN, hsN, hcN', hsN', hLn⟩ := hC
  replace hok : (len == 2) = true := hok
  have hln := eq_of_beq hok
  subst hln
  replace hs : (ldO ls i (pc + 2) st M S) = some _ := hs
  obtain ⟨x, hl, hs1⟩ := ldO_inv hs
  cases hs1
  exact so_aload hx hb hd hl k
theorem st_iload_n {p : Program} {l : Launch} {e : Env} {R : Room} {s : State} {mi : MethodId} {args : Array Value} {below : List Frame} {meth : Method} {c : Code} {Q : State → Prop} {E : am_E} {N0 U0 nL : Nat} {lg : List Nat} {cc : ByteArray} {pc : Nat} {ls : Lsl} {st : List AV} {M : Mem} {S : Sh} {own nm : String} {ret : Option FieldType} {len : Nat} {inf : List Int} {pc' : Nat} {ls' : Lsl} {st' : List AV} {M' : Mem} {S' : Sh} {i : Fin 4} (hC : SC p R s mi args meth c E cc nL own nm N0 U0 S S') (hd : decode cc pc = .ok (.iload_n i, len)) (hok : okE own nm nL lg ret (pc, (.iload_n i, len, inf)) = true) (hs : am_step (.iload_n i, len, inf) pc ls st M S = some (Sum.inl (pc', ls', st', M', S'))) (k : GW p l e R s mi args below meth c Q E N0 U0 nL lg pc' ls' st' M' S') : GW p l e R s mi args below meth c Q E N0 U0 nL lg pc ls st M S := by
  obtain ⟨hx, hb, hown, hts, hSW, hnm, hml, hfr, hlo, hcN, hsN, hcN', hsN', hLn⟩ := hC
  replace hok : (len == 1) = true := hok
  have hln := eq_of_beq hok
  subst hln
  replace hs : (ldI ls i (pc + 1) st M S) = some _ := hs
  obtain ⟨x, hl, hs1⟩ := ldI_inv hs
  cases hs1
  exact so_iload_n hx hb hd hl k
theorem st_lload_n {p : Program} {l : Launch} {e : Env} {R : Room} {s : State} {mi : MethodId} {args : Array Value} {below : List Frame} {meth : Method} {c : Code} {Q : State → Prop} {E : am_E} {N0 U0 nL : Nat} {lg : List Nat} {cc : ByteArray} {pc : Nat} {ls : Lsl} {st : List AV} {M : Mem} {S : Sh} {own nm : String} {ret : Option FieldType} {len : Nat} {inf : List Int} {pc' : Nat} {ls' : Lsl} {st' : List AV} {M' : Mem} {S' : Sh} {i : Fin 4} (hC : SC p R s mi args meth c E cc nL own nm N0 U0 S S') (hd : decode cc pc = .ok (.lload_n i, len)) (hok : okE own nm nL lg ret (pc, (.lload_n i, len, inf)) = true) (hs : am_step (.lload_n i, len, inf) pc ls st M S = some (Sum.inl (pc', ls', st', M', S'))) (k : GW p l e R s mi args below meth c Q E N0 U0 nL lg pc' ls' st' M' S') : GW p l e R s mi args below meth c Q E N0 U0 nL lg pc ls st M S := by
  obtain ⟨hx, hb, hown, hts, hSW, hnm, hml, hfr, hlo, hcN, hsN, hcN', hsN', hLn⟩ := hC
  replace hok : (len == 1) = true := hok
  have hln := eq_of_beq hok
  subst hln
  replace hs : (ldL ls i (pc + 1) st M S) = some _ := hs
  obtain ⟨x, hl, hs1⟩ := ldL_inv hs
  cases hs1
  exact so_lload_n hx hb hd hl k
theorem st_aload_n {p : Program} {l : Launch} {e : Env} {R : Room} {s : State} {mi : MethodId} {args : Array Value} {below : List Frame} {meth : Method} {c : Code} {Q : State → Prop} {E : am_E} {N0 U0 nL : Nat} {lg : List Nat} {cc : ByteArray} {pc : Nat} {ls : Lsl} {st : List AV} {M : Mem} {S : Sh} {own nm : String} {ret : Option FieldType} {len : Nat} {inf : List Int} {pc' : Nat} {ls' : Lsl} {st' : List AV} {M' : Mem} {S' : Sh} {i : Fin 4} (hC : SC p R s mi args meth c E cc nL own nm N0 U0 S S') (hd : decode cc pc = .ok (.aload_n i, len)) (hok : okE own nm nL lg ret (pc, (.aload_n i, len, inf)) = true) (hs : am_step (.aload_n i, len, inf) pc ls st M S = some (Sum.inl (pc', ls', st', M', S'))) (k : GW p l e R s mi args below meth c Q E N0 U0 nL lg pc' ls' st' M' S') : GW p l e R s mi args below meth c Q E N0 U0 nL lg pc ls st M S := by
  obtain ⟨hx, hb, hown, hts, hSW, hnm, hml, hfr, hlo, hcN, hsN, hcN', hsN', hLn⟩ := hC
  replace hok : (len == 1) = true := hok
  have hln := eq_of_beq hok
  subst hln
  replace hs : (ldO ls i (pc + 1) st M S) = some _ := hs
  obtain ⟨x, hl, hs1⟩ := ldO_inv hs
  cases hs1
  exact so_aload_n hx hb hd hl k
theorem st_istore {p : Program} {l : Launch} {e : Env} {R : Room} {s : State} {mi : MethodId} {args : Array Value} {below : List Frame} {meth : Method} {c : Code} {Q : State → Prop} {E : am_E} {N0 U0 nL : Nat} {lg : List Nat} {cc : ByteArray} {pc : Nat} {ls : Lsl} {st : List AV} {M : Mem} {S : Sh} {own nm : String} {ret : Option FieldType} {len : Nat} {inf : List Int} {pc' : Nat} {ls' : Lsl} {st' : List AV} {M' : Mem} {S' : Sh} {i : Nat} (hC : SC p R s mi args meth c E cc nL own nm N0 U0 S S') (hd : decode cc pc = .ok (.istore i, len)) (hok : okE own nm nL lg ret (pc, (.istore i, len, inf)) = true) (hs : am_step (.istore i, len, inf) pc ls st M S = some (Sum.inl (pc', ls', st', M', S'))) (k : GW p l e R s mi args below meth c Q E N0 U0 nL lg pc' ls' st' M' S') : GW p l e R s mi args below meth c Q E N0 U0 nL lg pc ls st M S := by
  obtain ⟨hx, hb, hown, hts, hSW, hnm, hml, hfr, hlo, hcN, hsN, hcN', hsN', hLn⟩ := hC
  replace hok : (stok nL lg i && len == 2) = true := hok
  simp only [Bool.and_eq_true, Bool.or_eq_true, beq_iff_eq, decide_eq_true_eq] at hok
  obtain ⟨hok, hln⟩ := hok
  subst hln
  obtain ⟨h1, h2⟩ := stok_i hok
  replace hs : (pI st fun x t => nx (pc + 2) (ls.set i (some (aI x))) t M S) = some _ := hs
  obtain ⟨x, t, rfl, hs1⟩ := pI_inv hs
  cases nx_inv hs1
  exact so_istore hx hb hd h1 h2 k
theorem st_astore {p : Program} {l : Launch} {e : Env} {R : Room} {s : State} {mi : MethodId} {args : Array Value} {below : List Frame} {meth : Method} {c : Code} {Q : State → Prop} {E : am_E} {N0 U0 nL : Nat} {lg : List Nat} {cc : ByteArray} {pc : Nat} {ls : Lsl} {st : List AV} {M : Mem} {S : Sh} {own nm : String} {ret : Option FieldType} {len : Nat} {inf : List Int} {pc' : Nat} {ls' : Lsl} {st' : List AV} {M' : Mem} {S' : Sh} {i : Nat} (hC : SC p R s mi args meth c E cc nL own nm N0 U0 S S') (hd : decode cc pc = .ok (.astore i, len)) (hok : okE own nm nL lg ret (pc, (.astore i, len, inf)) = true) (hs : am_step (.astore i, len, inf) pc ls st M S = some (Sum.inl (pc', ls', st', M', S'))) (k : GW p l e R s mi args below meth c Q E N0 U0 nL lg pc' ls' st' M' S') : GW p l e R s mi args below meth c Q E N0 U0 nL lg pc ls st M S := by
  obtain ⟨hx, hb, hown, hts, hSW, hnm, hml, hfr, hlo, hcN, hsN, hcN', hsN', hLn⟩ := hC
  replace hok : (stok nL lg i && len == 2) = true := hok
  simp only [Bool.and_eq_true, Bool.or_eq_true, beq_iff_eq, decide_eq_true_eq] at hok
  obtain ⟨hok, hln⟩ := hok
  subst hln
  obtain ⟨h1, h2⟩ := stok_i hok
  replace hs : (pO st fun x t => nx (pc + 2) (ls.set i (some (aO x))) t M S) = some _ := hs
  obtain ⟨x, t, rfl, hs1⟩ := pO_inv hs
  cases nx_inv hs1
  exact so_astore hx hb hd h1 h2 k
theorem st_istore_n {p : Program} {l : Launch} {e : Env} {R : Room} {s : State} {mi : MethodId} {args : Array Value} {below : List Frame} {meth : Method} {c : Code} {Q : State → Prop} {E : am_E} {N0 U0 nL : Nat} {lg : List Nat} {cc : ByteArray} {pc : Nat} {ls : Lsl} {st : List AV} {M : Mem} {S : Sh} {own nm : String} {ret : Option FieldType} {len : Nat} {inf : List Int} {pc' : Nat} {ls' : Lsl} {st' : List AV} {M' : Mem} {S' : Sh} {i : Fin 4} (hC : SC p R s mi args meth c E cc nL own nm N0 U0 S S') (hd : decode cc pc = .ok (.istore_n i, len)) (hok : okE own nm nL lg ret (pc, (.istore_n i, len, inf)) = true) (hs : am_step (.istore_n i, len, inf) pc ls st M S = some (Sum.inl (pc', ls', st', M', S'))) (k : GW p l e R s mi args below meth c Q E N0 U0 nL lg pc' ls' st' M' S') : GW p l e R s mi args below meth c Q E N0 U0 nL lg pc ls st M S := by
  obtain ⟨hx, hb, hown, hts, hSW, hnm, hml, hfr, hlo, hcN, hsN, hcN', hsN', hLn⟩ := hC
  replace hok : (stok nL lg i && len == 1) = true := hok
  simp only [Bool.and_eq_true, Bool.or_eq_true, beq_iff_eq, decide_eq_true_eq] at hok
  obtain ⟨hok, hln⟩ := hok
  subst hln
  obtain ⟨h1, h2⟩ := stok_i hok
  replace hs : (pI st fun x t => nx (pc + 1) (ls.set i (some (aI x))) t M S) = some _ := hs
  obtain ⟨x, t, rfl, hs1⟩ := pI_inv hs
  cases nx_inv hs1
  exact so_istore_n hx hb hd h1 h2 k
theorem st_astore_n {p : Program} {l : Launch} {e : Env} {R : Room} {s : State} {mi : MethodId} {args : Array Value} {below : List Frame} {meth : Method} {c : Code} {Q : State → Prop} {E : am_E} {N0 U0 nL : Nat} {lg : List Nat} {cc : ByteArray} {pc : Nat} {ls : Lsl} {st : List AV} {M : Mem} {S : Sh} {own nm : String} {ret : Option FieldType} {len : Nat} {inf : List Int} {pc' : Nat} {ls' : Lsl} {st' : List AV} {M' : Mem} {S' : Sh} {i : Fin 4} (hC : SC p R s mi args meth c E cc nL own nm N0 U0 S S') (hd : decode cc pc = .ok (.astore_n i, len)) (hok : okE own nm nL lg ret (pc, (.astore_n i, len, inf)) = true) (hs : am_step (.astore_n i, len, inf) pc ls st M S = some (Sum.inl (pc', ls', st', M', S'))) (k : GW p l e R s mi args below meth c Q E N0 U0 nL lg pc' ls' st' M' S') : GW p l e R s mi args below meth c Q E N0 U0 nL lg pc ls st M S := by
  obtain ⟨hx, hb, hown, hts, hSW, hnm, hml, hfr, hlo, hcN, hsN, hcN', hsN', hLn⟩ := hC
  replace hok : (stok nL lg i && len == 1) = true := hok
  simp only [Bool.and_eq_true, Bool.or_eq_true, beq_iff_eq, decide_eq_true_eq] at hok
  obtain ⟨hok, hln⟩ := hok
  subst hln
  obtain ⟨h1, h2⟩ := stok_i hok
  replace hs : (pO st fun x t => nx (pc + 1) (ls.set i (some (aO x))) t M S) = some _ := hs
  obtain ⟨x, t, rfl, hs1⟩ := pO_inv hs
  cases nx_inv hs1
  exact so_astore_n hx hb hd h1 h2 k
theorem st_lstore {p : Program} {l : Launch} {e : Env} {R : Room} {s : State} {mi : MethodId} {args : Array Value} {below : List Frame} {meth : Method} {c : Code} {Q : State → Prop} {E : am_E} {N0 U0 nL : Nat} {lg : List Nat} {cc : ByteArray} {pc : Nat} {ls : Lsl} {st : List AV} {M : Mem} {S : Sh} {own nm : String} {ret : Option FieldType} {len : Nat} {inf : List Int} {pc' : Nat} {ls' : Lsl} {st' : List AV} {M' : Mem} {S' : Sh} {i : Nat} (hC : SC p R s mi args meth c E cc nL own nm N0 U0 S S') (hd : decode cc pc = .ok (.lstore i, len)) (hok : okE own nm nL lg ret (pc, (.lstore i, len, inf)) = true) (hs : am_step (.lstore i, len, inf) pc ls st M S = some (Sum.inl (pc', ls', st', M', S'))) (k : GW p l e R s mi args below meth c Q E N0 U0 nL lg pc' ls' st' M' S') : GW p l e R s mi args below meth c Q E N0 U0 nL lg pc ls st M S := by
  obtain ⟨hx, hb, hown, hts, hSW, hnm, hml, hfr, hlo, hcN, hsN, hcN', hsN', hLn⟩ := hC
  replace hok : (stok nL lg i && decide ((i : Nat) + 1 < nL) && decide ((i : Nat) ∈ lg) && len == 2) = true := hok
  simp only [Bool.and_eq_true, Bool.or_eq_true, beq_iff_eq, decide_eq_true_eq] at hok
  obtain ⟨⟨⟨hok, g1⟩, g2⟩, hln⟩ := hok
  subst hln
  obtain ⟨h1, h2⟩ := stok_i hok
  replace hs : (pL st fun x t => nx (pc + 2) ((ls.set (i + 1) none).set i (some (aL x))) t M S) = some _ := hs
  obtain ⟨x, t, rfl, hs1⟩ := pL_inv hs
  cases nx_inv hs1
  exact so_lstore hx hb hd g1 g2 h2 k
theorem st_lstore_n {p : Program} {l : Launch} {e : Env} {R : Room} {s : State} {mi : MethodId} {args : Array Value} {below : List Frame} {meth : Method} {c : Code} {Q : State → Prop} {E : am_E} {N0 U0 nL : Nat} {lg : List Nat} {cc : ByteArray} {pc : Nat} {ls : Lsl} {st : List AV} {M : Mem} {S : Sh} {own nm : String} {ret : Option FieldType} {len : Nat} {inf : List Int} {pc' : Nat} {ls' : Lsl} {st' : List AV} {M' : Mem} {S' : Sh} {i : Fin 4} (hC : SC p R s mi args meth c E cc nL own nm N0 U0 S S') (hd : decode cc pc = .ok (.lstore_n i, len)) (hok : okE own nm nL lg ret (pc, (.lstore_n i, len, inf)) = true) (hs : am_step (.lstore_n i, len, inf) pc ls st M S = some (Sum.inl (pc', ls', st', M', S'))) (k : GW p l e R s mi args below meth c Q E N0 U0 nL lg pc' ls' st' M' S') : GW p l e R s mi args below meth c Q E N0 U0 nL lg pc ls st M S := by
  obtain ⟨hx, hb, hown, hts, hSW, hnm, hml, hfr, hlo, hcN, hsN, hcN', hsN', hLn⟩ := hC
  replace hok : (stok nL lg i && decide ((i : Nat) + 1 < nL) && decide ((i : Nat) ∈ lg) && len == 1) = true := hok
  simp only [Bool.and_eq_true, Bool.or_eq_true, beq_iff_eq, decide_eq_true_eq] at hok
  obtain ⟨⟨⟨hok, g1⟩, g2⟩, hln⟩ := hok
  subst hln
  obtain ⟨h1, h2⟩ := stok_i hok
  replace hs : (pL st fun x t => nx (pc + 1) ((ls.set (i + 1) none).set i (some (aL x))) t M S) = some _ := hs
  obtain ⟨x, t, rfl, hs1⟩ := pL_inv hs
  cases nx_inv hs1
  exact so_lstore_n hx hb hd g1 g2 h2 k
theorem st_iinc {p : Program} {l : Launch} {e : Env} {R : Room} {s : State} {mi : MethodId} {args : Array Value} {below : List Frame} {meth : Method} {c : Code} {Q : State → Prop} {E : am_E} {N0 U0 nL : Nat} {lg : List Nat} {cc : ByteArray} {pc : Nat} {ls : Lsl} {st : List AV} {M : Mem} {S : Sh} {own nm : String} {ret : Option FieldType} {len : Nat} {inf : List Int} {pc' : Nat} {ls' : Lsl} {st' : List AV} {M' : Mem} {S' : Sh} {i : Nat} {n : Int} (hC : SC p R s mi args meth c E cc nL own nm N0 U0 S S') (hd : decode cc pc = .ok (.iinc i n, len)) (hok : okE own nm nL lg ret (pc, (.iinc i n, len, inf)) = true) (hs : am_step (.iinc i n, len, inf) pc ls st M S = some (Sum.inl (pc', ls', st', M', S'))) (k : GW p l e R s mi args below meth c Q E N0 U0 nL lg pc' ls' st' M' S') : GW p l e R s mi args below meth c Q E N0 U0 nL lg pc ls st M S := by
  obtain ⟨hx, hb, hown, hts, hSW, hnm, hml, hfr, hlo, hcN, hsN, hcN', hsN', hLn⟩ := hC
  replace hok : (stok nL lg i && len == 3) = true := hok
  simp only [Bool.and_eq_true, Bool.or_eq_true, beq_iff_eq, decide_eq_true_eq] at hok
  obtain ⟨hok, hln⟩ := hok
  subst hln
  obtain ⟨h1, h2⟩ := stok_i hok
  simp only [am_step] at hs
  obtain ⟨v, hl, hs1⟩ := glv_inv hs
  rcases v with x | x | x
  · cases nx_inv hs1
    exact so_iinc hx hb hd hl h2 k
  · cases hs1
  · cases hs1
theorem st_dup {p : Program} {l : Launch} {e : Env} {R : Room} {s : State} {mi : MethodId} {args : Array Value} {below : List Frame} {meth : Method} {c : Code} {Q : State → Prop} {E : am_E} {N0 U0 nL : Nat} {lg : List Nat} {cc : ByteArray} {pc : Nat} {ls : Lsl} {st : List AV} {M : Mem} {S : Sh} {own nm : String} {ret : Option FieldType} {len : Nat} {inf : List Int} {pc' : Nat} {ls' : Lsl} {st' : List AV} {M' : Mem} {S' : Sh}  (hC : SC p R s mi args meth c E cc nL own nm N0 U0 S S') (hd : decode cc pc = .ok (.dup, len)) (hok : okE own nm nL lg ret (pc, (.dup, len, inf)) = true) (hs : am_step (.dup, len, inf) pc ls st M S = some (Sum.inl (pc', ls', st', M', S'))) (k : GW p l e R s mi args below meth c Q E N0 U0 nL lg pc' ls' st' M' S') : GW p l e R s mi args below meth c Q E N0 U0 nL lg pc ls st M S := by
  obtain ⟨hx, hb, hown, hts, hSW, hnm, hml, hfr, hlo, hcN, hsN, hcN', hsN', hLn⟩ := hC
  replace hok : (len == 1) = true := hok
  have hln := eq_of_beq hok
  subst hln
  simp only [am_step] at hs
  split at hs
  · cases nx_inv hs
    exact so_dupI hx hb hd k
  · cases nx_inv hs
    exact so_dupO hx hb hd k
  · cases hs
theorem st_dup2 {p : Program} {l : Launch} {e : Env} {R : Room} {s : State} {mi : MethodId} {args : Array Value} {below : List Frame} {meth : Method} {c : Code} {Q : State → Prop} {E : am_E} {N0 U0 nL : Nat} {lg : List Nat} {cc : ByteArray} {pc : Nat} {ls : Lsl} {st : List AV} {M : Mem} {S : Sh} {own nm : String} {ret : Option FieldType} {len : Nat} {inf : List Int} {pc' : Nat} {ls' : Lsl} {st' : List AV} {M' : Mem} {S' : Sh}  (hC : SC p R s mi args meth c E cc nL own nm N0 U0 S S') (hd : decode cc pc = .ok (.dup2, len)) (hok : okE own nm nL lg ret (pc, (.dup2, len, inf)) = true) (hs : am_step (.dup2, len, inf) pc ls st M S = some (Sum.inl (pc', ls', st', M', S'))) (k : GW p l e R s mi args below meth c Q E N0 U0 nL lg pc' ls' st' M' S') : GW p l e R s mi args below meth c Q E N0 U0 nL lg pc ls st M S := by
  obtain ⟨hx, hb, hown, hts, hSW, hnm, hml, hfr, hlo, hcN, hsN, hcN', hsN', hLn⟩ := hC
  replace hok : (len == 1) = true := hok
  have hln := eq_of_beq hok
  subst hln
  replace hs : (pI st fun y t => pR t fun x t => nx (pc + 1) ls (aI y :: aR x :: aI y :: aR x :: t) M S) = some _ := hs
  obtain ⟨y, t, rfl, hs1⟩ := pI_inv hs
  obtain ⟨x, t, rfl, hs2⟩ := pR_inv hs1
  cases nx_inv hs2
  exact so_dup2 hx hb hd k
theorem st_pop {p : Program} {l : Launch} {e : Env} {R : Room} {s : State} {mi : MethodId} {args : Array Value} {below : List Frame} {meth : Method} {c : Code} {Q : State → Prop} {E : am_E} {N0 U0 nL : Nat} {lg : List Nat} {cc : ByteArray} {pc : Nat} {ls : Lsl} {st : List AV} {M : Mem} {S : Sh} {own nm : String} {ret : Option FieldType} {len : Nat} {inf : List Int} {pc' : Nat} {ls' : Lsl} {st' : List AV} {M' : Mem} {S' : Sh}  (hC : SC p R s mi args meth c E cc nL own nm N0 U0 S S') (hd : decode cc pc = .ok (.pop, len)) (hok : okE own nm nL lg ret (pc, (.pop, len, inf)) = true) (hs : am_step (.pop, len, inf) pc ls st M S = some (Sum.inl (pc', ls', st', M', S'))) (k : GW p l e R s mi args below meth c Q E N0 U0 nL lg pc' ls' st' M' S') : GW p l e R s mi args below meth c Q E N0 U0 nL lg pc ls st M S := by
  obtain ⟨hx, hb, hown, hts, hSW, hnm, hml, hfr, hlo, hcN, hsN, hcN', hsN', hLn⟩ := hC
  replace hok : (len == 1) = true := hok
  have hln := eq_of_beq hok
  subst hln
  replace hs : (pI st fun _ t => nx (pc + 1) ls t M S) = some _ := hs
  obtain ⟨x, t, rfl, hs1⟩ := pI_inv hs
  cases nx_inv hs1
  exact so_pop hx hb hd k
theorem st_goto {p : Program} {l : Launch} {e : Env} {R : Room} {s : State} {mi : MethodId} {args : Array Value} {below : List Frame} {meth : Method} {c : Code} {Q : State → Prop} {E : am_E} {N0 U0 nL : Nat} {lg : List Nat} {cc : ByteArray} {pc : Nat} {ls : Lsl} {st : List AV} {M : Mem} {S : Sh} {own nm : String} {ret : Option FieldType} {len : Nat} {inf : List Int} {pc' : Nat} {ls' : Lsl} {st' : List AV} {M' : Mem} {S' : Sh} {off : Int} (hC : SC p R s mi args meth c E cc nL own nm N0 U0 S S') (hd : decode cc pc = .ok (.goto off, len)) (hok : okE own nm nL lg ret (pc, (.goto off, len, inf)) = true) (hs : am_step (.goto off, len, inf) pc ls st M S = some (Sum.inl (pc', ls', st', M', S'))) (k : GW p l e R s mi args below meth c Q E N0 U0 nL lg pc' ls' st' M' S') : GW p l e R s mi args below meth c Q E N0 U0 nL lg pc ls st M S := by
  obtain ⟨hx, hb, hown, hts, hSW, hnm, hml, hfr, hlo, hcN, hsN, hcN', hsN', hLn⟩ := hC
  replace hok : (decide (0 ≤ (pc : Int) + off) && len == 3) = true := hok
  simp only [Bool.and_eq_true, Bool.or_eq_true, beq_iff_eq, decide_eq_true_eq] at hok
  obtain ⟨hok, hln⟩ := hok
  subst hln
  replace hs : (nx (tgt pc off) ls st M S) = some _ := hs
  cases nx_inv hs
  exact so_goto hx hb hd hok k
theorem st_ifCond {p : Program} {l : Launch} {e : Env} {R : Room} {s : State} {mi : MethodId} {args : Array Value} {below : List Frame} {meth : Method} {c : Code} {Q : State → Prop} {E : am_E} {N0 U0 nL : Nat} {lg : List Nat} {cc : ByteArray} {pc : Nat} {ls : Lsl} {st : List AV} {M : Mem} {S : Sh} {own nm : String} {ret : Option FieldType} {len : Nat} {inf : List Int} {pc' : Nat} {ls' : Lsl} {st' : List AV} {M' : Mem} {S' : Sh} {cd : ClassFile.Cond} {off : Int} (hC : SC p R s mi args meth c E cc nL own nm N0 U0 S S') (hd : decode cc pc = .ok (.ifCond cd off, len)) (hok : okE own nm nL lg ret (pc, (.ifCond cd off, len, inf)) = true) (hs : am_step (.ifCond cd off, len, inf) pc ls st M S = some (Sum.inl (pc', ls', st', M', S'))) (k : GW p l e R s mi args below meth c Q E N0 U0 nL lg pc' ls' st' M' S') : GW p l e R s mi args below meth c Q E N0 U0 nL lg pc ls st M S := by
  obtain ⟨hx, hb, hown, hts, hSW, hnm, hml, hfr, hlo, hcN, hsN, hcN', hsN', hLn⟩ := hC
  replace hok : (decide (0 ≤ (pc : Int) + off) && len == 3) = true := hok
  simp only [Bool.and_eq_true, Bool.or_eq_true, beq_iff_eq, decide_eq_true_eq] at hok
  obtain ⟨hok, hln⟩ := hok
  subst hln
  replace hs : (pI st fun x t => brn (cnd cd x 0 = true) pc off ls t M S) = some _ := hs
  obtain ⟨x, t, rfl, hs1⟩ := pI_inv hs
  rcases brn_inv hs1 with ⟨hc, hz⟩ | ⟨hc, hz⟩
  · cases hz
    exact so_if hx hb hd hok (fun _ => k) (fun z => absurd hc z)
  · cases hz
    exact so_if hx hb hd hok (fun z => absurd z hc) (fun _ => k)
theorem st_if_icmp {p : Program} {l : Launch} {e : Env} {R : Room} {s : State} {mi : MethodId} {args : Array Value} {below : List Frame} {meth : Method} {c : Code} {Q : State → Prop} {E : am_E} {N0 U0 nL : Nat} {lg : List Nat} {cc : ByteArray} {pc : Nat} {ls : Lsl} {st : List AV} {M : Mem} {S : Sh} {own nm : String} {ret : Option FieldType} {len : Nat} {inf : List Int} {pc' : Nat} {ls' : Lsl} {st' : List AV} {M' : Mem} {S' : Sh} {cd : ClassFile.Cond} {off : Int} (hC : SC p R s mi args meth c E cc nL own nm N0 U0 S S') (hd : decode cc pc = .ok (.if_icmp cd off, len)) (hok : okE own nm nL lg ret (pc, (.if_icmp cd off, len, inf)) = true) (hs : am_step (.if_icmp cd off, len, inf) pc ls st M S = some (Sum.inl (pc', ls', st', M', S'))) (k : GW p l e R s mi args below meth c Q E N0 U0 nL lg pc' ls' st' M' S') : GW p l e R s mi args below meth c Q E N0 U0 nL lg pc ls st M S := by
  obtain ⟨hx, hb, hown, hts, hSW, hnm, hml, hfr, hlo, hcN, hsN, hcN', hsN', hLn⟩ := hC
  replace hok : (decide (0 ≤ (pc : Int) + off) && len == 3) = true := hok
  simp only [Bool.and_eq_true, Bool.or_eq_true, beq_iff_eq, decide_eq_true_eq] at hok
  obtain ⟨hok, hln⟩ := hok
  subst hln
  replace hs : (pI st fun y t => pI t fun x t => brn (cnd cd x y = true) pc off ls t M S) = some _ := hs
  obtain ⟨y, t, rfl, hs1⟩ := pI_inv hs
  obtain ⟨x, t, rfl, hs2⟩ := pI_inv hs1
  rcases brn_inv hs2 with ⟨hc, hz⟩ | ⟨hc, hz⟩
  · cases hz
    exact so_icmp hx hb hd hok (fun _ => k) (fun z => absurd hc z)
  · cases hz
    exact so_icmp hx hb hd hok (fun z => absurd z hc) (fun _ => k)
theorem st_ifnull {p : Program} {l : Launch} {e : Env} {R : Room} {s : State} {mi : MethodId} {args : Array Value} {below : List Frame} {meth : Method} {c : Code} {Q : State → Prop} {E : am_E} {N0 U0 nL : Nat} {lg : List Nat} {cc : ByteArray} {pc : Nat} {ls : Lsl} {st : List AV} {M : Mem} {S : Sh} {own nm : String} {ret : Option FieldType} {len : Nat} {inf : List Int} {pc' : Nat} {ls' : Lsl} {st' : List AV} {M' : Mem} {S' : Sh} {off : Int} (hC : SC p R s mi args meth c E cc nL own nm N0 U0 S S') (hd : decode cc pc = .ok (.ifnull off, len)) (hok : okE own nm nL lg ret (pc, (.ifnull off, len, inf)) = true) (hs : am_step (.ifnull off, len, inf) pc ls st M S = some (Sum.inl (pc', ls', st', M', S'))) (k : GW p l e R s mi args below meth c Q E N0 U0 nL lg pc' ls' st' M' S') : GW p l e R s mi args below meth c Q E N0 U0 nL lg pc ls st M S := by
  obtain ⟨hx, hb, hown, hts, hSW, hnm, hml, hfr, hlo, hcN, hsN, hcN', hsN', hLn⟩ := hC
  replace hok : (decide (0 ≤ (pc : Int) + off) && len == 3) = true := hok
  simp only [Bool.and_eq_true, Bool.or_eq_true, beq_iff_eq, decide_eq_true_eq] at hok
  obtain ⟨hok, hln⟩ := hok
  subst hln
  replace hs : (pO st fun o t => brn (o.isNone = true) pc off ls t M S) = some _ := hs
  obtain ⟨o, t, rfl, hs1⟩ := pO_inv hs
  rcases brn_inv hs1 with ⟨hc, hz⟩ | ⟨hc, hz⟩
  · cases hz
    exact so_ifnull hx hb hd hok (fun _ => k) (fun z => absurd hc z)
  · cases hz
    exact so_ifnull hx hb hd hok (fun z => absurd z hc) (fun _ => k)
theorem st_ifnonnull {p : Program} {l : Launch} {e : Env} {R : Room} {s : State} {mi : MethodId} {args : Array Value} {below : List Frame} {meth : Method} {c : Code} {Q : State → Prop} {E : am_E} {N0 U0 nL : Nat} {lg : List Nat} {cc : ByteArray} {pc : Nat} {ls : Lsl} {st : List AV} {M : Mem} {S : Sh} {own nm : String} {ret : Option FieldType} {len : Nat} {inf : List Int} {pc' : Nat} {ls' : Lsl} {st' : List AV} {M' : Mem} {S' : Sh} {off : Int} (hC : SC p R s mi args meth c E cc nL own nm N0 U0 S S') (hd : decode cc pc = .ok (.ifnonnull off, len)) (hok : okE own nm nL lg ret (pc, (.ifnonnull off, len, inf)) = true) (hs : am_step (.ifnonnull off, len, inf) pc ls st M S = some (Sum.inl (pc', ls', st', M', S'))) (k : GW p l e R s mi args below meth c Q E N0 U0 nL lg pc' ls' st' M' S') : GW p l e R s mi args below meth c Q E N0 U0 nL lg pc ls st M S := by
  obtain ⟨hx, hb, hown, hts, hSW, hnm, hml, hfr, hlo, hcN, hsN, hcN', hsN', hLn⟩ := hC
  replace hok : (decide (0 ≤ (pc : Int) + off) && len == 3) = true := hok
  simp only [Bool.and_eq_true, Bool.or_eq_true, beq_iff_eq, decide_eq_true_eq] at hok
  obtain ⟨hok, hln⟩ := hok
  subst hln
  replace hs : (pO st fun o t => brn (o.isSome = true) pc off ls t M S) = some _ := hs
  obtain ⟨o, t, rfl, hs1⟩ := pO_inv hs
  rcases brn_inv hs1 with ⟨hc, hz⟩ | ⟨hc, hz⟩
  · cases hz
    exact so_ifnonnull hx hb hd hok (fun _ => k) (fun z => absurd hc z)
  · cases hz
    exact so_ifnonnull hx hb hd hok (fun z => absurd z hc) (fun _ => k)
theorem st_tableswitch {p : Program} {l : Launch} {e : Env} {R : Room} {s : State} {mi : MethodId} {args : Array Value} {below : List Frame} {meth : Method} {c : Code} {Q : State → Prop} {E : am_E} {N0 U0 nL : Nat} {lg : List Nat} {cc : ByteArray} {pc : Nat} {ls : Lsl} {st : List AV} {M : Mem} {S : Sh} {own nm : String} {ret : Option FieldType} {len : Nat} {inf : List Int} {pc' : Nat} {ls' : Lsl} {st' : List AV} {M' : Mem} {S' : Sh} {d lo hi : Int} {offs : Array Int} (hC : SC p R s mi args meth c E cc nL own nm N0 U0 S S') (hd : decode cc pc = .ok (.tableswitch d lo hi offs, len)) (hok : okE own nm nL lg ret (pc, (.tableswitch d lo hi offs, len, inf)) = true) (hs : am_step (.tableswitch d lo hi offs, len, inf) pc ls st M S = some (Sum.inl (pc', ls', st', M', S'))) (k : GW p l e R s mi args below meth c Q E N0 U0 nL lg pc' ls' st' M' S') : GW p l e R s mi args below meth c Q E N0 U0 nL lg pc ls st M S := by
  obtain ⟨hx, hb, hown, hts, hSW, hnm, hml, hfr, hlo, hcN, hsN, hcN', hsN', hLn⟩ := hC
  replace hok : (decide (0 ≤ (pc : Int) + d) && offs.toList.all (fun o => decide (0 ≤ (pc : Int) + o))) = true := hok
  simp only [Bool.and_eq_true, decide_eq_true_eq, List.all_eq_true] at hok
  simp only [am_step] at hs
  obtain ⟨x, t, rfl, hs1⟩ := pI_inv hs
  split at hs1
  · rename_i h
    cases nx_inv hs1
    exact so_tabOut hx hb hd hok.1 h k
  · rename_i h
    split at hs1
    · rename_i o ho
      cases nx_inv hs1
      exact so_tabIn hx hb hd (hok.2 o (by rw [Array.mem_toList_iff]; exact Array.mem_of_getElem? ho)) h ho k
    · cases hs1
theorem look_mem : ∀ (l : List (Int × Int)) (d x : Int), Op.lookupswitch.offset l d x = d ∨ ∃ q ∈ l, Op.lookupswitch.offset l d x = q.2
  | [], _, _ => Or.inl rfl
  | (a, o) :: r, d, x => by
    unfold Op.lookupswitch.offset
    split
    · exact Or.inr ⟨_, List.mem_cons_self, rfl⟩
    · rcases look_mem r d x with h | ⟨q, h1, h2⟩
      · exact Or.inl h
      · exact Or.inr ⟨q, List.mem_cons_of_mem _ h1, h2⟩
theorem st_lookupswitch {p : Program} {l : Launch} {e : Env} {R : Room} {s : State} {mi : MethodId} {args : Array Value} {below : List Frame} {meth : Method} {c : Code} {Q : State → Prop} {E : am_E} {N0 U0 nL : Nat} {lg : List Nat} {cc : ByteArray} {pc : Nat} {ls : Lsl} {st : List AV} {M : Mem} {S : Sh} {own nm : String} {ret : Option FieldType} {len : Nat} {inf : List Int} {pc' : Nat} {ls' : Lsl} {st' : List AV} {M' : Mem} {S' : Sh} {d : Int} {ps : Array (Int × Int)} (hC : SC p R s mi args meth c E cc nL own nm N0 U0 S S') (hd : decode cc pc = .ok (.lookupswitch d ps, len)) (hok : okE own nm nL lg ret (pc, (.lookupswitch d ps, len, inf)) = true) (hs : am_step (.lookupswitch d ps, len, inf) pc ls st M S = some (Sum.inl (pc', ls', st', M', S'))) (k : GW p l e R s mi args below meth c Q E N0 U0 nL lg pc' ls' st' M' S') : GW p l e R s mi args below meth c Q E N0 U0 nL lg pc ls st M S := by
  obtain ⟨hx, hb, hown, hts, hSW, hnm, hml, hfr, hlo, hcN, hsN, hcN', hsN', hLn⟩ := hC
  replace hok : (decide (0 ≤ (pc : Int) + d) && ps.toList.all (fun o => decide (0 ≤ (pc : Int) + o.2)) && (ps.toList.zip (ps.toList.drop 1)).all (fun (a, next) => a.1 < next.1)) = true := hok
  have hok2 := (Bool.and_eq_true_iff.mp hok).2
  have hok1 := (Bool.and_eq_true_iff.mp hok).1
  simp only [Bool.and_eq_true, decide_eq_true_eq, List.all_eq_true] at hok1
  replace hs : (pI st fun x t => nx (tgt pc (Op.lookupswitch.offset ps.toList d x)) ls t M S) = some _ := hs
  obtain ⟨x, t, rfl, hs1⟩ := pI_inv hs
  cases nx_inv hs1
  have h0 : 0 ≤ (pc : Int) + Op.lookupswitch.offset ps.toList d x := by
    rcases look_mem ps.toList d x with h | ⟨q, h1, h2⟩
    · rw [h]; exact hok1.1
    · rw [h2]; exact hok1.2 q h1
  exact so_look hx hb hd hok2 h0 k
theorem st_getstatic {p : Program} {l : Launch} {e : Env} {R : Room} {s : State} {mi : MethodId} {args : Array Value} {below : List Frame} {meth : Method} {c : Code} {Q : State → Prop} {E : am_E} {N0 U0 nL : Nat} {lg : List Nat} {cc : ByteArray} {pc : Nat} {ls : Lsl} {st : List AV} {M : Mem} {S : Sh} {own nm : String} {ret : Option FieldType} {len : Nat} {inf : List Int} {pc' : Nat} {ls' : Lsl} {st' : List AV} {M' : Mem} {S' : Sh} {i : Nat} (hC : SC p R s mi args meth c E cc nL own nm N0 U0 S S') (hd : decode cc pc = .ok (.getstatic i, len)) (hok : okE own nm nL lg ret (pc, (.getstatic i, len, inf)) = true) (hs : am_step (.getstatic i, len, inf) pc ls st M S = some (Sum.inl (pc', ls', st', M', S'))) (k : GW p l e R s mi args below meth c Q E N0 U0 nL lg pc' ls' st' M' S') : GW p l e R s mi args below meth c Q E N0 U0 nL lg pc ls st M S := by
  obtain ⟨hx, hb, hown, hts, hSW, hnm, hml, hfr, hlo, hcN, hsN, hcN', hsN', hLn⟩ := hC
  simp only [am_step] at hs
  split at hs
  · rename_i a p
    replace hok : ((if p < 10000 then (a == 0 && tbat p (.fieldLink own i "StripsFromAbove" "ABOVE" "[I")) else (match am_NF[(p - 10000).toNat]? with
    | some w => w.1 == own && w.2.1 == i && w.2.2.1 == "StripsFromAbove" && ((a == 1 && w.2.2.2.1 == "LEAST_SAID") || (a == 2 && w.2.2.2.1 == "MOST_SAID")) && w.2.2.2.2.1 == "[I"
    | none => false)) && len == 3) = true := hok
    have hl := (Bool.and_eq_true_iff.mp hok).2
    replace hok := (Bool.and_eq_true_iff.mp hok).1
    have hln := eq_of_beq hl
    subst hln
    cases nx_inv hs
    split at hok
    · simp only [Bool.and_eq_true, beq_iff_eq] at hok
      obtain ⟨rfl, h2⟩ := hok
      exact so_gets (a := 0) hown (by omega) hSW.2.1 (hts _ (tbat_m h2)) hx hb hd k
    · split at hok
      · rename_i w hw
        simp only [Bool.and_eq_true, Bool.or_eq_true, beq_iff_eq] at hok
        obtain ⟨⟨⟨⟨h1, h2⟩, h3⟩, h4⟩, h5⟩ := hok
        have hm := va_Nw.use (A := args) rfl (hSW.2.2.2.2.2.2.1 w (List.mem_of_getElem? hw))
        rw [h1, h2, h3, h5] at hm
        rcases h4 with ⟨rfl, h4⟩ | ⟨rfl, h4⟩
        · rw [h4] at hm
          exact so_getsN (a := 1) hown (by omega) hSW.2.2.1 hm hx hb hd k
        · rw [h4] at hm
          exact so_getsN (a := 2) hown (by omega) hSW.2.2.2.1 hm hx hb hd k
      · cases hok
  · cases hs
theorem fok_i {own : String} {i : Nat} {c k p r : Int} (h : fok own i c k p r = true) : c.toNat < 7 ∧ k.toNat < (am_T c.toNat).2.2 ∧ (Jvm.Cond.fieldLink own i ((am_T c.toNat).2.1 k.toNat).1 ((am_T c.toNat).2.1 k.toNat).2.1 ((am_T c.toNat).2.1 k.toNat).2.2.1) ∈ wsL_law ∧ am_isref c.toNat k.toNat = decide (r = 1) := by
  unfold fok at h
  have h1 := (Bool.and_eq_true_iff.mp h).2
  have h2 := (Bool.and_eq_true_iff.mp h).1
  have h3 := (Bool.and_eq_true_iff.mp h2).2
  have h4 := of_decide_eq_true (Bool.and_eq_true_iff.mp h2).1
  exact ⟨by omega, h4.2.2.2, tbat_m h3, (eq_of_beq h1).symm⟩
theorem st_getfield {p : Program} {l : Launch} {e : Env} {R : Room} {s : State} {mi : MethodId} {args : Array Value} {below : List Frame} {meth : Method} {c : Code} {Q : State → Prop} {E : am_E} {N0 U0 nL : Nat} {lg : List Nat} {cc : ByteArray} {pc : Nat} {ls : Lsl} {st : List AV} {M : Mem} {S : Sh} {own nm : String} {ret : Option FieldType} {len : Nat} {inf : List Int} {pc' : Nat} {ls' : Lsl} {st' : List AV} {M' : Mem} {S' : Sh} {i : Nat} (hC : SC p R s mi args meth c E cc nL own nm N0 U0 S S') (hd : decode cc pc = .ok (.getfield i, len)) (hok : okE own nm nL lg ret (pc, (.getfield i, len, inf)) = true) (hs : am_step (.getfield i, len, inf) pc ls st M S = some (Sum.inl (pc', ls', st', M', S'))) (k : GW p l e R s mi args below meth c Q E N0 U0 nL lg pc' ls' st' M' S') : GW p l e R s mi args below meth c Q E N0 U0 nL lg pc ls st M S := by
  obtain ⟨hx, hb, hown, hts, hSW, hnm, hml, hfr, hlo, hcN, hsN, hcN', hsN', hLn⟩ := hC
  simp only [am_step] at hs
  split at hs
  · rename_i cf kf pf rf
    replace hok : (fok own i cf kf pf rf && len == 3) = true := hok
    have hl := (Bool.and_eq_true_iff.mp hok).2
    obtain ⟨h1, h2, h3, h4⟩ := fok_i (Bool.and_eq_true_iff.mp hok).1
    have hln := eq_of_beq hl
    subst hln
    obtain ⟨a, t, rfl, hs1⟩ := pR_inv hs
    obtain ⟨hK, hs2⟩ := bnd_inv hs1
    split at hs2
    · rename_i hr
      cases nx_inv hs2
      exact so_getO hown hts hSW h1 h2 hx hb (hts _ h3) (by rw [h4]; exact decide_eq_true hr) hK hd k
    · rename_i hr
      cases nx_inv hs2
      exact so_getI hown hts hSW h1 h2 hx hb (hts _ h3) (by rw [h4]; exact decide_eq_false hr) hK hd k
  · cases hs
theorem st_putfield {p : Program} {l : Launch} {e : Env} {R : Room} {s : State} {mi : MethodId} {args : Array Value} {below : List Frame} {meth : Method} {c : Code} {Q : State → Prop} {E : am_E} {N0 U0 nL : Nat} {lg : List Nat} {cc : ByteArray} {pc : Nat} {ls : Lsl} {st : List AV} {M : Mem} {S : Sh} {own nm : String} {ret : Option FieldType} {len : Nat} {inf : List Int} {pc' : Nat} {ls' : Lsl} {st' : List AV} {M' : Mem} {S' : Sh} {i : Nat} (hC : SC p R s mi args meth c E cc nL own nm N0 U0 S S') (hd : decode cc pc = .ok (.putfield i, len)) (hok : okE own nm nL lg ret (pc, (.putfield i, len, inf)) = true) (hs : am_step (.putfield i, len, inf) pc ls st M S = some (Sum.inl (pc', ls', st', M', S'))) (k : GW p l e R s mi args below meth c Q E N0 U0 nL lg pc' ls' st' M' S') : GW p l e R s mi args below meth c Q E N0 U0 nL lg pc ls st M S := by
  obtain ⟨hx, hb, hown, hts, hSW, hnm, hml, hfr, hlo, hcN, hsN, hcN', hsN', hLn⟩ := hC
  simp only [am_step] at hs
  split at hs
  · rename_i cf kf pf rf
    replace hok : (fok own i cf kf pf rf && (decide (am_ty cf.toNat kf.toNat = .boolean) == decide (rf = 2)) && (!(ftab cf kf).2.2.2 || (nm == "<init>" && (ftab cf kf).1 == own)) && len == 3) = true := hok
    have hl := (Bool.and_eq_true_iff.mp hok).2
    replace hok := (Bool.and_eq_true_iff.mp hok).1
    have hf := (Bool.and_eq_true_iff.mp hok).2
    replace hok := (Bool.and_eq_true_iff.mp hok).1
    have hbo := eq_of_beq (Bool.and_eq_true_iff.mp hok).2
    obtain ⟨h1, h2, h3, h4⟩ := fok_i (Bool.and_eq_true_iff.mp hok).1
    have hln := eq_of_beq hl
    subst hln
    have hfin : ((am_T cf.toNat).2.1 kf.toNat).2.2.2 = false ∨ (((am_T cf.toNat).2.1 kf.toNat).2.2.2 = true ∧ meth.name = "<init>" ∧ ((am_T cf.toNat).2.1 kf.toNat).1 = own) := by
      unfold ftab at hf
      cases hq : ((am_T cf.toNat).2.1 kf.toNat).2.2.2 with
      | false => exact Or.inl rfl
      | true =>
        rw [hq] at hf
        simp only [Bool.not_true, Bool.false_or, Bool.and_eq_true, beq_iff_eq] at hf
        exact Or.inr ⟨rfl, by rw [hnm]; exact hf.1, hf.2⟩
    split at hs
    · rename_i hr
      obtain ⟨o, t, rfl, hs1⟩ := pO_inv hs
      obtain ⟨a, t, rfl, hs2⟩ := pR_inv hs1
      obtain ⟨hK, hs3⟩ := bnd_inv hs2
      cases nx_inv hs3
      exact so_putO hown hts hSW h1 h2 hx hb (hts _ h3) hfin (by rw [h4]; exact decide_eq_true hr) hK hd k
    · rename_i hr
      obtain ⟨x, t, rfl, hs4⟩ := pI_inv hs
      obtain ⟨a, t, rfl, hs5⟩ := pR_inv hs4
      obtain ⟨hK, hs6⟩ := bnd_inv hs5
      cases nx_inv hs6
      exact so_putI hown hts hSW h1 h2 hx hb (fun hz => hK.2 (of_decide_eq_true (hbo ▸ decide_eq_true hz))) (hts _ h3) hfin (by rw [h4]; exact decide_eq_false hr) hK.1 hd k
  · cases hs
theorem st_arraylength {p : Program} {l : Launch} {e : Env} {R : Room} {s : State} {mi : MethodId} {args : Array Value} {below : List Frame} {meth : Method} {c : Code} {Q : State → Prop} {E : am_E} {N0 U0 nL : Nat} {lg : List Nat} {cc : ByteArray} {pc : Nat} {ls : Lsl} {st : List AV} {M : Mem} {S : Sh} {own nm : String} {ret : Option FieldType} {len : Nat} {inf : List Int} {pc' : Nat} {ls' : Lsl} {st' : List AV} {M' : Mem} {S' : Sh}  (hC : SC p R s mi args meth c E cc nL own nm N0 U0 S S') (hd : decode cc pc = .ok (.arraylength, len)) (hok : okE own nm nL lg ret (pc, (.arraylength, len, inf)) = true) (hs : am_step (.arraylength, len, inf) pc ls st M S = some (Sum.inl (pc', ls', st', M', S'))) (k : GW p l e R s mi args below meth c Q E N0 U0 nL lg pc' ls' st' M' S') : GW p l e R s mi args below meth c Q E N0 U0 nL lg pc ls st M S := by
  obtain ⟨hx, hb, hown, hts, hSW, hnm, hml, hfr, hlo, hcN, hsN, hcN', hsN', hLn⟩ := hC
  replace hok : (len == 1) = true := hok
  have hln := eq_of_beq hok
  subst hln
  replace hs : (pR st fun a t => bnd (7 ≤ S.1 a ∧ S.1 a ≤ 9) (nx (pc + 1) ls (aI (S.2.1 a) :: t) M S)) = some _ := hs
  obtain ⟨a, t, rfl, hs1⟩ := pR_inv hs
  obtain ⟨hK, hs2⟩ := bnd_inv hs1
  cases nx_inv hs2
  exact so_alen hSW hx hb hK hd k
theorem st_iaload {p : Program} {l : Launch} {e : Env} {R : Room} {s : State} {mi : MethodId} {args : Array Value} {below : List Frame} {meth : Method} {c : Code} {Q : State → Prop} {E : am_E} {N0 U0 nL : Nat} {lg : List Nat} {cc : ByteArray} {pc : Nat} {ls : Lsl} {st : List AV} {M : Mem} {S : Sh} {own nm : String} {ret : Option FieldType} {len : Nat} {inf : List Int} {pc' : Nat} {ls' : Lsl} {st' : List AV} {M' : Mem} {S' : Sh}  (hC : SC p R s mi args meth c E cc nL own nm N0 U0 S S') (hd : decode cc pc = .ok (.iaload, len)) (hok : okE own nm nL lg ret (pc, (.iaload, len, inf)) = true) (hs : am_step (.iaload, len, inf) pc ls st M S = some (Sum.inl (pc', ls', st', M', S'))) (k : GW p l e R s mi args below meth c Q E N0 U0 nL lg pc' ls' st' M' S') : GW p l e R s mi args below meth c Q E N0 U0 nL lg pc ls st M S := by
  obtain ⟨hx, hb, hown, hts, hSW, hnm, hml, hfr, hlo, hcN, hsN, hcN', hsN', hLn⟩ := hC
  replace hok : (len == 1) = true := hok
  have hln := eq_of_beq hok
  subst hln
  replace hs : (pI st fun i t => pR t fun a t => bnd (S.1 a = 7 ∧ 0 ≤ i ∧ i < S.2.1 a) (nx (pc + 1) ls (aI (M a i.toNat) :: t) M S)) = some _ := hs
  obtain ⟨i, t, rfl, hs1⟩ := pI_inv hs
  obtain ⟨a, t, rfl, hs2⟩ := pR_inv hs1
  obtain ⟨hK, hs3⟩ := bnd_inv hs2
  cases nx_inv hs3
  exact so_iald hSW hx hb hK.1 hK.2.1 hK.2.2 hd k
theorem st_iastore {p : Program} {l : Launch} {e : Env} {R : Room} {s : State} {mi : MethodId} {args : Array Value} {below : List Frame} {meth : Method} {c : Code} {Q : State → Prop} {E : am_E} {N0 U0 nL : Nat} {lg : List Nat} {cc : ByteArray} {pc : Nat} {ls : Lsl} {st : List AV} {M : Mem} {S : Sh} {own nm : String} {ret : Option FieldType} {len : Nat} {inf : List Int} {pc' : Nat} {ls' : Lsl} {st' : List AV} {M' : Mem} {S' : Sh}  (hC : SC p R s mi args meth c E cc nL own nm N0 U0 S S') (hd : decode cc pc = .ok (.iastore, len)) (hok : okE own nm nL lg ret (pc, (.iastore, len, inf)) = true) (hs : am_step (.iastore, len, inf) pc ls st M S = some (Sum.inl (pc', ls', st', M', S'))) (k : GW p l e R s mi args below meth c Q E N0 U0 nL lg pc' ls' st' M' S') : GW p l e R s mi args below meth c Q E N0 U0 nL lg pc ls st M S := by
  obtain ⟨hx, hb, hown, hts, hSW, hnm, hml, hfr, hlo, hcN, hsN, hcN', hsN', hLn⟩ := hC
  replace hok : (len == 1) = true := hok
  have hln := eq_of_beq hok
  subst hln
  replace hs : (pI st fun x t => pI t fun i t => pR t fun a t => bnd (S.1 a = 7 ∧ 6 ≤ a ∧ 0 ≤ i ∧ i < S.2.1 a) (nx (pc + 1) ls t (mset M a i.toNat x) S)) = some _ := hs
  obtain ⟨x, t, rfl, hs1⟩ := pI_inv hs
  obtain ⟨i, t, rfl, hs2⟩ := pI_inv hs1
  obtain ⟨a, t, rfl, hs3⟩ := pR_inv hs2
  obtain ⟨hK, hs4⟩ := bnd_inv hs3
  cases nx_inv hs4
  exact so_iast hSW hx hb hK.1 hK.2.1 hK.2.2.1 hK.2.2.2 hd k
theorem st_aaload {p : Program} {l : Launch} {e : Env} {R : Room} {s : State} {mi : MethodId} {args : Array Value} {below : List Frame} {meth : Method} {c : Code} {Q : State → Prop} {E : am_E} {N0 U0 nL : Nat} {lg : List Nat} {cc : ByteArray} {pc : Nat} {ls : Lsl} {st : List AV} {M : Mem} {S : Sh} {own nm : String} {ret : Option FieldType} {len : Nat} {inf : List Int} {pc' : Nat} {ls' : Lsl} {st' : List AV} {M' : Mem} {S' : Sh}  (hC : SC p R s mi args meth c E cc nL own nm N0 U0 S S') (hd : decode cc pc = .ok (.aaload, len)) (hok : okE own nm nL lg ret (pc, (.aaload, len, inf)) = true) (hs : am_step (.aaload, len, inf) pc ls st M S = some (Sum.inl (pc', ls', st', M', S'))) (k : GW p l e R s mi args below meth c Q E N0 U0 nL lg pc' ls' st' M' S') : GW p l e R s mi args below meth c Q E N0 U0 nL lg pc ls st M S := by
  obtain ⟨hx, hb, hown, hts, hSW, hnm, hml, hfr, hlo, hcN, hsN, hcN', hsN', hLn⟩ := hC
  replace hok : (len == 1) = true := hok
  have hln := eq_of_beq hok
  subst hln
  replace hs : (pI st fun i t => pR t fun a t => bnd ((S.1 a = 8 ∨ S.1 a = 9) ∧ 0 ≤ i ∧ i < S.2.1 a) (nx (pc + 1) ls (aO (S.2.2.1 a i.toNat) :: t) M S)) = some _ := hs
  obtain ⟨i, t, rfl, hs1⟩ := pI_inv hs
  obtain ⟨a, t, rfl, hs2⟩ := pR_inv hs1
  obtain ⟨hK, hs3⟩ := bnd_inv hs2
  cases nx_inv hs3
  exact so_aald hSW hx hb hK.1 hK.2.1 hK.2.2 hd k
theorem st_aastore {p : Program} {l : Launch} {e : Env} {R : Room} {s : State} {mi : MethodId} {args : Array Value} {below : List Frame} {meth : Method} {c : Code} {Q : State → Prop} {E : am_E} {N0 U0 nL : Nat} {lg : List Nat} {cc : ByteArray} {pc : Nat} {ls : Lsl} {st : List AV} {M : Mem} {S : Sh} {own nm : String} {ret : Option FieldType} {len : Nat} {inf : List Int} {pc' : Nat} {ls' : Lsl} {st' : List AV} {M' : Mem} {S' : Sh}  (hC : SC p R s mi args meth c E cc nL own nm N0 U0 S S') (hd : decode cc pc = .ok (.aastore, len)) (hok : okE own nm nL lg ret (pc, (.aastore, len, inf)) = true) (hs : am_step (.aastore, len, inf) pc ls st M S = some (Sum.inl (pc', ls', st', M', S'))) (k : GW p l e R s mi args below meth c Q E N0 U0 nL lg pc' ls' st' M' S') : GW p l e R s mi args below meth c Q E N0 U0 nL lg pc ls st M S := by
  obtain ⟨hx, hb, hown, hts, hSW, hnm, hml, hfr, hlo, hcN, hsN, hcN', hsN', hLn⟩ := hC
  replace hok : (len == 1) = true := hok
  have hln := eq_of_beq hok
  subst hln
  replace hs : (pR st fun v t => pI t fun i t => pR t fun a t => bnd (((S.1 a = 8 ∧ S.1 v = 1) ∨ (S.1 a = 9 ∧ S.1 v = 4)) ∧ 0 ≤ i ∧ i < S.2.1 a) (nx (pc + 1) ls t M (S.1, S.2.1, pset S.2.2.1 a i.toNat (some v), S.2.2.2))) = some _ := hs
  obtain ⟨v, t, rfl, hs1⟩ := pR_inv hs
  obtain ⟨i, t, rfl, hs2⟩ := pI_inv hs1
  obtain ⟨a, t, rfl, hs3⟩ := pR_inv hs2
  obtain ⟨hK, hs4⟩ := bnd_inv hs3
  cases nx_inv hs4
  exact so_aast (t0 := 0) (ci := 0) hSW hx hb hK.1 hK.2.1 hK.2.2 hd k
theorem st_new {p : Program} {l : Launch} {e : Env} {R : Room} {s : State} {mi : MethodId} {args : Array Value} {below : List Frame} {meth : Method} {c : Code} {Q : State → Prop} {E : am_E} {N0 U0 nL : Nat} {lg : List Nat} {cc : ByteArray} {pc : Nat} {ls : Lsl} {st : List AV} {M : Mem} {S : Sh} {own nm : String} {ret : Option FieldType} {len : Nat} {inf : List Int} {pc' : Nat} {ls' : Lsl} {st' : List AV} {M' : Mem} {S' : Sh} {i : Nat} (hC : SC p R s mi args meth c E cc nL own nm N0 U0 S S') (hd : decode cc pc = .ok (.new i, len)) (hok : okE own nm nL lg ret (pc, (.new i, len, inf)) = true) (hs : am_step (.new i, len, inf) pc ls st M S = some (Sum.inl (pc', ls', st', M', S'))) (k : GW p l e R s mi args below meth c Q E N0 U0 nL lg pc' ls' st' M' S') : GW p l e R s mi args below meth c Q E N0 U0 nL lg pc ls st M S := by
  obtain ⟨hx, hb, hown, hts, hSW, hnm, hml, hfr, hlo, hcN, hsN, hcN', hsN', hLn⟩ := hC
  simp only [am_step] at hs
  split at hs
  · rename_i cf p1 p2 p3
    replace hok : (decide (0 ≤ cf ∧ cf < 7) && tbat p1 (.classLink own i (am_T cf.toNat).1) && tbat p2 (.instantiable (am_T cf.toNat).1 (am_T cf.toNat).2.2) && tbat p3 (.initialized (am_T cf.toNat).1) && len == 3) = true := hok
    simp only [Bool.and_eq_true, decide_eq_true_eq, beq_iff_eq] at hok
    obtain ⟨⟨⟨⟨h1, h2⟩, h3⟩, h4⟩, hln⟩ := hok
    subst hln
    cases nx_inv hs
    exact so_new hown hts hSW (by omega) (hts _ (tbat_m h2)) (hts _ (tbat_m h3)) (hts _ (tbat_m h4)) (by omega) (by dsimp only at hsN'; omega) (hLn _) hx hb hd k
  · cases hs
theorem st_newarray {p : Program} {l : Launch} {e : Env} {R : Room} {s : State} {mi : MethodId} {args : Array Value} {below : List Frame} {meth : Method} {c : Code} {Q : State → Prop} {E : am_E} {N0 U0 nL : Nat} {lg : List Nat} {cc : ByteArray} {pc : Nat} {ls : Lsl} {st : List AV} {M : Mem} {S : Sh} {own nm : String} {ret : Option FieldType} {len : Nat} {inf : List Int} {pc' : Nat} {ls' : Lsl} {st' : List AV} {M' : Mem} {S' : Sh}  (hC : SC p R s mi args meth c E cc nL own nm N0 U0 S S') (hd : decode cc pc = .ok (.newarray .int, len)) (hok : okE own nm nL lg ret (pc, (.newarray .int, len, inf)) = true) (hs : am_step (.newarray .int, len, inf) pc ls st M S = some (Sum.inl (pc', ls', st', M', S'))) (k : GW p l e R s mi args below meth c Q E N0 U0 nL lg pc' ls' st' M' S') : GW p l e R s mi args below meth c Q E N0 U0 nL lg pc ls st M S := by
  obtain ⟨hx, hb, hown, hts, hSW, hnm, hml, hfr, hlo, hcN, hsN, hcN', hsN', hLn⟩ := hC
  cases inf with
  | nil => cases hok
  | cons pa tl =>
    cases tl with
    | cons _ _ => cases hok
    | nil =>
      replace hok : (tbat pa (.arrayClass .int) && len == 2) = true := hok
      simp only [Bool.and_eq_true, beq_iff_eq] at hok
      obtain ⟨h1, hln⟩ := hok
      subst hln
      simp only [am_step] at hs
      obtain ⟨n, t, rfl, hs1⟩ := pI_inv hs
      obtain ⟨hK, hs2⟩ := bnd_inv hs1
      cases nx_inv hs2
      exact so_newa hSW (hts _ (tbat_m h1)) hK.1 hK.2 (by dsimp only at hcN'; omega) (by dsimp only at hsN'; omega) hx hb hd k
theorem st_anewarray {p : Program} {l : Launch} {e : Env} {R : Room} {s : State} {mi : MethodId} {args : Array Value} {below : List Frame} {meth : Method} {c : Code} {Q : State → Prop} {E : am_E} {N0 U0 nL : Nat} {lg : List Nat} {cc : ByteArray} {pc : Nat} {ls : Lsl} {st : List AV} {M : Mem} {S : Sh} {own nm : String} {ret : Option FieldType} {len : Nat} {inf : List Int} {pc' : Nat} {ls' : Lsl} {st' : List AV} {M' : Mem} {S' : Sh} {i : Nat} (hC : SC p R s mi args meth c E cc nL own nm N0 U0 S S') (hd : decode cc pc = .ok (.anewarray i, len)) (hok : okE own nm nL lg ret (pc, (.anewarray i, len, inf)) = true) (hs : am_step (.anewarray i, len, inf) pc ls st M S = some (Sum.inl (pc', ls', st', M', S'))) (k : GW p l e R s mi args below meth c Q E N0 U0 nL lg pc' ls' st' M' S') : GW p l e R s mi args below meth c Q E N0 U0 nL lg pc ls st M S := by
  obtain ⟨hx, hb, hown, hts, hSW, hnm, hml, hfr, hlo, hcN, hsN, hcN', hsN', hLn⟩ := hC
  simp only [am_step] at hs
  split at hs
  · rename_i cf p1
    replace hok : (((cf == 8 && tbat p1 (.classLink own i RX1)) || (cf == 9 && tbat p1 (.classLink own i RX4))) && len == 3) = true := hok
    simp only [Bool.and_eq_true, Bool.or_eq_true, beq_iff_eq] at hok
    obtain ⟨h1, hln⟩ := hok
    subst hln
    obtain ⟨n, t, rfl, hs1⟩ := pI_inv hs
    obtain ⟨hK, hs2⟩ := bnd_inv hs1
    cases nx_inv hs2
    rcases h1 with ⟨rfl, h1⟩ | ⟨rfl, h1⟩
    · exact so_newq hown hts hSW (Or.inl ⟨rfl, rfl⟩) (hts _ (tbat_m h1)) hK.1 hK.2 (by dsimp only at hcN'; omega) (by dsimp only at hsN'; omega) hx hb hd k
    · exact so_newq hown hts hSW (Or.inr ⟨rfl, rfl⟩) (hts _ (tbat_m h1)) hK.1 hK.2 (by dsimp only at hcN'; omega) (by dsimp only at hsN'; omega) hx hb hd k
  · cases hs
theorem st_invokestatic {p : Program} {l : Launch} {e : Env} {R : Room} {s : State} {mi : MethodId} {args : Array Value} {below : List Frame} {meth : Method} {c : Code} {Q : State → Prop} {E : am_E} {N0 U0 nL : Nat} {lg : List Nat} {cc : ByteArray} {pc : Nat} {ls : Lsl} {st : List AV} {M : Mem} {S : Sh} {own nm : String} {ret : Option FieldType} {len : Nat} {inf : List Int} {pc' : Nat} {ls' : Lsl} {st' : List AV} {M' : Mem} {S' : Sh} {i : Nat} (hC : SC p R s mi args meth c E cc nL own nm N0 U0 S S') (hd : decode cc pc = .ok (.invokestatic i, len)) (hok : okE own nm nL lg ret (pc, (.invokestatic i, len, inf)) = true) (hs : am_step (.invokestatic i, len, inf) pc ls st M S = some (Sum.inl (pc', ls', st', M', S'))) (k : GW p l e R s mi args below meth c Q E N0 U0 nL lg pc' ls' st' M' S') : GW p l e R s mi args below meth c Q E N0 U0 nL lg pc ls st M S := by
  obtain ⟨hx, hb, hown, hts, hSW, hnm, hml, hfr, hlo, hcN, hsN, hcN', hsN', hLn⟩ := hC
  simp only [am_step] at hs
  split at hs
  · unfold am_call at hs
    split at hs <;> cases hs
  · rename_i p1
    replace hok : (tbat p1 (.methodLink own i arraycopyName) && len == 3) = true := hok
    simp only [Bool.and_eq_true, beq_iff_eq] at hok
    obtain ⟨h1, hln⟩ := hok
    subst hln
    obtain ⟨n, t, rfl, hs1⟩ := pI_inv hs
    obtain ⟨dp, t, rfl, hs2⟩ := pI_inv hs1
    obtain ⟨d, t, rfl, hs3⟩ := pR_inv hs2
    obtain ⟨sp, t, rfl, hs4⟩ := pI_inv hs3
    obtain ⟨sr, t, rfl, hs5⟩ := pR_inv hs4
    obtain ⟨⟨g0, g1, g2, g3, g4, g5, g6, g7, g8, g9⟩, hs6⟩ := bnd_inv hs5
    cases nx_inv hs6
    exact so_copy hown hts hSW hml hfr hlo (hts _ (tbat_m h1)) g0 g1 g2 g3 g4 g5 g6 g7 g8 g9 hx hb hd k
  · rename_i p1
    replace hok : (tbat p1 (.methodLink own i Lib.Math.max.name) && len == 3) = true := hok
    simp only [Bool.and_eq_true, beq_iff_eq] at hok
    obtain ⟨h1, hln⟩ := hok
    subst hln
    obtain ⟨y, t, rfl, hs7⟩ := pI_inv hs
    obtain ⟨x, t, rfl, hs8⟩ := pI_inv hs7
    obtain ⟨g0, hs9⟩ := bnd_inv hs8
    cases nx_inv hs9
    exact so_mmax hown hts hml hfr hlo (hts _ (tbat_m h1)) g0 hcN hsN hx hb hd k
  · rename_i p1
    replace hok : (tbat p1 (.methodLink own i Lib.Math.min.name) && len == 3) = true := hok
    simp only [Bool.and_eq_true, beq_iff_eq] at hok
    obtain ⟨h1, hln⟩ := hok
    subst hln
    obtain ⟨y, t, rfl, hs10⟩ := pI_inv hs
    obtain ⟨x, t, rfl, hs11⟩ := pI_inv hs10
    obtain ⟨g0, hs12⟩ := bnd_inv hs11
    cases nx_inv hs12
    exact so_mmin hown hts hml hfr hlo (hts _ (tbat_m h1)) g0 hcN hsN hx hb hd k
  · cases hs
theorem rcv_no {m n a b : Nat} {st d' : List AV} {S S' : Sh} {hr pc a' : Nat} {b' : Lsl} {M' : Mem} (h : rcv m n st S (am_call a b hr pc st) = some (Sum.inl (a', b', d', M', S'))) : False := by
  unfold rcv at h
  split at h
  · obtain ⟨-, h⟩ := bnd_inv h
    unfold am_call at h
    split at h <;> cases h
  · cases h
theorem st_invokespecial {p : Program} {l : Launch} {e : Env} {R : Room} {s : State} {mi : MethodId} {args : Array Value} {below : List Frame} {meth : Method} {c : Code} {Q : State → Prop} {E : am_E} {N0 U0 nL : Nat} {lg : List Nat} {cc : ByteArray} {pc : Nat} {ls : Lsl} {st : List AV} {M : Mem} {S : Sh} {own nm : String} {ret : Option FieldType} {len : Nat} {inf : List Int} {pc' : Nat} {ls' : Lsl} {st' : List AV} {M' : Mem} {S' : Sh} {i : Nat} (hC : SC p R s mi args meth c E cc nL own nm N0 U0 S S') (hd : decode cc pc = .ok (.invokespecial i, len)) (hok : okE own nm nL lg ret (pc, (.invokespecial i, len, inf)) = true) (hs : am_step (.invokespecial i, len, inf) pc ls st M S = some (Sum.inl (pc', ls', st', M', S'))) (k : GW p l e R s mi args below meth c Q E N0 U0 nL lg pc' ls' st' M' S') : GW p l e R s mi args below meth c Q E N0 U0 nL lg pc ls st M S := by
  obtain ⟨hx, hb, hown, hts, hSW, hnm, hml, hfr, hlo, hcN, hsN, hcN', hsN', hLn⟩ := hC
  simp only [am_step] at hs
  split at hs
  · exact (rcv_no hs).elim
  · rename_i p1
    replace hok : (tbat p1 (.methodLink own i objectInit) && len == 3) = true := hok
    simp only [Bool.and_eq_true, beq_iff_eq] at hok
    obtain ⟨h1, hln⟩ := hok
    subst hln
    obtain ⟨a, t, rfl, hs1⟩ := pR_inv hs
    obtain ⟨g0, hs2⟩ := bnd_inv hs1
    cases nx_inv hs2
    exact so_oinit hown hts hml hfr hlo (hts _ (tbat_m h1)) g0 hx hb hd k
  · cases hs
theorem st_invokevirtual {p : Program} {l : Launch} {e : Env} {R : Room} {s : State} {mi : MethodId} {args : Array Value} {below : List Frame} {meth : Method} {c : Code} {Q : State → Prop} {E : am_E} {N0 U0 nL : Nat} {lg : List Nat} {cc : ByteArray} {pc : Nat} {ls : Lsl} {st : List AV} {M : Mem} {S : Sh} {own nm : String} {ret : Option FieldType} {len : Nat} {inf : List Int} {pc' : Nat} {ls' : Lsl} {st' : List AV} {M' : Mem} {S' : Sh} {i : Nat} (hC : SC p R s mi args meth c E cc nL own nm N0 U0 S S') (hd : decode cc pc = .ok (.invokevirtual i, len)) (hok : okE own nm nL lg ret (pc, (.invokevirtual i, len, inf)) = true) (hs : am_step (.invokevirtual i, len, inf) pc ls st M S = some (Sum.inl (pc', ls', st', M', S'))) (k : GW p l e R s mi args below meth c Q E N0 U0 nL lg pc' ls' st' M' S') : GW p l e R s mi args below meth c Q E N0 U0 nL lg pc ls st M S := by
  obtain ⟨hx, hb, hown, hts, hSW, hnm, hml, hfr, hlo, hcN, hsN, hcN', hsN', hLn⟩ := hC
  simp only [am_step] at hs
  split at hs
  · exact (rcv_no hs).elim
  · rename_i p1
    replace hok : (tbat p1 (.methodLink own i yJ0_charAt_5068e) && len == 3) = true := hok
    simp only [Bool.and_eq_true, beq_iff_eq] at hok
    obtain ⟨h1, hln⟩ := hok
    subst hln
    obtain ⟨x, t, rfl, hs1⟩ := pI_inv hs
    obtain ⟨a, t, rfl, hs2⟩ := pR_inv hs1
    split at hs2
    · rename_i v hv
      obtain ⟨⟨g0, g1⟩, hs3⟩ := bnd_inv hs2
      cases nx_inv hs3
      have ha : a = 3 ∨ a = 4 := by
        unfold am_str at hv
        split at hv
        · left; assumption
        · split at hv
          · right; assumption
          · simp at hv
      obtain ⟨j, hj, rfl⟩ : ∃ j, j < 2 ∧ a = 3 + j := by
        rcases ha with rfl | rfl
        · exact ⟨0, by omega, rfl⟩
        · exact ⟨1, by omega, rfl⟩
      have hv2 : v = (am_str (3 + j)).getD x.toNat 0 := by
        rw [List.getD_eq_getElem?_getD, hv]
        rfl
      have hlt := (List.getElem?_eq_some_iff.mp hv).1
      subst hv2
      exact so_charAt g0 (by omega) hown hts hSW hml hfr hlo (hts _ (tbat_m h1)) g1 hj hcN hsN hx hb hd k
    · cases hs2
  · rename_i p1
    replace hok : (tbat p1 (.methodLink own i yJ0_length_8abf5) && len == 3) = true := hok
    simp only [Bool.and_eq_true, beq_iff_eq] at hok
    obtain ⟨h1, hln⟩ := hok
    subst hln
    obtain ⟨a, t, rfl, hs4⟩ := pR_inv hs
    obtain ⟨⟨ha, g1⟩, hs5⟩ := bnd_inv hs4
    cases nx_inv hs5
    obtain ⟨j, hj, rfl⟩ : ∃ j, j < 2 ∧ a = 3 + j := by
      rcases ha with rfl | rfl
      · exact ⟨0, by omega, rfl⟩
      · exact ⟨1, by omega, rfl⟩
    exact so_length hown hts hSW hml hfr hlo (hts _ (tbat_m h1)) g1 hj hcN hsN hx hb hd k
  · cases hs
