def am_rho (sp : Nat → Nat) (B a : Nat) : Nat := if a < 6 then sp a else B + (a - 6)
/-- where the fixed things lie (arrays 0 1 2 5, texts 3 4 and their bytes 6 7), the first free address, classes, array classes, the fixed arrays' contents and sizes -/
abbrev am_E : Type := (Nat → Nat) × Nat × va_G × (ClassId × ClassId × ClassId) × Mem × (Nat → Nat)
def am_ro2 (E : am_E) : Nat → Nat := am_rho E.1 E.2.1
def am_tr (E : am_E) (v : AV) : Value := match v with
  | .inl i => .int (Int32.ofInt i)
  | .inr (.inl x) => .long (Int64.ofInt x)
  | .inr (.inr o) => va_rf (o.map (am_ro2 E))
def am_fv (E : am_E) (M : Mem) (S : Sh) (a k : Nat) : Value := if am_isref (S.1 a) k = true then va_rf ((S.2.2.1 a k).map (am_ro2 E)) else .int (Int32.ofInt (M a k))
def am_cell (E : am_E) (M : Mem) (S : Sh) (a : Nat) : va_E := if S.1 a < 7 then .inr (S.1 a, (List.range (am_nf (S.1 a))).map (am_fv E M S a))
  else if S.1 a = 7 then .inl (E.2.2.2.1.1, (S.2.1 a, .inl (fun k => Int32.ofInt (M a k))))
  else .inl (if S.1 a = 8 then E.2.2.2.1.2.1 else E.2.2.2.1.2.2, (S.2.1 a, .inr (.inr (.inr (.inr (fun k => (S.2.2.1 a k).map (am_ro2 E)))))))
def am_A (E : am_E) : Nat → Prop := fun q => E.2.1 ≤ q
def HR (E : am_E) (M : Mem) (S : Sh) (H : Heap) : Prop := (6 ≤ S.2.2.2.1 ∧ H.size + 6 = E.2.1 + S.2.2.2.1) ∧ (∀ a, 6 ≤ a → a < S.2.2.2.1 → S.1 a ≤ 9 ∧ S.2.1 a ≤ 100000 ∧ va_at E.2.2.1 vwCl (am_ro2 E a, am_cell E M S a) H) ∧ (∀ a, S.2.2.2.1 ≤ a → S.1 a = 99) ∧ (∀ a, a < 6 → S.1 a = (if a = 3 ∨ a = 4 then 10 else 7) ∧ S.2.1 a ≤ 100000 ∧ S.2.1 a = E.2.2.2.2.2 a ∧ M a = E.2.2.2.2.1 a)
def okV (v : AV) : Prop := match v with
  | .inl i => r32 i
  | .inr (.inl x) => r64 x
  | .inr (.inr _) => True
def okSt : List AV → Prop
  | [] => True
  | v :: t => okV v ∧ okSt t
def okLs (ls : Lsl) : Prop := ∀ (i : Nat) (v : AV), ls[i]? = some (some v) → okV v
def okM (M : Mem) : Prop := ∀ a k, r32 (M a k)
def lrel (E : am_E) (nL : Nat) (lg : List Nat) (ls : Lsl) (larr : Array Slot) : Prop := larr.size = nL ∧ lv_wf larr ∧ (∀ (i : Nat) (v : AV), ls[i]? = some (some v) → larr[i]? = some (.val (am_tr E v))) ∧ ls.length = nL ∧ ∀ (i : Nat) (x : Int), ls[i]? = some (some (aL x)) → i ∈ lg
def am_Hy (s : State) (E : am_E) (N0 U0 nL : Nat) (lg : List Nat) (ls : Lsl) (st : List AV) (M : Mem) (S : Sh) (H : Heap) (locs : List Loc) (cells slots : Nat) (larr : Array Slot) : Prop := HR E M S H ∧ lrel E nL lg ls larr ∧ va_S (am_A E) s.heap H locs ∧ okM M ∧ okLs ls ∧ okSt st ∧ cells + N0 = S.2.2.2.1 ∧ slots + U0 = S.2.2.2.2
def GW (p : Program) (l : Launch) (e : Env) (R : Room) (s : State) (mi : MethodId) (args : Array Value) (below : List Frame) (meth : Method) (c : Code) (Q : State → Prop) (E : am_E) (N0 U0 nL : Nat) (lg : List Nat) (pc : Nat) (ls : Lsl) (st : List AV) (M : Mem) (S : Sh) : Prop := ∀ (H : Heap) (locs : List Loc) (cells slots : Nat) (larr : Array Slot), am_Hy s E N0 U0 nL lg ls st M S H locs cells slots larr → W p l e R s mi args below meth c H locs cells slots Q (F0 mi pc larr (st.map (am_tr E)))
theorem am_Hy.st {s : State} {E : am_E} {N0 U0 nL : Nat} {lg : List Nat} {ls : Lsl} {st st' : List AV} {M : Mem} {S : Sh} {H : Heap} {locs : List Loc} {cells slots : Nat} {larr : Array Slot} (h : am_Hy s E N0 U0 nL lg ls st M S H locs cells slots larr) (h' : okSt st') : am_Hy s E N0 U0 nL lg ls st' M S H locs cells slots larr := by
  obtain ⟨h1, h2, h3, h4, h5, h6, h7, h8⟩ := h
  exact ⟨h1, h2, h3, h4, h5, h', h7, h8⟩
theorem am_Hy.ok {s : State} {E : am_E} {N0 U0 nL : Nat} {lg : List Nat} {ls : Lsl} {st : List AV} {M : Mem} {S : Sh} {H : Heap} {locs : List Loc} {cells slots : Nat} {larr : Array Slot} (h : am_Hy s E N0 U0 nL lg ls st M S H locs cells slots larr) : okSt st := h.2.2.2.2.2.1
theorem tr_O (E : am_E) (o : Option Nat) : am_tr E (aO o) = va_rf (o.map (am_ro2 E)) := rfl
theorem tr_c1 (E : am_E) {v : AV} (h : ∀ x, v ≠ aL x) : (am_tr E v).category = 1 := by
  rcases v with i | x | o
  · rfl
  · exact absurd rfl (h x)
  · cases o <;> rfl
theorem tr_c2 (E : am_E) {v : AV} (h : (am_tr E v).category = 2) : ∃ x, v = aL x := by
  rcases v with i | x | o
  · cases h
  · exact ⟨x, rfl⟩
  · cases o <;> cases h

theorem so_iadd {p : Program} {l : Launch} {e : Env} {R : Room} {s : State} {mi : MethodId} {args : Array Value} {below : List Frame} {meth : Method} {c : Code} {Q : State → Prop} {E : am_E} {N0 U0 nL : Nat} {lg : List Nat} {cc : ByteArray} {pc : Nat} {ls : Lsl} {M : Mem} {S : Sh} {t : List AV} {x y : Int} (hx : p.tables.exec = Jvm.exec) (hb : c.code = cc) (hd : decode cc pc = .ok (.iadd, 1)) (k : GW p l e R s mi args below meth c Q E N0 U0 nL lg (pc + 1) (ls) (aI (w32 (x + y)) :: t) (M) (S)) : GW p l e R s mi args below meth c Q E N0 U0 nL lg (pc) (ls) (aI y :: aI x :: t) (M) (S) := by
  intro H locs cells slots larr hy
  have ho := hy.ok
  refine lv_iadd hx hb hd ?_
  rw [← Int32.ofInt_add, ← oI_w]
  exact k H locs cells slots larr (hy.st ⟨w32_r _, ho.2.2⟩)
theorem so_isub {p : Program} {l : Launch} {e : Env} {R : Room} {s : State} {mi : MethodId} {args : Array Value} {below : List Frame} {meth : Method} {c : Code} {Q : State → Prop} {E : am_E} {N0 U0 nL : Nat} {lg : List Nat} {cc : ByteArray} {pc : Nat} {ls : Lsl} {M : Mem} {S : Sh} {t : List AV} {x y : Int} (hx : p.tables.exec = Jvm.exec) (hb : c.code = cc) (hd : decode cc pc = .ok (.isub, 1)) (k : GW p l e R s mi args below meth c Q E N0 U0 nL lg (pc + 1) (ls) (aI (w32 (x - y)) :: t) (M) (S)) : GW p l e R s mi args below meth c Q E N0 U0 nL lg (pc) (ls) (aI y :: aI x :: t) (M) (S) := by
  intro H locs cells slots larr hy
  have ho := hy.ok
  refine lv_isub hx hb hd ?_
  rw [← Int32.ofInt_sub, ← oI_w]
  exact k H locs cells slots larr (hy.st ⟨w32_r _, ho.2.2⟩)
theorem so_imul {p : Program} {l : Launch} {e : Env} {R : Room} {s : State} {mi : MethodId} {args : Array Value} {below : List Frame} {meth : Method} {c : Code} {Q : State → Prop} {E : am_E} {N0 U0 nL : Nat} {lg : List Nat} {cc : ByteArray} {pc : Nat} {ls : Lsl} {M : Mem} {S : Sh} {t : List AV} {x y : Int} (hx : p.tables.exec = Jvm.exec) (hb : c.code = cc) (hd : decode cc pc = .ok (.imul, 1)) (k : GW p l e R s mi args below meth c Q E N0 U0 nL lg (pc + 1) (ls) (aI (w32 (x * y)) :: t) (M) (S)) : GW p l e R s mi args below meth c Q E N0 U0 nL lg (pc) (ls) (aI y :: aI x :: t) (M) (S) := by
  intro H locs cells slots larr hy
  have ho := hy.ok
  refine lv_imul hx hb hd ?_
  rw [← Int32.ofInt_mul, ← oI_w]
  exact k H locs cells slots larr (hy.st ⟨w32_r _, ho.2.2⟩)
theorem so_idiv {p : Program} {l : Launch} {e : Env} {R : Room} {s : State} {mi : MethodId} {args : Array Value} {below : List Frame} {meth : Method} {c : Code} {Q : State → Prop} {E : am_E} {N0 U0 nL : Nat} {lg : List Nat} {cc : ByteArray} {pc : Nat} {ls : Lsl} {M : Mem} {S : Sh} {t : List AV} {x y : Int} (hne : y ≠ 0) (hx : p.tables.exec = Jvm.exec) (hb : c.code = cc) (hd : decode cc pc = .ok (.idiv, 1)) (k : GW p l e R s mi args below meth c Q E N0 U0 nL lg (pc + 1) (ls) (aI (w32 (Int.tdiv x y)) :: t) (M) (S)) : GW p l e R s mi args below meth c Q E N0 U0 nL lg (pc) (ls) (aI y :: aI x :: t) (M) (S) := by
  intro H locs cells slots larr hy
  have ho := hy.ok
  refine lv_idiv hx hb hd (fun z => hne ((oI_eq ho.1 r32_0).mp (z.trans oI_0))) ?_
  rw [oI_div ho.2.1 ho.1]
  exact k H locs cells slots larr (hy.st ⟨w32_r _, ho.2.2⟩)
theorem so_irem {p : Program} {l : Launch} {e : Env} {R : Room} {s : State} {mi : MethodId} {args : Array Value} {below : List Frame} {meth : Method} {c : Code} {Q : State → Prop} {E : am_E} {N0 U0 nL : Nat} {lg : List Nat} {cc : ByteArray} {pc : Nat} {ls : Lsl} {M : Mem} {S : Sh} {t : List AV} {x y : Int} (hne : y ≠ 0) (hx : p.tables.exec = Jvm.exec) (hb : c.code = cc) (hd : decode cc pc = .ok (.irem, 1)) (k : GW p l e R s mi args below meth c Q E N0 U0 nL lg (pc + 1) (ls) (aI (w32 (Int.tmod x y)) :: t) (M) (S)) : GW p l e R s mi args below meth c Q E N0 U0 nL lg (pc) (ls) (aI y :: aI x :: t) (M) (S) := by
  intro H locs cells slots larr hy
  have ho := hy.ok
  refine lv_irem hx hb hd (fun z => hne ((oI_eq ho.1 r32_0).mp (z.trans oI_0))) ?_
  rw [oI_rem ho.2.1 ho.1]
  exact k H locs cells slots larr (hy.st ⟨w32_r _, ho.2.2⟩)
theorem so_ineg {p : Program} {l : Launch} {e : Env} {R : Room} {s : State} {mi : MethodId} {args : Array Value} {below : List Frame} {meth : Method} {c : Code} {Q : State → Prop} {E : am_E} {N0 U0 nL : Nat} {lg : List Nat} {cc : ByteArray} {pc : Nat} {ls : Lsl} {M : Mem} {S : Sh} {t : List AV} {x : Int} (hx : p.tables.exec = Jvm.exec) (hb : c.code = cc) (hd : decode cc pc = .ok (.ineg, 1)) (k : GW p l e R s mi args below meth c Q E N0 U0 nL lg (pc + 1) (ls) (aI (w32 (-x)) :: t) (M) (S)) : GW p l e R s mi args below meth c Q E N0 U0 nL lg (pc) (ls) (aI x :: t) (M) (S) := by
  intro H locs cells slots larr hy
  have ho := hy.ok
  refine lv_ineg hx hb hd ?_
  rw [← Int32.ofInt_neg, ← oI_w]
  exact k H locs cells slots larr (hy.st ⟨w32_r _, ho.2⟩)
theorem so_iand {p : Program} {l : Launch} {e : Env} {R : Room} {s : State} {mi : MethodId} {args : Array Value} {below : List Frame} {meth : Method} {c : Code} {Q : State → Prop} {E : am_E} {N0 U0 nL : Nat} {lg : List Nat} {cc : ByteArray} {pc : Nat} {ls : Lsl} {M : Mem} {S : Sh} {t : List AV} {x y : Int} (hx : p.tables.exec = Jvm.exec) (hb : c.code = cc) (hd : decode cc pc = .ok (.iand, 1)) (k : GW p l e R s mi args below meth c Q E N0 U0 nL lg (pc + 1) (ls) (aI (and32 x y) :: t) (M) (S)) : GW p l e R s mi args below meth c Q E N0 U0 nL lg (pc) (ls) (aI y :: aI x :: t) (M) (S) := by
  intro H locs cells slots larr hy
  have ho := hy.ok
  refine lv_iand hx hb hd ?_
  rw [← oI_ti (_ &&& _)]
  exact k H locs cells slots larr (hy.st ⟨and32_r _ _, ho.2.2⟩)
theorem so_ior {p : Program} {l : Launch} {e : Env} {R : Room} {s : State} {mi : MethodId} {args : Array Value} {below : List Frame} {meth : Method} {c : Code} {Q : State → Prop} {E : am_E} {N0 U0 nL : Nat} {lg : List Nat} {cc : ByteArray} {pc : Nat} {ls : Lsl} {M : Mem} {S : Sh} {t : List AV} {x y : Int} (hx : p.tables.exec = Jvm.exec) (hb : c.code = cc) (hd : decode cc pc = .ok (.ior, 1)) (k : GW p l e R s mi args below meth c Q E N0 U0 nL lg (pc + 1) (ls) (aI (or32 x y) :: t) (M) (S)) : GW p l e R s mi args below meth c Q E N0 U0 nL lg (pc) (ls) (aI y :: aI x :: t) (M) (S) := by
  intro H locs cells slots larr hy
  have ho := hy.ok
  refine lv_ior hx hb hd ?_
  rw [← oI_ti (_ ||| _)]
  exact k H locs cells slots larr (hy.st ⟨or32_r _ _, ho.2.2⟩)
theorem so_ishl {p : Program} {l : Launch} {e : Env} {R : Room} {s : State} {mi : MethodId} {args : Array Value} {below : List Frame} {meth : Method} {c : Code} {Q : State → Prop} {E : am_E} {N0 U0 nL : Nat} {lg : List Nat} {cc : ByteArray} {pc : Nat} {ls : Lsl} {M : Mem} {S : Sh} {t : List AV} {x y : Int} (hx : p.tables.exec = Jvm.exec) (hb : c.code = cc) (hd : decode cc pc = .ok (.ishl, 1)) (k : GW p l e R s mi args below meth c Q E N0 U0 nL lg (pc + 1) (ls) (aI (sh32 x y) :: t) (M) (S)) : GW p l e R s mi args below meth c Q E N0 U0 nL lg (pc) (ls) (aI y :: aI x :: t) (M) (S) := by
  intro H locs cells slots larr hy
  have ho := hy.ok
  refine lv_ishl hx hb hd ?_
  rw [← oI_ti (_ <<< _)]
  exact k H locs cells slots larr (hy.st ⟨sh32_r _ _, ho.2.2⟩)
theorem so_i2b {p : Program} {l : Launch} {e : Env} {R : Room} {s : State} {mi : MethodId} {args : Array Value} {below : List Frame} {meth : Method} {c : Code} {Q : State → Prop} {E : am_E} {N0 U0 nL : Nat} {lg : List Nat} {cc : ByteArray} {pc : Nat} {ls : Lsl} {M : Mem} {S : Sh} {t : List AV} {x : Int} (hx : p.tables.exec = Jvm.exec) (hb : c.code = cc) (hd : decode cc pc = .ok (.i2b, 1)) (k : GW p l e R s mi args below meth c Q E N0 U0 nL lg (pc + 1) (ls) (aI (w8 x) :: t) (M) (S)) : GW p l e R s mi args below meth c Q E N0 U0 nL lg (pc) (ls) (aI x :: t) (M) (S) := by
  intro H locs cells slots larr hy
  have ho := hy.ok
  refine lv_i2b hx hb hd (oI_8 x) ?_
  skip
  exact k H locs cells slots larr (hy.st ⟨w8_r _, ho.2⟩)
theorem so_i2s {p : Program} {l : Launch} {e : Env} {R : Room} {s : State} {mi : MethodId} {args : Array Value} {below : List Frame} {meth : Method} {c : Code} {Q : State → Prop} {E : am_E} {N0 U0 nL : Nat} {lg : List Nat} {cc : ByteArray} {pc : Nat} {ls : Lsl} {M : Mem} {S : Sh} {t : List AV} {x : Int} (hx : p.tables.exec = Jvm.exec) (hb : c.code = cc) (hd : decode cc pc = .ok (.i2s, 1)) (k : GW p l e R s mi args below meth c Q E N0 U0 nL lg (pc + 1) (ls) (aI (w16 x) :: t) (M) (S)) : GW p l e R s mi args below meth c Q E N0 U0 nL lg (pc) (ls) (aI x :: t) (M) (S) := by
  intro H locs cells slots larr hy
  have ho := hy.ok
  refine lv_i2s hx hb hd (oI_16 x) ?_
  skip
  exact k H locs cells slots larr (hy.st ⟨w16_r _, ho.2⟩)
theorem so_i2l {p : Program} {l : Launch} {e : Env} {R : Room} {s : State} {mi : MethodId} {args : Array Value} {below : List Frame} {meth : Method} {c : Code} {Q : State → Prop} {E : am_E} {N0 U0 nL : Nat} {lg : List Nat} {cc : ByteArray} {pc : Nat} {ls : Lsl} {M : Mem} {S : Sh} {t : List AV} {x : Int} (hx : p.tables.exec = Jvm.exec) (hb : c.code = cc) (hd : decode cc pc = .ok (.i2l, 1)) (k : GW p l e R s mi args below meth c Q E N0 U0 nL lg (pc + 1) (ls) (aL x :: t) (M) (S)) : GW p l e R s mi args below meth c Q E N0 U0 nL lg (pc) (ls) (aI x :: t) (M) (S) := by
  intro H locs cells slots larr hy
  have ho := hy.ok
  refine lv_i2l hx hb hd (oI_64 (hy.ok.1)) ?_
  skip
  exact k H locs cells slots larr (hy.st ⟨r32_64 ho.1, ho.2⟩)
theorem so_ladd {p : Program} {l : Launch} {e : Env} {R : Room} {s : State} {mi : MethodId} {args : Array Value} {below : List Frame} {meth : Method} {c : Code} {Q : State → Prop} {E : am_E} {N0 U0 nL : Nat} {lg : List Nat} {cc : ByteArray} {pc : Nat} {ls : Lsl} {M : Mem} {S : Sh} {t : List AV} {x y : Int} (hx : p.tables.exec = Jvm.exec) (hb : c.code = cc) (hd : decode cc pc = .ok (.ladd, 1)) (k : GW p l e R s mi args below meth c Q E N0 U0 nL lg (pc + 1) (ls) (aL (w64 (x + y)) :: t) (M) (S)) : GW p l e R s mi args below meth c Q E N0 U0 nL lg (pc) (ls) (aL y :: aL x :: t) (M) (S) := by
  intro H locs cells slots larr hy
  have ho := hy.ok
  refine lv_ladd hx hb hd ?_
  rw [← Int64.ofInt_add, ← oL_w]
  exact k H locs cells slots larr (hy.st ⟨w64_r _, ho.2.2⟩)
theorem so_lmul {p : Program} {l : Launch} {e : Env} {R : Room} {s : State} {mi : MethodId} {args : Array Value} {below : List Frame} {meth : Method} {c : Code} {Q : State → Prop} {E : am_E} {N0 U0 nL : Nat} {lg : List Nat} {cc : ByteArray} {pc : Nat} {ls : Lsl} {M : Mem} {S : Sh} {t : List AV} {x y : Int} (hx : p.tables.exec = Jvm.exec) (hb : c.code = cc) (hd : decode cc pc = .ok (.lmul, 1)) (k : GW p l e R s mi args below meth c Q E N0 U0 nL lg (pc + 1) (ls) (aL (w64 (x * y)) :: t) (M) (S)) : GW p l e R s mi args below meth c Q E N0 U0 nL lg (pc) (ls) (aL y :: aL x :: t) (M) (S) := by
  intro H locs cells slots larr hy
  have ho := hy.ok
  refine lv_lmul hx hb hd ?_
  rw [← Int64.ofInt_mul, ← oL_w]
  exact k H locs cells slots larr (hy.st ⟨w64_r _, ho.2.2⟩)
theorem so_ldiv {p : Program} {l : Launch} {e : Env} {R : Room} {s : State} {mi : MethodId} {args : Array Value} {below : List Frame} {meth : Method} {c : Code} {Q : State → Prop} {E : am_E} {N0 U0 nL : Nat} {lg : List Nat} {cc : ByteArray} {pc : Nat} {ls : Lsl} {M : Mem} {S : Sh} {t : List AV} {x y : Int} (hne : y ≠ 0) (hx : p.tables.exec = Jvm.exec) (hb : c.code = cc) (hd : decode cc pc = .ok (.ldiv, 1)) (k : GW p l e R s mi args below meth c Q E N0 U0 nL lg (pc + 1) (ls) (aL (w64 (Int.tdiv x y)) :: t) (M) (S)) : GW p l e R s mi args below meth c Q E N0 U0 nL lg (pc) (ls) (aL y :: aL x :: t) (M) (S) := by
  intro H locs cells slots larr hy
  have ho := hy.ok
  refine lv_ldiv hx hb hd (fun z => hne ((oL_eq ho.1 (r32_64 r32_0)).mp (z.trans oL_0))) ?_
  rw [oL_div ho.2.1 ho.1]
  exact k H locs cells slots larr (hy.st ⟨w64_r _, ho.2.2⟩)
theorem so_lrem {p : Program} {l : Launch} {e : Env} {R : Room} {s : State} {mi : MethodId} {args : Array Value} {below : List Frame} {meth : Method} {c : Code} {Q : State → Prop} {E : am_E} {N0 U0 nL : Nat} {lg : List Nat} {cc : ByteArray} {pc : Nat} {ls : Lsl} {M : Mem} {S : Sh} {t : List AV} {x y : Int} (hne : y ≠ 0) (hx : p.tables.exec = Jvm.exec) (hb : c.code = cc) (hd : decode cc pc = .ok (.lrem, 1)) (k : GW p l e R s mi args below meth c Q E N0 U0 nL lg (pc + 1) (ls) (aL (w64 (Int.tmod x y)) :: t) (M) (S)) : GW p l e R s mi args below meth c Q E N0 U0 nL lg (pc) (ls) (aL y :: aL x :: t) (M) (S) := by
  intro H locs cells slots larr hy
  have ho := hy.ok
  refine lv_lrem hx hb hd (fun z => hne ((oL_eq ho.1 (r32_64 r32_0)).mp (z.trans oL_0))) ?_
  rw [oL_rem ho.2.1 ho.1]
  exact k H locs cells slots larr (hy.st ⟨w64_r _, ho.2.2⟩)
theorem so_cmp {x y : Int} (hx : r64 x) (hy : r64 y) : lg_cmp (Int64.ofInt x) (Int64.ofInt y) = Int32.ofInt (if x < y then -1 else if x = y then 0 else 1) := by
  unfold lg_cmp
  have h1 := oL_lt hx hy
  have h2 := oL_eq hx hy
  have h3 := oL_lt hy hx
  by_cases c : y < x
  · rw [if_pos (h3.mpr c), if_neg (show ¬ x < y by omega), if_neg (show ¬ x = y by omega)]; decide
  · rw [if_neg (fun z => c (h3.mp z))]
    by_cases b : x = y
    · rw [if_pos (h2.mpr b), if_neg (show ¬ x < y by omega), if_pos b]; decide
    · rw [if_neg (fun z => b (h2.mp z)), if_pos (show x < y by omega)]; decide
theorem so_lcmp {p : Program} {l : Launch} {e : Env} {R : Room} {s : State} {mi : MethodId} {args : Array Value} {below : List Frame} {meth : Method} {c : Code} {Q : State → Prop} {E : am_E} {N0 U0 nL : Nat} {lg : List Nat} {cc : ByteArray} {pc : Nat} {ls : Lsl} {M : Mem} {S : Sh} {t : List AV} {x y : Int} (hx : p.tables.exec = Jvm.exec) (hb : c.code = cc) (hd : decode cc pc = .ok (.lcmp, 1)) (k : GW p l e R s mi args below meth c Q E N0 U0 nL lg (pc + 1) (ls) (aI (if x < y then -1 else if x = y then 0 else 1) :: t) (M) (S)) : GW p l e R s mi args below meth c Q E N0 U0 nL lg (pc) (ls) (aL y :: aL x :: t) (M) (S) := by
  intro H locs cells slots larr hy
  have ho := hy.ok
  refine W.lcmp hx hb hd ?_
  rw [so_cmp ho.2.1 ho.1]
  exact k H locs cells slots larr (hy.st ⟨by show r32 _; unfold r32; split <;> (try split) <;> omega, ho.2.2⟩)
theorem so_iconst {p : Program} {l : Launch} {e : Env} {R : Room} {s : State} {mi : MethodId} {args : Array Value} {below : List Frame} {meth : Method} {c : Code} {Q : State → Prop} {E : am_E} {N0 U0 nL : Nat} {lg : List Nat} {cc : ByteArray} {pc : Nat} {ls : Lsl} {M : Mem} {S : Sh} {t : List AV} {n : Int} (hn : r32 n) (hx : p.tables.exec = Jvm.exec) (hb : c.code = cc) (hd : decode cc pc = .ok (.iconst n, 1)) (k : GW p l e R s mi args below meth c Q E N0 U0 nL lg (pc + 1) (ls) (aI n :: t) (M) (S)) : GW p l e R s mi args below meth c Q E N0 U0 nL lg (pc) (ls) (t) (M) (S) := by
  intro H locs cells slots larr hy
  have ho := hy.ok
  refine lv_iconst hx hb hd rfl ?_
  skip
  exact k H locs cells slots larr (hy.st ⟨hn, ho⟩)
theorem so_bipush {p : Program} {l : Launch} {e : Env} {R : Room} {s : State} {mi : MethodId} {args : Array Value} {below : List Frame} {meth : Method} {c : Code} {Q : State → Prop} {E : am_E} {N0 U0 nL : Nat} {lg : List Nat} {cc : ByteArray} {pc : Nat} {ls : Lsl} {M : Mem} {S : Sh} {t : List AV} {n : Int} (hn : -128 ≤ n ∧ n < 128) (hx : p.tables.exec = Jvm.exec) (hb : c.code = cc) (hd : decode cc pc = .ok (.bipush n, 2)) (k : GW p l e R s mi args below meth c Q E N0 U0 nL lg (pc + 2) (ls) (aI n :: t) (M) (S)) : GW p l e R s mi args below meth c Q E N0 U0 nL lg (pc) (ls) (t) (M) (S) := by
  intro H locs cells slots larr hy
  have ho := hy.ok
  refine lv_bipush hx hb hd (oI_b8 hn) ?_
  skip
  exact k H locs cells slots larr (hy.st ⟨by show r32 _; unfold r32; omega, ho⟩)
theorem so_sipush {p : Program} {l : Launch} {e : Env} {R : Room} {s : State} {mi : MethodId} {args : Array Value} {below : List Frame} {meth : Method} {c : Code} {Q : State → Prop} {E : am_E} {N0 U0 nL : Nat} {lg : List Nat} {cc : ByteArray} {pc : Nat} {ls : Lsl} {M : Mem} {S : Sh} {t : List AV} {n : Int} (hn : -32768 ≤ n ∧ n < 32768) (hx : p.tables.exec = Jvm.exec) (hb : c.code = cc) (hd : decode cc pc = .ok (.sipush n, 3)) (k : GW p l e R s mi args below meth c Q E N0 U0 nL lg (pc + 3) (ls) (aI n :: t) (M) (S)) : GW p l e R s mi args below meth c Q E N0 U0 nL lg (pc) (ls) (t) (M) (S) := by
  intro H locs cells slots larr hy
  have ho := hy.ok
  refine lv_sipush hx hb hd (oI_b16 hn) ?_
  skip
  exact k H locs cells slots larr (hy.st ⟨by show r32 _; unfold r32; omega, ho⟩)
theorem so_lconst {p : Program} {l : Launch} {e : Env} {R : Room} {s : State} {mi : MethodId} {args : Array Value} {below : List Frame} {meth : Method} {c : Code} {Q : State → Prop} {E : am_E} {N0 U0 nL : Nat} {lg : List Nat} {cc : ByteArray} {pc : Nat} {ls : Lsl} {M : Mem} {S : Sh} {t : List AV} {n : Fin 2} (hx : p.tables.exec = Jvm.exec) (hb : c.code = cc) (hd : decode cc pc = .ok (.lconst n, 1)) (k : GW p l e R s mi args below meth c Q E N0 U0 nL lg (pc + 1) (ls) (aL (n : Nat) :: t) (M) (S)) : GW p l e R s mi args below meth c Q E N0 U0 nL lg (pc) (ls) (t) (M) (S) := by
  intro H locs cells slots larr hy
  have ho := hy.ok
  refine lv_lconst hx hb hd (v := Int64.ofInt (n : Nat)) (Int64.ofInt_eq_ofNat).symm ?_
  skip
  exact k H locs cells slots larr (hy.st ⟨by show r64 _; have := n.isLt; unfold r64; omega, ho⟩)
theorem so_null {p : Program} {l : Launch} {e : Env} {R : Room} {s : State} {mi : MethodId} {args : Array Value} {below : List Frame} {meth : Method} {c : Code} {Q : State → Prop} {E : am_E} {N0 U0 nL : Nat} {lg : List Nat} {cc : ByteArray} {pc : Nat} {ls : Lsl} {M : Mem} {S : Sh} {t : List AV}  (hx : p.tables.exec = Jvm.exec) (hb : c.code = cc) (hd : decode cc pc = .ok (.aconst_null, 1)) (k : GW p l e R s mi args below meth c Q E N0 U0 nL lg (pc + 1) (ls) (aN :: t) (M) (S)) : GW p l e R s mi args below meth c Q E N0 U0 nL lg (pc) (ls) (t) (M) (S) := by
  intro H locs cells slots larr hy
  have ho := hy.ok
  refine lv_null hx hb hd ?_
  skip
  exact k H locs cells slots larr (hy.st ⟨trivial, ho⟩)
theorem so_ldc {p : Program} {l : Launch} {e : Env} {R : Room} {s : State} {mi : MethodId} {args : Array Value} {below : List Frame} {meth : Method} {c : Code} {Q : State → Prop} {E : am_E} {N0 U0 nL : Nat} {lg : List Nat} {cc : ByteArray} {pc : Nat} {ls : Lsl} {M : Mem} {S : Sh} {t : List AV} {i : Nat} {v : Int} {own : String} (hown : s.vm.findClass own = some mi.cls) (hv : r32 v) (hc : (Jvm.Cond.constant own i (Int32.ofInt v)).before args s = true) (hx : p.tables.exec = Jvm.exec) (hb : c.code = cc) (hd : decode cc pc = .ok (.ldc i, 2)) (k : GW p l e R s mi args below meth c Q E N0 U0 nL lg (pc + 2) (ls) (aI v :: t) (M) (S)) : GW p l e R s mi args below meth c Q E N0 U0 nL lg (pc) (ls) (t) (M) (S) := by
  intro H locs cells slots larr hy
  have ho := hy.ok
  refine lv_ldc hx hb hown hc hd ?_
  skip
  exact k H locs cells slots larr (hy.st ⟨hv, ho⟩)
theorem so_ldcw {p : Program} {l : Launch} {e : Env} {R : Room} {s : State} {mi : MethodId} {args : Array Value} {below : List Frame} {meth : Method} {c : Code} {Q : State → Prop} {E : am_E} {N0 U0 nL : Nat} {lg : List Nat} {cc : ByteArray} {pc : Nat} {ls : Lsl} {M : Mem} {S : Sh} {t : List AV} {i : Nat} {v : Int} {own : String} (hown : s.vm.findClass own = some mi.cls) (hv : r32 v) (hc : (Jvm.Cond.constant own i (Int32.ofInt v)).before args s = true) (hx : p.tables.exec = Jvm.exec) (hb : c.code = cc) (hd : decode cc pc = .ok (.ldc_w i, 3)) (k : GW p l e R s mi args below meth c Q E N0 U0 nL lg (pc + 3) (ls) (aI v :: t) (M) (S)) : GW p l e R s mi args below meth c Q E N0 U0 nL lg (pc) (ls) (t) (M) (S) := by
  intro H locs cells slots larr hy
  have ho := hy.ok
  refine lv_ldcw hx hb hown hc hd ?_
  skip
  exact k H locs cells slots larr (hy.st ⟨hv, ho⟩)
theorem so_ldc2 {p : Program} {l : Launch} {e : Env} {R : Room} {s : State} {mi : MethodId} {args : Array Value} {below : List Frame} {meth : Method} {c : Code} {Q : State → Prop} {E : am_E} {N0 U0 nL : Nat} {lg : List Nat} {cc : ByteArray} {pc : Nat} {ls : Lsl} {M : Mem} {S : Sh} {t : List AV} {i : Nat} {v : Int} {own : String} (hown : s.vm.findClass own = some mi.cls) (hv : r64 v) (hc : (Jvm.Cond.constantLong own i (Int64.ofInt v)).before args s = true) (hx : p.tables.exec = Jvm.exec) (hb : c.code = cc) (hd : decode cc pc = .ok (.ldc2_w i, 3)) (k : GW p l e R s mi args below meth c Q E N0 U0 nL lg (pc + 3) (ls) (aL v :: t) (M) (S)) : GW p l e R s mi args below meth c Q E N0 U0 nL lg (pc) (ls) (t) (M) (S) := by
  intro H locs cells slots larr hy
  have ho := hy.ok
  refine lv_ldc2 hx hb hown hc hd ?_
  skip
  exact k H locs cells slots larr (hy.st ⟨hv, ho⟩)
theorem so_pop {p : Program} {l : Launch} {e : Env} {R : Room} {s : State} {mi : MethodId} {args : Array Value} {below : List Frame} {meth : Method} {c : Code} {Q : State → Prop} {E : am_E} {N0 U0 nL : Nat} {lg : List Nat} {cc : ByteArray} {pc : Nat} {ls : Lsl} {M : Mem} {S : Sh} {t : List AV} {x : Int} (hx : p.tables.exec = Jvm.exec) (hb : c.code = cc) (hd : decode cc pc = .ok (.pop, 1)) (k : GW p l e R s mi args below meth c Q E N0 U0 nL lg (pc + 1) (ls) (t) (M) (S)) : GW p l e R s mi args below meth c Q E N0 U0 nL lg (pc) (ls) (aI x :: t) (M) (S) := by
  intro H locs cells slots larr hy
  have ho := hy.ok
  refine lv_pop hx hb hd rfl ?_
  skip
  exact k H locs cells slots larr (hy.st ho.2)
theorem so_dupI {p : Program} {l : Launch} {e : Env} {R : Room} {s : State} {mi : MethodId} {args : Array Value} {below : List Frame} {meth : Method} {c : Code} {Q : State → Prop} {E : am_E} {N0 U0 nL : Nat} {lg : List Nat} {cc : ByteArray} {pc : Nat} {ls : Lsl} {M : Mem} {S : Sh} {t : List AV} {x : Int} (hx : p.tables.exec = Jvm.exec) (hb : c.code = cc) (hd : decode cc pc = .ok (.dup, 1)) (k : GW p l e R s mi args below meth c Q E N0 U0 nL lg (pc + 1) (ls) (aI x :: aI x :: t) (M) (S)) : GW p l e R s mi args below meth c Q E N0 U0 nL lg (pc) (ls) (aI x :: t) (M) (S) := by
  intro H locs cells slots larr hy
  have ho := hy.ok
  refine lv_dup hx hb hd rfl ?_
  skip
  exact k H locs cells slots larr (hy.st ⟨ho.1, ho.1, ho.2⟩)
theorem so_dupO {p : Program} {l : Launch} {e : Env} {R : Room} {s : State} {mi : MethodId} {args : Array Value} {below : List Frame} {meth : Method} {c : Code} {Q : State → Prop} {E : am_E} {N0 U0 nL : Nat} {lg : List Nat} {cc : ByteArray} {pc : Nat} {ls : Lsl} {M : Mem} {S : Sh} {t : List AV} {x : Option Nat} (hx : p.tables.exec = Jvm.exec) (hb : c.code = cc) (hd : decode cc pc = .ok (.dup, 1)) (k : GW p l e R s mi args below meth c Q E N0 U0 nL lg (pc + 1) (ls) (aO x :: aO x :: t) (M) (S)) : GW p l e R s mi args below meth c Q E N0 U0 nL lg (pc) (ls) (aO x :: t) (M) (S) := by
  intro H locs cells slots larr hy
  have ho := hy.ok
  refine lv_dup hx hb hd (tr_c1 E (v := aO x) (fun _ h => by cases h)) ?_
  skip
  exact k H locs cells slots larr (hy.st ⟨trivial, trivial, ho.2⟩)
theorem so_dup2 {p : Program} {l : Launch} {e : Env} {R : Room} {s : State} {mi : MethodId} {args : Array Value} {below : List Frame} {meth : Method} {c : Code} {Q : State → Prop} {E : am_E} {N0 U0 nL : Nat} {lg : List Nat} {cc : ByteArray} {pc : Nat} {ls : Lsl} {M : Mem} {S : Sh} {t : List AV} {y : Int} {x : Nat} (hx : p.tables.exec = Jvm.exec) (hb : c.code = cc) (hd : decode cc pc = .ok (.dup2, 1)) (k : GW p l e R s mi args below meth c Q E N0 U0 nL lg (pc + 1) (ls) (aI y :: aR x :: aI y :: aR x :: t) (M) (S)) : GW p l e R s mi args below meth c Q E N0 U0 nL lg (pc) (ls) (aI y :: aR x :: t) (M) (S) := by
  intro H locs cells slots larr hy
  have ho := hy.ok
  refine lv_dup2_11 hx hb hd rfl rfl ?_
  skip
  exact k H locs cells slots larr (hy.st ⟨ho.1, trivial, ho.1, trivial, ho.2.2⟩)
theorem so_iload {p : Program} {l : Launch} {e : Env} {R : Room} {s : State} {mi : MethodId} {args : Array Value} {below : List Frame} {meth : Method} {c : Code} {Q : State → Prop} {E : am_E} {N0 U0 nL : Nat} {lg : List Nat} {cc : ByteArray} {pc : Nat} {ls : Lsl} {M : Mem} {S : Sh} {t : List AV} {i : Nat} {x : Int} (hx : p.tables.exec = Jvm.exec) (hb : c.code = cc) (hd : decode cc pc = .ok (.iload i, 2)) (hl : ls[(i : Nat)]? = some (some (aI x))) (k : GW p l e R s mi args below meth c Q E N0 U0 nL lg (pc + 2) (ls) (aI x :: t) (M) (S)) : GW p l e R s mi args below meth c Q E N0 U0 nL lg (pc) (ls) (t) (M) (S) := by
  intro H locs cells slots larr hy
  have ho := hy.ok
  have h1 := hy.2.1.2.2.1 _ _ hl
  have h2 := hy.2.2.2.2.1 _ _ hl
  refine lv_iload hx hb hd h1 ?_
  exact k H locs cells slots larr (hy.st ⟨h2, ho⟩)
theorem so_iload_n {p : Program} {l : Launch} {e : Env} {R : Room} {s : State} {mi : MethodId} {args : Array Value} {below : List Frame} {meth : Method} {c : Code} {Q : State → Prop} {E : am_E} {N0 U0 nL : Nat} {lg : List Nat} {cc : ByteArray} {pc : Nat} {ls : Lsl} {M : Mem} {S : Sh} {t : List AV} {i : Fin 4} {x : Int} (hx : p.tables.exec = Jvm.exec) (hb : c.code = cc) (hd : decode cc pc = .ok (.iload_n i, 1)) (hl : ls[(i : Nat)]? = some (some (aI x))) (k : GW p l e R s mi args below meth c Q E N0 U0 nL lg (pc + 1) (ls) (aI x :: t) (M) (S)) : GW p l e R s mi args below meth c Q E N0 U0 nL lg (pc) (ls) (t) (M) (S) := by
  intro H locs cells slots larr hy
  have ho := hy.ok
  have h1 := hy.2.1.2.2.1 _ _ hl
  have h2 := hy.2.2.2.2.1 _ _ hl
  refine lv_iload_n hx hb hd rfl h1 ?_
  exact k H locs cells slots larr (hy.st ⟨h2, ho⟩)
theorem so_lload {p : Program} {l : Launch} {e : Env} {R : Room} {s : State} {mi : MethodId} {args : Array Value} {below : List Frame} {meth : Method} {c : Code} {Q : State → Prop} {E : am_E} {N0 U0 nL : Nat} {lg : List Nat} {cc : ByteArray} {pc : Nat} {ls : Lsl} {M : Mem} {S : Sh} {t : List AV} {i : Nat} {x : Int} (hx : p.tables.exec = Jvm.exec) (hb : c.code = cc) (hd : decode cc pc = .ok (.lload i, 2)) (hl : ls[(i : Nat)]? = some (some (aL x))) (k : GW p l e R s mi args below meth c Q E N0 U0 nL lg (pc + 2) (ls) (aL x :: t) (M) (S)) : GW p l e R s mi args below meth c Q E N0 U0 nL lg (pc) (ls) (t) (M) (S) := by
  intro H locs cells slots larr hy
  have ho := hy.ok
  have h1 := hy.2.1.2.2.1 _ _ hl
  have h2 := hy.2.2.2.2.1 _ _ hl
  refine lv_lload hx hb hd h1 ?_
  exact k H locs cells slots larr (hy.st ⟨h2, ho⟩)
theorem so_lload_n {p : Program} {l : Launch} {e : Env} {R : Room} {s : State} {mi : MethodId} {args : Array Value} {below : List Frame} {meth : Method} {c : Code} {Q : State → Prop} {E : am_E} {N0 U0 nL : Nat} {lg : List Nat} {cc : ByteArray} {pc : Nat} {ls : Lsl} {M : Mem} {S : Sh} {t : List AV} {i : Fin 4} {x : Int} (hx : p.tables.exec = Jvm.exec) (hb : c.code = cc) (hd : decode cc pc = .ok (.lload_n i, 1)) (hl : ls[(i : Nat)]? = some (some (aL x))) (k : GW p l e R s mi args below meth c Q E N0 U0 nL lg (pc + 1) (ls) (aL x :: t) (M) (S)) : GW p l e R s mi args below meth c Q E N0 U0 nL lg (pc) (ls) (t) (M) (S) := by
  intro H locs cells slots larr hy
  have ho := hy.ok
  have h1 := hy.2.1.2.2.1 _ _ hl
  have h2 := hy.2.2.2.2.1 _ _ hl
  refine lv_lload_n hx hb hd rfl h1 ?_
  exact k H locs cells slots larr (hy.st ⟨h2, ho⟩)
theorem so_aload {p : Program} {l : Launch} {e : Env} {R : Room} {s : State} {mi : MethodId} {args : Array Value} {below : List Frame} {meth : Method} {c : Code} {Q : State → Prop} {E : am_E} {N0 U0 nL : Nat} {lg : List Nat} {cc : ByteArray} {pc : Nat} {ls : Lsl} {M : Mem} {S : Sh} {t : List AV} {i : Nat} {o : Option Nat} (hx : p.tables.exec = Jvm.exec) (hb : c.code = cc) (hd : decode cc pc = .ok (.aload i, 2)) (hl : ls[(i : Nat)]? = some (some (aO o))) (k : GW p l e R s mi args below meth c Q E N0 U0 nL lg (pc + 2) (ls) (aO o :: t) (M) (S)) : GW p l e R s mi args below meth c Q E N0 U0 nL lg (pc) (ls) (t) (M) (S) := by
  intro H locs cells slots larr hy
  have ho := hy.ok
  have h1 := hy.2.1.2.2.1 _ _ hl
  have h2 := hy.2.2.2.2.1 _ _ hl
  cases o with
  | none =>
    refine lv_aloadN hx hb hd h1 ?_
    exact k H locs cells slots larr (hy.st ⟨h2, ho⟩)
  | some a =>
    refine lv_aload hx hb hd h1 ?_
    exact k H locs cells slots larr (hy.st ⟨h2, ho⟩)
theorem so_aload_n {p : Program} {l : Launch} {e : Env} {R : Room} {s : State} {mi : MethodId} {args : Array Value} {below : List Frame} {meth : Method} {c : Code} {Q : State → Prop} {E : am_E} {N0 U0 nL : Nat} {lg : List Nat} {cc : ByteArray} {pc : Nat} {ls : Lsl} {M : Mem} {S : Sh} {t : List AV} {i : Fin 4} {o : Option Nat} (hx : p.tables.exec = Jvm.exec) (hb : c.code = cc) (hd : decode cc pc = .ok (.aload_n i, 1)) (hl : ls[(i : Nat)]? = some (some (aO o))) (k : GW p l e R s mi args below meth c Q E N0 U0 nL lg (pc + 1) (ls) (aO o :: t) (M) (S)) : GW p l e R s mi args below meth c Q E N0 U0 nL lg (pc) (ls) (t) (M) (S) := by
  intro H locs cells slots larr hy
  have ho := hy.ok
  have h1 := hy.2.1.2.2.1 _ _ hl
  have h2 := hy.2.2.2.2.1 _ _ hl
  cases o with
  | none =>
    refine lv_aload_nN hx hb hd rfl h1 ?_
    exact k H locs cells slots larr (hy.st ⟨h2, ho⟩)
  | some a =>
    refine lv_aload_n hx hb hd rfl h1 ?_
    exact k H locs cells slots larr (hy.st ⟨h2, ho⟩)
