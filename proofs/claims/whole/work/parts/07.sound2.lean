def prs (E : am_E) (ls : Lsl) : List (Nat × Value) := (List.range ls.length).filterMap (fun i => match ls[i]? with
  | some (some v) => some (i, am_tr E v)
  | _ => none)
theorem mem_prs {E : am_E} {ls : Lsl} {i : Nat} {v : AV} (h : ls[i]? = some (some v)) : (i, am_tr E v) ∈ prs E ls := by
  unfold prs
  refine List.mem_filterMap.mpr ⟨i, List.mem_range.mpr (List.getElem?_eq_some_iff.mp h).1, ?_⟩
  rw [h]
theorem prs_mem {E : am_E} {ls : Lsl} {q : Nat × Value} (h : q ∈ prs E ls) : ∃ v, ls[q.1]? = some (some v) ∧ q.2 = am_tr E v := by
  unfold prs at h
  obtain ⟨i, -, hi⟩ := List.mem_filterMap.mp h
  split at hi
  · rename_i v hv
    cases hi
    exact ⟨v, hv, rfl⟩
  · cases hi
theorem lrel_has {E : am_E} {nL : Nat} {lg : List Nat} {ls : Lsl} {larr : Array Slot} (h : lrel E nL lg ls larr) : lv_has larr nL (prs E ls) := by
  refine ⟨h.1, h.2.1, fun q hq => ?_⟩
  obtain ⟨v, h1, h2⟩ := prs_mem hq
  rw [h2]
  exact h.2.2.1 _ _ h1
theorem lrel_set1 {E : am_E} {nL : Nat} {lg : List Nat} {ls : Lsl} {larr larr' : Array Slot} {i : Nat} {v : AV} (h : lrel E nL lg ls larr) (h' : lv_has larr' nL ((i, am_tr E v) :: (prs E ls).filter (fun q => !(q.1 == i) && !(q.1 + 1 == i && q.2.category == 2)))) (hv : ∀ x, v ≠ aL x) (hn : ∀ j ∈ lg, j + 1 ≠ i) : lrel E nL lg (ls.set i (some v)) larr' := by
  refine ⟨h'.1, h'.2.1, fun j w hj => ?_, by rw [List.length_set]; exact h.2.2.2.1, fun j x hj => ?_⟩
  · rw [List.getElem?_set] at hj
    by_cases e : i = j
    · subst e
      rw [if_pos rfl] at hj
      split at hj
      · cases hj
        exact h'.2.2 _ List.mem_cons_self
      · cases hj
    · rw [if_neg e] at hj
      refine h'.2.2 (j, am_tr E w) (List.mem_cons_of_mem _ (List.mem_filter.mpr ⟨mem_prs hj, ?_⟩))
      have e1 : ¬ j = i := fun z => e z.symm
      have e2 : ¬ (j + 1 = i ∧ (am_tr E w).category = 2) := by
        rintro ⟨z1, z2⟩
        obtain ⟨x, rfl⟩ := tr_c2 E z2
        exact hn j (h.2.2.2.2 _ _ hj) z1
      simp only [Bool.and_eq_true, Bool.not_eq_true', beq_eq_false_iff_ne, ne_eq, Bool.and_eq_false_iff]
      refine ⟨e1, ?_⟩
      by_cases z1 : j + 1 = i
      · exact Or.inr (fun z2 => e2 ⟨z1, z2⟩)
      · exact Or.inl z1
  · rw [List.getElem?_set] at hj
    by_cases e : i = j
    · subst e
      rw [if_pos rfl] at hj
      split at hj
      · cases hj
        exact absurd rfl (hv x)
      · cases hj
    · rw [if_neg e] at hj
      exact h.2.2.2.2 _ _ hj
theorem lrel_set2 {E : am_E} {nL : Nat} {lg : List Nat} {ls : Lsl} {larr larr' : Array Slot} {i : Nat} {x : Int} (h : lrel E nL lg ls larr) (h' : lv_has larr' nL ((i, am_tr E (aL x)) :: (prs E ls).filter (fun q => !(q.1 == i) && (!(q.1 == i + 1) && !(q.1 + 1 == i && q.2.category == 2))))) (hi : i ∈ lg) (hn : ∀ j ∈ lg, j + 1 ≠ i) : lrel E nL lg ((ls.set (i + 1) none).set i (some (aL x))) larr' := by
  refine ⟨h'.1, h'.2.1, fun j w hj => ?_, by rw [List.length_set, List.length_set]; exact h.2.2.2.1, fun j y hj => ?_⟩
  · rw [List.getElem?_set] at hj
    by_cases e : i = j
    · subst e
      rw [if_pos rfl] at hj
      split at hj
      · cases hj
        exact h'.2.2 _ List.mem_cons_self
      · cases hj
    · rw [if_neg e, List.getElem?_set] at hj
      by_cases e3 : i + 1 = j
      · rw [if_pos e3] at hj
        split at hj <;> cases hj
      · rw [if_neg e3] at hj
        refine h'.2.2 (j, am_tr E w) (List.mem_cons_of_mem _ (List.mem_filter.mpr ⟨mem_prs hj, ?_⟩))
        have e1 : ¬ j = i := fun z => e z.symm
        have e4 : ¬ j = i + 1 := fun z => e3 z.symm
        have e2 : ¬ (j + 1 = i ∧ (am_tr E w).category = 2) := by
          rintro ⟨z1, z2⟩
          obtain ⟨x, rfl⟩ := tr_c2 E z2
          exact hn j (h.2.2.2.2 _ _ hj) z1
        simp only [Bool.and_eq_true, Bool.not_eq_true', beq_eq_false_iff_ne, ne_eq, Bool.and_eq_false_iff]
        refine ⟨e1, e4, ?_⟩
        by_cases z1 : j + 1 = i
        · exact Or.inr (fun z2 => e2 ⟨z1, z2⟩)
        · exact Or.inl z1
  · rw [List.getElem?_set] at hj
    by_cases e : i = j
    · subst e
      exact hi
    · rw [if_neg e, List.getElem?_set] at hj
      by_cases e3 : i + 1 = j
      · rw [if_pos e3] at hj
        split at hj <;> cases hj
      · rw [if_neg e3] at hj
        exact h.2.2.2.2 _ _ hj
theorem okLs_set {ls : Lsl} {i : Nat} {o : Option AV} (h : okLs ls) (hv : ∀ v, o = some v → okV v) : okLs (ls.set i o) := by
  intro j w hj
  rw [List.getElem?_set] at hj
  by_cases e : i = j
  · rw [if_pos e] at hj
    split at hj
    · cases hj
      exact hv w rfl
    · cases hj
  · rw [if_neg e] at hj
    exact h j w hj
theorem am_Hy.ls {s : State} {E : am_E} {N0 U0 nL : Nat} {lg : List Nat} {ls : Lsl} {st : List AV} {M : Mem} {S : Sh} {H : Heap} {locs : List Loc} {cells slots : Nat} {larr : Array Slot} {ls' : Lsl} {st' : List AV} {larr' : Array Slot} (h : am_Hy s E N0 U0 nL lg ls st M S H locs cells slots larr) (h1' : lrel E nL lg ls' larr') (h2' : okLs ls') (h3' : okSt st') : am_Hy s E N0 U0 nL lg ls' st' M S H locs cells slots larr' := by
  obtain ⟨h1, h2, h3, h4, h5, h6, h7, h8⟩ := h
  exact ⟨h1, h1', h3, h4, h2', h3', h7, h8⟩
theorem so_istore {p : Program} {l : Launch} {e : Env} {R : Room} {s : State} {mi : MethodId} {args : Array Value} {below : List Frame} {meth : Method} {c : Code} {Q : State → Prop} {E : am_E} {N0 U0 nL : Nat} {lg : List Nat} {cc : ByteArray} {pc : Nat} {ls : Lsl} {M : Mem} {S : Sh} {t : List AV} {i : Nat} {x : Int} (hx : p.tables.exec = Jvm.exec) (hb : c.code = cc) (hd : decode cc pc = .ok (.istore i, 2)) (hi : (i : Nat) < nL) (hn : ∀ j ∈ lg, j + 1 ≠ (i : Nat)) (k : GW p l e R s mi args below meth c Q E N0 U0 nL lg (pc + 2) (ls.set i (some (aI x))) (t) (M) (S)) : GW p l e R s mi args below meth c Q E N0 U0 nL lg (pc) (ls) (aI x :: t) (M) (S) := by
  intro H locs cells slots larr hy
  have ho := hy.ok
  refine lv_istore hx hb hd (lrel_has hy.2.1) hi rfl (fun ls' hl' => ?_)
  exact k H locs cells slots ls' (hy.ls (lrel_set1 (v := aI x) hy.2.1 hl' (fun _ z => by cases z) hn) (okLs_set hy.2.2.2.2.1 (fun v z => by cases z; exact ho.1)) ho.2)
theorem so_istore_n {p : Program} {l : Launch} {e : Env} {R : Room} {s : State} {mi : MethodId} {args : Array Value} {below : List Frame} {meth : Method} {c : Code} {Q : State → Prop} {E : am_E} {N0 U0 nL : Nat} {lg : List Nat} {cc : ByteArray} {pc : Nat} {ls : Lsl} {M : Mem} {S : Sh} {t : List AV} {i : Fin 4} {x : Int} (hx : p.tables.exec = Jvm.exec) (hb : c.code = cc) (hd : decode cc pc = .ok (.istore_n i, 1)) (hi : (i : Nat) < nL) (hn : ∀ j ∈ lg, j + 1 ≠ (i : Nat)) (k : GW p l e R s mi args below meth c Q E N0 U0 nL lg (pc + 1) (ls.set i (some (aI x))) (t) (M) (S)) : GW p l e R s mi args below meth c Q E N0 U0 nL lg (pc) (ls) (aI x :: t) (M) (S) := by
  intro H locs cells slots larr hy
  have ho := hy.ok
  refine lv_istore_n hx hb hd rfl (lrel_has hy.2.1) hi rfl (fun ls' hl' => ?_)
  exact k H locs cells slots ls' (hy.ls (lrel_set1 (v := aI x) hy.2.1 hl' (fun _ z => by cases z) hn) (okLs_set hy.2.2.2.2.1 (fun v z => by cases z; exact ho.1)) ho.2)
theorem so_astore {p : Program} {l : Launch} {e : Env} {R : Room} {s : State} {mi : MethodId} {args : Array Value} {below : List Frame} {meth : Method} {c : Code} {Q : State → Prop} {E : am_E} {N0 U0 nL : Nat} {lg : List Nat} {cc : ByteArray} {pc : Nat} {ls : Lsl} {M : Mem} {S : Sh} {t : List AV} {i : Nat} {o : Option Nat} (hx : p.tables.exec = Jvm.exec) (hb : c.code = cc) (hd : decode cc pc = .ok (.astore i, 2)) (hi : (i : Nat) < nL) (hn : ∀ j ∈ lg, j + 1 ≠ (i : Nat)) (k : GW p l e R s mi args below meth c Q E N0 U0 nL lg (pc + 2) (ls.set i (some (aO o))) (t) (M) (S)) : GW p l e R s mi args below meth c Q E N0 U0 nL lg (pc) (ls) (aO o :: t) (M) (S) := by
  intro H locs cells slots larr hy
  have ho := hy.ok
  cases o with
  | none =>
    refine lv_astoreN hx hb hd (lrel_has hy.2.1) hi rfl (fun ls' hl' => ?_)
    exact k H locs cells slots ls' (hy.ls (lrel_set1 (v := aO none) hy.2.1 hl' (fun _ z => by cases z) hn) (okLs_set hy.2.2.2.2.1 (fun v z => by cases z; exact ho.1)) ho.2)
  | some a =>
    refine lv_astore hx hb hd (lrel_has hy.2.1) hi rfl (fun ls' hl' => ?_)
    exact k H locs cells slots ls' (hy.ls (lrel_set1 (v := aO (some a)) hy.2.1 hl' (fun _ z => by cases z) hn) (okLs_set hy.2.2.2.2.1 (fun v z => by cases z; exact ho.1)) ho.2)
theorem so_astore_n {p : Program} {l : Launch} {e : Env} {R : Room} {s : State} {mi : MethodId} {args : Array Value} {below : List Frame} {meth : Method} {c : Code} {Q : State → Prop} {E : am_E} {N0 U0 nL : Nat} {lg : List Nat} {cc : ByteArray} {pc : Nat} {ls : Lsl} {M : Mem} {S : Sh} {t : List AV} {i : Fin 4} {o : Option Nat} (hx : p.tables.exec = Jvm.exec) (hb : c.code = cc) (hd : decode cc pc = .ok (.astore_n i, 1)) (hi : (i : Nat) < nL) (hn : ∀ j ∈ lg, j + 1 ≠ (i : Nat)) (k : GW p l e R s mi args below meth c Q E N0 U0 nL lg (pc + 1) (ls.set i (some (aO o))) (t) (M) (S)) : GW p l e R s mi args below meth c Q E N0 U0 nL lg (pc) (ls) (aO o :: t) (M) (S) := by
  intro H locs cells slots larr hy
  have ho := hy.ok
  cases o with
  | none =>
    refine lv_astore_nN hx hb hd rfl (lrel_has hy.2.1) hi rfl (fun ls' hl' => ?_)
    exact k H locs cells slots ls' (hy.ls (lrel_set1 (v := aO none) hy.2.1 hl' (fun _ z => by cases z) hn) (okLs_set hy.2.2.2.2.1 (fun v z => by cases z; exact ho.1)) ho.2)
  | some a =>
    refine lv_astore_n hx hb hd rfl (lrel_has hy.2.1) hi rfl (fun ls' hl' => ?_)
    exact k H locs cells slots ls' (hy.ls (lrel_set1 (v := aO (some a)) hy.2.1 hl' (fun _ z => by cases z) hn) (okLs_set hy.2.2.2.2.1 (fun v z => by cases z; exact ho.1)) ho.2)
theorem so_lstore {p : Program} {l : Launch} {e : Env} {R : Room} {s : State} {mi : MethodId} {args : Array Value} {below : List Frame} {meth : Method} {c : Code} {Q : State → Prop} {E : am_E} {N0 U0 nL : Nat} {lg : List Nat} {cc : ByteArray} {pc : Nat} {ls : Lsl} {M : Mem} {S : Sh} {t : List AV} {i : Nat} {x : Int} (hx : p.tables.exec = Jvm.exec) (hb : c.code = cc) (hd : decode cc pc = .ok (.lstore i, 2)) (hi : (i : Nat) + 1 < nL) (hg : (i : Nat) ∈ lg) (hn : ∀ j ∈ lg, j + 1 ≠ (i : Nat)) (k : GW p l e R s mi args below meth c Q E N0 U0 nL lg (pc + 2) ((ls.set (i + 1) none).set i (some (aL x))) (t) (M) (S)) : GW p l e R s mi args below meth c Q E N0 U0 nL lg (pc) (ls) (aL x :: t) (M) (S) := by
  intro H locs cells slots larr hy
  have ho := hy.ok
  refine lv_lstore hx hb hd (lrel_has hy.2.1) hi rfl (fun ls' hl' => ?_)
  exact k H locs cells slots ls' (hy.ls (lrel_set2 hy.2.1 hl' hg hn) (okLs_set (okLs_set hy.2.2.2.2.1 (fun v z => by cases z)) (fun v z => by cases z; exact ho.1)) ho.2)
theorem so_lstore_n {p : Program} {l : Launch} {e : Env} {R : Room} {s : State} {mi : MethodId} {args : Array Value} {below : List Frame} {meth : Method} {c : Code} {Q : State → Prop} {E : am_E} {N0 U0 nL : Nat} {lg : List Nat} {cc : ByteArray} {pc : Nat} {ls : Lsl} {M : Mem} {S : Sh} {t : List AV} {i : Fin 4} {x : Int} (hx : p.tables.exec = Jvm.exec) (hb : c.code = cc) (hd : decode cc pc = .ok (.lstore_n i, 1)) (hi : (i : Nat) + 1 < nL) (hg : (i : Nat) ∈ lg) (hn : ∀ j ∈ lg, j + 1 ≠ (i : Nat)) (k : GW p l e R s mi args below meth c Q E N0 U0 nL lg (pc + 1) ((ls.set (i + 1) none).set i (some (aL x))) (t) (M) (S)) : GW p l e R s mi args below meth c Q E N0 U0 nL lg (pc) (ls) (aL x :: t) (M) (S) := by
  intro H locs cells slots larr hy
  have ho := hy.ok
  refine lv_lstore_n hx hb hd rfl (lrel_has hy.2.1) hi rfl (fun ls' hl' => ?_)
  exact k H locs cells slots ls' (hy.ls (lrel_set2 hy.2.1 hl' hg hn) (okLs_set (okLs_set hy.2.2.2.2.1 (fun v z => by cases z)) (fun v z => by cases z; exact ho.1)) ho.2)
theorem so_iinc {p : Program} {l : Launch} {e : Env} {R : Room} {s : State} {mi : MethodId} {args : Array Value} {below : List Frame} {meth : Method} {c : Code} {Q : State → Prop} {E : am_E} {N0 U0 nL : Nat} {lg : List Nat} {cc : ByteArray} {pc : Nat} {ls : Lsl} {M : Mem} {S : Sh} {t : List AV} {i : Nat} {n x : Int} (hx : p.tables.exec = Jvm.exec) (hb : c.code = cc) (hd : decode cc pc = .ok (.iinc i n, 3)) (hl : ls[i]? = some (some (aI x))) (hn : ∀ j ∈ lg, j + 1 ≠ i) (k : GW p l e R s mi args below meth c Q E N0 U0 nL lg (pc + 3) (ls.set i (some (aI (w32 (x + n))))) (t) (M) (S)) : GW p l e R s mi args below meth c Q E N0 U0 nL lg (pc) (ls) (t) (M) (S) := by
  intro H locs cells slots larr hy
  have ho := hy.ok
  have h3 := hy.2.1
  obtain ⟨kk, hk⟩ := List.getElem?_of_mem (mem_prs (E := E) hl)
  refine lv_iinc hx hb hd (lrel_has h3) hk (v := Int32.ofInt (w32 (x + n))) (by rw [oI_w, Int32.ofInt_add]) (by rw [← h3.2.2.2.1]; exact (List.getElem?_eq_some_iff.mp hl).1) rfl (fun ls' hl' => ?_)
  exact k H locs cells slots ls' (hy.ls (lrel_set1 (v := aI (w32 (x + n))) h3 hl' (fun _ z => by cases z) hn) (okLs_set hy.2.2.2.2.1 (fun v z => by cases z; exact w32_r _)) ho)
theorem so_goto {p : Program} {l : Launch} {e : Env} {R : Room} {s : State} {mi : MethodId} {args : Array Value} {below : List Frame} {meth : Method} {c : Code} {Q : State → Prop} {E : am_E} {N0 U0 nL : Nat} {lg : List Nat} {cc : ByteArray} {pc : Nat} {ls : Lsl} {M : Mem} {S : Sh} {t : List AV} {off : Int} (hx : p.tables.exec = Jvm.exec) (hb : c.code = cc) (hd : decode cc pc = .ok (.goto off, 3)) (h0 : 0 ≤ (pc : Int) + off) (k : GW p l e R s mi args below meth c Q E N0 U0 nL lg (tgt pc off) (ls) (t) (M) (S)) : GW p l e R s mi args below meth c Q E N0 U0 nL lg (pc) (ls) (t) (M) (S) := by
  intro H locs cells slots larr hy
  refine lv_goto (tgt := tgt pc off) hx hb hd (by unfold tgt; omega) ?_
  exact k H locs cells slots larr hy
theorem so_if {p : Program} {l : Launch} {e : Env} {R : Room} {s : State} {mi : MethodId} {args : Array Value} {below : List Frame} {meth : Method} {c : Code} {Q : State → Prop} {E : am_E} {N0 U0 nL : Nat} {lg : List Nat} {cc : ByteArray} {pc : Nat} {ls : Lsl} {M : Mem} {S : Sh} {t : List AV} {cd : ClassFile.Cond} {off x : Int} (hx : p.tables.exec = Jvm.exec) (hb : c.code = cc) (hd : decode cc pc = .ok (.ifCond cd off, 3)) (h0 : 0 ≤ (pc : Int) + off) (k1 : cnd cd x 0 = true → GW p l e R s mi args below meth c Q E N0 U0 nL lg (tgt pc off) (ls) (t) (M) (S)) (k2 : ¬ cnd cd x 0 = true → GW p l e R s mi args below meth c Q E N0 U0 nL lg (pc + 3) (ls) (t) (M) (S)) : GW p l e R s mi args below meth c Q E N0 U0 nL lg (pc) (ls) (aI x :: t) (M) (S) := by
  intro H locs cells slots larr hy
  have ho := hy.ok
  cases cd with
  | eq =>
    refine lv_if_eq (tgt := tgt pc off) hx hb hd (by unfold tgt; omega) (fun z => ?_) (fun z => ?_)
    · simp only [oI_0, oI_eq ho.1 r32_0] at z
      exact k1 (decide_eq_true z) H locs cells slots larr (hy.st ho.2)
    · simp only [oI_0, oI_eq ho.1 r32_0] at z
      exact k2 (fun w => z (of_decide_eq_true w)) H locs cells slots larr (hy.st ho.2)
  | ne =>
    refine lv_if_ne (tgt := tgt pc off) hx hb hd (by unfold tgt; omega) (fun z => ?_) (fun z => ?_)
    · simp only [oI_0, ne_eq, oI_eq ho.1 r32_0] at z
      exact k1 (decide_eq_true z) H locs cells slots larr (hy.st ho.2)
    · simp only [oI_0, ne_eq, oI_eq ho.1 r32_0] at z
      exact k2 (fun w => (of_decide_eq_true w) z) H locs cells slots larr (hy.st ho.2)
  | lt =>
    refine lv_if_lt (tgt := tgt pc off) hx hb hd (by unfold tgt; omega) (fun z => ?_) (fun z => ?_)
    · simp only [oI_0, oI_lt ho.1 r32_0] at z
      exact k1 (decide_eq_true z) H locs cells slots larr (hy.st ho.2)
    · simp only [oI_0, oI_lt ho.1 r32_0] at z
      exact k2 (fun w => z (of_decide_eq_true w)) H locs cells slots larr (hy.st ho.2)
  | ge =>
    refine lv_if_ge (tgt := tgt pc off) hx hb hd (by unfold tgt; omega) (fun z => ?_) (fun z => ?_)
    · simp only [oI_0, oI_le r32_0 ho.1] at z
      exact k1 (decide_eq_true z) H locs cells slots larr (hy.st ho.2)
    · simp only [oI_0, oI_le r32_0 ho.1] at z
      exact k2 (fun w => z (of_decide_eq_true w)) H locs cells slots larr (hy.st ho.2)
  | gt =>
    refine lv_if_gt (tgt := tgt pc off) hx hb hd (by unfold tgt; omega) (fun z => ?_) (fun z => ?_)
    · simp only [oI_0, oI_lt r32_0 ho.1] at z
      exact k1 (decide_eq_true z) H locs cells slots larr (hy.st ho.2)
    · simp only [oI_0, oI_lt r32_0 ho.1] at z
      exact k2 (fun w => z (of_decide_eq_true w)) H locs cells slots larr (hy.st ho.2)
  | le =>
    refine lv_if_le (tgt := tgt pc off) hx hb hd (by unfold tgt; omega) (fun z => ?_) (fun z => ?_)
    · simp only [oI_0, oI_le ho.1 r32_0] at z
      exact k1 (decide_eq_true z) H locs cells slots larr (hy.st ho.2)
    · simp only [oI_0, oI_le ho.1 r32_0] at z
      exact k2 (fun w => z (of_decide_eq_true w)) H locs cells slots larr (hy.st ho.2)
theorem so_icmp {p : Program} {l : Launch} {e : Env} {R : Room} {s : State} {mi : MethodId} {args : Array Value} {below : List Frame} {meth : Method} {c : Code} {Q : State → Prop} {E : am_E} {N0 U0 nL : Nat} {lg : List Nat} {cc : ByteArray} {pc : Nat} {ls : Lsl} {M : Mem} {S : Sh} {t : List AV} {cd : ClassFile.Cond} {off x y : Int} (hx : p.tables.exec = Jvm.exec) (hb : c.code = cc) (hd : decode cc pc = .ok (.if_icmp cd off, 3)) (h0 : 0 ≤ (pc : Int) + off) (k1 : cnd cd x y = true → GW p l e R s mi args below meth c Q E N0 U0 nL lg (tgt pc off) (ls) (t) (M) (S)) (k2 : ¬ cnd cd x y = true → GW p l e R s mi args below meth c Q E N0 U0 nL lg (pc + 3) (ls) (t) (M) (S)) : GW p l e R s mi args below meth c Q E N0 U0 nL lg (pc) (ls) (aI y :: aI x :: t) (M) (S) := by
  intro H locs cells slots larr hy
  have ho := hy.ok
  cases cd with
  | eq =>
    refine lv_icmp_eq (tgt := tgt pc off) hx hb hd (by unfold tgt; omega) (fun z => ?_) (fun z => ?_)
    · simp only [oI_eq ho.2.1 ho.1] at z
      exact k1 (decide_eq_true z) H locs cells slots larr (hy.st ho.2.2)
    · simp only [oI_eq ho.2.1 ho.1] at z
      exact k2 (fun w => z (of_decide_eq_true w)) H locs cells slots larr (hy.st ho.2.2)
  | ne =>
    refine lv_icmp_ne (tgt := tgt pc off) hx hb hd (by unfold tgt; omega) (fun z => ?_) (fun z => ?_)
    · simp only [ne_eq, oI_eq ho.2.1 ho.1] at z
      exact k1 (decide_eq_true z) H locs cells slots larr (hy.st ho.2.2)
    · simp only [ne_eq, oI_eq ho.2.1 ho.1] at z
      exact k2 (fun w => (of_decide_eq_true w) z) H locs cells slots larr (hy.st ho.2.2)
  | lt =>
    refine lv_icmp_lt (tgt := tgt pc off) hx hb hd (by unfold tgt; omega) (fun z => ?_) (fun z => ?_)
    · simp only [oI_lt ho.2.1 ho.1] at z
      exact k1 (decide_eq_true z) H locs cells slots larr (hy.st ho.2.2)
    · simp only [oI_lt ho.2.1 ho.1] at z
      exact k2 (fun w => z (of_decide_eq_true w)) H locs cells slots larr (hy.st ho.2.2)
  | ge =>
    refine lv_icmp_ge (tgt := tgt pc off) hx hb hd (by unfold tgt; omega) (fun z => ?_) (fun z => ?_)
    · simp only [oI_le ho.1 ho.2.1] at z
      exact k1 (decide_eq_true z) H locs cells slots larr (hy.st ho.2.2)
    · simp only [oI_le ho.1 ho.2.1] at z
      exact k2 (fun w => z (of_decide_eq_true w)) H locs cells slots larr (hy.st ho.2.2)
  | gt =>
    refine lv_icmp_gt (tgt := tgt pc off) hx hb hd (by unfold tgt; omega) (fun z => ?_) (fun z => ?_)
    · simp only [oI_lt ho.1 ho.2.1] at z
      exact k1 (decide_eq_true z) H locs cells slots larr (hy.st ho.2.2)
    · simp only [oI_lt ho.1 ho.2.1] at z
      exact k2 (fun w => z (of_decide_eq_true w)) H locs cells slots larr (hy.st ho.2.2)
  | le =>
    refine lv_icmp_le (tgt := tgt pc off) hx hb hd (by unfold tgt; omega) (fun z => ?_) (fun z => ?_)
    · simp only [oI_le ho.2.1 ho.1] at z
      exact k1 (decide_eq_true z) H locs cells slots larr (hy.st ho.2.2)
    · simp only [oI_le ho.2.1 ho.1] at z
      exact k2 (fun w => z (of_decide_eq_true w)) H locs cells slots larr (hy.st ho.2.2)
theorem so_ifnull {p : Program} {l : Launch} {e : Env} {R : Room} {s : State} {mi : MethodId} {args : Array Value} {below : List Frame} {meth : Method} {c : Code} {Q : State → Prop} {E : am_E} {N0 U0 nL : Nat} {lg : List Nat} {cc : ByteArray} {pc : Nat} {ls : Lsl} {M : Mem} {S : Sh} {t : List AV} {off : Int} {o : Option Nat} (hx : p.tables.exec = Jvm.exec) (hb : c.code = cc) (hd : decode cc pc = .ok (.ifnull off, 3)) (h0 : 0 ≤ (pc : Int) + off) (k1 : o.isNone = true → GW p l e R s mi args below meth c Q E N0 U0 nL lg (tgt pc off) (ls) (t) (M) (S)) (k2 : ¬ o.isNone = true → GW p l e R s mi args below meth c Q E N0 U0 nL lg (pc + 3) (ls) (t) (M) (S)) : GW p l e R s mi args below meth c Q E N0 U0 nL lg (pc) (ls) (aO o :: t) (M) (S) := by
  intro H locs cells slots larr hy
  have ho := hy.ok
  cases o with
  | none =>
    refine lv_ifnullN (tgt := tgt pc off) hx hb hd (by unfold tgt; omega) ?_
    exact k1 rfl H locs cells slots larr (hy.st ho.2)
  | some a =>
    refine lv_ifnull hx hb hd ?_
    exact k2 (fun z => by cases z) H locs cells slots larr (hy.st ho.2)
theorem so_ifnonnull {p : Program} {l : Launch} {e : Env} {R : Room} {s : State} {mi : MethodId} {args : Array Value} {below : List Frame} {meth : Method} {c : Code} {Q : State → Prop} {E : am_E} {N0 U0 nL : Nat} {lg : List Nat} {cc : ByteArray} {pc : Nat} {ls : Lsl} {M : Mem} {S : Sh} {t : List AV} {off : Int} {o : Option Nat} (hx : p.tables.exec = Jvm.exec) (hb : c.code = cc) (hd : decode cc pc = .ok (.ifnonnull off, 3)) (h0 : 0 ≤ (pc : Int) + off) (k1 : o.isSome = true → GW p l e R s mi args below meth c Q E N0 U0 nL lg (tgt pc off) (ls) (t) (M) (S)) (k2 : ¬ o.isSome = true → GW p l e R s mi args below meth c Q E N0 U0 nL lg (pc + 3) (ls) (t) (M) (S)) : GW p l e R s mi args below meth c Q E N0 U0 nL lg (pc) (ls) (aO o :: t) (M) (S) := by
  intro H locs cells slots larr hy
  have ho := hy.ok
  cases o with
  | none =>
    refine lv_ifnonnullN hx hb hd ?_
    exact k2 (fun z => by cases z) H locs cells slots larr (hy.st ho.2)
  | some a =>
    refine lv_ifnonnull (tgt := tgt pc off) hx hb hd (by unfold tgt; omega) ?_
    exact k1 rfl H locs cells slots larr (hy.st ho.2)
theorem so_tabOut {p : Program} {l : Launch} {e : Env} {R : Room} {s : State} {mi : MethodId} {args : Array Value} {below : List Frame} {meth : Method} {c : Code} {Q : State → Prop} {E : am_E} {N0 U0 nL : Nat} {lg : List Nat} {cc : ByteArray} {pc : Nat} {ls : Lsl} {M : Mem} {S : Sh} {t : List AV} {d lo hi x : Int} {offs : Array Int} {len : Nat} (hx : p.tables.exec = Jvm.exec) (hb : c.code = cc) (hd : decode cc pc = .ok (.tableswitch d lo hi offs, len)) (h0 : 0 ≤ (pc : Int) + d) (h : x < lo ∨ hi < x) (k : GW p l e R s mi args below meth c Q E N0 U0 nL lg (tgt pc d) (ls) (t) (M) (S)) : GW p l e R s mi args below meth c Q E N0 U0 nL lg (pc) (ls) (aI x :: t) (M) (S) := by
  intro H locs cells slots larr hy
  have ho := hy.ok
  refine lv_tableOut (tgt := tgt pc d) hx hb hd (by rw [tIr ho.1]; exact h) (by unfold tgt; omega) ?_
  exact k H locs cells slots larr (hy.st ho.2)
theorem so_tabIn {p : Program} {l : Launch} {e : Env} {R : Room} {s : State} {mi : MethodId} {args : Array Value} {below : List Frame} {meth : Method} {c : Code} {Q : State → Prop} {E : am_E} {N0 U0 nL : Nat} {lg : List Nat} {cc : ByteArray} {pc : Nat} {ls : Lsl} {M : Mem} {S : Sh} {t : List AV} {d lo hi x off : Int} {offs : Array Int} {len : Nat} (hx : p.tables.exec = Jvm.exec) (hb : c.code = cc) (hd : decode cc pc = .ok (.tableswitch d lo hi offs, len)) (h0 : 0 ≤ (pc : Int) + off) (h : ¬ (x < lo ∨ hi < x)) (h2 : offs[(x - lo).toNat]? = some off) (k : GW p l e R s mi args below meth c Q E N0 U0 nL lg (tgt pc off) (ls) (t) (M) (S)) : GW p l e R s mi args below meth c Q E N0 U0 nL lg (pc) (ls) (aI x :: t) (M) (S) := by
  intro H locs cells slots larr hy
  have ho := hy.ok
  refine lv_tableIn (tgt := tgt pc off) hx hb hd (by rw [tIr ho.1]; exact fun z => h (Or.inl z)) (by rw [tIr ho.1]; exact fun z => h (Or.inr z)) (by rw [tIr ho.1]; exact h2) (by unfold tgt; omega) ?_
  exact k H locs cells slots larr (hy.st ho.2)
theorem so_look {p : Program} {l : Launch} {e : Env} {R : Room} {s : State} {mi : MethodId} {args : Array Value} {below : List Frame} {meth : Method} {c : Code} {Q : State → Prop} {E : am_E} {N0 U0 nL : Nat} {lg : List Nat} {cc : ByteArray} {pc : Nat} {ls : Lsl} {M : Mem} {S : Sh} {t : List AV} {d x : Int} {ps : Array (Int × Int)} {len : Nat} (hx : p.tables.exec = Jvm.exec) (hb : c.code = cc) (hd : decode cc pc = .ok (.lookupswitch d ps, len)) (hp : (ps.toList.zip (ps.toList.drop 1)).all (fun (a, next) => a.1 < next.1) = true) (h0 : 0 ≤ (pc : Int) + Op.lookupswitch.offset ps.toList d x) (k : GW p l e R s mi args below meth c Q E N0 U0 nL lg (tgt pc (Op.lookupswitch.offset ps.toList d x)) (ls) (t) (M) (S)) : GW p l e R s mi args below meth c Q E N0 U0 nL lg (pc) (ls) (aI x :: t) (M) (S) := by
  intro H locs cells slots larr hy
  have ho := hy.ok
  refine lv_lookup (tgt := tgt pc (Op.lookupswitch.offset ps.toList d x)) hx hb hd hp (by rw [tIr ho.1]) (by unfold tgt; omega) ?_
  exact k H locs cells slots larr (hy.st ho.2)
