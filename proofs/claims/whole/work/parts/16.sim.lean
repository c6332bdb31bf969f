theorem rec_ok {r : MR} (h1 : ∀ q ∈ r.1, decode r.2.2.1 q.1 = .ok (q.2.1, q.2.2.1)) (h2 : okR r = true) {pc : Nat} {f : AI} (h : am_lk r.1 pc = some f) : decode r.2.2.1 pc = .ok (f.1, f.2.1) ∧ okE r.2.1.cls r.2.1.name r.2.2.2.1 r.2.2.2.2.2.2.2.2 r.2.2.2.2.1 (pc, f) = true := by
  have e0 := am_lk_mem h
  have e1 := h1 (pc, f) e0
  have e2 := okR_i h2 e0
  exact ⟨e1, e2⟩
theorem fetch_ok {m pc : Nat} {f : AI} (h : fetch m pc = some f) : decode (am_at m).2.2.1 pc = .ok (f.1, f.2.1) ∧ okE (am_at m).2.1.cls (am_at m).2.1.name (am_at m).2.2.2.1 (am_at m).2.2.2.2.2.2.2.2 (am_at m).2.2.2.2.1 (pc, f) = true := by
  unfold fetch at h
  exact rec_ok (am_at_any m).1 (am_at_any m).2 h
def mL (m : Nat) : Nat := (am_at m).2.2.2.1
def mG (m : Nat) : List Nat := (am_at m).2.2.2.2.2.2.2.2
/-- a frame of method m at rank r -/
def Cx (m r : Nat) (p : Program) (R : Room) (s : State) (mi : MethodId) (args : Array Value) (meth : Method) (c : Code) (E : am_E) : Prop := p.tables.exec = Jvm.exec ∧ c.code = (am_at m).2.2.1 ∧ s.vm.findClass (am_at m).2.1.cls = some mi.cls ∧ (∀ w ∈ wsL_law, w.before args s = true) ∧ am_SW E s s.heap ∧ meth.name = (am_at m).2.1.name ∧ c.maxLocals = mL m ∧ r ≤ R.frames ∧ 60 * r ≤ R.locals ∧ 10 ≤ r
/-- all ends of method m that answer v with M', S' are good -/
def RetOK (p : Program) (l : Launch) (e : Env) (R : Room) (s : State) (mi : MethodId) (args : Array Value) (below : List Frame) (meth : Method) (c : Code) (Q : State → Prop) (E : am_E) (N0 U0 m : Nat) (v : Option AV) (M' : Mem) (S' : Sh) : Prop := ∀ (f : AI) (pc : Nat) (ls : Lsl) (st : List AV), fetch m pc = some f → am_step f pc ls st M' S' = some (Sum.inr (Sum.inl v)) → GW p l e R s mi args below meth c Q E N0 U0 (mL m) (mG m) pc ls st M' S'
def Good (m r : Nat) (pc : Nat) (ls : Lsl) (st : List AV) (M : Mem) (S : Sh) (v : Option AV) (M' : Mem) (S' : Sh) : Prop := ∀ {p : Program} {l : Launch} {e : Env} {R : Room} {s : State} {mi : MethodId} {args : Array Value} {below : List Frame} {meth : Method} {c : Code} {Q : State → Prop} {E : am_E} {N0 U0 : Nat}, Cx m r p R s mi args meth c E → S'.2.2.2.1 ≤ N0 + R.cells → S'.2.2.2.2 ≤ U0 + R.slots → RetOK p l e R s mi args below meth c Q E N0 U0 m v M' S' → GW p l e R s mi args below meth c Q E N0 U0 (mL m) (mG m) pc ls st M S
theorem lg_lay (E : am_E) : ∀ as : List AV, (lg_sl (as.map (am_tr E))).length = (am_lay as).length
  | [] => rfl
  | v :: l => by
    have ih := lg_lay E l
    rw [List.map_cons]
    unfold lg_sl at ih ⊢
    rw [List.flatMap_cons, List.length_append, ih]
    rcases v with i | x | o
    · show 1 + _ = _ + 1
      omega
    · show 2 + _ = _ + 1 + 1
      omega
    · cases o
      · show 1 + _ = _ + 1
        omega
      · show 1 + _ = _ + 1
        omega
theorem lay_args (E : am_E) : ∀ (as : List AV) (k i : Nat) (w : AV), (am_lay as)[i]? = some (some w) → (k + i, am_tr E w) ∈ lv_args k (as.map (am_tr E))
  | [], _, _, _, h => by cases h
  | v :: l, k, i, w, h => by
    rw [List.map_cons]
    rcases v with x | x | o
    · have h : (some (aI x) :: am_lay l)[i]? = some (some w) := h
      cases i with
      | zero => cases h; exact List.mem_cons_self
      | succ i =>
        rw [List.getElem?_cons_succ] at h
        have := lay_args E l (k + 1) i w h
        rw [show k + 1 + i = k + (i + 1) by omega] at this
        exact List.mem_cons_of_mem _ this
    · have h : (some (aL x) :: none :: am_lay l)[i]? = some (some w) := h
      cases i with
      | zero => cases h; exact List.mem_cons_self
      | succ i =>
        rw [List.getElem?_cons_succ] at h
        cases i with
        | zero => cases h
        | succ i =>
          rw [List.getElem?_cons_succ] at h
          have := lay_args E l (k + 2) i w h
          rw [show k + 2 + i = k + (i + 1 + 1) by omega] at this
          exact List.mem_cons_of_mem _ this
    · have h : (some (aO o) :: am_lay l)[i]? = some (some w) := h
      have e : (lv_args k (am_tr E (Sum.inr (Sum.inr o)) :: l.map (am_tr E))) = (k, am_tr E (aO o)) :: lv_args (k + 1) (l.map (am_tr E)) := by cases o <;> rfl
      rw [e]
      cases i with
      | zero => cases h; exact List.mem_cons_self
      | succ i =>
        rw [List.getElem?_cons_succ] at h
        have := lay_args E l (k + 1) i w h
        rw [show k + 1 + i = k + (i + 1) by omega] at this
        exact List.mem_cons_of_mem _ this
theorem lgk_ok : ∀ (l : Lsl) (k i : Nat) (x : Int) (lg : List Nat), am_lgk l k lg = true → l[i]? = some (some (aL x)) → k + i ∈ lg
  | [], _, _, _, _, _, h => by cases h
  | v :: l, k, i, x, lg, h, hi => by
    cases i with
    | zero =>
      cases hi
      have h : (lg.contains k && am_lgk l (k + 1) lg) = true := h
      exact List.contains_iff_mem.mp (Bool.and_eq_true_iff.mp h).1
    | succ i =>
      rw [List.getElem?_cons_succ] at hi
      have h2 : am_lgk l (k + 1) lg = true := by
        rcases v with _ | y | y | y
        · exact h
        · exact h
        · have h : (lg.contains k && am_lgk l (k + 1) lg) = true := h
          exact (Bool.and_eq_true_iff.mp h).2
        · exact h
      have := lgk_ok l (k + 1) i x lg h2 hi
      rw [show k + (i + 1) = k + 1 + i by omega]
      exact this
theorem lay_ok : ∀ (as : List AV), okSt as → ∀ (i : Nat) (w : AV), (am_lay as)[i]? = some (some w) → okV w
  | [], _, _, _, h => by cases h
  | v :: l, ho, i, w, h => by
    rcases v with x | x | o
    · have h : (some (aI x) :: am_lay l)[i]? = some (some w) := h
      cases i with
      | zero => cases h; exact ho.1
      | succ i => rw [List.getElem?_cons_succ] at h; exact lay_ok l ho.2 i w h
    · have h : (some (aL x) :: none :: am_lay l)[i]? = some (some w) := h
      cases i with
      | zero => cases h; exact ho.1
      | succ i =>
        rw [List.getElem?_cons_succ] at h
        cases i with
        | zero => cases h
        | succ i => rw [List.getElem?_cons_succ] at h; exact lay_ok l ho.2 i w h
    · have h : (some (aO o) :: am_lay l)[i]? = some (some w) := h
      cases i with
      | zero => cases h; trivial
      | succ i => rw [List.getElem?_cons_succ] at h; exact lay_ok l ho.2 i w h
theorem ini_get {m : Nat} {as : List AV} {i : Nat} {w : AV} (h : (ini m as)[i]? = some (some w)) : (am_lay as)[i]? = some (some w) := by
  unfold ini at h
  rw [List.getElem?_append] at h
  split at h
  · exact h
  · rw [List.getElem?_replicate] at h
    split at h <;> cases h
theorem fits_i {m : Nat} {as : List AV} (h : am_fits m as = true) : (am_lay as).length ≤ am_maxL m ∧ am_lgk (am_lay as) 0 (mG m) = true := by
  unfold am_fits at h
  have := Bool.and_eq_true_iff.mp h
  exact ⟨Nat.le_of_ble_eq_true this.1, this.2⟩
theorem lrel_ini (E : am_E) {m : Nat} {as : List AV} (h : am_fits m as = true) : lrel E (mL m) (mG m) (ini m as) ((lg_sl (as.map (am_tr E)) ++ List.replicate (mL m - (lg_sl (as.map (am_tr E))).length) Slot.unset).toArray) := by
  obtain ⟨h1, h2⟩ := fits_i h
  have hl := lv_entry (as.map (am_tr E)) (n := mL m) (by rw [lg_lay]; exact h1)
  refine ⟨hl.1, hl.2.1, fun i v hi => ?_, ?_, fun i x hi => ?_⟩
  · have := lay_args E as 0 i v (ini_get hi)
    rw [Nat.zero_add] at this
    exact hl.2.2 _ this
  · unfold ini
    rw [List.length_append, List.length_replicate]
    have h1 : (am_lay as).length ≤ mL m := h1
    show (am_lay as).length + (mL m - (am_lay as).length) = mL m
    omega
  · have := lgk_ok _ 0 i x _ h2 (ini_get hi)
    rw [Nat.zero_add] at this
    exact this
/-- what holds as a method of ours begins, and what it leaves -/
def am_Pc (E : am_E) (as : List AV) (M : Mem) (S : Sh) : Array Value → State → Prop := va_Pc (as.map (am_tr E)) (fun U => am_SW E U U.heap ∧ HR E M S U.heap)
def am_Qc (E : am_E) (v : Option AV) (M' : Mem) (S' : Sh) : Array Value → State → Outcome → State → Prop := fun _ st oc t => oc = .returned (v.map (am_tr E)) ∧ HR E M' S' t.heap ∧ va_F (am_A E) st t ∧ okM M' ∧ (∀ w, v = some w → okV w)
theorem am_blind (E : am_E) (as : List AV) (M : Mem) (S : Sh) : FrameBlind (am_Pc E as M S) := by
  intro a U g mk h
  obtain ⟨h1, h2, h3⟩ := h
  exact ⟨h1, am_SW.same (u := U) h2 rfl rfl, h3⟩
theorem am_pre {E : am_E} {s : State} {H : Heap} {locs : List Loc} {M : Mem} {S : Sh} (hSW : am_SW E s s.heap) (hS : va_S (am_A E) s.heap H locs) (hR : HR E M S H) (as : List AV) : ∀ U : State, U.heap = H → s.WarmedH U.vm → am_Pc E as M S (as.map (am_tr E)).toArray U := fun U hU hW => ⟨rfl, hSW.go hS hU hW, by rw [hU]; exact hR⟩
theorem okMR_i {m : Nat} (h : m < 179) : plainName (am_at m).2.1.cls = true ∧ ((am_at m).2.1.cls ≠ "java/lang/invoke/MethodHandle" ∧ (am_at m).2.1.cls ≠ "java/lang/invoke/VarHandle" ∧ (parseMethodDescriptor (am_at m).2.1.desc).map (fun d => d.parameters.length) = some ((am_at m).2.2.2.2.2.2.1 - (1 - (am_at m).2.2.2.2.2.2.2.1))) ∧ (am_at m).2.2.2.1 ≤ 40 ∧ Jvm.Cond.initialized (am_at m).2.1.cls ∈ wsL_law ∧ Jvm.Cond.code (am_at m).2.1 (am_at m).2.2.1 (am_at m).2.2.2.1 (am_at m).2.2.2.2.1 ∈ wsL_law ∧ (((am_at m).2.2.2.2.2.2.2.1 = 1 ∧ Jvm.Cond.static (am_at m).2.1 ∈ wsL_law) ∨ ((am_at m).2.2.2.2.2.2.2.1 ≠ 1 ∧ 1 ≤ (am_at m).2.2.2.2.2.2.1 ∧ (am_at m).2.2.2.2.2.1 < 7 ∧ (am_T (am_at m).2.2.2.2.2.1).1 = (am_at m).2.1.cls ∧ Jvm.Cond.instanceMethod (am_at m).2.1 ∈ wsL_law ∧ ((am_at m).2.1.name = "<init>" ∨ Jvm.Cond.selects (am_at m).2.1.cls (am_at m).2.1 (am_at m).2.1 ∈ wsL_law))) := by
  obtain ⟨-, -, hp, hc⟩ := am_faL _ (am_at_lt h)
  unfold okMR at hp
  obtain ⟨hp, h7⟩ := Bool.and_eq_true_iff.mp hp
  obtain ⟨hp, h6⟩ := Bool.and_eq_true_iff.mp hp
  obtain ⟨hp, h5⟩ := Bool.and_eq_true_iff.mp hp
  obtain ⟨hp, h4⟩ := Bool.and_eq_true_iff.mp hp
  obtain ⟨hp, h3⟩ := Bool.and_eq_true_iff.mp hp
  obtain ⟨h1, h2⟩ := Bool.and_eq_true_iff.mp hp
  refine ⟨h1, ⟨of_decide_eq_true h2, of_decide_eq_true h3, of_decide_eq_true h6⟩, of_decide_eq_true h4, List.contains_iff_mem.mp h5, hc, ?_⟩
  split at h7
  · rename_i hs
    exact Or.inl ⟨hs, List.contains_iff_mem.mp h7⟩
  · rename_i hs
    obtain ⟨h7, g5⟩ := Bool.and_eq_true_iff.mp h7
    obtain ⟨h7, g4⟩ := Bool.and_eq_true_iff.mp h7
    obtain ⟨h7, g3⟩ := Bool.and_eq_true_iff.mp h7
    obtain ⟨g1, g2⟩ := Bool.and_eq_true_iff.mp h7
    refine Or.inr ⟨hs, of_decide_eq_true g1, of_decide_eq_true g2, of_decide_eq_true g3, List.contains_iff_mem.mp g4, ?_⟩
    rcases Bool.or_eq_true_iff.mp g5 with g | g
    · exact Or.inl (eq_of_beq g)
    · exact Or.inr (List.contains_iff_mem.mp g)
theorem nx_no {a : Nat} {b : Lsl} {d : List AV} {M : Mem} {S : Sh} {x : Option AV ⊕ (Nat × List AV × Nat × List AV × Nat)} (h : nx a b d M S = some (Sum.inr x)) : False := by cases h
theorem brn_no {c : Prop} [Decidable c] {pc : Nat} {off : Int} {b : Lsl} {d : List AV} {M : Mem} {S : Sh} {x : Option AV ⊕ (Nat × List AV × Nat × List AV × Nat)} (h : brn c pc off b d M S = some (Sum.inr x)) : False := by
  unfold brn at h
  split at h <;> exact nx_no h
theorem ld_no {ls : Lsl} {i pc : Nat} {st : List AV} {M : Mem} {S : Sh} {x : Option AV ⊕ (Nat × List AV × Nat × List AV × Nat)} (h : ldI ls i pc st M S = some (Sum.inr x) ∨ ldL ls i pc st M S = some (Sum.inr x) ∨ ldO ls i pc st M S = some (Sum.inr x)) : False := by
  rcases h with h | h | h
  all_goals (obtain ⟨v, hv, h⟩ := glv_inv h; rcases v with x | x | x <;> first | exact nx_no h | cases h)
theorem call_no {m n hr pc : Nat} {st : List AV} {v : Option AV} (h : am_call m n hr pc st = some (Sum.inr (Sum.inl v))) : False := by
  unfold am_call at h
  split at h <;> cases h
theorem rcv_no2 {m n a b : Nat} {st : List AV} {S : Sh} {hr pc : Nat} {v : Option AV} (h : rcv m n st S (am_call a b hr pc st) = some (Sum.inr (Sum.inl v))) : False := by
  unfold rcv at h
  split at h
  · exact call_no (bnd_inv h).2
  · cases h
theorem step_ret {f : AI} {pc : Nat} {ls : Lsl} {st : List AV} {M : Mem} {S : Sh} {v : Option AV} (h : am_step f pc ls st M S = some (Sum.inr (Sum.inl v))) : f.1 = .ireturn ∨ f.1 = .lreturn ∨ f.1 = .areturn ∨ f.1 = .return_ := by
  unfold am_step at h
  split at h
  · exact (nx_no h).elim
  · exact (nx_no h).elim
  · exact (nx_no h).elim
  · exact (nx_no h).elim
  · exact (nx_no h).elim
  · split at h
    · exact (nx_no h).elim
    · exact (nx_no h).elim
    · cases h
  · split at h
    · exact (nx_no h).elim
    · cases h
  · split at h
    · exact (nx_no h).elim
    · cases h
  · exact (ld_no (Or.inl h)).elim
  · exact (ld_no (Or.inl h)).elim
  · exact (ld_no (Or.inr (Or.inl h))).elim
  · exact (ld_no (Or.inr (Or.inl h))).elim
  · exact (ld_no (Or.inr (Or.inr h))).elim
  · exact (ld_no (Or.inr (Or.inr h))).elim
  · obtain ⟨_, _, -, h⟩ := pI_inv h
    exact (nx_no h).elim
  · obtain ⟨_, _, -, h⟩ := pI_inv h
    exact (nx_no h).elim
  · obtain ⟨_, _, -, h⟩ := pO_inv h
    exact (nx_no h).elim
  · obtain ⟨_, _, -, h⟩ := pO_inv h
    exact (nx_no h).elim
  · obtain ⟨_, _, -, h⟩ := pL_inv h
    exact (nx_no h).elim
  · obtain ⟨_, _, -, h⟩ := pL_inv h
    exact (nx_no h).elim
  · obtain ⟨_, -, h⟩ := glv_inv h
    split at h
    · exact (nx_no h).elim
    · cases h
  · obtain ⟨_, _, -, h⟩ := pI_inv h
    obtain ⟨_, _, -, h⟩ := pI_inv h
    exact (nx_no h).elim
  · obtain ⟨_, _, -, h⟩ := pI_inv h
    obtain ⟨_, _, -, h⟩ := pI_inv h
    exact (nx_no h).elim
  · obtain ⟨_, _, -, h⟩ := pI_inv h
    obtain ⟨_, _, -, h⟩ := pI_inv h
    exact (nx_no h).elim
  · obtain ⟨_, _, -, h⟩ := pI_inv h
    obtain ⟨_, _, -, h⟩ := pI_inv h
    obtain ⟨-, h⟩ := bnd_inv h
    exact (nx_no h).elim
  · obtain ⟨_, _, -, h⟩ := pI_inv h
    obtain ⟨_, _, -, h⟩ := pI_inv h
    obtain ⟨-, h⟩ := bnd_inv h
    exact (nx_no h).elim
  · obtain ⟨_, _, -, h⟩ := pI_inv h
    exact (nx_no h).elim
  · obtain ⟨_, _, -, h⟩ := pI_inv h
    obtain ⟨_, _, -, h⟩ := pI_inv h
    exact (nx_no h).elim
  · obtain ⟨_, _, -, h⟩ := pI_inv h
    obtain ⟨_, _, -, h⟩ := pI_inv h
    exact (nx_no h).elim
  · obtain ⟨_, _, -, h⟩ := pI_inv h
    obtain ⟨_, _, -, h⟩ := pI_inv h
    exact (nx_no h).elim
  · obtain ⟨_, _, -, h⟩ := pI_inv h
    exact (nx_no h).elim
  · obtain ⟨_, _, -, h⟩ := pI_inv h
    exact (nx_no h).elim
  · obtain ⟨_, _, -, h⟩ := pI_inv h
    exact (nx_no h).elim
  · obtain ⟨_, _, -, h⟩ := pL_inv h
    obtain ⟨_, _, -, h⟩ := pL_inv h
    exact (nx_no h).elim
  · obtain ⟨_, _, -, h⟩ := pL_inv h
    obtain ⟨_, _, -, h⟩ := pL_inv h
    exact (nx_no h).elim
  · obtain ⟨_, _, -, h⟩ := pL_inv h
    obtain ⟨_, _, -, h⟩ := pL_inv h
    obtain ⟨-, h⟩ := bnd_inv h
    exact (nx_no h).elim
  · obtain ⟨_, _, -, h⟩ := pL_inv h
    obtain ⟨_, _, -, h⟩ := pL_inv h
    obtain ⟨-, h⟩ := bnd_inv h
    exact (nx_no h).elim
  · obtain ⟨_, _, -, h⟩ := pL_inv h
    obtain ⟨_, _, -, h⟩ := pL_inv h
    exact (nx_no h).elim
  · split at h
    · exact (nx_no h).elim
    · exact (nx_no h).elim
    · cases h
  · obtain ⟨_, _, -, h⟩ := pI_inv h
    obtain ⟨_, _, -, h⟩ := pR_inv h
    exact (nx_no h).elim
  · obtain ⟨_, _, -, h⟩ := pI_inv h
    exact (nx_no h).elim
  · exact (nx_no h).elim
  · obtain ⟨_, _, -, h⟩ := pI_inv h
    exact (brn_no h).elim
  · obtain ⟨_, _, -, h⟩ := pI_inv h
    obtain ⟨_, _, -, h⟩ := pI_inv h
    exact (brn_no h).elim
  · obtain ⟨_, _, -, h⟩ := pO_inv h
    exact (brn_no h).elim
  · obtain ⟨_, _, -, h⟩ := pO_inv h
    exact (brn_no h).elim
  · obtain ⟨_, _, -, h⟩ := pI_inv h
    split at h
    · exact (nx_no h).elim
    · split at h
      · exact (nx_no h).elim
      · cases h
  · obtain ⟨_, _, -, h⟩ := pI_inv h
    exact (nx_no h).elim
  · split at h
    · exact (nx_no h).elim
    · cases h
  · split at h
    · obtain ⟨_, _, -, h⟩ := pR_inv h
      obtain ⟨-, h⟩ := bnd_inv h
      split at h
      · exact (nx_no h).elim
      · exact (nx_no h).elim
    · cases h
  · split at h
    · split at h
      · obtain ⟨_, _, -, h⟩ := pO_inv h
        obtain ⟨_, _, -, h⟩ := pR_inv h
        obtain ⟨-, h⟩ := bnd_inv h
        exact (nx_no h).elim
      · obtain ⟨_, _, -, h⟩ := pI_inv h
        obtain ⟨_, _, -, h⟩ := pR_inv h
        obtain ⟨-, h⟩ := bnd_inv h
        exact (nx_no h).elim
    · cases h
  · obtain ⟨_, _, -, h⟩ := pR_inv h
    obtain ⟨-, h⟩ := bnd_inv h
    exact (nx_no h).elim
  · obtain ⟨_, _, -, h⟩ := pI_inv h
    obtain ⟨_, _, -, h⟩ := pR_inv h
    obtain ⟨-, h⟩ := bnd_inv h
    exact (nx_no h).elim
  · obtain ⟨_, _, -, h⟩ := pI_inv h
    obtain ⟨_, _, -, h⟩ := pI_inv h
    obtain ⟨_, _, -, h⟩ := pR_inv h
    obtain ⟨-, h⟩ := bnd_inv h
    exact (nx_no h).elim
  · obtain ⟨_, _, -, h⟩ := pI_inv h
    obtain ⟨_, _, -, h⟩ := pR_inv h
    obtain ⟨-, h⟩ := bnd_inv h
    exact (nx_no h).elim
  · obtain ⟨_, _, -, h⟩ := pR_inv h
    obtain ⟨_, _, -, h⟩ := pI_inv h
    obtain ⟨_, _, -, h⟩ := pR_inv h
    obtain ⟨-, h⟩ := bnd_inv h
    exact (nx_no h).elim
  · split at h
    · exact (nx_no h).elim
    · cases h
  · obtain ⟨_, _, -, h⟩ := pI_inv h
    obtain ⟨hb, h⟩ := bnd_inv h
    exact (nx_no h).elim
  · split at h
    · obtain ⟨_, _, -, h⟩ := pI_inv h
      obtain ⟨hb, h⟩ := bnd_inv h
      exact (nx_no h).elim
    · cases h
  · split at h
    · exact (call_no h).elim
    · obtain ⟨_, _, -, h⟩ := pI_inv h
      obtain ⟨_, _, -, h⟩ := pI_inv h
      obtain ⟨_, _, -, h⟩ := pR_inv h
      obtain ⟨_, _, -, h⟩ := pI_inv h
      obtain ⟨_, _, -, h⟩ := pR_inv h
      obtain ⟨-, h⟩ := bnd_inv h
      exact (nx_no h).elim
    · obtain ⟨_, _, -, h⟩ := pI_inv h
      obtain ⟨_, _, -, h⟩ := pI_inv h
      obtain ⟨-, h⟩ := bnd_inv h
      exact (nx_no h).elim
    · obtain ⟨_, _, -, h⟩ := pI_inv h
      obtain ⟨_, _, -, h⟩ := pI_inv h
      obtain ⟨-, h⟩ := bnd_inv h
      exact (nx_no h).elim
    · cases h
  · split at h
    · exact (rcv_no2 h).elim
    · obtain ⟨_, _, -, h⟩ := pR_inv h
      obtain ⟨-, h⟩ := bnd_inv h
      exact (nx_no h).elim
    · cases h
  · split at h
    · exact (rcv_no2 h).elim
    · obtain ⟨_, _, -, h⟩ := pI_inv h
      obtain ⟨_, _, -, h⟩ := pR_inv h
      split at h
      · obtain ⟨-, h⟩ := bnd_inv h
        exact (nx_no h).elim
      · cases h
    · obtain ⟨_, _, -, h⟩ := pR_inv h
      obtain ⟨-, h⟩ := bnd_inv h
      exact (nx_no h).elim
    · cases h
  · left; assumption
  · right; left; assumption
  · right; right; left; assumption
  · right; right; right; assumption
  · cases h
theorem ret_ok {p : Program} {l : Launch} {e : Env} {R : Room} {s : State} {mi : MethodId} {args : Array Value} {below : List Frame} {meth : Method} {c : Code} {E : am_E} {N0 U0 m mc ms : Nat} {v : Option AV} {M' : Mem} {S' : Sh} (hx : p.tables.exec = Jvm.exec) (hb : c.code = (am_at m).2.2.1) (hr : meth.sig.returnType = (am_at m).2.2.2.2.1) (hlocks : meth.locks = false) (hmc : mc + N0 = S'.2.2.2.1) (hms : ms + U0 = S'.2.2.2.2) : RetOK p l e R s mi args below meth c (MQ below (am_Qc E v M' S') args s mc ms (am_A E)) E N0 U0 m v M' S' := by
  intro f pc ls st hf hs H locs cells slots larr hy
  obtain ⟨hd, hok⟩ := fetch_ok hf
  obtain ⟨i, len, inf⟩ := f
  have ho := hy.ok
  obtain ⟨hR, hL, hS, hM, hLs, hSt, hcc, hss⟩ := id hy
  refine W.cs (cells' := mc) (slots' := ms) (by omega) (by omega) ?_
  have key : ∀ w : Option AV, v = w → (∀ u, w = some u → okV u) → ∀ t : State, t.heap = H → am_Qc E v M' S' args s (.returned (w.map (am_tr E))) t := by
    intro w hw hwo t ht
    subst hw
    exact ⟨rfl, by rw [ht]; exact hR, hS.F ht, hM, hwo⟩
  rcases step_ret hs with hi | hi | hi | hi <;> (dsimp only at hi; subst hi)
  · simp only [am_step] at hs
    split at hs
    · rename_i x
      obtain ⟨hbx, hs⟩ := bnd_inv hs
      have hv : some (aI x) = v := Sum.inl.inj (Sum.inr.inj (Option.some.inj hs))
      have hq := key (some (aI x)) hv.symm (fun u hu => by cases hu; exact ho.1)
      cases inf with
      | nil => cases hok
      | cons z tl =>
        cases tl with
        | cons _ _ => cases hok
        | nil =>
          replace hok : (((z == 0 && decide ((am_at m).2.2.2.2.1 = some .int)) || (z == 1 && decide ((am_at m).2.2.2.2.1 = some .boolean))) && len == 1) = true := hok
          simp only [Bool.and_eq_true, Bool.or_eq_true, beq_iff_eq, decide_eq_true_eq] at hok
          obtain ⟨hok1, rfl⟩ := hok
          rcases hok1 with ⟨rfl, hty⟩ | ⟨rfl, hty⟩
          · exact W.iret hx hb (hr.trans hty) (fun t ht _ => hq t ht) hS.2.2 hd hlocks
          · have hb01 : x = 0 ∨ x = 1 := by
              rcases hbx with q | q
              · cases q
              · exact q
            exact W.zret hx hb (hr.trans hty) (narrow_int (Or.inr rfl) (fun _ => hb01)).1 (fun t ht _ => hq t ht) hS.2.2 hd hlocks
    · cases hs
  · simp only [am_step] at hs
    split at hs
    · rename_i x
      have hv : some (aL x) = v := Sum.inl.inj (Sum.inr.inj (Option.some.inj hs))
      have hq := key (some (aL x)) hv.symm (fun u hu => by cases hu; exact ho.1)
      replace hok : (decide ((am_at m).2.2.2.2.1 = some .long) && len == 1) = true := hok
      simp only [Bool.and_eq_true, beq_iff_eq, decide_eq_true_eq] at hok
      obtain ⟨hty, rfl⟩ := hok
      exact W.lret hx hb (hr.trans hty) (fun t ht _ => hq t ht) hS.2.2 hd hlocks
    · cases hs
  · simp only [am_step] at hs
    split at hs
    · rename_i x
      have hv : some (aO x) = v := Sum.inl.inj (Sum.inr.inj (Option.some.inj hs))
      have hq := key (some (aO x)) hv.symm (fun u hu => by cases hu; trivial)
      replace hok : ((match (am_at m).2.2.2.2.1 with
        | some t => isRefTy t
        | none => false) && len == 1) = true := hok
      obtain ⟨h1, h2⟩ := Bool.and_eq_true_iff.mp hok
      have h2 := eq_of_beq h2
      subst h2
      cases hty : (am_at m).2.2.2.2.1 with
      | none => rw [hty] at h1; cases h1
      | some ty =>
        rw [hty] at h1
        have hrt : (∃ n, ty = .object n) ∨ ∃ t, ty = .array t := by
          revert h1
          cases ty <;> intro h1 <;> first | exact Or.inl ⟨_, rfl⟩ | exact Or.inr ⟨_, rfl⟩ | cases h1
        exact W.aret hx hb (hr.trans hty) hrt (by cases x; exact Or.inl rfl; exact Or.inr ⟨_, rfl⟩) (fun t ht _ => hq t ht) hS.2.2 hd hlocks
    · cases hs
  · simp only [am_step] at hs
    split at hs
    · have hv : none = v := Sum.inl.inj (Sum.inr.inj (Option.some.inj hs))
      have hq := key none hv.symm (fun u hu => by cases hu)
      replace hok : (decide ((am_at m).2.2.2.2.1 = none) && len == 1) = true := hok
      simp only [Bool.and_eq_true, beq_iff_eq, decide_eq_true_eq] at hok
      obtain ⟨hty, rfl⟩ := hok
      exact W.vret hx hb (hr.trans hty) (fun t ht _ => hq t ht) hS.2.2 hd hlocks
    · cases hs
theorem am_met {m' : Nat} {as : List AV} {M M1 : Mem} {S S1 : Sh} {v1 : Option AV} (hm : m' < 179) (l : Launch) (E : am_E) (hg : Good m' (rk m' as) 0 (ini m' as) [] M S v1 M1 S1) (h10 : 10 ≤ rk m' as) (hmono : S.2.2.2.1 ≤ S1.2.2.2.1 ∧ S.2.2.2.2 ≤ S1.2.2.2.2) (hfit : am_fits m' as = true) (hM : okM M) (has : okSt as) : Met l (am_at m').2.1 (am_ws (am_at m').2.1 (am_at m').2.2.1 (am_at m').2.2.2.1 (am_at m').2.2.2.2.1) (am_rm (rk m' as) (S1.2.2.2.1 - S.2.2.2.1) (S1.2.2.2.2 - S.2.2.2.2)) (am_Pc E as M S) (am_Qc E v1 M1 S1) (S1.2.2.2.1 - S.2.2.2.1) (S1.2.2.2.2 - S.2.2.2.2) (am_A E) := by
  obtain ⟨hpl, -, -, -, -, -⟩ := okMR_i hm
  refine Met.ofW (cc := (am_at m').2.2.1) (maxL := (am_at m').2.2.2.1) (ret := (am_at m').2.2.2.2.1) hpl rfl ?_
  intro p e s m args below meth c s₁ B hml hv
  obtain ⟨rfl, hSW, hR⟩ := hv
  have hts0 := atoms_spec (ws := am_ws (am_at m').2.1 (am_at m').2.2.1 (am_at m').2.2.2.1 (am_at m').2.2.2.2.1) B.pre
  have hts := fun w h => hts0 w (List.mem_cons_of_mem _ h)
  have C : Cx m' (rk m' as) p (am_rm (rk m' as) (S1.2.2.2.1 - S.2.2.2.1) (S1.2.2.2.2 - S.2.2.2.2)) s m (as.map (am_tr E)).toArray meth c E := ⟨B.exec, B.bytes, findClass_of_methodNamed B.named, hts, hSW, (name_of_methodNamed B.named B.method).1, hml, Nat.le_refl _, Nat.le_refl _, h10⟩
  have hW := hg (l := l) (e := e) (below := below) (Q := MQ below (am_Qc E v1 M1 S1) (as.map (am_tr E)).toArray s (S1.2.2.2.1 - S.2.2.2.1) (S1.2.2.2.2 - S.2.2.2.2) (am_A E)) (N0 := S.2.2.2.1) (U0 := S.2.2.2.2) C (by show _ ≤ S.2.2.2.1 + (S1.2.2.2.1 - S.2.2.2.1); omega) (by show _ ≤ S.2.2.2.2 + (S1.2.2.2.2 - S.2.2.2.2); omega) (ret_ok B.exec B.bytes B.returns B.notSynchronized (by omega) (by omega))
  rw [lg_entry_eq]
  exact hW s.heap [] 0 0 _ ⟨hR, lrel_ini E hfit, va_S.rf, hM, fun i w h => lay_ok as has i w (ini_get h), trivial, Nat.zero_add _, Nat.zero_add _⟩
theorem okSt_app : ∀ {a b : List AV}, okSt (a ++ b) → okSt a ∧ okSt b
  | [], _, h => ⟨trivial, h⟩
  | _ :: _, _, h => ⟨⟨h.1, (okSt_app h.2).1⟩, (okSt_app h.2).2⟩
theorem okSt_mem : ∀ {a : List AV}, okSt a ↔ ∀ v ∈ a, okV v
  | [] => ⟨fun _ v h => (by cases h), fun _ => trivial⟩
  | x :: l => ⟨fun h v hv => (by
      rcases List.mem_cons.mp hv with rfl | q
      · exact h.1
      · exact okSt_mem.mp h.2 v q), fun h => ⟨h x List.mem_cons_self, okSt_mem.mpr fun v hv => h v (List.mem_cons_of_mem _ hv)⟩⟩
/-- a call, its run known -/
theorem so_call {p : Program} {l : Launch} {e : Env} {R : Room} {s : State} {mi : MethodId} {args : Array Value} {below : List Frame} {meth : Method} {c : Code} {Q : State → Prop} {E : am_E} {N0 U0 nL : Nat} {lg : List Nat} {pc m' hr : Nat} {ls : Lsl} {as t st1 : List AV} {M M1 : Mem} {S S1 : Sh} {v1 : Option AV} (hmono : S.2.2.2.1 ≤ S1.2.2.2.1 ∧ S.2.2.2.2 ≤ S1.2.2.2.2) (hbk : am_back v1 hr t = some st1)
    (hrun : ∀ (H : Heap) (locs : List Loc) (cells slots : Nat) (larr : Array Slot), am_Hy s E N0 U0 nL lg ls (as.reverse ++ t) M S H locs cells slots larr → va_Run p l e R s mi args below meth c H locs cells slots (S1.2.2.2.1 - S.2.2.2.1) (S1.2.2.2.2 - S.2.2.2.2) (F0 mi pc larr ((as.reverse ++ t).map (am_tr E))) (t.map (am_tr E)) (am_Qc E v1 M1 S1 (as.map (am_tr E)).toArray) (am_A E))
    (k : GW p l e R s mi args below meth c Q E N0 U0 nL lg (pc + 3) ls st1 M1 S1) : GW p l e R s mi args below meth c Q E N0 U0 nL lg pc ls (as.reverse ++ t) M S := by
  intro H locs cells slots larr hy
  have ho := hy.ok
  obtain ⟨hR, hL, hS, hM, hLs, hSt, hcc, hss⟩ := id hy
  refine am_crun (v1.map (am_tr E)) (hrun H locs cells slots larr hy) (fun _ _ _ h => h.1) (fun st t2 L h1 h2 h3 => ?_)
  obtain ⟨-, g2, g3, g4, g5⟩ := h2
  have hst : (v1.map (am_tr E)).toList ++ t.map (am_tr E) = st1.map (am_tr E) ∧ okSt st1 := by
    have ht := (okSt_app ho).2
    unfold am_back at hbk
    split at hbk
    · cases hbk
      exact ⟨rfl, g5 _ rfl, ht⟩
    · cases hbk
      exact ⟨rfl, ht⟩
    · cases hbk
  rw [hst.1]
  have hF : va_S (am_A E) s.heap t2.heap (locs ++ L) := by
    obtain ⟨f1, f2⟩ := g3
    rw [h1] at f1 f2
    exact ⟨Nat.le_trans hS.1 f1, fun q q1 q2 => (f2 q (Nat.lt_of_lt_of_le q1 hS.1) q2).trans (hS.2.1 q q1 q2), fun q hq => (List.mem_append.mp hq).elim (hS.2.2 q) (h3 q)⟩
  exact k t2.heap (locs ++ L) _ _ larr ⟨g2, hL, hF, g4, hLs, hst.2, by omega, by omega⟩
theorem call_i {m n hr pc m' pc' hr' : Nat} {st as t : List AV} (h : am_call m n hr pc st = some (Sum.inr (Sum.inr (m', as, pc', t, hr')))) : m' = m ∧ hr' = hr ∧ pc' = pc ∧ st = as.reverse ++ t ∧ as.length = n ∧ t.length ≤ 4 := by
  unfold am_call at h
  split at h
  · rename_i hc
    cases h
    refine ⟨rfl, rfl, rfl, ?_, ?_, hc.2⟩
    · rw [List.reverse_reverse, List.take_append_drop]
    · rw [List.length_reverse, List.length_take]
      omega
  · cases h
theorem rcv_i {m n hr pc m' pc' hr' : Nat} {st as t : List AV} {S : Sh} (hn : 1 ≤ n) (h : rcv m n st S (am_call m n hr pc st) = some (Sum.inr (Sum.inr (m', as, pc', t, hr')))) : ∃ a tl, as = aR a :: tl ∧ S.1 a = am_own m ∧ am_call m n hr pc st = some (Sum.inr (Sum.inr (m', as, pc', t, hr'))) := by
  unfold rcv at h
  split at h
  · rename_i a tl hd
    obtain ⟨hk, h⟩ := bnd_inv h
    obtain ⟨-, -, -, h4, h5, -⟩ := call_i h
    refine ⟨a, as.tail, ?_, hk, h⟩
    have e1 : as ≠ [] := by
      intro z
      rw [z] at h5
      have : (0 : Nat) = n := h5
      omega
    obtain ⟨x, tl', rfl⟩ : ∃ x tl', as = x :: tl' := by
      cases as with
      | nil => exact absurd rfl e1
      | cons x y => exact ⟨x, y, rfl⟩
    rw [h4, List.reverse_cons, List.append_assoc] at hd
    have hl : tl'.reverse.length = n - 1 := by
      rw [List.length_reverse]
      rw [List.length_cons] at h5
      omega
    rw [← hl, List.drop_left] at hd
    have hd : x :: t = aR a :: tl := hd
    injection hd with hd1 hd2
    rw [hd1]
    rfl
  · cases h
