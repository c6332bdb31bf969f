/-! what comes back is an int, or a long -/
theorem run_ret : ∀ (n r m pc : Nat) (ls : Lsl) (st : List AV) (M : Mem) (S : Sh) (x : Res), am_run n r m pc ls st M S = some x → ∃ (pc' : Nat) (f : AI) (ls' : Lsl) (st' : List AV) (M' : Mem) (S' : Sh), fetch m pc' = some f ∧ am_step f pc' ls' st' M' S' = some (Sum.inr (Sum.inl x.1)) := by
  intro n
  induction n with
  | zero => intro r m pc ls st M S x h; cases h
  | succ n ih =>
    intro r m pc ls st M S x h
    rw [am_run] at h
    cases hf : fetch m pc with
    | none => rw [hf] at h; cases h
    | some f =>
      rw [hf, Option.bind_some] at h
      cases hs : am_step f pc ls st M S with
      | none => rw [hs] at h; cases h
      | some rr =>
        rw [hs] at h
        rcases rr with ⟨pc', ls', st', M', S'⟩ | v | ⟨m', as, pc', st', hr⟩
        · exact ih _ _ _ _ _ _ _ _ h
        · cases h
          exact ⟨pc, f, ls, st, M, S, hf, hs⟩
        · dsimp only at h
          split at h
          · cases h1 : am_run n (rk m' as) m' 0 (ini m' as) [] M S with
            | none => rw [h1] at h; cases h
            | some y =>
              rw [h1] at h
              obtain ⟨v, M', S'⟩ := y
              dsimp only at h
              split at h
              · exact ih _ _ _ _ _ _ _ _ h
              · cases h
          · cases h
def rtI (f : AI) : Bool := match f.1 with
  | .lreturn => false
  | .areturn => false
  | .return_ => false
  | _ => true
def rtL (f : AI) : Bool := match f.1 with
  | .ireturn => false
  | .areturn => false
  | .return_ => false
  | _ => true
theorem fetch_all {m pc : Nat} {f : AI} {P : AI → Bool} (h : fetch m pc = some f) (ha : (am_at m).1.all (fun q => P q.2) = true) : P f = true := by
  obtain ⟨k, hk⟩ := lk_mem h
  exact List.all_eq_true.mp ha _ hk
theorem res_I {m : Nat} {as : List AV} {M M' : Mem} {S S' : Sh} {v : Option AV} (ha : (am_at m).1.all (fun q => rtI q.2) = true) (h : res m as M S = some (v, M', S')) : ∃ x, v = some (aI x) := by
  rw [res_eq] at h
  obtain ⟨n, hn⟩ := go_iff.mp h
  obtain ⟨pc, f, ls, st, M1, S1, hf, hs⟩ := run_ret _ _ _ _ _ _ _ _ _ hn
  have hr := fetch_all hf ha
  rcases step_ret hs with e | e | e | e
  · obtain ⟨op, ln, dt⟩ := f
    have e' : op = .ireturn := e
    subst e'
    simp only [am_step] at hs
    split at hs
    · obtain ⟨_, hs⟩ := bnd_inv hs
      cases hs
      exact ⟨_, rfl⟩
    · cases hs
  all_goals (unfold rtI at hr; rw [e] at hr; cases hr)
theorem res_L {m : Nat} {as : List AV} {M M' : Mem} {S S' : Sh} {v : Option AV} (ha : (am_at m).1.all (fun q => rtL q.2) = true) (h : res m as M S = some (v, M', S')) : ∃ x, v = some (aL x) := by
  rw [res_eq] at h
  obtain ⟨n, hn⟩ := go_iff.mp h
  obtain ⟨pc, f, ls, st, M1, S1, hf, hs⟩ := run_ret _ _ _ _ _ _ _ _ _ hn
  have hr := fetch_all hf ha
  rcases step_ret hs with e | e | e | e
  rotate_left
  · obtain ⟨op, ln, dt⟩ := f
    have e' : op = .lreturn := e
    subst e'
    simp only [am_step] at hs
    split at hs
    · cases hs
      exact ⟨_, rfl⟩
    · cases hs
  all_goals (unfold rtL at hr; rw [e] at hr; cases hr)
