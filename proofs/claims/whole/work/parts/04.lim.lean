/-! what runs come to: 'go' from a place, 'res' of a call; equations -/
theorem am_run_succ : ∀ (n r m pc : Nat) (ls : Lsl) (st : List AV) (M : Mem) (S : Sh) (x : Res), am_run n r m pc ls st M S = some x → am_run (n + 1) r m pc ls st M S = some x := by
  intro n
  induction n with
  | zero => intro r m pc ls st M S x h; cases h
  | succ n ih =>
    intro r m pc ls st M S x h
    rw [am_run] at h ⊢
    cases hf : (fetch m pc).bind (fun f => am_step f pc ls st M S) with
    | none => rw [hf] at h; cases h
    | some rr =>
      rw [hf] at h
      rcases rr with ⟨pc', ls', st', M', S'⟩ | v | ⟨m', as, pc', st', hr⟩
      · exact ih _ _ _ _ _ _ _ _ h
      · exact h
      · dsimp only at h ⊢
        by_cases hr' : rk m' as < r ∧ am_fits m' as = true
        · rw [if_pos hr'] at h ⊢
          cases h1 : am_run n (rk m' as) m' 0 (ini m' as) [] M S with
          | none => rw [h1] at h; cases h
          | some y =>
            rw [h1] at h
            rw [ih _ _ _ _ _ _ _ _ h1]
            obtain ⟨v, M', S'⟩ := y
            dsimp only at h ⊢
            cases h2 : am_back v hr st' with
            | none => rw [h2] at h; cases h
            | some st1 =>
              rw [h2] at h
              exact ih _ _ _ _ _ _ _ _ h
        · rw [if_neg hr'] at h
          cases h
theorem am_run_mono {n r m pc : Nat} {ls : Lsl} {st : List AV} {M : Mem} {S : Sh} {x : Res} (h : am_run n r m pc ls st M S = some x) : ∀ k : Nat, n ≤ k → am_run k r m pc ls st M S = some x := by
  intro k hk
  induction hk with
  | refl => exact h
  | step _ ih => exact am_run_succ _ _ _ _ _ _ _ _ _ ih
noncomputable def go (r m pc : Nat) (ls : Lsl) (st : List AV) (M : Mem) (S : Sh) : Option Res :=
  @dite (Option Res) (∃ x : Res, ∃ n : Nat, am_run n r m pc ls st M S = some x) (Classical.propDecidable _) (fun h => some h.choose) (fun _ => none)
theorem go_iff {r m pc : Nat} {ls : Lsl} {st : List AV} {M : Mem} {S : Sh} {x : Res} : go r m pc ls st M S = some x ↔ ∃ n : Nat, am_run n r m pc ls st M S = some x := by
  by_cases h1 : ∃ x : Res, ∃ n : Nat, am_run n r m pc ls st M S = some x
  · have e : go r m pc ls st M S = some h1.choose := by
      unfold go
      exact dif_pos h1
    rw [e]
    have h2 := h1.choose_spec
    constructor
    · intro h
      cases h
      exact h2
    · intro h
      obtain ⟨n, hn⟩ := h
      obtain ⟨k, hk⟩ := h2
      have e1 := am_run_mono hn (n + k) (Nat.le_add_right _ _)
      have e2 := am_run_mono hk (n + k) (Nat.le_add_left _ _)
      rw [e1] at e2
      exact e2.symm
  · have e : go r m pc ls st M S = none := by
      unfold go
      exact dif_neg h1
    rw [e]
    exact ⟨fun h => (by cases h), fun h => absurd ⟨x, h⟩ h1⟩
theorem go_ext {r m pc r' m' pc' : Nat} {ls ls' : Lsl} {st st' : List AV} {M M' : Mem} {S S' : Sh} (h : ∀ x : Res, (∃ n, am_run n r m pc ls st M S = some x) ↔ ∃ n, am_run n r' m' pc' ls' st' M' S' = some x) : go r m pc ls st M S = go r' m' pc' ls' st' M' S' := by
  cases h1 : go r' m' pc' ls' st' M' S' with
  | some x => exact go_iff.mpr ((h x).mpr (go_iff.mp h1))
  | none =>
    cases h2 : go r m pc ls st M S with
    | none => rfl
    | some x =>
      have := go_iff.mpr ((h x).mp (go_iff.mp h2))
      rw [h1] at this
      cases this
/-- one ordinary step -/
theorem go_nx {r m pc pc' : Nat} {ls ls' : Lsl} {st st' : List AV} {M M' : Mem} {S S' : Sh} {f : AI} (hf : fetch m pc = some f) (hs : am_step f pc ls st M S = some (Sum.inl (pc', ls', st', M', S'))) : go r m pc ls st M S = go r m pc' ls' st' M' S' := by
  refine go_ext fun x => ⟨fun h => ?_, fun h => ?_⟩
  · obtain ⟨n, hn⟩ := h
    cases n with
    | zero => cases hn
    | succ n =>
      rw [am_run, hf, Option.bind_some, hs] at hn
      exact ⟨n, hn⟩
  · obtain ⟨n, hn⟩ := h
    refine ⟨n + 1, ?_⟩
    rw [am_run, hf, Option.bind_some, hs]
    exact hn
theorem go_rt {r m pc : Nat} {ls : Lsl} {st : List AV} {M : Mem} {S : Sh} {f : AI} {v : Option AV} (hf : fetch m pc = some f) (hs : am_step f pc ls st M S = some (Sum.inr (Sum.inl v))) : go r m pc ls st M S = some (v, M, S) := by
  refine go_iff.mpr ⟨1, ?_⟩
  rw [am_run, hf, Option.bind_some, hs]
noncomputable def res (m : Nat) (as : List AV) (M : Mem) (S : Sh) : Option Res := go (rk m as) m 0 (ini m as) [] M S
/-- behind a call -/
noncomputable def cont (r m pc : Nat) (ls : Lsl) (st : List AV) (hr : Nat) (o : Option Res) : Option Res := match o with
  | none => none
  | some (v, M', S') => match am_back v hr st with
    | some st1 => go r m pc ls st1 M' S'
    | none => none
theorem go_call {r m pc m' pc' hr : Nat} {ls : Lsl} {st st' as : List AV} {M : Mem} {S : Sh} {f : AI} (hf : fetch m pc = some f) (hs : am_step f pc ls st M S = some (Sum.inr (Sum.inr (m', as, pc', st', hr)))) (hk : rk m' as < r ∧ am_fits m' as = true) : go r m pc ls st M S = cont r m pc' ls st' hr (res m' as M S) := by
  cases h1 : res m' as M S with
  | none =>
    show _ = none
    cases h2 : go r m pc ls st M S with
    | none => rfl
    | some x =>
      obtain ⟨n, hn⟩ := go_iff.mp h2
      cases n with
      | zero => cases hn
      | succ n =>
        rw [am_run, hf, Option.bind_some, hs] at hn
        dsimp only at hn
        rw [if_pos hk] at hn
        cases h3 : am_run n (rk m' as) m' 0 (ini m' as) [] M S with
        | none => rw [h3] at hn; cases hn
        | some y =>
          have := go_iff.mpr ⟨n, h3⟩
          unfold res at h1
          rw [h1] at this
          cases this
  | some y =>
    obtain ⟨v, M', S'⟩ := y
    obtain ⟨k, hk1⟩ := go_iff.mp h1
    show _ = (match am_back v hr st' with
      | some st1 => go r m pc' ls st1 M' S'
      | none => none)
    cases h2 : am_back v hr st' with
    | none =>
      dsimp only
      cases h3 : go r m pc ls st M S with
      | none => rfl
      | some x =>
        obtain ⟨n, hn⟩ := go_iff.mp h3
        have hn := am_run_mono hn (n + k + 1) (by omega)
        rw [am_run, hf, Option.bind_some, hs] at hn
        dsimp only at hn
        rw [if_pos hk, am_run_mono hk1 (n + k) (by omega)] at hn
        dsimp only at hn
        rw [h2] at hn
        cases hn
    | some st1 =>
      dsimp only
      refine go_ext fun x => ⟨fun h => ?_, fun h => ?_⟩
      · obtain ⟨n, hn⟩ := h
        have hn := am_run_mono hn (n + k + 1) (by omega)
        rw [am_run, hf, Option.bind_some, hs] at hn
        dsimp only at hn
        rw [if_pos hk, am_run_mono hk1 (n + k) (by omega)] at hn
        dsimp only at hn
        rw [h2] at hn
        exact ⟨n + k, hn⟩
      · obtain ⟨n, hn⟩ := h
        refine ⟨n + k + 1, ?_⟩
        rw [am_run, hf, Option.bind_some, hs]
        dsimp only
        rw [if_pos hk, am_run_mono hk1 (n + k) (by omega)]
        dsimp only
        rw [h2]
        exact am_run_mono hn (n + k) (by omega)
theorem cont_some {r m pc hr : Nat} {ls : Lsl} {st st1 : List AV} {v : Option AV} {M' : Mem} {S' : Sh} (h : am_back v hr st = some st1) : cont r m pc ls st hr (some (v, M', S')) = go r m pc ls st1 M' S' := by
  show (match am_back v hr st with
      | some st1 => go r m pc ls st1 M' S'
      | none => none) = _
  rw [h]
theorem cont_1 {r m pc : Nat} {ls : Lsl} {st : List AV} {v : AV} {M' : Mem} {S' : Sh} : cont r m pc ls st 1 (some (some v, M', S')) = go r m pc ls (v :: st) M' S' := cont_some rfl
theorem cont_0 {r m pc : Nat} {ls : Lsl} {st : List AV} {M' : Mem} {S' : Sh} : cont r m pc ls st 0 (some (none, M', S')) = go r m pc ls st M' S' := cont_some rfl
