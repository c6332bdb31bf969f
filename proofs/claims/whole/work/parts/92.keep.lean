/-! what a run leaves: the script, kinds and lengths -/
def Kp (M : Mem) (S : Sh) (M' : Mem) (S' : Sh) : Prop := (S.1 5 = 7 → 6 ≤ S.2.2.2.1 → M' 5 = M 5) ∧ ∀ a, a < S.2.2.2.1 → S'.1 a = S.1 a ∧ S'.2.1 a = S.2.1 a
theorem Kp_r (M : Mem) (S : Sh) : Kp M S M S := ⟨fun _ _ => rfl, fun _ _ => ⟨rfl, rfl⟩⟩
theorem Kp_p (M : Mem) (S : Sh) (P : Nat → Nat → Option Nat) : Kp M S M (S.1, S.2.1, P, S.2.2.2) := ⟨fun _ _ => rfl, fun _ _ => ⟨rfl, rfl⟩⟩
theorem Kp_m {M : Mem} {S : Sh} {a k : Nat} {x : Int} (h : 6 ≤ a) : Kp M S (mset M a k x) S := ⟨fun _ _ => mset_ne _ _ _ (by omega), fun _ _ => ⟨rfl, rfl⟩⟩
theorem Kp_f {M : Mem} {S : Sh} {a k c : Nat} {x : Int} (h : S.1 a = c) (hc : c ≠ 7) : Kp M S (mset M a k x) S := ⟨fun h5 _ => mset_ne _ _ _ (fun z => by rw [← z, h5] at h; exact hc h.symm), fun _ _ => ⟨rfl, rfl⟩⟩
theorem Kp_c {M : Mem} {S : Sh} {a : Nat} {f : Nat → Int} (h : 6 ≤ a) : Kp M S (mrow M a f) S := ⟨fun _ _ => mrow_ne _ _ (by omega), fun _ _ => ⟨rfl, rfl⟩⟩
theorem Kp_n {M : Mem} {S : Sh} {c u : Nat} {P : Nat → Nat → Option Nat} : Kp M S (mrow M S.2.2.2.1 (fun _ => 0)) (fset S.1 S.2.2.2.1 c, S.2.1, P, S.2.2.2.1 + 1, u) := ⟨fun _ h => mrow_ne _ _ (by omega), fun a ha => ⟨fset_ne _ _ (by omega), rfl⟩⟩
theorem Kp_na {M : Mem} {S : Sh} {c l u : Nat} {P : Nat → Nat → Option Nat} : Kp M S (mrow M S.2.2.2.1 (fun _ => 0)) (fset S.1 S.2.2.2.1 c, fset S.2.1 S.2.2.2.1 l, P, S.2.2.2.1 + 1, u) := ⟨fun _ h => mrow_ne _ _ (by omega), fun a ha => ⟨fset_ne _ _ (by omega), fset_ne _ _ (by omega)⟩⟩
theorem Kp_an {M : Mem} {S : Sh} {c l u : Nat} {P : Nat → Nat → Option Nat} : Kp M S M (fset S.1 S.2.2.2.1 c, fset S.2.1 S.2.2.2.1 l, P, S.2.2.2.1 + 1, u) := ⟨fun _ _ => rfl, fun a ha => ⟨fset_ne _ _ (by omega), fset_ne _ _ (by omega)⟩⟩
theorem Kp_t {M M1 M2 : Mem} {S S1 S2 : Sh} (hn : S.2.2.2.1 ≤ S1.2.2.2.1) (h1 : Kp M S M1 S1) (h2 : Kp M1 S1 M2 S2) : Kp M S M2 S2 := ⟨fun a b => (h2.1 (((h1.2 5 (by omega)).1).trans a) (by omega)).trans (h1.1 a b), fun a ha => ⟨(h2.2 a (by omega)).1.trans (h1.2 a ha).1, (h2.2 a (by omega)).2.trans (h1.2 a ha).2⟩⟩
def okFb (f : AI) : Bool := match f.1, f.2.2 with
  | .putfield _, c :: _ => decide (c.toNat ≠ 7)
  | _, _ => true
theorem okFb_all : am_M.all (fun r => r.1.all (fun q => okFb q.2)) = true := by decide +kernel
theorem okFb_0 : am_m0.1.all (fun q => okFb q.2) = true := by decide +kernel
theorem lk_mem {l : List (Nat × AI)} {pc : Nat} {f : AI} : am_lk l pc = some f → ∃ k, (k, f) ∈ l := by
  induction l with
  | nil => intro h; cases h
  | cons q l ih =>
    intro h
    rw [am_lk] at h
    cases hb : Nat.beq q.1 pc with
    | true =>
      rw [hb] at h
      cases h
      exact ⟨q.1, List.mem_cons_self⟩
    | false =>
      rw [hb] at h
      obtain ⟨k, hk⟩ := ih h
      exact ⟨k, List.mem_cons_of_mem _ hk⟩
theorem okFb_f {m pc : Nat} {f : AI} (h : fetch m pc = some f) : okFb f = true := by
  obtain ⟨k, hk⟩ := lk_mem h
  have ha : (am_at m).1.all (fun q => okFb q.2) = true := by
    unfold am_at
    by_cases hm : m < am_M.length
    · rw [List.getD_eq_getElem?_getD, List.getElem?_eq_getElem hm]
      exact List.all_eq_true.mp okFb_all _ (List.getElem_mem hm)
    · rw [List.getD_eq_getElem?_getD, List.getElem?_eq_none (by omega)]
      exact okFb_0
  exact List.all_eq_true.mp ha _ hk
theorem okFb_n {f : AI} (h : okFb f = true) : ∀ (i : Nat) (c k z r : Int), f.1 = .putfield i → f.2.2 = [c, k, z, r] → c.toNat ≠ 7 := by
  intro i c k z r h1 h2
  unfold okFb at h
  rw [h1, h2] at h
  exact of_decide_eq_true h
theorem step_keep {f : AI} {pc : Nat} {ls : Lsl} {st : List AV} {M : Mem} {S : Sh} {pc' : Nat} {ls' : Lsl} {st' : List AV} {M' : Mem} {S' : Sh} (hF : ∀ (i : Nat) (c k z r : Int), f.1 = .putfield i → f.2.2 = [c, k, z, r] → c.toNat ≠ 7) (h : am_step f pc ls st M S = some (Sum.inl (pc', ls', st', M', S'))) : Kp M S M' S' := by
  unfold am_step at h
  split at h
  · cases nx_inv h
    first | exact Kp_r _ _ | exact Kp_p _ _ _ | exact Kp_m (by omega) | exact Kp_f hb.1 (hF _ _ _ _ _ (by assumption) (by assumption)) | exact Kp_c (by omega)
  · cases nx_inv h
    first | exact Kp_r _ _ | exact Kp_p _ _ _ | exact Kp_m (by omega) | exact Kp_f hb.1 (hF _ _ _ _ _ (by assumption) (by assumption)) | exact Kp_c (by omega)
  · cases nx_inv h
    first | exact Kp_r _ _ | exact Kp_p _ _ _ | exact Kp_m (by omega) | exact Kp_f hb.1 (hF _ _ _ _ _ (by assumption) (by assumption)) | exact Kp_c (by omega)
  · cases nx_inv h
    first | exact Kp_r _ _ | exact Kp_p _ _ _ | exact Kp_m (by omega) | exact Kp_f hb.1 (hF _ _ _ _ _ (by assumption) (by assumption)) | exact Kp_c (by omega)
  · cases nx_inv h
    first | exact Kp_r _ _ | exact Kp_p _ _ _ | exact Kp_m (by omega) | exact Kp_f hb.1 (hF _ _ _ _ _ (by assumption) (by assumption)) | exact Kp_c (by omega)
  · split at h
    · cases nx_inv h
      first | exact Kp_r _ _ | exact Kp_p _ _ _ | exact Kp_m (by omega) | exact Kp_f hb.1 (hF _ _ _ _ _ (by assumption) (by assumption)) | exact Kp_c (by omega)
    · cases nx_inv h
      first | exact Kp_r _ _ | exact Kp_p _ _ _ | exact Kp_m (by omega) | exact Kp_f hb.1 (hF _ _ _ _ _ (by assumption) (by assumption)) | exact Kp_c (by omega)
    · cases h
  · split at h
    · cases nx_inv h
      first | exact Kp_r _ _ | exact Kp_p _ _ _ | exact Kp_m (by omega) | exact Kp_f hb.1 (hF _ _ _ _ _ (by assumption) (by assumption)) | exact Kp_c (by omega)
    · cases h
  · split at h
    · cases nx_inv h
      first | exact Kp_r _ _ | exact Kp_p _ _ _ | exact Kp_m (by omega) | exact Kp_f hb.1 (hF _ _ _ _ _ (by assumption) (by assumption)) | exact Kp_c (by omega)
    · cases h
  · obtain ⟨_, -, h⟩ := ldI_inv h
    cases h
    first | exact Kp_r _ _ | exact Kp_p _ _ _ | exact Kp_m (by omega) | exact Kp_f hb.1 (hF _ _ _ _ _ (by assumption) (by assumption)) | exact Kp_c (by omega)
  · obtain ⟨_, -, h⟩ := ldI_inv h
    cases h
    first | exact Kp_r _ _ | exact Kp_p _ _ _ | exact Kp_m (by omega) | exact Kp_f hb.1 (hF _ _ _ _ _ (by assumption) (by assumption)) | exact Kp_c (by omega)
  · obtain ⟨_, -, h⟩ := ldL_inv h
    cases h
    first | exact Kp_r _ _ | exact Kp_p _ _ _ | exact Kp_m (by omega) | exact Kp_f hb.1 (hF _ _ _ _ _ (by assumption) (by assumption)) | exact Kp_c (by omega)
  · obtain ⟨_, -, h⟩ := ldL_inv h
    cases h
    first | exact Kp_r _ _ | exact Kp_p _ _ _ | exact Kp_m (by omega) | exact Kp_f hb.1 (hF _ _ _ _ _ (by assumption) (by assumption)) | exact Kp_c (by omega)
  · obtain ⟨_, -, h⟩ := ldO_inv h
    cases h
    first | exact Kp_r _ _ | exact Kp_p _ _ _ | exact Kp_m (by omega) | exact Kp_f hb.1 (hF _ _ _ _ _ (by assumption) (by assumption)) | exact Kp_c (by omega)
  · obtain ⟨_, -, h⟩ := ldO_inv h
    cases h
    first | exact Kp_r _ _ | exact Kp_p _ _ _ | exact Kp_m (by omega) | exact Kp_f hb.1 (hF _ _ _ _ _ (by assumption) (by assumption)) | exact Kp_c (by omega)
  · obtain ⟨_, _, -, h⟩ := pI_inv h
    cases nx_inv h
    first | exact Kp_r _ _ | exact Kp_p _ _ _ | exact Kp_m (by omega) | exact Kp_f hb.1 (hF _ _ _ _ _ (by assumption) (by assumption)) | exact Kp_c (by omega)
  · obtain ⟨_, _, -, h⟩ := pI_inv h
    cases nx_inv h
    first | exact Kp_r _ _ | exact Kp_p _ _ _ | exact Kp_m (by omega) | exact Kp_f hb.1 (hF _ _ _ _ _ (by assumption) (by assumption)) | exact Kp_c (by omega)
  · obtain ⟨_, _, -, h⟩ := pO_inv h
    cases nx_inv h
    first | exact Kp_r _ _ | exact Kp_p _ _ _ | exact Kp_m (by omega) | exact Kp_f hb.1 (hF _ _ _ _ _ (by assumption) (by assumption)) | exact Kp_c (by omega)
  · obtain ⟨_, _, -, h⟩ := pO_inv h
    cases nx_inv h
    first | exact Kp_r _ _ | exact Kp_p _ _ _ | exact Kp_m (by omega) | exact Kp_f hb.1 (hF _ _ _ _ _ (by assumption) (by assumption)) | exact Kp_c (by omega)
  · obtain ⟨_, _, -, h⟩ := pL_inv h
    cases nx_inv h
    first | exact Kp_r _ _ | exact Kp_p _ _ _ | exact Kp_m (by omega) | exact Kp_f hb.1 (hF _ _ _ _ _ (by assumption) (by assumption)) | exact Kp_c (by omega)
  · obtain ⟨_, _, -, h⟩ := pL_inv h
    cases nx_inv h
    first | exact Kp_r _ _ | exact Kp_p _ _ _ | exact Kp_m (by omega) | exact Kp_f hb.1 (hF _ _ _ _ _ (by assumption) (by assumption)) | exact Kp_c (by omega)
  · obtain ⟨_, -, h⟩ := glv_inv h
    split at h
    · cases nx_inv h
      first | exact Kp_r _ _ | exact Kp_p _ _ _ | exact Kp_m (by omega) | exact Kp_f hb.1 (hF _ _ _ _ _ (by assumption) (by assumption)) | exact Kp_c (by omega)
    · cases h
  · obtain ⟨_, _, -, h⟩ := pI_inv h
    obtain ⟨_, _, -, h⟩ := pI_inv h
    cases nx_inv h
    first | exact Kp_r _ _ | exact Kp_p _ _ _ | exact Kp_m (by omega) | exact Kp_f hb.1 (hF _ _ _ _ _ (by assumption) (by assumption)) | exact Kp_c (by omega)
  · obtain ⟨_, _, -, h⟩ := pI_inv h
    obtain ⟨_, _, -, h⟩ := pI_inv h
    cases nx_inv h
    first | exact Kp_r _ _ | exact Kp_p _ _ _ | exact Kp_m (by omega) | exact Kp_f hb.1 (hF _ _ _ _ _ (by assumption) (by assumption)) | exact Kp_c (by omega)
  · obtain ⟨_, _, -, h⟩ := pI_inv h
    obtain ⟨_, _, -, h⟩ := pI_inv h
    cases nx_inv h
    first | exact Kp_r _ _ | exact Kp_p _ _ _ | exact Kp_m (by omega) | exact Kp_f hb.1 (hF _ _ _ _ _ (by assumption) (by assumption)) | exact Kp_c (by omega)
  · obtain ⟨_, _, -, h⟩ := pI_inv h
    obtain ⟨_, _, -, h⟩ := pI_inv h
    obtain ⟨hb, h⟩ := bnd_inv h
    cases nx_inv h
    first | exact Kp_r _ _ | exact Kp_p _ _ _ | exact Kp_m (by omega) | exact Kp_f hb.1 (hF _ _ _ _ _ (by assumption) (by assumption)) | exact Kp_c (by omega)
  · obtain ⟨_, _, -, h⟩ := pI_inv h
    obtain ⟨_, _, -, h⟩ := pI_inv h
    obtain ⟨hb, h⟩ := bnd_inv h
    cases nx_inv h
    first | exact Kp_r _ _ | exact Kp_p _ _ _ | exact Kp_m (by omega) | exact Kp_f hb.1 (hF _ _ _ _ _ (by assumption) (by assumption)) | exact Kp_c (by omega)
  · obtain ⟨_, _, -, h⟩ := pI_inv h
    cases nx_inv h
    first | exact Kp_r _ _ | exact Kp_p _ _ _ | exact Kp_m (by omega) | exact Kp_f hb.1 (hF _ _ _ _ _ (by assumption) (by assumption)) | exact Kp_c (by omega)
  · obtain ⟨_, _, -, h⟩ := pI_inv h
    obtain ⟨_, _, -, h⟩ := pI_inv h
    cases nx_inv h
    first | exact Kp_r _ _ | exact Kp_p _ _ _ | exact Kp_m (by omega) | exact Kp_f hb.1 (hF _ _ _ _ _ (by assumption) (by assumption)) | exact Kp_c (by omega)
  · obtain ⟨_, _, -, h⟩ := pI_inv h
    obtain ⟨_, _, -, h⟩ := pI_inv h
    cases nx_inv h
    first | exact Kp_r _ _ | exact Kp_p _ _ _ | exact Kp_m (by omega) | exact Kp_f hb.1 (hF _ _ _ _ _ (by assumption) (by assumption)) | exact Kp_c (by omega)
  · obtain ⟨_, _, -, h⟩ := pI_inv h
    obtain ⟨_, _, -, h⟩ := pI_inv h
    cases nx_inv h
    first | exact Kp_r _ _ | exact Kp_p _ _ _ | exact Kp_m (by omega) | exact Kp_f hb.1 (hF _ _ _ _ _ (by assumption) (by assumption)) | exact Kp_c (by omega)
  · obtain ⟨_, _, -, h⟩ := pI_inv h
    cases nx_inv h
    first | exact Kp_r _ _ | exact Kp_p _ _ _ | exact Kp_m (by omega) | exact Kp_f hb.1 (hF _ _ _ _ _ (by assumption) (by assumption)) | exact Kp_c (by omega)
  · obtain ⟨_, _, -, h⟩ := pI_inv h
    cases nx_inv h
    first | exact Kp_r _ _ | exact Kp_p _ _ _ | exact Kp_m (by omega) | exact Kp_f hb.1 (hF _ _ _ _ _ (by assumption) (by assumption)) | exact Kp_c (by omega)
  · obtain ⟨_, _, -, h⟩ := pI_inv h
    cases nx_inv h
    first | exact Kp_r _ _ | exact Kp_p _ _ _ | exact Kp_m (by omega) | exact Kp_f hb.1 (hF _ _ _ _ _ (by assumption) (by assumption)) | exact Kp_c (by omega)
  · obtain ⟨_, _, -, h⟩ := pL_inv h
    obtain ⟨_, _, -, h⟩ := pL_inv h
    cases nx_inv h
    first | exact Kp_r _ _ | exact Kp_p _ _ _ | exact Kp_m (by omega) | exact Kp_f hb.1 (hF _ _ _ _ _ (by assumption) (by assumption)) | exact Kp_c (by omega)
  · obtain ⟨_, _, -, h⟩ := pL_inv h
    obtain ⟨_, _, -, h⟩ := pL_inv h
    cases nx_inv h
    first | exact Kp_r _ _ | exact Kp_p _ _ _ | exact Kp_m (by omega) | exact Kp_f hb.1 (hF _ _ _ _ _ (by assumption) (by assumption)) | exact Kp_c (by omega)
  · obtain ⟨_, _, -, h⟩ := pL_inv h
    obtain ⟨_, _, -, h⟩ := pL_inv h
    obtain ⟨hb, h⟩ := bnd_inv h
    cases nx_inv h
    first | exact Kp_r _ _ | exact Kp_p _ _ _ | exact Kp_m (by omega) | exact Kp_f hb.1 (hF _ _ _ _ _ (by assumption) (by assumption)) | exact Kp_c (by omega)
  · obtain ⟨_, _, -, h⟩ := pL_inv h
    obtain ⟨_, _, -, h⟩ := pL_inv h
    obtain ⟨hb, h⟩ := bnd_inv h
    cases nx_inv h
    first | exact Kp_r _ _ | exact Kp_p _ _ _ | exact Kp_m (by omega) | exact Kp_f hb.1 (hF _ _ _ _ _ (by assumption) (by assumption)) | exact Kp_c (by omega)
  · obtain ⟨_, _, -, h⟩ := pL_inv h
    obtain ⟨_, _, -, h⟩ := pL_inv h
    cases nx_inv h
    first | exact Kp_r _ _ | exact Kp_p _ _ _ | exact Kp_m (by omega) | exact Kp_f hb.1 (hF _ _ _ _ _ (by assumption) (by assumption)) | exact Kp_c (by omega)
  · split at h
    · cases nx_inv h
      first | exact Kp_r _ _ | exact Kp_p _ _ _ | exact Kp_m (by omega) | exact Kp_f hb.1 (hF _ _ _ _ _ (by assumption) (by assumption)) | exact Kp_c (by omega)
    · cases nx_inv h
      first | exact Kp_r _ _ | exact Kp_p _ _ _ | exact Kp_m (by omega) | exact Kp_f hb.1 (hF _ _ _ _ _ (by assumption) (by assumption)) | exact Kp_c (by omega)
    · cases h
  · obtain ⟨_, _, -, h⟩ := pI_inv h
    obtain ⟨_, _, -, h⟩ := pR_inv h
    cases nx_inv h
    first | exact Kp_r _ _ | exact Kp_p _ _ _ | exact Kp_m (by omega) | exact Kp_f hb.1 (hF _ _ _ _ _ (by assumption) (by assumption)) | exact Kp_c (by omega)
  · obtain ⟨_, _, -, h⟩ := pI_inv h
    cases nx_inv h
    first | exact Kp_r _ _ | exact Kp_p _ _ _ | exact Kp_m (by omega) | exact Kp_f hb.1 (hF _ _ _ _ _ (by assumption) (by assumption)) | exact Kp_c (by omega)
  · cases nx_inv h
    first | exact Kp_r _ _ | exact Kp_p _ _ _ | exact Kp_m (by omega) | exact Kp_f hb.1 (hF _ _ _ _ _ (by assumption) (by assumption)) | exact Kp_c (by omega)
  · obtain ⟨_, _, -, h⟩ := pI_inv h
    rcases brn_inv h with ⟨-, h⟩ | ⟨-, h⟩ <;> (cases h; first | exact Kp_r _ _ | exact Kp_p _ _ _ | exact Kp_m (by omega) | exact Kp_f hb.1 (hF _ _ _ _ _ (by assumption) (by assumption)) | exact Kp_c (by omega))
  · obtain ⟨_, _, -, h⟩ := pI_inv h
    obtain ⟨_, _, -, h⟩ := pI_inv h
    rcases brn_inv h with ⟨-, h⟩ | ⟨-, h⟩ <;> (cases h; first | exact Kp_r _ _ | exact Kp_p _ _ _ | exact Kp_m (by omega) | exact Kp_f hb.1 (hF _ _ _ _ _ (by assumption) (by assumption)) | exact Kp_c (by omega))
  · obtain ⟨_, _, -, h⟩ := pO_inv h
    rcases brn_inv h with ⟨-, h⟩ | ⟨-, h⟩ <;> (cases h; first | exact Kp_r _ _ | exact Kp_p _ _ _ | exact Kp_m (by omega) | exact Kp_f hb.1 (hF _ _ _ _ _ (by assumption) (by assumption)) | exact Kp_c (by omega))
  · obtain ⟨_, _, -, h⟩ := pO_inv h
    rcases brn_inv h with ⟨-, h⟩ | ⟨-, h⟩ <;> (cases h; first | exact Kp_r _ _ | exact Kp_p _ _ _ | exact Kp_m (by omega) | exact Kp_f hb.1 (hF _ _ _ _ _ (by assumption) (by assumption)) | exact Kp_c (by omega))
  · obtain ⟨_, _, -, h⟩ := pI_inv h
    split at h
    · cases nx_inv h
      first | exact Kp_r _ _ | exact Kp_p _ _ _ | exact Kp_m (by omega) | exact Kp_f hb.1 (hF _ _ _ _ _ (by assumption) (by assumption)) | exact Kp_c (by omega)
    · split at h
      · cases nx_inv h
        first | exact Kp_r _ _ | exact Kp_p _ _ _ | exact Kp_m (by omega) | exact Kp_f hb.1 (hF _ _ _ _ _ (by assumption) (by assumption)) | exact Kp_c (by omega)
      · cases h
  · obtain ⟨_, _, -, h⟩ := pI_inv h
    cases nx_inv h
    first | exact Kp_r _ _ | exact Kp_p _ _ _ | exact Kp_m (by omega) | exact Kp_f hb.1 (hF _ _ _ _ _ (by assumption) (by assumption)) | exact Kp_c (by omega)
  · split at h
    · cases nx_inv h
      first | exact Kp_r _ _ | exact Kp_p _ _ _ | exact Kp_m (by omega) | exact Kp_f hb.1 (hF _ _ _ _ _ (by assumption) (by assumption)) | exact Kp_c (by omega)
    · cases h
  · split at h
    · obtain ⟨_, _, -, h⟩ := pR_inv h
      obtain ⟨hb, h⟩ := bnd_inv h
      split at h
      · cases nx_inv h
        first | exact Kp_r _ _ | exact Kp_p _ _ _ | exact Kp_m (by omega) | exact Kp_f hb.1 (hF _ _ _ _ _ (by assumption) (by assumption)) | exact Kp_c (by omega)
      · cases nx_inv h
        first | exact Kp_r _ _ | exact Kp_p _ _ _ | exact Kp_m (by omega) | exact Kp_f hb.1 (hF _ _ _ _ _ (by assumption) (by assumption)) | exact Kp_c (by omega)
    · cases h
  · split at h
    · split at h
      · obtain ⟨_, _, -, h⟩ := pO_inv h
        obtain ⟨_, _, -, h⟩ := pR_inv h
        obtain ⟨hb, h⟩ := bnd_inv h
        cases nx_inv h
        first | exact Kp_r _ _ | exact Kp_p _ _ _ | exact Kp_m (by omega) | exact Kp_f hb.1 (hF _ _ _ _ _ (by assumption) (by assumption)) | exact Kp_c (by omega)
      · obtain ⟨_, _, -, h⟩ := pI_inv h
        obtain ⟨_, _, -, h⟩ := pR_inv h
        obtain ⟨hb, h⟩ := bnd_inv h
        cases nx_inv h
        first | exact Kp_r _ _ | exact Kp_p _ _ _ | exact Kp_m (by omega) | exact Kp_f hb.1 (hF _ _ _ _ _ (by assumption) (by assumption)) | exact Kp_c (by omega)
    · cases h
  · obtain ⟨_, _, -, h⟩ := pR_inv h
    obtain ⟨hb, h⟩ := bnd_inv h
    cases nx_inv h
    first | exact Kp_r _ _ | exact Kp_p _ _ _ | exact Kp_m (by omega) | exact Kp_f hb.1 (hF _ _ _ _ _ (by assumption) (by assumption)) | exact Kp_c (by omega)
  · obtain ⟨_, _, -, h⟩ := pI_inv h
    obtain ⟨_, _, -, h⟩ := pR_inv h
    obtain ⟨hb, h⟩ := bnd_inv h
    cases nx_inv h
    first | exact Kp_r _ _ | exact Kp_p _ _ _ | exact Kp_m (by omega) | exact Kp_f hb.1 (hF _ _ _ _ _ (by assumption) (by assumption)) | exact Kp_c (by omega)
  · obtain ⟨_, _, -, h⟩ := pI_inv h
    obtain ⟨_, _, -, h⟩ := pI_inv h
    obtain ⟨_, _, -, h⟩ := pR_inv h
    obtain ⟨hb, h⟩ := bnd_inv h
    cases nx_inv h
    first | exact Kp_r _ _ | exact Kp_p _ _ _ | exact Kp_m (by omega) | exact Kp_f hb.1 (hF _ _ _ _ _ (by assumption) (by assumption)) | exact Kp_c (by omega)
  · obtain ⟨_, _, -, h⟩ := pI_inv h
    obtain ⟨_, _, -, h⟩ := pR_inv h
    obtain ⟨hb, h⟩ := bnd_inv h
    cases nx_inv h
    first | exact Kp_r _ _ | exact Kp_p _ _ _ | exact Kp_m (by omega) | exact Kp_f hb.1 (hF _ _ _ _ _ (by assumption) (by assumption)) | exact Kp_c (by omega)
  · obtain ⟨_, _, -, h⟩ := pR_inv h
    obtain ⟨_, _, -, h⟩ := pI_inv h
    obtain ⟨_, _, -, h⟩ := pR_inv h
    obtain ⟨hb, h⟩ := bnd_inv h
    cases nx_inv h
    first | exact Kp_r _ _ | exact Kp_p _ _ _ | exact Kp_m (by omega) | exact Kp_f hb.1 (hF _ _ _ _ _ (by assumption) (by assumption)) | exact Kp_c (by omega)
  · split at h
    · cases nx_inv h
      exact Kp_n
    · cases h
  · obtain ⟨_, _, -, h⟩ := pI_inv h
    obtain ⟨hb, h⟩ := bnd_inv h
    cases nx_inv h
    first | exact Kp_na | exact Kp_an
  · split at h
    · obtain ⟨_, _, -, h⟩ := pI_inv h
      obtain ⟨hb, h⟩ := bnd_inv h
      cases nx_inv h
      first | exact Kp_na | exact Kp_an
    · cases h
  · split at h
    · unfold am_call at h
      split at h <;> cases h
    · obtain ⟨_, _, -, h⟩ := pI_inv h
      obtain ⟨_, _, -, h⟩ := pI_inv h
      obtain ⟨_, _, -, h⟩ := pR_inv h
      obtain ⟨_, _, -, h⟩ := pI_inv h
      obtain ⟨_, _, -, h⟩ := pR_inv h
      obtain ⟨hb, h⟩ := bnd_inv h
      cases nx_inv h
      first | exact Kp_r _ _ | exact Kp_p _ _ _ | exact Kp_m (by omega) | exact Kp_f hb.1 (hF _ _ _ _ _ (by assumption) (by assumption)) | exact Kp_c (by omega)
    · obtain ⟨_, _, -, h⟩ := pI_inv h
      obtain ⟨_, _, -, h⟩ := pI_inv h
      obtain ⟨hb, h⟩ := bnd_inv h
      cases nx_inv h
      first | exact Kp_r _ _ | exact Kp_p _ _ _ | exact Kp_m (by omega) | exact Kp_f hb.1 (hF _ _ _ _ _ (by assumption) (by assumption)) | exact Kp_c (by omega)
    · obtain ⟨_, _, -, h⟩ := pI_inv h
      obtain ⟨_, _, -, h⟩ := pI_inv h
      obtain ⟨hb, h⟩ := bnd_inv h
      cases nx_inv h
      first | exact Kp_r _ _ | exact Kp_p _ _ _ | exact Kp_m (by omega) | exact Kp_f hb.1 (hF _ _ _ _ _ (by assumption) (by assumption)) | exact Kp_c (by omega)
    · cases h
  · split at h
    · exact (rcv_no h).elim
    · obtain ⟨_, _, -, h⟩ := pR_inv h
      obtain ⟨hb, h⟩ := bnd_inv h
      cases nx_inv h
      first | exact Kp_r _ _ | exact Kp_p _ _ _ | exact Kp_m (by omega) | exact Kp_f hb.1 (hF _ _ _ _ _ (by assumption) (by assumption)) | exact Kp_c (by omega)
    · cases h
  · split at h
    · exact (rcv_no h).elim
    · obtain ⟨_, _, -, h⟩ := pI_inv h
      obtain ⟨_, _, -, h⟩ := pR_inv h
      split at h
      · obtain ⟨hb, h⟩ := bnd_inv h
        cases nx_inv h
        first | exact Kp_r _ _ | exact Kp_p _ _ _ | exact Kp_m (by omega) | exact Kp_f hb.1 (hF _ _ _ _ _ (by assumption) (by assumption)) | exact Kp_c (by omega)
      · cases h
    · obtain ⟨_, _, -, h⟩ := pR_inv h
      obtain ⟨hb, h⟩ := bnd_inv h
      cases nx_inv h
      first | exact Kp_r _ _ | exact Kp_p _ _ _ | exact Kp_m (by omega) | exact Kp_f hb.1 (hF _ _ _ _ _ (by assumption) (by assumption)) | exact Kp_c (by omega)
    · cases h
  · split at h
    · first | (cases h; done) | (obtain ⟨hb, h⟩ := bnd_inv h; cases h)
    · cases h
  · split at h
    · first | (cases h; done) | (obtain ⟨hb, h⟩ := bnd_inv h; cases h)
    · cases h
  · split at h
    · first | (cases h; done) | (obtain ⟨hb, h⟩ := bnd_inv h; cases h)
    · cases h
  · split at h
    · first | (cases h; done) | (obtain ⟨hb, h⟩ := bnd_inv h; cases h)
    · cases h
  · cases h
theorem run_keep : ∀ (n r m pc : Nat) (ls : Lsl) (st : List AV) (M : Mem) (S : Sh) (x : Res), am_run n r m pc ls st M S = some x → Kp M S x.2.1 x.2.2 := by
  intro n
  induction n with
  | zero => intro r m pc ls st M S x h; cases h
  | succ n ih =>
    intro r m pc ls st M S x h
    rw [am_run] at h
    cases hf : fetch m pc with
    | none => rw [hf] at h; cases h
    | some f =>
      rw [hf, Option.bind_some] at h
      cases hs : am_step f pc ls st M S with
      | none => rw [hs] at h; cases h
      | some rr =>
        rw [hs] at h
        rcases rr with ⟨pc', ls', st', M', S'⟩ | v | ⟨m', as, pc', st', hr⟩
        · exact Kp_t (step_mono hs).1 (step_keep (okFb_n (okFb_f hf)) hs) (ih _ _ _ _ _ _ _ _ h)
        · cases h
          exact Kp_r _ _
        · dsimp only at h
          split at h
          · cases h1 : am_run n (rk m' as) m' 0 (ini m' as) [] M S with
            | none => rw [h1] at h; cases h
            | some y =>
              rw [h1] at h
              obtain ⟨v, M', S'⟩ := y
              dsimp only at h
              split at h
              · exact Kp_t (run_mono _ _ _ _ _ _ _ _ _ h1).1 (ih _ _ _ _ _ _ _ _ h1) (ih _ _ _ _ _ _ _ _ h)
              · cases h
          · cases h
theorem res_keep {m : Nat} {as : List AV} {M M' : Mem} {S S' : Sh} {v : Option AV} (h : res m as M S = some (v, M', S')) : Kp M S M' S' ∧ S.2.2.2.1 ≤ S'.2.2.2.1 ∧ S.2.2.2.2 ≤ S'.2.2.2.2 := by
  rw [res_eq] at h
  obtain ⟨n, hn⟩ := go_iff.mp h
  have q := run_mono _ _ _ _ _ _ _ _ _ hn
  exact ⟨run_keep _ _ _ _ _ _ _ _ _ hn, q.1, q.2.1⟩
