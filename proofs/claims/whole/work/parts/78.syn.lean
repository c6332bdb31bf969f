/-! tokens -/
def bBl (c : Int) : Bool := decide (c = 32 ∨ c = 10)
def bLe (c : Int) : Bool := decide (97 ≤ c ∧ c ≤ 122)
def bDi (c : Int) : Bool := decide (48 ≤ c ∧ c ≤ 57)
def bSg (c : Int) : Bool := decide (c = 40 ∨ c = 41 ∨ c = 59 ∨ c = 43 ∨ c = 45 ∨ c = 42 ∨ c = 60 ∨ c = 61)
/-- the first place from p on, k at most on, that P is not true of -/
def spn (P : Int → Bool) (f : Nat → Int) : Nat → Nat → Nat
  | 0, p => p
  | k + 1, p => if P (f p) = true then spn P f k (p + 1) else p
theorem spn_s {P : Int → Bool} {f : Nat → Int} {k p : Nat} (h : P (f p) = true) : spn P f (k + 1) p = spn P f k (p + 1) := if_pos h
theorem spn_e {P : Int → Bool} {f : Nat → Int} {k p : Nat} (h : P (f p) = false) : spn P f (k + 1) p = p := if_neg (by rw [h]; decide)
theorem spn_ge (P : Int → Bool) (f : Nat → Int) : ∀ k p, p ≤ spn P f k p ∧ spn P f k p ≤ p + k := by
  intro k
  induction k with
  | zero => intro p; exact ⟨Nat.le_refl _, Nat.le_refl _⟩
  | succ k ih =>
    intro p
    cases h : P (f p)
    · rw [spn_e h]; omega
    · rw [spn_s h]
      have := ih (p + 1)
      omega
theorem spn_in (P : Int → Bool) (f : Nat → Int) : ∀ k p j, p ≤ j → j < spn P f k p → P (f j) = true := by
  intro k
  induction k with
  | zero => intro p j h1 h2; exact absurd h2 (by show ¬ j < p; omega)
  | succ k ih =>
    intro p j h1 h2
    cases h : P (f p)
    · rw [spn_e h] at h2; omega
    · rw [spn_s h] at h2
      by_cases hj : j = p
      · rw [hj]; exact h
      · exact ih (p + 1) j (by omega) h2
theorem spn_out (P : Int → Bool) (f : Nat → Int) : ∀ k p, spn P f k p < p + k → P (f (spn P f k p)) = false := by
  intro k
  induction k with
  | zero => intro p h; exact absurd h (by show ¬ p < p + 0; omega)
  | succ k ih =>
    intro p h2
    cases h : P (f p)
    · rw [spn_e h]; exact h
    · rw [spn_s h] at h2 ⊢
      exact ih (p + 1) (by omega)
def dv (f : Nat → Int) (p : Nat) : Nat → Int
  | 0 => 0
  | n + 1 => 10 * dv f p n + (f (p + n) - 48)
theorem bDi_t {c : Int} (h : bDi c = true) : 48 ≤ c ∧ c ≤ 57 := of_decide_eq_true h
theorem bDi_f {c : Int} (h : bDi c = false) : ¬ (48 ≤ c ∧ c ≤ 57) := of_decide_eq_false h
theorem bLe_t {c : Int} (h : bLe c = true) : 97 ≤ c ∧ c ≤ 122 := of_decide_eq_true h
theorem bLe_f {c : Int} (h : bLe c = false) : ¬ (97 ≤ c ∧ c ≤ 122) := of_decide_eq_false h
theorem bBl_t {c : Int} (h : bBl c = true) : c = 32 ∨ c = 10 := of_decide_eq_true h
theorem bBl_f {c : Int} (h : bBl c = false) : ¬ (c = 32 ∨ c = 10) := of_decide_eq_false h
theorem bSg_t {c : Int} (h : bSg c = true) : c = 40 ∨ c = 41 ∨ c = 59 ∨ c = 43 ∨ c = 45 ∨ c = 42 ∨ c = 60 ∨ c = 61 := of_decide_eq_true h
theorem bSg_f {c : Int} (h : bSg c = false) : ¬ (c = 40 ∨ c = 41 ∨ c = 59 ∨ c = 43 ∨ c = 45 ∨ c = 42 ∨ c = 60 ∨ c = 61) := of_decide_eq_false h
theorem dv_le {f : Nat → Int} {p n : Nat} (hd : ∀ j, j < n → 48 ≤ f (p + j) ∧ f (p + j) ≤ 57) (h4 : n ≤ 4) : 0 ≤ dv f p n ∧ dv f p n ≤ 9999 := by
  have e0 : dv f p 0 = 0 := rfl
  have e1 : dv f p 1 = 10 * dv f p 0 + (f (p + 0) - 48) := rfl
  have e2 : dv f p 2 = 10 * dv f p 1 + (f (p + 1) - 48) := rfl
  have e3 : dv f p 3 = 10 * dv f p 2 + (f (p + 2) - 48) := rfl
  have e4 : dv f p 4 = 10 * dv f p 3 + (f (p + 3) - 48) := rfl
  rcases (by omega : n = 0 ∨ n = 1 ∨ n = 2 ∨ n = 3 ∨ n = 4) with rfl | rfl | rfl | rfl | rfl
  · omega
  · have := hd 0 (by omega); omega
  · have := hd 0 (by omega); have := hd 1 (by omega); omega
  · have := hd 0 (by omega); have := hd 1 (by omega); have := hd 2 (by omega); omega
  · have := hd 0 (by omega); have := hd 1 (by omega); have := hd 2 (by omega); have := hd 3 (by omega); omega
/-- the words, eight letters each, in the model's order; six each in the class's -/
def wTl : List Int := [115, 101, 101, 115, 32, 32, 32, 32, 100, 114, 105, 102, 116, 115, 32, 32, 102, 114, 111, 115, 116, 115, 32, 32, 104, 105, 108, 108, 32, 32, 32, 32, 119, 105, 110, 100, 32, 32, 32, 32, 109, 111, 114, 101, 32, 32, 32, 32, 104, 111, 117, 114, 32, 32, 32, 32, 99, 108, 105, 99, 107, 115, 32, 32, 114, 111, 119, 32, 32, 32, 32, 32, 111, 114, 32, 32, 32, 32, 32, 32, 97, 110, 100, 32, 32, 32, 32, 32, 110, 111, 116, 32, 32, 32, 32, 32]
def wT (i : Nat) : Int := wTl.getD i 0
def cT (i : Nat) : Int := (am_str 4).getD i 0
def ch (f : Nat → Int) (a n c : Nat) : Int := if c < n then f (a + c) else 32
def aB (p : Nat → Bool) : Nat → Bool
  | 0 => true
  | n + 1 => aB p n && p n
theorem aB_t {p : Nat → Bool} : ∀ {n : Nat}, aB p n = true → ∀ c, c < n → p c = true := by
  intro n
  induction n with
  | zero => intro _ c hc; exact absurd hc (Nat.not_lt_zero c)
  | succ n ih =>
    intro h c hc
    have q := Bool.and_eq_true_iff.mp h
    by_cases hcn : c = n
    · rw [hcn]; exact q.2
    · exact ih q.1 c (by omega)
theorem aB_i {p : Nat → Bool} : ∀ {n : Nat}, (∀ c, c < n → p c = true) → aB p n = true := by
  intro n
  induction n with
  | zero => intro _; rfl
  | succ n ih =>
    intro h
    exact Bool.and_eq_true_iff.mpr ⟨ih (fun c hc => h c (by omega)), h n (by omega)⟩
def mtM (f : Nat → Int) (a n k : Nat) : Bool := decide (n ≤ 8) && aB (fun c => decide (wT (8 * k + c) = ch f a n c)) 8
def mtC (f : Nat → Int) (a n w : Nat) : Bool := aB (fun c => decide (cT (6 * w + c) = ch f a n c)) 6
def fstB (p : Nat → Bool) : Nat → Nat → Nat
  | 0, k => k
  | r + 1, k => if p k = true then k else fstB p r (k + 1)
theorem fstB_t {p : Nat → Bool} {r k : Nat} (h : p k = true) : fstB p (r + 1) k = k := if_pos h
theorem fstB_f {p : Nat → Bool} {r k : Nat} (h : p k = false) : fstB p (r + 1) k = fstB p r (k + 1) := if_neg (by rw [h]; decide)
theorem fstB_ge (p : Nat → Bool) : ∀ r k, k ≤ fstB p r k ∧ fstB p r k ≤ k + r := by
  intro r
  induction r with
  | zero => intro k; exact ⟨Nat.le_refl _, Nat.le_refl _⟩
  | succ r ih =>
    intro k
    cases h : p k
    · rw [fstB_f h]
      have := ih (k + 1)
      omega
    · rw [fstB_t h]; omega
theorem fstB_in (p : Nat → Bool) : ∀ r k, fstB p r k < k + r → p (fstB p r k) = true := by
  intro r
  induction r with
  | zero => intro k h; exact absurd h (by show ¬ k < k + 0; omega)
  | succ r ih =>
    intro k h2
    cases h : p k
    · rw [fstB_f h] at h2 ⊢
      exact ih (k + 1) (by omega)
    · rw [fstB_t h]; exact h
theorem fstB_out (p : Nat → Bool) : ∀ r k j, k ≤ j → j < fstB p r k → p j = false := by
  intro r
  induction r with
  | zero => intro k j h1 h2; exact absurd h2 (by show ¬ j < k; omega)
  | succ r ih =>
    intro k j h1 h2
    cases h : p k
    · rw [fstB_f h] at h2
      by_cases hj : j = k
      · rw [hj]; exact h
      · exact ih (k + 1) j (by omega) h2
    · rw [fstB_t h] at h2; omega
/-- which word n letters from a on are, in the model's order; 12: none -/
def wd (f : Nat → Int) (a n : Nat) : Nat := fstB (mtM f a n) 12 0
def cw (k : Nat) : Int := if k < 3 then (k : Int) else if k < 9 then (k : Int) + 3 else if k < 12 then (k : Int) - 6 else -1
/-- the class's place of a word of the model's -/
def pm (k : Nat) : Nat := if k < 3 then k else if k < 9 then k + 3 else k - 6
def pmi (w : Nat) : Nat := if w < 3 then w else if w < 6 then w + 6 else w - 3
theorem wT_d : ∀ k, k < 12 → ∀ k', k' < 12 → (∀ c, c < 8 → wT (8 * k + c) = wT (8 * k' + c)) → k = k' := by decide +kernel
theorem wT_c : ∀ k, k < 12 → ∀ c, c < 6 → wT (8 * k + c) = cT (6 * pm k + c) := by decide +kernel
theorem wT_6 : ∀ k, k < 12 → wT (8 * k + 6) = 32 ∧ wT (8 * k + 7) = 32 := by decide +kernel
theorem pm_i : ∀ w, w < 12 → pm (pmi w) = w ∧ pmi w < 12 ∧ cw (pmi w) = (w : Int) := by decide +kernel
theorem pm_lt : ∀ k, k < 12 → pm k < 12 := by decide +kernel
theorem mtM_u {f : Nat → Int} {a n k k' : Nat} (h : k < 12) (h' : k' < 12) (e : mtM f a n k = true) (e' : mtM f a n k' = true) : k = k' := by
  refine wT_d k h k' h' (fun c hc => ?_)
  have q := of_decide_eq_true (aB_t (Bool.and_eq_true_iff.mp e).2 c hc)
  have q' := of_decide_eq_true (aB_t (Bool.and_eq_true_iff.mp e').2 c hc)
  rw [q, q']
theorem mtM_C {f : Nat → Int} {a n k : Nat} (h : k < 12) (hn : n ≤ 6) : mtM f a n k = mtC f a n (pm k) := by
  apply Bool.eq_iff_iff.mpr
  constructor
  · intro e
    refine aB_i (fun c hc => decide_eq_true ?_)
    rw [← wT_c k h c hc]
    exact of_decide_eq_true (aB_t (Bool.and_eq_true_iff.mp e).2 c (by omega))
  · intro e
    refine Bool.and_eq_true_iff.mpr ⟨decide_eq_true (by omega), aB_i (fun c hc => decide_eq_true ?_)⟩
    by_cases h6 : c < 6
    · rw [wT_c k h c h6]
      exact of_decide_eq_true (aB_t e c h6)
    · have q := wT_6 k h
      have e1 : ch f a n c = 32 := if_neg (by omega)
      rw [e1]
      rcases (by omega : c = 6 ∨ c = 7) with rfl | rfl
      · exact q.1
      · exact q.2
theorem wd_le {f : Nat → Int} {a n : Nat} : wd f a n ≤ 12 := by
  have := fstB_ge (mtM f a n) 12 0
  unfold wd
  omega
theorem wd_long {f : Nat → Int} {a n : Nat} (hf : ∀ c, c < n → 97 ≤ f (a + c)) (hn : 6 < n) : wd f a n = 12 := by
  have l := @wd_le f a n
  by_cases h : wd f a n < 12
  · have e := fstB_in (mtM f a n) 12 0 (by unfold wd at h; omega)
    have q := Bool.and_eq_true_iff.mp e
    have q6 := of_decide_eq_true (aB_t q.2 6 (by omega))
    rw [(wT_6 (fstB (mtM f a n) 12 0) h).1] at q6
    have e1 : ch f a n 6 = f (a + 6) := if_pos hn
    rw [e1] at q6
    have := hf 6 hn
    omega
  · omega
theorem wd_c {f : Nat → Int} {a n : Nat} (hn : n ≤ 6) : (fstB (mtC f a n) 12 0 < 12 → cw (wd f a n) = (fstB (mtC f a n) 12 0 : Nat)) ∧ (fstB (mtC f a n) 12 0 = 12 → cw (wd f a n) = -1) := by
  have l := @wd_le f a n
  constructor
  · intro h
    have e := fstB_in (mtC f a n) 12 0 (by omega)
    obtain ⟨w, hw⟩ : ∃ w, w = fstB (mtC f a n) 12 0 := ⟨_, rfl⟩
    rw [← hw] at e h ⊢
    obtain ⟨hp, hp2, hp3⟩ := pm_i w h
    have e2 : mtM f a n (pmi w) = true := by rw [mtM_C hp2 hn, hp]; exact e
    have hk : wd f a n ≤ pmi w := by
      by_cases hlt : pmi w < wd f a n
      · have := fstB_out (mtM f a n) 12 0 (pmi w) (by omega) hlt
        rw [e2] at this
        cases this
      · omega
    have e3 : mtM f a n (wd f a n) = true := fstB_in (mtM f a n) 12 0 (by unfold wd at hk; omega)
    have e4 := mtM_u (by omega) hp2 e3 e2
    rw [e4]
    exact hp3
  · intro h
    by_cases hk : wd f a n < 12
    · have e3 : mtM f a n (wd f a n) = true := fstB_in (mtM f a n) 12 0 (by unfold wd at hk; omega)
      rw [mtM_C hk hn] at e3
      have hp : pm (wd f a n) < 12 := pm_lt _ hk
      have := fstB_out (mtC f a n) 12 0 (pm (wd f a n)) (by omega) (by omega)
      rw [e3] at this
      cases this
    · unfold cw
      rw [if_neg (by omega), if_neg (by omega), if_neg (by omega)]
abbrev Tok : Type := Int × Int × Int
def pl (f : Nat → Int) (sz p : Nat) : Nat := spn bBl f (sz - p) p
def leE (f : Nat → Int) (sz q : Nat) : Nat := spn bLe f (sz - q) q
def diE (f : Nat → Int) (sz q : Nat) : Nat := spn bDi f (sz - q) q
def wkd (k : Nat) : Int × Int := if k < 3 then (3, (k : Int)) else if k < 9 then (2, (k : Int) - 3) else if k < 12 then ((k : Int) - 5, 0) else (-1, 0)
/-- the token at q, which is no blank: kind (of the model's) and value, and where it ends -/
def tkOf (f : Nat → Int) (sz q : Nat) : (Int × Int) × Nat :=
  if sz ≤ q then ((0, 0), q) else if bLe (f q) = true then (wkd (wd f q (leE f sz q - q)), leE f sz q) else if bDi (f q) = true then ((if diE f sz q - q ≤ 4 then (1, dv f q (diE f sz q - q)) else (-1, 0)), diE f sz q) else ((if bSg (f q) = true then (f q, 0) else (-1, 0)), q + 1)
theorem tk_end {f : Nat → Int} {sz q : Nat} (h : sz ≤ q) : tkOf f sz q = ((0, 0), q) := if_pos h
theorem tk_let {f : Nat → Int} {sz q : Nat} (h : q < sz) (h1 : bLe (f q) = true) : tkOf f sz q = (wkd (wd f q (leE f sz q - q)), leE f sz q) := by
  unfold tkOf
  rw [if_neg (by omega), if_pos h1]
theorem tk_dig {f : Nat → Int} {sz q : Nat} (h : q < sz) (h1 : bLe (f q) = false) (h2 : bDi (f q) = true) : tkOf f sz q = ((if diE f sz q - q ≤ 4 then (1, dv f q (diE f sz q - q)) else (-1, 0)), diE f sz q) := by
  unfold tkOf
  rw [if_neg (by omega), if_neg (by rw [h1]; decide), if_pos h2]
theorem tk_sig {f : Nat → Int} {sz q : Nat} (h : q < sz) (h1 : bLe (f q) = false) (h2 : bDi (f q) = false) : tkOf f sz q = ((if bSg (f q) = true then (f q, 0) else (-1, 0)), q + 1) := by
  unfold tkOf
  rw [if_neg (by omega), if_neg (by rw [h1]; decide), if_neg (by rw [h2]; decide)]
def tOK (k v : Int) : Prop := k = 0 ∨ k = -1 ∨ (k = 1 ∧ 0 ≤ v ∧ v ≤ 9999) ∨ (k = 2 ∧ 0 ≤ v ∧ v < 6) ∨ (k = 3 ∧ 0 ≤ v ∧ v < 3) ∨ k = 4 ∨ k = 5 ∨ k = 6 ∨ k = 40 ∨ k = 41 ∨ k = 59 ∨ k = 43 ∨ k = 45 ∨ k = 42 ∨ k = 60 ∨ k = 61
theorem wkd_1 {k : Nat} (h : k < 3) : wkd k = (3, (k : Int)) := if_pos h
theorem wkd_2 {k : Nat} (h : 3 ≤ k) (h' : k < 9) : wkd k = (2, (k : Int) - 3) := by
  unfold wkd
  rw [if_neg (by omega), if_pos h']
theorem wkd_3 {k : Nat} (h : 9 ≤ k) (h' : k < 12) : wkd k = ((k : Int) - 5, 0) := by
  unfold wkd
  rw [if_neg (by omega), if_neg (by omega), if_pos h']
theorem wkd_4 {k : Nat} (h : 12 ≤ k) : wkd k = (-1, 0) := by
  unfold wkd
  rw [if_neg (by omega), if_neg (by omega), if_neg (by omega)]
theorem wkd_ok (k : Nat) : tOK (wkd k).1 (wkd k).2 := by
  rcases (by omega : k < 3 ∨ (3 ≤ k ∧ k < 9) ∨ (9 ≤ k ∧ k < 12) ∨ 12 ≤ k) with h | h | h | h
  · rw [wkd_1 h]
    show tOK 3 (k : Int)
    unfold tOK
    omega
  · rw [wkd_2 h.1 h.2]
    show tOK 2 ((k : Int) - 3)
    unfold tOK
    omega
  · rw [wkd_3 h.1 h.2]
    show tOK ((k : Int) - 5) 0
    unfold tOK
    omega
  · rw [wkd_4 h]
    exact Or.inr (Or.inl rfl)
theorem tk_ok (f : Nat → Int) (sz q : Nat) : tOK (tkOf f sz q).1.1 (tkOf f sz q).1.2 := by
  by_cases h : sz ≤ q
  · rw [tk_end h]; exact Or.inl rfl
  · cases h1 : bLe (f q)
    · cases h2 : bDi (f q)
      · rw [tk_sig (by omega) h1 h2]
        cases h3 : bSg (f q)
        · rw [if_neg (by decide)]; exact Or.inr (Or.inl rfl)
        · rw [if_pos rfl]
          have := bSg_t h3
          show tOK (f q) 0
          unfold tOK
          omega
      · rw [tk_dig (by omega) h1 h2]
        by_cases h4 : diE f sz q - q ≤ 4
        · rw [if_pos h4]
          have := dv_le (f := f) (p := q) (n := diE f sz q - q) (fun j hj => bDi_t (spn_in bDi f (sz - q) q (q + j) (by omega) (by unfold diE at hj; omega))) h4
          exact Or.inr (Or.inr (Or.inl ⟨rfl, this⟩))
        · rw [if_neg h4]; exact Or.inr (Or.inl rfl)
    · rw [tk_let (by omega) h1]; exact wkd_ok _
theorem tk_next {f : Nat → Int} {sz q : Nat} (hq : q ≤ sz) : q ≤ (tkOf f sz q).2 ∧ (tkOf f sz q).2 ≤ sz ∧ (q < sz → q < (tkOf f sz q).2) ∧ ((tkOf f sz q).1.1 = 0 ↔ q = sz) := by
  by_cases h : sz ≤ q
  · rw [tk_end h]
    refine ⟨Nat.le_refl _, hq, fun z => absurd z (by omega), ⟨fun _ => by omega, fun _ => rfl⟩⟩
  · cases h1 : bLe (f q)
    · cases h2 : bDi (f q)
      · rw [tk_sig (by omega) h1 h2]
        refine ⟨Nat.le_succ _, by show q + 1 ≤ sz; omega, fun _ => Nat.lt_succ_self _, ⟨fun z => ?_, fun z => absurd z (by omega)⟩⟩
        cases h3 : bSg (f q)
        · rw [h3, if_neg (by decide)] at z; exact absurd z (by show ¬ (-1 : Int) = 0; decide)
        · rw [h3, if_pos rfl] at z
          have := bSg_t h3
          have z' : f q = 0 := z
          omega
      · rw [tk_dig (by omega) h1 h2]
        have g := spn_ge bDi f (sz - q) q
        have g2 : diE f sz q = spn bDi f (sz - q) q := rfl
        have g3 : spn bDi f (sz - q) q = spn bDi f (sz - q - 1) (q + 1) := by
          rw [show sz - q = (sz - q - 1) + 1 by omega, spn_s h2]
          rfl
        have g4 := spn_ge bDi f (sz - q - 1) (q + 1)
        refine ⟨by show q ≤ diE f sz q; omega, by show diE f sz q ≤ sz; omega, fun _ => by show q < diE f sz q; omega, ⟨fun z => ?_, fun z => absurd z (by omega)⟩⟩
        by_cases h4 : diE f sz q - q ≤ 4
        · rw [if_pos h4] at z; exact absurd z (by show ¬ (1 : Int) = 0; decide)
        · rw [if_neg h4] at z; exact absurd z (by show ¬ (-1 : Int) = 0; decide)
    · rw [tk_let (by omega) h1]
      have g := spn_ge bLe f (sz - q) q
      have g2 : leE f sz q = spn bLe f (sz - q) q := rfl
      have g3 : spn bLe f (sz - q) q = spn bLe f (sz - q - 1) (q + 1) := by
        rw [show sz - q = (sz - q - 1) + 1 by omega, spn_s h1]
        rfl
      have g4 := spn_ge bLe f (sz - q - 1) (q + 1)
      refine ⟨by show q ≤ leE f sz q; omega, by show leE f sz q ≤ sz; omega, fun _ => by show q < leE f sz q; omega, ⟨fun z => ?_, fun z => absurd z (by omega)⟩⟩
      have z' : (wkd (wd f q (leE f sz q - q))).1 = 0 := z
      obtain ⟨k, hk⟩ : ∃ k, k = wd f q (leE f sz q - q) := ⟨_, rfl⟩
      rw [← hk] at z'
      exfalso
      rcases (by omega : k < 3 ∨ (3 ≤ k ∧ k < 9) ∨ (9 ≤ k ∧ k < 12) ∨ 12 ≤ k) with h | h | h | h
      · rw [wkd_1 h] at z'; exact absurd z' (by show ¬ (3 : Int) = 0; decide)
      · rw [wkd_2 h.1 h.2] at z'; exact absurd z' (by show ¬ (2 : Int) = 0; decide)
      · rw [wkd_3 h.1 h.2] at z'
        have z2 : (k : Int) - 5 = 0 := z'
        omega
      · rw [wkd_4 h] at z'; exact absurd z' (by show ¬ (-1 : Int) = 0; decide)
theorem pl_le {f : Nat → Int} {sz p : Nat} (h : p ≤ sz) : p ≤ pl f sz p ∧ pl f sz p ≤ sz := by
  have := spn_ge bBl f (sz - p) p
  unfold pl
  omega
/-- the token that is read from p on, and where it ends -/
def tkA (f : Nat → Int) (sz p : Nat) : Tok := ((tkOf f sz (pl f sz p)).1.1, (tkOf f sz (pl f sz p)).1.2, (pl f sz p : Int))
def tkE (f : Nat → Int) (sz p : Nat) : Nat := (tkOf f sz (pl f sz p)).2
def Lx (f : Nat → Int) (sz : Nat) : List Tok → Nat → Prop
  | [], _ => False
  | t :: ts, p => t = tkA f sz p ∧ ((t.1 = 0 ∨ t.1 = -1) → ts = []) ∧ (¬ (t.1 = 0 ∨ t.1 = -1) → Lx f sz ts (tkE f sz p))
theorem tkE_le {f : Nat → Int} {sz p : Nat} (h : p ≤ sz) : p ≤ tkE f sz p ∧ tkE f sz p ≤ sz ∧ ((tkA f sz p).1 ≠ 0 → p < tkE f sz p) := by
  have a := @pl_le f sz p h
  have b := @tk_next f sz (pl f sz p) a.2
  refine ⟨by unfold tkE; omega, by unfold tkE; omega, fun hk => ?_⟩
  have c : pl f sz p ≠ sz := fun z => hk (b.2.2.2.mpr z)
  have := b.2.2.1 (by omega)
  unfold tkE
  omega
theorem Lx_ex (f : Nat → Int) (sz : Nat) : ∀ k p, p ≤ sz → sz - p ≤ k → ∃ ts, Lx f sz ts p ∧ ts.length + p ≤ sz + 1 := by
  intro k
  induction k with
  | zero =>
    intro p h1 h2
    have a := @tkE_le f sz p h1
    have z : (tkA f sz p).1 = 0 := by
      by_cases h : (tkA f sz p).1 = 0
      · exact h
      · have := a.2.2 h; omega
    exact ⟨[tkA f sz p], ⟨rfl, fun _ => rfl, fun h => absurd (Or.inl z) h⟩, by show 1 + p ≤ sz + 1; omega⟩
  | succ k ih =>
    intro p h1 h2
    have a := @tkE_le f sz p h1
    by_cases h : (tkA f sz p).1 = 0 ∨ (tkA f sz p).1 = -1
    · exact ⟨[tkA f sz p], ⟨rfl, fun _ => rfl, fun z => absurd h z⟩, by show 1 + p ≤ sz + 1; omega⟩
    · have b := a.2.2 (fun z => h (Or.inl z))
      obtain ⟨ts, q1, q2⟩ := ih (tkE f sz p) a.2.1 (by omega)
      refine ⟨tkA f sz p :: ts, ⟨rfl, fun z => absurd z h, fun _ => q1⟩, ?_⟩
      rw [List.length_cons]
      omega
theorem Lx_ok {f : Nat → Int} {sz p : Nat} {t : Tok} {ts : List Tok} (h : Lx f sz (t :: ts) p) : tOK t.1 t.2.1 := by
  rw [h.1]
  exact tk_ok f sz (pl f sz p)
theorem Lx_ne {f : Nat → Int} {sz p : Nat} {ts : List Tok} (h : Lx f sz ts p) : 0 < ts.length := by
  cases ts with
  | nil => exact absurd h (fun z => z)
  | cons t ts => rw [List.length_cons]; omega
