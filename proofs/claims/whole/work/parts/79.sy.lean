/-! the model's reading of an E, over tokens: signs held (the last one first), codes put (the last one first) -/
def rkS (s : Int) : Nat := if s = 0 then 0 else if s = 11 then 1 else if s = 12 then 2 else if s = 13 then 3 else if s ≤ 15 then 4 else if s ≤ 17 then 5 else if s = 18 then 6 else 7
def sgn (k : Int) : Int := if k = 4 then 11 else if k = 5 then 12 else if k = 60 then 14 else if k = 61 then 15 else if k = 43 then 16 else if k = 45 then 17 else if k = 42 then 18 else -1
def unw (l : Nat) : List Int → List Int → List Int × List Int
  | [], o => ([], o)
  | s :: H, o => if l ≤ rkS s then unw l H (s :: o) else (s :: H, o)
def cN (s : Int) : Nat := if s = 0 ∨ s = 13 ∨ s = 19 then 1 else 0
def opn : List Int → Nat
  | [] => 0
  | s :: H => cN s + opn H
def tpl (l : Nat) : List Int → Prop
  | [] => True
  | s :: _ => rkS s ≤ l
def tp4 : List Int → Bool
  | [] => false
  | s :: _ => decide (rkS s = 4)
abbrev OutT : Type := Int ⊕ (List Tok × List Int)
def lvl (k : Int) : Nat := if rkS (sgn k) = 4 then 5 else rkS (sgn k)
def syR : List Tok → Bool → Bool → List Int → List Int → OutT
  | [], _, _, _, _ => Sum.inl (-1)
  | t :: ts, w, mn, H, o =>
    if w = true then
      (if t.1 = 1 then syR ts false false (unw 7 H ((100000 + t.2.1) :: o)).1 (unw 7 H ((100000 + t.2.1) :: o)).2
      else if t.1 = 2 then syR ts false false (unw 7 H (t.2.1 :: o)).1 (unw 7 H (t.2.1 :: o)).2
      else if t.1 = 6 ∧ mn = true then (if opn H = 5 then Sum.inl t.2.2 else syR ts true true (13 :: H) o)
      else if t.1 = 45 then (if opn H = 5 then Sum.inl t.2.2 else syR ts true false (19 :: H) o)
      else if t.1 = 40 then (if opn H = 5 then Sum.inl t.2.2 else syR ts true true (0 :: H) o)
      else Sum.inl t.2.2)
    else
      (if t.1 = 59 then (if (unw 1 H o).1 = [] then Sum.inr (ts, (unw 1 H o).2) else Sum.inl t.2.2)
      else if t.1 = 41 then (if (unw 1 H o).1 = [] then Sum.inl t.2.2 else syR ts false false (unw 7 (unw 1 H o).1.tail (unw 1 H o).2).1 (unw 7 (unw 1 H o).1.tail (unw 1 H o).2).2)
      else if sgn t.1 = -1 then Sum.inl t.2.2
      else if rkS (sgn t.1) = 4 ∧ tp4 (unw (lvl t.1) H o).1 = true then Sum.inl t.2.2
      else syR ts true (decide (sgn t.1 ≤ 12)) (sgn t.1 :: (unw (lvl t.1) H o).1) (unw (lvl t.1) H o).2)
theorem sy_num {t : Tok} {ts : List Tok} {mn : Bool} {H o : List Int} (h : t.1 = 1) : syR (t :: ts) true mn H o = syR ts false false (unw 7 H ((100000 + t.2.1) :: o)).1 (unw 7 H ((100000 + t.2.1) :: o)).2 := by
  rw [syR, if_pos rfl, if_pos h]
theorem sy_nam {t : Tok} {ts : List Tok} {mn : Bool} {H o : List Int} (h : t.1 = 2) : syR (t :: ts) true mn H o = syR ts false false (unw 7 H (t.2.1 :: o)).1 (unw 7 H (t.2.1 :: o)).2 := by
  rw [syR, if_pos rfl, if_neg (by omega), if_pos h]
theorem sy_not {t : Tok} {ts : List Tok} {H o : List Int} (h : t.1 = 6) : syR (t :: ts) true true H o = if opn H = 5 then Sum.inl t.2.2 else syR ts true true (13 :: H) o := by
  rw [syR, if_pos rfl, if_neg (by omega), if_neg (by omega), if_pos ⟨h, rfl⟩]
theorem sy_neg {t : Tok} {ts : List Tok} {mn : Bool} {H o : List Int} (h : t.1 = 45) : syR (t :: ts) true mn H o = if opn H = 5 then Sum.inl t.2.2 else syR ts true false (19 :: H) o := by
  rw [syR, if_pos rfl, if_neg (by omega), if_neg (by omega), if_neg (fun z => by have := z.1; omega), if_pos h]
theorem sy_par {t : Tok} {ts : List Tok} {mn : Bool} {H o : List Int} (h : t.1 = 40) : syR (t :: ts) true mn H o = if opn H = 5 then Sum.inl t.2.2 else syR ts true true (0 :: H) o := by
  rw [syR, if_pos rfl, if_neg (by omega), if_neg (by omega), if_neg (fun z => by have := z.1; omega), if_neg (by omega), if_pos h]
theorem sy_bad {t : Tok} {ts : List Tok} {mn : Bool} {H o : List Int} (h1 : t.1 ≠ 1) (h2 : t.1 ≠ 2) (h6 : t.1 = 6 → mn = false) (h4 : t.1 ≠ 45) (h5 : t.1 ≠ 40) : syR (t :: ts) true mn H o = Sum.inl t.2.2 := by
  rw [syR, if_pos rfl, if_neg h1, if_neg h2, if_neg (fun z => by rw [h6 z.1] at z; exact absurd z.2 (by decide)), if_neg h4, if_neg h5]
theorem sy_end {t : Tok} {ts : List Tok} {H o : List Int} (h : t.1 = 59) : syR (t :: ts) false false H o = if (unw 1 H o).1 = [] then Sum.inr (ts, (unw 1 H o).2) else Sum.inl t.2.2 := by
  rw [syR, if_neg (by decide), if_pos h]
theorem sy_clo {t : Tok} {ts : List Tok} {H o : List Int} (h : t.1 = 41) : syR (t :: ts) false false H o = if (unw 1 H o).1 = [] then Sum.inl t.2.2 else syR ts false false (unw 7 (unw 1 H o).1.tail (unw 1 H o).2).1 (unw 7 (unw 1 H o).1.tail (unw 1 H o).2).2 := by
  rw [syR, if_neg (by decide), if_neg (by omega), if_pos h]
theorem sy_non {t : Tok} {ts : List Tok} {H o : List Int} (h1 : t.1 ≠ 59) (h2 : t.1 ≠ 41) (h : sgn t.1 = -1) : syR (t :: ts) false false H o = Sum.inl t.2.2 := by
  rw [syR, if_neg (by decide), if_neg h1, if_neg h2, if_pos h]
theorem sy_sig {t : Tok} {ts : List Tok} {H o : List Int} (h1 : t.1 ≠ 59) (h2 : t.1 ≠ 41) (h : sgn t.1 ≠ -1) : syR (t :: ts) false false H o = if rkS (sgn t.1) = 4 ∧ tp4 (unw (lvl t.1) H o).1 = true then Sum.inl t.2.2 else syR ts true (decide (sgn t.1 ≤ 12)) (sgn t.1 :: (unw (lvl t.1) H o).1) (unw (lvl t.1) H o).2 := by
  rw [syR, if_neg (by decide), if_neg h1, if_neg h2, if_neg h]
theorem unw_y {l : Nat} {s : Int} {H o : List Int} (h : l ≤ rkS s) : unw l (s :: H) o = unw l H (s :: o) := if_pos h
theorem unw_n {l : Nat} {s : Int} {H o : List Int} (h : rkS s < l) : unw l (s :: H) o = (s :: H, o) := if_neg (by omega)
theorem unw_0 {l m : Nat} {H o : List Int} (h : tpl m H) (hm : m < l) : unw l H o = (H, o) := by
  cases H with
  | nil => rfl
  | cons s H =>
    have h' : rkS s ≤ m := h
    exact unw_n (by omega)
theorem tpl_le {l m : Nat} {H : List Int} (h : tpl l H) (hm : l ≤ m) : tpl m H := by
  cases H with
  | nil => exact trivial
  | cons s H =>
    have h' : rkS s ≤ l := h
    show rkS s ≤ m
    omega
theorem tp4_n {l : Nat} {H : List Int} (h : tpl l H) (h4 : l < 4) : ¬ tp4 H = true := by
  cases H with
  | nil => exact fun z => absurd z (by decide)
  | cons s H =>
    have h' : rkS s ≤ l := h
    intro z
    have := of_decide_eq_true z
    omega
/-- how far the signs ahead are unwound by a token -/
def lvA (k : Int) : Nat := if k = 59 ∨ k = 41 then 1 else if sgn k = -1 then 0 else lvl k
theorem sy_U {t : Tok} {ts : List Tok} {s : Int} {H o : List Int} (h : lvA t.1 ≤ rkS s) : syR (t :: ts) false false (s :: H) o = syR (t :: ts) false false H (s :: o) := by
  unfold lvA at h
  by_cases h1 : t.1 = 59
  · rw [if_pos (Or.inl h1)] at h
    rw [sy_end h1, sy_end h1, unw_y h]
  · by_cases h2 : t.1 = 41
    · rw [if_pos (Or.inr h2)] at h
      rw [sy_clo h2, sy_clo h2, unw_y h]
    · rw [if_neg (by omega)] at h
      by_cases h3 : sgn t.1 = -1
      · rw [sy_non h1 h2 h3, sy_non h1 h2 h3]
      · rw [if_neg h3] at h
        rw [sy_sig h1 h2 h3, sy_sig h1 h2 h3, unw_y h]
/-- tokens by kind -/
def isCm (k : Int) : Prop := k = 60 ∨ k = 61
theorem lvA_6 (k : Int) : lvA k ≤ 6 := by
  unfold lvA lvl sgn
  repeat' split
  all_goals first | omega | (unfold rkS; repeat' split) <;> omega
theorem lvA_5 {k : Int} (h : k ≠ 42) : lvA k ≤ 5 := by
  unfold lvA lvl sgn
  repeat' split
  all_goals first | omega | (unfold rkS; repeat' split) <;> omega
theorem sgn_o {k : Int} (h4 : k ≠ 4) (h5 : k ≠ 5) (h : k ≠ 42) (h1 : k ≠ 43) (h2 : k ≠ 45) (h3 : ¬ isCm k) : sgn k = -1 := by
  unfold isCm at h3
  unfold sgn
  rw [if_neg h4, if_neg h5, if_neg (by omega), if_neg (by omega), if_neg h1, if_neg h2, if_neg h]
theorem lvA_0 {k : Int} (h4 : k ≠ 4) (h5 : k ≠ 5) (h : k ≠ 42) (h1 : k ≠ 43) (h2 : k ≠ 45) (h3 : ¬ isCm k) : lvA k ≤ 1 := by
  unfold lvA
  by_cases h9 : k = 59 ∨ k = 41
  · rw [if_pos h9]; omega
  · rw [if_neg h9, if_pos (sgn_o h4 h5 h h1 h2 h3)]; omega
theorem lvA_1 {k : Int} (h : k ≠ 42) (h1 : k ≠ 43) (h2 : k ≠ 45) (h3 : ¬ isCm k) (h5 : k ≠ 5) : lvA k ≤ 1 := by
  by_cases h4 : k = 4
  · rw [h4]; decide
  · exact lvA_0 h4 h5 h h1 h2 h3
theorem lvA_2 {k : Int} (h : k ≠ 42) (h1 : k ≠ 43) (h2 : k ≠ 45) (h3 : ¬ isCm k) : lvA k ≤ 2 := by
  by_cases h5 : k = 5
  · rw [h5]; decide
  · have := lvA_1 h h1 h2 h3 h5
    omega
/-- behind a NOT: a second < or = in it is a fault -/
def cnN : List Tok → List Int → List Int → OutT
  | [], _, _ => Sum.inl (-1)
  | t :: ts, H, o => if t.1 = 60 ∨ t.1 = 61 then Sum.inl t.2.2 else syR (t :: ts) false false H o
theorem cnN_t {t : Tok} {ts : List Tok} {H o : List Int} (h : isCm t.1) : cnN (t :: ts) H o = Sum.inl t.2.2 := if_pos h
theorem cnN_f {t : Tok} {ts : List Tok} {H o : List Int} (h : ¬ isCm t.1) : cnN (t :: ts) H o = syR (t :: ts) false false H o := if_neg h
/-- heights, from b codes on -/
def hB (b : Nat) : List Int → Nat
  | [] => 0
  | c :: o => if o.length < b then 0 else hOf c (hB b o)
def okB (b : Nat) : List Int → Prop
  | [] => True
  | c :: o => (b ≤ o.length → okC c (hB b o)) ∧ okB b o
theorem hB_0 {b : Nat} {o : List Int} (h : o.length ≤ b) : hB b o = 0 := by
  cases o with
  | nil => rfl
  | cons c o =>
    rw [List.length_cons] at h
    exact if_pos (by omega)
theorem hB_s {b : Nat} {c : Int} {o : List Int} (h : b ≤ o.length) : hB b (c :: o) = hOf c (hB b o) := if_neg (by omega)
theorem okB_s {b : Nat} {c : Int} {o : List Int} (h : okC c (hB b o)) (h2 : okB b o) : okB b (c :: o) := ⟨fun _ => h, h2⟩
theorem okB_lt {b : Nat} : ∀ {o : List Int}, o.length ≤ b → okB b o := by
  intro o
  induction o with
  | nil => intro _; exact trivial
  | cons c o ih =>
    intro h
    rw [List.length_cons] at h
    exact ⟨fun z => absurd z (by omega), ih (by omega)⟩
/-- one value more -/
def Up (o o' : List Int) : Prop := (∃ seg, o' = seg ++ o) ∧ ∀ b, b ≤ o.length → hB b o' = hB b o + 1 ∧ (okB b o → okB b o')
theorem Up_v {c : Int} {o : List Int} (h : (100000 ≤ c ∧ c ≤ 109999) ∨ (0 ≤ c ∧ c < 6)) : Up o (c :: o) := by
  refine ⟨⟨[c], rfl⟩, fun b hb => ⟨?_, fun z => okB_s ?_ z⟩⟩
  · rw [hB_s hb, hOf_1 (by omega)]
  · unfold okC; omega
theorem Up_u {c : Int} {o o' : List Int} (u : Up o o') (h : c = 13 ∨ c = 19) : Up o (c :: o') := by
  obtain ⟨⟨seg, e⟩, u⟩ := u
  have hl : o.length ≤ o'.length := by rw [e, List.length_append]; omega
  refine ⟨⟨c :: seg, by rw [e]; rfl⟩, fun b hb => ⟨?_, fun z => okB_s ?_ ((u b hb).2 z)⟩⟩
  · rw [hB_s (by omega), hOf_3 h, (u b hb).1]
  · rw [(u b hb).1]; unfold okC; omega
theorem Up_b {c : Int} {o o1 o2 : List Int} (u1 : Up o o1) (u2 : Up o1 o2) (h : c = 11 ∨ c = 12 ∨ (14 ≤ c ∧ c ≤ 18)) : Up o (c :: o2) := by
  obtain ⟨⟨s1, e1⟩, u1⟩ := u1
  obtain ⟨⟨s2, e2⟩, u2⟩ := u2
  have l1 : o.length ≤ o1.length := by rw [e1, List.length_append]; omega
  have l2 : o1.length ≤ o2.length := by rw [e2, List.length_append]; omega
  refine ⟨⟨c :: (s2 ++ s1), by rw [e2, e1]; simp only [List.cons_append, List.append_assoc]⟩, fun b hb => ⟨?_, fun z => okB_s ?_ ((u2 b (by omega)).2 ((u1 b hb).2 z))⟩⟩
  · rw [hB_s (by omega), hOf_5 (by omega) (by omega) (by omega) (by omega), (u2 b (by omega)).1, (u1 b hb).1]; omega
  · rw [(u2 b (by omega)).1, (u1 b hb).1]; unfold okC; omega
theorem Up_len {o o' : List Int} (u : Up o o') : o.length < o'.length := by
  obtain ⟨⟨seg, e⟩, u⟩ := u
  have h := (u o.length (Nat.le_refl _)).1
  by_cases hl : o'.length ≤ o.length
  · rw [hB_0 hl] at h; omega
  · omega
/-- the whole text: its three parts' codes, one behind another -/
def tx1 (p : Int) : List Tok → List Int → OutT
  | [], _ => Sum.inl (-1)
  | t :: ts, o => if t.1 = 3 ∧ t.2.1 = p then syR ts true true [] o else Sum.inl t.2.2
def bO {α : Type} (r : OutT) (k : List Tok → List Int → Int ⊕ α) : Int ⊕ α := match r with
  | .inl q => .inl q
  | .inr u => k u.1 u.2
def txE : List Tok → Int ⊕ Unit
  | [] => Sum.inl (-1)
  | t :: _ => if t.1 = 0 then Sum.inr () else Sum.inl t.2.2
def txR (ts : List Tok) : Int ⊕ (List Int × List Int × List Int) := bO (tx1 0 ts []) fun t1 o1 => bO (tx1 1 t1 o1) fun t2 o2 => bO (tx1 2 t2 o2) fun t3 o3 => match txE t3 with
  | .inl q => .inl q
  | .inr _ => .inr (o1, o2, o3)
