/-! rows of memory, the math of a text -/
def tr (n : Nat) (f : Nat → Int) : Nat → Int := fun k => if k < n then f k else 0
theorem tr_lt {n k : Nat} {f : Nat → Int} (h : k < n) : tr n f k = f k := if_pos h
theorem tr_ext {n : Nat} {f g : Nat → Int} (h : ∀ k, k < n → f k = g k) : tr n f = tr n g := by
  funext k
  unfold tr
  by_cases hk : k < n
  · rw [if_pos hk, if_pos hk, h k hk]
  · rw [if_neg hk, if_neg hk]
theorem mset_mrow {M : Mem} {a k : Nat} {f : Nat → Int} {v : Int} : mset (mrow M a f) a k v = mrow M a (fset f k v) := by
  funext b j
  unfold mset mrow fset
  by_cases h1 : b = a
  · by_cases h2 : j = k
    · rw [if_pos ⟨h1, h2⟩, if_pos h1, if_pos h2]
    · rw [if_neg (fun z => h2 z.2), if_pos h1, if_pos h1, if_neg h2]
  · rw [if_neg (fun z => h1 z.1), if_neg h1, if_neg h1]
theorem mset_row {M : Mem} {a k : Nat} {v : Int} : mset M a k v = mrow M a (fset (M a) k v) := by
  funext b j
  unfold mset mrow fset
  by_cases h1 : b = a
  · by_cases h2 : j = k
    · rw [if_pos ⟨h1, h2⟩, if_pos h1, if_pos h2]
    · rw [if_neg (fun z => h2 z.2), if_pos h1, if_neg h2, h1]
  · rw [if_neg (fun z => h1 z.1), if_neg h1]
theorem mrow_mrow {M : Mem} {a : Nat} {f g : Nat → Int} : mrow (mrow M a f) a g = mrow M a g := by
  funext b j
  unfold mrow
  by_cases h1 : b = a
  · rw [if_pos h1, if_pos h1]
  · rw [if_neg h1, if_neg h1, if_neg h1]
theorem mrow_self (M : Mem) (a : Nat) : mrow M a (M a) = M := by
  funext b j
  unfold mrow
  by_cases h1 : b = a
  · rw [if_pos h1, h1]
  · rw [if_neg h1]
def two (c a b : Int) : Int := if c = 11 then (if a ≠ 0 ∨ b ≠ 0 then 1 else 0) else if c = 12 then (if a ≠ 0 ∧ b ≠ 0 then 1 else 0) else if c = 14 then (if a < b then 1 else 0) else if c = 15 then (if a = b then 1 else 0) else if c = 16 then w32 (a + b) else if c = 17 then w32 (a - b) else w32 (a * b)
def evS (c : Int) (nm : Nat → Int) (h : Nat) (s : Nat → Int) : Nat → Int :=
  if 100000 ≤ c then fset s h (c - 100000) else if c < 11 then fset s h (nm c.toNat) else if c = 13 then fset s (h - 1) (if s (h - 1) = 0 then 1 else 0) else if c = 19 then fset s (h - 1) (w32 (-(s (h - 1)))) else fset s (h - 2) (two c (s (h - 2)) (s (h - 1)))
def evF (cd nm : Nat → Int) (lo : Nat) (s0 : Nat → Int) : Nat → Nat → Int
  | 0 => s0
  | k + 1 => evS (cd (lo + k)) nm (hAt cd lo k) (evF cd nm lo s0 k)
/-- what the codes from lo on, n of them, work out -/
def evV (cd nm : Nat → Int) (lo n : Nat) : Int := evF cd nm lo (fun _ => 0) n 0
theorem evS_1 {c : Int} {nm : Nat → Int} {h : Nat} {s : Nat → Int} (e : 100000 ≤ c) : evS c nm h s = fset s h (c - 100000) := if_pos e
theorem evS_2 {c : Int} {nm : Nat → Int} {h : Nat} {s : Nat → Int} (e : c < 11) : evS c nm h s = fset s h (nm c.toNat) := by
  unfold evS
  rw [if_neg (by omega), if_pos e]
theorem evS_3 {nm : Nat → Int} {h : Nat} {s : Nat → Int} : evS 13 nm h s = fset s (h - 1) (if s (h - 1) = 0 then 1 else 0) := by
  unfold evS
  rw [if_neg (by omega), if_neg (by omega), if_pos rfl]
theorem evS_4 {nm : Nat → Int} {h : Nat} {s : Nat → Int} : evS 19 nm h s = fset s (h - 1) (w32 (-(s (h - 1)))) := by
  unfold evS
  rw [if_neg (by omega), if_neg (by omega), if_neg (by omega), if_pos rfl]
theorem evS_5 {c : Int} {nm : Nat → Int} {h : Nat} {s : Nat → Int} (e1 : c < 100000) (e2 : 11 ≤ c) (e3 : c ≠ 13) (e4 : c ≠ 19) : evS c nm h s = fset s (h - 2) (two c (s (h - 2)) (s (h - 1))) := by
  unfold evS
  rw [if_neg (by omega), if_neg (by omega), if_neg (by omega), if_neg (by omega)]
theorem hOf_1 {c : Int} {h : Nat} (e : 100000 ≤ c ∨ c < 11) : hOf c h = h + 1 := if_pos e
theorem hOf_3 {c : Int} {h : Nat} (e : c = 13 ∨ c = 19) : hOf c h = h := by
  unfold hOf
  rw [if_neg (by omega), if_pos e]
theorem hOf_5 {c : Int} {h : Nat} (e1 : c < 100000) (e2 : 11 ≤ c) (e3 : c ≠ 13) (e4 : c ≠ 19) : hOf c h = h - 1 := by
  unfold hOf
  rw [if_neg (by omega), if_neg (by omega)]
theorem evS_agr {c : Int} {nm nm' : Nat → Int} {h : Nat} {s s' : Nat → Int} (ok : okC c h) (hn : ∀ j, j < 6 → nm j = nm' j) (ha : ∀ j, j < h → s j = s' j) : ∀ j, j < hOf c h → evS c nm h s j = evS c nm' h s' j := by
  intro j hj
  rcases ok with e | e | ⟨h1, e | e⟩ | ⟨h2, e⟩
  · rw [hOf_1 (by omega)] at hj
    rw [evS_1 e.1, evS_1 e.1]
    by_cases hjh : j = h
    · rw [hjh, fset_eq, fset_eq]
    · rw [fset_ne _ _ hjh, fset_ne _ _ hjh, ha j (by omega)]
  · rw [hOf_1 (by omega)] at hj
    rw [evS_2 (by omega), evS_2 (by omega), hn c.toNat (by omega)]
    by_cases hjh : j = h
    · rw [hjh, fset_eq, fset_eq]
    · rw [fset_ne _ _ hjh, fset_ne _ _ hjh, ha j (by omega)]
  · subst e
    rw [hOf_3 (by omega)] at hj
    rw [evS_3, evS_3, ha (h - 1) (by omega)]
    by_cases hjh : j = h - 1
    · rw [hjh, fset_eq, fset_eq]
    · rw [fset_ne _ _ hjh, fset_ne _ _ hjh, ha j (by omega)]
  · subst e
    rw [hOf_3 (by omega)] at hj
    rw [evS_4, evS_4, ha (h - 1) (by omega)]
    by_cases hjh : j = h - 1
    · rw [hjh, fset_eq, fset_eq]
    · rw [fset_ne _ _ hjh, fset_ne _ _ hjh, ha j (by omega)]
  · rw [hOf_5 (by omega) (by omega) (by omega) (by omega)] at hj
    rw [evS_5 (by omega) (by omega) (by omega) (by omega), evS_5 (by omega) (by omega) (by omega) (by omega), ha (h - 1) (by omega), ha (h - 2) (by omega)]
    by_cases hjh : j = h - 2
    · rw [hjh, fset_eq, fset_eq]
    · rw [fset_ne _ _ hjh, fset_ne _ _ hjh, ha j (by omega)]
/-- the codes from lo on, n of them, can stand -/
def okP (cd : Nat → Int) (lo n : Nat) : Prop := ∀ k, k < n → okC (cd (lo + k)) (hAt cd lo k)
theorem hOf_le {c : Int} {h : Nat} : hOf c h ≤ h + 1 := by
  unfold hOf
  split
  · omega
  · split <;> omega
theorem hAt_le (cd : Nat → Int) (lo : Nat) : ∀ k, hAt cd lo k ≤ k := by
  intro k
  induction k with
  | zero => exact Nat.le_refl _
  | succ k ih =>
    have := @hOf_le (cd (lo + k)) (hAt cd lo k)
    rw [hAt]
    omega
theorem okC_pos {c : Int} {h : Nat} (ok : okC c h) : 1 ≤ hOf c h := by
  rcases ok with e | e | ⟨h1, e⟩ | ⟨h2, e⟩
  · rw [hOf_1 (by omega)]; omega
  · rw [hOf_1 (by omega)]; omega
  · rw [hOf_3 (by omega)]; omega
  · rw [hOf_5 (by omega) (by omega) (by omega) (by omega)]; omega
theorem evF_agr {cd nm nm' : Nat → Int} {lo n : Nat} {s0 s1 : Nat → Int} (ok : okP cd lo n) (hn : ∀ j, j < 6 → nm j = nm' j) : ∀ k, k ≤ n → ∀ j, j < hAt cd lo k → evF cd nm lo s0 k j = evF cd nm' lo s1 k j := by
  intro k
  induction k with
  | zero => intro _ j hj; exact absurd hj (Nat.not_lt_zero j)
  | succ k ih =>
    intro hk j hj
    exact evS_agr (ok k (by omega)) hn (ih (by omega)) j hj
theorem evF_val {cd nm nm' : Nat → Int} {lo n : Nat} {s0 : Nat → Int} (ok : okP cd lo n) (h0 : 0 < n) (hn : ∀ j, j < 6 → nm j = nm' j) : evF cd nm lo s0 n 0 = evV cd nm' lo n := by
  refine evF_agr ok hn n (Nat.le_refl _) 0 ?_
  obtain ⟨k, rfl⟩ : ∃ k, n = k + 1 := ⟨n - 1, by omega⟩
  exact okC_pos (ok k (by omega))
theorem g14_1c7 (r : Nat) (l0 l1 l2 : Option AV) (M : Mem) (S : Sh) : go r 14 1 [l0, l1, l2] [aI 7] M S = go r 14 108 [l0, l1, l2] [] M S := go_nx rfl rfl
theorem joined_7 {a b : Int} {M : Mem} {S : Sh} : res 14 [aI 7, aI a, aI b] M S = some (some (aI (two 11 a b)), M, S) := by
  rw [g14]
  have e : two 11 a b = if a ≠ 0 ∨ b ≠ 0 then 1 else 0 := rfl
  rw [e]
  by_cases h1 : a = 0
  · by_cases h2 : b = 0
    · rw [if_neg (by omega)]
      simp (disch := omega) only [g14_0, g14_1c8, g14_1c42, g14_1c43, g14_1c45, g14_1c60, g14_1c61, g14_1c0, g14_1c1, g14_1c2, g14_1c3, g14_1c4, g14_1c5, g14_60, g14_61, g14_62, g14_63, g14_64, g14_65, g14_66, g14_67, g14_68, g14_69, g14_70, g14_71, g14_72, g14_73, g14_74t, g14_74f, g14_77, g14_78, g14_81, g14_82, g14_83, g14_84, g14_85t, g14_85f, g14_88, g14_89, g14_92, g14_93, g14_94, g14_95t, g14_95f, g14_98, g14_99t, g14_99f, g14_102, g14_103, g14_106, g14_107, g14_108, g14_109t, g14_109f, g14_112, g14_113t, g14_113f, g14_116, g14_117, g14_120, g14_121, g14_1c7]
    · rw [if_pos (by omega)]
      simp (disch := omega) only [g14_0, g14_1c8, g14_1c42, g14_1c43, g14_1c45, g14_1c60, g14_1c61, g14_1c0, g14_1c1, g14_1c2, g14_1c3, g14_1c4, g14_1c5, g14_60, g14_61, g14_62, g14_63, g14_64, g14_65, g14_66, g14_67, g14_68, g14_69, g14_70, g14_71, g14_72, g14_73, g14_74t, g14_74f, g14_77, g14_78, g14_81, g14_82, g14_83, g14_84, g14_85t, g14_85f, g14_88, g14_89, g14_92, g14_93, g14_94, g14_95t, g14_95f, g14_98, g14_99t, g14_99f, g14_102, g14_103, g14_106, g14_107, g14_108, g14_109t, g14_109f, g14_112, g14_113t, g14_113f, g14_116, g14_117, g14_120, g14_121, g14_1c7]
  · by_cases h2 : b = 0
    · rw [if_pos (by omega)]
      simp (disch := omega) only [g14_0, g14_1c8, g14_1c42, g14_1c43, g14_1c45, g14_1c60, g14_1c61, g14_1c0, g14_1c1, g14_1c2, g14_1c3, g14_1c4, g14_1c5, g14_60, g14_61, g14_62, g14_63, g14_64, g14_65, g14_66, g14_67, g14_68, g14_69, g14_70, g14_71, g14_72, g14_73, g14_74t, g14_74f, g14_77, g14_78, g14_81, g14_82, g14_83, g14_84, g14_85t, g14_85f, g14_88, g14_89, g14_92, g14_93, g14_94, g14_95t, g14_95f, g14_98, g14_99t, g14_99f, g14_102, g14_103, g14_106, g14_107, g14_108, g14_109t, g14_109f, g14_112, g14_113t, g14_113f, g14_116, g14_117, g14_120, g14_121, g14_1c7]
    · rw [if_pos (by omega)]
      simp (disch := omega) only [g14_0, g14_1c8, g14_1c42, g14_1c43, g14_1c45, g14_1c60, g14_1c61, g14_1c0, g14_1c1, g14_1c2, g14_1c3, g14_1c4, g14_1c5, g14_60, g14_61, g14_62, g14_63, g14_64, g14_65, g14_66, g14_67, g14_68, g14_69, g14_70, g14_71, g14_72, g14_73, g14_74t, g14_74f, g14_77, g14_78, g14_81, g14_82, g14_83, g14_84, g14_85t, g14_85f, g14_88, g14_89, g14_92, g14_93, g14_94, g14_95t, g14_95f, g14_98, g14_99t, g14_99f, g14_102, g14_103, g14_106, g14_107, g14_108, g14_109t, g14_109f, g14_112, g14_113t, g14_113f, g14_116, g14_117, g14_120, g14_121, g14_1c7]
theorem two_11 {a b : Int} {M : Mem} {S : Sh} : res 127 [aI 11, aI a, aI b] M S = some (some (aI (two 11 a b)), M, S) := by
  rw [g127]
  have e : two 11 a b = if a ≠ 0 ∨ b ≠ 0 then 1 else 0 := rfl
  rw [e]
  by_cases h1 : a = 0
  · by_cases h2 : b = 0
    · rw [if_neg (by omega)]
      simp (disch := omega) only [g127_0, g127_1c11, g127_1c12, g127_1c13, g127_1c14, g127_1c15, g127_1c16, g127_1c17, g127_1d, g127_44, g127_45t, g127_45f, g127_48, g127_49t, g127_49f, g127_52, g127_53, g127_56, g127_57, g127_58, g127_59t, g127_59f, g127_62, g127_63t, g127_63f, g127_66, g127_67, g127_70, g127_71, g127_72, g127_73, g127_74t, g127_74f, g127_77, g127_78, g127_81, g127_82, g127_83, g127_84, g127_85t, g127_85f, g127_88, g127_89, g127_92, g127_93, g127_94, g127_95, g127_96, g127_97, g127_98, g127_99, g127_100, g127_101, g127_102, g127_103, g127_104, g127_105]
    · rw [if_pos (by omega)]
      simp (disch := omega) only [g127_0, g127_1c11, g127_1c12, g127_1c13, g127_1c14, g127_1c15, g127_1c16, g127_1c17, g127_1d, g127_44, g127_45t, g127_45f, g127_48, g127_49t, g127_49f, g127_52, g127_53, g127_56, g127_57, g127_58, g127_59t, g127_59f, g127_62, g127_63t, g127_63f, g127_66, g127_67, g127_70, g127_71, g127_72, g127_73, g127_74t, g127_74f, g127_77, g127_78, g127_81, g127_82, g127_83, g127_84, g127_85t, g127_85f, g127_88, g127_89, g127_92, g127_93, g127_94, g127_95, g127_96, g127_97, g127_98, g127_99, g127_100, g127_101, g127_102, g127_103, g127_104, g127_105]
  · by_cases h2 : b = 0
    · rw [if_pos (by omega)]
      simp (disch := omega) only [g127_0, g127_1c11, g127_1c12, g127_1c13, g127_1c14, g127_1c15, g127_1c16, g127_1c17, g127_1d, g127_44, g127_45t, g127_45f, g127_48, g127_49t, g127_49f, g127_52, g127_53, g127_56, g127_57, g127_58, g127_59t, g127_59f, g127_62, g127_63t, g127_63f, g127_66, g127_67, g127_70, g127_71, g127_72, g127_73, g127_74t, g127_74f, g127_77, g127_78, g127_81, g127_82, g127_83, g127_84, g127_85t, g127_85f, g127_88, g127_89, g127_92, g127_93, g127_94, g127_95, g127_96, g127_97, g127_98, g127_99, g127_100, g127_101, g127_102, g127_103, g127_104, g127_105]
    · rw [if_pos (by omega)]
      simp (disch := omega) only [g127_0, g127_1c11, g127_1c12, g127_1c13, g127_1c14, g127_1c15, g127_1c16, g127_1c17, g127_1d, g127_44, g127_45t, g127_45f, g127_48, g127_49t, g127_49f, g127_52, g127_53, g127_56, g127_57, g127_58, g127_59t, g127_59f, g127_62, g127_63t, g127_63f, g127_66, g127_67, g127_70, g127_71, g127_72, g127_73, g127_74t, g127_74f, g127_77, g127_78, g127_81, g127_82, g127_83, g127_84, g127_85t, g127_85f, g127_88, g127_89, g127_92, g127_93, g127_94, g127_95, g127_96, g127_97, g127_98, g127_99, g127_100, g127_101, g127_102, g127_103, g127_104, g127_105]
theorem joined_8 {a b : Int} {M : Mem} {S : Sh} : res 14 [aI 8, aI a, aI b] M S = some (some (aI (two 12 a b)), M, S) := by
  rw [g14]
  have e : two 12 a b = if a ≠ 0 ∧ b ≠ 0 then 1 else 0 := rfl
  rw [e]
  by_cases h1 : a = 0
  · by_cases h2 : b = 0
    · rw [if_neg (by omega)]
      simp (disch := omega) only [g14_0, g14_1c8, g14_1c42, g14_1c43, g14_1c45, g14_1c60, g14_1c61, g14_1c0, g14_1c1, g14_1c2, g14_1c3, g14_1c4, g14_1c5, g14_60, g14_61, g14_62, g14_63, g14_64, g14_65, g14_66, g14_67, g14_68, g14_69, g14_70, g14_71, g14_72, g14_73, g14_74t, g14_74f, g14_77, g14_78, g14_81, g14_82, g14_83, g14_84, g14_85t, g14_85f, g14_88, g14_89, g14_92, g14_93, g14_94, g14_95t, g14_95f, g14_98, g14_99t, g14_99f, g14_102, g14_103, g14_106, g14_107, g14_108, g14_109t, g14_109f, g14_112, g14_113t, g14_113f, g14_116, g14_117, g14_120, g14_121, g14_1c7]
    · rw [if_neg (by omega)]
      simp (disch := omega) only [g14_0, g14_1c8, g14_1c42, g14_1c43, g14_1c45, g14_1c60, g14_1c61, g14_1c0, g14_1c1, g14_1c2, g14_1c3, g14_1c4, g14_1c5, g14_60, g14_61, g14_62, g14_63, g14_64, g14_65, g14_66, g14_67, g14_68, g14_69, g14_70, g14_71, g14_72, g14_73, g14_74t, g14_74f, g14_77, g14_78, g14_81, g14_82, g14_83, g14_84, g14_85t, g14_85f, g14_88, g14_89, g14_92, g14_93, g14_94, g14_95t, g14_95f, g14_98, g14_99t, g14_99f, g14_102, g14_103, g14_106, g14_107, g14_108, g14_109t, g14_109f, g14_112, g14_113t, g14_113f, g14_116, g14_117, g14_120, g14_121, g14_1c7]
  · by_cases h2 : b = 0
    · rw [if_neg (by omega)]
      simp (disch := omega) only [g14_0, g14_1c8, g14_1c42, g14_1c43, g14_1c45, g14_1c60, g14_1c61, g14_1c0, g14_1c1, g14_1c2, g14_1c3, g14_1c4, g14_1c5, g14_60, g14_61, g14_62, g14_63, g14_64, g14_65, g14_66, g14_67, g14_68, g14_69, g14_70, g14_71, g14_72, g14_73, g14_74t, g14_74f, g14_77, g14_78, g14_81, g14_82, g14_83, g14_84, g14_85t, g14_85f, g14_88, g14_89, g14_92, g14_93, g14_94, g14_95t, g14_95f, g14_98, g14_99t, g14_99f, g14_102, g14_103, g14_106, g14_107, g14_108, g14_109t, g14_109f, g14_112, g14_113t, g14_113f, g14_116, g14_117, g14_120, g14_121, g14_1c7]
    · rw [if_pos (by omega)]
      simp (disch := omega) only [g14_0, g14_1c8, g14_1c42, g14_1c43, g14_1c45, g14_1c60, g14_1c61, g14_1c0, g14_1c1, g14_1c2, g14_1c3, g14_1c4, g14_1c5, g14_60, g14_61, g14_62, g14_63, g14_64, g14_65, g14_66, g14_67, g14_68, g14_69, g14_70, g14_71, g14_72, g14_73, g14_74t, g14_74f, g14_77, g14_78, g14_81, g14_82, g14_83, g14_84, g14_85t, g14_85f, g14_88, g14_89, g14_92, g14_93, g14_94, g14_95t, g14_95f, g14_98, g14_99t, g14_99f, g14_102, g14_103, g14_106, g14_107, g14_108, g14_109t, g14_109f, g14_112, g14_113t, g14_113f, g14_116, g14_117, g14_120, g14_121, g14_1c7]
theorem two_12 {a b : Int} {M : Mem} {S : Sh} : res 127 [aI 12, aI a, aI b] M S = some (some (aI (two 12 a b)), M, S) := by
  rw [g127]
  have e : two 12 a b = if a ≠ 0 ∧ b ≠ 0 then 1 else 0 := rfl
  rw [e]
  by_cases h1 : a = 0
  · by_cases h2 : b = 0
    · rw [if_neg (by omega)]
      simp (disch := omega) only [g127_0, g127_1c11, g127_1c12, g127_1c13, g127_1c14, g127_1c15, g127_1c16, g127_1c17, g127_1d, g127_44, g127_45t, g127_45f, g127_48, g127_49t, g127_49f, g127_52, g127_53, g127_56, g127_57, g127_58, g127_59t, g127_59f, g127_62, g127_63t, g127_63f, g127_66, g127_67, g127_70, g127_71, g127_72, g127_73, g127_74t, g127_74f, g127_77, g127_78, g127_81, g127_82, g127_83, g127_84, g127_85t, g127_85f, g127_88, g127_89, g127_92, g127_93, g127_94, g127_95, g127_96, g127_97, g127_98, g127_99, g127_100, g127_101, g127_102, g127_103, g127_104, g127_105]
    · rw [if_neg (by omega)]
      simp (disch := omega) only [g127_0, g127_1c11, g127_1c12, g127_1c13, g127_1c14, g127_1c15, g127_1c16, g127_1c17, g127_1d, g127_44, g127_45t, g127_45f, g127_48, g127_49t, g127_49f, g127_52, g127_53, g127_56, g127_57, g127_58, g127_59t, g127_59f, g127_62, g127_63t, g127_63f, g127_66, g127_67, g127_70, g127_71, g127_72, g127_73, g127_74t, g127_74f, g127_77, g127_78, g127_81, g127_82, g127_83, g127_84, g127_85t, g127_85f, g127_88, g127_89, g127_92, g127_93, g127_94, g127_95, g127_96, g127_97, g127_98, g127_99, g127_100, g127_101, g127_102, g127_103, g127_104, g127_105]
  · by_cases h2 : b = 0
    · rw [if_neg (by omega)]
      simp (disch := omega) only [g127_0, g127_1c11, g127_1c12, g127_1c13, g127_1c14, g127_1c15, g127_1c16, g127_1c17, g127_1d, g127_44, g127_45t, g127_45f, g127_48, g127_49t, g127_49f, g127_52, g127_53, g127_56, g127_57, g127_58, g127_59t, g127_59f, g127_62, g127_63t, g127_63f, g127_66, g127_67, g127_70, g127_71, g127_72, g127_73, g127_74t, g127_74f, g127_77, g127_78, g127_81, g127_82, g127_83, g127_84, g127_85t, g127_85f, g127_88, g127_89, g127_92, g127_93, g127_94, g127_95, g127_96, g127_97, g127_98, g127_99, g127_100, g127_101, g127_102, g127_103, g127_104, g127_105]
    · rw [if_pos (by omega)]
      simp (disch := omega) only [g127_0, g127_1c11, g127_1c12, g127_1c13, g127_1c14, g127_1c15, g127_1c16, g127_1c17, g127_1d, g127_44, g127_45t, g127_45f, g127_48, g127_49t, g127_49f, g127_52, g127_53, g127_56, g127_57, g127_58, g127_59t, g127_59f, g127_62, g127_63t, g127_63f, g127_66, g127_67, g127_70, g127_71, g127_72, g127_73, g127_74t, g127_74f, g127_77, g127_78, g127_81, g127_82, g127_83, g127_84, g127_85t, g127_85f, g127_88, g127_89, g127_92, g127_93, g127_94, g127_95, g127_96, g127_97, g127_98, g127_99, g127_100, g127_101, g127_102, g127_103, g127_104, g127_105]
theorem joined_60 {a b : Int} {M : Mem} {S : Sh} : res 14 [aI 60, aI a, aI b] M S = some (some (aI (two 14 a b)), M, S) := by
  rw [g14]
  have e : two 14 a b = if a < b then 1 else 0 := rfl
  rw [e]
  by_cases h1 : a < b
  · rw [if_pos h1]
    simp (disch := omega) only [g14_0, g14_1c8, g14_1c42, g14_1c43, g14_1c45, g14_1c60, g14_1c61, g14_1c0, g14_1c1, g14_1c2, g14_1c3, g14_1c4, g14_1c5, g14_60, g14_61, g14_62, g14_63, g14_64, g14_65, g14_66, g14_67, g14_68, g14_69, g14_70, g14_71, g14_72, g14_73, g14_74t, g14_74f, g14_77, g14_78, g14_81, g14_82, g14_83, g14_84, g14_85t, g14_85f, g14_88, g14_89, g14_92, g14_93, g14_94, g14_95t, g14_95f, g14_98, g14_99t, g14_99f, g14_102, g14_103, g14_106, g14_107, g14_108, g14_109t, g14_109f, g14_112, g14_113t, g14_113f, g14_116, g14_117, g14_120, g14_121, g14_1c7]
  · rw [if_neg h1]
    simp (disch := omega) only [g14_0, g14_1c8, g14_1c42, g14_1c43, g14_1c45, g14_1c60, g14_1c61, g14_1c0, g14_1c1, g14_1c2, g14_1c3, g14_1c4, g14_1c5, g14_60, g14_61, g14_62, g14_63, g14_64, g14_65, g14_66, g14_67, g14_68, g14_69, g14_70, g14_71, g14_72, g14_73, g14_74t, g14_74f, g14_77, g14_78, g14_81, g14_82, g14_83, g14_84, g14_85t, g14_85f, g14_88, g14_89, g14_92, g14_93, g14_94, g14_95t, g14_95f, g14_98, g14_99t, g14_99f, g14_102, g14_103, g14_106, g14_107, g14_108, g14_109t, g14_109f, g14_112, g14_113t, g14_113f, g14_116, g14_117, g14_120, g14_121, g14_1c7]
theorem two_14 {a b : Int} {M : Mem} {S : Sh} : res 127 [aI 14, aI a, aI b] M S = some (some (aI (two 14 a b)), M, S) := by
  rw [g127]
  have e : two 14 a b = if a < b then 1 else 0 := rfl
  rw [e]
  by_cases h1 : a < b
  · rw [if_pos h1]
    simp (disch := omega) only [g127_0, g127_1c11, g127_1c12, g127_1c13, g127_1c14, g127_1c15, g127_1c16, g127_1c17, g127_1d, g127_44, g127_45t, g127_45f, g127_48, g127_49t, g127_49f, g127_52, g127_53, g127_56, g127_57, g127_58, g127_59t, g127_59f, g127_62, g127_63t, g127_63f, g127_66, g127_67, g127_70, g127_71, g127_72, g127_73, g127_74t, g127_74f, g127_77, g127_78, g127_81, g127_82, g127_83, g127_84, g127_85t, g127_85f, g127_88, g127_89, g127_92, g127_93, g127_94, g127_95, g127_96, g127_97, g127_98, g127_99, g127_100, g127_101, g127_102, g127_103, g127_104, g127_105]
  · rw [if_neg h1]
    simp (disch := omega) only [g127_0, g127_1c11, g127_1c12, g127_1c13, g127_1c14, g127_1c15, g127_1c16, g127_1c17, g127_1d, g127_44, g127_45t, g127_45f, g127_48, g127_49t, g127_49f, g127_52, g127_53, g127_56, g127_57, g127_58, g127_59t, g127_59f, g127_62, g127_63t, g127_63f, g127_66, g127_67, g127_70, g127_71, g127_72, g127_73, g127_74t, g127_74f, g127_77, g127_78, g127_81, g127_82, g127_83, g127_84, g127_85t, g127_85f, g127_88, g127_89, g127_92, g127_93, g127_94, g127_95, g127_96, g127_97, g127_98, g127_99, g127_100, g127_101, g127_102, g127_103, g127_104, g127_105]
theorem joined_61 {a b : Int} {M : Mem} {S : Sh} : res 14 [aI 61, aI a, aI b] M S = some (some (aI (two 15 a b)), M, S) := by
  rw [g14]
  have e : two 15 a b = if a = b then 1 else 0 := rfl
  rw [e]
  by_cases h1 : a = b
  · rw [if_pos h1]
    simp (disch := omega) only [g14_0, g14_1c8, g14_1c42, g14_1c43, g14_1c45, g14_1c60, g14_1c61, g14_1c0, g14_1c1, g14_1c2, g14_1c3, g14_1c4, g14_1c5, g14_60, g14_61, g14_62, g14_63, g14_64, g14_65, g14_66, g14_67, g14_68, g14_69, g14_70, g14_71, g14_72, g14_73, g14_74t, g14_74f, g14_77, g14_78, g14_81, g14_82, g14_83, g14_84, g14_85t, g14_85f, g14_88, g14_89, g14_92, g14_93, g14_94, g14_95t, g14_95f, g14_98, g14_99t, g14_99f, g14_102, g14_103, g14_106, g14_107, g14_108, g14_109t, g14_109f, g14_112, g14_113t, g14_113f, g14_116, g14_117, g14_120, g14_121, g14_1c7]
  · rw [if_neg h1]
    simp (disch := omega) only [g14_0, g14_1c8, g14_1c42, g14_1c43, g14_1c45, g14_1c60, g14_1c61, g14_1c0, g14_1c1, g14_1c2, g14_1c3, g14_1c4, g14_1c5, g14_60, g14_61, g14_62, g14_63, g14_64, g14_65, g14_66, g14_67, g14_68, g14_69, g14_70, g14_71, g14_72, g14_73, g14_74t, g14_74f, g14_77, g14_78, g14_81, g14_82, g14_83, g14_84, g14_85t, g14_85f, g14_88, g14_89, g14_92, g14_93, g14_94, g14_95t, g14_95f, g14_98, g14_99t, g14_99f, g14_102, g14_103, g14_106, g14_107, g14_108, g14_109t, g14_109f, g14_112, g14_113t, g14_113f, g14_116, g14_117, g14_120, g14_121, g14_1c7]
theorem two_15 {a b : Int} {M : Mem} {S : Sh} : res 127 [aI 15, aI a, aI b] M S = some (some (aI (two 15 a b)), M, S) := by
  rw [g127]
  have e : two 15 a b = if a = b then 1 else 0 := rfl
  rw [e]
  by_cases h1 : a = b
  · rw [if_pos h1]
    simp (disch := omega) only [g127_0, g127_1c11, g127_1c12, g127_1c13, g127_1c14, g127_1c15, g127_1c16, g127_1c17, g127_1d, g127_44, g127_45t, g127_45f, g127_48, g127_49t, g127_49f, g127_52, g127_53, g127_56, g127_57, g127_58, g127_59t, g127_59f, g127_62, g127_63t, g127_63f, g127_66, g127_67, g127_70, g127_71, g127_72, g127_73, g127_74t, g127_74f, g127_77, g127_78, g127_81, g127_82, g127_83, g127_84, g127_85t, g127_85f, g127_88, g127_89, g127_92, g127_93, g127_94, g127_95, g127_96, g127_97, g127_98, g127_99, g127_100, g127_101, g127_102, g127_103, g127_104, g127_105]
  · rw [if_neg h1]
    simp (disch := omega) only [g127_0, g127_1c11, g127_1c12, g127_1c13, g127_1c14, g127_1c15, g127_1c16, g127_1c17, g127_1d, g127_44, g127_45t, g127_45f, g127_48, g127_49t, g127_49f, g127_52, g127_53, g127_56, g127_57, g127_58, g127_59t, g127_59f, g127_62, g127_63t, g127_63f, g127_66, g127_67, g127_70, g127_71, g127_72, g127_73, g127_74t, g127_74f, g127_77, g127_78, g127_81, g127_82, g127_83, g127_84, g127_85t, g127_85f, g127_88, g127_89, g127_92, g127_93, g127_94, g127_95, g127_96, g127_97, g127_98, g127_99, g127_100, g127_101, g127_102, g127_103, g127_104, g127_105]
theorem joined_43 {a b : Int} {M : Mem} {S : Sh} : res 14 [aI 43, aI a, aI b] M S = some (some (aI (two 16 a b)), M, S) := by
  rw [g14]
  simp only [g14_0, g14_1c8, g14_1c42, g14_1c43, g14_1c45, g14_1c60, g14_1c61, g14_1c0, g14_1c1, g14_1c2, g14_1c3, g14_1c4, g14_1c5, g14_60, g14_61, g14_62, g14_63, g14_64, g14_65, g14_66, g14_67, g14_68, g14_69, g14_70, g14_71, g14_72, g14_73, g14_74t, g14_74f, g14_77, g14_78, g14_81, g14_82, g14_83, g14_84, g14_85t, g14_85f, g14_88, g14_89, g14_92, g14_93, g14_94, g14_95t, g14_95f, g14_98, g14_99t, g14_99f, g14_102, g14_103, g14_106, g14_107, g14_108, g14_109t, g14_109f, g14_112, g14_113t, g14_113f, g14_116, g14_117, g14_120, g14_121, g14_1c7]
  rfl
theorem two_16 {a b : Int} {M : Mem} {S : Sh} : res 127 [aI 16, aI a, aI b] M S = some (some (aI (two 16 a b)), M, S) := by
  rw [g127]
  simp (disch := omega) only [g127_0, g127_1c11, g127_1c12, g127_1c13, g127_1c14, g127_1c15, g127_1c16, g127_1c17, g127_1d, g127_44, g127_45t, g127_45f, g127_48, g127_49t, g127_49f, g127_52, g127_53, g127_56, g127_57, g127_58, g127_59t, g127_59f, g127_62, g127_63t, g127_63f, g127_66, g127_67, g127_70, g127_71, g127_72, g127_73, g127_74t, g127_74f, g127_77, g127_78, g127_81, g127_82, g127_83, g127_84, g127_85t, g127_85f, g127_88, g127_89, g127_92, g127_93, g127_94, g127_95, g127_96, g127_97, g127_98, g127_99, g127_100, g127_101, g127_102, g127_103, g127_104, g127_105]
  rfl
theorem joined_45 {a b : Int} {M : Mem} {S : Sh} : res 14 [aI 45, aI a, aI b] M S = some (some (aI (two 17 a b)), M, S) := by
  rw [g14]
  simp only [g14_0, g14_1c8, g14_1c42, g14_1c43, g14_1c45, g14_1c60, g14_1c61, g14_1c0, g14_1c1, g14_1c2, g14_1c3, g14_1c4, g14_1c5, g14_60, g14_61, g14_62, g14_63, g14_64, g14_65, g14_66, g14_67, g14_68, g14_69, g14_70, g14_71, g14_72, g14_73, g14_74t, g14_74f, g14_77, g14_78, g14_81, g14_82, g14_83, g14_84, g14_85t, g14_85f, g14_88, g14_89, g14_92, g14_93, g14_94, g14_95t, g14_95f, g14_98, g14_99t, g14_99f, g14_102, g14_103, g14_106, g14_107, g14_108, g14_109t, g14_109f, g14_112, g14_113t, g14_113f, g14_116, g14_117, g14_120, g14_121, g14_1c7]
  rfl
theorem two_17 {a b : Int} {M : Mem} {S : Sh} : res 127 [aI 17, aI a, aI b] M S = some (some (aI (two 17 a b)), M, S) := by
  rw [g127]
  simp (disch := omega) only [g127_0, g127_1c11, g127_1c12, g127_1c13, g127_1c14, g127_1c15, g127_1c16, g127_1c17, g127_1d, g127_44, g127_45t, g127_45f, g127_48, g127_49t, g127_49f, g127_52, g127_53, g127_56, g127_57, g127_58, g127_59t, g127_59f, g127_62, g127_63t, g127_63f, g127_66, g127_67, g127_70, g127_71, g127_72, g127_73, g127_74t, g127_74f, g127_77, g127_78, g127_81, g127_82, g127_83, g127_84, g127_85t, g127_85f, g127_88, g127_89, g127_92, g127_93, g127_94, g127_95, g127_96, g127_97, g127_98, g127_99, g127_100, g127_101, g127_102, g127_103, g127_104, g127_105]
  rfl
theorem joined_42 {a b : Int} {M : Mem} {S : Sh} : res 14 [aI 42, aI a, aI b] M S = some (some (aI (two 18 a b)), M, S) := by
  rw [g14]
  simp only [g14_0, g14_1c8, g14_1c42, g14_1c43, g14_1c45, g14_1c60, g14_1c61, g14_1c0, g14_1c1, g14_1c2, g14_1c3, g14_1c4, g14_1c5, g14_60, g14_61, g14_62, g14_63, g14_64, g14_65, g14_66, g14_67, g14_68, g14_69, g14_70, g14_71, g14_72, g14_73, g14_74t, g14_74f, g14_77, g14_78, g14_81, g14_82, g14_83, g14_84, g14_85t, g14_85f, g14_88, g14_89, g14_92, g14_93, g14_94, g14_95t, g14_95f, g14_98, g14_99t, g14_99f, g14_102, g14_103, g14_106, g14_107, g14_108, g14_109t, g14_109f, g14_112, g14_113t, g14_113f, g14_116, g14_117, g14_120, g14_121, g14_1c7]
  rfl
theorem two_18 {a b : Int} {M : Mem} {S : Sh} : res 127 [aI 18, aI a, aI b] M S = some (some (aI (two 18 a b)), M, S) := by
  rw [g127]
  simp (disch := omega) only [g127_0, g127_1c11, g127_1c12, g127_1c13, g127_1c14, g127_1c15, g127_1c16, g127_1c17, g127_1d, g127_44, g127_45t, g127_45f, g127_48, g127_49t, g127_49f, g127_52, g127_53, g127_56, g127_57, g127_58, g127_59t, g127_59f, g127_62, g127_63t, g127_63f, g127_66, g127_67, g127_70, g127_71, g127_72, g127_73, g127_74t, g127_74f, g127_77, g127_78, g127_81, g127_82, g127_83, g127_84, g127_85t, g127_85f, g127_88, g127_89, g127_92, g127_93, g127_94, g127_95, g127_96, g127_97, g127_98, g127_99, g127_100, g127_101, g127_102, g127_103, g127_104, g127_105]
  rfl
