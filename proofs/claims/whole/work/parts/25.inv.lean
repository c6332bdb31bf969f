/-- ends with a value, and then Q -/
def Pr (o : Option Res) (Q : AV → Mem → Sh → Prop) : Prop := ∃ v M S, o = some (some v, M, S) ∧ Q v M S
theorem Pr_some {v : AV} {M : Mem} {S : Sh} {Q : AV → Mem → Sh → Prop} : Pr (some (some v, M, S)) Q = Q v M S := by
  apply propext
  constructor
  · rintro ⟨v', M', S', h, q⟩
    cases h
    exact q
  · exact fun q => ⟨v, M, S, rfl, q⟩
theorem mset_eq {M : Mem} {a k : Nat} {v : Int} : mset M a k v a k = v := by
  unfold mset
  rw [if_pos ⟨rfl, rfl⟩]
theorem Pr_go {r m pc : Nat} {ls : Lsl} {st : List AV} {M : Mem} {S : Sh} {Q : AV → Mem → Sh → Prop} (h : ∃ v M' S', go r m pc ls st M S = some (some v, M', S') ∧ Q v M' S') : Pr (go r m pc ls st M S) Q := h
/-- land -/
def iLand (M : Mem) : Prop := ∀ k, k < 192 → M 85 k = M 8 k ∧ M 86 k = M 9 k ∧ 0 ≤ M 8 k ∧ M 8 k ≤ 9 ∧ 0 ≤ M 9 k ∧ M 9 k ≤ 1
/-- strips -/
def iStr (M : Mem) : Prop := M 84 9 = M 7 4 ∧ 0 ≤ M 7 4 ∧ M 7 4 ≤ 12 ∧ ∀ k : Nat, (k : Int) < M 7 4 → M 90 k = M 10 k ∧ M 91 k = M 11 k ∧ 0 ≤ M 10 k ∧ M 10 k ≤ 3 ∧ 0 ≤ M 11 k ∧ M 11 k < 16 ∧ (M 10 k < 2 → M 11 k < 12)
/-- planes -/
def iPla (M : Mem) : Prop := M 84 5 = M 7 10 ∧ 0 ≤ M 7 10 ∧ M 7 10 ≤ 4 ∧ ∀ k : Nat, (k : Int) < M 7 10 → M 87 k = M 12 k ∧ M 88 k = M 13 k ∧ M 89 (3 * k) = M 14 k ∧ M 89 (3 * k + 1) = M 15 k ∧ M 89 (3 * k + 2) = M 16 k ∧ 0 ≤ M 12 k ∧ M 12 k ≤ 5 ∧ 0 ≤ M 13 k ∧ M 13 k ≤ 9 ∧ 0 ≤ M 14 k ∧ M 14 k ≤ 999 ∧ 0 ≤ M 15 k ∧ M 15 k ≤ 999 ∧ 1 ≤ M 16 k ∧ M 16 k ≤ 9
/-- wind, hour, who, law -/
def iNow (M : Mem) : Prop := M 84 2 = M 7 11 ∧ -5 ≤ M 7 11 ∧ M 7 11 ≤ 5 ∧ M 84 3 = M 7 12 ∧ 0 ≤ M 7 12 ∧ M 7 12 ≤ 23 ∧ M 84 4 = M 7 13 ∧ -1 ≤ M 7 13 ∧ M 7 13 < M 7 10 ∧ M 84 17 = M 7 14 ∧ 0 ≤ M 7 14 ∧ M 7 14 < M 6 5
/-- tape, texts -/
def iTap (M : Mem) : Prop := M 84 16 = M 6 5 ∧ 1 ≤ M 6 5 ∧ M 6 5 ≤ 6 ∧ M 84 13 = M 6 7 ∧ 0 ≤ M 6 7 ∧ M 6 7 ≤ 160 ∧ ∀ k : Nat, (k : Int) < M 6 7 → M 92 k = M 38 k ∧ 0 ≤ M 38 k ∧ M 38 k ≤ 255
/-- the image -/
def iImg (M : Mem) : Prop := M 84 18 = M 6 3 ∧ (M 6 3 = 0 ∨ M 6 3 = 1) ∧ (M 6 3 = 1 → (∀ k, k < 192 → M 95 k = M 28 k ∧ M 95 (192 + k) = M 29 k ∧ 0 ≤ M 28 k ∧ M 28 k ≤ 9 ∧ 0 ≤ M 29 k ∧ M 29 k ≤ 1)
  ∧ M 97 1 = M 27 4 ∧ 0 ≤ M 27 4 ∧ M 27 4 ≤ 12 ∧ (∀ k : Nat, (k : Int) < M 27 4 → M 96 (12 + k) = M 30 k ∧ M 96 (24 + k) = M 31 k ∧ 0 ≤ M 30 k ∧ M 30 k ≤ 3 ∧ 0 ≤ M 31 k ∧ M 31 k < 16 ∧ (M 30 k < 2 → M 31 k < 12))
  ∧ M 97 0 = M 27 10 ∧ 0 ≤ M 27 10 ∧ M 27 10 ≤ M 7 10 ∧ (∀ k : Nat, (k : Int) < M 27 10 → M 32 k = M 12 k ∧ M 33 k = M 13 k ∧ M 96 (3 * k) = M 34 k ∧ M 96 (3 * k + 1) = M 35 k ∧ M 96 (3 * k + 2) = M 36 k ∧ 0 ≤ M 34 k ∧ M 34 k ≤ 999 ∧ 0 ≤ M 35 k ∧ M 35 k ≤ 999 ∧ 1 ≤ M 36 k ∧ M 36 k ≤ 9)
  ∧ M 97 2 = M 27 11 ∧ -5 ≤ M 27 11 ∧ M 27 11 ≤ 5 ∧ M 97 3 = M 27 12 ∧ 0 ≤ M 27 12 ∧ M 27 12 ≤ 23 ∧ M 97 4 = M 27 13 ∧ -1 ≤ M 27 13 ∧ M 27 13 < M 27 10 ∧ M 97 5 = M 27 14 ∧ 0 ≤ M 27 14 ∧ M 27 14 < M 6 5)
/-- sheets -/
def iShe (M : Mem) : Prop := ∀ s, s < 4 → M 98 s = M (76 + 2 * s) 1 ∧ -1 ≤ M 98 s ∧ M 98 s ≤ 2 ∧ M 99 s = M (76 + 2 * s) 2 ∧ 0 ≤ M 99 s ∧ M 99 s ≤ 40 ∧ ∀ k, k < 40 → M 100 (40 * s + k) = M (77 + 2 * s) k
/-- rows that nobody writes, and what is left as it was -/
def iCst (sc : Nat → Int) (M : Mem) : Prop := M 5 = sc ∧ M 84 43 = -1 ∧ (M 0 0 = -1 ∧ M 0 1 = 0 ∧ M 0 2 = 0 ∧ M 0 3 = 1 ∧ M 0 4 = 2 ∧ M 0 5 = 0) ∧ (M 1 0 = 0 ∧ M 1 1 = -9 ∧ M 1 2 = 0) ∧ (M 2 0 = 9 ∧ M 2 1 = 9 ∧ M 2 2 = 100)
  ∧ (M 102 0 = 115 ∧ M 102 1 = 101 ∧ M 102 2 = 101 ∧ M 102 3 = 115 ∧ M 102 4 = 32 ∧ M 102 5 = 32 ∧ M 102 6 = 32 ∧ M 102 7 = 32 ∧ M 102 8 = 100 ∧ M 102 9 = 114 ∧ M 102 10 = 105 ∧ M 102 11 = 102 ∧ M 102 12 = 116 ∧ M 102 13 = 115 ∧ M 102 14 = 32 ∧ M 102 15 = 32 ∧ M 102 16 = 102 ∧ M 102 17 = 114 ∧ M 102 18 = 111 ∧ M 102 19 = 115 ∧ M 102 20 = 116 ∧ M 102 21 = 115 ∧ M 102 22 = 32 ∧ M 102 23 = 32 ∧ M 102 24 = 104 ∧ M 102 25 = 105 ∧ M 102 26 = 108 ∧ M 102 27 = 108 ∧ M 102 28 = 32 ∧ M 102 29 = 32 ∧ M 102 30 = 32 ∧ M 102 31 = 32 ∧ M 102 32 = 119 ∧ M 102 33 = 105 ∧ M 102 34 = 110 ∧ M 102 35 = 100 ∧ M 102 36 = 32 ∧ M 102 37 = 32 ∧ M 102 38 = 32 ∧ M 102 39 = 32 ∧ M 102 40 = 109 ∧ M 102 41 = 111 ∧ M 102 42 = 114 ∧ M 102 43 = 101 ∧ M 102 44 = 32 ∧ M 102 45 = 32 ∧ M 102 46 = 32 ∧ M 102 47 = 32 ∧ M 102 48 = 104 ∧ M 102 49 = 111 ∧ M 102 50 = 117 ∧ M 102 51 = 114 ∧ M 102 52 = 32 ∧ M 102 53 = 32 ∧ M 102 54 = 32 ∧ M 102 55 = 32 ∧ M 102 56 = 99 ∧ M 102 57 = 108 ∧ M 102 58 = 105 ∧ M 102 59 = 99 ∧ M 102 60 = 107 ∧ M 102 61 = 115 ∧ M 102 62 = 32 ∧ M 102 63 = 32 ∧ M 102 64 = 114 ∧ M 102 65 = 111 ∧ M 102 66 = 119 ∧ M 102 67 = 32 ∧ M 102 68 = 32 ∧ M 102 69 = 32 ∧ M 102 70 = 32 ∧ M 102 71 = 32 ∧ M 102 72 = 111 ∧ M 102 73 = 114 ∧ M 102 74 = 32 ∧ M 102 75 = 32 ∧ M 102 76 = 32 ∧ M 102 77 = 32 ∧ M 102 78 = 32 ∧ M 102 79 = 32 ∧ M 102 80 = 97 ∧ M 102 81 = 110 ∧ M 102 82 = 100 ∧ M 102 83 = 32 ∧ M 102 84 = 32 ∧ M 102 85 = 32 ∧ M 102 86 = 32 ∧ M 102 87 = 32 ∧ M 102 88 = 110 ∧ M 102 89 = 111 ∧ M 102 90 = 116 ∧ M 102 91 = 32 ∧ M 102 92 = 32 ∧ M 102 93 = 32 ∧ M 102 94 = 32 ∧ M 102 95 = 32)
/-- a work of the class's law as the model's code -/
def cOf (w v : Int) : Int := if w = 2 then 100000 + v else if w = 3 then v else if w = 7 then 11 else if w = 8 then 12 else if w = 9 then 13 else if w = 60 then 14 else if w = 61 then 15 else if w = 43 then 16 else if w = 45 then 17 else if w = 42 then 18 else 19
/-- the stack's height after a code, 0 if it can't stand -/
def hOf (c : Int) (h : Nat) : Nat := if 100000 ≤ c ∨ c < 11 then h + 1 else if c = 13 ∨ c = 19 then h else h - 1
def hAt (cd : Nat → Int) (lo : Nat) : Nat → Nat
  | 0 => 0
  | k + 1 => hOf (cd (lo + k)) (hAt cd lo k)
def okC (c : Int) (h : Nat) : Prop := (100000 ≤ c ∧ c ≤ 109999) ∨ (0 ≤ c ∧ c < 6) ∨ (1 ≤ h ∧ (c = 13 ∨ c = 19)) ∨ (2 ≤ h ∧ (c = 11 ∨ c = 12 ∨ (14 ≤ c ∧ c ≤ 18)))
def wOK (w v : Int) : Prop := (w = 2 ∧ 0 ≤ v) ∨ (w = 3 ∧ 0 ≤ v ∧ v < 6) ∨ w = 7 ∨ w = 8 ∨ w = 9 ∨ w = 10 ∨ w = 60 ∨ w = 61 ∨ w = 43 ∨ w = 45 ∨ w = 42
def wkOf (t : Nat) : Nat := if t = 0 then 46 else 47 + 5 * t
/-- text t of class and model: the same works -/
def lawRel (t : Nat) (M : Mem) : Prop := (M 94 (4 * t) = 0 ∧ 0 ≤ M 94 (4 * t) ∧ M 94 (4 * t) < M 94 (4 * t + 1) ∧ M 94 (4 * t + 1) < M 94 (4 * t + 2) ∧ M 94 (4 * t + 2) < M 94 (4 * t + 3) ∧ M 94 (4 * t + 3) ≤ 160)
  ∧ (∀ p, p < 4 → M (wkOf t + 2) p = M 94 (4 * t + p))
  ∧ (∀ k : Nat, (k : Int) < M 94 (4 * t + 3) → M 93 (200 * t + k) = cOf (M (wkOf t) k) (M (wkOf t + 1) k) ∧ wOK (M (wkOf t) k) (M (wkOf t + 1) k))
  ∧ (∀ p, p < 3 → ∀ k : Nat, M 94 (4 * t + p) + k < M 94 (4 * t + p + 1) → okC (M 93 (200 * t + ((M 94 (4 * t + p)).toNat + k))) (hAt (fun j => M 93 (200 * t + j)) (M 94 (4 * t + p)).toNat k))
def iLaw (M : Mem) : Prop := (∀ t : Nat, (t : Int) < M 6 5 → lawRel t M) ∧ ∀ t : Nat, t < 6 → M (wkOf t + 2) 0 = 0
def Inv (sc : Nat → Int) (M : Mem) : Prop := iLand M ∧ iStr M ∧ iPla M ∧ iNow M ∧ iTap M ∧ iImg M ∧ iShe M ∧ iCst sc M ∧ iLaw M
/-- then the model's call: the same answer, and all holds again -/
def Fin (n N U : Nat) (sc : Nat → Int) (v : AV) (v' : AV) (M : Mem) (S : Sh) : Prop := v = v' ∧ Inv sc M ∧ Std n S ∧ S.2.2.2.1 ≤ N ∧ S.2.2.2.2 ≤ U
def PQ (m : Nat) (as : List AV) (n N U : Nat) (sc : Nat → Int) (v : AV) (M : Mem) (S : Sh) : Prop := Pr (res m as M S) (Fin n N U sc v)
theorem aI_eq {x y : Int} (h : x = y) : aI x = aI y := congrArg aI h
theorem Fin_id {n : Nat} {sc : Nat → Int} {v v' : AV} {M : Mem} {S : Sh} (hS : Std n S) (hI : Inv sc M) (h : v = v') : Fin n S.2.2.2.1 S.2.2.2.2 sc v v' M S := ⟨h, hI, hS, Nat.le_refl _, Nat.le_refl _⟩
theorem w32_o {x : Int} (h0 : -2147483648 ≤ x) (h1 : x < 2147483648) : w32 x = x := w32_id ⟨h0, h1⟩
