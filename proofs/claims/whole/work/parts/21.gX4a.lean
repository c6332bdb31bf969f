/-- StripsFromAbove$Sheet.<init>()V -/
theorem g39 (a0 : Nat) (M : Mem) (S : Sh) : res 39 [aR a0] M S = go 10 39 0 [some (aR a0)] [] M S := res_e0 rfl _ M S
theorem g39_0 (r : Nat) (a : Nat) (M : Mem) (S : Sh) : go r 39 0 [some (aR a)] [] M S = go r 39 1 [some (aR a)] [aR a] M S := go_nx rfl rfl
theorem g39_1 (r : Nat) (l0 : Option AV) (a : Nat) (M : Mem) (S : Sh) : go r 39 1 [l0] [aR a] M S = go r 39 4 [l0] [] M S := go_bnd (c := ([] : List AV).length ≤ 4) rfl (Nat.le_of_ble_eq_true rfl) rfl
theorem g39_4 (r : Nat) (a : Nat) (M : Mem) (S : Sh) : go r 39 4 [some (aR a)] [] M S = go r 39 5 [some (aR a)] [aR a] M S := go_nx rfl rfl
theorem g39_5 (r : Nat) (l0 : Option AV) (s0 : AV) (M : Mem) (S : Sh) : go r 39 5 [l0] [s0] M S = go r 39 7 [l0] [aI 40, s0] M S := go_nx rfl rfl
theorem g39_7 (r : Nat) (l0 : Option AV) (s0 : AV) (x : Int) (M : Mem) (S : Sh) (h : 0 ≤ x ∧ x ≤ 100000) : go r 39 7 [l0] [aI x, s0] M S = go r 39 9 [l0] [aR S.2.2.2.1, s0] (mrow M S.2.2.2.1 (fun _ => 0)) (fset S.1 S.2.2.2.1 7, fset S.2.1 S.2.2.2.1 x.toNat, S.2.2.1, S.2.2.2.1 + 1, S.2.2.2.2 + x.toNat) := go_bnd rfl h rfl
theorem g39_9 (r : Nat) (l0 : Option AV) (a v : Nat) (M : Mem) (S : Sh) (h : S.1 a = 4) : go r 39 9 [l0] [aR v, aR a] M S = go r 39 12 [l0] [] M (S.1, S.2.1, pset S.2.2.1 a 0 (some v), S.2.2.2) := go_bnd rfl h rfl
theorem g39_12 (r : Nat) (a : Nat) (M : Mem) (S : Sh) : go r 39 12 [some (aR a)] [] M S = go r 39 13 [some (aR a)] [aR a] M S := go_nx rfl rfl
theorem g39_13 (r : Nat) (l0 : Option AV) (s0 : AV) (M : Mem) (S : Sh) : go r 39 13 [l0] [s0] M S = go r 39 14 [l0] [aI (-1), s0] M S := go_nx rfl rfl
theorem g39_14 (r : Nat) (l0 : Option AV) (x : Int) (a : Nat) (M : Mem) (S : Sh) (h : S.1 a = 4) : go r 39 14 [l0] [aI x, aR a] M S = go r 39 17 [l0] [] (mset M a 1 x) S := go_bnd rfl ⟨h, fun z => absurd z (by decide)⟩ rfl
theorem g39_17 (r : Nat) (l0 : Option AV) (M : Mem) (S : Sh) : go r 39 17 [l0] [] M S = some (none, M, S) := go_rt rfl rfl
/-- StripsFromAbove$Sheet.become(II)V -/
theorem g40 (x1 x2 : Int) (a0 : Nat) (M : Mem) (S : Sh) : res 40 [aR a0, aI x1, aI x2] M S = go 11 40 0 [some (aR a0), some (aI x1), some (aI x2)] [] M S := res_e0 rfl _ M S
theorem g40_0 (r : Nat) (l1 l2 : Option AV) (a : Nat) (M : Mem) (S : Sh) : go r 40 0 [some (aR a), l1, l2] [] M S = go r 40 1 [some (aR a), l1, l2] [aR a] M S := go_nx rfl rfl
theorem g40_1 (r : Nat) (l0 l2 : Option AV) (s0 : AV) (x : Int) (M : Mem) (S : Sh) : go r 40 1 [l0, some (aI x), l2] [s0] M S = go r 40 2 [l0, some (aI x), l2] [aI x, s0] M S := go_nx rfl rfl
theorem g40_2 (r : Nat) (l0 l1 l2 : Option AV) (x : Int) (a : Nat) (M : Mem) (S : Sh) (h : S.1 a = 4) : go r 40 2 [l0, l1, l2] [aI x, aR a] M S = go r 40 5 [l0, l1, l2] [] (mset M a 1 x) S := go_bnd rfl ⟨h, fun z => absurd z (by decide)⟩ rfl
theorem g40_5 (r : Nat) (l1 l2 : Option AV) (a : Nat) (M : Mem) (S : Sh) : go r 40 5 [some (aR a), l1, l2] [] M S = go r 40 6 [some (aR a), l1, l2] [aR a] M S := go_nx rfl rfl
theorem g40_6 (r : Nat) (l0 l1 : Option AV) (s0 : AV) (x : Int) (M : Mem) (S : Sh) : go r 40 6 [l0, l1, some (aI x)] [s0] M S = go r 40 7 [l0, l1, some (aI x)] [aI x, s0] M S := go_nx rfl rfl
theorem g40_7 (r : Nat) (l0 l1 l2 : Option AV) (x : Int) (a : Nat) (M : Mem) (S : Sh) (h : S.1 a = 4) : go r 40 7 [l0, l1, l2] [aI x, aR a] M S = go r 40 10 [l0, l1, l2] [] (mset M a 2 x) S := go_bnd rfl ⟨h, fun z => absurd z (by decide)⟩ rfl
theorem g40_10 (r : Nat) (l1 l2 : Option AV) (a : Nat) (M : Mem) (S : Sh) : go r 40 10 [some (aR a), l1, l2] [] M S = go r 40 11 [some (aR a), l1, l2] [aR a] M S := go_nx rfl rfl
theorem g40_11 (r : Nat) (l0 l1 l2 : Option AV) (a : Nat) (M : Mem) (S : Sh) (h : S.1 a = 4) : go r 40 11 [l0, l1, l2] [aR a] M S = go r 40 14 [l0, l1, l2] [aO (S.2.2.1 a 0)] M S := go_bnd rfl h rfl
theorem g40_14 (r : Nat) (l0 l1 l2 : Option AV) (s0 : AV) (M : Mem) (S : Sh) : go r 40 14 [l0, l1, l2] [s0] M S = go r 40 15 [l0, l1, l2] [aI 0, s0] M S := go_nx rfl rfl
theorem g40_15 (r : Nat) (l0 l1 l2 : Option AV) (x1 : Int) (a0 : Nat) (M : Mem) (S : Sh) (hk : 10 < r) : go r 40 15 [l0, l1, l2] [aI x1, aR a0] M S = cont r 40 18 [l0, l1, l2] [] 0 (res 0 [aR a0, aI x1] M S) := go_c0 (m' := 0) (n := 2) (pc' := 18) (hr := 0) rfl rfl rfl rfl rfl rfl hk rfl
theorem g40_18 (r : Nat) (l0 l1 l2 : Option AV) (M : Mem) (S : Sh) : go r 40 18 [l0, l1, l2] [] M S = some (none, M, S) := go_rt rfl rfl
/-- StripsFromAbove$Sheet.write(II)V -/
theorem g41 (x1 x2 : Int) (a0 : Nat) (M : Mem) (S : Sh) : res 41 [aR a0, aI x1, aI x2] M S = go 11 41 0 [some (aR a0), some (aI x1), some (aI x2)] [] M S := res_e0 rfl _ M S
theorem g41_0 (r : Nat) (l1 l2 : Option AV) (a : Nat) (M : Mem) (S : Sh) : go r 41 0 [some (aR a), l1, l2] [] M S = go r 41 1 [some (aR a), l1, l2] [aR a] M S := go_nx rfl rfl
theorem g41_1 (r : Nat) (l0 l1 l2 : Option AV) (a : Nat) (M : Mem) (S : Sh) (h : S.1 a = 4) : go r 41 1 [l0, l1, l2] [aR a] M S = go r 41 4 [l0, l1, l2] [aO (S.2.2.1 a 0)] M S := go_bnd rfl h rfl
theorem g41_4 (r : Nat) (l0 l2 : Option AV) (s0 : AV) (x : Int) (M : Mem) (S : Sh) : go r 41 4 [l0, some (aI x), l2] [s0] M S = go r 41 5 [l0, some (aI x), l2] [aI x, s0] M S := go_nx rfl rfl
theorem g41_5 (r : Nat) (l1 l2 : Option AV) (s0 s1 : AV) (a : Nat) (M : Mem) (S : Sh) : go r 41 5 [some (aR a), l1, l2] [s0, s1] M S = go r 41 6 [some (aR a), l1, l2] [aR a, s0, s1] M S := go_nx rfl rfl
theorem g41_6 (r : Nat) (l0 l1 l2 : Option AV) (s0 s1 : AV) (a : Nat) (M : Mem) (S : Sh) (h : S.1 a = 4) : go r 41 6 [l0, l1, l2] [aR a, s0, s1] M S = go r 41 9 [l0, l1, l2] [aI (M a 1), s0, s1] M S := go_bnd rfl h rfl
theorem g41_9 (r : Nat) (l0 l1 l2 : Option AV) (s0 s1 : AV) (x : Int) (M : Mem) (S : Sh) : go r 41 9 [l0, l1, l2] [aI x, s0, s1] M S = if x ≠ 0 then go r 41 17 [l0, l1, l2] [s0, s1] M S else go r 41 12 [l0, l1, l2] [s0, s1] M S := go_br rfl rfl rfl rfl rfl
theorem g41_12 (r : Nat) (l0 l1 : Option AV) (s0 s1 : AV) (x : Int) (M : Mem) (S : Sh) : go r 41 12 [l0, l1, some (aI x)] [s0, s1] M S = go r 41 13 [l0, l1, some (aI x)] [aI x, s0, s1] M S := go_nx rfl rfl
theorem g41_13 (r : Nat) (l0 l1 l2 : Option AV) (s0 s1 : AV) (x : Int) (M : Mem) (S : Sh) : go r 41 13 [l0, l1, l2] [aI x, s0, s1] M S = go r 41 14 [l0, l1, l2] [aI (w8 x), s0, s1] M S := go_nx rfl rfl
theorem g41_14 (r : Nat) (l0 l1 l2 : Option AV) (s0 s1 s2 : AV) (M : Mem) (S : Sh) : go r 41 14 [l0, l1, l2] [s0, s1, s2] M S = go r 41 31 [l0, l1, l2] [s0, s1, s2] M S := go_nx rfl rfl
theorem g41_17 (r : Nat) (l1 l2 : Option AV) (s0 s1 : AV) (a : Nat) (M : Mem) (S : Sh) : go r 41 17 [some (aR a), l1, l2] [s0, s1] M S = go r 41 18 [some (aR a), l1, l2] [aR a, s0, s1] M S := go_nx rfl rfl
theorem g41_18 (r : Nat) (l0 l1 l2 : Option AV) (s0 s1 : AV) (a : Nat) (M : Mem) (S : Sh) (h : S.1 a = 4) : go r 41 18 [l0, l1, l2] [aR a, s0, s1] M S = go r 41 21 [l0, l1, l2] [aI (M a 1), s0, s1] M S := go_bnd rfl h rfl
theorem g41_21 (r : Nat) (l0 l1 l2 : Option AV) (s0 s1 s2 : AV) (M : Mem) (S : Sh) : go r 41 21 [l0, l1, l2] [s0, s1, s2] M S = go r 41 22 [l0, l1, l2] [aI 1, s0, s1, s2] M S := go_nx rfl rfl
theorem g41_22 (r : Nat) (l0 l1 l2 : Option AV) (s0 s1 : AV) (x y : Int) (M : Mem) (S : Sh) : go r 41 22 [l0, l1, l2] [aI y, aI x, s0, s1] M S = if x ≠ y then go r 41 30 [l0, l1, l2] [s0, s1] M S else go r 41 25 [l0, l1, l2] [s0, s1] M S := go_br rfl rfl rfl rfl rfl
theorem g41_25 (r : Nat) (l0 l1 : Option AV) (s0 s1 : AV) (x : Int) (M : Mem) (S : Sh) : go r 41 25 [l0, l1, some (aI x)] [s0, s1] M S = go r 41 26 [l0, l1, some (aI x)] [aI x, s0, s1] M S := go_nx rfl rfl
theorem g41_26 (r : Nat) (l0 l1 l2 : Option AV) (s0 s1 : AV) (x : Int) (M : Mem) (S : Sh) : go r 41 26 [l0, l1, l2] [aI x, s0, s1] M S = go r 41 27 [l0, l1, l2] [aI (w16 x), s0, s1] M S := go_nx rfl rfl
theorem g41_27 (r : Nat) (l0 l1 l2 : Option AV) (s0 s1 s2 : AV) (M : Mem) (S : Sh) : go r 41 27 [l0, l1, l2] [s0, s1, s2] M S = go r 41 31 [l0, l1, l2] [s0, s1, s2] M S := go_nx rfl rfl
theorem g41_30 (r : Nat) (l0 l1 : Option AV) (s0 s1 : AV) (x : Int) (M : Mem) (S : Sh) : go r 41 30 [l0, l1, some (aI x)] [s0, s1] M S = go r 41 31 [l0, l1, some (aI x)] [aI x, s0, s1] M S := go_nx rfl rfl
theorem g41_31 (r : Nat) (l0 l1 l2 : Option AV) (x1 x2 : Int) (a0 : Nat) (M : Mem) (S : Sh) (hk : 10 < r) : go r 41 31 [l0, l1, l2] [aI x2, aI x1, aR a0] M S = cont r 41 34 [l0, l1, l2] [] 0 (res 97 [aR a0, aI x1, aI x2] M S) := go_c0 (m' := 97) (n := 3) (pc' := 34) (hr := 0) rfl rfl rfl rfl rfl rfl hk rfl
theorem g41_34 (r : Nat) (l0 l1 l2 : Option AV) (M : Mem) (S : Sh) : go r 41 34 [l0, l1, l2] [] M S = some (none, M, S) := go_rt rfl rfl
/-- StripsFromAbove$Sheet.hasRoom(II)Z -/
theorem g42 (x1 x2 : Int) (a0 : Nat) (M : Mem) (S : Sh) : res 42 [aR a0, aI x1, aI x2] M S = go 10 42 0 [some (aR a0), some (aI x1), some (aI x2)] [] M S := res_e0 rfl _ M S
theorem g42_0 (r : Nat) (l0 l1 : Option AV) (x : Int) (M : Mem) (S : Sh) : go r 42 0 [l0, l1, some (aI x)] [] M S = go r 42 1 [l0, l1, some (aI x)] [aI x] M S := go_nx rfl rfl
theorem g42_1 (r : Nat) (l0 l1 l2 : Option AV) (x : Int) (M : Mem) (S : Sh) : go r 42 1 [l0, l1, l2] [aI x] M S = if x < 0 then go r 42 30 [l0, l1, l2] [] M S else go r 42 4 [l0, l1, l2] [] M S := go_br rfl rfl rfl rfl rfl
theorem g42_4 (r : Nat) (l0 l1 : Option AV) (x : Int) (M : Mem) (S : Sh) : go r 42 4 [l0, l1, some (aI x)] [] M S = go r 42 5 [l0, l1, some (aI x)] [aI x] M S := go_nx rfl rfl
theorem g42_5 (r : Nat) (l1 l2 : Option AV) (s0 : AV) (a : Nat) (M : Mem) (S : Sh) : go r 42 5 [some (aR a), l1, l2] [s0] M S = go r 42 6 [some (aR a), l1, l2] [aR a, s0] M S := go_nx rfl rfl
theorem g42_6 (r : Nat) (l0 l1 l2 : Option AV) (s0 : AV) (a : Nat) (M : Mem) (S : Sh) (h : S.1 a = 4) : go r 42 6 [l0, l1, l2] [aR a, s0] M S = go r 42 9 [l0, l1, l2] [aI (M a 2), s0] M S := go_bnd rfl h rfl
theorem g42_9 (r : Nat) (l0 l1 l2 : Option AV) (x y : Int) (M : Mem) (S : Sh) : go r 42 9 [l0, l1, l2] [aI y, aI x] M S = if x > y then go r 42 30 [l0, l1, l2] [] M S else go r 42 12 [l0, l1, l2] [] M S := go_br rfl rfl rfl rfl rfl
theorem g42_12 (r : Nat) (l0 l2 : Option AV) (x : Int) (M : Mem) (S : Sh) : go r 42 12 [l0, some (aI x), l2] [] M S = go r 42 13 [l0, some (aI x), l2] [aI x] M S := go_nx rfl rfl
theorem g42_13 (r : Nat) (l0 l1 l2 : Option AV) (x : Int) (M : Mem) (S : Sh) : go r 42 13 [l0, l1, l2] [aI x] M S = if x < 0 then go r 42 30 [l0, l1, l2] [] M S else go r 42 16 [l0, l1, l2] [] M S := go_br rfl rfl rfl rfl rfl
theorem g42_16 (r : Nat) (l0 l2 : Option AV) (x : Int) (M : Mem) (S : Sh) : go r 42 16 [l0, some (aI x), l2] [] M S = go r 42 17 [l0, some (aI x), l2] [aI x] M S := go_nx rfl rfl
theorem g42_17 (r : Nat) (l1 l2 : Option AV) (s0 : AV) (a : Nat) (M : Mem) (S : Sh) : go r 42 17 [some (aR a), l1, l2] [s0] M S = go r 42 18 [some (aR a), l1, l2] [aR a, s0] M S := go_nx rfl rfl
theorem g42_18 (r : Nat) (l0 l1 l2 : Option AV) (s0 : AV) (a : Nat) (M : Mem) (S : Sh) (h : S.1 a = 4) : go r 42 18 [l0, l1, l2] [aR a, s0] M S = go r 42 21 [l0, l1, l2] [aI (M a 2), s0] M S := go_bnd rfl h rfl
theorem g42_21 (r : Nat) (l0 l1 : Option AV) (s0 s1 : AV) (x : Int) (M : Mem) (S : Sh) : go r 42 21 [l0, l1, some (aI x)] [s0, s1] M S = go r 42 22 [l0, l1, some (aI x)] [aI x, s0, s1] M S := go_nx rfl rfl
theorem g42_22 (r : Nat) (l0 l1 l2 : Option AV) (s0 : AV) (x y : Int) (M : Mem) (S : Sh) : go r 42 22 [l0, l1, l2] [aI y, aI x, s0] M S = go r 42 23 [l0, l1, l2] [aI (w32 (x - y)), s0] M S := go_nx rfl rfl
theorem g42_23 (r : Nat) (l0 l1 l2 : Option AV) (x y : Int) (M : Mem) (S : Sh) : go r 42 23 [l0, l1, l2] [aI y, aI x] M S = if x > y then go r 42 30 [l0, l1, l2] [] M S else go r 42 26 [l0, l1, l2] [] M S := go_br rfl rfl rfl rfl rfl
theorem g42_26 (r : Nat) (l0 l1 l2 : Option AV) (M : Mem) (S : Sh) : go r 42 26 [l0, l1, l2] [] M S = go r 42 27 [l0, l1, l2] [aI 1] M S := go_nx rfl rfl
theorem g42_27 (r : Nat) (l0 l1 l2 : Option AV) (s0 : AV) (M : Mem) (S : Sh) : go r 42 27 [l0, l1, l2] [s0] M S = go r 42 31 [l0, l1, l2] [s0] M S := go_nx rfl rfl
theorem g42_30 (r : Nat) (l0 l1 l2 : Option AV) (M : Mem) (S : Sh) : go r 42 30 [l0, l1, l2] [] M S = go r 42 31 [l0, l1, l2] [aI 0] M S := go_nx rfl rfl
theorem g42_31 (r : Nat) (l0 l1 l2 : Option AV) (x : Int) (M : Mem) (S : Sh) (h : x = 0 ∨ x = 1) : go r 42 31 [l0, l1, l2] [aI x] M S = some (some (aI x), M, S) := go_rt rfl (bnd_t (Or.inr h))
