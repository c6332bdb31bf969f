/-- java/util/Arrays.fill([II)V -/
theorem g0 (x1 : Int) (a0 : Nat) (M : Mem) (S : Sh) : res 0 [aR a0, aI x1] M S = go 10 0 0 [some (aR a0), some (aI x1), none, none] [] M S := res_e0 rfl _ M S
theorem g0_0 (r : Nat) (l0 l1 l2 l3 : Option AV) (M : Mem) (S : Sh) : go r 0 0 [l0, l1, l2, l3] [] M S = go r 0 1 [l0, l1, l2, l3] [aI 0] M S := go_nx rfl rfl
theorem g0_1 (r : Nat) (l0 l1 l2 l3 : Option AV) (x : Int) (M : Mem) (S : Sh) : go r 0 1 [l0, l1, l2, l3] [aI x] M S = go r 0 2 [l0, l1, some (aI x), l3] [] M S := go_nx rfl rfl
theorem g0_2 (r : Nat) (l1 l2 l3 : Option AV) (a : Nat) (M : Mem) (S : Sh) : go r 0 2 [some (aR a), l1, l2, l3] [] M S = go r 0 3 [some (aR a), l1, l2, l3] [aR a] M S := go_nx rfl rfl
theorem g0_2n (r : Nat) (l1 l2 l3 : Option AV) (M : Mem) (S : Sh) : go r 0 2 [some aN, l1, l2, l3] [] M S = go r 0 3 [some aN, l1, l2, l3] [aN] M S := go_nx rfl rfl
theorem g0_3 (r : Nat) (l0 l1 l2 l3 : Option AV) (a : Nat) (M : Mem) (S : Sh) (h : 7 ≤ S.1 a ∧ S.1 a ≤ 9) : go r 0 3 [l0, l1, l2, l3] [aR a] M S = go r 0 4 [l0, l1, l2, l3] [aI (S.2.1 a : Nat)] M S := go_bnd rfl h rfl
theorem g0_4 (r : Nat) (l0 l1 l2 l3 : Option AV) (x : Int) (M : Mem) (S : Sh) : go r 0 4 [l0, l1, l2, l3] [aI x] M S = go r 0 5 [l0, l1, l2, some (aI x)] [] M S := go_nx rfl rfl
theorem g0_5 (r : Nat) (l0 l1 l3 : Option AV) (x : Int) (M : Mem) (S : Sh) : go r 0 5 [l0, l1, some (aI x), l3] [] M S = go r 0 6 [l0, l1, some (aI x), l3] [aI x] M S := go_nx rfl rfl
theorem g0_6 (r : Nat) (l0 l1 l2 : Option AV) (s0 : AV) (x : Int) (M : Mem) (S : Sh) : go r 0 6 [l0, l1, l2, some (aI x)] [s0] M S = go r 0 7 [l0, l1, l2, some (aI x)] [aI x, s0] M S := go_nx rfl rfl
theorem g0_7 (r : Nat) (l0 l1 l2 l3 : Option AV) (x y : Int) (M : Mem) (S : Sh) : go r 0 7 [l0, l1, l2, l3] [aI y, aI x] M S = if x ≥ y then go r 0 20 [l0, l1, l2, l3] [] M S else go r 0 10 [l0, l1, l2, l3] [] M S := go_br rfl rfl rfl rfl rfl
theorem g0_10 (r : Nat) (l1 l2 l3 : Option AV) (a : Nat) (M : Mem) (S : Sh) : go r 0 10 [some (aR a), l1, l2, l3] [] M S = go r 0 11 [some (aR a), l1, l2, l3] [aR a] M S := go_nx rfl rfl
theorem g0_10n (r : Nat) (l1 l2 l3 : Option AV) (M : Mem) (S : Sh) : go r 0 10 [some aN, l1, l2, l3] [] M S = go r 0 11 [some aN, l1, l2, l3] [aN] M S := go_nx rfl rfl
theorem g0_11 (r : Nat) (l0 l1 l3 : Option AV) (s0 : AV) (x : Int) (M : Mem) (S : Sh) : go r 0 11 [l0, l1, some (aI x), l3] [s0] M S = go r 0 12 [l0, l1, some (aI x), l3] [aI x, s0] M S := go_nx rfl rfl
theorem g0_12 (r : Nat) (l0 l2 l3 : Option AV) (s0 s1 : AV) (x : Int) (M : Mem) (S : Sh) : go r 0 12 [l0, some (aI x), l2, l3] [s0, s1] M S = go r 0 13 [l0, some (aI x), l2, l3] [aI x, s0, s1] M S := go_nx rfl rfl
theorem g0_13 (r : Nat) (l0 l1 l2 l3 : Option AV) (x y : Int) (a : Nat) (M : Mem) (S : Sh) (h : S.1 a = 7) (h6 : 6 ≤ a) (h0 : 0 ≤ x) (h1 : x < S.2.1 a) : go r 0 13 [l0, l1, l2, l3] [aI y, aI x, aR a] M S = go r 0 14 [l0, l1, l2, l3] [] (mset M a x.toNat y) S := go_bnd rfl ⟨h, h6, h0, h1⟩ rfl
theorem g0_14 (r : Nat) (l0 l1 l3 : Option AV) (x : Int) (M : Mem) (S : Sh) : go r 0 14 [l0, l1, some (aI x), l3] [] M S = go r 0 17 [l0, l1, some (aI (w32 (x + 1))), l3] [] M S := go_nx rfl rfl
theorem g0_17 (r : Nat) (l0 l1 l2 l3 : Option AV) (M : Mem) (S : Sh) : go r 0 17 [l0, l1, l2, l3] [] M S = go r 0 5 [l0, l1, l2, l3] [] M S := go_nx rfl rfl
theorem g0_20 (r : Nat) (l0 l1 l2 l3 : Option AV) (M : Mem) (S : Sh) : go r 0 20 [l0, l1, l2, l3] [] M S = some (none, M, S) := go_rt rfl rfl
