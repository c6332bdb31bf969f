/-- StripsFromAbove$Reader.<init>([IILStripsFromAbove$Law;)V -/
theorem g15 (x2 : Int) (a0 a1 a3 : Nat) (M : Mem) (S : Sh) : res 15 [aR a0, aR a1, aI x2, aR a3] M S = go 10 15 0 [some (aR a0), some (aR a1), some (aI x2), some (aR a3)] [] M S := res_e0 rfl _ M S
theorem g15_0 (r : Nat) (l1 l2 l3 : Option AV) (a : Nat) (M : Mem) (S : Sh) : go r 15 0 [some (aR a), l1, l2, l3] [] M S = go r 15 1 [some (aR a), l1, l2, l3] [aR a] M S := go_nx rfl rfl
theorem g15_1 (r : Nat) (l0 l1 l2 l3 : Option AV) (a : Nat) (M : Mem) (S : Sh) : go r 15 1 [l0, l1, l2, l3] [aR a] M S = go r 15 4 [l0, l1, l2, l3] [] M S := go_bnd (c := ([] : List AV).length ≤ 4) rfl (Nat.le_of_ble_eq_true rfl) rfl
theorem g15_4 (r : Nat) (l1 l2 l3 : Option AV) (a : Nat) (M : Mem) (S : Sh) : go r 15 4 [some (aR a), l1, l2, l3] [] M S = go r 15 5 [some (aR a), l1, l2, l3] [aR a] M S := go_nx rfl rfl
theorem g15_5 (r : Nat) (l0 l1 l2 l3 : Option AV) (s0 : AV) (M : Mem) (S : Sh) : go r 15 5 [l0, l1, l2, l3] [s0] M S = go r 15 6 [l0, l1, l2, l3] [aI (-1), s0] M S := go_nx rfl rfl
theorem g15_6 (r : Nat) (l0 l1 l2 l3 : Option AV) (x : Int) (a : Nat) (M : Mem) (S : Sh) (h : S.1 a = 2) : go r 15 6 [l0, l1, l2, l3] [aI x, aR a] M S = go r 15 9 [l0, l1, l2, l3] [] (mset M a 7 x) S := go_bnd rfl ⟨h, fun z => absurd z (by decide)⟩ rfl
theorem g15_9 (r : Nat) (l1 l2 l3 : Option AV) (a : Nat) (M : Mem) (S : Sh) : go r 15 9 [some (aR a), l1, l2, l3] [] M S = go r 15 10 [some (aR a), l1, l2, l3] [aR a] M S := go_nx rfl rfl
theorem g15_10 (r : Nat) (l0 l2 l3 : Option AV) (s0 : AV) (a : Nat) (M : Mem) (S : Sh) : go r 15 10 [l0, some (aR a), l2, l3] [s0] M S = go r 15 11 [l0, some (aR a), l2, l3] [aR a, s0] M S := go_nx rfl rfl
theorem g15_10n (r : Nat) (l0 l2 l3 : Option AV) (s0 : AV) (M : Mem) (S : Sh) : go r 15 10 [l0, some aN, l2, l3] [s0] M S = go r 15 11 [l0, some aN, l2, l3] [aN, s0] M S := go_nx rfl rfl
theorem g15_11 (r : Nat) (l0 l1 l2 l3 : Option AV) (a v : Nat) (M : Mem) (S : Sh) (h : S.1 a = 2) : go r 15 11 [l0, l1, l2, l3] [aR v, aR a] M S = go r 15 14 [l0, l1, l2, l3] [] M (S.1, S.2.1, pset S.2.2.1 a 0 (some v), S.2.2.2) := go_bnd rfl h rfl
theorem g15_14 (r : Nat) (l1 l2 l3 : Option AV) (a : Nat) (M : Mem) (S : Sh) : go r 15 14 [some (aR a), l1, l2, l3] [] M S = go r 15 15 [some (aR a), l1, l2, l3] [aR a] M S := go_nx rfl rfl
theorem g15_15 (r : Nat) (l0 l1 l3 : Option AV) (s0 : AV) (x : Int) (M : Mem) (S : Sh) : go r 15 15 [l0, l1, some (aI x), l3] [s0] M S = go r 15 16 [l0, l1, some (aI x), l3] [aI x, s0] M S := go_nx rfl rfl
theorem g15_16 (r : Nat) (l0 l1 l2 l3 : Option AV) (x : Int) (a : Nat) (M : Mem) (S : Sh) (h : S.1 a = 2) : go r 15 16 [l0, l1, l2, l3] [aI x, aR a] M S = go r 15 19 [l0, l1, l2, l3] [] (mset M a 1 x) S := go_bnd rfl ⟨h, fun z => absurd z (by decide)⟩ rfl
theorem g15_19 (r : Nat) (l1 l2 l3 : Option AV) (a : Nat) (M : Mem) (S : Sh) : go r 15 19 [some (aR a), l1, l2, l3] [] M S = go r 15 20 [some (aR a), l1, l2, l3] [aR a] M S := go_nx rfl rfl
theorem g15_20 (r : Nat) (l0 l1 l2 : Option AV) (s0 : AV) (a : Nat) (M : Mem) (S : Sh) : go r 15 20 [l0, l1, l2, some (aR a)] [s0] M S = go r 15 21 [l0, l1, l2, some (aR a)] [aR a, s0] M S := go_nx rfl rfl
theorem g15_20n (r : Nat) (l0 l1 l2 : Option AV) (s0 : AV) (M : Mem) (S : Sh) : go r 15 20 [l0, l1, l2, some aN] [s0] M S = go r 15 21 [l0, l1, l2, some aN] [aN, s0] M S := go_nx rfl rfl
theorem g15_21 (r : Nat) (l0 l1 l2 l3 : Option AV) (a v : Nat) (M : Mem) (S : Sh) (h : S.1 a = 2) : go r 15 21 [l0, l1, l2, l3] [aR v, aR a] M S = go r 15 24 [l0, l1, l2, l3] [] M (S.1, S.2.1, pset S.2.2.1 a 2 (some v), S.2.2.2) := go_bnd rfl h rfl
theorem g15_24 (r : Nat) (l0 l1 l2 l3 : Option AV) (M : Mem) (S : Sh) : go r 15 24 [l0, l1, l2, l3] [] M S = some (none, M, S) := go_rt rfl rfl
/-- StripsFromAbove$Reader.read()I -/
theorem g16 (a0 : Nat) (M : Mem) (S : Sh) : res 16 [aR a0] M S = go 68 16 0 [some (aR a0), none] [] M S := res_e0 rfl _ M S
theorem g16_0 (r : Nat) (l1 : Option AV) (a : Nat) (M : Mem) (S : Sh) : go r 16 0 [some (aR a), l1] [] M S = go r 16 1 [some (aR a), l1] [aR a] M S := go_nx rfl rfl
theorem g16_1 (r : Nat) (l0 l1 : Option AV) (a : Nat) (M : Mem) (S : Sh) (h : S.1 a = 2) : go r 16 1 [l0, l1] [aR a] M S = go r 16 4 [l0, l1] [aO (S.2.2.1 a 2)] M S := go_bnd rfl h rfl
theorem g16_4 (r : Nat) (l0 l1 : Option AV) (a0 : Nat) (M : Mem) (S : Sh) (hk : 10 < r) (h : S.1 a0 = 1) : go r 16 4 [l0, l1] [aR a0] M S = cont r 16 7 [l0, l1] [] 0 (res 10 [aR a0] M S) := go_cr0 (m' := 10) (n := 1) (pc' := 7) (hr := 0) rfl rfl rfl h rfl rfl rfl rfl hk rfl
theorem g16_7 (r : Nat) (l1 : Option AV) (a : Nat) (M : Mem) (S : Sh) : go r 16 7 [some (aR a), l1] [] M S = go r 16 8 [some (aR a), l1] [aR a] M S := go_nx rfl rfl
theorem g16_8 (r : Nat) (l0 l1 : Option AV) (a0 : Nat) (M : Mem) (S : Sh) (hk : 12 < r) (h : S.1 a0 = 2) : go r 16 8 [l0, l1] [aR a0] M S = cont r 16 11 [l0, l1] [] 0 (res 25 [aR a0] M S) := go_cr0 (m' := 25) (n := 1) (pc' := 11) (hr := 0) rfl rfl rfl h rfl rfl rfl rfl hk rfl
theorem g16_11 (r : Nat) (l0 l1 : Option AV) (M : Mem) (S : Sh) : go r 16 11 [l0, l1] [] M S = go r 16 12 [l0, l1] [aI 0] M S := go_nx rfl rfl
theorem g16_12 (r : Nat) (l0 l1 : Option AV) (x : Int) (M : Mem) (S : Sh) : go r 16 12 [l0, l1] [aI x] M S = go r 16 13 [l0, some (aI x)] [] M S := go_nx rfl rfl
theorem g16_13 (r : Nat) (l0 : Option AV) (x : Int) (M : Mem) (S : Sh) : go r 16 13 [l0, some (aI x)] [] M S = go r 16 14 [l0, some (aI x)] [aI x] M S := go_nx rfl rfl
theorem g16_14 (r : Nat) (l0 l1 : Option AV) (s0 : AV) (M : Mem) (S : Sh) : go r 16 14 [l0, l1] [s0] M S = go r 16 15 [l0, l1] [aI 3, s0] M S := go_nx rfl rfl
theorem g16_15 (r : Nat) (l0 l1 : Option AV) (x y : Int) (M : Mem) (S : Sh) : go r 16 15 [l0, l1] [aI y, aI x] M S = if x ≥ y then go r 16 50 [l0, l1] [] M S else go r 16 18 [l0, l1] [] M S := go_br rfl rfl rfl rfl rfl
theorem g16_18 (r : Nat) (l1 : Option AV) (a : Nat) (M : Mem) (S : Sh) : go r 16 18 [some (aR a), l1] [] M S = go r 16 19 [some (aR a), l1] [aR a] M S := go_nx rfl rfl
theorem g16_19 (r : Nat) (l0 l1 : Option AV) (s0 : AV) (M : Mem) (S : Sh) : go r 16 19 [l0, l1] [s0] M S = go r 16 20 [l0, l1] [aI 4, s0] M S := go_nx rfl rfl
theorem g16_20 (r : Nat) (l0 : Option AV) (s0 s1 : AV) (x : Int) (M : Mem) (S : Sh) : go r 16 20 [l0, some (aI x)] [s0, s1] M S = go r 16 21 [l0, some (aI x)] [aI x, s0, s1] M S := go_nx rfl rfl
theorem g16_21 (r : Nat) (l0 l1 : Option AV) (s0 : AV) (x y : Int) (M : Mem) (S : Sh) : go r 16 21 [l0, l1] [aI y, aI x, s0] M S = go r 16 22 [l0, l1] [aI (w32 (x + y)), s0] M S := go_nx rfl rfl
theorem g16_22 (r : Nat) (l0 l1 : Option AV) (x1 : Int) (a0 : Nat) (M : Mem) (S : Sh) (hk : 13 < r) (h : S.1 a0 = 2) : go r 16 22 [l0, l1] [aI x1, aR a0] M S = cont r 16 25 [l0, l1] [] 0 (res 18 [aR a0, aI x1] M S) := go_cr0 (m' := 18) (n := 2) (pc' := 25) (hr := 0) rfl rfl rfl h rfl rfl rfl rfl hk rfl
theorem g16_25 (r : Nat) (l1 : Option AV) (a : Nat) (M : Mem) (S : Sh) : go r 16 25 [some (aR a), l1] [] M S = go r 16 26 [some (aR a), l1] [aR a] M S := go_nx rfl rfl
theorem g16_26 (r : Nat) (l0 l1 : Option AV) (s0 : AV) (M : Mem) (S : Sh) : go r 16 26 [l0, l1] [s0] M S = go r 16 27 [l0, l1] [aI 0, s0] M S := go_nx rfl rfl
theorem g16_27 (r : Nat) (l0 l1 : Option AV) (x1 : Int) (a0 : Nat) (M : Mem) (S : Sh) (hk : rk 19 [aR a0, aI x1] < r) (h : S.1 a0 = 2) : go r 16 27 [l0, l1] [aI x1, aR a0] M S = cont r 16 30 [l0, l1] [] 0 (res 19 [aR a0, aI x1] M S) := go_cr (m' := 19) (n := 2) (pc' := 30) (hr := 0) rfl rfl rfl h rfl rfl rfl hk rfl
theorem g16_30 (r : Nat) (l1 : Option AV) (a : Nat) (M : Mem) (S : Sh) : go r 16 30 [some (aR a), l1] [] M S = go r 16 31 [some (aR a), l1] [aR a] M S := go_nx rfl rfl
theorem g16_31 (r : Nat) (l0 l1 : Option AV) (s0 : AV) (M : Mem) (S : Sh) : go r 16 31 [l0, l1] [s0] M S = go r 16 33 [l0, l1] [aI 59, s0] M S := go_nx rfl rfl
theorem g16_33 (r : Nat) (l0 l1 : Option AV) (x1 : Int) (a0 : Nat) (M : Mem) (S : Sh) (hk : 13 < r) (h : S.1 a0 = 2) : go r 16 33 [l0, l1] [aI x1, aR a0] M S = cont r 16 36 [l0, l1] [] 0 (res 18 [aR a0, aI x1] M S) := go_cr0 (m' := 18) (n := 2) (pc' := 36) (hr := 0) rfl rfl rfl h rfl rfl rfl rfl hk rfl
theorem g16_36 (r : Nat) (l1 : Option AV) (a : Nat) (M : Mem) (S : Sh) : go r 16 36 [some (aR a), l1] [] M S = go r 16 37 [some (aR a), l1] [aR a] M S := go_nx rfl rfl
theorem g16_37 (r : Nat) (l0 l1 : Option AV) (a : Nat) (M : Mem) (S : Sh) (h : S.1 a = 2) : go r 16 37 [l0, l1] [aR a] M S = go r 16 40 [l0, l1] [aO (S.2.2.1 a 2)] M S := go_bnd rfl h rfl
theorem g16_40 (r : Nat) (l0 : Option AV) (s0 : AV) (x : Int) (M : Mem) (S : Sh) : go r 16 40 [l0, some (aI x)] [s0] M S = go r 16 41 [l0, some (aI x)] [aI x, s0] M S := go_nx rfl rfl
theorem g16_41 (r : Nat) (l0 l1 : Option AV) (x1 : Int) (a0 : Nat) (M : Mem) (S : Sh) (hk : 11 < r) (h : S.1 a0 = 1) : go r 16 41 [l0, l1] [aI x1, aR a0] M S = cont r 16 44 [l0, l1] [] 0 (res 12 [aR a0, aI x1] M S) := go_cr0 (m' := 12) (n := 2) (pc' := 44) (hr := 0) rfl rfl rfl h rfl rfl rfl rfl hk rfl
theorem g16_44 (r : Nat) (l0 : Option AV) (x : Int) (M : Mem) (S : Sh) : go r 16 44 [l0, some (aI x)] [] M S = go r 16 47 [l0, some (aI (w32 (x + 1)))] [] M S := go_nx rfl rfl
theorem g16_47 (r : Nat) (l0 l1 : Option AV) (M : Mem) (S : Sh) : go r 16 47 [l0, l1] [] M S = go r 16 13 [l0, l1] [] M S := go_nx rfl rfl
theorem g16_50 (r : Nat) (l1 : Option AV) (a : Nat) (M : Mem) (S : Sh) : go r 16 50 [some (aR a), l1] [] M S = go r 16 51 [some (aR a), l1] [aR a] M S := go_nx rfl rfl
theorem g16_51 (r : Nat) (l0 l1 : Option AV) (a : Nat) (M : Mem) (S : Sh) (h : S.1 a = 2) : go r 16 51 [l0, l1] [aR a] M S = go r 16 54 [l0, l1] [aI (M a 5)] M S := go_bnd rfl h rfl
theorem g16_54 (r : Nat) (l0 l1 : Option AV) (x : Int) (M : Mem) (S : Sh) : go r 16 54 [l0, l1] [aI x] M S = if x = 0 then go r 16 61 [l0, l1] [] M S else go r 16 57 [l0, l1] [] M S := go_br rfl rfl rfl rfl rfl
theorem g16_57 (r : Nat) (l1 : Option AV) (a : Nat) (M : Mem) (S : Sh) : go r 16 57 [some (aR a), l1] [] M S = go r 16 58 [some (aR a), l1] [aR a] M S := go_nx rfl rfl
theorem g16_58 (r : Nat) (l0 l1 : Option AV) (a0 : Nat) (M : Mem) (S : Sh) (hk : 10 < r) (h : S.1 a0 = 2) : go r 16 58 [l0, l1] [aR a0] M S = cont r 16 61 [l0, l1] [] 0 (res 17 [aR a0] M S) := go_cr0 (m' := 17) (n := 1) (pc' := 61) (hr := 0) rfl rfl rfl h rfl rfl rfl rfl hk rfl
theorem g16_61 (r : Nat) (l1 : Option AV) (a : Nat) (M : Mem) (S : Sh) : go r 16 61 [some (aR a), l1] [] M S = go r 16 62 [some (aR a), l1] [aR a] M S := go_nx rfl rfl
theorem g16_62 (r : Nat) (l0 l1 : Option AV) (a : Nat) (M : Mem) (S : Sh) (h : S.1 a = 2) : go r 16 62 [l0, l1] [aR a] M S = go r 16 65 [l0, l1] [aI (M a 7)] M S := go_bnd rfl h rfl
theorem g16_65 (r : Nat) (l0 l1 : Option AV) (x : Int) (M : Mem) (S : Sh) : go r 16 65 [l0, l1] [aI x] M S = some (some (aI x), M, S) := go_rt rfl (bnd_t (Or.inl rfl))
/-- StripsFromAbove$Reader.refuse()V -/
theorem g17 (a0 : Nat) (M : Mem) (S : Sh) : res 17 [aR a0] M S = go 10 17 0 [some (aR a0)] [] M S := res_e0 rfl _ M S
theorem g17_0 (r : Nat) (a : Nat) (M : Mem) (S : Sh) : go r 17 0 [some (aR a)] [] M S = go r 17 1 [some (aR a)] [aR a] M S := go_nx rfl rfl
theorem g17_1 (r : Nat) (l0 : Option AV) (a : Nat) (M : Mem) (S : Sh) (h : S.1 a = 2) : go r 17 1 [l0] [aR a] M S = go r 17 4 [l0] [aI (M a 7)] M S := go_bnd rfl h rfl
theorem g17_4 (r : Nat) (l0 : Option AV) (s0 : AV) (M : Mem) (S : Sh) : go r 17 4 [l0] [s0] M S = go r 17 5 [l0] [aI (-1), s0] M S := go_nx rfl rfl
theorem g17_5 (r : Nat) (l0 : Option AV) (x y : Int) (M : Mem) (S : Sh) : go r 17 5 [l0] [aI y, aI x] M S = if x ≠ y then go r 17 16 [l0] [] M S else go r 17 8 [l0] [] M S := go_br rfl rfl rfl rfl rfl
theorem g17_8 (r : Nat) (a : Nat) (M : Mem) (S : Sh) : go r 17 8 [some (aR a)] [] M S = go r 17 9 [some (aR a)] [aR a] M S := go_nx rfl rfl
theorem g17_9 (r : Nat) (s0 : AV) (a : Nat) (M : Mem) (S : Sh) : go r 17 9 [some (aR a)] [s0] M S = go r 17 10 [some (aR a)] [aR a, s0] M S := go_nx rfl rfl
theorem g17_10 (r : Nat) (l0 : Option AV) (s0 : AV) (a : Nat) (M : Mem) (S : Sh) (h : S.1 a = 2) : go r 17 10 [l0] [aR a, s0] M S = go r 17 13 [l0] [aI (M a 4), s0] M S := go_bnd rfl h rfl
theorem g17_13 (r : Nat) (l0 : Option AV) (x : Int) (a : Nat) (M : Mem) (S : Sh) (h : S.1 a = 2) : go r 17 13 [l0] [aI x, aR a] M S = go r 17 16 [l0] [] (mset M a 7 x) S := go_bnd rfl ⟨h, fun z => absurd z (by decide)⟩ rfl
theorem g17_16 (r : Nat) (a : Nat) (M : Mem) (S : Sh) : go r 17 16 [some (aR a)] [] M S = go r 17 17 [some (aR a)] [aR a] M S := go_nx rfl rfl
theorem g17_17 (r : Nat) (l0 : Option AV) (s0 : AV) (M : Mem) (S : Sh) : go r 17 17 [l0] [s0] M S = go r 17 18 [l0] [aI 1, s0] M S := go_nx rfl rfl
theorem g17_18 (r : Nat) (l0 : Option AV) (x : Int) (a : Nat) (M : Mem) (S : Sh) (h : S.1 a = 2) : go r 17 18 [l0] [aI x, aR a] M S = go r 17 21 [l0] [] (mset M a 5 x) S := go_bnd rfl ⟨h, fun z => absurd z (by decide)⟩ rfl
theorem g17_21 (r : Nat) (l0 : Option AV) (M : Mem) (S : Sh) : go r 17 21 [l0] [] M S = some (none, M, S) := go_rt rfl rfl
/-- StripsFromAbove$Reader.expect(I)V -/
theorem g18 (x1 : Int) (a0 : Nat) (M : Mem) (S : Sh) : res 18 [aR a0, aI x1] M S = go 13 18 0 [some (aR a0), some (aI x1)] [] M S := res_e0 rfl _ M S
theorem g18_0 (r : Nat) (l1 : Option AV) (a : Nat) (M : Mem) (S : Sh) : go r 18 0 [some (aR a), l1] [] M S = go r 18 1 [some (aR a), l1] [aR a] M S := go_nx rfl rfl
theorem g18_1 (r : Nat) (l0 l1 : Option AV) (a : Nat) (M : Mem) (S : Sh) (h : S.1 a = 2) : go r 18 1 [l0, l1] [aR a] M S = go r 18 4 [l0, l1] [aI (M a 5)] M S := go_bnd rfl h rfl
theorem g18_4 (r : Nat) (l0 : Option AV) (s0 : AV) (x : Int) (M : Mem) (S : Sh) : go r 18 4 [l0, some (aI x)] [s0] M S = go r 18 5 [l0, some (aI x)] [aI x, s0] M S := go_nx rfl rfl
theorem g18_5 (r : Nat) (l0 l1 : Option AV) (x y : Int) (M : Mem) (S : Sh) : go r 18 5 [l0, l1] [aI y, aI x] M S = if x ≠ y then go r 18 15 [l0, l1] [] M S else go r 18 8 [l0, l1] [] M S := go_br rfl rfl rfl rfl rfl
theorem g18_8 (r : Nat) (l1 : Option AV) (a : Nat) (M : Mem) (S : Sh) : go r 18 8 [some (aR a), l1] [] M S = go r 18 9 [some (aR a), l1] [aR a] M S := go_nx rfl rfl
theorem g18_9 (r : Nat) (l0 l1 : Option AV) (a0 : Nat) (M : Mem) (S : Sh) (hk : 12 < r) (h : S.1 a0 = 2) : go r 18 9 [l0, l1] [aR a0] M S = cont r 18 12 [l0, l1] [] 0 (res 25 [aR a0] M S) := go_cr0 (m' := 25) (n := 1) (pc' := 12) (hr := 0) rfl rfl rfl h rfl rfl rfl rfl hk rfl
theorem g18_12 (r : Nat) (l0 l1 : Option AV) (M : Mem) (S : Sh) : go r 18 12 [l0, l1] [] M S = go r 18 19 [l0, l1] [] M S := go_nx rfl rfl
theorem g18_15 (r : Nat) (l1 : Option AV) (a : Nat) (M : Mem) (S : Sh) : go r 18 15 [some (aR a), l1] [] M S = go r 18 16 [some (aR a), l1] [aR a] M S := go_nx rfl rfl
theorem g18_16 (r : Nat) (l0 l1 : Option AV) (a0 : Nat) (M : Mem) (S : Sh) (hk : 10 < r) (h : S.1 a0 = 2) : go r 18 16 [l0, l1] [aR a0] M S = cont r 18 19 [l0, l1] [] 0 (res 17 [aR a0] M S) := go_cr0 (m' := 17) (n := 1) (pc' := 19) (hr := 0) rfl rfl rfl h rfl rfl rfl rfl hk rfl
theorem g18_19 (r : Nat) (l0 l1 : Option AV) (M : Mem) (S : Sh) : go r 18 19 [l0, l1] [] M S = some (none, M, S) := go_rt rfl rfl
/-- StripsFromAbove$Reader.readEither(I)V -/
theorem g19 (x1 : Int) (a0 : Nat) (M : Mem) (S : Sh) : res 19 [aR a0, aI x1] M S = go (rk 19 [aR a0, aI x1]) 19 0 [some (aR a0), some (aI x1), none] [] M S := rfl
theorem g19_0 (r : Nat) (l1 l2 : Option AV) (a : Nat) (M : Mem) (S : Sh) : go r 19 0 [some (aR a), l1, l2] [] M S = go r 19 1 [some (aR a), l1, l2] [aR a] M S := go_nx rfl rfl
theorem g19_1 (r : Nat) (l0 l2 : Option AV) (s0 : AV) (x : Int) (M : Mem) (S : Sh) : go r 19 1 [l0, some (aI x), l2] [s0] M S = go r 19 2 [l0, some (aI x), l2] [aI x, s0] M S := go_nx rfl rfl
theorem g19_2 (r : Nat) (l0 l1 l2 : Option AV) (x1 : Int) (a0 : Nat) (M : Mem) (S : Sh) (hk : rk 20 [aR a0, aI x1] < r) (h : S.1 a0 = 2) : go r 19 2 [l0, l1, l2] [aI x1, aR a0] M S = cont r 19 5 [l0, l1, l2] [] 0 (res 20 [aR a0, aI x1] M S) := go_cr (m' := 20) (n := 2) (pc' := 5) (hr := 0) rfl rfl rfl h rfl rfl rfl hk rfl
theorem g19_5 (r : Nat) (l0 l1 l2 : Option AV) (M : Mem) (S : Sh) : go r 19 5 [l0, l1, l2] [] M S = go r 19 6 [l0, l1, l2] [aI 0] M S := go_nx rfl rfl
theorem g19_6 (r : Nat) (l0 l1 l2 : Option AV) (x : Int) (M : Mem) (S : Sh) : go r 19 6 [l0, l1, l2] [aI x] M S = go r 19 7 [l0, l1, some (aI x)] [] M S := go_nx rfl rfl
theorem g19_7 (r : Nat) (l0 l1 : Option AV) (x : Int) (M : Mem) (S : Sh) : go r 19 7 [l0, l1, some (aI x)] [] M S = go r 19 8 [l0, l1, some (aI x)] [aI x] M S := go_nx rfl rfl
theorem g19_8 (r : Nat) (l0 l1 l2 : Option AV) (s0 : AV) (M : Mem) (S : Sh) : go r 19 8 [l0, l1, l2] [s0] M S = go r 19 11 [l0, l1, l2] [aI 160, s0] M S := go_nx rfl rfl
theorem g19_11 (r : Nat) (l0 l1 l2 : Option AV) (x y : Int) (M : Mem) (S : Sh) : go r 19 11 [l0, l1, l2] [aI y, aI x] M S = if x ≥ y then go r 19 48 [l0, l1, l2] [] M S else go r 19 14 [l0, l1, l2] [] M S := go_br rfl rfl rfl rfl rfl
theorem g19_14 (r : Nat) (l1 l2 : Option AV) (a : Nat) (M : Mem) (S : Sh) : go r 19 14 [some (aR a), l1, l2] [] M S = go r 19 15 [some (aR a), l1, l2] [aR a] M S := go_nx rfl rfl
theorem g19_15 (r : Nat) (l0 l1 l2 : Option AV) (a : Nat) (M : Mem) (S : Sh) (h : S.1 a = 2) : go r 19 15 [l0, l1, l2] [aR a] M S = go r 19 18 [l0, l1, l2] [aI (M a 5)] M S := go_bnd rfl h rfl
theorem g19_18 (r : Nat) (l0 l1 l2 : Option AV) (s0 : AV) (M : Mem) (S : Sh) : go r 19 18 [l0, l1, l2] [s0] M S = go r 19 20 [l0, l1, l2] [aI 7, s0] M S := go_nx rfl rfl
theorem g19_20 (r : Nat) (l0 l1 l2 : Option AV) (x y : Int) (M : Mem) (S : Sh) : go r 19 20 [l0, l1, l2] [aI y, aI x] M S = if x ≠ y then go r 19 48 [l0, l1, l2] [] M S else go r 19 23 [l0, l1, l2] [] M S := go_br rfl rfl rfl rfl rfl
theorem g19_23 (r : Nat) (l1 l2 : Option AV) (a : Nat) (M : Mem) (S : Sh) : go r 19 23 [some (aR a), l1, l2] [] M S = go r 19 24 [some (aR a), l1, l2] [aR a] M S := go_nx rfl rfl
theorem g19_24 (r : Nat) (l0 l1 l2 : Option AV) (a0 : Nat) (M : Mem) (S : Sh) (hk : 12 < r) (h : S.1 a0 = 2) : go r 19 24 [l0, l1, l2] [aR a0] M S = cont r 19 27 [l0, l1, l2] [] 0 (res 25 [aR a0] M S) := go_cr0 (m' := 25) (n := 1) (pc' := 27) (hr := 0) rfl rfl rfl h rfl rfl rfl rfl hk rfl
theorem g19_27 (r : Nat) (l1 l2 : Option AV) (a : Nat) (M : Mem) (S : Sh) : go r 19 27 [some (aR a), l1, l2] [] M S = go r 19 28 [some (aR a), l1, l2] [aR a] M S := go_nx rfl rfl
theorem g19_28 (r : Nat) (l0 l2 : Option AV) (s0 : AV) (x : Int) (M : Mem) (S : Sh) : go r 19 28 [l0, some (aI x), l2] [s0] M S = go r 19 29 [l0, some (aI x), l2] [aI x, s0] M S := go_nx rfl rfl
theorem g19_29 (r : Nat) (l0 l1 l2 : Option AV) (x1 : Int) (a0 : Nat) (M : Mem) (S : Sh) (hk : rk 20 [aR a0, aI x1] < r) (h : S.1 a0 = 2) : go r 19 29 [l0, l1, l2] [aI x1, aR a0] M S = cont r 19 32 [l0, l1, l2] [] 0 (res 20 [aR a0, aI x1] M S) := go_cr (m' := 20) (n := 2) (pc' := 32) (hr := 0) rfl rfl rfl h rfl rfl rfl hk rfl
theorem g19_32 (r : Nat) (l1 l2 : Option AV) (a : Nat) (M : Mem) (S : Sh) : go r 19 32 [some (aR a), l1, l2] [] M S = go r 19 33 [some (aR a), l1, l2] [aR a] M S := go_nx rfl rfl
theorem g19_33 (r : Nat) (l0 l1 l2 : Option AV) (a : Nat) (M : Mem) (S : Sh) (h : S.1 a = 2) : go r 19 33 [l0, l1, l2] [aR a] M S = go r 19 36 [l0, l1, l2] [aO (S.2.2.1 a 2)] M S := go_bnd rfl h rfl
theorem g19_36 (r : Nat) (l0 l1 l2 : Option AV) (s0 : AV) (M : Mem) (S : Sh) : go r 19 36 [l0, l1, l2] [s0] M S = go r 19 38 [l0, l1, l2] [aI 7, s0] M S := go_nx rfl rfl
theorem g19_38 (r : Nat) (l0 l1 l2 : Option AV) (s0 s1 : AV) (M : Mem) (S : Sh) : go r 19 38 [l0, l1, l2] [s0, s1] M S = go r 19 39 [l0, l1, l2] [aI 0, s0, s1] M S := go_nx rfl rfl
theorem g19_39 (r : Nat) (l0 l1 l2 : Option AV) (x1 x2 : Int) (a0 : Nat) (M : Mem) (S : Sh) (hk : 11 < r) (h : S.1 a0 = 1) : go r 19 39 [l0, l1, l2] [aI x2, aI x1, aR a0] M S = cont r 19 42 [l0, l1, l2] [] 0 (res 11 [aR a0, aI x1, aI x2] M S) := go_cr0 (m' := 11) (n := 3) (pc' := 42) (hr := 0) rfl rfl rfl h rfl rfl rfl rfl hk rfl
theorem g19_42 (r : Nat) (l0 l1 : Option AV) (x : Int) (M : Mem) (S : Sh) : go r 19 42 [l0, l1, some (aI x)] [] M S = go r 19 45 [l0, l1, some (aI (w32 (x + 1)))] [] M S := go_nx rfl rfl
theorem g19_45 (r : Nat) (l0 l1 l2 : Option AV) (M : Mem) (S : Sh) : go r 19 45 [l0, l1, l2] [] M S = go r 19 7 [l0, l1, l2] [] M S := go_nx rfl rfl
theorem g19_48 (r : Nat) (l0 l1 l2 : Option AV) (M : Mem) (S : Sh) : go r 19 48 [l0, l1, l2] [] M S = some (none, M, S) := go_rt rfl rfl
/-- StripsFromAbove$Reader.readBoth(I)V -/
theorem g20 (x1 : Int) (a0 : Nat) (M : Mem) (S : Sh) : res 20 [aR a0, aI x1] M S = go (rk 20 [aR a0, aI x1]) 20 0 [some (aR a0), some (aI x1), none] [] M S := rfl
theorem g20_0 (r : Nat) (l1 l2 : Option AV) (a : Nat) (M : Mem) (S : Sh) : go r 20 0 [some (aR a), l1, l2] [] M S = go r 20 1 [some (aR a), l1, l2] [aR a] M S := go_nx rfl rfl
theorem g20_1 (r : Nat) (l0 l2 : Option AV) (s0 : AV) (x : Int) (M : Mem) (S : Sh) : go r 20 1 [l0, some (aI x), l2] [s0] M S = go r 20 2 [l0, some (aI x), l2] [aI x, s0] M S := go_nx rfl rfl
theorem g20_2 (r : Nat) (l0 l1 l2 : Option AV) (x1 : Int) (a0 : Nat) (M : Mem) (S : Sh) (hk : rk 21 [aR a0, aI x1] < r) (h : S.1 a0 = 2) : go r 20 2 [l0, l1, l2] [aI x1, aR a0] M S = cont r 20 5 [l0, l1, l2] [] 0 (res 21 [aR a0, aI x1] M S) := go_cr (m' := 21) (n := 2) (pc' := 5) (hr := 0) rfl rfl rfl h rfl rfl rfl hk rfl
theorem g20_5 (r : Nat) (l0 l1 l2 : Option AV) (M : Mem) (S : Sh) : go r 20 5 [l0, l1, l2] [] M S = go r 20 6 [l0, l1, l2] [aI 0] M S := go_nx rfl rfl
theorem g20_6 (r : Nat) (l0 l1 l2 : Option AV) (x : Int) (M : Mem) (S : Sh) : go r 20 6 [l0, l1, l2] [aI x] M S = go r 20 7 [l0, l1, some (aI x)] [] M S := go_nx rfl rfl
theorem g20_7 (r : Nat) (l0 l1 : Option AV) (x : Int) (M : Mem) (S : Sh) : go r 20 7 [l0, l1, some (aI x)] [] M S = go r 20 8 [l0, l1, some (aI x)] [aI x] M S := go_nx rfl rfl
theorem g20_8 (r : Nat) (l0 l1 l2 : Option AV) (s0 : AV) (M : Mem) (S : Sh) : go r 20 8 [l0, l1, l2] [s0] M S = go r 20 11 [l0, l1, l2] [aI 160, s0] M S := go_nx rfl rfl
theorem g20_11 (r : Nat) (l0 l1 l2 : Option AV) (x y : Int) (M : Mem) (S : Sh) : go r 20 11 [l0, l1, l2] [aI y, aI x] M S = if x ≥ y then go r 20 48 [l0, l1, l2] [] M S else go r 20 14 [l0, l1, l2] [] M S := go_br rfl rfl rfl rfl rfl
theorem g20_14 (r : Nat) (l1 l2 : Option AV) (a : Nat) (M : Mem) (S : Sh) : go r 20 14 [some (aR a), l1, l2] [] M S = go r 20 15 [some (aR a), l1, l2] [aR a] M S := go_nx rfl rfl
theorem g20_15 (r : Nat) (l0 l1 l2 : Option AV) (a : Nat) (M : Mem) (S : Sh) (h : S.1 a = 2) : go r 20 15 [l0, l1, l2] [aR a] M S = go r 20 18 [l0, l1, l2] [aI (M a 5)] M S := go_bnd rfl h rfl
theorem g20_18 (r : Nat) (l0 l1 l2 : Option AV) (s0 : AV) (M : Mem) (S : Sh) : go r 20 18 [l0, l1, l2] [s0] M S = go r 20 20 [l0, l1, l2] [aI 8, s0] M S := go_nx rfl rfl
theorem g20_20 (r : Nat) (l0 l1 l2 : Option AV) (x y : Int) (M : Mem) (S : Sh) : go r 20 20 [l0, l1, l2] [aI y, aI x] M S = if x ≠ y then go r 20 48 [l0, l1, l2] [] M S else go r 20 23 [l0, l1, l2] [] M S := go_br rfl rfl rfl rfl rfl
theorem g20_23 (r : Nat) (l1 l2 : Option AV) (a : Nat) (M : Mem) (S : Sh) : go r 20 23 [some (aR a), l1, l2] [] M S = go r 20 24 [some (aR a), l1, l2] [aR a] M S := go_nx rfl rfl
theorem g20_24 (r : Nat) (l0 l1 l2 : Option AV) (a0 : Nat) (M : Mem) (S : Sh) (hk : 12 < r) (h : S.1 a0 = 2) : go r 20 24 [l0, l1, l2] [aR a0] M S = cont r 20 27 [l0, l1, l2] [] 0 (res 25 [aR a0] M S) := go_cr0 (m' := 25) (n := 1) (pc' := 27) (hr := 0) rfl rfl rfl h rfl rfl rfl rfl hk rfl
theorem g20_27 (r : Nat) (l1 l2 : Option AV) (a : Nat) (M : Mem) (S : Sh) : go r 20 27 [some (aR a), l1, l2] [] M S = go r 20 28 [some (aR a), l1, l2] [aR a] M S := go_nx rfl rfl
theorem g20_28 (r : Nat) (l0 l2 : Option AV) (s0 : AV) (x : Int) (M : Mem) (S : Sh) : go r 20 28 [l0, some (aI x), l2] [s0] M S = go r 20 29 [l0, some (aI x), l2] [aI x, s0] M S := go_nx rfl rfl
theorem g20_29 (r : Nat) (l0 l1 l2 : Option AV) (x1 : Int) (a0 : Nat) (M : Mem) (S : Sh) (hk : rk 21 [aR a0, aI x1] < r) (h : S.1 a0 = 2) : go r 20 29 [l0, l1, l2] [aI x1, aR a0] M S = cont r 20 32 [l0, l1, l2] [] 0 (res 21 [aR a0, aI x1] M S) := go_cr (m' := 21) (n := 2) (pc' := 32) (hr := 0) rfl rfl rfl h rfl rfl rfl hk rfl
theorem g20_32 (r : Nat) (l1 l2 : Option AV) (a : Nat) (M : Mem) (S : Sh) : go r 20 32 [some (aR a), l1, l2] [] M S = go r 20 33 [some (aR a), l1, l2] [aR a] M S := go_nx rfl rfl
theorem g20_33 (r : Nat) (l0 l1 l2 : Option AV) (a : Nat) (M : Mem) (S : Sh) (h : S.1 a = 2) : go r 20 33 [l0, l1, l2] [aR a] M S = go r 20 36 [l0, l1, l2] [aO (S.2.2.1 a 2)] M S := go_bnd rfl h rfl
theorem g20_36 (r : Nat) (l0 l1 l2 : Option AV) (s0 : AV) (M : Mem) (S : Sh) : go r 20 36 [l0, l1, l2] [s0] M S = go r 20 38 [l0, l1, l2] [aI 8, s0] M S := go_nx rfl rfl
theorem g20_38 (r : Nat) (l0 l1 l2 : Option AV) (s0 s1 : AV) (M : Mem) (S : Sh) : go r 20 38 [l0, l1, l2] [s0, s1] M S = go r 20 39 [l0, l1, l2] [aI 0, s0, s1] M S := go_nx rfl rfl
theorem g20_39 (r : Nat) (l0 l1 l2 : Option AV) (x1 x2 : Int) (a0 : Nat) (M : Mem) (S : Sh) (hk : 11 < r) (h : S.1 a0 = 1) : go r 20 39 [l0, l1, l2] [aI x2, aI x1, aR a0] M S = cont r 20 42 [l0, l1, l2] [] 0 (res 11 [aR a0, aI x1, aI x2] M S) := go_cr0 (m' := 11) (n := 3) (pc' := 42) (hr := 0) rfl rfl rfl h rfl rfl rfl rfl hk rfl
theorem g20_42 (r : Nat) (l0 l1 : Option AV) (x : Int) (M : Mem) (S : Sh) : go r 20 42 [l0, l1, some (aI x)] [] M S = go r 20 45 [l0, l1, some (aI (w32 (x + 1)))] [] M S := go_nx rfl rfl
theorem g20_45 (r : Nat) (l0 l1 l2 : Option AV) (M : Mem) (S : Sh) : go r 20 45 [l0, l1, l2] [] M S = go r 20 7 [l0, l1, l2] [] M S := go_nx rfl rfl
theorem g20_48 (r : Nat) (l0 l1 l2 : Option AV) (M : Mem) (S : Sh) : go r 20 48 [l0, l1, l2] [] M S = some (none, M, S) := go_rt rfl rfl
/-- StripsFromAbove$Reader.readNot(I)V -/
theorem g21 (x1 : Int) (a0 : Nat) (M : Mem) (S : Sh) : res 21 [aR a0, aI x1] M S = go (rk 21 [aR a0, aI x1]) 21 0 [some (aR a0), some (aI x1), none] [] M S := rfl
theorem g21_0 (r : Nat) (l1 l2 : Option AV) (a : Nat) (M : Mem) (S : Sh) : go r 21 0 [some (aR a), l1, l2] [] M S = go r 21 1 [some (aR a), l1, l2] [aR a] M S := go_nx rfl rfl
theorem g21_1 (r : Nat) (l0 l1 l2 : Option AV) (a : Nat) (M : Mem) (S : Sh) (h : S.1 a = 2) : go r 21 1 [l0, l1, l2] [aR a] M S = go r 21 4 [l0, l1, l2] [aI (M a 5)] M S := go_bnd rfl h rfl
theorem g21_4 (r : Nat) (l0 l1 l2 : Option AV) (s0 : AV) (M : Mem) (S : Sh) : go r 21 4 [l0, l1, l2] [s0] M S = go r 21 6 [l0, l1, l2] [aI 9, s0] M S := go_nx rfl rfl
theorem g21_6 (r : Nat) (l0 l1 l2 : Option AV) (x y : Int) (M : Mem) (S : Sh) : go r 21 6 [l0, l1, l2] [aI y, aI x] M S = if x ≠ y then go r 21 41 [l0, l1, l2] [] M S else go r 21 9 [l0, l1, l2] [] M S := go_br rfl rfl rfl rfl rfl
theorem g21_9 (r : Nat) (l0 l2 : Option AV) (x : Int) (M : Mem) (S : Sh) : go r 21 9 [l0, some (aI x), l2] [] M S = go r 21 10 [l0, some (aI x), l2] [aI x] M S := go_nx rfl rfl
theorem g21_10 (r : Nat) (l0 l1 l2 : Option AV) (s0 : AV) (M : Mem) (S : Sh) : go r 21 10 [l0, l1, l2] [s0] M S = go r 21 11 [l0, l1, l2] [aI 5, s0] M S := go_nx rfl rfl
theorem g21_11 (r : Nat) (l0 l1 l2 : Option AV) (x y : Int) (M : Mem) (S : Sh) : go r 21 11 [l0, l1, l2] [aI y, aI x] M S = if x < y then go r 21 19 [l0, l1, l2] [] M S else go r 21 14 [l0, l1, l2] [] M S := go_br rfl rfl rfl rfl rfl
theorem g21_14 (r : Nat) (l1 l2 : Option AV) (a : Nat) (M : Mem) (S : Sh) : go r 21 14 [some (aR a), l1, l2] [] M S = go r 21 15 [some (aR a), l1, l2] [aR a] M S := go_nx rfl rfl
theorem g21_15 (r : Nat) (l0 l1 l2 : Option AV) (a0 : Nat) (M : Mem) (S : Sh) (hk : 10 < r) (h : S.1 a0 = 2) : go r 21 15 [l0, l1, l2] [aR a0] M S = cont r 21 18 [l0, l1, l2] [] 0 (res 17 [aR a0] M S) := go_cr0 (m' := 17) (n := 1) (pc' := 18) (hr := 0) rfl rfl rfl h rfl rfl rfl rfl hk rfl
theorem g21_18 (r : Nat) (l0 l1 l2 : Option AV) (M : Mem) (S : Sh) : go r 21 18 [l0, l1, l2] [] M S = some (none, M, S) := go_rt rfl rfl
theorem g21_19 (r : Nat) (l1 l2 : Option AV) (a : Nat) (M : Mem) (S : Sh) : go r 21 19 [some (aR a), l1, l2] [] M S = go r 21 20 [some (aR a), l1, l2] [aR a] M S := go_nx rfl rfl
theorem g21_20 (r : Nat) (l0 l1 l2 : Option AV) (a0 : Nat) (M : Mem) (S : Sh) (hk : 12 < r) (h : S.1 a0 = 2) : go r 21 20 [l0, l1, l2] [aR a0] M S = cont r 21 23 [l0, l1, l2] [] 0 (res 25 [aR a0] M S) := go_cr0 (m' := 25) (n := 1) (pc' := 23) (hr := 0) rfl rfl rfl h rfl rfl rfl rfl hk rfl
theorem g21_23 (r : Nat) (l1 l2 : Option AV) (a : Nat) (M : Mem) (S : Sh) : go r 21 23 [some (aR a), l1, l2] [] M S = go r 21 24 [some (aR a), l1, l2] [aR a] M S := go_nx rfl rfl
theorem g21_24 (r : Nat) (l0 l2 : Option AV) (s0 : AV) (x : Int) (M : Mem) (S : Sh) : go r 21 24 [l0, some (aI x), l2] [s0] M S = go r 21 25 [l0, some (aI x), l2] [aI x, s0] M S := go_nx rfl rfl
theorem g21_25 (r : Nat) (l0 l1 l2 : Option AV) (s0 s1 : AV) (M : Mem) (S : Sh) : go r 21 25 [l0, l1, l2] [s0, s1] M S = go r 21 26 [l0, l1, l2] [aI 1, s0, s1] M S := go_nx rfl rfl
theorem g21_26 (r : Nat) (l0 l1 l2 : Option AV) (s0 : AV) (x y : Int) (M : Mem) (S : Sh) : go r 21 26 [l0, l1, l2] [aI y, aI x, s0] M S = go r 21 27 [l0, l1, l2] [aI (w32 (x + y)), s0] M S := go_nx rfl rfl
theorem g21_27 (r : Nat) (l0 l1 l2 : Option AV) (x1 : Int) (a0 : Nat) (M : Mem) (S : Sh) (hk : rk 21 [aR a0, aI x1] < r) (h : S.1 a0 = 2) : go r 21 27 [l0, l1, l2] [aI x1, aR a0] M S = cont r 21 30 [l0, l1, l2] [] 0 (res 21 [aR a0, aI x1] M S) := go_cr (m' := 21) (n := 2) (pc' := 30) (hr := 0) rfl rfl rfl h rfl rfl rfl hk rfl
theorem g21_30 (r : Nat) (l1 l2 : Option AV) (a : Nat) (M : Mem) (S : Sh) : go r 21 30 [some (aR a), l1, l2] [] M S = go r 21 31 [some (aR a), l1, l2] [aR a] M S := go_nx rfl rfl
theorem g21_31 (r : Nat) (l0 l1 l2 : Option AV) (a : Nat) (M : Mem) (S : Sh) (h : S.1 a = 2) : go r 21 31 [l0, l1, l2] [aR a] M S = go r 21 34 [l0, l1, l2] [aO (S.2.2.1 a 2)] M S := go_bnd rfl h rfl
theorem g21_34 (r : Nat) (l0 l1 l2 : Option AV) (s0 : AV) (M : Mem) (S : Sh) : go r 21 34 [l0, l1, l2] [s0] M S = go r 21 36 [l0, l1, l2] [aI 9, s0] M S := go_nx rfl rfl
theorem g21_36 (r : Nat) (l0 l1 l2 : Option AV) (s0 s1 : AV) (M : Mem) (S : Sh) : go r 21 36 [l0, l1, l2] [s0, s1] M S = go r 21 37 [l0, l1, l2] [aI 0, s0, s1] M S := go_nx rfl rfl
theorem g21_37 (r : Nat) (l0 l1 l2 : Option AV) (x1 x2 : Int) (a0 : Nat) (M : Mem) (S : Sh) (hk : 11 < r) (h : S.1 a0 = 1) : go r 21 37 [l0, l1, l2] [aI x2, aI x1, aR a0] M S = cont r 21 40 [l0, l1, l2] [] 0 (res 11 [aR a0, aI x1, aI x2] M S) := go_cr0 (m' := 11) (n := 3) (pc' := 40) (hr := 0) rfl rfl rfl h rfl rfl rfl rfl hk rfl
theorem g21_40 (r : Nat) (l0 l1 l2 : Option AV) (M : Mem) (S : Sh) : go r 21 40 [l0, l1, l2] [] M S = some (none, M, S) := go_rt rfl rfl
theorem g21_41 (r : Nat) (l1 l2 : Option AV) (a : Nat) (M : Mem) (S : Sh) : go r 21 41 [some (aR a), l1, l2] [] M S = go r 21 42 [some (aR a), l1, l2] [aR a] M S := go_nx rfl rfl
theorem g21_42 (r : Nat) (l0 l2 : Option AV) (s0 : AV) (x : Int) (M : Mem) (S : Sh) : go r 21 42 [l0, some (aI x), l2] [s0] M S = go r 21 43 [l0, some (aI x), l2] [aI x, s0] M S := go_nx rfl rfl
theorem g21_43 (r : Nat) (l0 l1 l2 : Option AV) (x1 : Int) (a0 : Nat) (M : Mem) (S : Sh) (hk : rk 22 [aR a0, aI x1] < r) (h : S.1 a0 = 2) : go r 21 43 [l0, l1, l2] [aI x1, aR a0] M S = cont r 21 46 [l0, l1, l2] [] 0 (res 22 [aR a0, aI x1] M S) := go_cr (m' := 22) (n := 2) (pc' := 46) (hr := 0) rfl rfl rfl h rfl rfl rfl hk rfl
theorem g21_46 (r : Nat) (l1 l2 : Option AV) (a : Nat) (M : Mem) (S : Sh) : go r 21 46 [some (aR a), l1, l2] [] M S = go r 21 47 [some (aR a), l1, l2] [aR a] M S := go_nx rfl rfl
theorem g21_47 (r : Nat) (l0 l1 l2 : Option AV) (a : Nat) (M : Mem) (S : Sh) (h : S.1 a = 2) : go r 21 47 [l0, l1, l2] [aR a] M S = go r 21 50 [l0, l1, l2] [aI (M a 5)] M S := go_bnd rfl h rfl
theorem g21_50 (r : Nat) (l0 l1 l2 : Option AV) (s0 : AV) (M : Mem) (S : Sh) : go r 21 50 [l0, l1, l2] [s0] M S = go r 21 52 [l0, l1, l2] [aI 60, s0] M S := go_nx rfl rfl
theorem g21_52 (r : Nat) (l0 l1 l2 : Option AV) (x y : Int) (M : Mem) (S : Sh) : go r 21 52 [l0, l1, l2] [aI y, aI x] M S = if x = y then go r 21 64 [l0, l1, l2] [] M S else go r 21 55 [l0, l1, l2] [] M S := go_br rfl rfl rfl rfl rfl
theorem g21_55 (r : Nat) (l1 l2 : Option AV) (a : Nat) (M : Mem) (S : Sh) : go r 21 55 [some (aR a), l1, l2] [] M S = go r 21 56 [some (aR a), l1, l2] [aR a] M S := go_nx rfl rfl
theorem g21_56 (r : Nat) (l0 l1 l2 : Option AV) (a : Nat) (M : Mem) (S : Sh) (h : S.1 a = 2) : go r 21 56 [l0, l1, l2] [aR a] M S = go r 21 59 [l0, l1, l2] [aI (M a 5)] M S := go_bnd rfl h rfl
theorem g21_59 (r : Nat) (l0 l1 l2 : Option AV) (s0 : AV) (M : Mem) (S : Sh) : go r 21 59 [l0, l1, l2] [s0] M S = go r 21 61 [l0, l1, l2] [aI 61, s0] M S := go_nx rfl rfl
theorem g21_61 (r : Nat) (l0 l1 l2 : Option AV) (x y : Int) (M : Mem) (S : Sh) : go r 21 61 [l0, l1, l2] [aI y, aI x] M S = if x ≠ y then go r 21 87 [l0, l1, l2] [] M S else go r 21 64 [l0, l1, l2] [] M S := go_br rfl rfl rfl rfl rfl
theorem g21_64 (r : Nat) (l1 l2 : Option AV) (a : Nat) (M : Mem) (S : Sh) : go r 21 64 [some (aR a), l1, l2] [] M S = go r 21 65 [some (aR a), l1, l2] [aR a] M S := go_nx rfl rfl
theorem g21_65 (r : Nat) (l0 l1 l2 : Option AV) (a : Nat) (M : Mem) (S : Sh) (h : S.1 a = 2) : go r 21 65 [l0, l1, l2] [aR a] M S = go r 21 68 [l0, l1, l2] [aI (M a 5)] M S := go_bnd rfl h rfl
theorem g21_68 (r : Nat) (l0 l1 l2 : Option AV) (x : Int) (M : Mem) (S : Sh) : go r 21 68 [l0, l1, l2] [aI x] M S = go r 21 69 [l0, l1, some (aI x)] [] M S := go_nx rfl rfl
theorem g21_69 (r : Nat) (l1 l2 : Option AV) (a : Nat) (M : Mem) (S : Sh) : go r 21 69 [some (aR a), l1, l2] [] M S = go r 21 70 [some (aR a), l1, l2] [aR a] M S := go_nx rfl rfl
theorem g21_70 (r : Nat) (l0 l1 l2 : Option AV) (a0 : Nat) (M : Mem) (S : Sh) (hk : 12 < r) (h : S.1 a0 = 2) : go r 21 70 [l0, l1, l2] [aR a0] M S = cont r 21 73 [l0, l1, l2] [] 0 (res 25 [aR a0] M S) := go_cr0 (m' := 25) (n := 1) (pc' := 73) (hr := 0) rfl rfl rfl h rfl rfl rfl rfl hk rfl
theorem g21_73 (r : Nat) (l1 l2 : Option AV) (a : Nat) (M : Mem) (S : Sh) : go r 21 73 [some (aR a), l1, l2] [] M S = go r 21 74 [some (aR a), l1, l2] [aR a] M S := go_nx rfl rfl
theorem g21_74 (r : Nat) (l0 l2 : Option AV) (s0 : AV) (x : Int) (M : Mem) (S : Sh) : go r 21 74 [l0, some (aI x), l2] [s0] M S = go r 21 75 [l0, some (aI x), l2] [aI x, s0] M S := go_nx rfl rfl
theorem g21_75 (r : Nat) (l0 l1 l2 : Option AV) (x1 : Int) (a0 : Nat) (M : Mem) (S : Sh) (hk : rk 22 [aR a0, aI x1] < r) (h : S.1 a0 = 2) : go r 21 75 [l0, l1, l2] [aI x1, aR a0] M S = cont r 21 78 [l0, l1, l2] [] 0 (res 22 [aR a0, aI x1] M S) := go_cr (m' := 22) (n := 2) (pc' := 78) (hr := 0) rfl rfl rfl h rfl rfl rfl hk rfl
theorem g21_78 (r : Nat) (l1 l2 : Option AV) (a : Nat) (M : Mem) (S : Sh) : go r 21 78 [some (aR a), l1, l2] [] M S = go r 21 79 [some (aR a), l1, l2] [aR a] M S := go_nx rfl rfl
theorem g21_79 (r : Nat) (l0 l1 l2 : Option AV) (a : Nat) (M : Mem) (S : Sh) (h : S.1 a = 2) : go r 21 79 [l0, l1, l2] [aR a] M S = go r 21 82 [l0, l1, l2] [aO (S.2.2.1 a 2)] M S := go_bnd rfl h rfl
theorem g21_82 (r : Nat) (l0 l1 : Option AV) (s0 : AV) (x : Int) (M : Mem) (S : Sh) : go r 21 82 [l0, l1, some (aI x)] [s0] M S = go r 21 83 [l0, l1, some (aI x)] [aI x, s0] M S := go_nx rfl rfl
theorem g21_83 (r : Nat) (l0 l1 l2 : Option AV) (s0 s1 : AV) (M : Mem) (S : Sh) : go r 21 83 [l0, l1, l2] [s0, s1] M S = go r 21 84 [l0, l1, l2] [aI 0, s0, s1] M S := go_nx rfl rfl
theorem g21_84 (r : Nat) (l0 l1 l2 : Option AV) (x1 x2 : Int) (a0 : Nat) (M : Mem) (S : Sh) (hk : 11 < r) (h : S.1 a0 = 1) : go r 21 84 [l0, l1, l2] [aI x2, aI x1, aR a0] M S = cont r 21 87 [l0, l1, l2] [] 0 (res 11 [aR a0, aI x1, aI x2] M S) := go_cr0 (m' := 11) (n := 3) (pc' := 87) (hr := 0) rfl rfl rfl h rfl rfl rfl rfl hk rfl
theorem g21_87 (r : Nat) (l0 l1 l2 : Option AV) (M : Mem) (S : Sh) : go r 21 87 [l0, l1, l2] [] M S = some (none, M, S) := go_rt rfl rfl
/-- StripsFromAbove$Reader.readSum(I)V -/
theorem g22 (x1 : Int) (a0 : Nat) (M : Mem) (S : Sh) : res 22 [aR a0, aI x1] M S = go (rk 22 [aR a0, aI x1]) 22 0 [some (aR a0), some (aI x1), none, none] [] M S := rfl
theorem g22_0 (r : Nat) (l1 l2 l3 : Option AV) (a : Nat) (M : Mem) (S : Sh) : go r 22 0 [some (aR a), l1, l2, l3] [] M S = go r 22 1 [some (aR a), l1, l2, l3] [aR a] M S := go_nx rfl rfl
theorem g22_1 (r : Nat) (l0 l2 l3 : Option AV) (s0 : AV) (x : Int) (M : Mem) (S : Sh) : go r 22 1 [l0, some (aI x), l2, l3] [s0] M S = go r 22 2 [l0, some (aI x), l2, l3] [aI x, s0] M S := go_nx rfl rfl
theorem g22_2 (r : Nat) (l0 l1 l2 l3 : Option AV) (x1 : Int) (a0 : Nat) (M : Mem) (S : Sh) (hk : rk 23 [aR a0, aI x1] < r) (h : S.1 a0 = 2) : go r 22 2 [l0, l1, l2, l3] [aI x1, aR a0] M S = cont r 22 5 [l0, l1, l2, l3] [] 0 (res 23 [aR a0, aI x1] M S) := go_cr (m' := 23) (n := 2) (pc' := 5) (hr := 0) rfl rfl rfl h rfl rfl rfl hk rfl
theorem g22_5 (r : Nat) (l0 l1 l2 l3 : Option AV) (M : Mem) (S : Sh) : go r 22 5 [l0, l1, l2, l3] [] M S = go r 22 6 [l0, l1, l2, l3] [aI 0] M S := go_nx rfl rfl
theorem g22_6 (r : Nat) (l0 l1 l2 l3 : Option AV) (x : Int) (M : Mem) (S : Sh) : go r 22 6 [l0, l1, l2, l3] [aI x] M S = go r 22 7 [l0, l1, some (aI x), l3] [] M S := go_nx rfl rfl
theorem g22_7 (r : Nat) (l0 l1 l3 : Option AV) (x : Int) (M : Mem) (S : Sh) : go r 22 7 [l0, l1, some (aI x), l3] [] M S = go r 22 8 [l0, l1, some (aI x), l3] [aI x] M S := go_nx rfl rfl
theorem g22_8 (r : Nat) (l0 l1 l2 l3 : Option AV) (s0 : AV) (M : Mem) (S : Sh) : go r 22 8 [l0, l1, l2, l3] [s0] M S = go r 22 11 [l0, l1, l2, l3] [aI 160, s0] M S := go_nx rfl rfl
theorem g22_11 (r : Nat) (l0 l1 l2 l3 : Option AV) (x y : Int) (M : Mem) (S : Sh) : go r 22 11 [l0, l1, l2, l3] [aI y, aI x] M S = if x ≥ y then go r 22 61 [l0, l1, l2, l3] [] M S else go r 22 14 [l0, l1, l2, l3] [] M S := go_br rfl rfl rfl rfl rfl
theorem g22_14 (r : Nat) (l1 l2 l3 : Option AV) (a : Nat) (M : Mem) (S : Sh) : go r 22 14 [some (aR a), l1, l2, l3] [] M S = go r 22 15 [some (aR a), l1, l2, l3] [aR a] M S := go_nx rfl rfl
theorem g22_15 (r : Nat) (l0 l1 l2 l3 : Option AV) (a : Nat) (M : Mem) (S : Sh) (h : S.1 a = 2) : go r 22 15 [l0, l1, l2, l3] [aR a] M S = go r 22 18 [l0, l1, l2, l3] [aI (M a 5)] M S := go_bnd rfl h rfl
theorem g22_18 (r : Nat) (l0 l1 l2 l3 : Option AV) (s0 : AV) (M : Mem) (S : Sh) : go r 22 18 [l0, l1, l2, l3] [s0] M S = go r 22 20 [l0, l1, l2, l3] [aI 43, s0] M S := go_nx rfl rfl
theorem g22_20 (r : Nat) (l0 l1 l2 l3 : Option AV) (x y : Int) (M : Mem) (S : Sh) : go r 22 20 [l0, l1, l2, l3] [aI y, aI x] M S = if x = y then go r 22 32 [l0, l1, l2, l3] [] M S else go r 22 23 [l0, l1, l2, l3] [] M S := go_br rfl rfl rfl rfl rfl
theorem g22_23 (r : Nat) (l1 l2 l3 : Option AV) (a : Nat) (M : Mem) (S : Sh) : go r 22 23 [some (aR a), l1, l2, l3] [] M S = go r 22 24 [some (aR a), l1, l2, l3] [aR a] M S := go_nx rfl rfl
theorem g22_24 (r : Nat) (l0 l1 l2 l3 : Option AV) (a : Nat) (M : Mem) (S : Sh) (h : S.1 a = 2) : go r 22 24 [l0, l1, l2, l3] [aR a] M S = go r 22 27 [l0, l1, l2, l3] [aI (M a 5)] M S := go_bnd rfl h rfl
theorem g22_27 (r : Nat) (l0 l1 l2 l3 : Option AV) (s0 : AV) (M : Mem) (S : Sh) : go r 22 27 [l0, l1, l2, l3] [s0] M S = go r 22 29 [l0, l1, l2, l3] [aI 45, s0] M S := go_nx rfl rfl
theorem g22_29 (r : Nat) (l0 l1 l2 l3 : Option AV) (x y : Int) (M : Mem) (S : Sh) : go r 22 29 [l0, l1, l2, l3] [aI y, aI x] M S = if x ≠ y then go r 22 61 [l0, l1, l2, l3] [] M S else go r 22 32 [l0, l1, l2, l3] [] M S := go_br rfl rfl rfl rfl rfl
theorem g22_32 (r : Nat) (l1 l2 l3 : Option AV) (a : Nat) (M : Mem) (S : Sh) : go r 22 32 [some (aR a), l1, l2, l3] [] M S = go r 22 33 [some (aR a), l1, l2, l3] [aR a] M S := go_nx rfl rfl
theorem g22_33 (r : Nat) (l0 l1 l2 l3 : Option AV) (a : Nat) (M : Mem) (S : Sh) (h : S.1 a = 2) : go r 22 33 [l0, l1, l2, l3] [aR a] M S = go r 22 36 [l0, l1, l2, l3] [aI (M a 5)] M S := go_bnd rfl h rfl
theorem g22_36 (r : Nat) (l0 l1 l2 l3 : Option AV) (x : Int) (M : Mem) (S : Sh) : go r 22 36 [l0, l1, l2, l3] [aI x] M S = go r 22 37 [l0, l1, l2, some (aI x)] [] M S := go_nx rfl rfl
theorem g22_37 (r : Nat) (l1 l2 l3 : Option AV) (a : Nat) (M : Mem) (S : Sh) : go r 22 37 [some (aR a), l1, l2, l3] [] M S = go r 22 38 [some (aR a), l1, l2, l3] [aR a] M S := go_nx rfl rfl
theorem g22_38 (r : Nat) (l0 l1 l2 l3 : Option AV) (a0 : Nat) (M : Mem) (S : Sh) (hk : 12 < r) (h : S.1 a0 = 2) : go r 22 38 [l0, l1, l2, l3] [aR a0] M S = cont r 22 41 [l0, l1, l2, l3] [] 0 (res 25 [aR a0] M S) := go_cr0 (m' := 25) (n := 1) (pc' := 41) (hr := 0) rfl rfl rfl h rfl rfl rfl rfl hk rfl
theorem g22_41 (r : Nat) (l1 l2 l3 : Option AV) (a : Nat) (M : Mem) (S : Sh) : go r 22 41 [some (aR a), l1, l2, l3] [] M S = go r 22 42 [some (aR a), l1, l2, l3] [aR a] M S := go_nx rfl rfl
theorem g22_42 (r : Nat) (l0 l2 l3 : Option AV) (s0 : AV) (x : Int) (M : Mem) (S : Sh) : go r 22 42 [l0, some (aI x), l2, l3] [s0] M S = go r 22 43 [l0, some (aI x), l2, l3] [aI x, s0] M S := go_nx rfl rfl
theorem g22_43 (r : Nat) (l0 l1 l2 l3 : Option AV) (x1 : Int) (a0 : Nat) (M : Mem) (S : Sh) (hk : rk 23 [aR a0, aI x1] < r) (h : S.1 a0 = 2) : go r 22 43 [l0, l1, l2, l3] [aI x1, aR a0] M S = cont r 22 46 [l0, l1, l2, l3] [] 0 (res 23 [aR a0, aI x1] M S) := go_cr (m' := 23) (n := 2) (pc' := 46) (hr := 0) rfl rfl rfl h rfl rfl rfl hk rfl
theorem g22_46 (r : Nat) (l1 l2 l3 : Option AV) (a : Nat) (M : Mem) (S : Sh) : go r 22 46 [some (aR a), l1, l2, l3] [] M S = go r 22 47 [some (aR a), l1, l2, l3] [aR a] M S := go_nx rfl rfl
theorem g22_47 (r : Nat) (l0 l1 l2 l3 : Option AV) (a : Nat) (M : Mem) (S : Sh) (h : S.1 a = 2) : go r 22 47 [l0, l1, l2, l3] [aR a] M S = go r 22 50 [l0, l1, l2, l3] [aO (S.2.2.1 a 2)] M S := go_bnd rfl h rfl
theorem g22_50 (r : Nat) (l0 l1 l2 : Option AV) (s0 : AV) (x : Int) (M : Mem) (S : Sh) : go r 22 50 [l0, l1, l2, some (aI x)] [s0] M S = go r 22 51 [l0, l1, l2, some (aI x)] [aI x, s0] M S := go_nx rfl rfl
theorem g22_51 (r : Nat) (l0 l1 l2 l3 : Option AV) (s0 s1 : AV) (M : Mem) (S : Sh) : go r 22 51 [l0, l1, l2, l3] [s0, s1] M S = go r 22 52 [l0, l1, l2, l3] [aI 0, s0, s1] M S := go_nx rfl rfl
theorem g22_52 (r : Nat) (l0 l1 l2 l3 : Option AV) (x1 x2 : Int) (a0 : Nat) (M : Mem) (S : Sh) (hk : 11 < r) (h : S.1 a0 = 1) : go r 22 52 [l0, l1, l2, l3] [aI x2, aI x1, aR a0] M S = cont r 22 55 [l0, l1, l2, l3] [] 0 (res 11 [aR a0, aI x1, aI x2] M S) := go_cr0 (m' := 11) (n := 3) (pc' := 55) (hr := 0) rfl rfl rfl h rfl rfl rfl rfl hk rfl
theorem g22_55 (r : Nat) (l0 l1 l3 : Option AV) (x : Int) (M : Mem) (S : Sh) : go r 22 55 [l0, l1, some (aI x), l3] [] M S = go r 22 58 [l0, l1, some (aI (w32 (x + 1))), l3] [] M S := go_nx rfl rfl
theorem g22_58 (r : Nat) (l0 l1 l2 l3 : Option AV) (M : Mem) (S : Sh) : go r 22 58 [l0, l1, l2, l3] [] M S = go r 22 7 [l0, l1, l2, l3] [] M S := go_nx rfl rfl
theorem g22_61 (r : Nat) (l0 l1 l2 l3 : Option AV) (M : Mem) (S : Sh) : go r 22 61 [l0, l1, l2, l3] [] M S = some (none, M, S) := go_rt rfl rfl
/-- StripsFromAbove$Reader.readTerm(I)V -/
theorem g23 (x1 : Int) (a0 : Nat) (M : Mem) (S : Sh) : res 23 [aR a0, aI x1] M S = go (rk 23 [aR a0, aI x1]) 23 0 [some (aR a0), some (aI x1), none] [] M S := rfl
theorem g23_0 (r : Nat) (l1 l2 : Option AV) (a : Nat) (M : Mem) (S : Sh) : go r 23 0 [some (aR a), l1, l2] [] M S = go r 23 1 [some (aR a), l1, l2] [aR a] M S := go_nx rfl rfl
theorem g23_1 (r : Nat) (l0 l2 : Option AV) (s0 : AV) (x : Int) (M : Mem) (S : Sh) : go r 23 1 [l0, some (aI x), l2] [s0] M S = go r 23 2 [l0, some (aI x), l2] [aI x, s0] M S := go_nx rfl rfl
theorem g23_2 (r : Nat) (l0 l1 l2 : Option AV) (x1 : Int) (a0 : Nat) (M : Mem) (S : Sh) (hk : rk 24 [aR a0, aI x1] < r) (h : S.1 a0 = 2) : go r 23 2 [l0, l1, l2] [aI x1, aR a0] M S = cont r 23 5 [l0, l1, l2] [] 0 (res 24 [aR a0, aI x1] M S) := go_cr (m' := 24) (n := 2) (pc' := 5) (hr := 0) rfl rfl rfl h rfl rfl rfl hk rfl
theorem g23_5 (r : Nat) (l0 l1 l2 : Option AV) (M : Mem) (S : Sh) : go r 23 5 [l0, l1, l2] [] M S = go r 23 6 [l0, l1, l2] [aI 0] M S := go_nx rfl rfl
theorem g23_6 (r : Nat) (l0 l1 l2 : Option AV) (x : Int) (M : Mem) (S : Sh) : go r 23 6 [l0, l1, l2] [aI x] M S = go r 23 7 [l0, l1, some (aI x)] [] M S := go_nx rfl rfl
theorem g23_7 (r : Nat) (l0 l1 : Option AV) (x : Int) (M : Mem) (S : Sh) : go r 23 7 [l0, l1, some (aI x)] [] M S = go r 23 8 [l0, l1, some (aI x)] [aI x] M S := go_nx rfl rfl
theorem g23_8 (r : Nat) (l0 l1 l2 : Option AV) (s0 : AV) (M : Mem) (S : Sh) : go r 23 8 [l0, l1, l2] [s0] M S = go r 23 11 [l0, l1, l2] [aI 160, s0] M S := go_nx rfl rfl
theorem g23_11 (r : Nat) (l0 l1 l2 : Option AV) (x y : Int) (M : Mem) (S : Sh) : go r 23 11 [l0, l1, l2] [aI y, aI x] M S = if x ≥ y then go r 23 48 [l0, l1, l2] [] M S else go r 23 14 [l0, l1, l2] [] M S := go_br rfl rfl rfl rfl rfl
theorem g23_14 (r : Nat) (l1 l2 : Option AV) (a : Nat) (M : Mem) (S : Sh) : go r 23 14 [some (aR a), l1, l2] [] M S = go r 23 15 [some (aR a), l1, l2] [aR a] M S := go_nx rfl rfl
theorem g23_15 (r : Nat) (l0 l1 l2 : Option AV) (a : Nat) (M : Mem) (S : Sh) (h : S.1 a = 2) : go r 23 15 [l0, l1, l2] [aR a] M S = go r 23 18 [l0, l1, l2] [aI (M a 5)] M S := go_bnd rfl h rfl
theorem g23_18 (r : Nat) (l0 l1 l2 : Option AV) (s0 : AV) (M : Mem) (S : Sh) : go r 23 18 [l0, l1, l2] [s0] M S = go r 23 20 [l0, l1, l2] [aI 42, s0] M S := go_nx rfl rfl
theorem g23_20 (r : Nat) (l0 l1 l2 : Option AV) (x y : Int) (M : Mem) (S : Sh) : go r 23 20 [l0, l1, l2] [aI y, aI x] M S = if x ≠ y then go r 23 48 [l0, l1, l2] [] M S else go r 23 23 [l0, l1, l2] [] M S := go_br rfl rfl rfl rfl rfl
theorem g23_23 (r : Nat) (l1 l2 : Option AV) (a : Nat) (M : Mem) (S : Sh) : go r 23 23 [some (aR a), l1, l2] [] M S = go r 23 24 [some (aR a), l1, l2] [aR a] M S := go_nx rfl rfl
theorem g23_24 (r : Nat) (l0 l1 l2 : Option AV) (a0 : Nat) (M : Mem) (S : Sh) (hk : 12 < r) (h : S.1 a0 = 2) : go r 23 24 [l0, l1, l2] [aR a0] M S = cont r 23 27 [l0, l1, l2] [] 0 (res 25 [aR a0] M S) := go_cr0 (m' := 25) (n := 1) (pc' := 27) (hr := 0) rfl rfl rfl h rfl rfl rfl rfl hk rfl
theorem g23_27 (r : Nat) (l1 l2 : Option AV) (a : Nat) (M : Mem) (S : Sh) : go r 23 27 [some (aR a), l1, l2] [] M S = go r 23 28 [some (aR a), l1, l2] [aR a] M S := go_nx rfl rfl
theorem g23_28 (r : Nat) (l0 l2 : Option AV) (s0 : AV) (x : Int) (M : Mem) (S : Sh) : go r 23 28 [l0, some (aI x), l2] [s0] M S = go r 23 29 [l0, some (aI x), l2] [aI x, s0] M S := go_nx rfl rfl
theorem g23_29 (r : Nat) (l0 l1 l2 : Option AV) (x1 : Int) (a0 : Nat) (M : Mem) (S : Sh) (hk : rk 24 [aR a0, aI x1] < r) (h : S.1 a0 = 2) : go r 23 29 [l0, l1, l2] [aI x1, aR a0] M S = cont r 23 32 [l0, l1, l2] [] 0 (res 24 [aR a0, aI x1] M S) := go_cr (m' := 24) (n := 2) (pc' := 32) (hr := 0) rfl rfl rfl h rfl rfl rfl hk rfl
theorem g23_32 (r : Nat) (l1 l2 : Option AV) (a : Nat) (M : Mem) (S : Sh) : go r 23 32 [some (aR a), l1, l2] [] M S = go r 23 33 [some (aR a), l1, l2] [aR a] M S := go_nx rfl rfl
theorem g23_33 (r : Nat) (l0 l1 l2 : Option AV) (a : Nat) (M : Mem) (S : Sh) (h : S.1 a = 2) : go r 23 33 [l0, l1, l2] [aR a] M S = go r 23 36 [l0, l1, l2] [aO (S.2.2.1 a 2)] M S := go_bnd rfl h rfl
theorem g23_36 (r : Nat) (l0 l1 l2 : Option AV) (s0 : AV) (M : Mem) (S : Sh) : go r 23 36 [l0, l1, l2] [s0] M S = go r 23 38 [l0, l1, l2] [aI 42, s0] M S := go_nx rfl rfl
theorem g23_38 (r : Nat) (l0 l1 l2 : Option AV) (s0 s1 : AV) (M : Mem) (S : Sh) : go r 23 38 [l0, l1, l2] [s0, s1] M S = go r 23 39 [l0, l1, l2] [aI 0, s0, s1] M S := go_nx rfl rfl
theorem g23_39 (r : Nat) (l0 l1 l2 : Option AV) (x1 x2 : Int) (a0 : Nat) (M : Mem) (S : Sh) (hk : 11 < r) (h : S.1 a0 = 1) : go r 23 39 [l0, l1, l2] [aI x2, aI x1, aR a0] M S = cont r 23 42 [l0, l1, l2] [] 0 (res 11 [aR a0, aI x1, aI x2] M S) := go_cr0 (m' := 11) (n := 3) (pc' := 42) (hr := 0) rfl rfl rfl h rfl rfl rfl rfl hk rfl
theorem g23_42 (r : Nat) (l0 l1 : Option AV) (x : Int) (M : Mem) (S : Sh) : go r 23 42 [l0, l1, some (aI x)] [] M S = go r 23 45 [l0, l1, some (aI (w32 (x + 1)))] [] M S := go_nx rfl rfl
theorem g23_45 (r : Nat) (l0 l1 l2 : Option AV) (M : Mem) (S : Sh) : go r 23 45 [l0, l1, l2] [] M S = go r 23 7 [l0, l1, l2] [] M S := go_nx rfl rfl
theorem g23_48 (r : Nat) (l0 l1 l2 : Option AV) (M : Mem) (S : Sh) : go r 23 48 [l0, l1, l2] [] M S = some (none, M, S) := go_rt rfl rfl
/-- StripsFromAbove$Reader.readOne(I)V -/
theorem g24 (x1 : Int) (a0 : Nat) (M : Mem) (S : Sh) : res 24 [aR a0, aI x1] M S = go (rk 24 [aR a0, aI x1]) 24 0 [some (aR a0), some (aI x1), none] [] M S := rfl
theorem g24_0 (r : Nat) (l1 l2 : Option AV) (a : Nat) (M : Mem) (S : Sh) : go r 24 0 [some (aR a), l1, l2] [] M S = go r 24 1 [some (aR a), l1, l2] [aR a] M S := go_nx rfl rfl
theorem g24_1 (r : Nat) (l0 l1 l2 : Option AV) (a : Nat) (M : Mem) (S : Sh) (h : S.1 a = 2) : go r 24 1 [l0, l1, l2] [aR a] M S = go r 24 4 [l0, l1, l2] [aI (M a 5)] M S := go_bnd rfl h rfl
theorem g24_4 (r : Nat) (l0 l1 l2 : Option AV) (s0 : AV) (M : Mem) (S : Sh) : go r 24 4 [l0, l1, l2] [s0] M S = go r 24 6 [l0, l1, l2] [aI 45, s0] M S := go_nx rfl rfl
theorem g24_6 (r : Nat) (l0 l1 l2 : Option AV) (x y : Int) (M : Mem) (S : Sh) : go r 24 6 [l0, l1, l2] [aI y, aI x] M S = if x = y then go r 24 18 [l0, l1, l2] [] M S else go r 24 9 [l0, l1, l2] [] M S := go_br rfl rfl rfl rfl rfl
theorem g24_9 (r : Nat) (l1 l2 : Option AV) (a : Nat) (M : Mem) (S : Sh) : go r 24 9 [some (aR a), l1, l2] [] M S = go r 24 10 [some (aR a), l1, l2] [aR a] M S := go_nx rfl rfl
theorem g24_10 (r : Nat) (l0 l1 l2 : Option AV) (a : Nat) (M : Mem) (S : Sh) (h : S.1 a = 2) : go r 24 10 [l0, l1, l2] [aR a] M S = go r 24 13 [l0, l1, l2] [aI (M a 5)] M S := go_bnd rfl h rfl
theorem g24_13 (r : Nat) (l0 l1 l2 : Option AV) (s0 : AV) (M : Mem) (S : Sh) : go r 24 13 [l0, l1, l2] [s0] M S = go r 24 15 [l0, l1, l2] [aI 40, s0] M S := go_nx rfl rfl
theorem g24_15 (r : Nat) (l0 l1 l2 : Option AV) (x y : Int) (M : Mem) (S : Sh) : go r 24 15 [l0, l1, l2] [aI y, aI x] M S = if x ≠ y then go r 24 22 [l0, l1, l2] [] M S else go r 24 18 [l0, l1, l2] [] M S := go_br rfl rfl rfl rfl rfl
theorem g24_18 (r : Nat) (l0 l1 l2 : Option AV) (M : Mem) (S : Sh) : go r 24 18 [l0, l1, l2] [] M S = go r 24 19 [l0, l1, l2] [aI 1] M S := go_nx rfl rfl
theorem g24_19 (r : Nat) (l0 l1 l2 : Option AV) (s0 : AV) (M : Mem) (S : Sh) : go r 24 19 [l0, l1, l2] [s0] M S = go r 24 23 [l0, l1, l2] [s0] M S := go_nx rfl rfl
theorem g24_22 (r : Nat) (l0 l1 l2 : Option AV) (M : Mem) (S : Sh) : go r 24 22 [l0, l1, l2] [] M S = go r 24 23 [l0, l1, l2] [aI 0] M S := go_nx rfl rfl
theorem g24_23 (r : Nat) (l0 l1 l2 : Option AV) (x : Int) (M : Mem) (S : Sh) : go r 24 23 [l0, l1, l2] [aI x] M S = go r 24 24 [l0, l1, some (aI x)] [] M S := go_nx rfl rfl
theorem g24_24 (r : Nat) (l1 l2 : Option AV) (a : Nat) (M : Mem) (S : Sh) : go r 24 24 [some (aR a), l1, l2] [] M S = go r 24 25 [some (aR a), l1, l2] [aR a] M S := go_nx rfl rfl
theorem g24_25 (r : Nat) (l0 l1 l2 : Option AV) (a : Nat) (M : Mem) (S : Sh) (h : S.1 a = 2) : go r 24 25 [l0, l1, l2] [aR a] M S = go r 24 28 [l0, l1, l2] [aI (M a 5)] M S := go_bnd rfl h rfl
theorem g24_28 (r : Nat) (l0 l1 l2 : Option AV) (s0 : AV) (M : Mem) (S : Sh) : go r 24 28 [l0, l1, l2] [s0] M S = go r 24 29 [l0, l1, l2] [aI 2, s0] M S := go_nx rfl rfl
theorem g24_29 (r : Nat) (l0 l1 l2 : Option AV) (x y : Int) (M : Mem) (S : Sh) : go r 24 29 [l0, l1, l2] [aI y, aI x] M S = if x = y then go r 24 40 [l0, l1, l2] [] M S else go r 24 32 [l0, l1, l2] [] M S := go_br rfl rfl rfl rfl rfl
theorem g24_32 (r : Nat) (l1 l2 : Option AV) (a : Nat) (M : Mem) (S : Sh) : go r 24 32 [some (aR a), l1, l2] [] M S = go r 24 33 [some (aR a), l1, l2] [aR a] M S := go_nx rfl rfl
theorem g24_33 (r : Nat) (l0 l1 l2 : Option AV) (a : Nat) (M : Mem) (S : Sh) (h : S.1 a = 2) : go r 24 33 [l0, l1, l2] [aR a] M S = go r 24 36 [l0, l1, l2] [aI (M a 5)] M S := go_bnd rfl h rfl
theorem g24_36 (r : Nat) (l0 l1 l2 : Option AV) (s0 : AV) (M : Mem) (S : Sh) : go r 24 36 [l0, l1, l2] [s0] M S = go r 24 37 [l0, l1, l2] [aI 3, s0] M S := go_nx rfl rfl
theorem g24_37 (r : Nat) (l0 l1 l2 : Option AV) (x y : Int) (M : Mem) (S : Sh) : go r 24 37 [l0, l1, l2] [aI y, aI x] M S = if x ≠ y then go r 24 62 [l0, l1, l2] [] M S else go r 24 40 [l0, l1, l2] [] M S := go_br rfl rfl rfl rfl rfl
theorem g24_40 (r : Nat) (l1 l2 : Option AV) (a : Nat) (M : Mem) (S : Sh) : go r 24 40 [some (aR a), l1, l2] [] M S = go r 24 41 [some (aR a), l1, l2] [aR a] M S := go_nx rfl rfl
theorem g24_41 (r : Nat) (l0 l1 l2 : Option AV) (a : Nat) (M : Mem) (S : Sh) (h : S.1 a = 2) : go r 24 41 [l0, l1, l2] [aR a] M S = go r 24 44 [l0, l1, l2] [aO (S.2.2.1 a 2)] M S := go_bnd rfl h rfl
theorem g24_44 (r : Nat) (l1 l2 : Option AV) (s0 : AV) (a : Nat) (M : Mem) (S : Sh) : go r 24 44 [some (aR a), l1, l2] [s0] M S = go r 24 45 [some (aR a), l1, l2] [aR a, s0] M S := go_nx rfl rfl
theorem g24_45 (r : Nat) (l0 l1 l2 : Option AV) (s0 : AV) (a : Nat) (M : Mem) (S : Sh) (h : S.1 a = 2) : go r 24 45 [l0, l1, l2] [aR a, s0] M S = go r 24 48 [l0, l1, l2] [aI (M a 5), s0] M S := go_bnd rfl h rfl
theorem g24_48 (r : Nat) (l1 l2 : Option AV) (s0 s1 : AV) (a : Nat) (M : Mem) (S : Sh) : go r 24 48 [some (aR a), l1, l2] [s0, s1] M S = go r 24 49 [some (aR a), l1, l2] [aR a, s0, s1] M S := go_nx rfl rfl
theorem g24_49 (r : Nat) (l0 l1 l2 : Option AV) (s0 s1 : AV) (a : Nat) (M : Mem) (S : Sh) (h : S.1 a = 2) : go r 24 49 [l0, l1, l2] [aR a, s0, s1] M S = go r 24 52 [l0, l1, l2] [aI (M a 6), s0, s1] M S := go_bnd rfl h rfl
theorem g24_52 (r : Nat) (l0 l1 l2 : Option AV) (x1 x2 : Int) (a0 : Nat) (M : Mem) (S : Sh) (hk : 11 < r) (h : S.1 a0 = 1) : go r 24 52 [l0, l1, l2] [aI x2, aI x1, aR a0] M S = cont r 24 55 [l0, l1, l2] [] 0 (res 11 [aR a0, aI x1, aI x2] M S) := go_cr0 (m' := 11) (n := 3) (pc' := 55) (hr := 0) rfl rfl rfl h rfl rfl rfl rfl hk rfl
theorem g24_55 (r : Nat) (l1 l2 : Option AV) (a : Nat) (M : Mem) (S : Sh) : go r 24 55 [some (aR a), l1, l2] [] M S = go r 24 56 [some (aR a), l1, l2] [aR a] M S := go_nx rfl rfl
theorem g24_56 (r : Nat) (l0 l1 l2 : Option AV) (a0 : Nat) (M : Mem) (S : Sh) (hk : 12 < r) (h : S.1 a0 = 2) : go r 24 56 [l0, l1, l2] [aR a0] M S = cont r 24 59 [l0, l1, l2] [] 0 (res 25 [aR a0] M S) := go_cr0 (m' := 25) (n := 1) (pc' := 59) (hr := 0) rfl rfl rfl h rfl rfl rfl rfl hk rfl
theorem g24_59 (r : Nat) (l0 l1 l2 : Option AV) (M : Mem) (S : Sh) : go r 24 59 [l0, l1, l2] [] M S = go r 24 128 [l0, l1, l2] [] M S := go_nx rfl rfl
theorem g24_62 (r : Nat) (l0 l1 : Option AV) (x : Int) (M : Mem) (S : Sh) : go r 24 62 [l0, l1, some (aI x)] [] M S = go r 24 63 [l0, l1, some (aI x)] [aI x] M S := go_nx rfl rfl
theorem g24_63 (r : Nat) (l0 l1 l2 : Option AV) (x : Int) (M : Mem) (S : Sh) : go r 24 63 [l0, l1, l2] [aI x] M S = if x = 0 then go r 24 71 [l0, l1, l2] [] M S else go r 24 66 [l0, l1, l2] [] M S := go_br rfl rfl rfl rfl rfl
theorem g24_66 (r : Nat) (l0 l2 : Option AV) (x : Int) (M : Mem) (S : Sh) : go r 24 66 [l0, some (aI x), l2] [] M S = go r 24 67 [l0, some (aI x), l2] [aI x] M S := go_nx rfl rfl
theorem g24_67 (r : Nat) (l0 l1 l2 : Option AV) (s0 : AV) (M : Mem) (S : Sh) : go r 24 67 [l0, l1, l2] [s0] M S = go r 24 68 [l0, l1, l2] [aI 5, s0] M S := go_nx rfl rfl
theorem g24_68 (r : Nat) (l0 l1 l2 : Option AV) (x y : Int) (M : Mem) (S : Sh) : go r 24 68 [l0, l1, l2] [aI y, aI x] M S = if x < y then go r 24 78 [l0, l1, l2] [] M S else go r 24 71 [l0, l1, l2] [] M S := go_br rfl rfl rfl rfl rfl
theorem g24_71 (r : Nat) (l1 l2 : Option AV) (a : Nat) (M : Mem) (S : Sh) : go r 24 71 [some (aR a), l1, l2] [] M S = go r 24 72 [some (aR a), l1, l2] [aR a] M S := go_nx rfl rfl
theorem g24_72 (r : Nat) (l0 l1 l2 : Option AV) (a0 : Nat) (M : Mem) (S : Sh) (hk : 10 < r) (h : S.1 a0 = 2) : go r 24 72 [l0, l1, l2] [aR a0] M S = cont r 24 75 [l0, l1, l2] [] 0 (res 17 [aR a0] M S) := go_cr0 (m' := 17) (n := 1) (pc' := 75) (hr := 0) rfl rfl rfl h rfl rfl rfl rfl hk rfl
theorem g24_75 (r : Nat) (l0 l1 l2 : Option AV) (M : Mem) (S : Sh) : go r 24 75 [l0, l1, l2] [] M S = go r 24 128 [l0, l1, l2] [] M S := go_nx rfl rfl
theorem g24_78 (r : Nat) (l1 l2 : Option AV) (a : Nat) (M : Mem) (S : Sh) : go r 24 78 [some (aR a), l1, l2] [] M S = go r 24 79 [some (aR a), l1, l2] [aR a] M S := go_nx rfl rfl
theorem g24_79 (r : Nat) (l0 l1 l2 : Option AV) (a : Nat) (M : Mem) (S : Sh) (h : S.1 a = 2) : go r 24 79 [l0, l1, l2] [aR a] M S = go r 24 82 [l0, l1, l2] [aI (M a 5)] M S := go_bnd rfl h rfl
theorem g24_82 (r : Nat) (l0 l1 l2 : Option AV) (s0 : AV) (M : Mem) (S : Sh) : go r 24 82 [l0, l1, l2] [s0] M S = go r 24 84 [l0, l1, l2] [aI 45, s0] M S := go_nx rfl rfl
theorem g24_84 (r : Nat) (l0 l1 l2 : Option AV) (x y : Int) (M : Mem) (S : Sh) : go r 24 84 [l0, l1, l2] [aI y, aI x] M S = if x ≠ y then go r 24 111 [l0, l1, l2] [] M S else go r 24 87 [l0, l1, l2] [] M S := go_br rfl rfl rfl rfl rfl
theorem g24_87 (r : Nat) (l1 l2 : Option AV) (a : Nat) (M : Mem) (S : Sh) : go r 24 87 [some (aR a), l1, l2] [] M S = go r 24 88 [some (aR a), l1, l2] [aR a] M S := go_nx rfl rfl
theorem g24_88 (r : Nat) (l0 l1 l2 : Option AV) (a0 : Nat) (M : Mem) (S : Sh) (hk : 12 < r) (h : S.1 a0 = 2) : go r 24 88 [l0, l1, l2] [aR a0] M S = cont r 24 91 [l0, l1, l2] [] 0 (res 25 [aR a0] M S) := go_cr0 (m' := 25) (n := 1) (pc' := 91) (hr := 0) rfl rfl rfl h rfl rfl rfl rfl hk rfl
theorem g24_91 (r : Nat) (l1 l2 : Option AV) (a : Nat) (M : Mem) (S : Sh) : go r 24 91 [some (aR a), l1, l2] [] M S = go r 24 92 [some (aR a), l1, l2] [aR a] M S := go_nx rfl rfl
theorem g24_92 (r : Nat) (l0 l2 : Option AV) (s0 : AV) (x : Int) (M : Mem) (S : Sh) : go r 24 92 [l0, some (aI x), l2] [s0] M S = go r 24 93 [l0, some (aI x), l2] [aI x, s0] M S := go_nx rfl rfl
theorem g24_93 (r : Nat) (l0 l1 l2 : Option AV) (s0 s1 : AV) (M : Mem) (S : Sh) : go r 24 93 [l0, l1, l2] [s0, s1] M S = go r 24 94 [l0, l1, l2] [aI 1, s0, s1] M S := go_nx rfl rfl
theorem g24_94 (r : Nat) (l0 l1 l2 : Option AV) (s0 : AV) (x y : Int) (M : Mem) (S : Sh) : go r 24 94 [l0, l1, l2] [aI y, aI x, s0] M S = go r 24 95 [l0, l1, l2] [aI (w32 (x + y)), s0] M S := go_nx rfl rfl
theorem g24_95 (r : Nat) (l0 l1 l2 : Option AV) (x1 : Int) (a0 : Nat) (M : Mem) (S : Sh) (hk : rk 24 [aR a0, aI x1] < r) (h : S.1 a0 = 2) : go r 24 95 [l0, l1, l2] [aI x1, aR a0] M S = cont r 24 98 [l0, l1, l2] [] 0 (res 24 [aR a0, aI x1] M S) := go_cr (m' := 24) (n := 2) (pc' := 98) (hr := 0) rfl rfl rfl h rfl rfl rfl hk rfl
theorem g24_98 (r : Nat) (l1 l2 : Option AV) (a : Nat) (M : Mem) (S : Sh) : go r 24 98 [some (aR a), l1, l2] [] M S = go r 24 99 [some (aR a), l1, l2] [aR a] M S := go_nx rfl rfl
theorem g24_99 (r : Nat) (l0 l1 l2 : Option AV) (a : Nat) (M : Mem) (S : Sh) (h : S.1 a = 2) : go r 24 99 [l0, l1, l2] [aR a] M S = go r 24 102 [l0, l1, l2] [aO (S.2.2.1 a 2)] M S := go_bnd rfl h rfl
theorem g24_102 (r : Nat) (l0 l1 l2 : Option AV) (s0 : AV) (M : Mem) (S : Sh) : go r 24 102 [l0, l1, l2] [s0] M S = go r 24 104 [l0, l1, l2] [aI 10, s0] M S := go_nx rfl rfl
theorem g24_104 (r : Nat) (l0 l1 l2 : Option AV) (s0 s1 : AV) (M : Mem) (S : Sh) : go r 24 104 [l0, l1, l2] [s0, s1] M S = go r 24 105 [l0, l1, l2] [aI 0, s0, s1] M S := go_nx rfl rfl
theorem g24_105 (r : Nat) (l0 l1 l2 : Option AV) (x1 x2 : Int) (a0 : Nat) (M : Mem) (S : Sh) (hk : 11 < r) (h : S.1 a0 = 1) : go r 24 105 [l0, l1, l2] [aI x2, aI x1, aR a0] M S = cont r 24 108 [l0, l1, l2] [] 0 (res 11 [aR a0, aI x1, aI x2] M S) := go_cr0 (m' := 11) (n := 3) (pc' := 108) (hr := 0) rfl rfl rfl h rfl rfl rfl rfl hk rfl
theorem g24_108 (r : Nat) (l0 l1 l2 : Option AV) (M : Mem) (S : Sh) : go r 24 108 [l0, l1, l2] [] M S = go r 24 128 [l0, l1, l2] [] M S := go_nx rfl rfl
theorem g24_111 (r : Nat) (l1 l2 : Option AV) (a : Nat) (M : Mem) (S : Sh) : go r 24 111 [some (aR a), l1, l2] [] M S = go r 24 112 [some (aR a), l1, l2] [aR a] M S := go_nx rfl rfl
theorem g24_112 (r : Nat) (l0 l1 l2 : Option AV) (a0 : Nat) (M : Mem) (S : Sh) (hk : 12 < r) (h : S.1 a0 = 2) : go r 24 112 [l0, l1, l2] [aR a0] M S = cont r 24 115 [l0, l1, l2] [] 0 (res 25 [aR a0] M S) := go_cr0 (m' := 25) (n := 1) (pc' := 115) (hr := 0) rfl rfl rfl h rfl rfl rfl rfl hk rfl
theorem g24_115 (r : Nat) (l1 l2 : Option AV) (a : Nat) (M : Mem) (S : Sh) : go r 24 115 [some (aR a), l1, l2] [] M S = go r 24 116 [some (aR a), l1, l2] [aR a] M S := go_nx rfl rfl
theorem g24_116 (r : Nat) (l0 l2 : Option AV) (s0 : AV) (x : Int) (M : Mem) (S : Sh) : go r 24 116 [l0, some (aI x), l2] [s0] M S = go r 24 117 [l0, some (aI x), l2] [aI x, s0] M S := go_nx rfl rfl
theorem g24_117 (r : Nat) (l0 l1 l2 : Option AV) (s0 s1 : AV) (M : Mem) (S : Sh) : go r 24 117 [l0, l1, l2] [s0, s1] M S = go r 24 118 [l0, l1, l2] [aI 1, s0, s1] M S := go_nx rfl rfl
theorem g24_118 (r : Nat) (l0 l1 l2 : Option AV) (s0 : AV) (x y : Int) (M : Mem) (S : Sh) : go r 24 118 [l0, l1, l2] [aI y, aI x, s0] M S = go r 24 119 [l0, l1, l2] [aI (w32 (x + y)), s0] M S := go_nx rfl rfl
set_option maxRecDepth 20000 in
theorem g24_119 (r : Nat) (l0 l1 l2 : Option AV) (x1 : Int) (a0 : Nat) (M : Mem) (S : Sh) (hk : rk 19 [aR a0, aI x1] < r) (h : S.1 a0 = 2) : go r 24 119 [l0, l1, l2] [aI x1, aR a0] M S = cont r 24 122 [l0, l1, l2] [] 0 (res 19 [aR a0, aI x1] M S) := go_cr (m' := 19) (n := 2) (pc' := 122) (hr := 0) rfl rfl rfl h rfl rfl rfl hk rfl
set_option maxRecDepth 20000 in
theorem g24_122 (r : Nat) (l1 l2 : Option AV) (a : Nat) (M : Mem) (S : Sh) : go r 24 122 [some (aR a), l1, l2] [] M S = go r 24 123 [some (aR a), l1, l2] [aR a] M S := go_nx rfl rfl
set_option maxRecDepth 20000 in
theorem g24_123 (r : Nat) (l0 l1 l2 : Option AV) (s0 : AV) (M : Mem) (S : Sh) : go r 24 123 [l0, l1, l2] [s0] M S = go r 24 125 [l0, l1, l2] [aI 41, s0] M S := go_nx rfl rfl
set_option maxRecDepth 20000 in
theorem g24_125 (r : Nat) (l0 l1 l2 : Option AV) (x1 : Int) (a0 : Nat) (M : Mem) (S : Sh) (hk : 13 < r) (h : S.1 a0 = 2) : go r 24 125 [l0, l1, l2] [aI x1, aR a0] M S = cont r 24 128 [l0, l1, l2] [] 0 (res 18 [aR a0, aI x1] M S) := go_cr0 (m' := 18) (n := 2) (pc' := 128) (hr := 0) rfl rfl rfl h rfl rfl rfl rfl hk rfl
set_option maxRecDepth 20000 in
theorem g24_128 (r : Nat) (l0 l1 l2 : Option AV) (M : Mem) (S : Sh) : go r 24 128 [l0, l1, l2] [] M S = some (none, M, S) := go_rt rfl rfl
/-- StripsFromAbove$Reader.advance()V -/
theorem g25 (a0 : Nat) (M : Mem) (S : Sh) : res 25 [aR a0] M S = go 12 25 0 [some (aR a0), none] [] M S := res_e0 rfl _ M S
theorem g25_0 (r : Nat) (l1 : Option AV) (a : Nat) (M : Mem) (S : Sh) : go r 25 0 [some (aR a), l1] [] M S = go r 25 1 [some (aR a), l1] [aR a] M S := go_nx rfl rfl
theorem g25_1 (r : Nat) (l0 l1 : Option AV) (a : Nat) (M : Mem) (S : Sh) (h : S.1 a = 2) : go r 25 1 [l0, l1] [aR a] M S = go r 25 4 [l0, l1] [aI (M a 3)] M S := go_bnd rfl h rfl
theorem g25_4 (r : Nat) (l1 : Option AV) (s0 : AV) (a : Nat) (M : Mem) (S : Sh) : go r 25 4 [some (aR a), l1] [s0] M S = go r 25 5 [some (aR a), l1] [aR a, s0] M S := go_nx rfl rfl
theorem g25_5 (r : Nat) (l0 l1 : Option AV) (s0 : AV) (a : Nat) (M : Mem) (S : Sh) (h : S.1 a = 2) : go r 25 5 [l0, l1] [aR a, s0] M S = go r 25 8 [l0, l1] [aI (M a 1), s0] M S := go_bnd rfl h rfl
theorem g25_8 (r : Nat) (l0 l1 : Option AV) (x y : Int) (M : Mem) (S : Sh) : go r 25 8 [l0, l1] [aI y, aI x] M S = if x ≥ y then go r 25 41 [l0, l1] [] M S else go r 25 11 [l0, l1] [] M S := go_br rfl rfl rfl rfl rfl
theorem g25_11 (r : Nat) (l1 : Option AV) (a : Nat) (M : Mem) (S : Sh) : go r 25 11 [some (aR a), l1] [] M S = go r 25 12 [some (aR a), l1] [aR a] M S := go_nx rfl rfl
theorem g25_12 (r : Nat) (l0 l1 : Option AV) (a : Nat) (M : Mem) (S : Sh) (h : S.1 a = 2) : go r 25 12 [l0, l1] [aR a] M S = go r 25 15 [l0, l1] [aO (S.2.2.1 a 0)] M S := go_bnd rfl h rfl
theorem g25_15 (r : Nat) (l1 : Option AV) (s0 : AV) (a : Nat) (M : Mem) (S : Sh) : go r 25 15 [some (aR a), l1] [s0] M S = go r 25 16 [some (aR a), l1] [aR a, s0] M S := go_nx rfl rfl
theorem g25_16 (r : Nat) (l0 l1 : Option AV) (s0 : AV) (a : Nat) (M : Mem) (S : Sh) (h : S.1 a = 2) : go r 25 16 [l0, l1] [aR a, s0] M S = go r 25 19 [l0, l1] [aI (M a 3), s0] M S := go_bnd rfl h rfl
theorem g25_19 (r : Nat) (l0 l1 : Option AV) (x1 : Int) (a0 : Nat) (M : Mem) (S : Sh) (hk : 10 < r) : go r 25 19 [l0, l1] [aI x1, aR a0] M S = cont r 25 22 [l0, l1] [] 1 (res 96 [aR a0, aI x1] M S) := go_c0 (m' := 96) (n := 2) (pc' := 22) (hr := 1) rfl rfl rfl rfl rfl rfl hk rfl
theorem g25_22 (r : Nat) (l0 l1 : Option AV) (x0 : Int) (M : Mem) (S : Sh) (hk : 10 < r) : go r 25 22 [l0, l1] [aI x0] M S = cont r 25 25 [l0, l1] [] 1 (res 29 [aI x0] M S) := go_c0 (m' := 29) (n := 1) (pc' := 25) (hr := 1) rfl rfl rfl rfl rfl rfl hk rfl
theorem g25_25 (r : Nat) (l0 l1 : Option AV) (x : Int) (M : Mem) (S : Sh) : go r 25 25 [l0, l1] [aI x] M S = if x = 0 then go r 25 41 [l0, l1] [] M S else go r 25 28 [l0, l1] [] M S := go_br rfl rfl rfl rfl rfl
theorem g25_28 (r : Nat) (l1 : Option AV) (a : Nat) (M : Mem) (S : Sh) : go r 25 28 [some (aR a), l1] [] M S = go r 25 29 [some (aR a), l1] [aR a] M S := go_nx rfl rfl
theorem g25_29 (r : Nat) (l0 l1 : Option AV) (a : Nat) (M : Mem) (S : Sh) : go r 25 29 [l0, l1] [aR a] M S = go r 25 30 [l0, l1] [aR a, aR a] M S := go_nx rfl rfl
theorem g25_30 (r : Nat) (l0 l1 : Option AV) (s0 : AV) (a : Nat) (M : Mem) (S : Sh) (h : S.1 a = 2) : go r 25 30 [l0, l1] [aR a, s0] M S = go r 25 33 [l0, l1] [aI (M a 3), s0] M S := go_bnd rfl h rfl
theorem g25_33 (r : Nat) (l0 l1 : Option AV) (s0 s1 : AV) (M : Mem) (S : Sh) : go r 25 33 [l0, l1] [s0, s1] M S = go r 25 34 [l0, l1] [aI 1, s0, s1] M S := go_nx rfl rfl
theorem g25_34 (r : Nat) (l0 l1 : Option AV) (s0 : AV) (x y : Int) (M : Mem) (S : Sh) : go r 25 34 [l0, l1] [aI y, aI x, s0] M S = go r 25 35 [l0, l1] [aI (w32 (x + y)), s0] M S := go_nx rfl rfl
theorem g25_35 (r : Nat) (l0 l1 : Option AV) (x : Int) (a : Nat) (M : Mem) (S : Sh) (h : S.1 a = 2) : go r 25 35 [l0, l1] [aI x, aR a] M S = go r 25 38 [l0, l1] [] (mset M a 3 x) S := go_bnd rfl ⟨h, fun z => absurd z (by decide)⟩ rfl
theorem g25_38 (r : Nat) (l0 l1 : Option AV) (M : Mem) (S : Sh) : go r 25 38 [l0, l1] [] M S = go r 25 0 [l0, l1] [] M S := go_nx rfl rfl
theorem g25_41 (r : Nat) (l1 : Option AV) (a : Nat) (M : Mem) (S : Sh) : go r 25 41 [some (aR a), l1] [] M S = go r 25 42 [some (aR a), l1] [aR a] M S := go_nx rfl rfl
theorem g25_42 (r : Nat) (l1 : Option AV) (s0 : AV) (a : Nat) (M : Mem) (S : Sh) : go r 25 42 [some (aR a), l1] [s0] M S = go r 25 43 [some (aR a), l1] [aR a, s0] M S := go_nx rfl rfl
theorem g25_43 (r : Nat) (l0 l1 : Option AV) (s0 : AV) (a : Nat) (M : Mem) (S : Sh) (h : S.1 a = 2) : go r 25 43 [l0, l1] [aR a, s0] M S = go r 25 46 [l0, l1] [aI (M a 3), s0] M S := go_bnd rfl h rfl
theorem g25_46 (r : Nat) (l0 l1 : Option AV) (x : Int) (a : Nat) (M : Mem) (S : Sh) (h : S.1 a = 2) : go r 25 46 [l0, l1] [aI x, aR a] M S = go r 25 49 [l0, l1] [] (mset M a 4 x) S := go_bnd rfl ⟨h, fun z => absurd z (by decide)⟩ rfl
theorem g25_49 (r : Nat) (l1 : Option AV) (a : Nat) (M : Mem) (S : Sh) : go r 25 49 [some (aR a), l1] [] M S = go r 25 50 [some (aR a), l1] [aR a] M S := go_nx rfl rfl
theorem g25_50 (r : Nat) (l0 l1 : Option AV) (a : Nat) (M : Mem) (S : Sh) (h : S.1 a = 2) : go r 25 50 [l0, l1] [aR a] M S = go r 25 53 [l0, l1] [aI (M a 3)] M S := go_bnd rfl h rfl
theorem g25_53 (r : Nat) (l1 : Option AV) (s0 : AV) (a : Nat) (M : Mem) (S : Sh) : go r 25 53 [some (aR a), l1] [s0] M S = go r 25 54 [some (aR a), l1] [aR a, s0] M S := go_nx rfl rfl
theorem g25_54 (r : Nat) (l0 l1 : Option AV) (s0 : AV) (a : Nat) (M : Mem) (S : Sh) (h : S.1 a = 2) : go r 25 54 [l0, l1] [aR a, s0] M S = go r 25 57 [l0, l1] [aI (M a 1), s0] M S := go_bnd rfl h rfl
theorem g25_57 (r : Nat) (l0 l1 : Option AV) (x y : Int) (M : Mem) (S : Sh) : go r 25 57 [l0, l1] [aI y, aI x] M S = if x < y then go r 25 66 [l0, l1] [] M S else go r 25 60 [l0, l1] [] M S := go_br rfl rfl rfl rfl rfl
theorem g25_60 (r : Nat) (l1 : Option AV) (a : Nat) (M : Mem) (S : Sh) : go r 25 60 [some (aR a), l1] [] M S = go r 25 61 [some (aR a), l1] [aR a] M S := go_nx rfl rfl
theorem g25_61 (r : Nat) (l0 l1 : Option AV) (s0 : AV) (M : Mem) (S : Sh) : go r 25 61 [l0, l1] [s0] M S = go r 25 62 [l0, l1] [aI 0, s0] M S := go_nx rfl rfl
theorem g25_62 (r : Nat) (l0 l1 : Option AV) (x : Int) (a : Nat) (M : Mem) (S : Sh) (h : S.1 a = 2) : go r 25 62 [l0, l1] [aI x, aR a] M S = go r 25 65 [l0, l1] [] (mset M a 5 x) S := go_bnd rfl ⟨h, fun z => absurd z (by decide)⟩ rfl
theorem g25_65 (r : Nat) (l0 l1 : Option AV) (M : Mem) (S : Sh) : go r 25 65 [l0, l1] [] M S = some (none, M, S) := go_rt rfl rfl
theorem g25_66 (r : Nat) (l1 : Option AV) (a : Nat) (M : Mem) (S : Sh) : go r 25 66 [some (aR a), l1] [] M S = go r 25 67 [some (aR a), l1] [aR a] M S := go_nx rfl rfl
theorem g25_67 (r : Nat) (l0 l1 : Option AV) (a : Nat) (M : Mem) (S : Sh) (h : S.1 a = 2) : go r 25 67 [l0, l1] [aR a] M S = go r 25 70 [l0, l1] [aO (S.2.2.1 a 0)] M S := go_bnd rfl h rfl
theorem g25_70 (r : Nat) (l1 : Option AV) (s0 : AV) (a : Nat) (M : Mem) (S : Sh) : go r 25 70 [some (aR a), l1] [s0] M S = go r 25 71 [some (aR a), l1] [aR a, s0] M S := go_nx rfl rfl
theorem g25_71 (r : Nat) (l0 l1 : Option AV) (s0 : AV) (a : Nat) (M : Mem) (S : Sh) (h : S.1 a = 2) : go r 25 71 [l0, l1] [aR a, s0] M S = go r 25 74 [l0, l1] [aI (M a 3), s0] M S := go_bnd rfl h rfl
theorem g25_74 (r : Nat) (l0 l1 : Option AV) (x1 : Int) (a0 : Nat) (M : Mem) (S : Sh) (hk : 10 < r) : go r 25 74 [l0, l1] [aI x1, aR a0] M S = cont r 25 77 [l0, l1] [] 1 (res 96 [aR a0, aI x1] M S) := go_c0 (m' := 96) (n := 2) (pc' := 77) (hr := 1) rfl rfl rfl rfl rfl rfl hk rfl
theorem g25_77 (r : Nat) (l0 l1 : Option AV) (x : Int) (M : Mem) (S : Sh) : go r 25 77 [l0, l1] [aI x] M S = go r 25 78 [l0, some (aI x)] [] M S := go_nx rfl rfl
theorem g25_78 (r : Nat) (l0 : Option AV) (x : Int) (M : Mem) (S : Sh) : go r 25 78 [l0, some (aI x)] [] M S = go r 25 79 [l0, some (aI x)] [aI x] M S := go_nx rfl rfl
theorem g25_79 (r : Nat) (l0 l1 : Option AV) (x0 : Int) (M : Mem) (S : Sh) (hk : 10 < r) : go r 25 79 [l0, l1] [aI x0] M S = cont r 25 82 [l0, l1] [] 1 (res 30 [aI x0] M S) := go_c0 (m' := 30) (n := 1) (pc' := 82) (hr := 1) rfl rfl rfl rfl rfl rfl hk rfl
theorem g25_82 (r : Nat) (l0 l1 : Option AV) (x : Int) (M : Mem) (S : Sh) : go r 25 82 [l0, l1] [aI x] M S = if x = 0 then go r 25 92 [l0, l1] [] M S else go r 25 85 [l0, l1] [] M S := go_br rfl rfl rfl rfl rfl
theorem g25_85 (r : Nat) (l1 : Option AV) (a : Nat) (M : Mem) (S : Sh) : go r 25 85 [some (aR a), l1] [] M S = go r 25 86 [some (aR a), l1] [aR a] M S := go_nx rfl rfl
theorem g25_86 (r : Nat) (l0 l1 : Option AV) (a0 : Nat) (M : Mem) (S : Sh) (hk : 11 < r) (h : S.1 a0 = 2) : go r 25 86 [l0, l1] [aR a0] M S = cont r 25 89 [l0, l1] [] 0 (res 26 [aR a0] M S) := go_cr0 (m' := 26) (n := 1) (pc' := 89) (hr := 0) rfl rfl rfl h rfl rfl rfl rfl hk rfl
theorem g25_89 (r : Nat) (l0 l1 : Option AV) (M : Mem) (S : Sh) : go r 25 89 [l0, l1] [] M S = go r 25 132 [l0, l1] [] M S := go_nx rfl rfl
theorem g25_92 (r : Nat) (l0 : Option AV) (x : Int) (M : Mem) (S : Sh) : go r 25 92 [l0, some (aI x)] [] M S = go r 25 93 [l0, some (aI x)] [aI x] M S := go_nx rfl rfl
theorem g25_93 (r : Nat) (l0 l1 : Option AV) (x0 : Int) (M : Mem) (S : Sh) (hk : 10 < r) : go r 25 93 [l0, l1] [aI x0] M S = cont r 25 96 [l0, l1] [] 1 (res 31 [aI x0] M S) := go_c0 (m' := 31) (n := 1) (pc' := 96) (hr := 1) rfl rfl rfl rfl rfl rfl hk rfl
theorem g25_96 (r : Nat) (l0 l1 : Option AV) (x : Int) (M : Mem) (S : Sh) : go r 25 96 [l0, l1] [aI x] M S = if x = 0 then go r 25 106 [l0, l1] [] M S else go r 25 99 [l0, l1] [] M S := go_br rfl rfl rfl rfl rfl
theorem g25_99 (r : Nat) (l1 : Option AV) (a : Nat) (M : Mem) (S : Sh) : go r 25 99 [some (aR a), l1] [] M S = go r 25 100 [some (aR a), l1] [aR a] M S := go_nx rfl rfl
theorem g25_100 (r : Nat) (l0 l1 : Option AV) (a0 : Nat) (M : Mem) (S : Sh) (hk : 11 < r) (h : S.1 a0 = 2) : go r 25 100 [l0, l1] [aR a0] M S = cont r 25 103 [l0, l1] [] 0 (res 28 [aR a0] M S) := go_cr0 (m' := 28) (n := 1) (pc' := 103) (hr := 0) rfl rfl rfl h rfl rfl rfl rfl hk rfl
theorem g25_103 (r : Nat) (l0 l1 : Option AV) (M : Mem) (S : Sh) : go r 25 103 [l0, l1] [] M S = go r 25 132 [l0, l1] [] M S := go_nx rfl rfl
theorem g25_106 (r : Nat) (l1 : Option AV) (a : Nat) (M : Mem) (S : Sh) : go r 25 106 [some (aR a), l1] [] M S = go r 25 107 [some (aR a), l1] [aR a] M S := go_nx rfl rfl
theorem g25_107 (r : Nat) (l0 l1 : Option AV) (a : Nat) (M : Mem) (S : Sh) : go r 25 107 [l0, l1] [aR a] M S = go r 25 108 [l0, l1] [aR a, aR a] M S := go_nx rfl rfl
theorem g25_108 (r : Nat) (l0 l1 : Option AV) (s0 : AV) (a : Nat) (M : Mem) (S : Sh) (h : S.1 a = 2) : go r 25 108 [l0, l1] [aR a, s0] M S = go r 25 111 [l0, l1] [aI (M a 3), s0] M S := go_bnd rfl h rfl
theorem g25_111 (r : Nat) (l0 l1 : Option AV) (s0 s1 : AV) (M : Mem) (S : Sh) : go r 25 111 [l0, l1] [s0, s1] M S = go r 25 112 [l0, l1] [aI 1, s0, s1] M S := go_nx rfl rfl
theorem g25_112 (r : Nat) (l0 l1 : Option AV) (s0 : AV) (x y : Int) (M : Mem) (S : Sh) : go r 25 112 [l0, l1] [aI y, aI x, s0] M S = go r 25 113 [l0, l1] [aI (w32 (x + y)), s0] M S := go_nx rfl rfl
theorem g25_113 (r : Nat) (l0 l1 : Option AV) (x : Int) (a : Nat) (M : Mem) (S : Sh) (h : S.1 a = 2) : go r 25 113 [l0, l1] [aI x, aR a] M S = go r 25 116 [l0, l1] [] (mset M a 3 x) S := go_bnd rfl ⟨h, fun z => absurd z (by decide)⟩ rfl
theorem g25_116 (r : Nat) (l1 : Option AV) (a : Nat) (M : Mem) (S : Sh) : go r 25 116 [some (aR a), l1] [] M S = go r 25 117 [some (aR a), l1] [aR a] M S := go_nx rfl rfl
theorem g25_117 (r : Nat) (l0 : Option AV) (s0 : AV) (x : Int) (M : Mem) (S : Sh) : go r 25 117 [l0, some (aI x)] [s0] M S = go r 25 118 [l0, some (aI x)] [aI x, s0] M S := go_nx rfl rfl
theorem g25_118 (r : Nat) (l0 l1 : Option AV) (s0 : AV) (x0 : Int) (M : Mem) (S : Sh) (hk : 10 < r) : go r 25 118 [l0, l1] [aI x0, s0] M S = cont r 25 121 [l0, l1] [s0] 1 (res 32 [aI x0] M S) := go_c0 (m' := 32) (n := 1) (pc' := 121) (hr := 1) rfl rfl rfl rfl rfl rfl hk rfl
theorem g25_121 (r : Nat) (l0 l1 : Option AV) (s0 : AV) (x : Int) (M : Mem) (S : Sh) : go r 25 121 [l0, l1] [aI x, s0] M S = if x = 0 then go r 25 128 [l0, l1] [s0] M S else go r 25 124 [l0, l1] [s0] M S := go_br rfl rfl rfl rfl rfl
theorem g25_124 (r : Nat) (l0 : Option AV) (s0 : AV) (x : Int) (M : Mem) (S : Sh) : go r 25 124 [l0, some (aI x)] [s0] M S = go r 25 125 [l0, some (aI x)] [aI x, s0] M S := go_nx rfl rfl
set_option maxRecDepth 20000 in
theorem g25_125 (r : Nat) (l0 l1 : Option AV) (s0 s1 : AV) (M : Mem) (S : Sh) : go r 25 125 [l0, l1] [s0, s1] M S = go r 25 129 [l0, l1] [s0, s1] M S := go_nx rfl rfl
set_option maxRecDepth 20000 in
theorem g25_128 (r : Nat) (l0 l1 : Option AV) (s0 : AV) (M : Mem) (S : Sh) : go r 25 128 [l0, l1] [s0] M S = go r 25 129 [l0, l1] [aI 1, s0] M S := go_nx rfl rfl
set_option maxRecDepth 20000 in
theorem g25_129 (r : Nat) (l0 l1 : Option AV) (x : Int) (a : Nat) (M : Mem) (S : Sh) (h : S.1 a = 2) : go r 25 129 [l0, l1] [aI x, aR a] M S = go r 25 132 [l0, l1] [] (mset M a 5 x) S := go_bnd rfl ⟨h, fun z => absurd z (by decide)⟩ rfl
set_option maxRecDepth 20000 in
theorem g25_132 (r : Nat) (l0 l1 : Option AV) (M : Mem) (S : Sh) : go r 25 132 [l0, l1] [] M S = some (none, M, S) := go_rt rfl rfl
/-- StripsFromAbove$Reader.readWord()V -/
theorem g26 (a0 : Nat) (M : Mem) (S : Sh) : res 26 [aR a0] M S = go 11 26 0 [some (aR a0), none] [] M S := res_e0 rfl _ M S
theorem g26_0 (r : Nat) (l1 : Option AV) (a : Nat) (M : Mem) (S : Sh) : go r 26 0 [some (aR a), l1] [] M S = go r 26 1 [some (aR a), l1] [aR a] M S := go_nx rfl rfl
theorem g26_1 (r : Nat) (l0 l1 : Option AV) (a : Nat) (M : Mem) (S : Sh) (h : S.1 a = 2) : go r 26 1 [l0, l1] [aR a] M S = go r 26 4 [l0, l1] [aI (M a 3)] M S := go_bnd rfl h rfl
theorem g26_4 (r : Nat) (l1 : Option AV) (s0 : AV) (a : Nat) (M : Mem) (S : Sh) : go r 26 4 [some (aR a), l1] [s0] M S = go r 26 5 [some (aR a), l1] [aR a, s0] M S := go_nx rfl rfl
theorem g26_5 (r : Nat) (l0 l1 : Option AV) (s0 : AV) (a : Nat) (M : Mem) (S : Sh) (h : S.1 a = 2) : go r 26 5 [l0, l1] [aR a, s0] M S = go r 26 8 [l0, l1] [aI (M a 1), s0] M S := go_bnd rfl h rfl
theorem g26_8 (r : Nat) (l0 l1 : Option AV) (x y : Int) (M : Mem) (S : Sh) : go r 26 8 [l0, l1] [aI y, aI x] M S = if x ≥ y then go r 26 41 [l0, l1] [] M S else go r 26 11 [l0, l1] [] M S := go_br rfl rfl rfl rfl rfl
theorem g26_11 (r : Nat) (l1 : Option AV) (a : Nat) (M : Mem) (S : Sh) : go r 26 11 [some (aR a), l1] [] M S = go r 26 12 [some (aR a), l1] [aR a] M S := go_nx rfl rfl
theorem g26_12 (r : Nat) (l0 l1 : Option AV) (a : Nat) (M : Mem) (S : Sh) (h : S.1 a = 2) : go r 26 12 [l0, l1] [aR a] M S = go r 26 15 [l0, l1] [aO (S.2.2.1 a 0)] M S := go_bnd rfl h rfl
theorem g26_15 (r : Nat) (l1 : Option AV) (s0 : AV) (a : Nat) (M : Mem) (S : Sh) : go r 26 15 [some (aR a), l1] [s0] M S = go r 26 16 [some (aR a), l1] [aR a, s0] M S := go_nx rfl rfl
theorem g26_16 (r : Nat) (l0 l1 : Option AV) (s0 : AV) (a : Nat) (M : Mem) (S : Sh) (h : S.1 a = 2) : go r 26 16 [l0, l1] [aR a, s0] M S = go r 26 19 [l0, l1] [aI (M a 3), s0] M S := go_bnd rfl h rfl
theorem g26_19 (r : Nat) (l0 l1 : Option AV) (x1 : Int) (a0 : Nat) (M : Mem) (S : Sh) (hk : 10 < r) : go r 26 19 [l0, l1] [aI x1, aR a0] M S = cont r 26 22 [l0, l1] [] 1 (res 96 [aR a0, aI x1] M S) := go_c0 (m' := 96) (n := 2) (pc' := 22) (hr := 1) rfl rfl rfl rfl rfl rfl hk rfl
theorem g26_22 (r : Nat) (l0 l1 : Option AV) (x0 : Int) (M : Mem) (S : Sh) (hk : 10 < r) : go r 26 22 [l0, l1] [aI x0] M S = cont r 26 25 [l0, l1] [] 1 (res 30 [aI x0] M S) := go_c0 (m' := 30) (n := 1) (pc' := 25) (hr := 1) rfl rfl rfl rfl rfl rfl hk rfl
theorem g26_25 (r : Nat) (l0 l1 : Option AV) (x : Int) (M : Mem) (S : Sh) : go r 26 25 [l0, l1] [aI x] M S = if x = 0 then go r 26 41 [l0, l1] [] M S else go r 26 28 [l0, l1] [] M S := go_br rfl rfl rfl rfl rfl
theorem g26_28 (r : Nat) (l1 : Option AV) (a : Nat) (M : Mem) (S : Sh) : go r 26 28 [some (aR a), l1] [] M S = go r 26 29 [some (aR a), l1] [aR a] M S := go_nx rfl rfl
theorem g26_29 (r : Nat) (l0 l1 : Option AV) (a : Nat) (M : Mem) (S : Sh) : go r 26 29 [l0, l1] [aR a] M S = go r 26 30 [l0, l1] [aR a, aR a] M S := go_nx rfl rfl
theorem g26_30 (r : Nat) (l0 l1 : Option AV) (s0 : AV) (a : Nat) (M : Mem) (S : Sh) (h : S.1 a = 2) : go r 26 30 [l0, l1] [aR a, s0] M S = go r 26 33 [l0, l1] [aI (M a 3), s0] M S := go_bnd rfl h rfl
theorem g26_33 (r : Nat) (l0 l1 : Option AV) (s0 s1 : AV) (M : Mem) (S : Sh) : go r 26 33 [l0, l1] [s0, s1] M S = go r 26 34 [l0, l1] [aI 1, s0, s1] M S := go_nx rfl rfl
theorem g26_34 (r : Nat) (l0 l1 : Option AV) (s0 : AV) (x y : Int) (M : Mem) (S : Sh) : go r 26 34 [l0, l1] [aI y, aI x, s0] M S = go r 26 35 [l0, l1] [aI (w32 (x + y)), s0] M S := go_nx rfl rfl
theorem g26_35 (r : Nat) (l0 l1 : Option AV) (x : Int) (a : Nat) (M : Mem) (S : Sh) (h : S.1 a = 2) : go r 26 35 [l0, l1] [aI x, aR a] M S = go r 26 38 [l0, l1] [] (mset M a 3 x) S := go_bnd rfl ⟨h, fun z => absurd z (by decide)⟩ rfl
theorem g26_38 (r : Nat) (l0 l1 : Option AV) (M : Mem) (S : Sh) : go r 26 38 [l0, l1] [] M S = go r 26 0 [l0, l1] [] M S := go_nx rfl rfl
theorem g26_41 (r : Nat) (l1 : Option AV) (a : Nat) (M : Mem) (S : Sh) : go r 26 41 [some (aR a), l1] [] M S = go r 26 42 [some (aR a), l1] [aR a] M S := go_nx rfl rfl
theorem g26_42 (r : Nat) (l1 : Option AV) (s0 : AV) (a : Nat) (M : Mem) (S : Sh) : go r 26 42 [some (aR a), l1] [s0] M S = go r 26 43 [some (aR a), l1] [aR a, s0] M S := go_nx rfl rfl
theorem g26_43 (r : Nat) (l0 l1 : Option AV) (s0 : AV) (a : Nat) (M : Mem) (S : Sh) (h : S.1 a = 2) : go r 26 43 [l0, l1] [aR a, s0] M S = go r 26 46 [l0, l1] [aI (M a 3), s0] M S := go_bnd rfl h rfl
theorem g26_46 (r : Nat) (l1 : Option AV) (s0 s1 : AV) (a : Nat) (M : Mem) (S : Sh) : go r 26 46 [some (aR a), l1] [s0, s1] M S = go r 26 47 [some (aR a), l1] [aR a, s0, s1] M S := go_nx rfl rfl
theorem g26_47 (r : Nat) (l0 l1 : Option AV) (s0 s1 : AV) (a : Nat) (M : Mem) (S : Sh) (h : S.1 a = 2) : go r 26 47 [l0, l1] [aR a, s0, s1] M S = go r 26 50 [l0, l1] [aI (M a 4), s0, s1] M S := go_bnd rfl h rfl
theorem g26_50 (r : Nat) (l0 l1 : Option AV) (s0 : AV) (x y : Int) (M : Mem) (S : Sh) : go r 26 50 [l0, l1] [aI y, aI x, s0] M S = go r 26 51 [l0, l1] [aI (w32 (x - y)), s0] M S := go_nx rfl rfl
theorem g26_51 (r : Nat) (l0 l1 : Option AV) (x1 : Int) (a0 : Nat) (M : Mem) (S : Sh) (hk : 10 < r) (h : S.1 a0 = 2) : go r 26 51 [l0, l1] [aI x1, aR a0] M S = cont r 26 54 [l0, l1] [] 1 (res 27 [aR a0, aI x1] M S) := go_cr0 (m' := 27) (n := 2) (pc' := 54) (hr := 1) rfl rfl rfl h rfl rfl rfl rfl hk rfl
theorem g26_54 (r : Nat) (l0 l1 : Option AV) (x : Int) (M : Mem) (S : Sh) : go r 26 54 [l0, l1] [aI x] M S = go r 26 55 [l0, some (aI x)] [] M S := go_nx rfl rfl
theorem g26_55 (r : Nat) (l0 : Option AV) (x : Int) (M : Mem) (S : Sh) : go r 26 55 [l0, some (aI x)] [] M S = go r 26 56 [l0, some (aI x)] [aI x] M S := go_nx rfl rfl
theorem g26_56 (r : Nat) (l0 l1 : Option AV) (s0 : AV) (M : Mem) (S : Sh) : go r 26 56 [l0, l1] [s0] M S = go r 26 57 [l0, l1] [aI (-1), s0] M S := go_nx rfl rfl
theorem g26_57 (r : Nat) (l0 l1 : Option AV) (x y : Int) (M : Mem) (S : Sh) : go r 26 57 [l0, l1] [aI y, aI x] M S = if x ≠ y then go r 26 68 [l0, l1] [] M S else go r 26 60 [l0, l1] [] M S := go_br rfl rfl rfl rfl rfl
theorem g26_60 (r : Nat) (l1 : Option AV) (a : Nat) (M : Mem) (S : Sh) : go r 26 60 [some (aR a), l1] [] M S = go r 26 61 [some (aR a), l1] [aR a] M S := go_nx rfl rfl
theorem g26_61 (r : Nat) (l0 l1 : Option AV) (s0 : AV) (M : Mem) (S : Sh) : go r 26 61 [l0, l1] [s0] M S = go r 26 62 [l0, l1] [aI 1, s0] M S := go_nx rfl rfl
theorem g26_62 (r : Nat) (l0 l1 : Option AV) (x : Int) (a : Nat) (M : Mem) (S : Sh) (h : S.1 a = 2) : go r 26 62 [l0, l1] [aI x, aR a] M S = go r 26 65 [l0, l1] [] (mset M a 5 x) S := go_bnd rfl ⟨h, fun z => absurd z (by decide)⟩ rfl
theorem g26_65 (r : Nat) (l0 l1 : Option AV) (M : Mem) (S : Sh) : go r 26 65 [l0, l1] [] M S = go r 26 97 [l0, l1] [] M S := go_nx rfl rfl
theorem g26_68 (r : Nat) (l0 : Option AV) (x : Int) (M : Mem) (S : Sh) : go r 26 68 [l0, some (aI x)] [] M S = go r 26 69 [l0, some (aI x)] [aI x] M S := go_nx rfl rfl
theorem g26_69 (r : Nat) (l0 l1 : Option AV) (s0 : AV) (M : Mem) (S : Sh) : go r 26 69 [l0, l1] [s0] M S = go r 26 71 [l0, l1] [aI 6, s0] M S := go_nx rfl rfl
theorem g26_71 (r : Nat) (l0 l1 : Option AV) (x y : Int) (M : Mem) (S : Sh) : go r 26 71 [l0, l1] [aI y, aI x] M S = if x ≥ y then go r 26 84 [l0, l1] [] M S else go r 26 74 [l0, l1] [] M S := go_br rfl rfl rfl rfl rfl
theorem g26_74 (r : Nat) (l1 : Option AV) (a : Nat) (M : Mem) (S : Sh) : go r 26 74 [some (aR a), l1] [] M S = go r 26 75 [some (aR a), l1] [aR a] M S := go_nx rfl rfl
theorem g26_75 (r : Nat) (l0 l1 : Option AV) (s0 : AV) (M : Mem) (S : Sh) : go r 26 75 [l0, l1] [s0] M S = go r 26 76 [l0, l1] [aI 4, s0] M S := go_nx rfl rfl
theorem g26_76 (r : Nat) (l0 : Option AV) (s0 s1 : AV) (x : Int) (M : Mem) (S : Sh) : go r 26 76 [l0, some (aI x)] [s0, s1] M S = go r 26 77 [l0, some (aI x)] [aI x, s0, s1] M S := go_nx rfl rfl
theorem g26_77 (r : Nat) (l0 l1 : Option AV) (s0 : AV) (x y : Int) (M : Mem) (S : Sh) : go r 26 77 [l0, l1] [aI y, aI x, s0] M S = go r 26 78 [l0, l1] [aI (w32 (x + y)), s0] M S := go_nx rfl rfl
theorem g26_78 (r : Nat) (l0 l1 : Option AV) (x : Int) (a : Nat) (M : Mem) (S : Sh) (h : S.1 a = 2) : go r 26 78 [l0, l1] [aI x, aR a] M S = go r 26 81 [l0, l1] [] (mset M a 5 x) S := go_bnd rfl ⟨h, fun z => absurd z (by decide)⟩ rfl
theorem g26_81 (r : Nat) (l0 l1 : Option AV) (M : Mem) (S : Sh) : go r 26 81 [l0, l1] [] M S = go r 26 97 [l0, l1] [] M S := go_nx rfl rfl
theorem g26_84 (r : Nat) (l1 : Option AV) (a : Nat) (M : Mem) (S : Sh) : go r 26 84 [some (aR a), l1] [] M S = go r 26 85 [some (aR a), l1] [aR a] M S := go_nx rfl rfl
theorem g26_85 (r : Nat) (l0 l1 : Option AV) (s0 : AV) (M : Mem) (S : Sh) : go r 26 85 [l0, l1] [s0] M S = go r 26 86 [l0, l1] [aI 3, s0] M S := go_nx rfl rfl
theorem g26_86 (r : Nat) (l0 l1 : Option AV) (x : Int) (a : Nat) (M : Mem) (S : Sh) (h : S.1 a = 2) : go r 26 86 [l0, l1] [aI x, aR a] M S = go r 26 89 [l0, l1] [] (mset M a 5 x) S := go_bnd rfl ⟨h, fun z => absurd z (by decide)⟩ rfl
theorem g26_89 (r : Nat) (l1 : Option AV) (a : Nat) (M : Mem) (S : Sh) : go r 26 89 [some (aR a), l1] [] M S = go r 26 90 [some (aR a), l1] [aR a] M S := go_nx rfl rfl
theorem g26_90 (r : Nat) (l0 : Option AV) (s0 : AV) (x : Int) (M : Mem) (S : Sh) : go r 26 90 [l0, some (aI x)] [s0] M S = go r 26 91 [l0, some (aI x)] [aI x, s0] M S := go_nx rfl rfl
theorem g26_91 (r : Nat) (l0 l1 : Option AV) (s0 s1 : AV) (M : Mem) (S : Sh) : go r 26 91 [l0, l1] [s0, s1] M S = go r 26 93 [l0, l1] [aI 6, s0, s1] M S := go_nx rfl rfl
theorem g26_93 (r : Nat) (l0 l1 : Option AV) (s0 : AV) (x y : Int) (M : Mem) (S : Sh) : go r 26 93 [l0, l1] [aI y, aI x, s0] M S = go r 26 94 [l0, l1] [aI (w32 (x - y)), s0] M S := go_nx rfl rfl
theorem g26_94 (r : Nat) (l0 l1 : Option AV) (x : Int) (a : Nat) (M : Mem) (S : Sh) (h : S.1 a = 2) : go r 26 94 [l0, l1] [aI x, aR a] M S = go r 26 97 [l0, l1] [] (mset M a 6 x) S := go_bnd rfl ⟨h, fun z => absurd z (by decide)⟩ rfl
theorem g26_97 (r : Nat) (l0 l1 : Option AV) (M : Mem) (S : Sh) : go r 26 97 [l0, l1] [] M S = some (none, M, S) := go_rt rfl rfl
/-- StripsFromAbove$Reader.wordNumber(I)I -/
theorem g27 (x1 : Int) (a0 : Nat) (M : Mem) (S : Sh) : res 27 [aR a0, aI x1] M S = go 10 27 0 [some (aR a0), some (aI x1), none, none, none, none, none, none] [] M S := res_e0 rfl _ M S
theorem g27_0 (r : Nat) (l0 l2 l3 l4 l5 l6 l7 : Option AV) (x : Int) (M : Mem) (S : Sh) : go r 27 0 [l0, some (aI x), l2, l3, l4, l5, l6, l7] [] M S = go r 27 1 [l0, some (aI x), l2, l3, l4, l5, l6, l7] [aI x] M S := go_nx rfl rfl
theorem g27_1 (r : Nat) (l0 l1 l2 l3 l4 l5 l6 l7 : Option AV) (s0 : AV) (M : Mem) (S : Sh) : go r 27 1 [l0, l1, l2, l3, l4, l5, l6, l7] [s0] M S = go r 27 3 [l0, l1, l2, l3, l4, l5, l6, l7] [aI 6, s0] M S := go_nx rfl rfl
theorem g27_3 (r : Nat) (l0 l1 l2 l3 l4 l5 l6 l7 : Option AV) (x y : Int) (M : Mem) (S : Sh) : go r 27 3 [l0, l1, l2, l3, l4, l5, l6, l7] [aI y, aI x] M S = if x ≤ y then go r 27 8 [l0, l1, l2, l3, l4, l5, l6, l7] [] M S else go r 27 6 [l0, l1, l2, l3, l4, l5, l6, l7] [] M S := go_br rfl rfl rfl rfl rfl
theorem g27_6 (r : Nat) (l0 l1 l2 l3 l4 l5 l6 l7 : Option AV) (M : Mem) (S : Sh) : go r 27 6 [l0, l1, l2, l3, l4, l5, l6, l7] [] M S = go r 27 7 [l0, l1, l2, l3, l4, l5, l6, l7] [aI (-1)] M S := go_nx rfl rfl
theorem g27_7 (r : Nat) (l0 l1 l2 l3 l4 l5 l6 l7 : Option AV) (x : Int) (M : Mem) (S : Sh) : go r 27 7 [l0, l1, l2, l3, l4, l5, l6, l7] [aI x] M S = some (some (aI x), M, S) := go_rt rfl (bnd_t (Or.inl rfl))
theorem g27_8 (r : Nat) (l0 l1 l2 l3 l4 l5 l6 l7 : Option AV) (M : Mem) (S : Sh) : go r 27 8 [l0, l1, l2, l3, l4, l5, l6, l7] [] M S = go r 27 9 [l0, l1, l2, l3, l4, l5, l6, l7] [aI 0] M S := go_nx rfl rfl
theorem g27_9 (r : Nat) (l0 l1 l2 l3 l4 l5 l6 l7 : Option AV) (x : Int) (M : Mem) (S : Sh) : go r 27 9 [l0, l1, l2, l3, l4, l5, l6, l7] [aI x] M S = go r 27 10 [l0, l1, some (aI x), l3, l4, l5, l6, l7] [] M S := go_nx rfl rfl
theorem g27_10 (r : Nat) (l0 l1 l3 l4 l5 l6 l7 : Option AV) (x : Int) (M : Mem) (S : Sh) : go r 27 10 [l0, l1, some (aI x), l3, l4, l5, l6, l7] [] M S = go r 27 11 [l0, l1, some (aI x), l3, l4, l5, l6, l7] [aI x] M S := go_nx rfl rfl
theorem g27_11 (r : Nat) (l0 l1 l2 l3 l4 l5 l6 l7 : Option AV) (s0 : AV) (M : Mem) (S : Sh) : go r 27 11 [l0, l1, l2, l3, l4, l5, l6, l7] [s0] M S = go r 27 13 [l0, l1, l2, l3, l4, l5, l6, l7] [aI 12, s0] M S := go_nx rfl rfl
theorem g27_13 (r : Nat) (l0 l1 l2 l3 l4 l5 l6 l7 : Option AV) (x y : Int) (M : Mem) (S : Sh) : go r 27 13 [l0, l1, l2, l3, l4, l5, l6, l7] [aI y, aI x] M S = if x ≥ y then go r 27 123 [l0, l1, l2, l3, l4, l5, l6, l7] [] M S else go r 27 16 [l0, l1, l2, l3, l4, l5, l6, l7] [] M S := go_br rfl rfl rfl rfl rfl
theorem g27_16 (r : Nat) (l0 l1 l2 l3 l4 l5 l6 l7 : Option AV) (M : Mem) (S : Sh) : go r 27 16 [l0, l1, l2, l3, l4, l5, l6, l7] [] M S = go r 27 17 [l0, l1, l2, l3, l4, l5, l6, l7] [aI 1] M S := go_nx rfl rfl
theorem g27_17 (r : Nat) (l0 l1 l2 l3 l4 l5 l6 l7 : Option AV) (x : Int) (M : Mem) (S : Sh) : go r 27 17 [l0, l1, l2, l3, l4, l5, l6, l7] [aI x] M S = go r 27 18 [l0, l1, l2, some (aI x), l4, l5, l6, l7] [] M S := go_nx rfl rfl
theorem g27_18 (r : Nat) (l0 l1 l2 l3 l4 l5 l6 l7 : Option AV) (M : Mem) (S : Sh) : go r 27 18 [l0, l1, l2, l3, l4, l5, l6, l7] [] M S = go r 27 19 [l0, l1, l2, l3, l4, l5, l6, l7] [aI 0] M S := go_nx rfl rfl
theorem g27_19 (r : Nat) (l0 l1 l2 l3 l4 l5 l6 l7 : Option AV) (x : Int) (M : Mem) (S : Sh) : go r 27 19 [l0, l1, l2, l3, l4, l5, l6, l7] [aI x] M S = go r 27 21 [l0, l1, l2, l3, some (aI x), l5, l6, l7] [] M S := go_nx rfl rfl
theorem g27_21 (r : Nat) (l0 l1 l2 l3 l5 l6 l7 : Option AV) (x : Int) (M : Mem) (S : Sh) : go r 27 21 [l0, l1, l2, l3, some (aI x), l5, l6, l7] [] M S = go r 27 23 [l0, l1, l2, l3, some (aI x), l5, l6, l7] [aI x] M S := go_nx rfl rfl
theorem g27_23 (r : Nat) (l0 l1 l2 l3 l4 l5 l6 l7 : Option AV) (s0 : AV) (M : Mem) (S : Sh) : go r 27 23 [l0, l1, l2, l3, l4, l5, l6, l7] [s0] M S = go r 27 25 [l0, l1, l2, l3, l4, l5, l6, l7] [aI 6, s0] M S := go_nx rfl rfl
theorem g27_25 (r : Nat) (l0 l1 l2 l3 l4 l5 l6 l7 : Option AV) (x y : Int) (M : Mem) (S : Sh) : go r 27 25 [l0, l1, l2, l3, l4, l5, l6, l7] [aI y, aI x] M S = if x ≥ y then go r 27 111 [l0, l1, l2, l3, l4, l5, l6, l7] [] M S else go r 27 28 [l0, l1, l2, l3, l4, l5, l6, l7] [] M S := go_br rfl rfl rfl rfl rfl
theorem g27_28 (r : Nat) (l1 l2 l3 l4 l5 l6 l7 : Option AV) (a : Nat) (M : Mem) (S : Sh) : go r 27 28 [some (aR a), l1, l2, l3, l4, l5, l6, l7] [] M S = go r 27 29 [some (aR a), l1, l2, l3, l4, l5, l6, l7] [aR a] M S := go_nx rfl rfl
theorem g27_29 (r : Nat) (l0 l1 l2 l3 l4 l5 l6 l7 : Option AV) (a : Nat) (M : Mem) (S : Sh) (h : S.1 a = 2) : go r 27 29 [l0, l1, l2, l3, l4, l5, l6, l7] [aR a] M S = go r 27 32 [l0, l1, l2, l3, l4, l5, l6, l7] [aI (M a 4)] M S := go_bnd rfl h rfl
theorem g27_32 (r : Nat) (l0 l1 l2 l3 l5 l6 l7 : Option AV) (s0 : AV) (x : Int) (M : Mem) (S : Sh) : go r 27 32 [l0, l1, l2, l3, some (aI x), l5, l6, l7] [s0] M S = go r 27 34 [l0, l1, l2, l3, some (aI x), l5, l6, l7] [aI x, s0] M S := go_nx rfl rfl
theorem g27_34 (r : Nat) (l0 l1 l2 l3 l4 l5 l6 l7 : Option AV) (x y : Int) (M : Mem) (S : Sh) : go r 27 34 [l0, l1, l2, l3, l4, l5, l6, l7] [aI y, aI x] M S = go r 27 35 [l0, l1, l2, l3, l4, l5, l6, l7] [aI (w32 (x + y))] M S := go_nx rfl rfl
theorem g27_35 (r : Nat) (l0 l1 l2 l3 l4 l5 l6 l7 : Option AV) (x : Int) (M : Mem) (S : Sh) : go r 27 35 [l0, l1, l2, l3, l4, l5, l6, l7] [aI x] M S = go r 27 37 [l0, l1, l2, l3, l4, some (aI x), l6, l7] [] M S := go_nx rfl rfl
theorem g27_37 (r : Nat) (l0 l1 l2 l3 l4 l5 l6 l7 : Option AV) (M : Mem) (S : Sh) : go r 27 37 [l0, l1, l2, l3, l4, l5, l6, l7] [] M S = go r 27 39 [l0, l1, l2, l3, l4, l5, l6, l7] [aI 6] M S := go_nx rfl rfl
theorem g27_39 (r : Nat) (l0 l1 l3 l4 l5 l6 l7 : Option AV) (s0 : AV) (x : Int) (M : Mem) (S : Sh) : go r 27 39 [l0, l1, some (aI x), l3, l4, l5, l6, l7] [s0] M S = go r 27 40 [l0, l1, some (aI x), l3, l4, l5, l6, l7] [aI x, s0] M S := go_nx rfl rfl
theorem g27_40 (r : Nat) (l0 l1 l2 l3 l4 l5 l6 l7 : Option AV) (x y : Int) (M : Mem) (S : Sh) : go r 27 40 [l0, l1, l2, l3, l4, l5, l6, l7] [aI y, aI x] M S = go r 27 41 [l0, l1, l2, l3, l4, l5, l6, l7] [aI (w32 (x * y))] M S := go_nx rfl rfl
theorem g27_41 (r : Nat) (l0 l1 l2 l3 l5 l6 l7 : Option AV) (s0 : AV) (x : Int) (M : Mem) (S : Sh) : go r 27 41 [l0, l1, l2, l3, some (aI x), l5, l6, l7] [s0] M S = go r 27 43 [l0, l1, l2, l3, some (aI x), l5, l6, l7] [aI x, s0] M S := go_nx rfl rfl
theorem g27_43 (r : Nat) (l0 l1 l2 l3 l4 l5 l6 l7 : Option AV) (x y : Int) (M : Mem) (S : Sh) : go r 27 43 [l0, l1, l2, l3, l4, l5, l6, l7] [aI y, aI x] M S = go r 27 44 [l0, l1, l2, l3, l4, l5, l6, l7] [aI (w32 (x + y))] M S := go_nx rfl rfl
theorem g27_44 (r : Nat) (l0 l1 l2 l3 l4 l5 l6 l7 : Option AV) (x : Int) (M : Mem) (S : Sh) : go r 27 44 [l0, l1, l2, l3, l4, l5, l6, l7] [aI x] M S = go r 27 46 [l0, l1, l2, l3, l4, l5, some (aI x), l7] [] M S := go_nx rfl rfl
theorem g27_46 (r : Nat) (l0 l1 l2 l3 l5 l6 l7 : Option AV) (x : Int) (M : Mem) (S : Sh) : go r 27 46 [l0, l1, l2, l3, some (aI x), l5, l6, l7] [] M S = go r 27 48 [l0, l1, l2, l3, some (aI x), l5, l6, l7] [aI x] M S := go_nx rfl rfl
theorem g27_48 (r : Nat) (l0 l2 l3 l4 l5 l6 l7 : Option AV) (s0 : AV) (x : Int) (M : Mem) (S : Sh) : go r 27 48 [l0, some (aI x), l2, l3, l4, l5, l6, l7] [s0] M S = go r 27 49 [l0, some (aI x), l2, l3, l4, l5, l6, l7] [aI x, s0] M S := go_nx rfl rfl
theorem g27_49 (r : Nat) (l0 l1 l2 l3 l4 l5 l6 l7 : Option AV) (x y : Int) (M : Mem) (S : Sh) : go r 27 49 [l0, l1, l2, l3, l4, l5, l6, l7] [aI y, aI x] M S = if x ≥ y then go r 27 77 [l0, l1, l2, l3, l4, l5, l6, l7] [] M S else go r 27 52 [l0, l1, l2, l3, l4, l5, l6, l7] [] M S := go_br rfl rfl rfl rfl rfl
theorem g27_52 (r : Nat) (l0 l1 l2 l3 l4 l6 l7 : Option AV) (x : Int) (M : Mem) (S : Sh) : go r 27 52 [l0, l1, l2, l3, l4, some (aI x), l6, l7] [] M S = go r 27 54 [l0, l1, l2, l3, l4, some (aI x), l6, l7] [aI x] M S := go_nx rfl rfl
theorem g27_54 (r : Nat) (l0 l1 l2 l3 l4 l5 l6 l7 : Option AV) (x : Int) (M : Mem) (S : Sh) : go r 27 54 [l0, l1, l2, l3, l4, l5, l6, l7] [aI x] M S = if x < 0 then go r 27 77 [l0, l1, l2, l3, l4, l5, l6, l7] [] M S else go r 27 57 [l0, l1, l2, l3, l4, l5, l6, l7] [] M S := go_br rfl rfl rfl rfl rfl
theorem g27_57 (r : Nat) (l0 l1 l2 l3 l4 l6 l7 : Option AV) (x : Int) (M : Mem) (S : Sh) : go r 27 57 [l0, l1, l2, l3, l4, some (aI x), l6, l7] [] M S = go r 27 59 [l0, l1, l2, l3, l4, some (aI x), l6, l7] [aI x] M S := go_nx rfl rfl
theorem g27_59 (r : Nat) (l1 l2 l3 l4 l5 l6 l7 : Option AV) (s0 : AV) (a : Nat) (M : Mem) (S : Sh) : go r 27 59 [some (aR a), l1, l2, l3, l4, l5, l6, l7] [s0] M S = go r 27 60 [some (aR a), l1, l2, l3, l4, l5, l6, l7] [aR a, s0] M S := go_nx rfl rfl
theorem g27_60 (r : Nat) (l0 l1 l2 l3 l4 l5 l6 l7 : Option AV) (s0 : AV) (a : Nat) (M : Mem) (S : Sh) (h : S.1 a = 2) : go r 27 60 [l0, l1, l2, l3, l4, l5, l6, l7] [aR a, s0] M S = go r 27 63 [l0, l1, l2, l3, l4, l5, l6, l7] [aO (S.2.2.1 a 0), s0] M S := go_bnd rfl h rfl
theorem g27_63 (r : Nat) (l0 l1 l2 l3 l4 l5 l6 l7 : Option AV) (s0 : AV) (a : Nat) (M : Mem) (S : Sh) (h : 7 ≤ S.1 a ∧ S.1 a ≤ 9) : go r 27 63 [l0, l1, l2, l3, l4, l5, l6, l7] [aR a, s0] M S = go r 27 64 [l0, l1, l2, l3, l4, l5, l6, l7] [aI (S.2.1 a : Nat), s0] M S := go_bnd rfl h rfl
theorem g27_64 (r : Nat) (l0 l1 l2 l3 l4 l5 l6 l7 : Option AV) (x y : Int) (M : Mem) (S : Sh) : go r 27 64 [l0, l1, l2, l3, l4, l5, l6, l7] [aI y, aI x] M S = if x ≥ y then go r 27 77 [l0, l1, l2, l3, l4, l5, l6, l7] [] M S else go r 27 67 [l0, l1, l2, l3, l4, l5, l6, l7] [] M S := go_br rfl rfl rfl rfl rfl
theorem g27_67 (r : Nat) (l1 l2 l3 l4 l5 l6 l7 : Option AV) (a : Nat) (M : Mem) (S : Sh) : go r 27 67 [some (aR a), l1, l2, l3, l4, l5, l6, l7] [] M S = go r 27 68 [some (aR a), l1, l2, l3, l4, l5, l6, l7] [aR a] M S := go_nx rfl rfl
theorem g27_68 (r : Nat) (l0 l1 l2 l3 l4 l5 l6 l7 : Option AV) (a : Nat) (M : Mem) (S : Sh) (h : S.1 a = 2) : go r 27 68 [l0, l1, l2, l3, l4, l5, l6, l7] [aR a] M S = go r 27 71 [l0, l1, l2, l3, l4, l5, l6, l7] [aO (S.2.2.1 a 0)] M S := go_bnd rfl h rfl
theorem g27_71 (r : Nat) (l0 l1 l2 l3 l4 l6 l7 : Option AV) (s0 : AV) (x : Int) (M : Mem) (S : Sh) : go r 27 71 [l0, l1, l2, l3, l4, some (aI x), l6, l7] [s0] M S = go r 27 73 [l0, l1, l2, l3, l4, some (aI x), l6, l7] [aI x, s0] M S := go_nx rfl rfl
theorem g27_73 (r : Nat) (l0 l1 l2 l3 l4 l5 l6 l7 : Option AV) (x : Int) (a : Nat) (M : Mem) (S : Sh) (h : S.1 a = 7) (h0 : 0 ≤ x) (h1 : x < S.2.1 a) : go r 27 73 [l0, l1, l2, l3, l4, l5, l6, l7] [aI x, aR a] M S = go r 27 74 [l0, l1, l2, l3, l4, l5, l6, l7] [aI (M a x.toNat)] M S := go_bnd rfl ⟨h, h0, h1⟩ rfl
theorem g27_74 (r : Nat) (l0 l1 l2 l3 l4 l5 l6 l7 : Option AV) (s0 : AV) (M : Mem) (S : Sh) : go r 27 74 [l0, l1, l2, l3, l4, l5, l6, l7] [s0] M S = go r 27 79 [l0, l1, l2, l3, l4, l5, l6, l7] [s0] M S := go_nx rfl rfl
theorem g27_77 (r : Nat) (l0 l1 l2 l3 l4 l5 l6 l7 : Option AV) (M : Mem) (S : Sh) : go r 27 77 [l0, l1, l2, l3, l4, l5, l6, l7] [] M S = go r 27 79 [l0, l1, l2, l3, l4, l5, l6, l7] [aI 32] M S := go_nx rfl rfl
theorem g27_79 (r : Nat) (l0 l1 l2 l3 l4 l5 l6 l7 : Option AV) (x : Int) (M : Mem) (S : Sh) : go r 27 79 [l0, l1, l2, l3, l4, l5, l6, l7] [aI x] M S = go r 27 81 [l0, l1, l2, l3, l4, l5, l6, some (aI x)] [] M S := go_nx rfl rfl
theorem g27_81 (r : Nat) (l0 l1 l2 l3 l4 l5 l7 : Option AV) (x : Int) (M : Mem) (S : Sh) : go r 27 81 [l0, l1, l2, l3, l4, l5, some (aI x), l7] [] M S = go r 27 83 [l0, l1, l2, l3, l4, l5, some (aI x), l7] [aI x] M S := go_nx rfl rfl
theorem g27_83 (r : Nat) (l0 l1 l2 l3 l4 l5 l6 l7 : Option AV) (s0 : AV) (M : Mem) (S : Sh) : go r 27 83 [l0, l1, l2, l3, l4, l5, l6, l7] [s0] M S = go r 27 85 [l0, l1, l2, l3, l4, l5, l6, l7] [aR 4, s0] M S := go_nx rfl rfl
theorem g27_85 (r : Nat) (l0 l1 l2 l3 l4 l5 l6 l7 : Option AV) (s0 : AV) (a : Nat) (M : Mem) (S : Sh) (h : a = 3 ∨ a = 4) : go r 27 85 [l0, l1, l2, l3, l4, l5, l6, l7] [aR a, s0] M S = go r 27 88 [l0, l1, l2, l3, l4, l5, l6, l7] [aI ((am_str a).length : Nat), s0] M S := go_bnd rfl ⟨h, Nat.le_of_ble_eq_true rfl⟩ rfl
theorem g27_88 (r : Nat) (l0 l1 l2 l3 l4 l5 l6 l7 : Option AV) (x y : Int) (M : Mem) (S : Sh) : go r 27 88 [l0, l1, l2, l3, l4, l5, l6, l7] [aI y, aI x] M S = if x ≥ y then go r 27 103 [l0, l1, l2, l3, l4, l5, l6, l7] [] M S else go r 27 91 [l0, l1, l2, l3, l4, l5, l6, l7] [] M S := go_br rfl rfl rfl rfl rfl
theorem g27_91 (r : Nat) (l0 l1 l2 l3 l4 l5 l6 l7 : Option AV) (M : Mem) (S : Sh) : go r 27 91 [l0, l1, l2, l3, l4, l5, l6, l7] [] M S = go r 27 93 [l0, l1, l2, l3, l4, l5, l6, l7] [aR 4] M S := go_nx rfl rfl
theorem g27_93 (r : Nat) (l0 l1 l2 l3 l4 l5 l7 : Option AV) (s0 : AV) (x : Int) (M : Mem) (S : Sh) : go r 27 93 [l0, l1, l2, l3, l4, l5, some (aI x), l7] [s0] M S = go r 27 95 [l0, l1, l2, l3, l4, l5, some (aI x), l7] [aI x, s0] M S := go_nx rfl rfl
theorem g27_95 (r : Nat) (l0 l1 l2 l3 l4 l5 l6 l7 : Option AV) (x v : Int) (a : Nat) (M : Mem) (S : Sh) (h : (am_str a)[x.toNat]? = some v) (h0 : 0 ≤ x) : go r 27 95 [l0, l1, l2, l3, l4, l5, l6, l7] [aI x, aR a] M S = go r 27 98 [l0, l1, l2, l3, l4, l5, l6, l7] [aI v] M S := go_nx rfl (by show (match (am_str a)[x.toNat]? with | some v => bnd (0 ≤ x ∧ ([] : List AV).length ≤ 4) _ | none => none) = _; rw [h]; exact bnd_t ⟨h0, Nat.le_of_ble_eq_true rfl⟩)
theorem g27_98 (r : Nat) (l0 l1 l2 l3 l4 l5 l6 : Option AV) (s0 : AV) (x : Int) (M : Mem) (S : Sh) : go r 27 98 [l0, l1, l2, l3, l4, l5, l6, some (aI x)] [s0] M S = go r 27 100 [l0, l1, l2, l3, l4, l5, l6, some (aI x)] [aI x, s0] M S := go_nx rfl rfl
theorem g27_100 (r : Nat) (l0 l1 l2 l3 l4 l5 l6 l7 : Option AV) (x y : Int) (M : Mem) (S : Sh) : go r 27 100 [l0, l1, l2, l3, l4, l5, l6, l7] [aI y, aI x] M S = if x = y then go r 27 105 [l0, l1, l2, l3, l4, l5, l6, l7] [] M S else go r 27 103 [l0, l1, l2, l3, l4, l5, l6, l7] [] M S := go_br rfl rfl rfl rfl rfl
theorem g27_103 (r : Nat) (l0 l1 l2 l3 l4 l5 l6 l7 : Option AV) (M : Mem) (S : Sh) : go r 27 103 [l0, l1, l2, l3, l4, l5, l6, l7] [] M S = go r 27 104 [l0, l1, l2, l3, l4, l5, l6, l7] [aI 0] M S := go_nx rfl rfl
theorem g27_104 (r : Nat) (l0 l1 l2 l3 l4 l5 l6 l7 : Option AV) (x : Int) (M : Mem) (S : Sh) : go r 27 104 [l0, l1, l2, l3, l4, l5, l6, l7] [aI x] M S = go r 27 105 [l0, l1, l2, some (aI x), l4, l5, l6, l7] [] M S := go_nx rfl rfl
theorem g27_105 (r : Nat) (l0 l1 l2 l3 l5 l6 l7 : Option AV) (x : Int) (M : Mem) (S : Sh) : go r 27 105 [l0, l1, l2, l3, some (aI x), l5, l6, l7] [] M S = go r 27 108 [l0, l1, l2, l3, some (aI (w32 (x + 1))), l5, l6, l7] [] M S := go_nx rfl rfl
theorem g27_108 (r : Nat) (l0 l1 l2 l3 l4 l5 l6 l7 : Option AV) (M : Mem) (S : Sh) : go r 27 108 [l0, l1, l2, l3, l4, l5, l6, l7] [] M S = go r 27 21 [l0, l1, l2, l3, l4, l5, l6, l7] [] M S := go_nx rfl rfl
theorem g27_111 (r : Nat) (l0 l1 l2 l4 l5 l6 l7 : Option AV) (x : Int) (M : Mem) (S : Sh) : go r 27 111 [l0, l1, l2, some (aI x), l4, l5, l6, l7] [] M S = go r 27 112 [l0, l1, l2, some (aI x), l4, l5, l6, l7] [aI x] M S := go_nx rfl rfl
theorem g27_112 (r : Nat) (l0 l1 l2 l3 l4 l5 l6 l7 : Option AV) (x : Int) (M : Mem) (S : Sh) : go r 27 112 [l0, l1, l2, l3, l4, l5, l6, l7] [aI x] M S = if x = 0 then go r 27 117 [l0, l1, l2, l3, l4, l5, l6, l7] [] M S else go r 27 115 [l0, l1, l2, l3, l4, l5, l6, l7] [] M S := go_br rfl rfl rfl rfl rfl
theorem g27_115 (r : Nat) (l0 l1 l3 l4 l5 l6 l7 : Option AV) (x : Int) (M : Mem) (S : Sh) : go r 27 115 [l0, l1, some (aI x), l3, l4, l5, l6, l7] [] M S = go r 27 116 [l0, l1, some (aI x), l3, l4, l5, l6, l7] [aI x] M S := go_nx rfl rfl
set_option maxRecDepth 20000 in
theorem g27_116 (r : Nat) (l0 l1 l2 l3 l4 l5 l6 l7 : Option AV) (x : Int) (M : Mem) (S : Sh) : go r 27 116 [l0, l1, l2, l3, l4, l5, l6, l7] [aI x] M S = some (some (aI x), M, S) := go_rt rfl (bnd_t (Or.inl rfl))
set_option maxRecDepth 20000 in
theorem g27_117 (r : Nat) (l0 l1 l3 l4 l5 l6 l7 : Option AV) (x : Int) (M : Mem) (S : Sh) : go r 27 117 [l0, l1, some (aI x), l3, l4, l5, l6, l7] [] M S = go r 27 120 [l0, l1, some (aI (w32 (x + 1))), l3, l4, l5, l6, l7] [] M S := go_nx rfl rfl
set_option maxRecDepth 20000 in
theorem g27_120 (r : Nat) (l0 l1 l2 l3 l4 l5 l6 l7 : Option AV) (M : Mem) (S : Sh) : go r 27 120 [l0, l1, l2, l3, l4, l5, l6, l7] [] M S = go r 27 10 [l0, l1, l2, l3, l4, l5, l6, l7] [] M S := go_nx rfl rfl
set_option maxRecDepth 20000 in
theorem g27_123 (r : Nat) (l0 l1 l2 l3 l4 l5 l6 l7 : Option AV) (M : Mem) (S : Sh) : go r 27 123 [l0, l1, l2, l3, l4, l5, l6, l7] [] M S = go r 27 124 [l0, l1, l2, l3, l4, l5, l6, l7] [aI (-1)] M S := go_nx rfl rfl
set_option maxRecDepth 20000 in
theorem g27_124 (r : Nat) (l0 l1 l2 l3 l4 l5 l6 l7 : Option AV) (x : Int) (M : Mem) (S : Sh) : go r 27 124 [l0, l1, l2, l3, l4, l5, l6, l7] [aI x] M S = some (some (aI x), M, S) := go_rt rfl (bnd_t (Or.inl rfl))
/-- StripsFromAbove$Reader.readNumber()V -/
theorem g28 (a0 : Nat) (M : Mem) (S : Sh) : res 28 [aR a0] M S = go 11 28 0 [some (aR a0)] [] M S := res_e0 rfl _ M S
theorem g28_0 (r : Nat) (a : Nat) (M : Mem) (S : Sh) : go r 28 0 [some (aR a)] [] M S = go r 28 1 [some (aR a)] [aR a] M S := go_nx rfl rfl
theorem g28_1 (r : Nat) (l0 : Option AV) (s0 : AV) (M : Mem) (S : Sh) : go r 28 1 [l0] [s0] M S = go r 28 2 [l0] [aI 0, s0] M S := go_nx rfl rfl
theorem g28_2 (r : Nat) (l0 : Option AV) (x : Int) (a : Nat) (M : Mem) (S : Sh) (h : S.1 a = 2) : go r 28 2 [l0] [aI x, aR a] M S = go r 28 5 [l0] [] (mset M a 6 x) S := go_bnd rfl ⟨h, fun z => absurd z (by decide)⟩ rfl
theorem g28_5 (r : Nat) (a : Nat) (M : Mem) (S : Sh) : go r 28 5 [some (aR a)] [] M S = go r 28 6 [some (aR a)] [aR a] M S := go_nx rfl rfl
theorem g28_6 (r : Nat) (l0 : Option AV) (a : Nat) (M : Mem) (S : Sh) (h : S.1 a = 2) : go r 28 6 [l0] [aR a] M S = go r 28 9 [l0] [aI (M a 3)] M S := go_bnd rfl h rfl
theorem g28_9 (r : Nat) (s0 : AV) (a : Nat) (M : Mem) (S : Sh) : go r 28 9 [some (aR a)] [s0] M S = go r 28 10 [some (aR a)] [aR a, s0] M S := go_nx rfl rfl
theorem g28_10 (r : Nat) (l0 : Option AV) (s0 : AV) (a : Nat) (M : Mem) (S : Sh) (h : S.1 a = 2) : go r 28 10 [l0] [aR a, s0] M S = go r 28 13 [l0] [aI (M a 1), s0] M S := go_bnd rfl h rfl
theorem g28_13 (r : Nat) (l0 : Option AV) (x y : Int) (M : Mem) (S : Sh) : go r 28 13 [l0] [aI y, aI x] M S = if x ≥ y then go r 28 72 [l0] [] M S else go r 28 16 [l0] [] M S := go_br rfl rfl rfl rfl rfl
theorem g28_16 (r : Nat) (a : Nat) (M : Mem) (S : Sh) : go r 28 16 [some (aR a)] [] M S = go r 28 17 [some (aR a)] [aR a] M S := go_nx rfl rfl
theorem g28_17 (r : Nat) (l0 : Option AV) (a : Nat) (M : Mem) (S : Sh) (h : S.1 a = 2) : go r 28 17 [l0] [aR a] M S = go r 28 20 [l0] [aO (S.2.2.1 a 0)] M S := go_bnd rfl h rfl
theorem g28_20 (r : Nat) (s0 : AV) (a : Nat) (M : Mem) (S : Sh) : go r 28 20 [some (aR a)] [s0] M S = go r 28 21 [some (aR a)] [aR a, s0] M S := go_nx rfl rfl
theorem g28_21 (r : Nat) (l0 : Option AV) (s0 : AV) (a : Nat) (M : Mem) (S : Sh) (h : S.1 a = 2) : go r 28 21 [l0] [aR a, s0] M S = go r 28 24 [l0] [aI (M a 3), s0] M S := go_bnd rfl h rfl
theorem g28_24 (r : Nat) (l0 : Option AV) (x1 : Int) (a0 : Nat) (M : Mem) (S : Sh) (hk : 10 < r) : go r 28 24 [l0] [aI x1, aR a0] M S = cont r 28 27 [l0] [] 1 (res 96 [aR a0, aI x1] M S) := go_c0 (m' := 96) (n := 2) (pc' := 27) (hr := 1) rfl rfl rfl rfl rfl rfl hk rfl
theorem g28_27 (r : Nat) (l0 : Option AV) (x0 : Int) (M : Mem) (S : Sh) (hk : 10 < r) : go r 28 27 [l0] [aI x0] M S = cont r 28 30 [l0] [] 1 (res 31 [aI x0] M S) := go_c0 (m' := 31) (n := 1) (pc' := 30) (hr := 1) rfl rfl rfl rfl rfl rfl hk rfl
theorem g28_30 (r : Nat) (l0 : Option AV) (x : Int) (M : Mem) (S : Sh) : go r 28 30 [l0] [aI x] M S = if x = 0 then go r 28 72 [l0] [] M S else go r 28 33 [l0] [] M S := go_br rfl rfl rfl rfl rfl
theorem g28_33 (r : Nat) (a : Nat) (M : Mem) (S : Sh) : go r 28 33 [some (aR a)] [] M S = go r 28 34 [some (aR a)] [aR a] M S := go_nx rfl rfl
theorem g28_34 (r : Nat) (l0 : Option AV) (s0 : AV) (M : Mem) (S : Sh) : go r 28 34 [l0] [s0] M S = go r 28 36 [l0] [aI 10, s0] M S := go_nx rfl rfl
theorem g28_36 (r : Nat) (s0 s1 : AV) (a : Nat) (M : Mem) (S : Sh) : go r 28 36 [some (aR a)] [s0, s1] M S = go r 28 37 [some (aR a)] [aR a, s0, s1] M S := go_nx rfl rfl
theorem g28_37 (r : Nat) (l0 : Option AV) (s0 s1 : AV) (a : Nat) (M : Mem) (S : Sh) (h : S.1 a = 2) : go r 28 37 [l0] [aR a, s0, s1] M S = go r 28 40 [l0] [aI (M a 6), s0, s1] M S := go_bnd rfl h rfl
theorem g28_40 (r : Nat) (l0 : Option AV) (s0 : AV) (x y : Int) (M : Mem) (S : Sh) : go r 28 40 [l0] [aI y, aI x, s0] M S = go r 28 41 [l0] [aI (w32 (x * y)), s0] M S := go_nx rfl rfl
theorem g28_41 (r : Nat) (s0 s1 : AV) (a : Nat) (M : Mem) (S : Sh) : go r 28 41 [some (aR a)] [s0, s1] M S = go r 28 42 [some (aR a)] [aR a, s0, s1] M S := go_nx rfl rfl
theorem g28_42 (r : Nat) (l0 : Option AV) (s0 s1 : AV) (a : Nat) (M : Mem) (S : Sh) (h : S.1 a = 2) : go r 28 42 [l0] [aR a, s0, s1] M S = go r 28 45 [l0] [aO (S.2.2.1 a 0), s0, s1] M S := go_bnd rfl h rfl
theorem g28_45 (r : Nat) (s0 s1 s2 : AV) (a : Nat) (M : Mem) (S : Sh) : go r 28 45 [some (aR a)] [s0, s1, s2] M S = go r 28 46 [some (aR a)] [aR a, s0, s1, s2] M S := go_nx rfl rfl
theorem g28_46 (r : Nat) (l0 : Option AV) (s0 s1 s2 : AV) (a : Nat) (M : Mem) (S : Sh) (h : S.1 a = 2) : go r 28 46 [l0] [aR a, s0, s1, s2] M S = go r 28 49 [l0] [aI (M a 3), s0, s1, s2] M S := go_bnd rfl h rfl
theorem g28_49 (r : Nat) (l0 : Option AV) (s0 s1 : AV) (x1 : Int) (a0 : Nat) (M : Mem) (S : Sh) (hk : 10 < r) : go r 28 49 [l0] [aI x1, aR a0, s0, s1] M S = cont r 28 52 [l0] [s0, s1] 1 (res 96 [aR a0, aI x1] M S) := go_c0 (m' := 96) (n := 2) (pc' := 52) (hr := 1) rfl rfl rfl rfl rfl rfl hk rfl
theorem g28_52 (r : Nat) (l0 : Option AV) (s0 : AV) (x y : Int) (M : Mem) (S : Sh) : go r 28 52 [l0] [aI y, aI x, s0] M S = go r 28 53 [l0] [aI (w32 (x + y)), s0] M S := go_nx rfl rfl
theorem g28_53 (r : Nat) (l0 : Option AV) (s0 s1 : AV) (M : Mem) (S : Sh) : go r 28 53 [l0] [s0, s1] M S = go r 28 55 [l0] [aI 48, s0, s1] M S := go_nx rfl rfl
theorem g28_55 (r : Nat) (l0 : Option AV) (s0 : AV) (x y : Int) (M : Mem) (S : Sh) : go r 28 55 [l0] [aI y, aI x, s0] M S = go r 28 56 [l0] [aI (w32 (x - y)), s0] M S := go_nx rfl rfl
theorem g28_56 (r : Nat) (l0 : Option AV) (x : Int) (a : Nat) (M : Mem) (S : Sh) (h : S.1 a = 2) : go r 28 56 [l0] [aI x, aR a] M S = go r 28 59 [l0] [] (mset M a 6 x) S := go_bnd rfl ⟨h, fun z => absurd z (by decide)⟩ rfl
theorem g28_59 (r : Nat) (a : Nat) (M : Mem) (S : Sh) : go r 28 59 [some (aR a)] [] M S = go r 28 60 [some (aR a)] [aR a] M S := go_nx rfl rfl
theorem g28_60 (r : Nat) (l0 : Option AV) (a : Nat) (M : Mem) (S : Sh) : go r 28 60 [l0] [aR a] M S = go r 28 61 [l0] [aR a, aR a] M S := go_nx rfl rfl
theorem g28_61 (r : Nat) (l0 : Option AV) (s0 : AV) (a : Nat) (M : Mem) (S : Sh) (h : S.1 a = 2) : go r 28 61 [l0] [aR a, s0] M S = go r 28 64 [l0] [aI (M a 3), s0] M S := go_bnd rfl h rfl
theorem g28_64 (r : Nat) (l0 : Option AV) (s0 s1 : AV) (M : Mem) (S : Sh) : go r 28 64 [l0] [s0, s1] M S = go r 28 65 [l0] [aI 1, s0, s1] M S := go_nx rfl rfl
theorem g28_65 (r : Nat) (l0 : Option AV) (s0 : AV) (x y : Int) (M : Mem) (S : Sh) : go r 28 65 [l0] [aI y, aI x, s0] M S = go r 28 66 [l0] [aI (w32 (x + y)), s0] M S := go_nx rfl rfl
theorem g28_66 (r : Nat) (l0 : Option AV) (x : Int) (a : Nat) (M : Mem) (S : Sh) (h : S.1 a = 2) : go r 28 66 [l0] [aI x, aR a] M S = go r 28 69 [l0] [] (mset M a 3 x) S := go_bnd rfl ⟨h, fun z => absurd z (by decide)⟩ rfl
theorem g28_69 (r : Nat) (l0 : Option AV) (M : Mem) (S : Sh) : go r 28 69 [l0] [] M S = go r 28 5 [l0] [] M S := go_nx rfl rfl
theorem g28_72 (r : Nat) (a : Nat) (M : Mem) (S : Sh) : go r 28 72 [some (aR a)] [] M S = go r 28 73 [some (aR a)] [aR a] M S := go_nx rfl rfl
theorem g28_73 (r : Nat) (s0 : AV) (a : Nat) (M : Mem) (S : Sh) : go r 28 73 [some (aR a)] [s0] M S = go r 28 74 [some (aR a)] [aR a, s0] M S := go_nx rfl rfl
theorem g28_74 (r : Nat) (l0 : Option AV) (s0 : AV) (a : Nat) (M : Mem) (S : Sh) (h : S.1 a = 2) : go r 28 74 [l0] [aR a, s0] M S = go r 28 77 [l0] [aI (M a 3), s0] M S := go_bnd rfl h rfl
theorem g28_77 (r : Nat) (s0 s1 : AV) (a : Nat) (M : Mem) (S : Sh) : go r 28 77 [some (aR a)] [s0, s1] M S = go r 28 78 [some (aR a)] [aR a, s0, s1] M S := go_nx rfl rfl
theorem g28_78 (r : Nat) (l0 : Option AV) (s0 s1 : AV) (a : Nat) (M : Mem) (S : Sh) (h : S.1 a = 2) : go r 28 78 [l0] [aR a, s0, s1] M S = go r 28 81 [l0] [aI (M a 4), s0, s1] M S := go_bnd rfl h rfl
theorem g28_81 (r : Nat) (l0 : Option AV) (s0 : AV) (x y : Int) (M : Mem) (S : Sh) : go r 28 81 [l0] [aI y, aI x, s0] M S = go r 28 82 [l0] [aI (w32 (x - y)), s0] M S := go_nx rfl rfl
theorem g28_82 (r : Nat) (l0 : Option AV) (s0 s1 : AV) (M : Mem) (S : Sh) : go r 28 82 [l0] [s0, s1] M S = go r 28 83 [l0] [aI 4, s0, s1] M S := go_nx rfl rfl
theorem g28_83 (r : Nat) (l0 : Option AV) (s0 : AV) (x y : Int) (M : Mem) (S : Sh) : go r 28 83 [l0] [aI y, aI x, s0] M S = if x ≤ y then go r 28 90 [l0] [s0] M S else go r 28 86 [l0] [s0] M S := go_br rfl rfl rfl rfl rfl
theorem g28_86 (r : Nat) (l0 : Option AV) (s0 : AV) (M : Mem) (S : Sh) : go r 28 86 [l0] [s0] M S = go r 28 87 [l0] [aI 1, s0] M S := go_nx rfl rfl
theorem g28_87 (r : Nat) (l0 : Option AV) (s0 s1 : AV) (M : Mem) (S : Sh) : go r 28 87 [l0] [s0, s1] M S = go r 28 91 [l0] [s0, s1] M S := go_nx rfl rfl
theorem g28_90 (r : Nat) (l0 : Option AV) (s0 : AV) (M : Mem) (S : Sh) : go r 28 90 [l0] [s0] M S = go r 28 91 [l0] [aI 2, s0] M S := go_nx rfl rfl
theorem g28_91 (r : Nat) (l0 : Option AV) (x : Int) (a : Nat) (M : Mem) (S : Sh) (h : S.1 a = 2) : go r 28 91 [l0] [aI x, aR a] M S = go r 28 94 [l0] [] (mset M a 5 x) S := go_bnd rfl ⟨h, fun z => absurd z (by decide)⟩ rfl
theorem g28_94 (r : Nat) (l0 : Option AV) (M : Mem) (S : Sh) : go r 28 94 [l0] [] M S = some (none, M, S) := go_rt rfl rfl
/-- StripsFromAbove$Reader.isBlank(I)Z -/
theorem g29 (x0 : Int) (M : Mem) (S : Sh) : res 29 [aI x0] M S = go 10 29 0 [some (aI x0)] [] M S := res_e0 rfl _ M S
theorem g29_0 (r : Nat) (x : Int) (M : Mem) (S : Sh) : go r 29 0 [some (aI x)] [] M S = go r 29 1 [some (aI x)] [aI x] M S := go_nx rfl rfl
theorem g29_1 (r : Nat) (l0 : Option AV) (s0 : AV) (M : Mem) (S : Sh) : go r 29 1 [l0] [s0] M S = go r 29 3 [l0] [aI 32, s0] M S := go_nx rfl rfl
theorem g29_3 (r : Nat) (l0 : Option AV) (x y : Int) (M : Mem) (S : Sh) : go r 29 3 [l0] [aI y, aI x] M S = if x = y then go r 29 12 [l0] [] M S else go r 29 6 [l0] [] M S := go_br rfl rfl rfl rfl rfl
theorem g29_6 (r : Nat) (x : Int) (M : Mem) (S : Sh) : go r 29 6 [some (aI x)] [] M S = go r 29 7 [some (aI x)] [aI x] M S := go_nx rfl rfl
theorem g29_7 (r : Nat) (l0 : Option AV) (s0 : AV) (M : Mem) (S : Sh) : go r 29 7 [l0] [s0] M S = go r 29 9 [l0] [aI 10, s0] M S := go_nx rfl rfl
theorem g29_9 (r : Nat) (l0 : Option AV) (x y : Int) (M : Mem) (S : Sh) : go r 29 9 [l0] [aI y, aI x] M S = if x ≠ y then go r 29 16 [l0] [] M S else go r 29 12 [l0] [] M S := go_br rfl rfl rfl rfl rfl
theorem g29_12 (r : Nat) (l0 : Option AV) (M : Mem) (S : Sh) : go r 29 12 [l0] [] M S = go r 29 13 [l0] [aI 1] M S := go_nx rfl rfl
theorem g29_13 (r : Nat) (l0 : Option AV) (s0 : AV) (M : Mem) (S : Sh) : go r 29 13 [l0] [s0] M S = go r 29 17 [l0] [s0] M S := go_nx rfl rfl
theorem g29_16 (r : Nat) (l0 : Option AV) (M : Mem) (S : Sh) : go r 29 16 [l0] [] M S = go r 29 17 [l0] [aI 0] M S := go_nx rfl rfl
theorem g29_17 (r : Nat) (l0 : Option AV) (x : Int) (M : Mem) (S : Sh) (h : x = 0 ∨ x = 1) : go r 29 17 [l0] [aI x] M S = some (some (aI x), M, S) := go_rt rfl (bnd_t (Or.inr h))
/-- StripsFromAbove$Reader.isLetter(I)Z -/
theorem g30 (x0 : Int) (M : Mem) (S : Sh) : res 30 [aI x0] M S = go 10 30 0 [some (aI x0)] [] M S := res_e0 rfl _ M S
theorem g30_0 (r : Nat) (x : Int) (M : Mem) (S : Sh) : go r 30 0 [some (aI x)] [] M S = go r 30 1 [some (aI x)] [aI x] M S := go_nx rfl rfl
theorem g30_1 (r : Nat) (l0 : Option AV) (s0 : AV) (M : Mem) (S : Sh) : go r 30 1 [l0] [s0] M S = go r 30 3 [l0] [aI 97, s0] M S := go_nx rfl rfl
theorem g30_3 (r : Nat) (l0 : Option AV) (x y : Int) (M : Mem) (S : Sh) : go r 30 3 [l0] [aI y, aI x] M S = if x < y then go r 30 16 [l0] [] M S else go r 30 6 [l0] [] M S := go_br rfl rfl rfl rfl rfl
theorem g30_6 (r : Nat) (x : Int) (M : Mem) (S : Sh) : go r 30 6 [some (aI x)] [] M S = go r 30 7 [some (aI x)] [aI x] M S := go_nx rfl rfl
theorem g30_7 (r : Nat) (l0 : Option AV) (s0 : AV) (M : Mem) (S : Sh) : go r 30 7 [l0] [s0] M S = go r 30 9 [l0] [aI 122, s0] M S := go_nx rfl rfl
theorem g30_9 (r : Nat) (l0 : Option AV) (x y : Int) (M : Mem) (S : Sh) : go r 30 9 [l0] [aI y, aI x] M S = if x > y then go r 30 16 [l0] [] M S else go r 30 12 [l0] [] M S := go_br rfl rfl rfl rfl rfl
theorem g30_12 (r : Nat) (l0 : Option AV) (M : Mem) (S : Sh) : go r 30 12 [l0] [] M S = go r 30 13 [l0] [aI 1] M S := go_nx rfl rfl
theorem g30_13 (r : Nat) (l0 : Option AV) (s0 : AV) (M : Mem) (S : Sh) : go r 30 13 [l0] [s0] M S = go r 30 17 [l0] [s0] M S := go_nx rfl rfl
theorem g30_16 (r : Nat) (l0 : Option AV) (M : Mem) (S : Sh) : go r 30 16 [l0] [] M S = go r 30 17 [l0] [aI 0] M S := go_nx rfl rfl
theorem g30_17 (r : Nat) (l0 : Option AV) (x : Int) (M : Mem) (S : Sh) (h : x = 0 ∨ x = 1) : go r 30 17 [l0] [aI x] M S = some (some (aI x), M, S) := go_rt rfl (bnd_t (Or.inr h))
/-- StripsFromAbove$Reader.isDigit(I)Z -/
theorem g31 (x0 : Int) (M : Mem) (S : Sh) : res 31 [aI x0] M S = go 10 31 0 [some (aI x0)] [] M S := res_e0 rfl _ M S
theorem g31_0 (r : Nat) (x : Int) (M : Mem) (S : Sh) : go r 31 0 [some (aI x)] [] M S = go r 31 1 [some (aI x)] [aI x] M S := go_nx rfl rfl
theorem g31_1 (r : Nat) (l0 : Option AV) (s0 : AV) (M : Mem) (S : Sh) : go r 31 1 [l0] [s0] M S = go r 31 3 [l0] [aI 48, s0] M S := go_nx rfl rfl
theorem g31_3 (r : Nat) (l0 : Option AV) (x y : Int) (M : Mem) (S : Sh) : go r 31 3 [l0] [aI y, aI x] M S = if x < y then go r 31 16 [l0] [] M S else go r 31 6 [l0] [] M S := go_br rfl rfl rfl rfl rfl
theorem g31_6 (r : Nat) (x : Int) (M : Mem) (S : Sh) : go r 31 6 [some (aI x)] [] M S = go r 31 7 [some (aI x)] [aI x] M S := go_nx rfl rfl
theorem g31_7 (r : Nat) (l0 : Option AV) (s0 : AV) (M : Mem) (S : Sh) : go r 31 7 [l0] [s0] M S = go r 31 9 [l0] [aI 57, s0] M S := go_nx rfl rfl
theorem g31_9 (r : Nat) (l0 : Option AV) (x y : Int) (M : Mem) (S : Sh) : go r 31 9 [l0] [aI y, aI x] M S = if x > y then go r 31 16 [l0] [] M S else go r 31 12 [l0] [] M S := go_br rfl rfl rfl rfl rfl
theorem g31_12 (r : Nat) (l0 : Option AV) (M : Mem) (S : Sh) : go r 31 12 [l0] [] M S = go r 31 13 [l0] [aI 1] M S := go_nx rfl rfl
theorem g31_13 (r : Nat) (l0 : Option AV) (s0 : AV) (M : Mem) (S : Sh) : go r 31 13 [l0] [s0] M S = go r 31 17 [l0] [s0] M S := go_nx rfl rfl
theorem g31_16 (r : Nat) (l0 : Option AV) (M : Mem) (S : Sh) : go r 31 16 [l0] [] M S = go r 31 17 [l0] [aI 0] M S := go_nx rfl rfl
theorem g31_17 (r : Nat) (l0 : Option AV) (x : Int) (M : Mem) (S : Sh) (h : x = 0 ∨ x = 1) : go r 31 17 [l0] [aI x] M S = some (some (aI x), M, S) := go_rt rfl (bnd_t (Or.inr h))
/-- StripsFromAbove$Reader.isSign(I)Z -/
theorem g32 (x0 : Int) (M : Mem) (S : Sh) : res 32 [aI x0] M S = go 10 32 0 [some (aI x0)] [] M S := res_e0 rfl _ M S
theorem g32_0 (r : Nat) (x : Int) (M : Mem) (S : Sh) : go r 32 0 [some (aI x)] [] M S = go r 32 1 [some (aI x)] [aI x] M S := go_nx rfl rfl
theorem g32_1 (r : Nat) (l0 : Option AV) (s0 : AV) (M : Mem) (S : Sh) : go r 32 1 [l0] [s0] M S = go r 32 3 [l0] [aI 40, s0] M S := go_nx rfl rfl
theorem g32_3 (r : Nat) (l0 : Option AV) (x y : Int) (M : Mem) (S : Sh) : go r 32 3 [l0] [aI y, aI x] M S = if x = y then go r 32 48 [l0] [] M S else go r 32 6 [l0] [] M S := go_br rfl rfl rfl rfl rfl
theorem g32_6 (r : Nat) (x : Int) (M : Mem) (S : Sh) : go r 32 6 [some (aI x)] [] M S = go r 32 7 [some (aI x)] [aI x] M S := go_nx rfl rfl
theorem g32_7 (r : Nat) (l0 : Option AV) (s0 : AV) (M : Mem) (S : Sh) : go r 32 7 [l0] [s0] M S = go r 32 9 [l0] [aI 41, s0] M S := go_nx rfl rfl
theorem g32_9 (r : Nat) (l0 : Option AV) (x y : Int) (M : Mem) (S : Sh) : go r 32 9 [l0] [aI y, aI x] M S = if x = y then go r 32 48 [l0] [] M S else go r 32 12 [l0] [] M S := go_br rfl rfl rfl rfl rfl
theorem g32_12 (r : Nat) (x : Int) (M : Mem) (S : Sh) : go r 32 12 [some (aI x)] [] M S = go r 32 13 [some (aI x)] [aI x] M S := go_nx rfl rfl
theorem g32_13 (r : Nat) (l0 : Option AV) (s0 : AV) (M : Mem) (S : Sh) : go r 32 13 [l0] [s0] M S = go r 32 15 [l0] [aI 59, s0] M S := go_nx rfl rfl
theorem g32_15 (r : Nat) (l0 : Option AV) (x y : Int) (M : Mem) (S : Sh) : go r 32 15 [l0] [aI y, aI x] M S = if x = y then go r 32 48 [l0] [] M S else go r 32 18 [l0] [] M S := go_br rfl rfl rfl rfl rfl
theorem g32_18 (r : Nat) (x : Int) (M : Mem) (S : Sh) : go r 32 18 [some (aI x)] [] M S = go r 32 19 [some (aI x)] [aI x] M S := go_nx rfl rfl
theorem g32_19 (r : Nat) (l0 : Option AV) (s0 : AV) (M : Mem) (S : Sh) : go r 32 19 [l0] [s0] M S = go r 32 21 [l0] [aI 43, s0] M S := go_nx rfl rfl
theorem g32_21 (r : Nat) (l0 : Option AV) (x y : Int) (M : Mem) (S : Sh) : go r 32 21 [l0] [aI y, aI x] M S = if x = y then go r 32 48 [l0] [] M S else go r 32 24 [l0] [] M S := go_br rfl rfl rfl rfl rfl
theorem g32_24 (r : Nat) (x : Int) (M : Mem) (S : Sh) : go r 32 24 [some (aI x)] [] M S = go r 32 25 [some (aI x)] [aI x] M S := go_nx rfl rfl
theorem g32_25 (r : Nat) (l0 : Option AV) (s0 : AV) (M : Mem) (S : Sh) : go r 32 25 [l0] [s0] M S = go r 32 27 [l0] [aI 45, s0] M S := go_nx rfl rfl
theorem g32_27 (r : Nat) (l0 : Option AV) (x y : Int) (M : Mem) (S : Sh) : go r 32 27 [l0] [aI y, aI x] M S = if x = y then go r 32 48 [l0] [] M S else go r 32 30 [l0] [] M S := go_br rfl rfl rfl rfl rfl
theorem g32_30 (r : Nat) (x : Int) (M : Mem) (S : Sh) : go r 32 30 [some (aI x)] [] M S = go r 32 31 [some (aI x)] [aI x] M S := go_nx rfl rfl
theorem g32_31 (r : Nat) (l0 : Option AV) (s0 : AV) (M : Mem) (S : Sh) : go r 32 31 [l0] [s0] M S = go r 32 33 [l0] [aI 42, s0] M S := go_nx rfl rfl
theorem g32_33 (r : Nat) (l0 : Option AV) (x y : Int) (M : Mem) (S : Sh) : go r 32 33 [l0] [aI y, aI x] M S = if x = y then go r 32 48 [l0] [] M S else go r 32 36 [l0] [] M S := go_br rfl rfl rfl rfl rfl
theorem g32_36 (r : Nat) (x : Int) (M : Mem) (S : Sh) : go r 32 36 [some (aI x)] [] M S = go r 32 37 [some (aI x)] [aI x] M S := go_nx rfl rfl
theorem g32_37 (r : Nat) (l0 : Option AV) (s0 : AV) (M : Mem) (S : Sh) : go r 32 37 [l0] [s0] M S = go r 32 39 [l0] [aI 60, s0] M S := go_nx rfl rfl
theorem g32_39 (r : Nat) (l0 : Option AV) (x y : Int) (M : Mem) (S : Sh) : go r 32 39 [l0] [aI y, aI x] M S = if x = y then go r 32 48 [l0] [] M S else go r 32 42 [l0] [] M S := go_br rfl rfl rfl rfl rfl
theorem g32_42 (r : Nat) (x : Int) (M : Mem) (S : Sh) : go r 32 42 [some (aI x)] [] M S = go r 32 43 [some (aI x)] [aI x] M S := go_nx rfl rfl
theorem g32_43 (r : Nat) (l0 : Option AV) (s0 : AV) (M : Mem) (S : Sh) : go r 32 43 [l0] [s0] M S = go r 32 45 [l0] [aI 61, s0] M S := go_nx rfl rfl
theorem g32_45 (r : Nat) (l0 : Option AV) (x y : Int) (M : Mem) (S : Sh) : go r 32 45 [l0] [aI y, aI x] M S = if x ≠ y then go r 32 52 [l0] [] M S else go r 32 48 [l0] [] M S := go_br rfl rfl rfl rfl rfl
theorem g32_48 (r : Nat) (l0 : Option AV) (M : Mem) (S : Sh) : go r 32 48 [l0] [] M S = go r 32 49 [l0] [aI 1] M S := go_nx rfl rfl
theorem g32_49 (r : Nat) (l0 : Option AV) (s0 : AV) (M : Mem) (S : Sh) : go r 32 49 [l0] [s0] M S = go r 32 53 [l0] [s0] M S := go_nx rfl rfl
theorem g32_52 (r : Nat) (l0 : Option AV) (M : Mem) (S : Sh) : go r 32 52 [l0] [] M S = go r 32 53 [l0] [aI 0] M S := go_nx rfl rfl
theorem g32_53 (r : Nat) (l0 : Option AV) (x : Int) (M : Mem) (S : Sh) (h : x = 0 ∨ x = 1) : go r 32 53 [l0] [aI x] M S = some (some (aI x), M, S) := go_rt rfl (bnd_t (Or.inr h))
