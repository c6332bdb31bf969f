/-- StripsFromAboveLaw.law([I)Z -/
theorem g179 (a0 : Nat) (M : Mem) (S : Sh) : res 179 [aR a0] M S = go 71 179 0 [some (aR a0), none, none, none] [] M S := res_e0 rfl _ M S
theorem g179_0 (r : Nat) (l0 l1 l2 l3 : Option AV) (M : Mem) (S : Sh) : go r 179 0 [l0, l1, l2, l3] [] M S = go r 179 3 [l0, l1, l2, l3] [aR S.2.2.2.1] (mrow M S.2.2.2.1 (fun _ => 0)) (fset S.1 S.2.2.2.1 5, S.2.1, fset S.2.2.1 S.2.2.2.1 (fun _ => none), S.2.2.2.1 + 1, S.2.2.2.2 + 11) := go_nx rfl rfl
theorem g179_3 (r : Nat) (l0 l1 l2 l3 : Option AV) (a : Nat) (M : Mem) (S : Sh) : go r 179 3 [l0, l1, l2, l3] [aR a] M S = go r 179 4 [l0, l1, l2, l3] [aR a, aR a] M S := go_nx rfl rfl
theorem g179_4 (r : Nat) (l0 l1 l2 l3 : Option AV) (s0 : AV) (a0 : Nat) (M : Mem) (S : Sh) (hk : 70 < r) (h : S.1 a0 = 5) : go r 179 4 [l0, l1, l2, l3] [aR a0, s0] M S = cont r 179 7 [l0, l1, l2, l3] [s0] 0 (res 43 [aR a0] M S) := go_cr0 (m' := 43) (n := 1) (pc' := 7) (hr := 0) rfl rfl rfl h rfl rfl rfl rfl hk rfl
theorem g179_7 (r : Nat) (l0 l1 l2 l3 : Option AV) (a : Nat) (M : Mem) (S : Sh) : go r 179 7 [l0, l1, l2, l3] [aR a] M S = go r 179 8 [l0, some (aR a), l2, l3] [] M S := go_nx rfl rfl
theorem g179_7n (r : Nat) (l0 l1 l2 l3 : Option AV) (M : Mem) (S : Sh) : go r 179 7 [l0, l1, l2, l3] [aN] M S = go r 179 8 [l0, some aN, l2, l3] [] M S := go_nx rfl rfl
theorem g179_8 (r : Nat) (l0 l1 l2 l3 : Option AV) (M : Mem) (S : Sh) : go r 179 8 [l0, l1, l2, l3] [] M S = go r 179 11 [l0, l1, l2, l3] [aR S.2.2.2.1] (mrow M S.2.2.2.1 (fun _ => 0)) (fset S.1 S.2.2.2.1 6, S.2.1, fset S.2.2.1 S.2.2.2.1 (fun _ => none), S.2.2.2.1 + 1, S.2.2.2.2 + 47) := go_nx rfl rfl
theorem g179_11 (r : Nat) (l0 l1 l2 l3 : Option AV) (a : Nat) (M : Mem) (S : Sh) : go r 179 11 [l0, l1, l2, l3] [aR a] M S = go r 179 12 [l0, l1, l2, l3] [aR a, aR a] M S := go_nx rfl rfl
theorem g179_12 (r : Nat) (l0 l1 l2 l3 : Option AV) (s0 : AV) (a0 : Nat) (M : Mem) (S : Sh) (hk : 15 < r) (h : S.1 a0 = 6) : go r 179 12 [l0, l1, l2, l3] [aR a0, s0] M S = cont r 179 15 [l0, l1, l2, l3] [s0] 0 (res 105 [aR a0] M S) := go_cr0 (m' := 105) (n := 1) (pc' := 15) (hr := 0) rfl rfl rfl h rfl rfl rfl rfl hk rfl
theorem g179_15 (r : Nat) (l0 l1 l2 l3 : Option AV) (a : Nat) (M : Mem) (S : Sh) : go r 179 15 [l0, l1, l2, l3] [aR a] M S = go r 179 16 [l0, l1, some (aR a), l3] [] M S := go_nx rfl rfl
theorem g179_15n (r : Nat) (l0 l1 l2 l3 : Option AV) (M : Mem) (S : Sh) : go r 179 15 [l0, l1, l2, l3] [aN] M S = go r 179 16 [l0, l1, some aN, l3] [] M S := go_nx rfl rfl
theorem g179_16 (r : Nat) (l0 l1 l2 l3 : Option AV) (M : Mem) (S : Sh) : go r 179 16 [l0, l1, l2, l3] [] M S = go r 179 17 [l0, l1, l2, l3] [aI 0] M S := go_nx rfl rfl
theorem g179_17 (r : Nat) (l0 l1 l2 l3 : Option AV) (x : Int) (M : Mem) (S : Sh) : go r 179 17 [l0, l1, l2, l3] [aI x] M S = go r 179 18 [l0, l1, l2, some (aI x)] [] M S := go_nx rfl rfl
theorem g179_18 (r : Nat) (l0 l1 l2 : Option AV) (x : Int) (M : Mem) (S : Sh) : go r 179 18 [l0, l1, l2, some (aI x)] [] M S = go r 179 19 [l0, l1, l2, some (aI x)] [aI x] M S := go_nx rfl rfl
theorem g179_19 (r : Nat) (l1 l2 l3 : Option AV) (s0 : AV) (a : Nat) (M : Mem) (S : Sh) : go r 179 19 [some (aR a), l1, l2, l3] [s0] M S = go r 179 20 [some (aR a), l1, l2, l3] [aR a, s0] M S := go_nx rfl rfl
theorem g179_19n (r : Nat) (l1 l2 l3 : Option AV) (s0 : AV) (M : Mem) (S : Sh) : go r 179 19 [some aN, l1, l2, l3] [s0] M S = go r 179 20 [some aN, l1, l2, l3] [aN, s0] M S := go_nx rfl rfl
theorem g179_20 (r : Nat) (l0 l1 l2 l3 : Option AV) (s0 : AV) (a : Nat) (M : Mem) (S : Sh) (h : 7 ≤ S.1 a ∧ S.1 a ≤ 9) : go r 179 20 [l0, l1, l2, l3] [aR a, s0] M S = go r 179 21 [l0, l1, l2, l3] [aI (S.2.1 a : Nat), s0] M S := go_bnd rfl h rfl
theorem g179_21 (r : Nat) (l0 l1 l2 l3 : Option AV) (s0 s1 : AV) (M : Mem) (S : Sh) : go r 179 21 [l0, l1, l2, l3] [s0, s1] M S = go r 179 23 [l0, l1, l2, l3] [aI 7, s0, s1] M S := go_nx rfl rfl
theorem g179_23 (r : Nat) (l0 l1 l2 l3 : Option AV) (s0 : AV) (x y : Int) (M : Mem) (S : Sh) : go r 179 23 [l0, l1, l2, l3] [aI y, aI x, s0] M S = go r 179 24 [l0, l1, l2, l3] [aI (w32 (x - y)), s0] M S := go_nx rfl rfl
theorem g179_24 (r : Nat) (l0 l1 l2 l3 : Option AV) (x y : Int) (M : Mem) (S : Sh) : go r 179 24 [l0, l1, l2, l3] [aI y, aI x] M S = if x > y then go r 179 1520 [l0, l1, l2, l3] [] M S else go r 179 27 [l0, l1, l2, l3] [] M S := go_br rfl rfl rfl rfl rfl
theorem g179_27 (r : Nat) (l1 l2 l3 : Option AV) (a : Nat) (M : Mem) (S : Sh) : go r 179 27 [some (aR a), l1, l2, l3] [] M S = go r 179 28 [some (aR a), l1, l2, l3] [aR a] M S := go_nx rfl rfl
theorem g179_27n (r : Nat) (l1 l2 l3 : Option AV) (M : Mem) (S : Sh) : go r 179 27 [some aN, l1, l2, l3] [] M S = go r 179 28 [some aN, l1, l2, l3] [aN] M S := go_nx rfl rfl
theorem g179_28 (r : Nat) (l0 l1 l2 : Option AV) (s0 : AV) (x : Int) (M : Mem) (S : Sh) : go r 179 28 [l0, l1, l2, some (aI x)] [s0] M S = go r 179 29 [l0, l1, l2, some (aI x)] [aI x, s0] M S := go_nx rfl rfl
theorem g179_29 (r : Nat) (l0 l1 l2 l3 : Option AV) (x : Int) (a : Nat) (M : Mem) (S : Sh) (h : S.1 a = 7) (h0 : 0 ≤ x) (h1 : x < S.2.1 a) : go r 179 29 [l0, l1, l2, l3] [aI x, aR a] M S = go r 179 30 [l0, l1, l2, l3] [aI (M a x.toNat)] M S := go_bnd rfl ⟨h, h0, h1⟩ rfl
theorem g179_30 (r : Nat) (l0 l1 l2 l3 : Option AV) (s0 : AV) (M : Mem) (S : Sh) : go r 179 30 [l0, l1, l2, l3] [s0] M S = go r 179 32 [l0, l1, l2, l3] [aI 63, s0] M S := go_nx rfl rfl
theorem g179_32 (r : Nat) (l0 l1 l2 l3 : Option AV) (x y : Int) (M : Mem) (S : Sh) : go r 179 32 [l0, l1, l2, l3] [aI y, aI x] M S = go r 179 33 [l0, l1, l2, l3] [aI (and32 x y)] M S := go_nx rfl rfl
theorem g179_33c0 (r : Nat) (l0 l1 l2 l3 : Option AV) (M : Mem) (S : Sh) : go r 179 33 [l0, l1, l2, l3] [aI 0] M S = go r 179 204 [l0, l1, l2, l3] [] M S := go_nx rfl rfl
theorem g179_33c1 (r : Nat) (l0 l1 l2 l3 : Option AV) (M : Mem) (S : Sh) : go r 179 33 [l0, l1, l2, l3] [aI 1] M S = go r 179 227 [l0, l1, l2, l3] [] M S := go_nx rfl rfl
theorem g179_33c2 (r : Nat) (l0 l1 l2 l3 : Option AV) (M : Mem) (S : Sh) : go r 179 33 [l0, l1, l2, l3] [aI 2] M S = go r 179 260 [l0, l1, l2, l3] [] M S := go_nx rfl rfl
theorem g179_33c3 (r : Nat) (l0 l1 l2 l3 : Option AV) (M : Mem) (S : Sh) : go r 179 33 [l0, l1, l2, l3] [aI 3] M S = go r 179 303 [l0, l1, l2, l3] [] M S := go_nx rfl rfl
theorem g179_33c4 (r : Nat) (l0 l1 l2 l3 : Option AV) (M : Mem) (S : Sh) : go r 179 33 [l0, l1, l2, l3] [aI 4] M S = go r 179 336 [l0, l1, l2, l3] [] M S := go_nx rfl rfl
theorem g179_33c5 (r : Nat) (l0 l1 l2 l3 : Option AV) (M : Mem) (S : Sh) : go r 179 33 [l0, l1, l2, l3] [aI 5] M S = go r 179 411 [l0, l1, l2, l3] [] M S := go_nx rfl rfl
theorem g179_33c6 (r : Nat) (l0 l1 l2 l3 : Option AV) (M : Mem) (S : Sh) : go r 179 33 [l0, l1, l2, l3] [aI 6] M S = go r 179 424 [l0, l1, l2, l3] [] M S := go_nx rfl rfl
theorem g179_33c7 (r : Nat) (l0 l1 l2 l3 : Option AV) (M : Mem) (S : Sh) : go r 179 33 [l0, l1, l2, l3] [aI 7] M S = go r 179 447 [l0, l1, l2, l3] [] M S := go_nx rfl rfl
theorem g179_33c8 (r : Nat) (l0 l1 l2 l3 : Option AV) (M : Mem) (S : Sh) : go r 179 33 [l0, l1, l2, l3] [aI 8] M S = go r 179 500 [l0, l1, l2, l3] [] M S := go_nx rfl rfl
theorem g179_33c9 (r : Nat) (l0 l1 l2 l3 : Option AV) (M : Mem) (S : Sh) : go r 179 33 [l0, l1, l2, l3] [aI 9] M S = go r 179 533 [l0, l1, l2, l3] [] M S := go_nx rfl rfl
theorem g179_33c10 (r : Nat) (l0 l1 l2 l3 : Option AV) (M : Mem) (S : Sh) : go r 179 33 [l0, l1, l2, l3] [aI 10] M S = go r 179 576 [l0, l1, l2, l3] [] M S := go_nx rfl rfl
theorem g179_33c11 (r : Nat) (l0 l1 l2 l3 : Option AV) (M : Mem) (S : Sh) : go r 179 33 [l0, l1, l2, l3] [aI 11] M S = go r 179 609 [l0, l1, l2, l3] [] M S := go_nx rfl rfl
theorem g179_33c12 (r : Nat) (l0 l1 l2 l3 : Option AV) (M : Mem) (S : Sh) : go r 179 33 [l0, l1, l2, l3] [aI 12] M S = go r 179 642 [l0, l1, l2, l3] [] M S := go_nx rfl rfl
theorem g179_33c13 (r : Nat) (l0 l1 l2 l3 : Option AV) (M : Mem) (S : Sh) : go r 179 33 [l0, l1, l2, l3] [aI 13] M S = go r 179 665 [l0, l1, l2, l3] [] M S := go_nx rfl rfl
theorem g179_33c14 (r : Nat) (l0 l1 l2 l3 : Option AV) (M : Mem) (S : Sh) : go r 179 33 [l0, l1, l2, l3] [aI 14] M S = go r 179 688 [l0, l1, l2, l3] [] M S := go_nx rfl rfl
theorem g179_33c15 (r : Nat) (l0 l1 l2 l3 : Option AV) (M : Mem) (S : Sh) : go r 179 33 [l0, l1, l2, l3] [aI 15] M S = go r 179 711 [l0, l1, l2, l3] [] M S := go_nx rfl rfl
theorem g179_33c16 (r : Nat) (l0 l1 l2 l3 : Option AV) (M : Mem) (S : Sh) : go r 179 33 [l0, l1, l2, l3] [aI 16] M S = go r 179 734 [l0, l1, l2, l3] [] M S := go_nx rfl rfl
theorem g179_33c17 (r : Nat) (l0 l1 l2 l3 : Option AV) (M : Mem) (S : Sh) : go r 179 33 [l0, l1, l2, l3] [aI 17] M S = go r 179 757 [l0, l1, l2, l3] [] M S := go_nx rfl rfl
theorem g179_33c18 (r : Nat) (l0 l1 l2 l3 : Option AV) (M : Mem) (S : Sh) : go r 179 33 [l0, l1, l2, l3] [aI 18] M S = go r 179 780 [l0, l1, l2, l3] [] M S := go_nx rfl rfl
theorem g179_33c19 (r : Nat) (l0 l1 l2 l3 : Option AV) (M : Mem) (S : Sh) : go r 179 33 [l0, l1, l2, l3] [aI 19] M S = go r 179 803 [l0, l1, l2, l3] [] M S := go_nx rfl rfl
theorem g179_33c20 (r : Nat) (l0 l1 l2 l3 : Option AV) (M : Mem) (S : Sh) : go r 179 33 [l0, l1, l2, l3] [aI 20] M S = go r 179 856 [l0, l1, l2, l3] [] M S := go_nx rfl rfl
theorem g179_33c21 (r : Nat) (l0 l1 l2 l3 : Option AV) (M : Mem) (S : Sh) : go r 179 33 [l0, l1, l2, l3] [aI 21] M S = go r 179 889 [l0, l1, l2, l3] [] M S := go_nx rfl rfl
theorem g179_33c22 (r : Nat) (l0 l1 l2 l3 : Option AV) (M : Mem) (S : Sh) : go r 179 33 [l0, l1, l2, l3] [aI 22] M S = go r 179 912 [l0, l1, l2, l3] [] M S := go_nx rfl rfl
theorem g179_33c23 (r : Nat) (l0 l1 l2 l3 : Option AV) (M : Mem) (S : Sh) : go r 179 33 [l0, l1, l2, l3] [aI 23] M S = go r 179 935 [l0, l1, l2, l3] [] M S := go_nx rfl rfl
theorem g179_33c24 (r : Nat) (l0 l1 l2 l3 : Option AV) (M : Mem) (S : Sh) : go r 179 33 [l0, l1, l2, l3] [aI 24] M S = go r 179 958 [l0, l1, l2, l3] [] M S := go_nx rfl rfl
theorem g179_33c25 (r : Nat) (l0 l1 l2 l3 : Option AV) (M : Mem) (S : Sh) : go r 179 33 [l0, l1, l2, l3] [aI 25] M S = go r 179 981 [l0, l1, l2, l3] [] M S := go_nx rfl rfl
theorem g179_33c26 (r : Nat) (l0 l1 l2 l3 : Option AV) (M : Mem) (S : Sh) : go r 179 33 [l0, l1, l2, l3] [aI 26] M S = go r 179 1014 [l0, l1, l2, l3] [] M S := go_nx rfl rfl
theorem g179_33c27 (r : Nat) (l0 l1 l2 l3 : Option AV) (M : Mem) (S : Sh) : go r 179 33 [l0, l1, l2, l3] [aI 27] M S = go r 179 1047 [l0, l1, l2, l3] [] M S := go_nx rfl rfl
theorem g179_33c28 (r : Nat) (l0 l1 l2 l3 : Option AV) (M : Mem) (S : Sh) : go r 179 33 [l0, l1, l2, l3] [aI 28] M S = go r 179 1090 [l0, l1, l2, l3] [] M S := go_nx rfl rfl
theorem g179_33c29 (r : Nat) (l0 l1 l2 l3 : Option AV) (M : Mem) (S : Sh) : go r 179 33 [l0, l1, l2, l3] [aI 29] M S = go r 179 1123 [l0, l1, l2, l3] [] M S := go_nx rfl rfl
theorem g179_33c30 (r : Nat) (l0 l1 l2 l3 : Option AV) (M : Mem) (S : Sh) : go r 179 33 [l0, l1, l2, l3] [aI 30] M S = go r 179 1156 [l0, l1, l2, l3] [] M S := go_nx rfl rfl
theorem g179_33c31 (r : Nat) (l0 l1 l2 l3 : Option AV) (M : Mem) (S : Sh) : go r 179 33 [l0, l1, l2, l3] [aI 31] M S = go r 179 1189 [l0, l1, l2, l3] [] M S := go_nx rfl rfl
theorem g179_33c32 (r : Nat) (l0 l1 l2 l3 : Option AV) (M : Mem) (S : Sh) : go r 179 33 [l0, l1, l2, l3] [aI 32] M S = go r 179 1253 [l0, l1, l2, l3] [] M S := go_nx rfl rfl
theorem g179_33c33 (r : Nat) (l0 l1 l2 l3 : Option AV) (M : Mem) (S : Sh) : go r 179 33 [l0, l1, l2, l3] [aI 33] M S = go r 179 1266 [l0, l1, l2, l3] [] M S := go_nx rfl rfl
theorem g179_33c34 (r : Nat) (l0 l1 l2 l3 : Option AV) (M : Mem) (S : Sh) : go r 179 33 [l0, l1, l2, l3] [aI 34] M S = go r 179 1279 [l0, l1, l2, l3] [] M S := go_nx rfl rfl
theorem g179_33c35 (r : Nat) (l0 l1 l2 l3 : Option AV) (M : Mem) (S : Sh) : go r 179 33 [l0, l1, l2, l3] [aI 35] M S = go r 179 1322 [l0, l1, l2, l3] [] M S := go_nx rfl rfl
theorem g179_33c36 (r : Nat) (l0 l1 l2 l3 : Option AV) (M : Mem) (S : Sh) : go r 179 33 [l0, l1, l2, l3] [aI 36] M S = go r 179 1365 [l0, l1, l2, l3] [] M S := go_nx rfl rfl
theorem g179_33c37 (r : Nat) (l0 l1 l2 l3 : Option AV) (M : Mem) (S : Sh) : go r 179 33 [l0, l1, l2, l3] [aI 37] M S = go r 179 1428 [l0, l1, l2, l3] [] M S := go_nx rfl rfl
theorem g179_33c38 (r : Nat) (l0 l1 l2 l3 : Option AV) (M : Mem) (S : Sh) : go r 179 33 [l0, l1, l2, l3] [aI 38] M S = go r 179 1481 [l0, l1, l2, l3] [] M S := go_nx rfl rfl
theorem g179_33d (r : Nat) (l0 l1 l2 l3 : Option AV) (x : Int) (M : Mem) (S : Sh) (h : x < 0 ∨ 38 < x) : go r 179 33 [l0, l1, l2, l3] [aI x] M S = go r 179 1514 [l0, l1, l2, l3] [] M S := go_nx rfl (if_pos h)
theorem g179_204 (r : Nat) (l0 l2 l3 : Option AV) (a : Nat) (M : Mem) (S : Sh) : go r 179 204 [l0, some (aR a), l2, l3] [] M S = go r 179 205 [l0, some (aR a), l2, l3] [aR a] M S := go_nx rfl rfl
theorem g179_204n (r : Nat) (l0 l2 l3 : Option AV) (M : Mem) (S : Sh) : go r 179 204 [l0, some aN, l2, l3] [] M S = go r 179 205 [l0, some aN, l2, l3] [aN] M S := go_nx rfl rfl
theorem g179_205 (r : Nat) (l1 l2 l3 : Option AV) (s0 : AV) (a : Nat) (M : Mem) (S : Sh) : go r 179 205 [some (aR a), l1, l2, l3] [s0] M S = go r 179 206 [some (aR a), l1, l2, l3] [aR a, s0] M S := go_nx rfl rfl
theorem g179_205n (r : Nat) (l1 l2 l3 : Option AV) (s0 : AV) (M : Mem) (S : Sh) : go r 179 205 [some aN, l1, l2, l3] [s0] M S = go r 179 206 [some aN, l1, l2, l3] [aN, s0] M S := go_nx rfl rfl
theorem g179_206 (r : Nat) (l0 l1 l2 : Option AV) (s0 s1 : AV) (x : Int) (M : Mem) (S : Sh) : go r 179 206 [l0, l1, l2, some (aI x)] [s0, s1] M S = go r 179 207 [l0, l1, l2, some (aI x)] [aI x, s0, s1] M S := go_nx rfl rfl
theorem g179_207 (r : Nat) (l0 l1 l2 l3 : Option AV) (s0 s1 s2 : AV) (M : Mem) (S : Sh) : go r 179 207 [l0, l1, l2, l3] [s0, s1, s2] M S = go r 179 208 [l0, l1, l2, l3] [aI 1, s0, s1, s2] M S := go_nx rfl rfl
theorem g179_208 (r : Nat) (l0 l1 l2 l3 : Option AV) (s0 s1 : AV) (x y : Int) (M : Mem) (S : Sh) : go r 179 208 [l0, l1, l2, l3] [aI y, aI x, s0, s1] M S = go r 179 209 [l0, l1, l2, l3] [aI (w32 (x + y)), s0, s1] M S := go_nx rfl rfl
theorem g179_209 (r : Nat) (l0 l1 l2 l3 : Option AV) (s0 : AV) (x : Int) (a : Nat) (M : Mem) (S : Sh) (h : S.1 a = 7) (h0 : 0 ≤ x) (h1 : x < S.2.1 a) : go r 179 209 [l0, l1, l2, l3] [aI x, aR a, s0] M S = go r 179 210 [l0, l1, l2, l3] [aI (M a x.toNat), s0] M S := go_bnd rfl ⟨h, h0, h1⟩ rfl
theorem g179_210 (r : Nat) (l0 l1 l2 l3 : Option AV) (x1 : Int) (a0 : Nat) (M : Mem) (S : Sh) (hk : 10 < r) (h : S.1 a0 = 5) : go r 179 210 [l0, l1, l2, l3] [aI x1, aR a0] M S = cont r 179 213 [l0, l1, l2, l3] [] 1 (res 45 [aR a0, aI x1] M S) := go_cr0 (m' := 45) (n := 2) (pc' := 213) (hr := 1) rfl rfl rfl h rfl rfl rfl rfl hk rfl
theorem g179_213 (r : Nat) (l0 l1 l3 : Option AV) (s0 : AV) (a : Nat) (M : Mem) (S : Sh) : go r 179 213 [l0, l1, some (aR a), l3] [s0] M S = go r 179 214 [l0, l1, some (aR a), l3] [aR a, s0] M S := go_nx rfl rfl
theorem g179_213n (r : Nat) (l0 l1 l3 : Option AV) (s0 : AV) (M : Mem) (S : Sh) : go r 179 213 [l0, l1, some aN, l3] [s0] M S = go r 179 214 [l0, l1, some aN, l3] [aN, s0] M S := go_nx rfl rfl
theorem g179_214 (r : Nat) (l1 l2 l3 : Option AV) (s0 s1 : AV) (a : Nat) (M : Mem) (S : Sh) : go r 179 214 [some (aR a), l1, l2, l3] [s0, s1] M S = go r 179 215 [some (aR a), l1, l2, l3] [aR a, s0, s1] M S := go_nx rfl rfl
theorem g179_214n (r : Nat) (l1 l2 l3 : Option AV) (s0 s1 : AV) (M : Mem) (S : Sh) : go r 179 214 [some aN, l1, l2, l3] [s0, s1] M S = go r 179 215 [some aN, l1, l2, l3] [aN, s0, s1] M S := go_nx rfl rfl
theorem g179_215 (r : Nat) (l0 l1 l2 : Option AV) (s0 s1 s2 : AV) (x : Int) (M : Mem) (S : Sh) : go r 179 215 [l0, l1, l2, some (aI x)] [s0, s1, s2] M S = go r 179 216 [l0, l1, l2, some (aI x)] [aI x, s0, s1, s2] M S := go_nx rfl rfl
theorem g179_216 (r : Nat) (l0 l1 l2 l3 : Option AV) (s0 s1 s2 s3 : AV) (M : Mem) (S : Sh) : go r 179 216 [l0, l1, l2, l3] [s0, s1, s2, s3] M S = go r 179 217 [l0, l1, l2, l3] [aI 1, s0, s1, s2, s3] M S := go_nx rfl rfl
theorem g179_217 (r : Nat) (l0 l1 l2 l3 : Option AV) (s0 s1 s2 : AV) (x y : Int) (M : Mem) (S : Sh) : go r 179 217 [l0, l1, l2, l3] [aI y, aI x, s0, s1, s2] M S = go r 179 218 [l0, l1, l2, l3] [aI (w32 (x + y)), s0, s1, s2] M S := go_nx rfl rfl
theorem g179_218 (r : Nat) (l0 l1 l2 l3 : Option AV) (s0 s1 : AV) (x : Int) (a : Nat) (M : Mem) (S : Sh) (h : S.1 a = 7) (h0 : 0 ≤ x) (h1 : x < S.2.1 a) : go r 179 218 [l0, l1, l2, l3] [aI x, aR a, s0, s1] M S = go r 179 219 [l0, l1, l2, l3] [aI (M a x.toNat), s0, s1] M S := go_bnd rfl ⟨h, h0, h1⟩ rfl
theorem g179_219 (r : Nat) (l0 l1 l2 l3 : Option AV) (s0 : AV) (x1 : Int) (a0 : Nat) (M : Mem) (S : Sh) (hk : 10 < r) (h : S.1 a0 = 6) : go r 179 219 [l0, l1, l2, l3] [aI x1, aR a0, s0] M S = cont r 179 222 [l0, l1, l2, l3] [s0] 1 (res 110 [aR a0, aI x1] M S) := go_cr0 (m' := 110) (n := 2) (pc' := 222) (hr := 1) rfl rfl rfl h rfl rfl rfl rfl hk rfl
theorem g179_222 (r : Nat) (l0 l1 l2 l3 : Option AV) (x y : Int) (M : Mem) (S : Sh) : go r 179 222 [l0, l1, l2, l3] [aI y, aI x] M S = if x = y then go r 179 1514 [l0, l1, l2, l3] [] M S else go r 179 225 [l0, l1, l2, l3] [] M S := go_br rfl rfl rfl rfl rfl
theorem g179_225 (r : Nat) (l0 l1 l2 l3 : Option AV) (M : Mem) (S : Sh) : go r 179 225 [l0, l1, l2, l3] [] M S = go r 179 226 [l0, l1, l2, l3] [aI 0] M S := go_nx rfl rfl
theorem g179_226 (r : Nat) (l0 l1 l2 l3 : Option AV) (x : Int) (M : Mem) (S : Sh) (h : x = 0 ∨ x = 1) : go r 179 226 [l0, l1, l2, l3] [aI x] M S = some (some (aI x), M, S) := go_rt rfl (bnd_t (Or.inr h))
theorem g179_227 (r : Nat) (l0 l2 l3 : Option AV) (a : Nat) (M : Mem) (S : Sh) : go r 179 227 [l0, some (aR a), l2, l3] [] M S = go r 179 228 [l0, some (aR a), l2, l3] [aR a] M S := go_nx rfl rfl
theorem g179_227n (r : Nat) (l0 l2 l3 : Option AV) (M : Mem) (S : Sh) : go r 179 227 [l0, some aN, l2, l3] [] M S = go r 179 228 [l0, some aN, l2, l3] [aN] M S := go_nx rfl rfl
theorem g179_228 (r : Nat) (l1 l2 l3 : Option AV) (s0 : AV) (a : Nat) (M : Mem) (S : Sh) : go r 179 228 [some (aR a), l1, l2, l3] [s0] M S = go r 179 229 [some (aR a), l1, l2, l3] [aR a, s0] M S := go_nx rfl rfl
theorem g179_228n (r : Nat) (l1 l2 l3 : Option AV) (s0 : AV) (M : Mem) (S : Sh) : go r 179 228 [some aN, l1, l2, l3] [s0] M S = go r 179 229 [some aN, l1, l2, l3] [aN, s0] M S := go_nx rfl rfl
theorem g179_229 (r : Nat) (l0 l1 l2 : Option AV) (s0 s1 : AV) (x : Int) (M : Mem) (S : Sh) : go r 179 229 [l0, l1, l2, some (aI x)] [s0, s1] M S = go r 179 230 [l0, l1, l2, some (aI x)] [aI x, s0, s1] M S := go_nx rfl rfl
theorem g179_230 (r : Nat) (l0 l1 l2 l3 : Option AV) (s0 s1 s2 : AV) (M : Mem) (S : Sh) : go r 179 230 [l0, l1, l2, l3] [s0, s1, s2] M S = go r 179 231 [l0, l1, l2, l3] [aI 1, s0, s1, s2] M S := go_nx rfl rfl
theorem g179_231 (r : Nat) (l0 l1 l2 l3 : Option AV) (s0 s1 : AV) (x y : Int) (M : Mem) (S : Sh) : go r 179 231 [l0, l1, l2, l3] [aI y, aI x, s0, s1] M S = go r 179 232 [l0, l1, l2, l3] [aI (w32 (x + y)), s0, s1] M S := go_nx rfl rfl
theorem g179_232 (r : Nat) (l0 l1 l2 l3 : Option AV) (s0 : AV) (x : Int) (a : Nat) (M : Mem) (S : Sh) (h : S.1 a = 7) (h0 : 0 ≤ x) (h1 : x < S.2.1 a) : go r 179 232 [l0, l1, l2, l3] [aI x, aR a, s0] M S = go r 179 233 [l0, l1, l2, l3] [aI (M a x.toNat), s0] M S := go_bnd rfl ⟨h, h0, h1⟩ rfl
theorem g179_233 (r : Nat) (l1 l2 l3 : Option AV) (s0 s1 : AV) (a : Nat) (M : Mem) (S : Sh) : go r 179 233 [some (aR a), l1, l2, l3] [s0, s1] M S = go r 179 234 [some (aR a), l1, l2, l3] [aR a, s0, s1] M S := go_nx rfl rfl
theorem g179_233n (r : Nat) (l1 l2 l3 : Option AV) (s0 s1 : AV) (M : Mem) (S : Sh) : go r 179 233 [some aN, l1, l2, l3] [s0, s1] M S = go r 179 234 [some aN, l1, l2, l3] [aN, s0, s1] M S := go_nx rfl rfl
theorem g179_234 (r : Nat) (l0 l1 l2 : Option AV) (s0 s1 s2 : AV) (x : Int) (M : Mem) (S : Sh) : go r 179 234 [l0, l1, l2, some (aI x)] [s0, s1, s2] M S = go r 179 235 [l0, l1, l2, some (aI x)] [aI x, s0, s1, s2] M S := go_nx rfl rfl
theorem g179_235 (r : Nat) (l0 l1 l2 l3 : Option AV) (s0 s1 s2 s3 : AV) (M : Mem) (S : Sh) : go r 179 235 [l0, l1, l2, l3] [s0, s1, s2, s3] M S = go r 179 236 [l0, l1, l2, l3] [aI 2, s0, s1, s2, s3] M S := go_nx rfl rfl
theorem g179_236 (r : Nat) (l0 l1 l2 l3 : Option AV) (s0 s1 s2 : AV) (x y : Int) (M : Mem) (S : Sh) : go r 179 236 [l0, l1, l2, l3] [aI y, aI x, s0, s1, s2] M S = go r 179 237 [l0, l1, l2, l3] [aI (w32 (x + y)), s0, s1, s2] M S := go_nx rfl rfl
theorem g179_237 (r : Nat) (l0 l1 l2 l3 : Option AV) (s0 s1 : AV) (x : Int) (a : Nat) (M : Mem) (S : Sh) (h : S.1 a = 7) (h0 : 0 ≤ x) (h1 : x < S.2.1 a) : go r 179 237 [l0, l1, l2, l3] [aI x, aR a, s0, s1] M S = go r 179 238 [l0, l1, l2, l3] [aI (M a x.toNat), s0, s1] M S := go_bnd rfl ⟨h, h0, h1⟩ rfl
theorem g179_238 (r : Nat) (l0 l1 l2 l3 : Option AV) (x1 x2 : Int) (a0 : Nat) (M : Mem) (S : Sh) (hk : 11 < r) (h : S.1 a0 = 5) : go r 179 238 [l0, l1, l2, l3] [aI x2, aI x1, aR a0] M S = cont r 179 241 [l0, l1, l2, l3] [] 1 (res 46 [aR a0, aI x1, aI x2] M S) := go_cr0 (m' := 46) (n := 3) (pc' := 241) (hr := 1) rfl rfl rfl h rfl rfl rfl rfl hk rfl
theorem g179_241 (r : Nat) (l0 l1 l3 : Option AV) (s0 : AV) (a : Nat) (M : Mem) (S : Sh) : go r 179 241 [l0, l1, some (aR a), l3] [s0] M S = go r 179 242 [l0, l1, some (aR a), l3] [aR a, s0] M S := go_nx rfl rfl
theorem g179_241n (r : Nat) (l0 l1 l3 : Option AV) (s0 : AV) (M : Mem) (S : Sh) : go r 179 241 [l0, l1, some aN, l3] [s0] M S = go r 179 242 [l0, l1, some aN, l3] [aN, s0] M S := go_nx rfl rfl
theorem g179_242 (r : Nat) (l1 l2 l3 : Option AV) (s0 s1 : AV) (a : Nat) (M : Mem) (S : Sh) : go r 179 242 [some (aR a), l1, l2, l3] [s0, s1] M S = go r 179 243 [some (aR a), l1, l2, l3] [aR a, s0, s1] M S := go_nx rfl rfl
theorem g179_242n (r : Nat) (l1 l2 l3 : Option AV) (s0 s1 : AV) (M : Mem) (S : Sh) : go r 179 242 [some aN, l1, l2, l3] [s0, s1] M S = go r 179 243 [some aN, l1, l2, l3] [aN, s0, s1] M S := go_nx rfl rfl
theorem g179_243 (r : Nat) (l0 l1 l2 : Option AV) (s0 s1 s2 : AV) (x : Int) (M : Mem) (S : Sh) : go r 179 243 [l0, l1, l2, some (aI x)] [s0, s1, s2] M S = go r 179 244 [l0, l1, l2, some (aI x)] [aI x, s0, s1, s2] M S := go_nx rfl rfl
theorem g179_244 (r : Nat) (l0 l1 l2 l3 : Option AV) (s0 s1 s2 s3 : AV) (M : Mem) (S : Sh) : go r 179 244 [l0, l1, l2, l3] [s0, s1, s2, s3] M S = go r 179 245 [l0, l1, l2, l3] [aI 1, s0, s1, s2, s3] M S := go_nx rfl rfl
theorem g179_245 (r : Nat) (l0 l1 l2 l3 : Option AV) (s0 s1 s2 : AV) (x y : Int) (M : Mem) (S : Sh) : go r 179 245 [l0, l1, l2, l3] [aI y, aI x, s0, s1, s2] M S = go r 179 246 [l0, l1, l2, l3] [aI (w32 (x + y)), s0, s1, s2] M S := go_nx rfl rfl
theorem g179_246 (r : Nat) (l0 l1 l2 l3 : Option AV) (s0 s1 : AV) (x : Int) (a : Nat) (M : Mem) (S : Sh) (h : S.1 a = 7) (h0 : 0 ≤ x) (h1 : x < S.2.1 a) : go r 179 246 [l0, l1, l2, l3] [aI x, aR a, s0, s1] M S = go r 179 247 [l0, l1, l2, l3] [aI (M a x.toNat), s0, s1] M S := go_bnd rfl ⟨h, h0, h1⟩ rfl
theorem g179_247 (r : Nat) (l1 l2 l3 : Option AV) (s0 s1 s2 : AV) (a : Nat) (M : Mem) (S : Sh) : go r 179 247 [some (aR a), l1, l2, l3] [s0, s1, s2] M S = go r 179 248 [some (aR a), l1, l2, l3] [aR a, s0, s1, s2] M S := go_nx rfl rfl
theorem g179_247n (r : Nat) (l1 l2 l3 : Option AV) (s0 s1 s2 : AV) (M : Mem) (S : Sh) : go r 179 247 [some aN, l1, l2, l3] [s0, s1, s2] M S = go r 179 248 [some aN, l1, l2, l3] [aN, s0, s1, s2] M S := go_nx rfl rfl
theorem g179_248 (r : Nat) (l0 l1 l2 : Option AV) (s0 s1 s2 s3 : AV) (x : Int) (M : Mem) (S : Sh) : go r 179 248 [l0, l1, l2, some (aI x)] [s0, s1, s2, s3] M S = go r 179 249 [l0, l1, l2, some (aI x)] [aI x, s0, s1, s2, s3] M S := go_nx rfl rfl
theorem g179_249 (r : Nat) (l0 l1 l2 l3 : Option AV) (s0 s1 s2 s3 s4 : AV) (M : Mem) (S : Sh) : go r 179 249 [l0, l1, l2, l3] [s0, s1, s2, s3, s4] M S = go r 179 250 [l0, l1, l2, l3] [aI 2, s0, s1, s2, s3, s4] M S := go_nx rfl rfl
theorem g179_250 (r : Nat) (l0 l1 l2 l3 : Option AV) (s0 s1 s2 s3 : AV) (x y : Int) (M : Mem) (S : Sh) : go r 179 250 [l0, l1, l2, l3] [aI y, aI x, s0, s1, s2, s3] M S = go r 179 251 [l0, l1, l2, l3] [aI (w32 (x + y)), s0, s1, s2, s3] M S := go_nx rfl rfl
set_option maxRecDepth 20000 in
theorem g179_251 (r : Nat) (l0 l1 l2 l3 : Option AV) (s0 s1 s2 : AV) (x : Int) (a : Nat) (M : Mem) (S : Sh) (h : S.1 a = 7) (h0 : 0 ≤ x) (h1 : x < S.2.1 a) : go r 179 251 [l0, l1, l2, l3] [aI x, aR a, s0, s1, s2] M S = go r 179 252 [l0, l1, l2, l3] [aI (M a x.toNat), s0, s1, s2] M S := go_bnd rfl ⟨h, h0, h1⟩ rfl
set_option maxRecDepth 20000 in
theorem g179_252 (r : Nat) (l0 l1 l2 l3 : Option AV) (s0 : AV) (x1 x2 : Int) (a0 : Nat) (M : Mem) (S : Sh) (hk : 11 < r) (h : S.1 a0 = 6) : go r 179 252 [l0, l1, l2, l3] [aI x2, aI x1, aR a0, s0] M S = cont r 179 255 [l0, l1, l2, l3] [s0] 1 (res 111 [aR a0, aI x1, aI x2] M S) := go_cr0 (m' := 111) (n := 3) (pc' := 255) (hr := 1) rfl rfl rfl h rfl rfl rfl rfl hk rfl
set_option maxRecDepth 20000 in
theorem g179_255 (r : Nat) (l0 l1 l2 l3 : Option AV) (x y : Int) (M : Mem) (S : Sh) : go r 179 255 [l0, l1, l2, l3] [aI y, aI x] M S = if x = y then go r 179 1514 [l0, l1, l2, l3] [] M S else go r 179 258 [l0, l1, l2, l3] [] M S := go_br rfl rfl rfl rfl rfl
set_option maxRecDepth 20000 in
theorem g179_258 (r : Nat) (l0 l1 l2 l3 : Option AV) (M : Mem) (S : Sh) : go r 179 258 [l0, l1, l2, l3] [] M S = go r 179 259 [l0, l1, l2, l3] [aI 0] M S := go_nx rfl rfl
set_option maxRecDepth 20000 in
theorem g179_259 (r : Nat) (l0 l1 l2 l3 : Option AV) (x : Int) (M : Mem) (S : Sh) (h : x = 0 ∨ x = 1) : go r 179 259 [l0, l1, l2, l3] [aI x] M S = some (some (aI x), M, S) := go_rt rfl (bnd_t (Or.inr h))
set_option maxRecDepth 20000 in
theorem g179_260 (r : Nat) (l0 l2 l3 : Option AV) (a : Nat) (M : Mem) (S : Sh) : go r 179 260 [l0, some (aR a), l2, l3] [] M S = go r 179 261 [l0, some (aR a), l2, l3] [aR a] M S := go_nx rfl rfl
set_option maxRecDepth 20000 in
theorem g179_260n (r : Nat) (l0 l2 l3 : Option AV) (M : Mem) (S : Sh) : go r 179 260 [l0, some aN, l2, l3] [] M S = go r 179 261 [l0, some aN, l2, l3] [aN] M S := go_nx rfl rfl
set_option maxRecDepth 20000 in
theorem g179_261 (r : Nat) (l1 l2 l3 : Option AV) (s0 : AV) (a : Nat) (M : Mem) (S : Sh) : go r 179 261 [some (aR a), l1, l2, l3] [s0] M S = go r 179 262 [some (aR a), l1, l2, l3] [aR a, s0] M S := go_nx rfl rfl
set_option maxRecDepth 20000 in
theorem g179_261n (r : Nat) (l1 l2 l3 : Option AV) (s0 : AV) (M : Mem) (S : Sh) : go r 179 261 [some aN, l1, l2, l3] [s0] M S = go r 179 262 [some aN, l1, l2, l3] [aN, s0] M S := go_nx rfl rfl
set_option maxRecDepth 20000 in
theorem g179_262 (r : Nat) (l0 l1 l2 : Option AV) (s0 s1 : AV) (x : Int) (M : Mem) (S : Sh) : go r 179 262 [l0, l1, l2, some (aI x)] [s0, s1] M S = go r 179 263 [l0, l1, l2, some (aI x)] [aI x, s0, s1] M S := go_nx rfl rfl
set_option maxRecDepth 20000 in
theorem g179_263 (r : Nat) (l0 l1 l2 l3 : Option AV) (s0 s1 s2 : AV) (M : Mem) (S : Sh) : go r 179 263 [l0, l1, l2, l3] [s0, s1, s2] M S = go r 179 264 [l0, l1, l2, l3] [aI 1, s0, s1, s2] M S := go_nx rfl rfl
set_option maxRecDepth 20000 in
theorem g179_264 (r : Nat) (l0 l1 l2 l3 : Option AV) (s0 s1 : AV) (x y : Int) (M : Mem) (S : Sh) : go r 179 264 [l0, l1, l2, l3] [aI y, aI x, s0, s1] M S = go r 179 265 [l0, l1, l2, l3] [aI (w32 (x + y)), s0, s1] M S := go_nx rfl rfl
set_option maxRecDepth 20000 in
theorem g179_265 (r : Nat) (l0 l1 l2 l3 : Option AV) (s0 : AV) (x : Int) (a : Nat) (M : Mem) (S : Sh) (h : S.1 a = 7) (h0 : 0 ≤ x) (h1 : x < S.2.1 a) : go r 179 265 [l0, l1, l2, l3] [aI x, aR a, s0] M S = go r 179 266 [l0, l1, l2, l3] [aI (M a x.toNat), s0] M S := go_bnd rfl ⟨h, h0, h1⟩ rfl
set_option maxRecDepth 20000 in
theorem g179_266 (r : Nat) (l1 l2 l3 : Option AV) (s0 s1 : AV) (a : Nat) (M : Mem) (S : Sh) : go r 179 266 [some (aR a), l1, l2, l3] [s0, s1] M S = go r 179 267 [some (aR a), l1, l2, l3] [aR a, s0, s1] M S := go_nx rfl rfl
set_option maxRecDepth 20000 in
theorem g179_266n (r : Nat) (l1 l2 l3 : Option AV) (s0 s1 : AV) (M : Mem) (S : Sh) : go r 179 266 [some aN, l1, l2, l3] [s0, s1] M S = go r 179 267 [some aN, l1, l2, l3] [aN, s0, s1] M S := go_nx rfl rfl
set_option maxRecDepth 20000 in
theorem g179_267 (r : Nat) (l0 l1 l2 : Option AV) (s0 s1 s2 : AV) (x : Int) (M : Mem) (S : Sh) : go r 179 267 [l0, l1, l2, some (aI x)] [s0, s1, s2] M S = go r 179 268 [l0, l1, l2, some (aI x)] [aI x, s0, s1, s2] M S := go_nx rfl rfl
set_option maxRecDepth 20000 in
theorem g179_268 (r : Nat) (l0 l1 l2 l3 : Option AV) (s0 s1 s2 s3 : AV) (M : Mem) (S : Sh) : go r 179 268 [l0, l1, l2, l3] [s0, s1, s2, s3] M S = go r 179 269 [l0, l1, l2, l3] [aI 2, s0, s1, s2, s3] M S := go_nx rfl rfl
set_option maxRecDepth 20000 in
theorem g179_269 (r : Nat) (l0 l1 l2 l3 : Option AV) (s0 s1 s2 : AV) (x y : Int) (M : Mem) (S : Sh) : go r 179 269 [l0, l1, l2, l3] [aI y, aI x, s0, s1, s2] M S = go r 179 270 [l0, l1, l2, l3] [aI (w32 (x + y)), s0, s1, s2] M S := go_nx rfl rfl
set_option maxRecDepth 20000 in
theorem g179_270 (r : Nat) (l0 l1 l2 l3 : Option AV) (s0 s1 : AV) (x : Int) (a : Nat) (M : Mem) (S : Sh) (h : S.1 a = 7) (h0 : 0 ≤ x) (h1 : x < S.2.1 a) : go r 179 270 [l0, l1, l2, l3] [aI x, aR a, s0, s1] M S = go r 179 271 [l0, l1, l2, l3] [aI (M a x.toNat), s0, s1] M S := go_bnd rfl ⟨h, h0, h1⟩ rfl
set_option maxRecDepth 20000 in
theorem g179_271 (r : Nat) (l1 l2 l3 : Option AV) (s0 s1 s2 : AV) (a : Nat) (M : Mem) (S : Sh) : go r 179 271 [some (aR a), l1, l2, l3] [s0, s1, s2] M S = go r 179 272 [some (aR a), l1, l2, l3] [aR a, s0, s1, s2] M S := go_nx rfl rfl
set_option maxRecDepth 20000 in
theorem g179_271n (r : Nat) (l1 l2 l3 : Option AV) (s0 s1 s2 : AV) (M : Mem) (S : Sh) : go r 179 271 [some aN, l1, l2, l3] [s0, s1, s2] M S = go r 179 272 [some aN, l1, l2, l3] [aN, s0, s1, s2] M S := go_nx rfl rfl
set_option maxRecDepth 20000 in
theorem g179_272 (r : Nat) (l0 l1 l2 : Option AV) (s0 s1 s2 s3 : AV) (x : Int) (M : Mem) (S : Sh) : go r 179 272 [l0, l1, l2, some (aI x)] [s0, s1, s2, s3] M S = go r 179 273 [l0, l1, l2, some (aI x)] [aI x, s0, s1, s2, s3] M S := go_nx rfl rfl
set_option maxRecDepth 20000 in
theorem g179_273 (r : Nat) (l0 l1 l2 l3 : Option AV) (s0 s1 s2 s3 s4 : AV) (M : Mem) (S : Sh) : go r 179 273 [l0, l1, l2, l3] [s0, s1, s2, s3, s4] M S = go r 179 274 [l0, l1, l2, l3] [aI 3, s0, s1, s2, s3, s4] M S := go_nx rfl rfl
set_option maxRecDepth 20000 in
theorem g179_274 (r : Nat) (l0 l1 l2 l3 : Option AV) (s0 s1 s2 s3 : AV) (x y : Int) (M : Mem) (S : Sh) : go r 179 274 [l0, l1, l2, l3] [aI y, aI x, s0, s1, s2, s3] M S = go r 179 275 [l0, l1, l2, l3] [aI (w32 (x + y)), s0, s1, s2, s3] M S := go_nx rfl rfl
set_option maxRecDepth 20000 in
theorem g179_275 (r : Nat) (l0 l1 l2 l3 : Option AV) (s0 s1 s2 : AV) (x : Int) (a : Nat) (M : Mem) (S : Sh) (h : S.1 a = 7) (h0 : 0 ≤ x) (h1 : x < S.2.1 a) : go r 179 275 [l0, l1, l2, l3] [aI x, aR a, s0, s1, s2] M S = go r 179 276 [l0, l1, l2, l3] [aI (M a x.toNat), s0, s1, s2] M S := go_bnd rfl ⟨h, h0, h1⟩ rfl
set_option maxRecDepth 20000 in
theorem g179_276 (r : Nat) (l0 l1 l2 l3 : Option AV) (x1 x2 x3 : Int) (a0 : Nat) (M : Mem) (S : Sh) (hk : 11 < r) (h : S.1 a0 = 5) : go r 179 276 [l0, l1, l2, l3] [aI x3, aI x2, aI x1, aR a0] M S = cont r 179 279 [l0, l1, l2, l3] [] 1 (res 47 [aR a0, aI x1, aI x2, aI x3] M S) := go_cr0 (m' := 47) (n := 4) (pc' := 279) (hr := 1) rfl rfl rfl h rfl rfl rfl rfl hk rfl
set_option maxRecDepth 20000 in
theorem g179_279 (r : Nat) (l0 l1 l3 : Option AV) (s0 : AV) (a : Nat) (M : Mem) (S : Sh) : go r 179 279 [l0, l1, some (aR a), l3] [s0] M S = go r 179 280 [l0, l1, some (aR a), l3] [aR a, s0] M S := go_nx rfl rfl
set_option maxRecDepth 20000 in
theorem g179_279n (r : Nat) (l0 l1 l3 : Option AV) (s0 : AV) (M : Mem) (S : Sh) : go r 179 279 [l0, l1, some aN, l3] [s0] M S = go r 179 280 [l0, l1, some aN, l3] [aN, s0] M S := go_nx rfl rfl
set_option maxRecDepth 20000 in
theorem g179_280 (r : Nat) (l1 l2 l3 : Option AV) (s0 s1 : AV) (a : Nat) (M : Mem) (S : Sh) : go r 179 280 [some (aR a), l1, l2, l3] [s0, s1] M S = go r 179 281 [some (aR a), l1, l2, l3] [aR a, s0, s1] M S := go_nx rfl rfl
set_option maxRecDepth 20000 in
theorem g179_280n (r : Nat) (l1 l2 l3 : Option AV) (s0 s1 : AV) (M : Mem) (S : Sh) : go r 179 280 [some aN, l1, l2, l3] [s0, s1] M S = go r 179 281 [some aN, l1, l2, l3] [aN, s0, s1] M S := go_nx rfl rfl
set_option maxRecDepth 20000 in
theorem g179_281 (r : Nat) (l0 l1 l2 : Option AV) (s0 s1 s2 : AV) (x : Int) (M : Mem) (S : Sh) : go r 179 281 [l0, l1, l2, some (aI x)] [s0, s1, s2] M S = go r 179 282 [l0, l1, l2, some (aI x)] [aI x, s0, s1, s2] M S := go_nx rfl rfl
set_option maxRecDepth 20000 in
theorem g179_282 (r : Nat) (l0 l1 l2 l3 : Option AV) (s0 s1 s2 s3 : AV) (M : Mem) (S : Sh) : go r 179 282 [l0, l1, l2, l3] [s0, s1, s2, s3] M S = go r 179 283 [l0, l1, l2, l3] [aI 1, s0, s1, s2, s3] M S := go_nx rfl rfl
set_option maxRecDepth 20000 in
theorem g179_283 (r : Nat) (l0 l1 l2 l3 : Option AV) (s0 s1 s2 : AV) (x y : Int) (M : Mem) (S : Sh) : go r 179 283 [l0, l1, l2, l3] [aI y, aI x, s0, s1, s2] M S = go r 179 284 [l0, l1, l2, l3] [aI (w32 (x + y)), s0, s1, s2] M S := go_nx rfl rfl
set_option maxRecDepth 20000 in
theorem g179_284 (r : Nat) (l0 l1 l2 l3 : Option AV) (s0 s1 : AV) (x : Int) (a : Nat) (M : Mem) (S : Sh) (h : S.1 a = 7) (h0 : 0 ≤ x) (h1 : x < S.2.1 a) : go r 179 284 [l0, l1, l2, l3] [aI x, aR a, s0, s1] M S = go r 179 285 [l0, l1, l2, l3] [aI (M a x.toNat), s0, s1] M S := go_bnd rfl ⟨h, h0, h1⟩ rfl
set_option maxRecDepth 20000 in
theorem g179_285 (r : Nat) (l1 l2 l3 : Option AV) (s0 s1 s2 : AV) (a : Nat) (M : Mem) (S : Sh) : go r 179 285 [some (aR a), l1, l2, l3] [s0, s1, s2] M S = go r 179 286 [some (aR a), l1, l2, l3] [aR a, s0, s1, s2] M S := go_nx rfl rfl
set_option maxRecDepth 20000 in
theorem g179_285n (r : Nat) (l1 l2 l3 : Option AV) (s0 s1 s2 : AV) (M : Mem) (S : Sh) : go r 179 285 [some aN, l1, l2, l3] [s0, s1, s2] M S = go r 179 286 [some aN, l1, l2, l3] [aN, s0, s1, s2] M S := go_nx rfl rfl
set_option maxRecDepth 20000 in
theorem g179_286 (r : Nat) (l0 l1 l2 : Option AV) (s0 s1 s2 s3 : AV) (x : Int) (M : Mem) (S : Sh) : go r 179 286 [l0, l1, l2, some (aI x)] [s0, s1, s2, s3] M S = go r 179 287 [l0, l1, l2, some (aI x)] [aI x, s0, s1, s2, s3] M S := go_nx rfl rfl
set_option maxRecDepth 20000 in
theorem g179_287 (r : Nat) (l0 l1 l2 l3 : Option AV) (s0 s1 s2 s3 s4 : AV) (M : Mem) (S : Sh) : go r 179 287 [l0, l1, l2, l3] [s0, s1, s2, s3, s4] M S = go r 179 288 [l0, l1, l2, l3] [aI 2, s0, s1, s2, s3, s4] M S := go_nx rfl rfl
set_option maxRecDepth 20000 in
theorem g179_288 (r : Nat) (l0 l1 l2 l3 : Option AV) (s0 s1 s2 s3 : AV) (x y : Int) (M : Mem) (S : Sh) : go r 179 288 [l0, l1, l2, l3] [aI y, aI x, s0, s1, s2, s3] M S = go r 179 289 [l0, l1, l2, l3] [aI (w32 (x + y)), s0, s1, s2, s3] M S := go_nx rfl rfl
set_option maxRecDepth 20000 in
theorem g179_289 (r : Nat) (l0 l1 l2 l3 : Option AV) (s0 s1 s2 : AV) (x : Int) (a : Nat) (M : Mem) (S : Sh) (h : S.1 a = 7) (h0 : 0 ≤ x) (h1 : x < S.2.1 a) : go r 179 289 [l0, l1, l2, l3] [aI x, aR a, s0, s1, s2] M S = go r 179 290 [l0, l1, l2, l3] [aI (M a x.toNat), s0, s1, s2] M S := go_bnd rfl ⟨h, h0, h1⟩ rfl
set_option maxRecDepth 20000 in
theorem g179_290 (r : Nat) (l1 l2 l3 : Option AV) (s0 s1 s2 s3 : AV) (a : Nat) (M : Mem) (S : Sh) : go r 179 290 [some (aR a), l1, l2, l3] [s0, s1, s2, s3] M S = go r 179 291 [some (aR a), l1, l2, l3] [aR a, s0, s1, s2, s3] M S := go_nx rfl rfl
set_option maxRecDepth 20000 in
theorem g179_290n (r : Nat) (l1 l2 l3 : Option AV) (s0 s1 s2 s3 : AV) (M : Mem) (S : Sh) : go r 179 290 [some aN, l1, l2, l3] [s0, s1, s2, s3] M S = go r 179 291 [some aN, l1, l2, l3] [aN, s0, s1, s2, s3] M S := go_nx rfl rfl
set_option maxRecDepth 20000 in
theorem g179_291 (r : Nat) (l0 l1 l2 : Option AV) (s0 s1 s2 s3 s4 : AV) (x : Int) (M : Mem) (S : Sh) : go r 179 291 [l0, l1, l2, some (aI x)] [s0, s1, s2, s3, s4] M S = go r 179 292 [l0, l1, l2, some (aI x)] [aI x, s0, s1, s2, s3, s4] M S := go_nx rfl rfl
set_option maxRecDepth 20000 in
theorem g179_292 (r : Nat) (l0 l1 l2 l3 : Option AV) (s0 s1 s2 s3 s4 s5 : AV) (M : Mem) (S : Sh) : go r 179 292 [l0, l1, l2, l3] [s0, s1, s2, s3, s4, s5] M S = go r 179 293 [l0, l1, l2, l3] [aI 3, s0, s1, s2, s3, s4, s5] M S := go_nx rfl rfl
set_option maxRecDepth 20000 in
theorem g179_293 (r : Nat) (l0 l1 l2 l3 : Option AV) (s0 s1 s2 s3 s4 : AV) (x y : Int) (M : Mem) (S : Sh) : go r 179 293 [l0, l1, l2, l3] [aI y, aI x, s0, s1, s2, s3, s4] M S = go r 179 294 [l0, l1, l2, l3] [aI (w32 (x + y)), s0, s1, s2, s3, s4] M S := go_nx rfl rfl
set_option maxRecDepth 20000 in
theorem g179_294 (r : Nat) (l0 l1 l2 l3 : Option AV) (s0 s1 s2 s3 : AV) (x : Int) (a : Nat) (M : Mem) (S : Sh) (h : S.1 a = 7) (h0 : 0 ≤ x) (h1 : x < S.2.1 a) : go r 179 294 [l0, l1, l2, l3] [aI x, aR a, s0, s1, s2, s3] M S = go r 179 295 [l0, l1, l2, l3] [aI (M a x.toNat), s0, s1, s2, s3] M S := go_bnd rfl ⟨h, h0, h1⟩ rfl
set_option maxRecDepth 20000 in
theorem g179_295 (r : Nat) (l0 l1 l2 l3 : Option AV) (s0 : AV) (x1 x2 x3 : Int) (a0 : Nat) (M : Mem) (S : Sh) (hk : 13 < r) (h : S.1 a0 = 6) : go r 179 295 [l0, l1, l2, l3] [aI x3, aI x2, aI x1, aR a0, s0] M S = cont r 179 298 [l0, l1, l2, l3] [s0] 1 (res 112 [aR a0, aI x1, aI x2, aI x3] M S) := go_cr0 (m' := 112) (n := 4) (pc' := 298) (hr := 1) rfl rfl rfl h rfl rfl rfl rfl hk rfl
set_option maxRecDepth 20000 in
theorem g179_298 (r : Nat) (l0 l1 l2 l3 : Option AV) (x y : Int) (M : Mem) (S : Sh) : go r 179 298 [l0, l1, l2, l3] [aI y, aI x] M S = if x = y then go r 179 1514 [l0, l1, l2, l3] [] M S else go r 179 301 [l0, l1, l2, l3] [] M S := go_br rfl rfl rfl rfl rfl
set_option maxRecDepth 20000 in
theorem g179_301 (r : Nat) (l0 l1 l2 l3 : Option AV) (M : Mem) (S : Sh) : go r 179 301 [l0, l1, l2, l3] [] M S = go r 179 302 [l0, l1, l2, l3] [aI 0] M S := go_nx rfl rfl
set_option maxRecDepth 20000 in
theorem g179_302 (r : Nat) (l0 l1 l2 l3 : Option AV) (x : Int) (M : Mem) (S : Sh) (h : x = 0 ∨ x = 1) : go r 179 302 [l0, l1, l2, l3] [aI x] M S = some (some (aI x), M, S) := go_rt rfl (bnd_t (Or.inr h))
set_option maxRecDepth 20000 in
theorem g179_303 (r : Nat) (l0 l2 l3 : Option AV) (a : Nat) (M : Mem) (S : Sh) : go r 179 303 [l0, some (aR a), l2, l3] [] M S = go r 179 304 [l0, some (aR a), l2, l3] [aR a] M S := go_nx rfl rfl
set_option maxRecDepth 20000 in
theorem g179_303n (r : Nat) (l0 l2 l3 : Option AV) (M : Mem) (S : Sh) : go r 179 303 [l0, some aN, l2, l3] [] M S = go r 179 304 [l0, some aN, l2, l3] [aN] M S := go_nx rfl rfl
set_option maxRecDepth 20000 in
theorem g179_304 (r : Nat) (l1 l2 l3 : Option AV) (s0 : AV) (a : Nat) (M : Mem) (S : Sh) : go r 179 304 [some (aR a), l1, l2, l3] [s0] M S = go r 179 305 [some (aR a), l1, l2, l3] [aR a, s0] M S := go_nx rfl rfl
set_option maxRecDepth 20000 in
theorem g179_304n (r : Nat) (l1 l2 l3 : Option AV) (s0 : AV) (M : Mem) (S : Sh) : go r 179 304 [some aN, l1, l2, l3] [s0] M S = go r 179 305 [some aN, l1, l2, l3] [aN, s0] M S := go_nx rfl rfl
set_option maxRecDepth 20000 in
theorem g179_305 (r : Nat) (l0 l1 l2 : Option AV) (s0 s1 : AV) (x : Int) (M : Mem) (S : Sh) : go r 179 305 [l0, l1, l2, some (aI x)] [s0, s1] M S = go r 179 306 [l0, l1, l2, some (aI x)] [aI x, s0, s1] M S := go_nx rfl rfl
set_option maxRecDepth 20000 in
theorem g179_306 (r : Nat) (l0 l1 l2 l3 : Option AV) (s0 s1 s2 : AV) (M : Mem) (S : Sh) : go r 179 306 [l0, l1, l2, l3] [s0, s1, s2] M S = go r 179 307 [l0, l1, l2, l3] [aI 1, s0, s1, s2] M S := go_nx rfl rfl
set_option maxRecDepth 20000 in
theorem g179_307 (r : Nat) (l0 l1 l2 l3 : Option AV) (s0 s1 : AV) (x y : Int) (M : Mem) (S : Sh) : go r 179 307 [l0, l1, l2, l3] [aI y, aI x, s0, s1] M S = go r 179 308 [l0, l1, l2, l3] [aI (w32 (x + y)), s0, s1] M S := go_nx rfl rfl
set_option maxRecDepth 20000 in
theorem g179_308 (r : Nat) (l0 l1 l2 l3 : Option AV) (s0 : AV) (x : Int) (a : Nat) (M : Mem) (S : Sh) (h : S.1 a = 7) (h0 : 0 ≤ x) (h1 : x < S.2.1 a) : go r 179 308 [l0, l1, l2, l3] [aI x, aR a, s0] M S = go r 179 309 [l0, l1, l2, l3] [aI (M a x.toNat), s0] M S := go_bnd rfl ⟨h, h0, h1⟩ rfl
set_option maxRecDepth 20000 in
theorem g179_309 (r : Nat) (l1 l2 l3 : Option AV) (s0 s1 : AV) (a : Nat) (M : Mem) (S : Sh) : go r 179 309 [some (aR a), l1, l2, l3] [s0, s1] M S = go r 179 310 [some (aR a), l1, l2, l3] [aR a, s0, s1] M S := go_nx rfl rfl
set_option maxRecDepth 20000 in
theorem g179_309n (r : Nat) (l1 l2 l3 : Option AV) (s0 s1 : AV) (M : Mem) (S : Sh) : go r 179 309 [some aN, l1, l2, l3] [s0, s1] M S = go r 179 310 [some aN, l1, l2, l3] [aN, s0, s1] M S := go_nx rfl rfl
set_option maxRecDepth 20000 in
theorem g179_310 (r : Nat) (l0 l1 l2 : Option AV) (s0 s1 s2 : AV) (x : Int) (M : Mem) (S : Sh) : go r 179 310 [l0, l1, l2, some (aI x)] [s0, s1, s2] M S = go r 179 311 [l0, l1, l2, some (aI x)] [aI x, s0, s1, s2] M S := go_nx rfl rfl
set_option maxRecDepth 20000 in
theorem g179_311 (r : Nat) (l0 l1 l2 l3 : Option AV) (s0 s1 s2 s3 : AV) (M : Mem) (S : Sh) : go r 179 311 [l0, l1, l2, l3] [s0, s1, s2, s3] M S = go r 179 312 [l0, l1, l2, l3] [aI 2, s0, s1, s2, s3] M S := go_nx rfl rfl
set_option maxRecDepth 20000 in
theorem g179_312 (r : Nat) (l0 l1 l2 l3 : Option AV) (s0 s1 s2 : AV) (x y : Int) (M : Mem) (S : Sh) : go r 179 312 [l0, l1, l2, l3] [aI y, aI x, s0, s1, s2] M S = go r 179 313 [l0, l1, l2, l3] [aI (w32 (x + y)), s0, s1, s2] M S := go_nx rfl rfl
set_option maxRecDepth 20000 in
theorem g179_313 (r : Nat) (l0 l1 l2 l3 : Option AV) (s0 s1 : AV) (x : Int) (a : Nat) (M : Mem) (S : Sh) (h : S.1 a = 7) (h0 : 0 ≤ x) (h1 : x < S.2.1 a) : go r 179 313 [l0, l1, l2, l3] [aI x, aR a, s0, s1] M S = go r 179 314 [l0, l1, l2, l3] [aI (M a x.toNat), s0, s1] M S := go_bnd rfl ⟨h, h0, h1⟩ rfl
set_option maxRecDepth 20000 in
theorem g179_314 (r : Nat) (l0 l1 l2 l3 : Option AV) (x1 x2 : Int) (a0 : Nat) (M : Mem) (S : Sh) (hk : 11 < r) (h : S.1 a0 = 5) : go r 179 314 [l0, l1, l2, l3] [aI x2, aI x1, aR a0] M S = cont r 179 317 [l0, l1, l2, l3] [] 1 (res 48 [aR a0, aI x1, aI x2] M S) := go_cr0 (m' := 48) (n := 3) (pc' := 317) (hr := 1) rfl rfl rfl h rfl rfl rfl rfl hk rfl
set_option maxRecDepth 20000 in
theorem g179_317 (r : Nat) (l0 l1 l3 : Option AV) (s0 : AV) (a : Nat) (M : Mem) (S : Sh) : go r 179 317 [l0, l1, some (aR a), l3] [s0] M S = go r 179 318 [l0, l1, some (aR a), l3] [aR a, s0] M S := go_nx rfl rfl
set_option maxRecDepth 20000 in
theorem g179_317n (r : Nat) (l0 l1 l3 : Option AV) (s0 : AV) (M : Mem) (S : Sh) : go r 179 317 [l0, l1, some aN, l3] [s0] M S = go r 179 318 [l0, l1, some aN, l3] [aN, s0] M S := go_nx rfl rfl
set_option maxRecDepth 20000 in
theorem g179_318 (r : Nat) (l1 l2 l3 : Option AV) (s0 s1 : AV) (a : Nat) (M : Mem) (S : Sh) : go r 179 318 [some (aR a), l1, l2, l3] [s0, s1] M S = go r 179 319 [some (aR a), l1, l2, l3] [aR a, s0, s1] M S := go_nx rfl rfl
set_option maxRecDepth 20000 in
theorem g179_318n (r : Nat) (l1 l2 l3 : Option AV) (s0 s1 : AV) (M : Mem) (S : Sh) : go r 179 318 [some aN, l1, l2, l3] [s0, s1] M S = go r 179 319 [some aN, l1, l2, l3] [aN, s0, s1] M S := go_nx rfl rfl
set_option maxRecDepth 20000 in
theorem g179_319 (r : Nat) (l0 l1 l2 : Option AV) (s0 s1 s2 : AV) (x : Int) (M : Mem) (S : Sh) : go r 179 319 [l0, l1, l2, some (aI x)] [s0, s1, s2] M S = go r 179 320 [l0, l1, l2, some (aI x)] [aI x, s0, s1, s2] M S := go_nx rfl rfl
set_option maxRecDepth 20000 in
theorem g179_320 (r : Nat) (l0 l1 l2 l3 : Option AV) (s0 s1 s2 s3 : AV) (M : Mem) (S : Sh) : go r 179 320 [l0, l1, l2, l3] [s0, s1, s2, s3] M S = go r 179 321 [l0, l1, l2, l3] [aI 1, s0, s1, s2, s3] M S := go_nx rfl rfl
set_option maxRecDepth 20000 in
theorem g179_321 (r : Nat) (l0 l1 l2 l3 : Option AV) (s0 s1 s2 : AV) (x y : Int) (M : Mem) (S : Sh) : go r 179 321 [l0, l1, l2, l3] [aI y, aI x, s0, s1, s2] M S = go r 179 322 [l0, l1, l2, l3] [aI (w32 (x + y)), s0, s1, s2] M S := go_nx rfl rfl
set_option maxRecDepth 20000 in
theorem g179_322 (r : Nat) (l0 l1 l2 l3 : Option AV) (s0 s1 : AV) (x : Int) (a : Nat) (M : Mem) (S : Sh) (h : S.1 a = 7) (h0 : 0 ≤ x) (h1 : x < S.2.1 a) : go r 179 322 [l0, l1, l2, l3] [aI x, aR a, s0, s1] M S = go r 179 323 [l0, l1, l2, l3] [aI (M a x.toNat), s0, s1] M S := go_bnd rfl ⟨h, h0, h1⟩ rfl
set_option maxRecDepth 20000 in
theorem g179_323 (r : Nat) (l1 l2 l3 : Option AV) (s0 s1 s2 : AV) (a : Nat) (M : Mem) (S : Sh) : go r 179 323 [some (aR a), l1, l2, l3] [s0, s1, s2] M S = go r 179 324 [some (aR a), l1, l2, l3] [aR a, s0, s1, s2] M S := go_nx rfl rfl
set_option maxRecDepth 20000 in
theorem g179_323n (r : Nat) (l1 l2 l3 : Option AV) (s0 s1 s2 : AV) (M : Mem) (S : Sh) : go r 179 323 [some aN, l1, l2, l3] [s0, s1, s2] M S = go r 179 324 [some aN, l1, l2, l3] [aN, s0, s1, s2] M S := go_nx rfl rfl
set_option maxRecDepth 20000 in
theorem g179_324 (r : Nat) (l0 l1 l2 : Option AV) (s0 s1 s2 s3 : AV) (x : Int) (M : Mem) (S : Sh) : go r 179 324 [l0, l1, l2, some (aI x)] [s0, s1, s2, s3] M S = go r 179 325 [l0, l1, l2, some (aI x)] [aI x, s0, s1, s2, s3] M S := go_nx rfl rfl
set_option maxRecDepth 20000 in
theorem g179_325 (r : Nat) (l0 l1 l2 l3 : Option AV) (s0 s1 s2 s3 s4 : AV) (M : Mem) (S : Sh) : go r 179 325 [l0, l1, l2, l3] [s0, s1, s2, s3, s4] M S = go r 179 326 [l0, l1, l2, l3] [aI 2, s0, s1, s2, s3, s4] M S := go_nx rfl rfl
set_option maxRecDepth 20000 in
theorem g179_326 (r : Nat) (l0 l1 l2 l3 : Option AV) (s0 s1 s2 s3 : AV) (x y : Int) (M : Mem) (S : Sh) : go r 179 326 [l0, l1, l2, l3] [aI y, aI x, s0, s1, s2, s3] M S = go r 179 327 [l0, l1, l2, l3] [aI (w32 (x + y)), s0, s1, s2, s3] M S := go_nx rfl rfl
set_option maxRecDepth 20000 in
theorem g179_327 (r : Nat) (l0 l1 l2 l3 : Option AV) (s0 s1 s2 : AV) (x : Int) (a : Nat) (M : Mem) (S : Sh) (h : S.1 a = 7) (h0 : 0 ≤ x) (h1 : x < S.2.1 a) : go r 179 327 [l0, l1, l2, l3] [aI x, aR a, s0, s1, s2] M S = go r 179 328 [l0, l1, l2, l3] [aI (M a x.toNat), s0, s1, s2] M S := go_bnd rfl ⟨h, h0, h1⟩ rfl
set_option maxRecDepth 20000 in
theorem g179_328 (r : Nat) (l0 l1 l2 l3 : Option AV) (s0 : AV) (x1 x2 : Int) (a0 : Nat) (M : Mem) (S : Sh) (hk : 12 < r) (h : S.1 a0 = 6) : go r 179 328 [l0, l1, l2, l3] [aI x2, aI x1, aR a0, s0] M S = cont r 179 331 [l0, l1, l2, l3] [s0] 1 (res 113 [aR a0, aI x1, aI x2] M S) := go_cr0 (m' := 113) (n := 3) (pc' := 331) (hr := 1) rfl rfl rfl h rfl rfl rfl rfl hk rfl
set_option maxRecDepth 20000 in
theorem g179_331 (r : Nat) (l0 l1 l2 l3 : Option AV) (x y : Int) (M : Mem) (S : Sh) : go r 179 331 [l0, l1, l2, l3] [aI y, aI x] M S = if x = y then go r 179 1514 [l0, l1, l2, l3] [] M S else go r 179 334 [l0, l1, l2, l3] [] M S := go_br rfl rfl rfl rfl rfl
set_option maxRecDepth 20000 in
theorem g179_334 (r : Nat) (l0 l1 l2 l3 : Option AV) (M : Mem) (S : Sh) : go r 179 334 [l0, l1, l2, l3] [] M S = go r 179 335 [l0, l1, l2, l3] [aI 0] M S := go_nx rfl rfl
set_option maxRecDepth 20000 in
theorem g179_335 (r : Nat) (l0 l1 l2 l3 : Option AV) (x : Int) (M : Mem) (S : Sh) (h : x = 0 ∨ x = 1) : go r 179 335 [l0, l1, l2, l3] [aI x] M S = some (some (aI x), M, S) := go_rt rfl (bnd_t (Or.inr h))
set_option maxRecDepth 20000 in
theorem g179_336 (r : Nat) (l0 l2 l3 : Option AV) (a : Nat) (M : Mem) (S : Sh) : go r 179 336 [l0, some (aR a), l2, l3] [] M S = go r 179 337 [l0, some (aR a), l2, l3] [aR a] M S := go_nx rfl rfl
set_option maxRecDepth 20000 in
theorem g179_336n (r : Nat) (l0 l2 l3 : Option AV) (M : Mem) (S : Sh) : go r 179 336 [l0, some aN, l2, l3] [] M S = go r 179 337 [l0, some aN, l2, l3] [aN] M S := go_nx rfl rfl
set_option maxRecDepth 20000 in
theorem g179_337 (r : Nat) (l1 l2 l3 : Option AV) (s0 : AV) (a : Nat) (M : Mem) (S : Sh) : go r 179 337 [some (aR a), l1, l2, l3] [s0] M S = go r 179 338 [some (aR a), l1, l2, l3] [aR a, s0] M S := go_nx rfl rfl
set_option maxRecDepth 20000 in
theorem g179_337n (r : Nat) (l1 l2 l3 : Option AV) (s0 : AV) (M : Mem) (S : Sh) : go r 179 337 [some aN, l1, l2, l3] [s0] M S = go r 179 338 [some aN, l1, l2, l3] [aN, s0] M S := go_nx rfl rfl
set_option maxRecDepth 20000 in
theorem g179_338 (r : Nat) (l0 l1 l2 : Option AV) (s0 s1 : AV) (x : Int) (M : Mem) (S : Sh) : go r 179 338 [l0, l1, l2, some (aI x)] [s0, s1] M S = go r 179 339 [l0, l1, l2, some (aI x)] [aI x, s0, s1] M S := go_nx rfl rfl
set_option maxRecDepth 20000 in
theorem g179_339 (r : Nat) (l0 l1 l2 l3 : Option AV) (s0 s1 s2 : AV) (M : Mem) (S : Sh) : go r 179 339 [l0, l1, l2, l3] [s0, s1, s2] M S = go r 179 340 [l0, l1, l2, l3] [aI 1, s0, s1, s2] M S := go_nx rfl rfl
set_option maxRecDepth 20000 in
theorem g179_340 (r : Nat) (l0 l1 l2 l3 : Option AV) (s0 s1 : AV) (x y : Int) (M : Mem) (S : Sh) : go r 179 340 [l0, l1, l2, l3] [aI y, aI x, s0, s1] M S = go r 179 341 [l0, l1, l2, l3] [aI (w32 (x + y)), s0, s1] M S := go_nx rfl rfl
set_option maxRecDepth 20000 in
theorem g179_341 (r : Nat) (l0 l1 l2 l3 : Option AV) (s0 : AV) (x : Int) (a : Nat) (M : Mem) (S : Sh) (h : S.1 a = 7) (h0 : 0 ≤ x) (h1 : x < S.2.1 a) : go r 179 341 [l0, l1, l2, l3] [aI x, aR a, s0] M S = go r 179 342 [l0, l1, l2, l3] [aI (M a x.toNat), s0] M S := go_bnd rfl ⟨h, h0, h1⟩ rfl
set_option maxRecDepth 20000 in
theorem g179_342 (r : Nat) (l1 l2 l3 : Option AV) (s0 s1 : AV) (a : Nat) (M : Mem) (S : Sh) : go r 179 342 [some (aR a), l1, l2, l3] [s0, s1] M S = go r 179 343 [some (aR a), l1, l2, l3] [aR a, s0, s1] M S := go_nx rfl rfl
set_option maxRecDepth 20000 in
theorem g179_342n (r : Nat) (l1 l2 l3 : Option AV) (s0 s1 : AV) (M : Mem) (S : Sh) : go r 179 342 [some aN, l1, l2, l3] [s0, s1] M S = go r 179 343 [some aN, l1, l2, l3] [aN, s0, s1] M S := go_nx rfl rfl
set_option maxRecDepth 20000 in
theorem g179_343 (r : Nat) (l0 l1 l2 : Option AV) (s0 s1 s2 : AV) (x : Int) (M : Mem) (S : Sh) : go r 179 343 [l0, l1, l2, some (aI x)] [s0, s1, s2] M S = go r 179 344 [l0, l1, l2, some (aI x)] [aI x, s0, s1, s2] M S := go_nx rfl rfl
set_option maxRecDepth 20000 in
theorem g179_344 (r : Nat) (l0 l1 l2 l3 : Option AV) (s0 s1 s2 s3 : AV) (M : Mem) (S : Sh) : go r 179 344 [l0, l1, l2, l3] [s0, s1, s2, s3] M S = go r 179 345 [l0, l1, l2, l3] [aI 2, s0, s1, s2, s3] M S := go_nx rfl rfl
set_option maxRecDepth 20000 in
theorem g179_345 (r : Nat) (l0 l1 l2 l3 : Option AV) (s0 s1 s2 : AV) (x y : Int) (M : Mem) (S : Sh) : go r 179 345 [l0, l1, l2, l3] [aI y, aI x, s0, s1, s2] M S = go r 179 346 [l0, l1, l2, l3] [aI (w32 (x + y)), s0, s1, s2] M S := go_nx rfl rfl
set_option maxRecDepth 20000 in
theorem g179_346 (r : Nat) (l0 l1 l2 l3 : Option AV) (s0 s1 : AV) (x : Int) (a : Nat) (M : Mem) (S : Sh) (h : S.1 a = 7) (h0 : 0 ≤ x) (h1 : x < S.2.1 a) : go r 179 346 [l0, l1, l2, l3] [aI x, aR a, s0, s1] M S = go r 179 347 [l0, l1, l2, l3] [aI (M a x.toNat), s0, s1] M S := go_bnd rfl ⟨h, h0, h1⟩ rfl
set_option maxRecDepth 20000 in
theorem g179_347 (r : Nat) (l1 l2 l3 : Option AV) (s0 s1 s2 : AV) (a : Nat) (M : Mem) (S : Sh) : go r 179 347 [some (aR a), l1, l2, l3] [s0, s1, s2] M S = go r 179 348 [some (aR a), l1, l2, l3] [aR a, s0, s1, s2] M S := go_nx rfl rfl
set_option maxRecDepth 20000 in
theorem g179_347n (r : Nat) (l1 l2 l3 : Option AV) (s0 s1 s2 : AV) (M : Mem) (S : Sh) : go r 179 347 [some aN, l1, l2, l3] [s0, s1, s2] M S = go r 179 348 [some aN, l1, l2, l3] [aN, s0, s1, s2] M S := go_nx rfl rfl
set_option maxRecDepth 20000 in
theorem g179_348 (r : Nat) (l0 l1 l2 : Option AV) (s0 s1 s2 s3 : AV) (x : Int) (M : Mem) (S : Sh) : go r 179 348 [l0, l1, l2, some (aI x)] [s0, s1, s2, s3] M S = go r 179 349 [l0, l1, l2, some (aI x)] [aI x, s0, s1, s2, s3] M S := go_nx rfl rfl
set_option maxRecDepth 20000 in
theorem g179_349 (r : Nat) (l0 l1 l2 l3 : Option AV) (s0 s1 s2 s3 s4 : AV) (M : Mem) (S : Sh) : go r 179 349 [l0, l1, l2, l3] [s0, s1, s2, s3, s4] M S = go r 179 350 [l0, l1, l2, l3] [aI 3, s0, s1, s2, s3, s4] M S := go_nx rfl rfl
set_option maxRecDepth 20000 in
theorem g179_350 (r : Nat) (l0 l1 l2 l3 : Option AV) (s0 s1 s2 s3 : AV) (x y : Int) (M : Mem) (S : Sh) : go r 179 350 [l0, l1, l2, l3] [aI y, aI x, s0, s1, s2, s3] M S = go r 179 351 [l0, l1, l2, l3] [aI (w32 (x + y)), s0, s1, s2, s3] M S := go_nx rfl rfl
set_option maxRecDepth 20000 in
theorem g179_351 (r : Nat) (l0 l1 l2 l3 : Option AV) (s0 s1 s2 : AV) (x : Int) (a : Nat) (M : Mem) (S : Sh) (h : S.1 a = 7) (h0 : 0 ≤ x) (h1 : x < S.2.1 a) : go r 179 351 [l0, l1, l2, l3] [aI x, aR a, s0, s1, s2] M S = go r 179 352 [l0, l1, l2, l3] [aI (M a x.toNat), s0, s1, s2] M S := go_bnd rfl ⟨h, h0, h1⟩ rfl
set_option maxRecDepth 20000 in
theorem g179_352 (r : Nat) (l1 l2 l3 : Option AV) (s0 s1 s2 s3 : AV) (a : Nat) (M : Mem) (S : Sh) : go r 179 352 [some (aR a), l1, l2, l3] [s0, s1, s2, s3] M S = go r 179 353 [some (aR a), l1, l2, l3] [aR a, s0, s1, s2, s3] M S := go_nx rfl rfl
set_option maxRecDepth 20000 in
theorem g179_352n (r : Nat) (l1 l2 l3 : Option AV) (s0 s1 s2 s3 : AV) (M : Mem) (S : Sh) : go r 179 352 [some aN, l1, l2, l3] [s0, s1, s2, s3] M S = go r 179 353 [some aN, l1, l2, l3] [aN, s0, s1, s2, s3] M S := go_nx rfl rfl
set_option maxRecDepth 20000 in
theorem g179_353 (r : Nat) (l0 l1 l2 : Option AV) (s0 s1 s2 s3 s4 : AV) (x : Int) (M : Mem) (S : Sh) : go r 179 353 [l0, l1, l2, some (aI x)] [s0, s1, s2, s3, s4] M S = go r 179 354 [l0, l1, l2, some (aI x)] [aI x, s0, s1, s2, s3, s4] M S := go_nx rfl rfl
set_option maxRecDepth 20000 in
theorem g179_354 (r : Nat) (l0 l1 l2 l3 : Option AV) (s0 s1 s2 s3 s4 s5 : AV) (M : Mem) (S : Sh) : go r 179 354 [l0, l1, l2, l3] [s0, s1, s2, s3, s4, s5] M S = go r 179 355 [l0, l1, l2, l3] [aI 4, s0, s1, s2, s3, s4, s5] M S := go_nx rfl rfl
set_option maxRecDepth 20000 in
theorem g179_355 (r : Nat) (l0 l1 l2 l3 : Option AV) (s0 s1 s2 s3 s4 : AV) (x y : Int) (M : Mem) (S : Sh) : go r 179 355 [l0, l1, l2, l3] [aI y, aI x, s0, s1, s2, s3, s4] M S = go r 179 356 [l0, l1, l2, l3] [aI (w32 (x + y)), s0, s1, s2, s3, s4] M S := go_nx rfl rfl
set_option maxRecDepth 20000 in
theorem g179_356 (r : Nat) (l0 l1 l2 l3 : Option AV) (s0 s1 s2 s3 : AV) (x : Int) (a : Nat) (M : Mem) (S : Sh) (h : S.1 a = 7) (h0 : 0 ≤ x) (h1 : x < S.2.1 a) : go r 179 356 [l0, l1, l2, l3] [aI x, aR a, s0, s1, s2, s3] M S = go r 179 357 [l0, l1, l2, l3] [aI (M a x.toNat), s0, s1, s2, s3] M S := go_bnd rfl ⟨h, h0, h1⟩ rfl
set_option maxRecDepth 20000 in
theorem g179_357 (r : Nat) (l1 l2 l3 : Option AV) (s0 s1 s2 s3 s4 : AV) (a : Nat) (M : Mem) (S : Sh) : go r 179 357 [some (aR a), l1, l2, l3] [s0, s1, s2, s3, s4] M S = go r 179 358 [some (aR a), l1, l2, l3] [aR a, s0, s1, s2, s3, s4] M S := go_nx rfl rfl
set_option maxRecDepth 20000 in
theorem g179_357n (r : Nat) (l1 l2 l3 : Option AV) (s0 s1 s2 s3 s4 : AV) (M : Mem) (S : Sh) : go r 179 357 [some aN, l1, l2, l3] [s0, s1, s2, s3, s4] M S = go r 179 358 [some aN, l1, l2, l3] [aN, s0, s1, s2, s3, s4] M S := go_nx rfl rfl
set_option maxRecDepth 20000 in
theorem g179_358 (r : Nat) (l0 l1 l2 : Option AV) (s0 s1 s2 s3 s4 s5 : AV) (x : Int) (M : Mem) (S : Sh) : go r 179 358 [l0, l1, l2, some (aI x)] [s0, s1, s2, s3, s4, s5] M S = go r 179 359 [l0, l1, l2, some (aI x)] [aI x, s0, s1, s2, s3, s4, s5] M S := go_nx rfl rfl
set_option maxRecDepth 20000 in
theorem g179_359 (r : Nat) (l0 l1 l2 l3 : Option AV) (s0 s1 s2 s3 s4 s5 s6 : AV) (M : Mem) (S : Sh) : go r 179 359 [l0, l1, l2, l3] [s0, s1, s2, s3, s4, s5, s6] M S = go r 179 360 [l0, l1, l2, l3] [aI 5, s0, s1, s2, s3, s4, s5, s6] M S := go_nx rfl rfl
set_option maxRecDepth 20000 in
theorem g179_360 (r : Nat) (l0 l1 l2 l3 : Option AV) (s0 s1 s2 s3 s4 s5 : AV) (x y : Int) (M : Mem) (S : Sh) : go r 179 360 [l0, l1, l2, l3] [aI y, aI x, s0, s1, s2, s3, s4, s5] M S = go r 179 361 [l0, l1, l2, l3] [aI (w32 (x + y)), s0, s1, s2, s3, s4, s5] M S := go_nx rfl rfl
set_option maxRecDepth 20000 in
theorem g179_361 (r : Nat) (l0 l1 l2 l3 : Option AV) (s0 s1 s2 s3 s4 : AV) (x : Int) (a : Nat) (M : Mem) (S : Sh) (h : S.1 a = 7) (h0 : 0 ≤ x) (h1 : x < S.2.1 a) : go r 179 361 [l0, l1, l2, l3] [aI x, aR a, s0, s1, s2, s3, s4] M S = go r 179 362 [l0, l1, l2, l3] [aI (M a x.toNat), s0, s1, s2, s3, s4] M S := go_bnd rfl ⟨h, h0, h1⟩ rfl
set_option maxRecDepth 20000 in
theorem g179_362 (r : Nat) (l1 l2 l3 : Option AV) (s0 s1 s2 s3 s4 s5 : AV) (a : Nat) (M : Mem) (S : Sh) : go r 179 362 [some (aR a), l1, l2, l3] [s0, s1, s2, s3, s4, s5] M S = go r 179 363 [some (aR a), l1, l2, l3] [aR a, s0, s1, s2, s3, s4, s5] M S := go_nx rfl rfl
set_option maxRecDepth 20000 in
theorem g179_362n (r : Nat) (l1 l2 l3 : Option AV) (s0 s1 s2 s3 s4 s5 : AV) (M : Mem) (S : Sh) : go r 179 362 [some aN, l1, l2, l3] [s0, s1, s2, s3, s4, s5] M S = go r 179 363 [some aN, l1, l2, l3] [aN, s0, s1, s2, s3, s4, s5] M S := go_nx rfl rfl
set_option maxRecDepth 20000 in
theorem g179_363 (r : Nat) (l0 l1 l2 : Option AV) (s0 s1 s2 s3 s4 s5 s6 : AV) (x : Int) (M : Mem) (S : Sh) : go r 179 363 [l0, l1, l2, some (aI x)] [s0, s1, s2, s3, s4, s5, s6] M S = go r 179 364 [l0, l1, l2, some (aI x)] [aI x, s0, s1, s2, s3, s4, s5, s6] M S := go_nx rfl rfl
set_option maxRecDepth 20000 in
theorem g179_364 (r : Nat) (l0 l1 l2 l3 : Option AV) (s0 s1 s2 s3 s4 s5 s6 s7 : AV) (M : Mem) (S : Sh) : go r 179 364 [l0, l1, l2, l3] [s0, s1, s2, s3, s4, s5, s6, s7] M S = go r 179 366 [l0, l1, l2, l3] [aI 6, s0, s1, s2, s3, s4, s5, s6, s7] M S := go_nx rfl rfl
set_option maxRecDepth 20000 in
theorem g179_366 (r : Nat) (l0 l1 l2 l3 : Option AV) (s0 s1 s2 s3 s4 s5 s6 : AV) (x y : Int) (M : Mem) (S : Sh) : go r 179 366 [l0, l1, l2, l3] [aI y, aI x, s0, s1, s2, s3, s4, s5, s6] M S = go r 179 367 [l0, l1, l2, l3] [aI (w32 (x + y)), s0, s1, s2, s3, s4, s5, s6] M S := go_nx rfl rfl
set_option maxRecDepth 20000 in
theorem g179_367 (r : Nat) (l0 l1 l2 l3 : Option AV) (s0 s1 s2 s3 s4 s5 : AV) (x : Int) (a : Nat) (M : Mem) (S : Sh) (h : S.1 a = 7) (h0 : 0 ≤ x) (h1 : x < S.2.1 a) : go r 179 367 [l0, l1, l2, l3] [aI x, aR a, s0, s1, s2, s3, s4, s5] M S = go r 179 368 [l0, l1, l2, l3] [aI (M a x.toNat), s0, s1, s2, s3, s4, s5] M S := go_bnd rfl ⟨h, h0, h1⟩ rfl
set_option maxRecDepth 20000 in
theorem g179_368 (r : Nat) (l0 l1 l2 l3 : Option AV) (x1 x2 x3 x4 x5 x6 : Int) (a0 : Nat) (M : Mem) (S : Sh) (hk : 11 < r) (h : S.1 a0 = 5) : go r 179 368 [l0, l1, l2, l3] [aI x6, aI x5, aI x4, aI x3, aI x2, aI x1, aR a0] M S = cont r 179 371 [l0, l1, l2, l3] [] 1 (res 49 [aR a0, aI x1, aI x2, aI x3, aI x4, aI x5, aI x6] M S) := go_cr0 (m' := 49) (n := 7) (pc' := 371) (hr := 1) rfl rfl rfl h rfl rfl rfl rfl hk rfl
set_option maxRecDepth 20000 in
theorem g179_371 (r : Nat) (l0 l1 l3 : Option AV) (s0 : AV) (a : Nat) (M : Mem) (S : Sh) : go r 179 371 [l0, l1, some (aR a), l3] [s0] M S = go r 179 372 [l0, l1, some (aR a), l3] [aR a, s0] M S := go_nx rfl rfl
set_option maxRecDepth 20000 in
theorem g179_371n (r : Nat) (l0 l1 l3 : Option AV) (s0 : AV) (M : Mem) (S : Sh) : go r 179 371 [l0, l1, some aN, l3] [s0] M S = go r 179 372 [l0, l1, some aN, l3] [aN, s0] M S := go_nx rfl rfl
set_option maxRecDepth 20000 in
theorem g179_372 (r : Nat) (l1 l2 l3 : Option AV) (s0 s1 : AV) (a : Nat) (M : Mem) (S : Sh) : go r 179 372 [some (aR a), l1, l2, l3] [s0, s1] M S = go r 179 373 [some (aR a), l1, l2, l3] [aR a, s0, s1] M S := go_nx rfl rfl
set_option maxRecDepth 20000 in
theorem g179_372n (r : Nat) (l1 l2 l3 : Option AV) (s0 s1 : AV) (M : Mem) (S : Sh) : go r 179 372 [some aN, l1, l2, l3] [s0, s1] M S = go r 179 373 [some aN, l1, l2, l3] [aN, s0, s1] M S := go_nx rfl rfl
set_option maxRecDepth 20000 in
theorem g179_373 (r : Nat) (l0 l1 l2 : Option AV) (s0 s1 s2 : AV) (x : Int) (M : Mem) (S : Sh) : go r 179 373 [l0, l1, l2, some (aI x)] [s0, s1, s2] M S = go r 179 374 [l0, l1, l2, some (aI x)] [aI x, s0, s1, s2] M S := go_nx rfl rfl
set_option maxRecDepth 20000 in
theorem g179_374 (r : Nat) (l0 l1 l2 l3 : Option AV) (s0 s1 s2 s3 : AV) (M : Mem) (S : Sh) : go r 179 374 [l0, l1, l2, l3] [s0, s1, s2, s3] M S = go r 179 375 [l0, l1, l2, l3] [aI 1, s0, s1, s2, s3] M S := go_nx rfl rfl
set_option maxRecDepth 20000 in
theorem g179_375 (r : Nat) (l0 l1 l2 l3 : Option AV) (s0 s1 s2 : AV) (x y : Int) (M : Mem) (S : Sh) : go r 179 375 [l0, l1, l2, l3] [aI y, aI x, s0, s1, s2] M S = go r 179 376 [l0, l1, l2, l3] [aI (w32 (x + y)), s0, s1, s2] M S := go_nx rfl rfl
set_option maxRecDepth 20000 in
theorem g179_376 (r : Nat) (l0 l1 l2 l3 : Option AV) (s0 s1 : AV) (x : Int) (a : Nat) (M : Mem) (S : Sh) (h : S.1 a = 7) (h0 : 0 ≤ x) (h1 : x < S.2.1 a) : go r 179 376 [l0, l1, l2, l3] [aI x, aR a, s0, s1] M S = go r 179 377 [l0, l1, l2, l3] [aI (M a x.toNat), s0, s1] M S := go_bnd rfl ⟨h, h0, h1⟩ rfl
set_option maxRecDepth 20000 in
theorem g179_377 (r : Nat) (l1 l2 l3 : Option AV) (s0 s1 s2 : AV) (a : Nat) (M : Mem) (S : Sh) : go r 179 377 [some (aR a), l1, l2, l3] [s0, s1, s2] M S = go r 179 378 [some (aR a), l1, l2, l3] [aR a, s0, s1, s2] M S := go_nx rfl rfl
set_option maxRecDepth 20000 in
theorem g179_377n (r : Nat) (l1 l2 l3 : Option AV) (s0 s1 s2 : AV) (M : Mem) (S : Sh) : go r 179 377 [some aN, l1, l2, l3] [s0, s1, s2] M S = go r 179 378 [some aN, l1, l2, l3] [aN, s0, s1, s2] M S := go_nx rfl rfl
set_option maxRecDepth 20000 in
theorem g179_378 (r : Nat) (l0 l1 l2 : Option AV) (s0 s1 s2 s3 : AV) (x : Int) (M : Mem) (S : Sh) : go r 179 378 [l0, l1, l2, some (aI x)] [s0, s1, s2, s3] M S = go r 179 379 [l0, l1, l2, some (aI x)] [aI x, s0, s1, s2, s3] M S := go_nx rfl rfl
set_option maxRecDepth 20000 in
theorem g179_379 (r : Nat) (l0 l1 l2 l3 : Option AV) (s0 s1 s2 s3 s4 : AV) (M : Mem) (S : Sh) : go r 179 379 [l0, l1, l2, l3] [s0, s1, s2, s3, s4] M S = go r 179 380 [l0, l1, l2, l3] [aI 2, s0, s1, s2, s3, s4] M S := go_nx rfl rfl
set_option maxRecDepth 20000 in
theorem g179_380 (r : Nat) (l0 l1 l2 l3 : Option AV) (s0 s1 s2 s3 : AV) (x y : Int) (M : Mem) (S : Sh) : go r 179 380 [l0, l1, l2, l3] [aI y, aI x, s0, s1, s2, s3] M S = go r 179 381 [l0, l1, l2, l3] [aI (w32 (x + y)), s0, s1, s2, s3] M S := go_nx rfl rfl
set_option maxRecDepth 20000 in
theorem g179_381 (r : Nat) (l0 l1 l2 l3 : Option AV) (s0 s1 s2 : AV) (x : Int) (a : Nat) (M : Mem) (S : Sh) (h : S.1 a = 7) (h0 : 0 ≤ x) (h1 : x < S.2.1 a) : go r 179 381 [l0, l1, l2, l3] [aI x, aR a, s0, s1, s2] M S = go r 179 382 [l0, l1, l2, l3] [aI (M a x.toNat), s0, s1, s2] M S := go_bnd rfl ⟨h, h0, h1⟩ rfl
set_option maxRecDepth 20000 in
theorem g179_382 (r : Nat) (l1 l2 l3 : Option AV) (s0 s1 s2 s3 : AV) (a : Nat) (M : Mem) (S : Sh) : go r 179 382 [some (aR a), l1, l2, l3] [s0, s1, s2, s3] M S = go r 179 383 [some (aR a), l1, l2, l3] [aR a, s0, s1, s2, s3] M S := go_nx rfl rfl
set_option maxRecDepth 20000 in
theorem g179_382n (r : Nat) (l1 l2 l3 : Option AV) (s0 s1 s2 s3 : AV) (M : Mem) (S : Sh) : go r 179 382 [some aN, l1, l2, l3] [s0, s1, s2, s3] M S = go r 179 383 [some aN, l1, l2, l3] [aN, s0, s1, s2, s3] M S := go_nx rfl rfl
set_option maxRecDepth 20000 in
theorem g179_383 (r : Nat) (l0 l1 l2 : Option AV) (s0 s1 s2 s3 s4 : AV) (x : Int) (M : Mem) (S : Sh) : go r 179 383 [l0, l1, l2, some (aI x)] [s0, s1, s2, s3, s4] M S = go r 179 384 [l0, l1, l2, some (aI x)] [aI x, s0, s1, s2, s3, s4] M S := go_nx rfl rfl
set_option maxRecDepth 20000 in
theorem g179_384 (r : Nat) (l0 l1 l2 l3 : Option AV) (s0 s1 s2 s3 s4 s5 : AV) (M : Mem) (S : Sh) : go r 179 384 [l0, l1, l2, l3] [s0, s1, s2, s3, s4, s5] M S = go r 179 385 [l0, l1, l2, l3] [aI 3, s0, s1, s2, s3, s4, s5] M S := go_nx rfl rfl
set_option maxRecDepth 20000 in
theorem g179_385 (r : Nat) (l0 l1 l2 l3 : Option AV) (s0 s1 s2 s3 s4 : AV) (x y : Int) (M : Mem) (S : Sh) : go r 179 385 [l0, l1, l2, l3] [aI y, aI x, s0, s1, s2, s3, s4] M S = go r 179 386 [l0, l1, l2, l3] [aI (w32 (x + y)), s0, s1, s2, s3, s4] M S := go_nx rfl rfl
set_option maxRecDepth 20000 in
theorem g179_386 (r : Nat) (l0 l1 l2 l3 : Option AV) (s0 s1 s2 s3 : AV) (x : Int) (a : Nat) (M : Mem) (S : Sh) (h : S.1 a = 7) (h0 : 0 ≤ x) (h1 : x < S.2.1 a) : go r 179 386 [l0, l1, l2, l3] [aI x, aR a, s0, s1, s2, s3] M S = go r 179 387 [l0, l1, l2, l3] [aI (M a x.toNat), s0, s1, s2, s3] M S := go_bnd rfl ⟨h, h0, h1⟩ rfl
set_option maxRecDepth 20000 in
theorem g179_387 (r : Nat) (l1 l2 l3 : Option AV) (s0 s1 s2 s3 s4 : AV) (a : Nat) (M : Mem) (S : Sh) : go r 179 387 [some (aR a), l1, l2, l3] [s0, s1, s2, s3, s4] M S = go r 179 388 [some (aR a), l1, l2, l3] [aR a, s0, s1, s2, s3, s4] M S := go_nx rfl rfl
set_option maxRecDepth 20000 in
theorem g179_387n (r : Nat) (l1 l2 l3 : Option AV) (s0 s1 s2 s3 s4 : AV) (M : Mem) (S : Sh) : go r 179 387 [some aN, l1, l2, l3] [s0, s1, s2, s3, s4] M S = go r 179 388 [some aN, l1, l2, l3] [aN, s0, s1, s2, s3, s4] M S := go_nx rfl rfl
set_option maxRecDepth 20000 in
theorem g179_388 (r : Nat) (l0 l1 l2 : Option AV) (s0 s1 s2 s3 s4 s5 : AV) (x : Int) (M : Mem) (S : Sh) : go r 179 388 [l0, l1, l2, some (aI x)] [s0, s1, s2, s3, s4, s5] M S = go r 179 389 [l0, l1, l2, some (aI x)] [aI x, s0, s1, s2, s3, s4, s5] M S := go_nx rfl rfl
set_option maxRecDepth 20000 in
theorem g179_389 (r : Nat) (l0 l1 l2 l3 : Option AV) (s0 s1 s2 s3 s4 s5 s6 : AV) (M : Mem) (S : Sh) : go r 179 389 [l0, l1, l2, l3] [s0, s1, s2, s3, s4, s5, s6] M S = go r 179 390 [l0, l1, l2, l3] [aI 4, s0, s1, s2, s3, s4, s5, s6] M S := go_nx rfl rfl
set_option maxRecDepth 20000 in
theorem g179_390 (r : Nat) (l0 l1 l2 l3 : Option AV) (s0 s1 s2 s3 s4 s5 : AV) (x y : Int) (M : Mem) (S : Sh) : go r 179 390 [l0, l1, l2, l3] [aI y, aI x, s0, s1, s2, s3, s4, s5] M S = go r 179 391 [l0, l1, l2, l3] [aI (w32 (x + y)), s0, s1, s2, s3, s4, s5] M S := go_nx rfl rfl
set_option maxRecDepth 20000 in
theorem g179_391 (r : Nat) (l0 l1 l2 l3 : Option AV) (s0 s1 s2 s3 s4 : AV) (x : Int) (a : Nat) (M : Mem) (S : Sh) (h : S.1 a = 7) (h0 : 0 ≤ x) (h1 : x < S.2.1 a) : go r 179 391 [l0, l1, l2, l3] [aI x, aR a, s0, s1, s2, s3, s4] M S = go r 179 392 [l0, l1, l2, l3] [aI (M a x.toNat), s0, s1, s2, s3, s4] M S := go_bnd rfl ⟨h, h0, h1⟩ rfl
set_option maxRecDepth 20000 in
theorem g179_392 (r : Nat) (l1 l2 l3 : Option AV) (s0 s1 s2 s3 s4 s5 : AV) (a : Nat) (M : Mem) (S : Sh) : go r 179 392 [some (aR a), l1, l2, l3] [s0, s1, s2, s3, s4, s5] M S = go r 179 393 [some (aR a), l1, l2, l3] [aR a, s0, s1, s2, s3, s4, s5] M S := go_nx rfl rfl
set_option maxRecDepth 20000 in
theorem g179_392n (r : Nat) (l1 l2 l3 : Option AV) (s0 s1 s2 s3 s4 s5 : AV) (M : Mem) (S : Sh) : go r 179 392 [some aN, l1, l2, l3] [s0, s1, s2, s3, s4, s5] M S = go r 179 393 [some aN, l1, l2, l3] [aN, s0, s1, s2, s3, s4, s5] M S := go_nx rfl rfl
set_option maxRecDepth 20000 in
theorem g179_393 (r : Nat) (l0 l1 l2 : Option AV) (s0 s1 s2 s3 s4 s5 s6 : AV) (x : Int) (M : Mem) (S : Sh) : go r 179 393 [l0, l1, l2, some (aI x)] [s0, s1, s2, s3, s4, s5, s6] M S = go r 179 394 [l0, l1, l2, some (aI x)] [aI x, s0, s1, s2, s3, s4, s5, s6] M S := go_nx rfl rfl
set_option maxRecDepth 20000 in
theorem g179_394 (r : Nat) (l0 l1 l2 l3 : Option AV) (s0 s1 s2 s3 s4 s5 s6 s7 : AV) (M : Mem) (S : Sh) : go r 179 394 [l0, l1, l2, l3] [s0, s1, s2, s3, s4, s5, s6, s7] M S = go r 179 395 [l0, l1, l2, l3] [aI 5, s0, s1, s2, s3, s4, s5, s6, s7] M S := go_nx rfl rfl
set_option maxRecDepth 20000 in
theorem g179_395 (r : Nat) (l0 l1 l2 l3 : Option AV) (s0 s1 s2 s3 s4 s5 s6 : AV) (x y : Int) (M : Mem) (S : Sh) : go r 179 395 [l0, l1, l2, l3] [aI y, aI x, s0, s1, s2, s3, s4, s5, s6] M S = go r 179 396 [l0, l1, l2, l3] [aI (w32 (x + y)), s0, s1, s2, s3, s4, s5, s6] M S := go_nx rfl rfl
set_option maxRecDepth 20000 in
theorem g179_396 (r : Nat) (l0 l1 l2 l3 : Option AV) (s0 s1 s2 s3 s4 s5 : AV) (x : Int) (a : Nat) (M : Mem) (S : Sh) (h : S.1 a = 7) (h0 : 0 ≤ x) (h1 : x < S.2.1 a) : go r 179 396 [l0, l1, l2, l3] [aI x, aR a, s0, s1, s2, s3, s4, s5] M S = go r 179 397 [l0, l1, l2, l3] [aI (M a x.toNat), s0, s1, s2, s3, s4, s5] M S := go_bnd rfl ⟨h, h0, h1⟩ rfl
set_option maxRecDepth 20000 in
theorem g179_397 (r : Nat) (l1 l2 l3 : Option AV) (s0 s1 s2 s3 s4 s5 s6 : AV) (a : Nat) (M : Mem) (S : Sh) : go r 179 397 [some (aR a), l1, l2, l3] [s0, s1, s2, s3, s4, s5, s6] M S = go r 179 398 [some (aR a), l1, l2, l3] [aR a, s0, s1, s2, s3, s4, s5, s6] M S := go_nx rfl rfl
set_option maxRecDepth 20000 in
theorem g179_397n (r : Nat) (l1 l2 l3 : Option AV) (s0 s1 s2 s3 s4 s5 s6 : AV) (M : Mem) (S : Sh) : go r 179 397 [some aN, l1, l2, l3] [s0, s1, s2, s3, s4, s5, s6] M S = go r 179 398 [some aN, l1, l2, l3] [aN, s0, s1, s2, s3, s4, s5, s6] M S := go_nx rfl rfl
set_option maxRecDepth 20000 in
theorem g179_398 (r : Nat) (l0 l1 l2 : Option AV) (s0 s1 s2 s3 s4 s5 s6 s7 : AV) (x : Int) (M : Mem) (S : Sh) : go r 179 398 [l0, l1, l2, some (aI x)] [s0, s1, s2, s3, s4, s5, s6, s7] M S = go r 179 399 [l0, l1, l2, some (aI x)] [aI x, s0, s1, s2, s3, s4, s5, s6, s7] M S := go_nx rfl rfl
set_option maxRecDepth 20000 in
theorem g179_399 (r : Nat) (l0 l1 l2 l3 : Option AV) (s0 s1 s2 s3 s4 s5 s6 s7 s8 : AV) (M : Mem) (S : Sh) : go r 179 399 [l0, l1, l2, l3] [s0, s1, s2, s3, s4, s5, s6, s7, s8] M S = go r 179 401 [l0, l1, l2, l3] [aI 6, s0, s1, s2, s3, s4, s5, s6, s7, s8] M S := go_nx rfl rfl
set_option maxRecDepth 20000 in
theorem g179_401 (r : Nat) (l0 l1 l2 l3 : Option AV) (s0 s1 s2 s3 s4 s5 s6 s7 : AV) (x y : Int) (M : Mem) (S : Sh) : go r 179 401 [l0, l1, l2, l3] [aI y, aI x, s0, s1, s2, s3, s4, s5, s6, s7] M S = go r 179 402 [l0, l1, l2, l3] [aI (w32 (x + y)), s0, s1, s2, s3, s4, s5, s6, s7] M S := go_nx rfl rfl
set_option maxRecDepth 20000 in
theorem g179_402 (r : Nat) (l0 l1 l2 l3 : Option AV) (s0 s1 s2 s3 s4 s5 s6 : AV) (x : Int) (a : Nat) (M : Mem) (S : Sh) (h : S.1 a = 7) (h0 : 0 ≤ x) (h1 : x < S.2.1 a) : go r 179 402 [l0, l1, l2, l3] [aI x, aR a, s0, s1, s2, s3, s4, s5, s6] M S = go r 179 403 [l0, l1, l2, l3] [aI (M a x.toNat), s0, s1, s2, s3, s4, s5, s6] M S := go_bnd rfl ⟨h, h0, h1⟩ rfl
set_option maxRecDepth 20000 in
theorem g179_403 (r : Nat) (l0 l1 l2 l3 : Option AV) (s0 : AV) (x1 x2 x3 x4 x5 x6 : Int) (a0 : Nat) (M : Mem) (S : Sh) (hk : 12 < r) (h : S.1 a0 = 6) : go r 179 403 [l0, l1, l2, l3] [aI x6, aI x5, aI x4, aI x3, aI x2, aI x1, aR a0, s0] M S = cont r 179 406 [l0, l1, l2, l3] [s0] 1 (res 115 [aR a0, aI x1, aI x2, aI x3, aI x4, aI x5, aI x6] M S) := go_cr0 (m' := 115) (n := 7) (pc' := 406) (hr := 1) rfl rfl rfl h rfl rfl rfl rfl hk rfl
set_option maxRecDepth 20000 in
theorem g179_406 (r : Nat) (l0 l1 l2 l3 : Option AV) (x y : Int) (M : Mem) (S : Sh) : go r 179 406 [l0, l1, l2, l3] [aI y, aI x] M S = if x = y then go r 179 1514 [l0, l1, l2, l3] [] M S else go r 179 409 [l0, l1, l2, l3] [] M S := go_br rfl rfl rfl rfl rfl
set_option maxRecDepth 20000 in
theorem g179_409 (r : Nat) (l0 l1 l2 l3 : Option AV) (M : Mem) (S : Sh) : go r 179 409 [l0, l1, l2, l3] [] M S = go r 179 410 [l0, l1, l2, l3] [aI 0] M S := go_nx rfl rfl
set_option maxRecDepth 20000 in
theorem g179_410 (r : Nat) (l0 l1 l2 l3 : Option AV) (x : Int) (M : Mem) (S : Sh) (h : x = 0 ∨ x = 1) : go r 179 410 [l0, l1, l2, l3] [aI x] M S = some (some (aI x), M, S) := go_rt rfl (bnd_t (Or.inr h))
set_option maxRecDepth 20000 in
theorem g179_411 (r : Nat) (l0 l2 l3 : Option AV) (a : Nat) (M : Mem) (S : Sh) : go r 179 411 [l0, some (aR a), l2, l3] [] M S = go r 179 412 [l0, some (aR a), l2, l3] [aR a] M S := go_nx rfl rfl
set_option maxRecDepth 20000 in
theorem g179_411n (r : Nat) (l0 l2 l3 : Option AV) (M : Mem) (S : Sh) : go r 179 411 [l0, some aN, l2, l3] [] M S = go r 179 412 [l0, some aN, l2, l3] [aN] M S := go_nx rfl rfl
set_option maxRecDepth 20000 in
theorem g179_412 (r : Nat) (l0 l1 l2 l3 : Option AV) (a0 : Nat) (M : Mem) (S : Sh) (hk : 69 < r) (h : S.1 a0 = 5) : go r 179 412 [l0, l1, l2, l3] [aR a0] M S = cont r 179 415 [l0, l1, l2, l3] [] 1 (res 50 [aR a0] M S) := go_cr0 (m' := 50) (n := 1) (pc' := 415) (hr := 1) rfl rfl rfl h rfl rfl rfl rfl hk rfl
set_option maxRecDepth 20000 in
theorem g179_415 (r : Nat) (l0 l1 l3 : Option AV) (s0 : AV) (a : Nat) (M : Mem) (S : Sh) : go r 179 415 [l0, l1, some (aR a), l3] [s0] M S = go r 179 416 [l0, l1, some (aR a), l3] [aR a, s0] M S := go_nx rfl rfl
set_option maxRecDepth 20000 in
theorem g179_415n (r : Nat) (l0 l1 l3 : Option AV) (s0 : AV) (M : Mem) (S : Sh) : go r 179 415 [l0, l1, some aN, l3] [s0] M S = go r 179 416 [l0, l1, some aN, l3] [aN, s0] M S := go_nx rfl rfl
set_option maxRecDepth 20000 in
theorem g179_416 (r : Nat) (l0 l1 l2 l3 : Option AV) (s0 : AV) (a0 : Nat) (M : Mem) (S : Sh) (hk : 14 < r) (h : S.1 a0 = 6) : go r 179 416 [l0, l1, l2, l3] [aR a0, s0] M S = cont r 179 419 [l0, l1, l2, l3] [s0] 1 (res 126 [aR a0] M S) := go_cr0 (m' := 126) (n := 1) (pc' := 419) (hr := 1) rfl rfl rfl h rfl rfl rfl rfl hk rfl
set_option maxRecDepth 20000 in
theorem g179_419 (r : Nat) (l0 l1 l2 l3 : Option AV) (x y : Int) (M : Mem) (S : Sh) : go r 179 419 [l0, l1, l2, l3] [aI y, aI x] M S = if x = y then go r 179 1514 [l0, l1, l2, l3] [] M S else go r 179 422 [l0, l1, l2, l3] [] M S := go_br rfl rfl rfl rfl rfl
set_option maxRecDepth 20000 in
theorem g179_422 (r : Nat) (l0 l1 l2 l3 : Option AV) (M : Mem) (S : Sh) : go r 179 422 [l0, l1, l2, l3] [] M S = go r 179 423 [l0, l1, l2, l3] [aI 0] M S := go_nx rfl rfl
set_option maxRecDepth 20000 in
theorem g179_423 (r : Nat) (l0 l1 l2 l3 : Option AV) (x : Int) (M : Mem) (S : Sh) (h : x = 0 ∨ x = 1) : go r 179 423 [l0, l1, l2, l3] [aI x] M S = some (some (aI x), M, S) := go_rt rfl (bnd_t (Or.inr h))
set_option maxRecDepth 20000 in
theorem g179_424 (r : Nat) (l0 l2 l3 : Option AV) (a : Nat) (M : Mem) (S : Sh) : go r 179 424 [l0, some (aR a), l2, l3] [] M S = go r 179 425 [l0, some (aR a), l2, l3] [aR a] M S := go_nx rfl rfl
set_option maxRecDepth 20000 in
theorem g179_424n (r : Nat) (l0 l2 l3 : Option AV) (M : Mem) (S : Sh) : go r 179 424 [l0, some aN, l2, l3] [] M S = go r 179 425 [l0, some aN, l2, l3] [aN] M S := go_nx rfl rfl
set_option maxRecDepth 20000 in
theorem g179_425 (r : Nat) (l1 l2 l3 : Option AV) (s0 : AV) (a : Nat) (M : Mem) (S : Sh) : go r 179 425 [some (aR a), l1, l2, l3] [s0] M S = go r 179 426 [some (aR a), l1, l2, l3] [aR a, s0] M S := go_nx rfl rfl
set_option maxRecDepth 20000 in
theorem g179_425n (r : Nat) (l1 l2 l3 : Option AV) (s0 : AV) (M : Mem) (S : Sh) : go r 179 425 [some aN, l1, l2, l3] [s0] M S = go r 179 426 [some aN, l1, l2, l3] [aN, s0] M S := go_nx rfl rfl
set_option maxRecDepth 20000 in
theorem g179_426 (r : Nat) (l0 l1 l2 : Option AV) (s0 s1 : AV) (x : Int) (M : Mem) (S : Sh) : go r 179 426 [l0, l1, l2, some (aI x)] [s0, s1] M S = go r 179 427 [l0, l1, l2, some (aI x)] [aI x, s0, s1] M S := go_nx rfl rfl
set_option maxRecDepth 20000 in
theorem g179_427 (r : Nat) (l0 l1 l2 l3 : Option AV) (s0 s1 s2 : AV) (M : Mem) (S : Sh) : go r 179 427 [l0, l1, l2, l3] [s0, s1, s2] M S = go r 179 428 [l0, l1, l2, l3] [aI 1, s0, s1, s2] M S := go_nx rfl rfl
set_option maxRecDepth 20000 in
theorem g179_428 (r : Nat) (l0 l1 l2 l3 : Option AV) (s0 s1 : AV) (x y : Int) (M : Mem) (S : Sh) : go r 179 428 [l0, l1, l2, l3] [aI y, aI x, s0, s1] M S = go r 179 429 [l0, l1, l2, l3] [aI (w32 (x + y)), s0, s1] M S := go_nx rfl rfl
set_option maxRecDepth 20000 in
theorem g179_429 (r : Nat) (l0 l1 l2 l3 : Option AV) (s0 : AV) (x : Int) (a : Nat) (M : Mem) (S : Sh) (h : S.1 a = 7) (h0 : 0 ≤ x) (h1 : x < S.2.1 a) : go r 179 429 [l0, l1, l2, l3] [aI x, aR a, s0] M S = go r 179 430 [l0, l1, l2, l3] [aI (M a x.toNat), s0] M S := go_bnd rfl ⟨h, h0, h1⟩ rfl
set_option maxRecDepth 20000 in
theorem g179_430 (r : Nat) (l0 l1 l2 l3 : Option AV) (x1 : Int) (a0 : Nat) (M : Mem) (S : Sh) (hk : 10 < r) (h : S.1 a0 = 5) : go r 179 430 [l0, l1, l2, l3] [aI x1, aR a0] M S = cont r 179 433 [l0, l1, l2, l3] [] 1 (res 51 [aR a0, aI x1] M S) := go_cr0 (m' := 51) (n := 2) (pc' := 433) (hr := 1) rfl rfl rfl h rfl rfl rfl rfl hk rfl
set_option maxRecDepth 20000 in
theorem g179_433 (r : Nat) (l0 l1 l3 : Option AV) (s0 : AV) (a : Nat) (M : Mem) (S : Sh) : go r 179 433 [l0, l1, some (aR a), l3] [s0] M S = go r 179 434 [l0, l1, some (aR a), l3] [aR a, s0] M S := go_nx rfl rfl
set_option maxRecDepth 20000 in
theorem g179_433n (r : Nat) (l0 l1 l3 : Option AV) (s0 : AV) (M : Mem) (S : Sh) : go r 179 433 [l0, l1, some aN, l3] [s0] M S = go r 179 434 [l0, l1, some aN, l3] [aN, s0] M S := go_nx rfl rfl
set_option maxRecDepth 20000 in
theorem g179_434 (r : Nat) (l1 l2 l3 : Option AV) (s0 s1 : AV) (a : Nat) (M : Mem) (S : Sh) : go r 179 434 [some (aR a), l1, l2, l3] [s0, s1] M S = go r 179 435 [some (aR a), l1, l2, l3] [aR a, s0, s1] M S := go_nx rfl rfl
set_option maxRecDepth 20000 in
theorem g179_434n (r : Nat) (l1 l2 l3 : Option AV) (s0 s1 : AV) (M : Mem) (S : Sh) : go r 179 434 [some aN, l1, l2, l3] [s0, s1] M S = go r 179 435 [some aN, l1, l2, l3] [aN, s0, s1] M S := go_nx rfl rfl
set_option maxRecDepth 20000 in
theorem g179_435 (r : Nat) (l0 l1 l2 : Option AV) (s0 s1 s2 : AV) (x : Int) (M : Mem) (S : Sh) : go r 179 435 [l0, l1, l2, some (aI x)] [s0, s1, s2] M S = go r 179 436 [l0, l1, l2, some (aI x)] [aI x, s0, s1, s2] M S := go_nx rfl rfl
set_option maxRecDepth 20000 in
theorem g179_436 (r : Nat) (l0 l1 l2 l3 : Option AV) (s0 s1 s2 s3 : AV) (M : Mem) (S : Sh) : go r 179 436 [l0, l1, l2, l3] [s0, s1, s2, s3] M S = go r 179 437 [l0, l1, l2, l3] [aI 1, s0, s1, s2, s3] M S := go_nx rfl rfl
set_option maxRecDepth 20000 in
theorem g179_437 (r : Nat) (l0 l1 l2 l3 : Option AV) (s0 s1 s2 : AV) (x y : Int) (M : Mem) (S : Sh) : go r 179 437 [l0, l1, l2, l3] [aI y, aI x, s0, s1, s2] M S = go r 179 438 [l0, l1, l2, l3] [aI (w32 (x + y)), s0, s1, s2] M S := go_nx rfl rfl
set_option maxRecDepth 20000 in
theorem g179_438 (r : Nat) (l0 l1 l2 l3 : Option AV) (s0 s1 : AV) (x : Int) (a : Nat) (M : Mem) (S : Sh) (h : S.1 a = 7) (h0 : 0 ≤ x) (h1 : x < S.2.1 a) : go r 179 438 [l0, l1, l2, l3] [aI x, aR a, s0, s1] M S = go r 179 439 [l0, l1, l2, l3] [aI (M a x.toNat), s0, s1] M S := go_bnd rfl ⟨h, h0, h1⟩ rfl
set_option maxRecDepth 20000 in
theorem g179_439 (r : Nat) (l0 l1 l2 l3 : Option AV) (s0 : AV) (x1 : Int) (a0 : Nat) (M : Mem) (S : Sh) (hk : 11 < r) (h : S.1 a0 = 6) : go r 179 439 [l0, l1, l2, l3] [aI x1, aR a0, s0] M S = cont r 179 442 [l0, l1, l2, l3] [s0] 1 (res 129 [aR a0, aI x1] M S) := go_cr0 (m' := 129) (n := 2) (pc' := 442) (hr := 1) rfl rfl rfl h rfl rfl rfl rfl hk rfl
set_option maxRecDepth 20000 in
theorem g179_442 (r : Nat) (l0 l1 l2 l3 : Option AV) (x y : Int) (M : Mem) (S : Sh) : go r 179 442 [l0, l1, l2, l3] [aI y, aI x] M S = if x = y then go r 179 1514 [l0, l1, l2, l3] [] M S else go r 179 445 [l0, l1, l2, l3] [] M S := go_br rfl rfl rfl rfl rfl
set_option maxRecDepth 20000 in
theorem g179_445 (r : Nat) (l0 l1 l2 l3 : Option AV) (M : Mem) (S : Sh) : go r 179 445 [l0, l1, l2, l3] [] M S = go r 179 446 [l0, l1, l2, l3] [aI 0] M S := go_nx rfl rfl
set_option maxRecDepth 20000 in
theorem g179_446 (r : Nat) (l0 l1 l2 l3 : Option AV) (x : Int) (M : Mem) (S : Sh) (h : x = 0 ∨ x = 1) : go r 179 446 [l0, l1, l2, l3] [aI x] M S = some (some (aI x), M, S) := go_rt rfl (bnd_t (Or.inr h))
set_option maxRecDepth 20000 in
theorem g179_447 (r : Nat) (l0 l2 l3 : Option AV) (a : Nat) (M : Mem) (S : Sh) : go r 179 447 [l0, some (aR a), l2, l3] [] M S = go r 179 448 [l0, some (aR a), l2, l3] [aR a] M S := go_nx rfl rfl
set_option maxRecDepth 20000 in
theorem g179_447n (r : Nat) (l0 l2 l3 : Option AV) (M : Mem) (S : Sh) : go r 179 447 [l0, some aN, l2, l3] [] M S = go r 179 448 [l0, some aN, l2, l3] [aN] M S := go_nx rfl rfl
set_option maxRecDepth 20000 in
theorem g179_448 (r : Nat) (l1 l2 l3 : Option AV) (s0 : AV) (a : Nat) (M : Mem) (S : Sh) : go r 179 448 [some (aR a), l1, l2, l3] [s0] M S = go r 179 449 [some (aR a), l1, l2, l3] [aR a, s0] M S := go_nx rfl rfl
set_option maxRecDepth 20000 in
theorem g179_448n (r : Nat) (l1 l2 l3 : Option AV) (s0 : AV) (M : Mem) (S : Sh) : go r 179 448 [some aN, l1, l2, l3] [s0] M S = go r 179 449 [some aN, l1, l2, l3] [aN, s0] M S := go_nx rfl rfl
set_option maxRecDepth 20000 in
theorem g179_449 (r : Nat) (l0 l1 l2 : Option AV) (s0 s1 : AV) (x : Int) (M : Mem) (S : Sh) : go r 179 449 [l0, l1, l2, some (aI x)] [s0, s1] M S = go r 179 450 [l0, l1, l2, some (aI x)] [aI x, s0, s1] M S := go_nx rfl rfl
set_option maxRecDepth 20000 in
theorem g179_450 (r : Nat) (l0 l1 l2 l3 : Option AV) (s0 s1 s2 : AV) (M : Mem) (S : Sh) : go r 179 450 [l0, l1, l2, l3] [s0, s1, s2] M S = go r 179 451 [l0, l1, l2, l3] [aI 1, s0, s1, s2] M S := go_nx rfl rfl
set_option maxRecDepth 20000 in
theorem g179_451 (r : Nat) (l0 l1 l2 l3 : Option AV) (s0 s1 : AV) (x y : Int) (M : Mem) (S : Sh) : go r 179 451 [l0, l1, l2, l3] [aI y, aI x, s0, s1] M S = go r 179 452 [l0, l1, l2, l3] [aI (w32 (x + y)), s0, s1] M S := go_nx rfl rfl
set_option maxRecDepth 20000 in
theorem g179_452 (r : Nat) (l0 l1 l2 l3 : Option AV) (s0 : AV) (x : Int) (a : Nat) (M : Mem) (S : Sh) (h : S.1 a = 7) (h0 : 0 ≤ x) (h1 : x < S.2.1 a) : go r 179 452 [l0, l1, l2, l3] [aI x, aR a, s0] M S = go r 179 453 [l0, l1, l2, l3] [aI (M a x.toNat), s0] M S := go_bnd rfl ⟨h, h0, h1⟩ rfl
set_option maxRecDepth 20000 in
theorem g179_453 (r : Nat) (l1 l2 l3 : Option AV) (s0 s1 : AV) (a : Nat) (M : Mem) (S : Sh) : go r 179 453 [some (aR a), l1, l2, l3] [s0, s1] M S = go r 179 454 [some (aR a), l1, l2, l3] [aR a, s0, s1] M S := go_nx rfl rfl
set_option maxRecDepth 20000 in
theorem g179_453n (r : Nat) (l1 l2 l3 : Option AV) (s0 s1 : AV) (M : Mem) (S : Sh) : go r 179 453 [some aN, l1, l2, l3] [s0, s1] M S = go r 179 454 [some aN, l1, l2, l3] [aN, s0, s1] M S := go_nx rfl rfl
set_option maxRecDepth 20000 in
theorem g179_454 (r : Nat) (l0 l1 l2 : Option AV) (s0 s1 s2 : AV) (x : Int) (M : Mem) (S : Sh) : go r 179 454 [l0, l1, l2, some (aI x)] [s0, s1, s2] M S = go r 179 455 [l0, l1, l2, some (aI x)] [aI x, s0, s1, s2] M S := go_nx rfl rfl
set_option maxRecDepth 20000 in
theorem g179_455 (r : Nat) (l0 l1 l2 l3 : Option AV) (s0 s1 s2 s3 : AV) (M : Mem) (S : Sh) : go r 179 455 [l0, l1, l2, l3] [s0, s1, s2, s3] M S = go r 179 456 [l0, l1, l2, l3] [aI 2, s0, s1, s2, s3] M S := go_nx rfl rfl
set_option maxRecDepth 20000 in
theorem g179_456 (r : Nat) (l0 l1 l2 l3 : Option AV) (s0 s1 s2 : AV) (x y : Int) (M : Mem) (S : Sh) : go r 179 456 [l0, l1, l2, l3] [aI y, aI x, s0, s1, s2] M S = go r 179 457 [l0, l1, l2, l3] [aI (w32 (x + y)), s0, s1, s2] M S := go_nx rfl rfl
set_option maxRecDepth 20000 in
theorem g179_457 (r : Nat) (l0 l1 l2 l3 : Option AV) (s0 s1 : AV) (x : Int) (a : Nat) (M : Mem) (S : Sh) (h : S.1 a = 7) (h0 : 0 ≤ x) (h1 : x < S.2.1 a) : go r 179 457 [l0, l1, l2, l3] [aI x, aR a, s0, s1] M S = go r 179 458 [l0, l1, l2, l3] [aI (M a x.toNat), s0, s1] M S := go_bnd rfl ⟨h, h0, h1⟩ rfl
set_option maxRecDepth 20000 in
theorem g179_458 (r : Nat) (l1 l2 l3 : Option AV) (s0 s1 s2 : AV) (a : Nat) (M : Mem) (S : Sh) : go r 179 458 [some (aR a), l1, l2, l3] [s0, s1, s2] M S = go r 179 459 [some (aR a), l1, l2, l3] [aR a, s0, s1, s2] M S := go_nx rfl rfl
set_option maxRecDepth 20000 in
theorem g179_458n (r : Nat) (l1 l2 l3 : Option AV) (s0 s1 s2 : AV) (M : Mem) (S : Sh) : go r 179 458 [some aN, l1, l2, l3] [s0, s1, s2] M S = go r 179 459 [some aN, l1, l2, l3] [aN, s0, s1, s2] M S := go_nx rfl rfl
set_option maxRecDepth 20000 in
theorem g179_459 (r : Nat) (l0 l1 l2 : Option AV) (s0 s1 s2 s3 : AV) (x : Int) (M : Mem) (S : Sh) : go r 179 459 [l0, l1, l2, some (aI x)] [s0, s1, s2, s3] M S = go r 179 460 [l0, l1, l2, some (aI x)] [aI x, s0, s1, s2, s3] M S := go_nx rfl rfl
set_option maxRecDepth 20000 in
theorem g179_460 (r : Nat) (l0 l1 l2 l3 : Option AV) (s0 s1 s2 s3 s4 : AV) (M : Mem) (S : Sh) : go r 179 460 [l0, l1, l2, l3] [s0, s1, s2, s3, s4] M S = go r 179 461 [l0, l1, l2, l3] [aI 3, s0, s1, s2, s3, s4] M S := go_nx rfl rfl
set_option maxRecDepth 20000 in
theorem g179_461 (r : Nat) (l0 l1 l2 l3 : Option AV) (s0 s1 s2 s3 : AV) (x y : Int) (M : Mem) (S : Sh) : go r 179 461 [l0, l1, l2, l3] [aI y, aI x, s0, s1, s2, s3] M S = go r 179 462 [l0, l1, l2, l3] [aI (w32 (x + y)), s0, s1, s2, s3] M S := go_nx rfl rfl
set_option maxRecDepth 20000 in
theorem g179_462 (r : Nat) (l0 l1 l2 l3 : Option AV) (s0 s1 s2 : AV) (x : Int) (a : Nat) (M : Mem) (S : Sh) (h : S.1 a = 7) (h0 : 0 ≤ x) (h1 : x < S.2.1 a) : go r 179 462 [l0, l1, l2, l3] [aI x, aR a, s0, s1, s2] M S = go r 179 463 [l0, l1, l2, l3] [aI (M a x.toNat), s0, s1, s2] M S := go_bnd rfl ⟨h, h0, h1⟩ rfl
set_option maxRecDepth 20000 in
theorem g179_463 (r : Nat) (l1 l2 l3 : Option AV) (s0 s1 s2 s3 : AV) (a : Nat) (M : Mem) (S : Sh) : go r 179 463 [some (aR a), l1, l2, l3] [s0, s1, s2, s3] M S = go r 179 464 [some (aR a), l1, l2, l3] [aR a, s0, s1, s2, s3] M S := go_nx rfl rfl
set_option maxRecDepth 20000 in
theorem g179_463n (r : Nat) (l1 l2 l3 : Option AV) (s0 s1 s2 s3 : AV) (M : Mem) (S : Sh) : go r 179 463 [some aN, l1, l2, l3] [s0, s1, s2, s3] M S = go r 179 464 [some aN, l1, l2, l3] [aN, s0, s1, s2, s3] M S := go_nx rfl rfl
set_option maxRecDepth 20000 in
theorem g179_464 (r : Nat) (l0 l1 l2 : Option AV) (s0 s1 s2 s3 s4 : AV) (x : Int) (M : Mem) (S : Sh) : go r 179 464 [l0, l1, l2, some (aI x)] [s0, s1, s2, s3, s4] M S = go r 179 465 [l0, l1, l2, some (aI x)] [aI x, s0, s1, s2, s3, s4] M S := go_nx rfl rfl
set_option maxRecDepth 20000 in
theorem g179_465 (r : Nat) (l0 l1 l2 l3 : Option AV) (s0 s1 s2 s3 s4 s5 : AV) (M : Mem) (S : Sh) : go r 179 465 [l0, l1, l2, l3] [s0, s1, s2, s3, s4, s5] M S = go r 179 466 [l0, l1, l2, l3] [aI 4, s0, s1, s2, s3, s4, s5] M S := go_nx rfl rfl
set_option maxRecDepth 20000 in
theorem g179_466 (r : Nat) (l0 l1 l2 l3 : Option AV) (s0 s1 s2 s3 s4 : AV) (x y : Int) (M : Mem) (S : Sh) : go r 179 466 [l0, l1, l2, l3] [aI y, aI x, s0, s1, s2, s3, s4] M S = go r 179 467 [l0, l1, l2, l3] [aI (w32 (x + y)), s0, s1, s2, s3, s4] M S := go_nx rfl rfl
set_option maxRecDepth 20000 in
theorem g179_467 (r : Nat) (l0 l1 l2 l3 : Option AV) (s0 s1 s2 s3 : AV) (x : Int) (a : Nat) (M : Mem) (S : Sh) (h : S.1 a = 7) (h0 : 0 ≤ x) (h1 : x < S.2.1 a) : go r 179 467 [l0, l1, l2, l3] [aI x, aR a, s0, s1, s2, s3] M S = go r 179 468 [l0, l1, l2, l3] [aI (M a x.toNat), s0, s1, s2, s3] M S := go_bnd rfl ⟨h, h0, h1⟩ rfl
set_option maxRecDepth 20000 in
theorem g179_468 (r : Nat) (l0 l1 l2 l3 : Option AV) (x1 x2 x3 x4 : Int) (a0 : Nat) (M : Mem) (S : Sh) (hk : 12 < r) (h : S.1 a0 = 5) : go r 179 468 [l0, l1, l2, l3] [aI x4, aI x3, aI x2, aI x1, aR a0] M S = cont r 179 471 [l0, l1, l2, l3] [] 1 (res 52 [aR a0, aI x1, aI x2, aI x3, aI x4] M S) := go_cr0 (m' := 52) (n := 5) (pc' := 471) (hr := 1) rfl rfl rfl h rfl rfl rfl rfl hk rfl
set_option maxRecDepth 20000 in
theorem g179_471 (r : Nat) (l0 l1 l3 : Option AV) (s0 : AV) (a : Nat) (M : Mem) (S : Sh) : go r 179 471 [l0, l1, some (aR a), l3] [s0] M S = go r 179 472 [l0, l1, some (aR a), l3] [aR a, s0] M S := go_nx rfl rfl
set_option maxRecDepth 20000 in
theorem g179_471n (r : Nat) (l0 l1 l3 : Option AV) (s0 : AV) (M : Mem) (S : Sh) : go r 179 471 [l0, l1, some aN, l3] [s0] M S = go r 179 472 [l0, l1, some aN, l3] [aN, s0] M S := go_nx rfl rfl
set_option maxRecDepth 20000 in
theorem g179_472 (r : Nat) (l1 l2 l3 : Option AV) (s0 s1 : AV) (a : Nat) (M : Mem) (S : Sh) : go r 179 472 [some (aR a), l1, l2, l3] [s0, s1] M S = go r 179 473 [some (aR a), l1, l2, l3] [aR a, s0, s1] M S := go_nx rfl rfl
set_option maxRecDepth 20000 in
theorem g179_472n (r : Nat) (l1 l2 l3 : Option AV) (s0 s1 : AV) (M : Mem) (S : Sh) : go r 179 472 [some aN, l1, l2, l3] [s0, s1] M S = go r 179 473 [some aN, l1, l2, l3] [aN, s0, s1] M S := go_nx rfl rfl
set_option maxRecDepth 20000 in
theorem g179_473 (r : Nat) (l0 l1 l2 : Option AV) (s0 s1 s2 : AV) (x : Int) (M : Mem) (S : Sh) : go r 179 473 [l0, l1, l2, some (aI x)] [s0, s1, s2] M S = go r 179 474 [l0, l1, l2, some (aI x)] [aI x, s0, s1, s2] M S := go_nx rfl rfl
set_option maxRecDepth 20000 in
theorem g179_474 (r : Nat) (l0 l1 l2 l3 : Option AV) (s0 s1 s2 s3 : AV) (M : Mem) (S : Sh) : go r 179 474 [l0, l1, l2, l3] [s0, s1, s2, s3] M S = go r 179 475 [l0, l1, l2, l3] [aI 1, s0, s1, s2, s3] M S := go_nx rfl rfl
set_option maxRecDepth 20000 in
theorem g179_475 (r : Nat) (l0 l1 l2 l3 : Option AV) (s0 s1 s2 : AV) (x y : Int) (M : Mem) (S : Sh) : go r 179 475 [l0, l1, l2, l3] [aI y, aI x, s0, s1, s2] M S = go r 179 476 [l0, l1, l2, l3] [aI (w32 (x + y)), s0, s1, s2] M S := go_nx rfl rfl
set_option maxRecDepth 20000 in
theorem g179_476 (r : Nat) (l0 l1 l2 l3 : Option AV) (s0 s1 : AV) (x : Int) (a : Nat) (M : Mem) (S : Sh) (h : S.1 a = 7) (h0 : 0 ≤ x) (h1 : x < S.2.1 a) : go r 179 476 [l0, l1, l2, l3] [aI x, aR a, s0, s1] M S = go r 179 477 [l0, l1, l2, l3] [aI (M a x.toNat), s0, s1] M S := go_bnd rfl ⟨h, h0, h1⟩ rfl
set_option maxRecDepth 20000 in
theorem g179_477 (r : Nat) (l1 l2 l3 : Option AV) (s0 s1 s2 : AV) (a : Nat) (M : Mem) (S : Sh) : go r 179 477 [some (aR a), l1, l2, l3] [s0, s1, s2] M S = go r 179 478 [some (aR a), l1, l2, l3] [aR a, s0, s1, s2] M S := go_nx rfl rfl
set_option maxRecDepth 20000 in
theorem g179_477n (r : Nat) (l1 l2 l3 : Option AV) (s0 s1 s2 : AV) (M : Mem) (S : Sh) : go r 179 477 [some aN, l1, l2, l3] [s0, s1, s2] M S = go r 179 478 [some aN, l1, l2, l3] [aN, s0, s1, s2] M S := go_nx rfl rfl
set_option maxRecDepth 20000 in
theorem g179_478 (r : Nat) (l0 l1 l2 : Option AV) (s0 s1 s2 s3 : AV) (x : Int) (M : Mem) (S : Sh) : go r 179 478 [l0, l1, l2, some (aI x)] [s0, s1, s2, s3] M S = go r 179 479 [l0, l1, l2, some (aI x)] [aI x, s0, s1, s2, s3] M S := go_nx rfl rfl
set_option maxRecDepth 20000 in
theorem g179_479 (r : Nat) (l0 l1 l2 l3 : Option AV) (s0 s1 s2 s3 s4 : AV) (M : Mem) (S : Sh) : go r 179 479 [l0, l1, l2, l3] [s0, s1, s2, s3, s4] M S = go r 179 480 [l0, l1, l2, l3] [aI 2, s0, s1, s2, s3, s4] M S := go_nx rfl rfl
set_option maxRecDepth 20000 in
theorem g179_480 (r : Nat) (l0 l1 l2 l3 : Option AV) (s0 s1 s2 s3 : AV) (x y : Int) (M : Mem) (S : Sh) : go r 179 480 [l0, l1, l2, l3] [aI y, aI x, s0, s1, s2, s3] M S = go r 179 481 [l0, l1, l2, l3] [aI (w32 (x + y)), s0, s1, s2, s3] M S := go_nx rfl rfl
set_option maxRecDepth 20000 in
theorem g179_481 (r : Nat) (l0 l1 l2 l3 : Option AV) (s0 s1 s2 : AV) (x : Int) (a : Nat) (M : Mem) (S : Sh) (h : S.1 a = 7) (h0 : 0 ≤ x) (h1 : x < S.2.1 a) : go r 179 481 [l0, l1, l2, l3] [aI x, aR a, s0, s1, s2] M S = go r 179 482 [l0, l1, l2, l3] [aI (M a x.toNat), s0, s1, s2] M S := go_bnd rfl ⟨h, h0, h1⟩ rfl
set_option maxRecDepth 20000 in
theorem g179_482 (r : Nat) (l1 l2 l3 : Option AV) (s0 s1 s2 s3 : AV) (a : Nat) (M : Mem) (S : Sh) : go r 179 482 [some (aR a), l1, l2, l3] [s0, s1, s2, s3] M S = go r 179 483 [some (aR a), l1, l2, l3] [aR a, s0, s1, s2, s3] M S := go_nx rfl rfl
set_option maxRecDepth 20000 in
theorem g179_482n (r : Nat) (l1 l2 l3 : Option AV) (s0 s1 s2 s3 : AV) (M : Mem) (S : Sh) : go r 179 482 [some aN, l1, l2, l3] [s0, s1, s2, s3] M S = go r 179 483 [some aN, l1, l2, l3] [aN, s0, s1, s2, s3] M S := go_nx rfl rfl
set_option maxRecDepth 20000 in
theorem g179_483 (r : Nat) (l0 l1 l2 : Option AV) (s0 s1 s2 s3 s4 : AV) (x : Int) (M : Mem) (S : Sh) : go r 179 483 [l0, l1, l2, some (aI x)] [s0, s1, s2, s3, s4] M S = go r 179 484 [l0, l1, l2, some (aI x)] [aI x, s0, s1, s2, s3, s4] M S := go_nx rfl rfl
set_option maxRecDepth 20000 in
theorem g179_484 (r : Nat) (l0 l1 l2 l3 : Option AV) (s0 s1 s2 s3 s4 s5 : AV) (M : Mem) (S : Sh) : go r 179 484 [l0, l1, l2, l3] [s0, s1, s2, s3, s4, s5] M S = go r 179 485 [l0, l1, l2, l3] [aI 3, s0, s1, s2, s3, s4, s5] M S := go_nx rfl rfl
set_option maxRecDepth 20000 in
theorem g179_485 (r : Nat) (l0 l1 l2 l3 : Option AV) (s0 s1 s2 s3 s4 : AV) (x y : Int) (M : Mem) (S : Sh) : go r 179 485 [l0, l1, l2, l3] [aI y, aI x, s0, s1, s2, s3, s4] M S = go r 179 486 [l0, l1, l2, l3] [aI (w32 (x + y)), s0, s1, s2, s3, s4] M S := go_nx rfl rfl
set_option maxRecDepth 20000 in
theorem g179_486 (r : Nat) (l0 l1 l2 l3 : Option AV) (s0 s1 s2 s3 : AV) (x : Int) (a : Nat) (M : Mem) (S : Sh) (h : S.1 a = 7) (h0 : 0 ≤ x) (h1 : x < S.2.1 a) : go r 179 486 [l0, l1, l2, l3] [aI x, aR a, s0, s1, s2, s3] M S = go r 179 487 [l0, l1, l2, l3] [aI (M a x.toNat), s0, s1, s2, s3] M S := go_bnd rfl ⟨h, h0, h1⟩ rfl
set_option maxRecDepth 20000 in
theorem g179_487 (r : Nat) (l1 l2 l3 : Option AV) (s0 s1 s2 s3 s4 : AV) (a : Nat) (M : Mem) (S : Sh) : go r 179 487 [some (aR a), l1, l2, l3] [s0, s1, s2, s3, s4] M S = go r 179 488 [some (aR a), l1, l2, l3] [aR a, s0, s1, s2, s3, s4] M S := go_nx rfl rfl
set_option maxRecDepth 20000 in
theorem g179_487n (r : Nat) (l1 l2 l3 : Option AV) (s0 s1 s2 s3 s4 : AV) (M : Mem) (S : Sh) : go r 179 487 [some aN, l1, l2, l3] [s0, s1, s2, s3, s4] M S = go r 179 488 [some aN, l1, l2, l3] [aN, s0, s1, s2, s3, s4] M S := go_nx rfl rfl
set_option maxRecDepth 20000 in
theorem g179_488 (r : Nat) (l0 l1 l2 : Option AV) (s0 s1 s2 s3 s4 s5 : AV) (x : Int) (M : Mem) (S : Sh) : go r 179 488 [l0, l1, l2, some (aI x)] [s0, s1, s2, s3, s4, s5] M S = go r 179 489 [l0, l1, l2, some (aI x)] [aI x, s0, s1, s2, s3, s4, s5] M S := go_nx rfl rfl
set_option maxRecDepth 20000 in
theorem g179_489 (r : Nat) (l0 l1 l2 l3 : Option AV) (s0 s1 s2 s3 s4 s5 s6 : AV) (M : Mem) (S : Sh) : go r 179 489 [l0, l1, l2, l3] [s0, s1, s2, s3, s4, s5, s6] M S = go r 179 490 [l0, l1, l2, l3] [aI 4, s0, s1, s2, s3, s4, s5, s6] M S := go_nx rfl rfl
set_option maxRecDepth 20000 in
theorem g179_490 (r : Nat) (l0 l1 l2 l3 : Option AV) (s0 s1 s2 s3 s4 s5 : AV) (x y : Int) (M : Mem) (S : Sh) : go r 179 490 [l0, l1, l2, l3] [aI y, aI x, s0, s1, s2, s3, s4, s5] M S = go r 179 491 [l0, l1, l2, l3] [aI (w32 (x + y)), s0, s1, s2, s3, s4, s5] M S := go_nx rfl rfl
set_option maxRecDepth 20000 in
theorem g179_491 (r : Nat) (l0 l1 l2 l3 : Option AV) (s0 s1 s2 s3 s4 : AV) (x : Int) (a : Nat) (M : Mem) (S : Sh) (h : S.1 a = 7) (h0 : 0 ≤ x) (h1 : x < S.2.1 a) : go r 179 491 [l0, l1, l2, l3] [aI x, aR a, s0, s1, s2, s3, s4] M S = go r 179 492 [l0, l1, l2, l3] [aI (M a x.toNat), s0, s1, s2, s3, s4] M S := go_bnd rfl ⟨h, h0, h1⟩ rfl
set_option maxRecDepth 20000 in
theorem g179_492 (r : Nat) (l0 l1 l2 l3 : Option AV) (s0 : AV) (x1 x2 x3 x4 : Int) (a0 : Nat) (M : Mem) (S : Sh) (hk : 13 < r) (h : S.1 a0 = 6) : go r 179 492 [l0, l1, l2, l3] [aI x4, aI x3, aI x2, aI x1, aR a0, s0] M S = cont r 179 495 [l0, l1, l2, l3] [s0] 1 (res 131 [aR a0, aI x1, aI x2, aI x3, aI x4] M S) := go_cr0 (m' := 131) (n := 5) (pc' := 495) (hr := 1) rfl rfl rfl h rfl rfl rfl rfl hk rfl
set_option maxRecDepth 20000 in
theorem g179_495 (r : Nat) (l0 l1 l2 l3 : Option AV) (x y : Int) (M : Mem) (S : Sh) : go r 179 495 [l0, l1, l2, l3] [aI y, aI x] M S = if x = y then go r 179 1514 [l0, l1, l2, l3] [] M S else go r 179 498 [l0, l1, l2, l3] [] M S := go_br rfl rfl rfl rfl rfl
set_option maxRecDepth 20000 in
theorem g179_498 (r : Nat) (l0 l1 l2 l3 : Option AV) (M : Mem) (S : Sh) : go r 179 498 [l0, l1, l2, l3] [] M S = go r 179 499 [l0, l1, l2, l3] [aI 0] M S := go_nx rfl rfl
set_option maxRecDepth 20000 in
theorem g179_499 (r : Nat) (l0 l1 l2 l3 : Option AV) (x : Int) (M : Mem) (S : Sh) (h : x = 0 ∨ x = 1) : go r 179 499 [l0, l1, l2, l3] [aI x] M S = some (some (aI x), M, S) := go_rt rfl (bnd_t (Or.inr h))
set_option maxRecDepth 20000 in
theorem g179_500 (r : Nat) (l0 l2 l3 : Option AV) (a : Nat) (M : Mem) (S : Sh) : go r 179 500 [l0, some (aR a), l2, l3] [] M S = go r 179 501 [l0, some (aR a), l2, l3] [aR a] M S := go_nx rfl rfl
set_option maxRecDepth 20000 in
theorem g179_500n (r : Nat) (l0 l2 l3 : Option AV) (M : Mem) (S : Sh) : go r 179 500 [l0, some aN, l2, l3] [] M S = go r 179 501 [l0, some aN, l2, l3] [aN] M S := go_nx rfl rfl
set_option maxRecDepth 20000 in
theorem g179_501 (r : Nat) (l1 l2 l3 : Option AV) (s0 : AV) (a : Nat) (M : Mem) (S : Sh) : go r 179 501 [some (aR a), l1, l2, l3] [s0] M S = go r 179 502 [some (aR a), l1, l2, l3] [aR a, s0] M S := go_nx rfl rfl
set_option maxRecDepth 20000 in
theorem g179_501n (r : Nat) (l1 l2 l3 : Option AV) (s0 : AV) (M : Mem) (S : Sh) : go r 179 501 [some aN, l1, l2, l3] [s0] M S = go r 179 502 [some aN, l1, l2, l3] [aN, s0] M S := go_nx rfl rfl
set_option maxRecDepth 20000 in
theorem g179_502 (r : Nat) (l0 l1 l2 : Option AV) (s0 s1 : AV) (x : Int) (M : Mem) (S : Sh) : go r 179 502 [l0, l1, l2, some (aI x)] [s0, s1] M S = go r 179 503 [l0, l1, l2, some (aI x)] [aI x, s0, s1] M S := go_nx rfl rfl
set_option maxRecDepth 20000 in
theorem g179_503 (r : Nat) (l0 l1 l2 l3 : Option AV) (s0 s1 s2 : AV) (M : Mem) (S : Sh) : go r 179 503 [l0, l1, l2, l3] [s0, s1, s2] M S = go r 179 504 [l0, l1, l2, l3] [aI 1, s0, s1, s2] M S := go_nx rfl rfl
set_option maxRecDepth 20000 in
theorem g179_504 (r : Nat) (l0 l1 l2 l3 : Option AV) (s0 s1 : AV) (x y : Int) (M : Mem) (S : Sh) : go r 179 504 [l0, l1, l2, l3] [aI y, aI x, s0, s1] M S = go r 179 505 [l0, l1, l2, l3] [aI (w32 (x + y)), s0, s1] M S := go_nx rfl rfl
set_option maxRecDepth 20000 in
theorem g179_505 (r : Nat) (l0 l1 l2 l3 : Option AV) (s0 : AV) (x : Int) (a : Nat) (M : Mem) (S : Sh) (h : S.1 a = 7) (h0 : 0 ≤ x) (h1 : x < S.2.1 a) : go r 179 505 [l0, l1, l2, l3] [aI x, aR a, s0] M S = go r 179 506 [l0, l1, l2, l3] [aI (M a x.toNat), s0] M S := go_bnd rfl ⟨h, h0, h1⟩ rfl
set_option maxRecDepth 20000 in
theorem g179_506 (r : Nat) (l1 l2 l3 : Option AV) (s0 s1 : AV) (a : Nat) (M : Mem) (S : Sh) : go r 179 506 [some (aR a), l1, l2, l3] [s0, s1] M S = go r 179 507 [some (aR a), l1, l2, l3] [aR a, s0, s1] M S := go_nx rfl rfl
set_option maxRecDepth 20000 in
theorem g179_506n (r : Nat) (l1 l2 l3 : Option AV) (s0 s1 : AV) (M : Mem) (S : Sh) : go r 179 506 [some aN, l1, l2, l3] [s0, s1] M S = go r 179 507 [some aN, l1, l2, l3] [aN, s0, s1] M S := go_nx rfl rfl
set_option maxRecDepth 20000 in
theorem g179_507 (r : Nat) (l0 l1 l2 : Option AV) (s0 s1 s2 : AV) (x : Int) (M : Mem) (S : Sh) : go r 179 507 [l0, l1, l2, some (aI x)] [s0, s1, s2] M S = go r 179 508 [l0, l1, l2, some (aI x)] [aI x, s0, s1, s2] M S := go_nx rfl rfl
set_option maxRecDepth 20000 in
theorem g179_508 (r : Nat) (l0 l1 l2 l3 : Option AV) (s0 s1 s2 s3 : AV) (M : Mem) (S : Sh) : go r 179 508 [l0, l1, l2, l3] [s0, s1, s2, s3] M S = go r 179 509 [l0, l1, l2, l3] [aI 2, s0, s1, s2, s3] M S := go_nx rfl rfl
set_option maxRecDepth 20000 in
theorem g179_509 (r : Nat) (l0 l1 l2 l3 : Option AV) (s0 s1 s2 : AV) (x y : Int) (M : Mem) (S : Sh) : go r 179 509 [l0, l1, l2, l3] [aI y, aI x, s0, s1, s2] M S = go r 179 510 [l0, l1, l2, l3] [aI (w32 (x + y)), s0, s1, s2] M S := go_nx rfl rfl
set_option maxRecDepth 20000 in
theorem g179_510 (r : Nat) (l0 l1 l2 l3 : Option AV) (s0 s1 : AV) (x : Int) (a : Nat) (M : Mem) (S : Sh) (h : S.1 a = 7) (h0 : 0 ≤ x) (h1 : x < S.2.1 a) : go r 179 510 [l0, l1, l2, l3] [aI x, aR a, s0, s1] M S = go r 179 511 [l0, l1, l2, l3] [aI (M a x.toNat), s0, s1] M S := go_bnd rfl ⟨h, h0, h1⟩ rfl
set_option maxRecDepth 20000 in
theorem g179_511 (r : Nat) (l0 l1 l2 l3 : Option AV) (x1 x2 : Int) (a0 : Nat) (M : Mem) (S : Sh) (hk : 11 < r) (h : S.1 a0 = 5) : go r 179 511 [l0, l1, l2, l3] [aI x2, aI x1, aR a0] M S = cont r 179 514 [l0, l1, l2, l3] [] 1 (res 53 [aR a0, aI x1, aI x2] M S) := go_cr0 (m' := 53) (n := 3) (pc' := 514) (hr := 1) rfl rfl rfl h rfl rfl rfl rfl hk rfl
set_option maxRecDepth 20000 in
theorem g179_514 (r : Nat) (l0 l1 l3 : Option AV) (s0 : AV) (a : Nat) (M : Mem) (S : Sh) : go r 179 514 [l0, l1, some (aR a), l3] [s0] M S = go r 179 515 [l0, l1, some (aR a), l3] [aR a, s0] M S := go_nx rfl rfl
set_option maxRecDepth 20000 in
theorem g179_514n (r : Nat) (l0 l1 l3 : Option AV) (s0 : AV) (M : Mem) (S : Sh) : go r 179 514 [l0, l1, some aN, l3] [s0] M S = go r 179 515 [l0, l1, some aN, l3] [aN, s0] M S := go_nx rfl rfl
set_option maxRecDepth 20000 in
theorem g179_515 (r : Nat) (l1 l2 l3 : Option AV) (s0 s1 : AV) (a : Nat) (M : Mem) (S : Sh) : go r 179 515 [some (aR a), l1, l2, l3] [s0, s1] M S = go r 179 516 [some (aR a), l1, l2, l3] [aR a, s0, s1] M S := go_nx rfl rfl
set_option maxRecDepth 20000 in
theorem g179_515n (r : Nat) (l1 l2 l3 : Option AV) (s0 s1 : AV) (M : Mem) (S : Sh) : go r 179 515 [some aN, l1, l2, l3] [s0, s1] M S = go r 179 516 [some aN, l1, l2, l3] [aN, s0, s1] M S := go_nx rfl rfl
set_option maxRecDepth 20000 in
theorem g179_516 (r : Nat) (l0 l1 l2 : Option AV) (s0 s1 s2 : AV) (x : Int) (M : Mem) (S : Sh) : go r 179 516 [l0, l1, l2, some (aI x)] [s0, s1, s2] M S = go r 179 517 [l0, l1, l2, some (aI x)] [aI x, s0, s1, s2] M S := go_nx rfl rfl
set_option maxRecDepth 20000 in
theorem g179_517 (r : Nat) (l0 l1 l2 l3 : Option AV) (s0 s1 s2 s3 : AV) (M : Mem) (S : Sh) : go r 179 517 [l0, l1, l2, l3] [s0, s1, s2, s3] M S = go r 179 518 [l0, l1, l2, l3] [aI 1, s0, s1, s2, s3] M S := go_nx rfl rfl
set_option maxRecDepth 20000 in
theorem g179_518 (r : Nat) (l0 l1 l2 l3 : Option AV) (s0 s1 s2 : AV) (x y : Int) (M : Mem) (S : Sh) : go r 179 518 [l0, l1, l2, l3] [aI y, aI x, s0, s1, s2] M S = go r 179 519 [l0, l1, l2, l3] [aI (w32 (x + y)), s0, s1, s2] M S := go_nx rfl rfl
set_option maxRecDepth 20000 in
theorem g179_519 (r : Nat) (l0 l1 l2 l3 : Option AV) (s0 s1 : AV) (x : Int) (a : Nat) (M : Mem) (S : Sh) (h : S.1 a = 7) (h0 : 0 ≤ x) (h1 : x < S.2.1 a) : go r 179 519 [l0, l1, l2, l3] [aI x, aR a, s0, s1] M S = go r 179 520 [l0, l1, l2, l3] [aI (M a x.toNat), s0, s1] M S := go_bnd rfl ⟨h, h0, h1⟩ rfl
set_option maxRecDepth 20000 in
theorem g179_520 (r : Nat) (l1 l2 l3 : Option AV) (s0 s1 s2 : AV) (a : Nat) (M : Mem) (S : Sh) : go r 179 520 [some (aR a), l1, l2, l3] [s0, s1, s2] M S = go r 179 521 [some (aR a), l1, l2, l3] [aR a, s0, s1, s2] M S := go_nx rfl rfl
set_option maxRecDepth 20000 in
theorem g179_520n (r : Nat) (l1 l2 l3 : Option AV) (s0 s1 s2 : AV) (M : Mem) (S : Sh) : go r 179 520 [some aN, l1, l2, l3] [s0, s1, s2] M S = go r 179 521 [some aN, l1, l2, l3] [aN, s0, s1, s2] M S := go_nx rfl rfl
set_option maxRecDepth 20000 in
theorem g179_521 (r : Nat) (l0 l1 l2 : Option AV) (s0 s1 s2 s3 : AV) (x : Int) (M : Mem) (S : Sh) : go r 179 521 [l0, l1, l2, some (aI x)] [s0, s1, s2, s3] M S = go r 179 522 [l0, l1, l2, some (aI x)] [aI x, s0, s1, s2, s3] M S := go_nx rfl rfl
set_option maxRecDepth 20000 in
theorem g179_522 (r : Nat) (l0 l1 l2 l3 : Option AV) (s0 s1 s2 s3 s4 : AV) (M : Mem) (S : Sh) : go r 179 522 [l0, l1, l2, l3] [s0, s1, s2, s3, s4] M S = go r 179 523 [l0, l1, l2, l3] [aI 2, s0, s1, s2, s3, s4] M S := go_nx rfl rfl
set_option maxRecDepth 20000 in
theorem g179_523 (r : Nat) (l0 l1 l2 l3 : Option AV) (s0 s1 s2 s3 : AV) (x y : Int) (M : Mem) (S : Sh) : go r 179 523 [l0, l1, l2, l3] [aI y, aI x, s0, s1, s2, s3] M S = go r 179 524 [l0, l1, l2, l3] [aI (w32 (x + y)), s0, s1, s2, s3] M S := go_nx rfl rfl
set_option maxRecDepth 20000 in
theorem g179_524 (r : Nat) (l0 l1 l2 l3 : Option AV) (s0 s1 s2 : AV) (x : Int) (a : Nat) (M : Mem) (S : Sh) (h : S.1 a = 7) (h0 : 0 ≤ x) (h1 : x < S.2.1 a) : go r 179 524 [l0, l1, l2, l3] [aI x, aR a, s0, s1, s2] M S = go r 179 525 [l0, l1, l2, l3] [aI (M a x.toNat), s0, s1, s2] M S := go_bnd rfl ⟨h, h0, h1⟩ rfl
set_option maxRecDepth 20000 in
theorem g179_525 (r : Nat) (l0 l1 l2 l3 : Option AV) (s0 : AV) (x1 x2 : Int) (a0 : Nat) (M : Mem) (S : Sh) (hk : 11 < r) (h : S.1 a0 = 6) : go r 179 525 [l0, l1, l2, l3] [aI x2, aI x1, aR a0, s0] M S = cont r 179 528 [l0, l1, l2, l3] [s0] 1 (res 132 [aR a0, aI x1, aI x2] M S) := go_cr0 (m' := 132) (n := 3) (pc' := 528) (hr := 1) rfl rfl rfl h rfl rfl rfl rfl hk rfl
set_option maxRecDepth 20000 in
theorem g179_528 (r : Nat) (l0 l1 l2 l3 : Option AV) (x y : Int) (M : Mem) (S : Sh) : go r 179 528 [l0, l1, l2, l3] [aI y, aI x] M S = if x = y then go r 179 1514 [l0, l1, l2, l3] [] M S else go r 179 531 [l0, l1, l2, l3] [] M S := go_br rfl rfl rfl rfl rfl
set_option maxRecDepth 20000 in
theorem g179_531 (r : Nat) (l0 l1 l2 l3 : Option AV) (M : Mem) (S : Sh) : go r 179 531 [l0, l1, l2, l3] [] M S = go r 179 532 [l0, l1, l2, l3] [aI 0] M S := go_nx rfl rfl
set_option maxRecDepth 20000 in
theorem g179_532 (r : Nat) (l0 l1 l2 l3 : Option AV) (x : Int) (M : Mem) (S : Sh) (h : x = 0 ∨ x = 1) : go r 179 532 [l0, l1, l2, l3] [aI x] M S = some (some (aI x), M, S) := go_rt rfl (bnd_t (Or.inr h))
set_option maxRecDepth 20000 in
theorem g179_533 (r : Nat) (l0 l2 l3 : Option AV) (a : Nat) (M : Mem) (S : Sh) : go r 179 533 [l0, some (aR a), l2, l3] [] M S = go r 179 534 [l0, some (aR a), l2, l3] [aR a] M S := go_nx rfl rfl
set_option maxRecDepth 20000 in
theorem g179_533n (r : Nat) (l0 l2 l3 : Option AV) (M : Mem) (S : Sh) : go r 179 533 [l0, some aN, l2, l3] [] M S = go r 179 534 [l0, some aN, l2, l3] [aN] M S := go_nx rfl rfl
set_option maxRecDepth 20000 in
theorem g179_534 (r : Nat) (l1 l2 l3 : Option AV) (s0 : AV) (a : Nat) (M : Mem) (S : Sh) : go r 179 534 [some (aR a), l1, l2, l3] [s0] M S = go r 179 535 [some (aR a), l1, l2, l3] [aR a, s0] M S := go_nx rfl rfl
set_option maxRecDepth 20000 in
theorem g179_534n (r : Nat) (l1 l2 l3 : Option AV) (s0 : AV) (M : Mem) (S : Sh) : go r 179 534 [some aN, l1, l2, l3] [s0] M S = go r 179 535 [some aN, l1, l2, l3] [aN, s0] M S := go_nx rfl rfl
set_option maxRecDepth 20000 in
theorem g179_535 (r : Nat) (l0 l1 l2 : Option AV) (s0 s1 : AV) (x : Int) (M : Mem) (S : Sh) : go r 179 535 [l0, l1, l2, some (aI x)] [s0, s1] M S = go r 179 536 [l0, l1, l2, some (aI x)] [aI x, s0, s1] M S := go_nx rfl rfl
set_option maxRecDepth 20000 in
theorem g179_536 (r : Nat) (l0 l1 l2 l3 : Option AV) (s0 s1 s2 : AV) (M : Mem) (S : Sh) : go r 179 536 [l0, l1, l2, l3] [s0, s1, s2] M S = go r 179 537 [l0, l1, l2, l3] [aI 1, s0, s1, s2] M S := go_nx rfl rfl
set_option maxRecDepth 20000 in
theorem g179_537 (r : Nat) (l0 l1 l2 l3 : Option AV) (s0 s1 : AV) (x y : Int) (M : Mem) (S : Sh) : go r 179 537 [l0, l1, l2, l3] [aI y, aI x, s0, s1] M S = go r 179 538 [l0, l1, l2, l3] [aI (w32 (x + y)), s0, s1] M S := go_nx rfl rfl
set_option maxRecDepth 20000 in
theorem g179_538 (r : Nat) (l0 l1 l2 l3 : Option AV) (s0 : AV) (x : Int) (a : Nat) (M : Mem) (S : Sh) (h : S.1 a = 7) (h0 : 0 ≤ x) (h1 : x < S.2.1 a) : go r 179 538 [l0, l1, l2, l3] [aI x, aR a, s0] M S = go r 179 539 [l0, l1, l2, l3] [aI (M a x.toNat), s0] M S := go_bnd rfl ⟨h, h0, h1⟩ rfl
set_option maxRecDepth 20000 in
theorem g179_539 (r : Nat) (l1 l2 l3 : Option AV) (s0 s1 : AV) (a : Nat) (M : Mem) (S : Sh) : go r 179 539 [some (aR a), l1, l2, l3] [s0, s1] M S = go r 179 540 [some (aR a), l1, l2, l3] [aR a, s0, s1] M S := go_nx rfl rfl
set_option maxRecDepth 20000 in
theorem g179_539n (r : Nat) (l1 l2 l3 : Option AV) (s0 s1 : AV) (M : Mem) (S : Sh) : go r 179 539 [some aN, l1, l2, l3] [s0, s1] M S = go r 179 540 [some aN, l1, l2, l3] [aN, s0, s1] M S := go_nx rfl rfl
set_option maxRecDepth 20000 in
theorem g179_540 (r : Nat) (l0 l1 l2 : Option AV) (s0 s1 s2 : AV) (x : Int) (M : Mem) (S : Sh) : go r 179 540 [l0, l1, l2, some (aI x)] [s0, s1, s2] M S = go r 179 541 [l0, l1, l2, some (aI x)] [aI x, s0, s1, s2] M S := go_nx rfl rfl
set_option maxRecDepth 20000 in
theorem g179_541 (r : Nat) (l0 l1 l2 l3 : Option AV) (s0 s1 s2 s3 : AV) (M : Mem) (S : Sh) : go r 179 541 [l0, l1, l2, l3] [s0, s1, s2, s3] M S = go r 179 542 [l0, l1, l2, l3] [aI 2, s0, s1, s2, s3] M S := go_nx rfl rfl
set_option maxRecDepth 20000 in
theorem g179_542 (r : Nat) (l0 l1 l2 l3 : Option AV) (s0 s1 s2 : AV) (x y : Int) (M : Mem) (S : Sh) : go r 179 542 [l0, l1, l2, l3] [aI y, aI x, s0, s1, s2] M S = go r 179 543 [l0, l1, l2, l3] [aI (w32 (x + y)), s0, s1, s2] M S := go_nx rfl rfl
set_option maxRecDepth 20000 in
theorem g179_543 (r : Nat) (l0 l1 l2 l3 : Option AV) (s0 s1 : AV) (x : Int) (a : Nat) (M : Mem) (S : Sh) (h : S.1 a = 7) (h0 : 0 ≤ x) (h1 : x < S.2.1 a) : go r 179 543 [l0, l1, l2, l3] [aI x, aR a, s0, s1] M S = go r 179 544 [l0, l1, l2, l3] [aI (M a x.toNat), s0, s1] M S := go_bnd rfl ⟨h, h0, h1⟩ rfl
set_option maxRecDepth 20000 in
theorem g179_544 (r : Nat) (l1 l2 l3 : Option AV) (s0 s1 s2 : AV) (a : Nat) (M : Mem) (S : Sh) : go r 179 544 [some (aR a), l1, l2, l3] [s0, s1, s2] M S = go r 179 545 [some (aR a), l1, l2, l3] [aR a, s0, s1, s2] M S := go_nx rfl rfl
set_option maxRecDepth 20000 in
theorem g179_544n (r : Nat) (l1 l2 l3 : Option AV) (s0 s1 s2 : AV) (M : Mem) (S : Sh) : go r 179 544 [some aN, l1, l2, l3] [s0, s1, s2] M S = go r 179 545 [some aN, l1, l2, l3] [aN, s0, s1, s2] M S := go_nx rfl rfl
set_option maxRecDepth 20000 in
theorem g179_545 (r : Nat) (l0 l1 l2 : Option AV) (s0 s1 s2 s3 : AV) (x : Int) (M : Mem) (S : Sh) : go r 179 545 [l0, l1, l2, some (aI x)] [s0, s1, s2, s3] M S = go r 179 546 [l0, l1, l2, some (aI x)] [aI x, s0, s1, s2, s3] M S := go_nx rfl rfl
set_option maxRecDepth 20000 in
theorem g179_546 (r : Nat) (l0 l1 l2 l3 : Option AV) (s0 s1 s2 s3 s4 : AV) (M : Mem) (S : Sh) : go r 179 546 [l0, l1, l2, l3] [s0, s1, s2, s3, s4] M S = go r 179 547 [l0, l1, l2, l3] [aI 3, s0, s1, s2, s3, s4] M S := go_nx rfl rfl
set_option maxRecDepth 20000 in
theorem g179_547 (r : Nat) (l0 l1 l2 l3 : Option AV) (s0 s1 s2 s3 : AV) (x y : Int) (M : Mem) (S : Sh) : go r 179 547 [l0, l1, l2, l3] [aI y, aI x, s0, s1, s2, s3] M S = go r 179 548 [l0, l1, l2, l3] [aI (w32 (x + y)), s0, s1, s2, s3] M S := go_nx rfl rfl
set_option maxRecDepth 20000 in
theorem g179_548 (r : Nat) (l0 l1 l2 l3 : Option AV) (s0 s1 s2 : AV) (x : Int) (a : Nat) (M : Mem) (S : Sh) (h : S.1 a = 7) (h0 : 0 ≤ x) (h1 : x < S.2.1 a) : go r 179 548 [l0, l1, l2, l3] [aI x, aR a, s0, s1, s2] M S = go r 179 549 [l0, l1, l2, l3] [aI (M a x.toNat), s0, s1, s2] M S := go_bnd rfl ⟨h, h0, h1⟩ rfl
set_option maxRecDepth 20000 in
theorem g179_549 (r : Nat) (l0 l1 l2 l3 : Option AV) (x1 x2 x3 : Int) (a0 : Nat) (M : Mem) (S : Sh) (hk : 11 < r) (h : S.1 a0 = 5) : go r 179 549 [l0, l1, l2, l3] [aI x3, aI x2, aI x1, aR a0] M S = cont r 179 552 [l0, l1, l2, l3] [] 1 (res 54 [aR a0, aI x1, aI x2, aI x3] M S) := go_cr0 (m' := 54) (n := 4) (pc' := 552) (hr := 1) rfl rfl rfl h rfl rfl rfl rfl hk rfl
set_option maxRecDepth 20000 in
theorem g179_552 (r : Nat) (l0 l1 l3 : Option AV) (s0 : AV) (a : Nat) (M : Mem) (S : Sh) : go r 179 552 [l0, l1, some (aR a), l3] [s0] M S = go r 179 553 [l0, l1, some (aR a), l3] [aR a, s0] M S := go_nx rfl rfl
set_option maxRecDepth 20000 in
theorem g179_552n (r : Nat) (l0 l1 l3 : Option AV) (s0 : AV) (M : Mem) (S : Sh) : go r 179 552 [l0, l1, some aN, l3] [s0] M S = go r 179 553 [l0, l1, some aN, l3] [aN, s0] M S := go_nx rfl rfl
set_option maxRecDepth 20000 in
theorem g179_553 (r : Nat) (l1 l2 l3 : Option AV) (s0 s1 : AV) (a : Nat) (M : Mem) (S : Sh) : go r 179 553 [some (aR a), l1, l2, l3] [s0, s1] M S = go r 179 554 [some (aR a), l1, l2, l3] [aR a, s0, s1] M S := go_nx rfl rfl
set_option maxRecDepth 20000 in
theorem g179_553n (r : Nat) (l1 l2 l3 : Option AV) (s0 s1 : AV) (M : Mem) (S : Sh) : go r 179 553 [some aN, l1, l2, l3] [s0, s1] M S = go r 179 554 [some aN, l1, l2, l3] [aN, s0, s1] M S := go_nx rfl rfl
set_option maxRecDepth 20000 in
theorem g179_554 (r : Nat) (l0 l1 l2 : Option AV) (s0 s1 s2 : AV) (x : Int) (M : Mem) (S : Sh) : go r 179 554 [l0, l1, l2, some (aI x)] [s0, s1, s2] M S = go r 179 555 [l0, l1, l2, some (aI x)] [aI x, s0, s1, s2] M S := go_nx rfl rfl
set_option maxRecDepth 20000 in
theorem g179_555 (r : Nat) (l0 l1 l2 l3 : Option AV) (s0 s1 s2 s3 : AV) (M : Mem) (S : Sh) : go r 179 555 [l0, l1, l2, l3] [s0, s1, s2, s3] M S = go r 179 556 [l0, l1, l2, l3] [aI 1, s0, s1, s2, s3] M S := go_nx rfl rfl
set_option maxRecDepth 20000 in
theorem g179_556 (r : Nat) (l0 l1 l2 l3 : Option AV) (s0 s1 s2 : AV) (x y : Int) (M : Mem) (S : Sh) : go r 179 556 [l0, l1, l2, l3] [aI y, aI x, s0, s1, s2] M S = go r 179 557 [l0, l1, l2, l3] [aI (w32 (x + y)), s0, s1, s2] M S := go_nx rfl rfl
set_option maxRecDepth 20000 in
theorem g179_557 (r : Nat) (l0 l1 l2 l3 : Option AV) (s0 s1 : AV) (x : Int) (a : Nat) (M : Mem) (S : Sh) (h : S.1 a = 7) (h0 : 0 ≤ x) (h1 : x < S.2.1 a) : go r 179 557 [l0, l1, l2, l3] [aI x, aR a, s0, s1] M S = go r 179 558 [l0, l1, l2, l3] [aI (M a x.toNat), s0, s1] M S := go_bnd rfl ⟨h, h0, h1⟩ rfl
set_option maxRecDepth 20000 in
theorem g179_558 (r : Nat) (l1 l2 l3 : Option AV) (s0 s1 s2 : AV) (a : Nat) (M : Mem) (S : Sh) : go r 179 558 [some (aR a), l1, l2, l3] [s0, s1, s2] M S = go r 179 559 [some (aR a), l1, l2, l3] [aR a, s0, s1, s2] M S := go_nx rfl rfl
set_option maxRecDepth 20000 in
theorem g179_558n (r : Nat) (l1 l2 l3 : Option AV) (s0 s1 s2 : AV) (M : Mem) (S : Sh) : go r 179 558 [some aN, l1, l2, l3] [s0, s1, s2] M S = go r 179 559 [some aN, l1, l2, l3] [aN, s0, s1, s2] M S := go_nx rfl rfl
set_option maxRecDepth 20000 in
theorem g179_559 (r : Nat) (l0 l1 l2 : Option AV) (s0 s1 s2 s3 : AV) (x : Int) (M : Mem) (S : Sh) : go r 179 559 [l0, l1, l2, some (aI x)] [s0, s1, s2, s3] M S = go r 179 560 [l0, l1, l2, some (aI x)] [aI x, s0, s1, s2, s3] M S := go_nx rfl rfl
set_option maxRecDepth 20000 in
theorem g179_560 (r : Nat) (l0 l1 l2 l3 : Option AV) (s0 s1 s2 s3 s4 : AV) (M : Mem) (S : Sh) : go r 179 560 [l0, l1, l2, l3] [s0, s1, s2, s3, s4] M S = go r 179 561 [l0, l1, l2, l3] [aI 2, s0, s1, s2, s3, s4] M S := go_nx rfl rfl
set_option maxRecDepth 20000 in
theorem g179_561 (r : Nat) (l0 l1 l2 l3 : Option AV) (s0 s1 s2 s3 : AV) (x y : Int) (M : Mem) (S : Sh) : go r 179 561 [l0, l1, l2, l3] [aI y, aI x, s0, s1, s2, s3] M S = go r 179 562 [l0, l1, l2, l3] [aI (w32 (x + y)), s0, s1, s2, s3] M S := go_nx rfl rfl
set_option maxRecDepth 20000 in
theorem g179_562 (r : Nat) (l0 l1 l2 l3 : Option AV) (s0 s1 s2 : AV) (x : Int) (a : Nat) (M : Mem) (S : Sh) (h : S.1 a = 7) (h0 : 0 ≤ x) (h1 : x < S.2.1 a) : go r 179 562 [l0, l1, l2, l3] [aI x, aR a, s0, s1, s2] M S = go r 179 563 [l0, l1, l2, l3] [aI (M a x.toNat), s0, s1, s2] M S := go_bnd rfl ⟨h, h0, h1⟩ rfl
set_option maxRecDepth 20000 in
theorem g179_563 (r : Nat) (l1 l2 l3 : Option AV) (s0 s1 s2 s3 : AV) (a : Nat) (M : Mem) (S : Sh) : go r 179 563 [some (aR a), l1, l2, l3] [s0, s1, s2, s3] M S = go r 179 564 [some (aR a), l1, l2, l3] [aR a, s0, s1, s2, s3] M S := go_nx rfl rfl
set_option maxRecDepth 20000 in
theorem g179_563n (r : Nat) (l1 l2 l3 : Option AV) (s0 s1 s2 s3 : AV) (M : Mem) (S : Sh) : go r 179 563 [some aN, l1, l2, l3] [s0, s1, s2, s3] M S = go r 179 564 [some aN, l1, l2, l3] [aN, s0, s1, s2, s3] M S := go_nx rfl rfl
set_option maxRecDepth 20000 in
theorem g179_564 (r : Nat) (l0 l1 l2 : Option AV) (s0 s1 s2 s3 s4 : AV) (x : Int) (M : Mem) (S : Sh) : go r 179 564 [l0, l1, l2, some (aI x)] [s0, s1, s2, s3, s4] M S = go r 179 565 [l0, l1, l2, some (aI x)] [aI x, s0, s1, s2, s3, s4] M S := go_nx rfl rfl
set_option maxRecDepth 20000 in
theorem g179_565 (r : Nat) (l0 l1 l2 l3 : Option AV) (s0 s1 s2 s3 s4 s5 : AV) (M : Mem) (S : Sh) : go r 179 565 [l0, l1, l2, l3] [s0, s1, s2, s3, s4, s5] M S = go r 179 566 [l0, l1, l2, l3] [aI 3, s0, s1, s2, s3, s4, s5] M S := go_nx rfl rfl
set_option maxRecDepth 20000 in
theorem g179_566 (r : Nat) (l0 l1 l2 l3 : Option AV) (s0 s1 s2 s3 s4 : AV) (x y : Int) (M : Mem) (S : Sh) : go r 179 566 [l0, l1, l2, l3] [aI y, aI x, s0, s1, s2, s3, s4] M S = go r 179 567 [l0, l1, l2, l3] [aI (w32 (x + y)), s0, s1, s2, s3, s4] M S := go_nx rfl rfl
set_option maxRecDepth 20000 in
theorem g179_567 (r : Nat) (l0 l1 l2 l3 : Option AV) (s0 s1 s2 s3 : AV) (x : Int) (a : Nat) (M : Mem) (S : Sh) (h : S.1 a = 7) (h0 : 0 ≤ x) (h1 : x < S.2.1 a) : go r 179 567 [l0, l1, l2, l3] [aI x, aR a, s0, s1, s2, s3] M S = go r 179 568 [l0, l1, l2, l3] [aI (M a x.toNat), s0, s1, s2, s3] M S := go_bnd rfl ⟨h, h0, h1⟩ rfl
set_option maxRecDepth 20000 in
theorem g179_568 (r : Nat) (l0 l1 l2 l3 : Option AV) (s0 : AV) (x1 x2 x3 : Int) (a0 : Nat) (M : Mem) (S : Sh) (hk : 12 < r) (h : S.1 a0 = 6) : go r 179 568 [l0, l1, l2, l3] [aI x3, aI x2, aI x1, aR a0, s0] M S = cont r 179 571 [l0, l1, l2, l3] [s0] 1 (res 133 [aR a0, aI x1, aI x2, aI x3] M S) := go_cr0 (m' := 133) (n := 4) (pc' := 571) (hr := 1) rfl rfl rfl h rfl rfl rfl rfl hk rfl
set_option maxRecDepth 20000 in
theorem g179_571 (r : Nat) (l0 l1 l2 l3 : Option AV) (x y : Int) (M : Mem) (S : Sh) : go r 179 571 [l0, l1, l2, l3] [aI y, aI x] M S = if x = y then go r 179 1514 [l0, l1, l2, l3] [] M S else go r 179 574 [l0, l1, l2, l3] [] M S := go_br rfl rfl rfl rfl rfl
set_option maxRecDepth 20000 in
theorem g179_574 (r : Nat) (l0 l1 l2 l3 : Option AV) (M : Mem) (S : Sh) : go r 179 574 [l0, l1, l2, l3] [] M S = go r 179 575 [l0, l1, l2, l3] [aI 0] M S := go_nx rfl rfl
set_option maxRecDepth 20000 in
theorem g179_575 (r : Nat) (l0 l1 l2 l3 : Option AV) (x : Int) (M : Mem) (S : Sh) (h : x = 0 ∨ x = 1) : go r 179 575 [l0, l1, l2, l3] [aI x] M S = some (some (aI x), M, S) := go_rt rfl (bnd_t (Or.inr h))
set_option maxRecDepth 20000 in
theorem g179_576 (r : Nat) (l0 l2 l3 : Option AV) (a : Nat) (M : Mem) (S : Sh) : go r 179 576 [l0, some (aR a), l2, l3] [] M S = go r 179 577 [l0, some (aR a), l2, l3] [aR a] M S := go_nx rfl rfl
set_option maxRecDepth 20000 in
theorem g179_576n (r : Nat) (l0 l2 l3 : Option AV) (M : Mem) (S : Sh) : go r 179 576 [l0, some aN, l2, l3] [] M S = go r 179 577 [l0, some aN, l2, l3] [aN] M S := go_nx rfl rfl
set_option maxRecDepth 20000 in
theorem g179_577 (r : Nat) (l1 l2 l3 : Option AV) (s0 : AV) (a : Nat) (M : Mem) (S : Sh) : go r 179 577 [some (aR a), l1, l2, l3] [s0] M S = go r 179 578 [some (aR a), l1, l2, l3] [aR a, s0] M S := go_nx rfl rfl
set_option maxRecDepth 20000 in
theorem g179_577n (r : Nat) (l1 l2 l3 : Option AV) (s0 : AV) (M : Mem) (S : Sh) : go r 179 577 [some aN, l1, l2, l3] [s0] M S = go r 179 578 [some aN, l1, l2, l3] [aN, s0] M S := go_nx rfl rfl
set_option maxRecDepth 20000 in
theorem g179_578 (r : Nat) (l0 l1 l2 : Option AV) (s0 s1 : AV) (x : Int) (M : Mem) (S : Sh) : go r 179 578 [l0, l1, l2, some (aI x)] [s0, s1] M S = go r 179 579 [l0, l1, l2, some (aI x)] [aI x, s0, s1] M S := go_nx rfl rfl
set_option maxRecDepth 20000 in
theorem g179_579 (r : Nat) (l0 l1 l2 l3 : Option AV) (s0 s1 s2 : AV) (M : Mem) (S : Sh) : go r 179 579 [l0, l1, l2, l3] [s0, s1, s2] M S = go r 179 580 [l0, l1, l2, l3] [aI 1, s0, s1, s2] M S := go_nx rfl rfl
set_option maxRecDepth 20000 in
theorem g179_580 (r : Nat) (l0 l1 l2 l3 : Option AV) (s0 s1 : AV) (x y : Int) (M : Mem) (S : Sh) : go r 179 580 [l0, l1, l2, l3] [aI y, aI x, s0, s1] M S = go r 179 581 [l0, l1, l2, l3] [aI (w32 (x + y)), s0, s1] M S := go_nx rfl rfl
set_option maxRecDepth 20000 in
theorem g179_581 (r : Nat) (l0 l1 l2 l3 : Option AV) (s0 : AV) (x : Int) (a : Nat) (M : Mem) (S : Sh) (h : S.1 a = 7) (h0 : 0 ≤ x) (h1 : x < S.2.1 a) : go r 179 581 [l0, l1, l2, l3] [aI x, aR a, s0] M S = go r 179 582 [l0, l1, l2, l3] [aI (M a x.toNat), s0] M S := go_bnd rfl ⟨h, h0, h1⟩ rfl
set_option maxRecDepth 20000 in
theorem g179_582 (r : Nat) (l1 l2 l3 : Option AV) (s0 s1 : AV) (a : Nat) (M : Mem) (S : Sh) : go r 179 582 [some (aR a), l1, l2, l3] [s0, s1] M S = go r 179 583 [some (aR a), l1, l2, l3] [aR a, s0, s1] M S := go_nx rfl rfl
set_option maxRecDepth 20000 in
theorem g179_582n (r : Nat) (l1 l2 l3 : Option AV) (s0 s1 : AV) (M : Mem) (S : Sh) : go r 179 582 [some aN, l1, l2, l3] [s0, s1] M S = go r 179 583 [some aN, l1, l2, l3] [aN, s0, s1] M S := go_nx rfl rfl
set_option maxRecDepth 20000 in
theorem g179_583 (r : Nat) (l0 l1 l2 : Option AV) (s0 s1 s2 : AV) (x : Int) (M : Mem) (S : Sh) : go r 179 583 [l0, l1, l2, some (aI x)] [s0, s1, s2] M S = go r 179 584 [l0, l1, l2, some (aI x)] [aI x, s0, s1, s2] M S := go_nx rfl rfl
set_option maxRecDepth 20000 in
theorem g179_584 (r : Nat) (l0 l1 l2 l3 : Option AV) (s0 s1 s2 s3 : AV) (M : Mem) (S : Sh) : go r 179 584 [l0, l1, l2, l3] [s0, s1, s2, s3] M S = go r 179 585 [l0, l1, l2, l3] [aI 2, s0, s1, s2, s3] M S := go_nx rfl rfl
set_option maxRecDepth 20000 in
theorem g179_585 (r : Nat) (l0 l1 l2 l3 : Option AV) (s0 s1 s2 : AV) (x y : Int) (M : Mem) (S : Sh) : go r 179 585 [l0, l1, l2, l3] [aI y, aI x, s0, s1, s2] M S = go r 179 586 [l0, l1, l2, l3] [aI (w32 (x + y)), s0, s1, s2] M S := go_nx rfl rfl
set_option maxRecDepth 20000 in
theorem g179_586 (r : Nat) (l0 l1 l2 l3 : Option AV) (s0 s1 : AV) (x : Int) (a : Nat) (M : Mem) (S : Sh) (h : S.1 a = 7) (h0 : 0 ≤ x) (h1 : x < S.2.1 a) : go r 179 586 [l0, l1, l2, l3] [aI x, aR a, s0, s1] M S = go r 179 587 [l0, l1, l2, l3] [aI (M a x.toNat), s0, s1] M S := go_bnd rfl ⟨h, h0, h1⟩ rfl
set_option maxRecDepth 20000 in
theorem g179_587 (r : Nat) (l0 l1 l2 l3 : Option AV) (x1 x2 : Int) (a0 : Nat) (M : Mem) (S : Sh) (hk : 12 < r) (h : S.1 a0 = 5) : go r 179 587 [l0, l1, l2, l3] [aI x2, aI x1, aR a0] M S = cont r 179 590 [l0, l1, l2, l3] [] 1 (res 55 [aR a0, aI x1, aI x2] M S) := go_cr0 (m' := 55) (n := 3) (pc' := 590) (hr := 1) rfl rfl rfl h rfl rfl rfl rfl hk rfl
set_option maxRecDepth 20000 in
theorem g179_590 (r : Nat) (l0 l1 l3 : Option AV) (s0 : AV) (a : Nat) (M : Mem) (S : Sh) : go r 179 590 [l0, l1, some (aR a), l3] [s0] M S = go r 179 591 [l0, l1, some (aR a), l3] [aR a, s0] M S := go_nx rfl rfl
set_option maxRecDepth 20000 in
theorem g179_590n (r : Nat) (l0 l1 l3 : Option AV) (s0 : AV) (M : Mem) (S : Sh) : go r 179 590 [l0, l1, some aN, l3] [s0] M S = go r 179 591 [l0, l1, some aN, l3] [aN, s0] M S := go_nx rfl rfl
set_option maxRecDepth 20000 in
theorem g179_591 (r : Nat) (l1 l2 l3 : Option AV) (s0 s1 : AV) (a : Nat) (M : Mem) (S : Sh) : go r 179 591 [some (aR a), l1, l2, l3] [s0, s1] M S = go r 179 592 [some (aR a), l1, l2, l3] [aR a, s0, s1] M S := go_nx rfl rfl
set_option maxRecDepth 20000 in
theorem g179_591n (r : Nat) (l1 l2 l3 : Option AV) (s0 s1 : AV) (M : Mem) (S : Sh) : go r 179 591 [some aN, l1, l2, l3] [s0, s1] M S = go r 179 592 [some aN, l1, l2, l3] [aN, s0, s1] M S := go_nx rfl rfl
set_option maxRecDepth 20000 in
theorem g179_592 (r : Nat) (l0 l1 l2 : Option AV) (s0 s1 s2 : AV) (x : Int) (M : Mem) (S : Sh) : go r 179 592 [l0, l1, l2, some (aI x)] [s0, s1, s2] M S = go r 179 593 [l0, l1, l2, some (aI x)] [aI x, s0, s1, s2] M S := go_nx rfl rfl
set_option maxRecDepth 20000 in
theorem g179_593 (r : Nat) (l0 l1 l2 l3 : Option AV) (s0 s1 s2 s3 : AV) (M : Mem) (S : Sh) : go r 179 593 [l0, l1, l2, l3] [s0, s1, s2, s3] M S = go r 179 594 [l0, l1, l2, l3] [aI 1, s0, s1, s2, s3] M S := go_nx rfl rfl
set_option maxRecDepth 20000 in
theorem g179_594 (r : Nat) (l0 l1 l2 l3 : Option AV) (s0 s1 s2 : AV) (x y : Int) (M : Mem) (S : Sh) : go r 179 594 [l0, l1, l2, l3] [aI y, aI x, s0, s1, s2] M S = go r 179 595 [l0, l1, l2, l3] [aI (w32 (x + y)), s0, s1, s2] M S := go_nx rfl rfl
set_option maxRecDepth 20000 in
theorem g179_595 (r : Nat) (l0 l1 l2 l3 : Option AV) (s0 s1 : AV) (x : Int) (a : Nat) (M : Mem) (S : Sh) (h : S.1 a = 7) (h0 : 0 ≤ x) (h1 : x < S.2.1 a) : go r 179 595 [l0, l1, l2, l3] [aI x, aR a, s0, s1] M S = go r 179 596 [l0, l1, l2, l3] [aI (M a x.toNat), s0, s1] M S := go_bnd rfl ⟨h, h0, h1⟩ rfl
set_option maxRecDepth 20000 in
theorem g179_596 (r : Nat) (l1 l2 l3 : Option AV) (s0 s1 s2 : AV) (a : Nat) (M : Mem) (S : Sh) : go r 179 596 [some (aR a), l1, l2, l3] [s0, s1, s2] M S = go r 179 597 [some (aR a), l1, l2, l3] [aR a, s0, s1, s2] M S := go_nx rfl rfl
set_option maxRecDepth 20000 in
theorem g179_596n (r : Nat) (l1 l2 l3 : Option AV) (s0 s1 s2 : AV) (M : Mem) (S : Sh) : go r 179 596 [some aN, l1, l2, l3] [s0, s1, s2] M S = go r 179 597 [some aN, l1, l2, l3] [aN, s0, s1, s2] M S := go_nx rfl rfl
set_option maxRecDepth 20000 in
theorem g179_597 (r : Nat) (l0 l1 l2 : Option AV) (s0 s1 s2 s3 : AV) (x : Int) (M : Mem) (S : Sh) : go r 179 597 [l0, l1, l2, some (aI x)] [s0, s1, s2, s3] M S = go r 179 598 [l0, l1, l2, some (aI x)] [aI x, s0, s1, s2, s3] M S := go_nx rfl rfl
set_option maxRecDepth 20000 in
theorem g179_598 (r : Nat) (l0 l1 l2 l3 : Option AV) (s0 s1 s2 s3 s4 : AV) (M : Mem) (S : Sh) : go r 179 598 [l0, l1, l2, l3] [s0, s1, s2, s3, s4] M S = go r 179 599 [l0, l1, l2, l3] [aI 2, s0, s1, s2, s3, s4] M S := go_nx rfl rfl
set_option maxRecDepth 20000 in
theorem g179_599 (r : Nat) (l0 l1 l2 l3 : Option AV) (s0 s1 s2 s3 : AV) (x y : Int) (M : Mem) (S : Sh) : go r 179 599 [l0, l1, l2, l3] [aI y, aI x, s0, s1, s2, s3] M S = go r 179 600 [l0, l1, l2, l3] [aI (w32 (x + y)), s0, s1, s2, s3] M S := go_nx rfl rfl
set_option maxRecDepth 20000 in
theorem g179_600 (r : Nat) (l0 l1 l2 l3 : Option AV) (s0 s1 s2 : AV) (x : Int) (a : Nat) (M : Mem) (S : Sh) (h : S.1 a = 7) (h0 : 0 ≤ x) (h1 : x < S.2.1 a) : go r 179 600 [l0, l1, l2, l3] [aI x, aR a, s0, s1, s2] M S = go r 179 601 [l0, l1, l2, l3] [aI (M a x.toNat), s0, s1, s2] M S := go_bnd rfl ⟨h, h0, h1⟩ rfl
set_option maxRecDepth 20000 in
theorem g179_601 (r : Nat) (l0 l1 l2 l3 : Option AV) (s0 : AV) (x1 x2 : Int) (a0 : Nat) (M : Mem) (S : Sh) (hk : 12 < r) (h : S.1 a0 = 6) : go r 179 601 [l0, l1, l2, l3] [aI x2, aI x1, aR a0, s0] M S = cont r 179 604 [l0, l1, l2, l3] [s0] 1 (res 136 [aR a0, aI x1, aI x2] M S) := go_cr0 (m' := 136) (n := 3) (pc' := 604) (hr := 1) rfl rfl rfl h rfl rfl rfl rfl hk rfl
set_option maxRecDepth 20000 in
theorem g179_604 (r : Nat) (l0 l1 l2 l3 : Option AV) (x y : Int) (M : Mem) (S : Sh) : go r 179 604 [l0, l1, l2, l3] [aI y, aI x] M S = if x = y then go r 179 1514 [l0, l1, l2, l3] [] M S else go r 179 607 [l0, l1, l2, l3] [] M S := go_br rfl rfl rfl rfl rfl
set_option maxRecDepth 20000 in
theorem g179_607 (r : Nat) (l0 l1 l2 l3 : Option AV) (M : Mem) (S : Sh) : go r 179 607 [l0, l1, l2, l3] [] M S = go r 179 608 [l0, l1, l2, l3] [aI 0] M S := go_nx rfl rfl
set_option maxRecDepth 20000 in
theorem g179_608 (r : Nat) (l0 l1 l2 l3 : Option AV) (x : Int) (M : Mem) (S : Sh) (h : x = 0 ∨ x = 1) : go r 179 608 [l0, l1, l2, l3] [aI x] M S = some (some (aI x), M, S) := go_rt rfl (bnd_t (Or.inr h))
set_option maxRecDepth 20000 in
theorem g179_609 (r : Nat) (l0 l2 l3 : Option AV) (a : Nat) (M : Mem) (S : Sh) : go r 179 609 [l0, some (aR a), l2, l3] [] M S = go r 179 610 [l0, some (aR a), l2, l3] [aR a] M S := go_nx rfl rfl
set_option maxRecDepth 20000 in
theorem g179_609n (r : Nat) (l0 l2 l3 : Option AV) (M : Mem) (S : Sh) : go r 179 609 [l0, some aN, l2, l3] [] M S = go r 179 610 [l0, some aN, l2, l3] [aN] M S := go_nx rfl rfl
set_option maxRecDepth 20000 in
theorem g179_610 (r : Nat) (l1 l2 l3 : Option AV) (s0 : AV) (a : Nat) (M : Mem) (S : Sh) : go r 179 610 [some (aR a), l1, l2, l3] [s0] M S = go r 179 611 [some (aR a), l1, l2, l3] [aR a, s0] M S := go_nx rfl rfl
set_option maxRecDepth 20000 in
theorem g179_610n (r : Nat) (l1 l2 l3 : Option AV) (s0 : AV) (M : Mem) (S : Sh) : go r 179 610 [some aN, l1, l2, l3] [s0] M S = go r 179 611 [some aN, l1, l2, l3] [aN, s0] M S := go_nx rfl rfl
set_option maxRecDepth 20000 in
theorem g179_611 (r : Nat) (l0 l1 l2 : Option AV) (s0 s1 : AV) (x : Int) (M : Mem) (S : Sh) : go r 179 611 [l0, l1, l2, some (aI x)] [s0, s1] M S = go r 179 612 [l0, l1, l2, some (aI x)] [aI x, s0, s1] M S := go_nx rfl rfl
set_option maxRecDepth 20000 in
theorem g179_612 (r : Nat) (l0 l1 l2 l3 : Option AV) (s0 s1 s2 : AV) (M : Mem) (S : Sh) : go r 179 612 [l0, l1, l2, l3] [s0, s1, s2] M S = go r 179 613 [l0, l1, l2, l3] [aI 1, s0, s1, s2] M S := go_nx rfl rfl
set_option maxRecDepth 20000 in
theorem g179_613 (r : Nat) (l0 l1 l2 l3 : Option AV) (s0 s1 : AV) (x y : Int) (M : Mem) (S : Sh) : go r 179 613 [l0, l1, l2, l3] [aI y, aI x, s0, s1] M S = go r 179 614 [l0, l1, l2, l3] [aI (w32 (x + y)), s0, s1] M S := go_nx rfl rfl
set_option maxRecDepth 20000 in
theorem g179_614 (r : Nat) (l0 l1 l2 l3 : Option AV) (s0 : AV) (x : Int) (a : Nat) (M : Mem) (S : Sh) (h : S.1 a = 7) (h0 : 0 ≤ x) (h1 : x < S.2.1 a) : go r 179 614 [l0, l1, l2, l3] [aI x, aR a, s0] M S = go r 179 615 [l0, l1, l2, l3] [aI (M a x.toNat), s0] M S := go_bnd rfl ⟨h, h0, h1⟩ rfl
set_option maxRecDepth 20000 in
theorem g179_615 (r : Nat) (l1 l2 l3 : Option AV) (s0 s1 : AV) (a : Nat) (M : Mem) (S : Sh) : go r 179 615 [some (aR a), l1, l2, l3] [s0, s1] M S = go r 179 616 [some (aR a), l1, l2, l3] [aR a, s0, s1] M S := go_nx rfl rfl
set_option maxRecDepth 20000 in
theorem g179_615n (r : Nat) (l1 l2 l3 : Option AV) (s0 s1 : AV) (M : Mem) (S : Sh) : go r 179 615 [some aN, l1, l2, l3] [s0, s1] M S = go r 179 616 [some aN, l1, l2, l3] [aN, s0, s1] M S := go_nx rfl rfl
set_option maxRecDepth 20000 in
theorem g179_616 (r : Nat) (l0 l1 l2 : Option AV) (s0 s1 s2 : AV) (x : Int) (M : Mem) (S : Sh) : go r 179 616 [l0, l1, l2, some (aI x)] [s0, s1, s2] M S = go r 179 617 [l0, l1, l2, some (aI x)] [aI x, s0, s1, s2] M S := go_nx rfl rfl
set_option maxRecDepth 20000 in
theorem g179_617 (r : Nat) (l0 l1 l2 l3 : Option AV) (s0 s1 s2 s3 : AV) (M : Mem) (S : Sh) : go r 179 617 [l0, l1, l2, l3] [s0, s1, s2, s3] M S = go r 179 618 [l0, l1, l2, l3] [aI 2, s0, s1, s2, s3] M S := go_nx rfl rfl
set_option maxRecDepth 20000 in
theorem g179_618 (r : Nat) (l0 l1 l2 l3 : Option AV) (s0 s1 s2 : AV) (x y : Int) (M : Mem) (S : Sh) : go r 179 618 [l0, l1, l2, l3] [aI y, aI x, s0, s1, s2] M S = go r 179 619 [l0, l1, l2, l3] [aI (w32 (x + y)), s0, s1, s2] M S := go_nx rfl rfl
set_option maxRecDepth 20000 in
theorem g179_619 (r : Nat) (l0 l1 l2 l3 : Option AV) (s0 s1 : AV) (x : Int) (a : Nat) (M : Mem) (S : Sh) (h : S.1 a = 7) (h0 : 0 ≤ x) (h1 : x < S.2.1 a) : go r 179 619 [l0, l1, l2, l3] [aI x, aR a, s0, s1] M S = go r 179 620 [l0, l1, l2, l3] [aI (M a x.toNat), s0, s1] M S := go_bnd rfl ⟨h, h0, h1⟩ rfl
set_option maxRecDepth 20000 in
theorem g179_620 (r : Nat) (l0 l1 l2 l3 : Option AV) (x1 x2 : Int) (a0 : Nat) (M : Mem) (S : Sh) (hk : 12 < r) (h : S.1 a0 = 5) : go r 179 620 [l0, l1, l2, l3] [aI x2, aI x1, aR a0] M S = cont r 179 623 [l0, l1, l2, l3] [] 1 (res 56 [aR a0, aI x1, aI x2] M S) := go_cr0 (m' := 56) (n := 3) (pc' := 623) (hr := 1) rfl rfl rfl h rfl rfl rfl rfl hk rfl
set_option maxRecDepth 20000 in
theorem g179_623 (r : Nat) (l0 l1 l3 : Option AV) (s0 : AV) (a : Nat) (M : Mem) (S : Sh) : go r 179 623 [l0, l1, some (aR a), l3] [s0] M S = go r 179 624 [l0, l1, some (aR a), l3] [aR a, s0] M S := go_nx rfl rfl
set_option maxRecDepth 20000 in
theorem g179_623n (r : Nat) (l0 l1 l3 : Option AV) (s0 : AV) (M : Mem) (S : Sh) : go r 179 623 [l0, l1, some aN, l3] [s0] M S = go r 179 624 [l0, l1, some aN, l3] [aN, s0] M S := go_nx rfl rfl
set_option maxRecDepth 20000 in
theorem g179_624 (r : Nat) (l1 l2 l3 : Option AV) (s0 s1 : AV) (a : Nat) (M : Mem) (S : Sh) : go r 179 624 [some (aR a), l1, l2, l3] [s0, s1] M S = go r 179 625 [some (aR a), l1, l2, l3] [aR a, s0, s1] M S := go_nx rfl rfl
set_option maxRecDepth 20000 in
theorem g179_624n (r : Nat) (l1 l2 l3 : Option AV) (s0 s1 : AV) (M : Mem) (S : Sh) : go r 179 624 [some aN, l1, l2, l3] [s0, s1] M S = go r 179 625 [some aN, l1, l2, l3] [aN, s0, s1] M S := go_nx rfl rfl
set_option maxRecDepth 20000 in
theorem g179_625 (r : Nat) (l0 l1 l2 : Option AV) (s0 s1 s2 : AV) (x : Int) (M : Mem) (S : Sh) : go r 179 625 [l0, l1, l2, some (aI x)] [s0, s1, s2] M S = go r 179 626 [l0, l1, l2, some (aI x)] [aI x, s0, s1, s2] M S := go_nx rfl rfl
set_option maxRecDepth 20000 in
theorem g179_626 (r : Nat) (l0 l1 l2 l3 : Option AV) (s0 s1 s2 s3 : AV) (M : Mem) (S : Sh) : go r 179 626 [l0, l1, l2, l3] [s0, s1, s2, s3] M S = go r 179 627 [l0, l1, l2, l3] [aI 1, s0, s1, s2, s3] M S := go_nx rfl rfl
set_option maxRecDepth 20000 in
theorem g179_627 (r : Nat) (l0 l1 l2 l3 : Option AV) (s0 s1 s2 : AV) (x y : Int) (M : Mem) (S : Sh) : go r 179 627 [l0, l1, l2, l3] [aI y, aI x, s0, s1, s2] M S = go r 179 628 [l0, l1, l2, l3] [aI (w32 (x + y)), s0, s1, s2] M S := go_nx rfl rfl
set_option maxRecDepth 20000 in
theorem g179_628 (r : Nat) (l0 l1 l2 l3 : Option AV) (s0 s1 : AV) (x : Int) (a : Nat) (M : Mem) (S : Sh) (h : S.1 a = 7) (h0 : 0 ≤ x) (h1 : x < S.2.1 a) : go r 179 628 [l0, l1, l2, l3] [aI x, aR a, s0, s1] M S = go r 179 629 [l0, l1, l2, l3] [aI (M a x.toNat), s0, s1] M S := go_bnd rfl ⟨h, h0, h1⟩ rfl
set_option maxRecDepth 20000 in
theorem g179_629 (r : Nat) (l1 l2 l3 : Option AV) (s0 s1 s2 : AV) (a : Nat) (M : Mem) (S : Sh) : go r 179 629 [some (aR a), l1, l2, l3] [s0, s1, s2] M S = go r 179 630 [some (aR a), l1, l2, l3] [aR a, s0, s1, s2] M S := go_nx rfl rfl
set_option maxRecDepth 20000 in
theorem g179_629n (r : Nat) (l1 l2 l3 : Option AV) (s0 s1 s2 : AV) (M : Mem) (S : Sh) : go r 179 629 [some aN, l1, l2, l3] [s0, s1, s2] M S = go r 179 630 [some aN, l1, l2, l3] [aN, s0, s1, s2] M S := go_nx rfl rfl
set_option maxRecDepth 20000 in
theorem g179_630 (r : Nat) (l0 l1 l2 : Option AV) (s0 s1 s2 s3 : AV) (x : Int) (M : Mem) (S : Sh) : go r 179 630 [l0, l1, l2, some (aI x)] [s0, s1, s2, s3] M S = go r 179 631 [l0, l1, l2, some (aI x)] [aI x, s0, s1, s2, s3] M S := go_nx rfl rfl
set_option maxRecDepth 20000 in
theorem g179_631 (r : Nat) (l0 l1 l2 l3 : Option AV) (s0 s1 s2 s3 s4 : AV) (M : Mem) (S : Sh) : go r 179 631 [l0, l1, l2, l3] [s0, s1, s2, s3, s4] M S = go r 179 632 [l0, l1, l2, l3] [aI 2, s0, s1, s2, s3, s4] M S := go_nx rfl rfl
set_option maxRecDepth 20000 in
theorem g179_632 (r : Nat) (l0 l1 l2 l3 : Option AV) (s0 s1 s2 s3 : AV) (x y : Int) (M : Mem) (S : Sh) : go r 179 632 [l0, l1, l2, l3] [aI y, aI x, s0, s1, s2, s3] M S = go r 179 633 [l0, l1, l2, l3] [aI (w32 (x + y)), s0, s1, s2, s3] M S := go_nx rfl rfl
set_option maxRecDepth 20000 in
theorem g179_633 (r : Nat) (l0 l1 l2 l3 : Option AV) (s0 s1 s2 : AV) (x : Int) (a : Nat) (M : Mem) (S : Sh) (h : S.1 a = 7) (h0 : 0 ≤ x) (h1 : x < S.2.1 a) : go r 179 633 [l0, l1, l2, l3] [aI x, aR a, s0, s1, s2] M S = go r 179 634 [l0, l1, l2, l3] [aI (M a x.toNat), s0, s1, s2] M S := go_bnd rfl ⟨h, h0, h1⟩ rfl
set_option maxRecDepth 20000 in
theorem g179_634 (r : Nat) (l0 l1 l2 l3 : Option AV) (s0 : AV) (x1 x2 : Int) (a0 : Nat) (M : Mem) (S : Sh) (hk : 11 < r) (h : S.1 a0 = 6) : go r 179 634 [l0, l1, l2, l3] [aI x2, aI x1, aR a0, s0] M S = cont r 179 637 [l0, l1, l2, l3] [s0] 1 (res 137 [aR a0, aI x1, aI x2] M S) := go_cr0 (m' := 137) (n := 3) (pc' := 637) (hr := 1) rfl rfl rfl h rfl rfl rfl rfl hk rfl
set_option maxRecDepth 20000 in
theorem g179_637 (r : Nat) (l0 l1 l2 l3 : Option AV) (x y : Int) (M : Mem) (S : Sh) : go r 179 637 [l0, l1, l2, l3] [aI y, aI x] M S = if x = y then go r 179 1514 [l0, l1, l2, l3] [] M S else go r 179 640 [l0, l1, l2, l3] [] M S := go_br rfl rfl rfl rfl rfl
set_option maxRecDepth 20000 in
theorem g179_640 (r : Nat) (l0 l1 l2 l3 : Option AV) (M : Mem) (S : Sh) : go r 179 640 [l0, l1, l2, l3] [] M S = go r 179 641 [l0, l1, l2, l3] [aI 0] M S := go_nx rfl rfl
set_option maxRecDepth 20000 in
theorem g179_641 (r : Nat) (l0 l1 l2 l3 : Option AV) (x : Int) (M : Mem) (S : Sh) (h : x = 0 ∨ x = 1) : go r 179 641 [l0, l1, l2, l3] [aI x] M S = some (some (aI x), M, S) := go_rt rfl (bnd_t (Or.inr h))
set_option maxRecDepth 20000 in
theorem g179_642 (r : Nat) (l0 l2 l3 : Option AV) (a : Nat) (M : Mem) (S : Sh) : go r 179 642 [l0, some (aR a), l2, l3] [] M S = go r 179 643 [l0, some (aR a), l2, l3] [aR a] M S := go_nx rfl rfl
set_option maxRecDepth 20000 in
theorem g179_642n (r : Nat) (l0 l2 l3 : Option AV) (M : Mem) (S : Sh) : go r 179 642 [l0, some aN, l2, l3] [] M S = go r 179 643 [l0, some aN, l2, l3] [aN] M S := go_nx rfl rfl
set_option maxRecDepth 20000 in
theorem g179_643 (r : Nat) (l1 l2 l3 : Option AV) (s0 : AV) (a : Nat) (M : Mem) (S : Sh) : go r 179 643 [some (aR a), l1, l2, l3] [s0] M S = go r 179 644 [some (aR a), l1, l2, l3] [aR a, s0] M S := go_nx rfl rfl
set_option maxRecDepth 20000 in
theorem g179_643n (r : Nat) (l1 l2 l3 : Option AV) (s0 : AV) (M : Mem) (S : Sh) : go r 179 643 [some aN, l1, l2, l3] [s0] M S = go r 179 644 [some aN, l1, l2, l3] [aN, s0] M S := go_nx rfl rfl
set_option maxRecDepth 20000 in
theorem g179_644 (r : Nat) (l0 l1 l2 : Option AV) (s0 s1 : AV) (x : Int) (M : Mem) (S : Sh) : go r 179 644 [l0, l1, l2, some (aI x)] [s0, s1] M S = go r 179 645 [l0, l1, l2, some (aI x)] [aI x, s0, s1] M S := go_nx rfl rfl
set_option maxRecDepth 20000 in
theorem g179_645 (r : Nat) (l0 l1 l2 l3 : Option AV) (s0 s1 s2 : AV) (M : Mem) (S : Sh) : go r 179 645 [l0, l1, l2, l3] [s0, s1, s2] M S = go r 179 646 [l0, l1, l2, l3] [aI 1, s0, s1, s2] M S := go_nx rfl rfl
set_option maxRecDepth 20000 in
theorem g179_646 (r : Nat) (l0 l1 l2 l3 : Option AV) (s0 s1 : AV) (x y : Int) (M : Mem) (S : Sh) : go r 179 646 [l0, l1, l2, l3] [aI y, aI x, s0, s1] M S = go r 179 647 [l0, l1, l2, l3] [aI (w32 (x + y)), s0, s1] M S := go_nx rfl rfl
set_option maxRecDepth 20000 in
theorem g179_647 (r : Nat) (l0 l1 l2 l3 : Option AV) (s0 : AV) (x : Int) (a : Nat) (M : Mem) (S : Sh) (h : S.1 a = 7) (h0 : 0 ≤ x) (h1 : x < S.2.1 a) : go r 179 647 [l0, l1, l2, l3] [aI x, aR a, s0] M S = go r 179 648 [l0, l1, l2, l3] [aI (M a x.toNat), s0] M S := go_bnd rfl ⟨h, h0, h1⟩ rfl
set_option maxRecDepth 20000 in
theorem g179_648 (r : Nat) (l0 l1 l2 l3 : Option AV) (x1 : Int) (a0 : Nat) (M : Mem) (S : Sh) (hk : 12 < r) (h : S.1 a0 = 5) : go r 179 648 [l0, l1, l2, l3] [aI x1, aR a0] M S = cont r 179 651 [l0, l1, l2, l3] [] 1 (res 57 [aR a0, aI x1] M S) := go_cr0 (m' := 57) (n := 2) (pc' := 651) (hr := 1) rfl rfl rfl h rfl rfl rfl rfl hk rfl
set_option maxRecDepth 20000 in
theorem g179_651 (r : Nat) (l0 l1 l3 : Option AV) (s0 : AV) (a : Nat) (M : Mem) (S : Sh) : go r 179 651 [l0, l1, some (aR a), l3] [s0] M S = go r 179 652 [l0, l1, some (aR a), l3] [aR a, s0] M S := go_nx rfl rfl
set_option maxRecDepth 20000 in
theorem g179_651n (r : Nat) (l0 l1 l3 : Option AV) (s0 : AV) (M : Mem) (S : Sh) : go r 179 651 [l0, l1, some aN, l3] [s0] M S = go r 179 652 [l0, l1, some aN, l3] [aN, s0] M S := go_nx rfl rfl
set_option maxRecDepth 20000 in
theorem g179_652 (r : Nat) (l1 l2 l3 : Option AV) (s0 s1 : AV) (a : Nat) (M : Mem) (S : Sh) : go r 179 652 [some (aR a), l1, l2, l3] [s0, s1] M S = go r 179 653 [some (aR a), l1, l2, l3] [aR a, s0, s1] M S := go_nx rfl rfl
set_option maxRecDepth 20000 in
theorem g179_652n (r : Nat) (l1 l2 l3 : Option AV) (s0 s1 : AV) (M : Mem) (S : Sh) : go r 179 652 [some aN, l1, l2, l3] [s0, s1] M S = go r 179 653 [some aN, l1, l2, l3] [aN, s0, s1] M S := go_nx rfl rfl
set_option maxRecDepth 20000 in
theorem g179_653 (r : Nat) (l0 l1 l2 : Option AV) (s0 s1 s2 : AV) (x : Int) (M : Mem) (S : Sh) : go r 179 653 [l0, l1, l2, some (aI x)] [s0, s1, s2] M S = go r 179 654 [l0, l1, l2, some (aI x)] [aI x, s0, s1, s2] M S := go_nx rfl rfl
set_option maxRecDepth 20000 in
theorem g179_654 (r : Nat) (l0 l1 l2 l3 : Option AV) (s0 s1 s2 s3 : AV) (M : Mem) (S : Sh) : go r 179 654 [l0, l1, l2, l3] [s0, s1, s2, s3] M S = go r 179 655 [l0, l1, l2, l3] [aI 1, s0, s1, s2, s3] M S := go_nx rfl rfl
set_option maxRecDepth 20000 in
theorem g179_655 (r : Nat) (l0 l1 l2 l3 : Option AV) (s0 s1 s2 : AV) (x y : Int) (M : Mem) (S : Sh) : go r 179 655 [l0, l1, l2, l3] [aI y, aI x, s0, s1, s2] M S = go r 179 656 [l0, l1, l2, l3] [aI (w32 (x + y)), s0, s1, s2] M S := go_nx rfl rfl
set_option maxRecDepth 20000 in
theorem g179_656 (r : Nat) (l0 l1 l2 l3 : Option AV) (s0 s1 : AV) (x : Int) (a : Nat) (M : Mem) (S : Sh) (h : S.1 a = 7) (h0 : 0 ≤ x) (h1 : x < S.2.1 a) : go r 179 656 [l0, l1, l2, l3] [aI x, aR a, s0, s1] M S = go r 179 657 [l0, l1, l2, l3] [aI (M a x.toNat), s0, s1] M S := go_bnd rfl ⟨h, h0, h1⟩ rfl
set_option maxRecDepth 20000 in
theorem g179_657 (r : Nat) (l0 l1 l2 l3 : Option AV) (s0 : AV) (x1 : Int) (a0 : Nat) (M : Mem) (S : Sh) (hk : 12 < r) (h : S.1 a0 = 6) : go r 179 657 [l0, l1, l2, l3] [aI x1, aR a0, s0] M S = cont r 179 660 [l0, l1, l2, l3] [s0] 1 (res 139 [aR a0, aI x1] M S) := go_cr0 (m' := 139) (n := 2) (pc' := 660) (hr := 1) rfl rfl rfl h rfl rfl rfl rfl hk rfl
set_option maxRecDepth 20000 in
theorem g179_660 (r : Nat) (l0 l1 l2 l3 : Option AV) (x y : Int) (M : Mem) (S : Sh) : go r 179 660 [l0, l1, l2, l3] [aI y, aI x] M S = if x = y then go r 179 1514 [l0, l1, l2, l3] [] M S else go r 179 663 [l0, l1, l2, l3] [] M S := go_br rfl rfl rfl rfl rfl
set_option maxRecDepth 20000 in
theorem g179_663 (r : Nat) (l0 l1 l2 l3 : Option AV) (M : Mem) (S : Sh) : go r 179 663 [l0, l1, l2, l3] [] M S = go r 179 664 [l0, l1, l2, l3] [aI 0] M S := go_nx rfl rfl
set_option maxRecDepth 20000 in
theorem g179_664 (r : Nat) (l0 l1 l2 l3 : Option AV) (x : Int) (M : Mem) (S : Sh) (h : x = 0 ∨ x = 1) : go r 179 664 [l0, l1, l2, l3] [aI x] M S = some (some (aI x), M, S) := go_rt rfl (bnd_t (Or.inr h))
set_option maxRecDepth 20000 in
theorem g179_665 (r : Nat) (l0 l2 l3 : Option AV) (a : Nat) (M : Mem) (S : Sh) : go r 179 665 [l0, some (aR a), l2, l3] [] M S = go r 179 666 [l0, some (aR a), l2, l3] [aR a] M S := go_nx rfl rfl
set_option maxRecDepth 20000 in
theorem g179_665n (r : Nat) (l0 l2 l3 : Option AV) (M : Mem) (S : Sh) : go r 179 665 [l0, some aN, l2, l3] [] M S = go r 179 666 [l0, some aN, l2, l3] [aN] M S := go_nx rfl rfl
set_option maxRecDepth 20000 in
theorem g179_666 (r : Nat) (l1 l2 l3 : Option AV) (s0 : AV) (a : Nat) (M : Mem) (S : Sh) : go r 179 666 [some (aR a), l1, l2, l3] [s0] M S = go r 179 667 [some (aR a), l1, l2, l3] [aR a, s0] M S := go_nx rfl rfl
set_option maxRecDepth 20000 in
theorem g179_666n (r : Nat) (l1 l2 l3 : Option AV) (s0 : AV) (M : Mem) (S : Sh) : go r 179 666 [some aN, l1, l2, l3] [s0] M S = go r 179 667 [some aN, l1, l2, l3] [aN, s0] M S := go_nx rfl rfl
set_option maxRecDepth 20000 in
theorem g179_667 (r : Nat) (l0 l1 l2 : Option AV) (s0 s1 : AV) (x : Int) (M : Mem) (S : Sh) : go r 179 667 [l0, l1, l2, some (aI x)] [s0, s1] M S = go r 179 668 [l0, l1, l2, some (aI x)] [aI x, s0, s1] M S := go_nx rfl rfl
set_option maxRecDepth 20000 in
theorem g179_668 (r : Nat) (l0 l1 l2 l3 : Option AV) (s0 s1 s2 : AV) (M : Mem) (S : Sh) : go r 179 668 [l0, l1, l2, l3] [s0, s1, s2] M S = go r 179 669 [l0, l1, l2, l3] [aI 1, s0, s1, s2] M S := go_nx rfl rfl
set_option maxRecDepth 20000 in
theorem g179_669 (r : Nat) (l0 l1 l2 l3 : Option AV) (s0 s1 : AV) (x y : Int) (M : Mem) (S : Sh) : go r 179 669 [l0, l1, l2, l3] [aI y, aI x, s0, s1] M S = go r 179 670 [l0, l1, l2, l3] [aI (w32 (x + y)), s0, s1] M S := go_nx rfl rfl
set_option maxRecDepth 20000 in
theorem g179_670 (r : Nat) (l0 l1 l2 l3 : Option AV) (s0 : AV) (x : Int) (a : Nat) (M : Mem) (S : Sh) (h : S.1 a = 7) (h0 : 0 ≤ x) (h1 : x < S.2.1 a) : go r 179 670 [l0, l1, l2, l3] [aI x, aR a, s0] M S = go r 179 671 [l0, l1, l2, l3] [aI (M a x.toNat), s0] M S := go_bnd rfl ⟨h, h0, h1⟩ rfl
set_option maxRecDepth 20000 in
theorem g179_671 (r : Nat) (l0 l1 l2 l3 : Option AV) (x1 : Int) (a0 : Nat) (M : Mem) (S : Sh) (hk : 12 < r) (h : S.1 a0 = 5) : go r 179 671 [l0, l1, l2, l3] [aI x1, aR a0] M S = cont r 179 674 [l0, l1, l2, l3] [] 1 (res 58 [aR a0, aI x1] M S) := go_cr0 (m' := 58) (n := 2) (pc' := 674) (hr := 1) rfl rfl rfl h rfl rfl rfl rfl hk rfl
set_option maxRecDepth 20000 in
theorem g179_674 (r : Nat) (l0 l1 l3 : Option AV) (s0 : AV) (a : Nat) (M : Mem) (S : Sh) : go r 179 674 [l0, l1, some (aR a), l3] [s0] M S = go r 179 675 [l0, l1, some (aR a), l3] [aR a, s0] M S := go_nx rfl rfl
set_option maxRecDepth 20000 in
theorem g179_674n (r : Nat) (l0 l1 l3 : Option AV) (s0 : AV) (M : Mem) (S : Sh) : go r 179 674 [l0, l1, some aN, l3] [s0] M S = go r 179 675 [l0, l1, some aN, l3] [aN, s0] M S := go_nx rfl rfl
set_option maxRecDepth 20000 in
theorem g179_675 (r : Nat) (l1 l2 l3 : Option AV) (s0 s1 : AV) (a : Nat) (M : Mem) (S : Sh) : go r 179 675 [some (aR a), l1, l2, l3] [s0, s1] M S = go r 179 676 [some (aR a), l1, l2, l3] [aR a, s0, s1] M S := go_nx rfl rfl
set_option maxRecDepth 20000 in
theorem g179_675n (r : Nat) (l1 l2 l3 : Option AV) (s0 s1 : AV) (M : Mem) (S : Sh) : go r 179 675 [some aN, l1, l2, l3] [s0, s1] M S = go r 179 676 [some aN, l1, l2, l3] [aN, s0, s1] M S := go_nx rfl rfl
set_option maxRecDepth 20000 in
theorem g179_676 (r : Nat) (l0 l1 l2 : Option AV) (s0 s1 s2 : AV) (x : Int) (M : Mem) (S : Sh) : go r 179 676 [l0, l1, l2, some (aI x)] [s0, s1, s2] M S = go r 179 677 [l0, l1, l2, some (aI x)] [aI x, s0, s1, s2] M S := go_nx rfl rfl
set_option maxRecDepth 20000 in
theorem g179_677 (r : Nat) (l0 l1 l2 l3 : Option AV) (s0 s1 s2 s3 : AV) (M : Mem) (S : Sh) : go r 179 677 [l0, l1, l2, l3] [s0, s1, s2, s3] M S = go r 179 678 [l0, l1, l2, l3] [aI 1, s0, s1, s2, s3] M S := go_nx rfl rfl
set_option maxRecDepth 20000 in
theorem g179_678 (r : Nat) (l0 l1 l2 l3 : Option AV) (s0 s1 s2 : AV) (x y : Int) (M : Mem) (S : Sh) : go r 179 678 [l0, l1, l2, l3] [aI y, aI x, s0, s1, s2] M S = go r 179 679 [l0, l1, l2, l3] [aI (w32 (x + y)), s0, s1, s2] M S := go_nx rfl rfl
set_option maxRecDepth 20000 in
theorem g179_679 (r : Nat) (l0 l1 l2 l3 : Option AV) (s0 s1 : AV) (x : Int) (a : Nat) (M : Mem) (S : Sh) (h : S.1 a = 7) (h0 : 0 ≤ x) (h1 : x < S.2.1 a) : go r 179 679 [l0, l1, l2, l3] [aI x, aR a, s0, s1] M S = go r 179 680 [l0, l1, l2, l3] [aI (M a x.toNat), s0, s1] M S := go_bnd rfl ⟨h, h0, h1⟩ rfl
set_option maxRecDepth 20000 in
theorem g179_680 (r : Nat) (l0 l1 l2 l3 : Option AV) (s0 : AV) (x1 : Int) (a0 : Nat) (M : Mem) (S : Sh) (hk : 12 < r) (h : S.1 a0 = 6) : go r 179 680 [l0, l1, l2, l3] [aI x1, aR a0, s0] M S = cont r 179 683 [l0, l1, l2, l3] [s0] 1 (res 140 [aR a0, aI x1] M S) := go_cr0 (m' := 140) (n := 2) (pc' := 683) (hr := 1) rfl rfl rfl h rfl rfl rfl rfl hk rfl
set_option maxRecDepth 20000 in
theorem g179_683 (r : Nat) (l0 l1 l2 l3 : Option AV) (x y : Int) (M : Mem) (S : Sh) : go r 179 683 [l0, l1, l2, l3] [aI y, aI x] M S = if x = y then go r 179 1514 [l0, l1, l2, l3] [] M S else go r 179 686 [l0, l1, l2, l3] [] M S := go_br rfl rfl rfl rfl rfl
set_option maxRecDepth 20000 in
theorem g179_686 (r : Nat) (l0 l1 l2 l3 : Option AV) (M : Mem) (S : Sh) : go r 179 686 [l0, l1, l2, l3] [] M S = go r 179 687 [l0, l1, l2, l3] [aI 0] M S := go_nx rfl rfl
set_option maxRecDepth 20000 in
theorem g179_687 (r : Nat) (l0 l1 l2 l3 : Option AV) (x : Int) (M : Mem) (S : Sh) (h : x = 0 ∨ x = 1) : go r 179 687 [l0, l1, l2, l3] [aI x] M S = some (some (aI x), M, S) := go_rt rfl (bnd_t (Or.inr h))
set_option maxRecDepth 20000 in
theorem g179_688 (r : Nat) (l0 l2 l3 : Option AV) (a : Nat) (M : Mem) (S : Sh) : go r 179 688 [l0, some (aR a), l2, l3] [] M S = go r 179 689 [l0, some (aR a), l2, l3] [aR a] M S := go_nx rfl rfl
set_option maxRecDepth 20000 in
theorem g179_688n (r : Nat) (l0 l2 l3 : Option AV) (M : Mem) (S : Sh) : go r 179 688 [l0, some aN, l2, l3] [] M S = go r 179 689 [l0, some aN, l2, l3] [aN] M S := go_nx rfl rfl
set_option maxRecDepth 20000 in
theorem g179_689 (r : Nat) (l1 l2 l3 : Option AV) (s0 : AV) (a : Nat) (M : Mem) (S : Sh) : go r 179 689 [some (aR a), l1, l2, l3] [s0] M S = go r 179 690 [some (aR a), l1, l2, l3] [aR a, s0] M S := go_nx rfl rfl
set_option maxRecDepth 20000 in
theorem g179_689n (r : Nat) (l1 l2 l3 : Option AV) (s0 : AV) (M : Mem) (S : Sh) : go r 179 689 [some aN, l1, l2, l3] [s0] M S = go r 179 690 [some aN, l1, l2, l3] [aN, s0] M S := go_nx rfl rfl
set_option maxRecDepth 20000 in
theorem g179_690 (r : Nat) (l0 l1 l2 : Option AV) (s0 s1 : AV) (x : Int) (M : Mem) (S : Sh) : go r 179 690 [l0, l1, l2, some (aI x)] [s0, s1] M S = go r 179 691 [l0, l1, l2, some (aI x)] [aI x, s0, s1] M S := go_nx rfl rfl
set_option maxRecDepth 20000 in
theorem g179_691 (r : Nat) (l0 l1 l2 l3 : Option AV) (s0 s1 s2 : AV) (M : Mem) (S : Sh) : go r 179 691 [l0, l1, l2, l3] [s0, s1, s2] M S = go r 179 692 [l0, l1, l2, l3] [aI 1, s0, s1, s2] M S := go_nx rfl rfl
set_option maxRecDepth 20000 in
theorem g179_692 (r : Nat) (l0 l1 l2 l3 : Option AV) (s0 s1 : AV) (x y : Int) (M : Mem) (S : Sh) : go r 179 692 [l0, l1, l2, l3] [aI y, aI x, s0, s1] M S = go r 179 693 [l0, l1, l2, l3] [aI (w32 (x + y)), s0, s1] M S := go_nx rfl rfl
set_option maxRecDepth 20000 in
theorem g179_693 (r : Nat) (l0 l1 l2 l3 : Option AV) (s0 : AV) (x : Int) (a : Nat) (M : Mem) (S : Sh) (h : S.1 a = 7) (h0 : 0 ≤ x) (h1 : x < S.2.1 a) : go r 179 693 [l0, l1, l2, l3] [aI x, aR a, s0] M S = go r 179 694 [l0, l1, l2, l3] [aI (M a x.toNat), s0] M S := go_bnd rfl ⟨h, h0, h1⟩ rfl
set_option maxRecDepth 20000 in
theorem g179_694 (r : Nat) (l0 l1 l2 l3 : Option AV) (x1 : Int) (a0 : Nat) (M : Mem) (S : Sh) (hk : 16 < r) (h : S.1 a0 = 5) : go r 179 694 [l0, l1, l2, l3] [aI x1, aR a0] M S = cont r 179 697 [l0, l1, l2, l3] [] 1 (res 59 [aR a0, aI x1] M S) := go_cr0 (m' := 59) (n := 2) (pc' := 697) (hr := 1) rfl rfl rfl h rfl rfl rfl rfl hk rfl
set_option maxRecDepth 20000 in
theorem g179_697 (r : Nat) (l0 l1 l3 : Option AV) (s0 : AV) (a : Nat) (M : Mem) (S : Sh) : go r 179 697 [l0, l1, some (aR a), l3] [s0] M S = go r 179 698 [l0, l1, some (aR a), l3] [aR a, s0] M S := go_nx rfl rfl
set_option maxRecDepth 20000 in
theorem g179_697n (r : Nat) (l0 l1 l3 : Option AV) (s0 : AV) (M : Mem) (S : Sh) : go r 179 697 [l0, l1, some aN, l3] [s0] M S = go r 179 698 [l0, l1, some aN, l3] [aN, s0] M S := go_nx rfl rfl
set_option maxRecDepth 20000 in
theorem g179_698 (r : Nat) (l1 l2 l3 : Option AV) (s0 s1 : AV) (a : Nat) (M : Mem) (S : Sh) : go r 179 698 [some (aR a), l1, l2, l3] [s0, s1] M S = go r 179 699 [some (aR a), l1, l2, l3] [aR a, s0, s1] M S := go_nx rfl rfl
set_option maxRecDepth 20000 in
theorem g179_698n (r : Nat) (l1 l2 l3 : Option AV) (s0 s1 : AV) (M : Mem) (S : Sh) : go r 179 698 [some aN, l1, l2, l3] [s0, s1] M S = go r 179 699 [some aN, l1, l2, l3] [aN, s0, s1] M S := go_nx rfl rfl
set_option maxRecDepth 20000 in
theorem g179_699 (r : Nat) (l0 l1 l2 : Option AV) (s0 s1 s2 : AV) (x : Int) (M : Mem) (S : Sh) : go r 179 699 [l0, l1, l2, some (aI x)] [s0, s1, s2] M S = go r 179 700 [l0, l1, l2, some (aI x)] [aI x, s0, s1, s2] M S := go_nx rfl rfl
set_option maxRecDepth 20000 in
theorem g179_700 (r : Nat) (l0 l1 l2 l3 : Option AV) (s0 s1 s2 s3 : AV) (M : Mem) (S : Sh) : go r 179 700 [l0, l1, l2, l3] [s0, s1, s2, s3] M S = go r 179 701 [l0, l1, l2, l3] [aI 1, s0, s1, s2, s3] M S := go_nx rfl rfl
set_option maxRecDepth 20000 in
theorem g179_701 (r : Nat) (l0 l1 l2 l3 : Option AV) (s0 s1 s2 : AV) (x y : Int) (M : Mem) (S : Sh) : go r 179 701 [l0, l1, l2, l3] [aI y, aI x, s0, s1, s2] M S = go r 179 702 [l0, l1, l2, l3] [aI (w32 (x + y)), s0, s1, s2] M S := go_nx rfl rfl
set_option maxRecDepth 20000 in
theorem g179_702 (r : Nat) (l0 l1 l2 l3 : Option AV) (s0 s1 : AV) (x : Int) (a : Nat) (M : Mem) (S : Sh) (h : S.1 a = 7) (h0 : 0 ≤ x) (h1 : x < S.2.1 a) : go r 179 702 [l0, l1, l2, l3] [aI x, aR a, s0, s1] M S = go r 179 703 [l0, l1, l2, l3] [aI (M a x.toNat), s0, s1] M S := go_bnd rfl ⟨h, h0, h1⟩ rfl
set_option maxRecDepth 20000 in
theorem g179_703 (r : Nat) (l0 l1 l2 l3 : Option AV) (s0 : AV) (x1 : Int) (a0 : Nat) (M : Mem) (S : Sh) (hk : 18 < r) (h : S.1 a0 = 6) : go r 179 703 [l0, l1, l2, l3] [aI x1, aR a0, s0] M S = cont r 179 706 [l0, l1, l2, l3] [s0] 1 (res 148 [aR a0, aI x1] M S) := go_cr0 (m' := 148) (n := 2) (pc' := 706) (hr := 1) rfl rfl rfl h rfl rfl rfl rfl hk rfl
set_option maxRecDepth 20000 in
theorem g179_706 (r : Nat) (l0 l1 l2 l3 : Option AV) (x y : Int) (M : Mem) (S : Sh) : go r 179 706 [l0, l1, l2, l3] [aI y, aI x] M S = if x = y then go r 179 1514 [l0, l1, l2, l3] [] M S else go r 179 709 [l0, l1, l2, l3] [] M S := go_br rfl rfl rfl rfl rfl
set_option maxRecDepth 20000 in
theorem g179_709 (r : Nat) (l0 l1 l2 l3 : Option AV) (M : Mem) (S : Sh) : go r 179 709 [l0, l1, l2, l3] [] M S = go r 179 710 [l0, l1, l2, l3] [aI 0] M S := go_nx rfl rfl
set_option maxRecDepth 20000 in
theorem g179_710 (r : Nat) (l0 l1 l2 l3 : Option AV) (x : Int) (M : Mem) (S : Sh) (h : x = 0 ∨ x = 1) : go r 179 710 [l0, l1, l2, l3] [aI x] M S = some (some (aI x), M, S) := go_rt rfl (bnd_t (Or.inr h))
set_option maxRecDepth 20000 in
theorem g179_711 (r : Nat) (l0 l2 l3 : Option AV) (a : Nat) (M : Mem) (S : Sh) : go r 179 711 [l0, some (aR a), l2, l3] [] M S = go r 179 712 [l0, some (aR a), l2, l3] [aR a] M S := go_nx rfl rfl
set_option maxRecDepth 20000 in
theorem g179_711n (r : Nat) (l0 l2 l3 : Option AV) (M : Mem) (S : Sh) : go r 179 711 [l0, some aN, l2, l3] [] M S = go r 179 712 [l0, some aN, l2, l3] [aN] M S := go_nx rfl rfl
set_option maxRecDepth 20000 in
theorem g179_712 (r : Nat) (l1 l2 l3 : Option AV) (s0 : AV) (a : Nat) (M : Mem) (S : Sh) : go r 179 712 [some (aR a), l1, l2, l3] [s0] M S = go r 179 713 [some (aR a), l1, l2, l3] [aR a, s0] M S := go_nx rfl rfl
set_option maxRecDepth 20000 in
theorem g179_712n (r : Nat) (l1 l2 l3 : Option AV) (s0 : AV) (M : Mem) (S : Sh) : go r 179 712 [some aN, l1, l2, l3] [s0] M S = go r 179 713 [some aN, l1, l2, l3] [aN, s0] M S := go_nx rfl rfl
set_option maxRecDepth 20000 in
theorem g179_713 (r : Nat) (l0 l1 l2 : Option AV) (s0 s1 : AV) (x : Int) (M : Mem) (S : Sh) : go r 179 713 [l0, l1, l2, some (aI x)] [s0, s1] M S = go r 179 714 [l0, l1, l2, some (aI x)] [aI x, s0, s1] M S := go_nx rfl rfl
set_option maxRecDepth 20000 in
theorem g179_714 (r : Nat) (l0 l1 l2 l3 : Option AV) (s0 s1 s2 : AV) (M : Mem) (S : Sh) : go r 179 714 [l0, l1, l2, l3] [s0, s1, s2] M S = go r 179 715 [l0, l1, l2, l3] [aI 1, s0, s1, s2] M S := go_nx rfl rfl
set_option maxRecDepth 20000 in
theorem g179_715 (r : Nat) (l0 l1 l2 l3 : Option AV) (s0 s1 : AV) (x y : Int) (M : Mem) (S : Sh) : go r 179 715 [l0, l1, l2, l3] [aI y, aI x, s0, s1] M S = go r 179 716 [l0, l1, l2, l3] [aI (w32 (x + y)), s0, s1] M S := go_nx rfl rfl
set_option maxRecDepth 20000 in
theorem g179_716 (r : Nat) (l0 l1 l2 l3 : Option AV) (s0 : AV) (x : Int) (a : Nat) (M : Mem) (S : Sh) (h : S.1 a = 7) (h0 : 0 ≤ x) (h1 : x < S.2.1 a) : go r 179 716 [l0, l1, l2, l3] [aI x, aR a, s0] M S = go r 179 717 [l0, l1, l2, l3] [aI (M a x.toNat), s0] M S := go_bnd rfl ⟨h, h0, h1⟩ rfl
set_option maxRecDepth 20000 in
theorem g179_717 (r : Nat) (l0 l1 l2 l3 : Option AV) (x1 : Int) (a0 : Nat) (M : Mem) (S : Sh) (hk : 16 < r) (h : S.1 a0 = 5) : go r 179 717 [l0, l1, l2, l3] [aI x1, aR a0] M S = cont r 179 720 [l0, l1, l2, l3] [] 1 (res 60 [aR a0, aI x1] M S) := go_cr0 (m' := 60) (n := 2) (pc' := 720) (hr := 1) rfl rfl rfl h rfl rfl rfl rfl hk rfl
set_option maxRecDepth 20000 in
theorem g179_720 (r : Nat) (l0 l1 l3 : Option AV) (s0 : AV) (a : Nat) (M : Mem) (S : Sh) : go r 179 720 [l0, l1, some (aR a), l3] [s0] M S = go r 179 721 [l0, l1, some (aR a), l3] [aR a, s0] M S := go_nx rfl rfl
set_option maxRecDepth 20000 in
theorem g179_720n (r : Nat) (l0 l1 l3 : Option AV) (s0 : AV) (M : Mem) (S : Sh) : go r 179 720 [l0, l1, some aN, l3] [s0] M S = go r 179 721 [l0, l1, some aN, l3] [aN, s0] M S := go_nx rfl rfl
set_option maxRecDepth 20000 in
theorem g179_721 (r : Nat) (l1 l2 l3 : Option AV) (s0 s1 : AV) (a : Nat) (M : Mem) (S : Sh) : go r 179 721 [some (aR a), l1, l2, l3] [s0, s1] M S = go r 179 722 [some (aR a), l1, l2, l3] [aR a, s0, s1] M S := go_nx rfl rfl
set_option maxRecDepth 20000 in
theorem g179_721n (r : Nat) (l1 l2 l3 : Option AV) (s0 s1 : AV) (M : Mem) (S : Sh) : go r 179 721 [some aN, l1, l2, l3] [s0, s1] M S = go r 179 722 [some aN, l1, l2, l3] [aN, s0, s1] M S := go_nx rfl rfl
set_option maxRecDepth 20000 in
theorem g179_722 (r : Nat) (l0 l1 l2 : Option AV) (s0 s1 s2 : AV) (x : Int) (M : Mem) (S : Sh) : go r 179 722 [l0, l1, l2, some (aI x)] [s0, s1, s2] M S = go r 179 723 [l0, l1, l2, some (aI x)] [aI x, s0, s1, s2] M S := go_nx rfl rfl
set_option maxRecDepth 20000 in
theorem g179_723 (r : Nat) (l0 l1 l2 l3 : Option AV) (s0 s1 s2 s3 : AV) (M : Mem) (S : Sh) : go r 179 723 [l0, l1, l2, l3] [s0, s1, s2, s3] M S = go r 179 724 [l0, l1, l2, l3] [aI 1, s0, s1, s2, s3] M S := go_nx rfl rfl
set_option maxRecDepth 20000 in
theorem g179_724 (r : Nat) (l0 l1 l2 l3 : Option AV) (s0 s1 s2 : AV) (x y : Int) (M : Mem) (S : Sh) : go r 179 724 [l0, l1, l2, l3] [aI y, aI x, s0, s1, s2] M S = go r 179 725 [l0, l1, l2, l3] [aI (w32 (x + y)), s0, s1, s2] M S := go_nx rfl rfl
set_option maxRecDepth 20000 in
theorem g179_725 (r : Nat) (l0 l1 l2 l3 : Option AV) (s0 s1 : AV) (x : Int) (a : Nat) (M : Mem) (S : Sh) (h : S.1 a = 7) (h0 : 0 ≤ x) (h1 : x < S.2.1 a) : go r 179 725 [l0, l1, l2, l3] [aI x, aR a, s0, s1] M S = go r 179 726 [l0, l1, l2, l3] [aI (M a x.toNat), s0, s1] M S := go_bnd rfl ⟨h, h0, h1⟩ rfl
set_option maxRecDepth 20000 in
theorem g179_726 (r : Nat) (l0 l1 l2 l3 : Option AV) (s0 : AV) (x1 : Int) (a0 : Nat) (M : Mem) (S : Sh) (hk : 18 < r) (h : S.1 a0 = 6) : go r 179 726 [l0, l1, l2, l3] [aI x1, aR a0, s0] M S = cont r 179 729 [l0, l1, l2, l3] [s0] 1 (res 149 [aR a0, aI x1] M S) := go_cr0 (m' := 149) (n := 2) (pc' := 729) (hr := 1) rfl rfl rfl h rfl rfl rfl rfl hk rfl
set_option maxRecDepth 20000 in
theorem g179_729 (r : Nat) (l0 l1 l2 l3 : Option AV) (x y : Int) (M : Mem) (S : Sh) : go r 179 729 [l0, l1, l2, l3] [aI y, aI x] M S = if x = y then go r 179 1514 [l0, l1, l2, l3] [] M S else go r 179 732 [l0, l1, l2, l3] [] M S := go_br rfl rfl rfl rfl rfl
set_option maxRecDepth 20000 in
theorem g179_732 (r : Nat) (l0 l1 l2 l3 : Option AV) (M : Mem) (S : Sh) : go r 179 732 [l0, l1, l2, l3] [] M S = go r 179 733 [l0, l1, l2, l3] [aI 0] M S := go_nx rfl rfl
set_option maxRecDepth 20000 in
theorem g179_733 (r : Nat) (l0 l1 l2 l3 : Option AV) (x : Int) (M : Mem) (S : Sh) (h : x = 0 ∨ x = 1) : go r 179 733 [l0, l1, l2, l3] [aI x] M S = some (some (aI x), M, S) := go_rt rfl (bnd_t (Or.inr h))
set_option maxRecDepth 20000 in
theorem g179_734 (r : Nat) (l0 l2 l3 : Option AV) (a : Nat) (M : Mem) (S : Sh) : go r 179 734 [l0, some (aR a), l2, l3] [] M S = go r 179 735 [l0, some (aR a), l2, l3] [aR a] M S := go_nx rfl rfl
set_option maxRecDepth 20000 in
theorem g179_734n (r : Nat) (l0 l2 l3 : Option AV) (M : Mem) (S : Sh) : go r 179 734 [l0, some aN, l2, l3] [] M S = go r 179 735 [l0, some aN, l2, l3] [aN] M S := go_nx rfl rfl
set_option maxRecDepth 20000 in
theorem g179_735 (r : Nat) (l1 l2 l3 : Option AV) (s0 : AV) (a : Nat) (M : Mem) (S : Sh) : go r 179 735 [some (aR a), l1, l2, l3] [s0] M S = go r 179 736 [some (aR a), l1, l2, l3] [aR a, s0] M S := go_nx rfl rfl
set_option maxRecDepth 20000 in
theorem g179_735n (r : Nat) (l1 l2 l3 : Option AV) (s0 : AV) (M : Mem) (S : Sh) : go r 179 735 [some aN, l1, l2, l3] [s0] M S = go r 179 736 [some aN, l1, l2, l3] [aN, s0] M S := go_nx rfl rfl
set_option maxRecDepth 20000 in
theorem g179_736 (r : Nat) (l0 l1 l2 : Option AV) (s0 s1 : AV) (x : Int) (M : Mem) (S : Sh) : go r 179 736 [l0, l1, l2, some (aI x)] [s0, s1] M S = go r 179 737 [l0, l1, l2, some (aI x)] [aI x, s0, s1] M S := go_nx rfl rfl
set_option maxRecDepth 20000 in
theorem g179_737 (r : Nat) (l0 l1 l2 l3 : Option AV) (s0 s1 s2 : AV) (M : Mem) (S : Sh) : go r 179 737 [l0, l1, l2, l3] [s0, s1, s2] M S = go r 179 738 [l0, l1, l2, l3] [aI 1, s0, s1, s2] M S := go_nx rfl rfl
set_option maxRecDepth 20000 in
theorem g179_738 (r : Nat) (l0 l1 l2 l3 : Option AV) (s0 s1 : AV) (x y : Int) (M : Mem) (S : Sh) : go r 179 738 [l0, l1, l2, l3] [aI y, aI x, s0, s1] M S = go r 179 739 [l0, l1, l2, l3] [aI (w32 (x + y)), s0, s1] M S := go_nx rfl rfl
set_option maxRecDepth 20000 in
theorem g179_739 (r : Nat) (l0 l1 l2 l3 : Option AV) (s0 : AV) (x : Int) (a : Nat) (M : Mem) (S : Sh) (h : S.1 a = 7) (h0 : 0 ≤ x) (h1 : x < S.2.1 a) : go r 179 739 [l0, l1, l2, l3] [aI x, aR a, s0] M S = go r 179 740 [l0, l1, l2, l3] [aI (M a x.toNat), s0] M S := go_bnd rfl ⟨h, h0, h1⟩ rfl
set_option maxRecDepth 20000 in
theorem g179_740 (r : Nat) (l0 l1 l2 l3 : Option AV) (x1 : Int) (a0 : Nat) (M : Mem) (S : Sh) (hk : 16 < r) (h : S.1 a0 = 5) : go r 179 740 [l0, l1, l2, l3] [aI x1, aR a0] M S = cont r 179 743 [l0, l1, l2, l3] [] 1 (res 61 [aR a0, aI x1] M S) := go_cr0 (m' := 61) (n := 2) (pc' := 743) (hr := 1) rfl rfl rfl h rfl rfl rfl rfl hk rfl
set_option maxRecDepth 20000 in
theorem g179_743 (r : Nat) (l0 l1 l3 : Option AV) (s0 : AV) (a : Nat) (M : Mem) (S : Sh) : go r 179 743 [l0, l1, some (aR a), l3] [s0] M S = go r 179 744 [l0, l1, some (aR a), l3] [aR a, s0] M S := go_nx rfl rfl
set_option maxRecDepth 20000 in
theorem g179_743n (r : Nat) (l0 l1 l3 : Option AV) (s0 : AV) (M : Mem) (S : Sh) : go r 179 743 [l0, l1, some aN, l3] [s0] M S = go r 179 744 [l0, l1, some aN, l3] [aN, s0] M S := go_nx rfl rfl
set_option maxRecDepth 20000 in
theorem g179_744 (r : Nat) (l1 l2 l3 : Option AV) (s0 s1 : AV) (a : Nat) (M : Mem) (S : Sh) : go r 179 744 [some (aR a), l1, l2, l3] [s0, s1] M S = go r 179 745 [some (aR a), l1, l2, l3] [aR a, s0, s1] M S := go_nx rfl rfl
set_option maxRecDepth 20000 in
theorem g179_744n (r : Nat) (l1 l2 l3 : Option AV) (s0 s1 : AV) (M : Mem) (S : Sh) : go r 179 744 [some aN, l1, l2, l3] [s0, s1] M S = go r 179 745 [some aN, l1, l2, l3] [aN, s0, s1] M S := go_nx rfl rfl
set_option maxRecDepth 20000 in
theorem g179_745 (r : Nat) (l0 l1 l2 : Option AV) (s0 s1 s2 : AV) (x : Int) (M : Mem) (S : Sh) : go r 179 745 [l0, l1, l2, some (aI x)] [s0, s1, s2] M S = go r 179 746 [l0, l1, l2, some (aI x)] [aI x, s0, s1, s2] M S := go_nx rfl rfl
set_option maxRecDepth 20000 in
theorem g179_746 (r : Nat) (l0 l1 l2 l3 : Option AV) (s0 s1 s2 s3 : AV) (M : Mem) (S : Sh) : go r 179 746 [l0, l1, l2, l3] [s0, s1, s2, s3] M S = go r 179 747 [l0, l1, l2, l3] [aI 1, s0, s1, s2, s3] M S := go_nx rfl rfl
set_option maxRecDepth 20000 in
theorem g179_747 (r : Nat) (l0 l1 l2 l3 : Option AV) (s0 s1 s2 : AV) (x y : Int) (M : Mem) (S : Sh) : go r 179 747 [l0, l1, l2, l3] [aI y, aI x, s0, s1, s2] M S = go r 179 748 [l0, l1, l2, l3] [aI (w32 (x + y)), s0, s1, s2] M S := go_nx rfl rfl
set_option maxRecDepth 20000 in
theorem g179_748 (r : Nat) (l0 l1 l2 l3 : Option AV) (s0 s1 : AV) (x : Int) (a : Nat) (M : Mem) (S : Sh) (h : S.1 a = 7) (h0 : 0 ≤ x) (h1 : x < S.2.1 a) : go r 179 748 [l0, l1, l2, l3] [aI x, aR a, s0, s1] M S = go r 179 749 [l0, l1, l2, l3] [aI (M a x.toNat), s0, s1] M S := go_bnd rfl ⟨h, h0, h1⟩ rfl
set_option maxRecDepth 20000 in
theorem g179_749 (r : Nat) (l0 l1 l2 l3 : Option AV) (s0 : AV) (x1 : Int) (a0 : Nat) (M : Mem) (S : Sh) (hk : 18 < r) (h : S.1 a0 = 6) : go r 179 749 [l0, l1, l2, l3] [aI x1, aR a0, s0] M S = cont r 179 752 [l0, l1, l2, l3] [s0] 1 (res 150 [aR a0, aI x1] M S) := go_cr0 (m' := 150) (n := 2) (pc' := 752) (hr := 1) rfl rfl rfl h rfl rfl rfl rfl hk rfl
set_option maxRecDepth 20000 in
theorem g179_752 (r : Nat) (l0 l1 l2 l3 : Option AV) (x y : Int) (M : Mem) (S : Sh) : go r 179 752 [l0, l1, l2, l3] [aI y, aI x] M S = if x = y then go r 179 1514 [l0, l1, l2, l3] [] M S else go r 179 755 [l0, l1, l2, l3] [] M S := go_br rfl rfl rfl rfl rfl
set_option maxRecDepth 20000 in
theorem g179_755 (r : Nat) (l0 l1 l2 l3 : Option AV) (M : Mem) (S : Sh) : go r 179 755 [l0, l1, l2, l3] [] M S = go r 179 756 [l0, l1, l2, l3] [aI 0] M S := go_nx rfl rfl
set_option maxRecDepth 20000 in
theorem g179_756 (r : Nat) (l0 l1 l2 l3 : Option AV) (x : Int) (M : Mem) (S : Sh) (h : x = 0 ∨ x = 1) : go r 179 756 [l0, l1, l2, l3] [aI x] M S = some (some (aI x), M, S) := go_rt rfl (bnd_t (Or.inr h))
set_option maxRecDepth 20000 in
theorem g179_757 (r : Nat) (l0 l2 l3 : Option AV) (a : Nat) (M : Mem) (S : Sh) : go r 179 757 [l0, some (aR a), l2, l3] [] M S = go r 179 758 [l0, some (aR a), l2, l3] [aR a] M S := go_nx rfl rfl
set_option maxRecDepth 20000 in
theorem g179_757n (r : Nat) (l0 l2 l3 : Option AV) (M : Mem) (S : Sh) : go r 179 757 [l0, some aN, l2, l3] [] M S = go r 179 758 [l0, some aN, l2, l3] [aN] M S := go_nx rfl rfl
set_option maxRecDepth 20000 in
theorem g179_758 (r : Nat) (l1 l2 l3 : Option AV) (s0 : AV) (a : Nat) (M : Mem) (S : Sh) : go r 179 758 [some (aR a), l1, l2, l3] [s0] M S = go r 179 759 [some (aR a), l1, l2, l3] [aR a, s0] M S := go_nx rfl rfl
set_option maxRecDepth 20000 in
theorem g179_758n (r : Nat) (l1 l2 l3 : Option AV) (s0 : AV) (M : Mem) (S : Sh) : go r 179 758 [some aN, l1, l2, l3] [s0] M S = go r 179 759 [some aN, l1, l2, l3] [aN, s0] M S := go_nx rfl rfl
set_option maxRecDepth 20000 in
theorem g179_759 (r : Nat) (l0 l1 l2 : Option AV) (s0 s1 : AV) (x : Int) (M : Mem) (S : Sh) : go r 179 759 [l0, l1, l2, some (aI x)] [s0, s1] M S = go r 179 760 [l0, l1, l2, some (aI x)] [aI x, s0, s1] M S := go_nx rfl rfl
set_option maxRecDepth 20000 in
theorem g179_760 (r : Nat) (l0 l1 l2 l3 : Option AV) (s0 s1 s2 : AV) (M : Mem) (S : Sh) : go r 179 760 [l0, l1, l2, l3] [s0, s1, s2] M S = go r 179 761 [l0, l1, l2, l3] [aI 1, s0, s1, s2] M S := go_nx rfl rfl
set_option maxRecDepth 20000 in
theorem g179_761 (r : Nat) (l0 l1 l2 l3 : Option AV) (s0 s1 : AV) (x y : Int) (M : Mem) (S : Sh) : go r 179 761 [l0, l1, l2, l3] [aI y, aI x, s0, s1] M S = go r 179 762 [l0, l1, l2, l3] [aI (w32 (x + y)), s0, s1] M S := go_nx rfl rfl
set_option maxRecDepth 20000 in
theorem g179_762 (r : Nat) (l0 l1 l2 l3 : Option AV) (s0 : AV) (x : Int) (a : Nat) (M : Mem) (S : Sh) (h : S.1 a = 7) (h0 : 0 ≤ x) (h1 : x < S.2.1 a) : go r 179 762 [l0, l1, l2, l3] [aI x, aR a, s0] M S = go r 179 763 [l0, l1, l2, l3] [aI (M a x.toNat), s0] M S := go_bnd rfl ⟨h, h0, h1⟩ rfl
set_option maxRecDepth 20000 in
theorem g179_763 (r : Nat) (l0 l1 l2 l3 : Option AV) (x1 : Int) (a0 : Nat) (M : Mem) (S : Sh) (hk : 16 < r) (h : S.1 a0 = 5) : go r 179 763 [l0, l1, l2, l3] [aI x1, aR a0] M S = cont r 179 766 [l0, l1, l2, l3] [] 1 (res 62 [aR a0, aI x1] M S) := go_cr0 (m' := 62) (n := 2) (pc' := 766) (hr := 1) rfl rfl rfl h rfl rfl rfl rfl hk rfl
set_option maxRecDepth 20000 in
theorem g179_766 (r : Nat) (l0 l1 l3 : Option AV) (s0 : AV) (a : Nat) (M : Mem) (S : Sh) : go r 179 766 [l0, l1, some (aR a), l3] [s0] M S = go r 179 767 [l0, l1, some (aR a), l3] [aR a, s0] M S := go_nx rfl rfl
set_option maxRecDepth 20000 in
theorem g179_766n (r : Nat) (l0 l1 l3 : Option AV) (s0 : AV) (M : Mem) (S : Sh) : go r 179 766 [l0, l1, some aN, l3] [s0] M S = go r 179 767 [l0, l1, some aN, l3] [aN, s0] M S := go_nx rfl rfl
set_option maxRecDepth 20000 in
theorem g179_767 (r : Nat) (l1 l2 l3 : Option AV) (s0 s1 : AV) (a : Nat) (M : Mem) (S : Sh) : go r 179 767 [some (aR a), l1, l2, l3] [s0, s1] M S = go r 179 768 [some (aR a), l1, l2, l3] [aR a, s0, s1] M S := go_nx rfl rfl
set_option maxRecDepth 20000 in
theorem g179_767n (r : Nat) (l1 l2 l3 : Option AV) (s0 s1 : AV) (M : Mem) (S : Sh) : go r 179 767 [some aN, l1, l2, l3] [s0, s1] M S = go r 179 768 [some aN, l1, l2, l3] [aN, s0, s1] M S := go_nx rfl rfl
set_option maxRecDepth 20000 in
theorem g179_768 (r : Nat) (l0 l1 l2 : Option AV) (s0 s1 s2 : AV) (x : Int) (M : Mem) (S : Sh) : go r 179 768 [l0, l1, l2, some (aI x)] [s0, s1, s2] M S = go r 179 769 [l0, l1, l2, some (aI x)] [aI x, s0, s1, s2] M S := go_nx rfl rfl
set_option maxRecDepth 20000 in
theorem g179_769 (r : Nat) (l0 l1 l2 l3 : Option AV) (s0 s1 s2 s3 : AV) (M : Mem) (S : Sh) : go r 179 769 [l0, l1, l2, l3] [s0, s1, s2, s3] M S = go r 179 770 [l0, l1, l2, l3] [aI 1, s0, s1, s2, s3] M S := go_nx rfl rfl
set_option maxRecDepth 20000 in
theorem g179_770 (r : Nat) (l0 l1 l2 l3 : Option AV) (s0 s1 s2 : AV) (x y : Int) (M : Mem) (S : Sh) : go r 179 770 [l0, l1, l2, l3] [aI y, aI x, s0, s1, s2] M S = go r 179 771 [l0, l1, l2, l3] [aI (w32 (x + y)), s0, s1, s2] M S := go_nx rfl rfl
set_option maxRecDepth 20000 in
theorem g179_771 (r : Nat) (l0 l1 l2 l3 : Option AV) (s0 s1 : AV) (x : Int) (a : Nat) (M : Mem) (S : Sh) (h : S.1 a = 7) (h0 : 0 ≤ x) (h1 : x < S.2.1 a) : go r 179 771 [l0, l1, l2, l3] [aI x, aR a, s0, s1] M S = go r 179 772 [l0, l1, l2, l3] [aI (M a x.toNat), s0, s1] M S := go_bnd rfl ⟨h, h0, h1⟩ rfl
set_option maxRecDepth 20000 in
theorem g179_772 (r : Nat) (l0 l1 l2 l3 : Option AV) (s0 : AV) (x1 : Int) (a0 : Nat) (M : Mem) (S : Sh) (hk : 18 < r) (h : S.1 a0 = 6) : go r 179 772 [l0, l1, l2, l3] [aI x1, aR a0, s0] M S = cont r 179 775 [l0, l1, l2, l3] [s0] 1 (res 151 [aR a0, aI x1] M S) := go_cr0 (m' := 151) (n := 2) (pc' := 775) (hr := 1) rfl rfl rfl h rfl rfl rfl rfl hk rfl
set_option maxRecDepth 20000 in
theorem g179_775 (r : Nat) (l0 l1 l2 l3 : Option AV) (x y : Int) (M : Mem) (S : Sh) : go r 179 775 [l0, l1, l2, l3] [aI y, aI x] M S = if x = y then go r 179 1514 [l0, l1, l2, l3] [] M S else go r 179 778 [l0, l1, l2, l3] [] M S := go_br rfl rfl rfl rfl rfl
set_option maxRecDepth 20000 in
theorem g179_778 (r : Nat) (l0 l1 l2 l3 : Option AV) (M : Mem) (S : Sh) : go r 179 778 [l0, l1, l2, l3] [] M S = go r 179 779 [l0, l1, l2, l3] [aI 0] M S := go_nx rfl rfl
set_option maxRecDepth 20000 in
theorem g179_779 (r : Nat) (l0 l1 l2 l3 : Option AV) (x : Int) (M : Mem) (S : Sh) (h : x = 0 ∨ x = 1) : go r 179 779 [l0, l1, l2, l3] [aI x] M S = some (some (aI x), M, S) := go_rt rfl (bnd_t (Or.inr h))
set_option maxRecDepth 20000 in
theorem g179_780 (r : Nat) (l0 l2 l3 : Option AV) (a : Nat) (M : Mem) (S : Sh) : go r 179 780 [l0, some (aR a), l2, l3] [] M S = go r 179 781 [l0, some (aR a), l2, l3] [aR a] M S := go_nx rfl rfl
set_option maxRecDepth 20000 in
theorem g179_780n (r : Nat) (l0 l2 l3 : Option AV) (M : Mem) (S : Sh) : go r 179 780 [l0, some aN, l2, l3] [] M S = go r 179 781 [l0, some aN, l2, l3] [aN] M S := go_nx rfl rfl
set_option maxRecDepth 20000 in
theorem g179_781 (r : Nat) (l1 l2 l3 : Option AV) (s0 : AV) (a : Nat) (M : Mem) (S : Sh) : go r 179 781 [some (aR a), l1, l2, l3] [s0] M S = go r 179 782 [some (aR a), l1, l2, l3] [aR a, s0] M S := go_nx rfl rfl
set_option maxRecDepth 20000 in
theorem g179_781n (r : Nat) (l1 l2 l3 : Option AV) (s0 : AV) (M : Mem) (S : Sh) : go r 179 781 [some aN, l1, l2, l3] [s0] M S = go r 179 782 [some aN, l1, l2, l3] [aN, s0] M S := go_nx rfl rfl
set_option maxRecDepth 20000 in
theorem g179_782 (r : Nat) (l0 l1 l2 : Option AV) (s0 s1 : AV) (x : Int) (M : Mem) (S : Sh) : go r 179 782 [l0, l1, l2, some (aI x)] [s0, s1] M S = go r 179 783 [l0, l1, l2, some (aI x)] [aI x, s0, s1] M S := go_nx rfl rfl
set_option maxRecDepth 20000 in
theorem g179_783 (r : Nat) (l0 l1 l2 l3 : Option AV) (s0 s1 s2 : AV) (M : Mem) (S : Sh) : go r 179 783 [l0, l1, l2, l3] [s0, s1, s2] M S = go r 179 784 [l0, l1, l2, l3] [aI 1, s0, s1, s2] M S := go_nx rfl rfl
set_option maxRecDepth 20000 in
theorem g179_784 (r : Nat) (l0 l1 l2 l3 : Option AV) (s0 s1 : AV) (x y : Int) (M : Mem) (S : Sh) : go r 179 784 [l0, l1, l2, l3] [aI y, aI x, s0, s1] M S = go r 179 785 [l0, l1, l2, l3] [aI (w32 (x + y)), s0, s1] M S := go_nx rfl rfl
set_option maxRecDepth 20000 in
theorem g179_785 (r : Nat) (l0 l1 l2 l3 : Option AV) (s0 : AV) (x : Int) (a : Nat) (M : Mem) (S : Sh) (h : S.1 a = 7) (h0 : 0 ≤ x) (h1 : x < S.2.1 a) : go r 179 785 [l0, l1, l2, l3] [aI x, aR a, s0] M S = go r 179 786 [l0, l1, l2, l3] [aI (M a x.toNat), s0] M S := go_bnd rfl ⟨h, h0, h1⟩ rfl
set_option maxRecDepth 20000 in
theorem g179_786 (r : Nat) (l0 l1 l2 l3 : Option AV) (x1 : Int) (a0 : Nat) (M : Mem) (S : Sh) (hk : 16 < r) (h : S.1 a0 = 5) : go r 179 786 [l0, l1, l2, l3] [aI x1, aR a0] M S = cont r 179 789 [l0, l1, l2, l3] [] 1 (res 63 [aR a0, aI x1] M S) := go_cr0 (m' := 63) (n := 2) (pc' := 789) (hr := 1) rfl rfl rfl h rfl rfl rfl rfl hk rfl
set_option maxRecDepth 20000 in
theorem g179_789 (r : Nat) (l0 l1 l3 : Option AV) (s0 : AV) (a : Nat) (M : Mem) (S : Sh) : go r 179 789 [l0, l1, some (aR a), l3] [s0] M S = go r 179 790 [l0, l1, some (aR a), l3] [aR a, s0] M S := go_nx rfl rfl
set_option maxRecDepth 20000 in
theorem g179_789n (r : Nat) (l0 l1 l3 : Option AV) (s0 : AV) (M : Mem) (S : Sh) : go r 179 789 [l0, l1, some aN, l3] [s0] M S = go r 179 790 [l0, l1, some aN, l3] [aN, s0] M S := go_nx rfl rfl
set_option maxRecDepth 20000 in
theorem g179_790 (r : Nat) (l1 l2 l3 : Option AV) (s0 s1 : AV) (a : Nat) (M : Mem) (S : Sh) : go r 179 790 [some (aR a), l1, l2, l3] [s0, s1] M S = go r 179 791 [some (aR a), l1, l2, l3] [aR a, s0, s1] M S := go_nx rfl rfl
set_option maxRecDepth 20000 in
theorem g179_790n (r : Nat) (l1 l2 l3 : Option AV) (s0 s1 : AV) (M : Mem) (S : Sh) : go r 179 790 [some aN, l1, l2, l3] [s0, s1] M S = go r 179 791 [some aN, l1, l2, l3] [aN, s0, s1] M S := go_nx rfl rfl
set_option maxRecDepth 20000 in
theorem g179_791 (r : Nat) (l0 l1 l2 : Option AV) (s0 s1 s2 : AV) (x : Int) (M : Mem) (S : Sh) : go r 179 791 [l0, l1, l2, some (aI x)] [s0, s1, s2] M S = go r 179 792 [l0, l1, l2, some (aI x)] [aI x, s0, s1, s2] M S := go_nx rfl rfl
set_option maxRecDepth 20000 in
theorem g179_792 (r : Nat) (l0 l1 l2 l3 : Option AV) (s0 s1 s2 s3 : AV) (M : Mem) (S : Sh) : go r 179 792 [l0, l1, l2, l3] [s0, s1, s2, s3] M S = go r 179 793 [l0, l1, l2, l3] [aI 1, s0, s1, s2, s3] M S := go_nx rfl rfl
set_option maxRecDepth 20000 in
theorem g179_793 (r : Nat) (l0 l1 l2 l3 : Option AV) (s0 s1 s2 : AV) (x y : Int) (M : Mem) (S : Sh) : go r 179 793 [l0, l1, l2, l3] [aI y, aI x, s0, s1, s2] M S = go r 179 794 [l0, l1, l2, l3] [aI (w32 (x + y)), s0, s1, s2] M S := go_nx rfl rfl
set_option maxRecDepth 20000 in
theorem g179_794 (r : Nat) (l0 l1 l2 l3 : Option AV) (s0 s1 : AV) (x : Int) (a : Nat) (M : Mem) (S : Sh) (h : S.1 a = 7) (h0 : 0 ≤ x) (h1 : x < S.2.1 a) : go r 179 794 [l0, l1, l2, l3] [aI x, aR a, s0, s1] M S = go r 179 795 [l0, l1, l2, l3] [aI (M a x.toNat), s0, s1] M S := go_bnd rfl ⟨h, h0, h1⟩ rfl
set_option maxRecDepth 20000 in
theorem g179_795 (r : Nat) (l0 l1 l2 l3 : Option AV) (s0 : AV) (x1 : Int) (a0 : Nat) (M : Mem) (S : Sh) (hk : 18 < r) (h : S.1 a0 = 6) : go r 179 795 [l0, l1, l2, l3] [aI x1, aR a0, s0] M S = cont r 179 798 [l0, l1, l2, l3] [s0] 1 (res 152 [aR a0, aI x1] M S) := go_cr0 (m' := 152) (n := 2) (pc' := 798) (hr := 1) rfl rfl rfl h rfl rfl rfl rfl hk rfl
set_option maxRecDepth 20000 in
theorem g179_798 (r : Nat) (l0 l1 l2 l3 : Option AV) (x y : Int) (M : Mem) (S : Sh) : go r 179 798 [l0, l1, l2, l3] [aI y, aI x] M S = if x = y then go r 179 1514 [l0, l1, l2, l3] [] M S else go r 179 801 [l0, l1, l2, l3] [] M S := go_br rfl rfl rfl rfl rfl
set_option maxRecDepth 20000 in
theorem g179_801 (r : Nat) (l0 l1 l2 l3 : Option AV) (M : Mem) (S : Sh) : go r 179 801 [l0, l1, l2, l3] [] M S = go r 179 802 [l0, l1, l2, l3] [aI 0] M S := go_nx rfl rfl
set_option maxRecDepth 20000 in
theorem g179_802 (r : Nat) (l0 l1 l2 l3 : Option AV) (x : Int) (M : Mem) (S : Sh) (h : x = 0 ∨ x = 1) : go r 179 802 [l0, l1, l2, l3] [aI x] M S = some (some (aI x), M, S) := go_rt rfl (bnd_t (Or.inr h))
set_option maxRecDepth 20000 in
theorem g179_803 (r : Nat) (l0 l2 l3 : Option AV) (a : Nat) (M : Mem) (S : Sh) : go r 179 803 [l0, some (aR a), l2, l3] [] M S = go r 179 804 [l0, some (aR a), l2, l3] [aR a] M S := go_nx rfl rfl
set_option maxRecDepth 20000 in
theorem g179_803n (r : Nat) (l0 l2 l3 : Option AV) (M : Mem) (S : Sh) : go r 179 803 [l0, some aN, l2, l3] [] M S = go r 179 804 [l0, some aN, l2, l3] [aN] M S := go_nx rfl rfl
set_option maxRecDepth 20000 in
theorem g179_804 (r : Nat) (l1 l2 l3 : Option AV) (s0 : AV) (a : Nat) (M : Mem) (S : Sh) : go r 179 804 [some (aR a), l1, l2, l3] [s0] M S = go r 179 805 [some (aR a), l1, l2, l3] [aR a, s0] M S := go_nx rfl rfl
set_option maxRecDepth 20000 in
theorem g179_804n (r : Nat) (l1 l2 l3 : Option AV) (s0 : AV) (M : Mem) (S : Sh) : go r 179 804 [some aN, l1, l2, l3] [s0] M S = go r 179 805 [some aN, l1, l2, l3] [aN, s0] M S := go_nx rfl rfl
set_option maxRecDepth 20000 in
theorem g179_805 (r : Nat) (l0 l1 l2 : Option AV) (s0 s1 : AV) (x : Int) (M : Mem) (S : Sh) : go r 179 805 [l0, l1, l2, some (aI x)] [s0, s1] M S = go r 179 806 [l0, l1, l2, some (aI x)] [aI x, s0, s1] M S := go_nx rfl rfl
set_option maxRecDepth 20000 in
theorem g179_806 (r : Nat) (l0 l1 l2 l3 : Option AV) (s0 s1 s2 : AV) (M : Mem) (S : Sh) : go r 179 806 [l0, l1, l2, l3] [s0, s1, s2] M S = go r 179 807 [l0, l1, l2, l3] [aI 1, s0, s1, s2] M S := go_nx rfl rfl
set_option maxRecDepth 20000 in
theorem g179_807 (r : Nat) (l0 l1 l2 l3 : Option AV) (s0 s1 : AV) (x y : Int) (M : Mem) (S : Sh) : go r 179 807 [l0, l1, l2, l3] [aI y, aI x, s0, s1] M S = go r 179 808 [l0, l1, l2, l3] [aI (w32 (x + y)), s0, s1] M S := go_nx rfl rfl
set_option maxRecDepth 20000 in
theorem g179_808 (r : Nat) (l0 l1 l2 l3 : Option AV) (s0 : AV) (x : Int) (a : Nat) (M : Mem) (S : Sh) (h : S.1 a = 7) (h0 : 0 ≤ x) (h1 : x < S.2.1 a) : go r 179 808 [l0, l1, l2, l3] [aI x, aR a, s0] M S = go r 179 809 [l0, l1, l2, l3] [aI (M a x.toNat), s0] M S := go_bnd rfl ⟨h, h0, h1⟩ rfl
set_option maxRecDepth 20000 in
theorem g179_809 (r : Nat) (l1 l2 l3 : Option AV) (s0 s1 : AV) (a : Nat) (M : Mem) (S : Sh) : go r 179 809 [some (aR a), l1, l2, l3] [s0, s1] M S = go r 179 810 [some (aR a), l1, l2, l3] [aR a, s0, s1] M S := go_nx rfl rfl
set_option maxRecDepth 20000 in
theorem g179_809n (r : Nat) (l1 l2 l3 : Option AV) (s0 s1 : AV) (M : Mem) (S : Sh) : go r 179 809 [some aN, l1, l2, l3] [s0, s1] M S = go r 179 810 [some aN, l1, l2, l3] [aN, s0, s1] M S := go_nx rfl rfl
set_option maxRecDepth 20000 in
theorem g179_810 (r : Nat) (l0 l1 l2 : Option AV) (s0 s1 s2 : AV) (x : Int) (M : Mem) (S : Sh) : go r 179 810 [l0, l1, l2, some (aI x)] [s0, s1, s2] M S = go r 179 811 [l0, l1, l2, some (aI x)] [aI x, s0, s1, s2] M S := go_nx rfl rfl
set_option maxRecDepth 20000 in
theorem g179_811 (r : Nat) (l0 l1 l2 l3 : Option AV) (s0 s1 s2 s3 : AV) (M : Mem) (S : Sh) : go r 179 811 [l0, l1, l2, l3] [s0, s1, s2, s3] M S = go r 179 812 [l0, l1, l2, l3] [aI 2, s0, s1, s2, s3] M S := go_nx rfl rfl
set_option maxRecDepth 20000 in
theorem g179_812 (r : Nat) (l0 l1 l2 l3 : Option AV) (s0 s1 s2 : AV) (x y : Int) (M : Mem) (S : Sh) : go r 179 812 [l0, l1, l2, l3] [aI y, aI x, s0, s1, s2] M S = go r 179 813 [l0, l1, l2, l3] [aI (w32 (x + y)), s0, s1, s2] M S := go_nx rfl rfl
set_option maxRecDepth 20000 in
theorem g179_813 (r : Nat) (l0 l1 l2 l3 : Option AV) (s0 s1 : AV) (x : Int) (a : Nat) (M : Mem) (S : Sh) (h : S.1 a = 7) (h0 : 0 ≤ x) (h1 : x < S.2.1 a) : go r 179 813 [l0, l1, l2, l3] [aI x, aR a, s0, s1] M S = go r 179 814 [l0, l1, l2, l3] [aI (M a x.toNat), s0, s1] M S := go_bnd rfl ⟨h, h0, h1⟩ rfl
set_option maxRecDepth 20000 in
theorem g179_814 (r : Nat) (l1 l2 l3 : Option AV) (s0 s1 s2 : AV) (a : Nat) (M : Mem) (S : Sh) : go r 179 814 [some (aR a), l1, l2, l3] [s0, s1, s2] M S = go r 179 815 [some (aR a), l1, l2, l3] [aR a, s0, s1, s2] M S := go_nx rfl rfl
set_option maxRecDepth 20000 in
theorem g179_814n (r : Nat) (l1 l2 l3 : Option AV) (s0 s1 s2 : AV) (M : Mem) (S : Sh) : go r 179 814 [some aN, l1, l2, l3] [s0, s1, s2] M S = go r 179 815 [some aN, l1, l2, l3] [aN, s0, s1, s2] M S := go_nx rfl rfl
set_option maxRecDepth 20000 in
theorem g179_815 (r : Nat) (l0 l1 l2 : Option AV) (s0 s1 s2 s3 : AV) (x : Int) (M : Mem) (S : Sh) : go r 179 815 [l0, l1, l2, some (aI x)] [s0, s1, s2, s3] M S = go r 179 816 [l0, l1, l2, some (aI x)] [aI x, s0, s1, s2, s3] M S := go_nx rfl rfl
set_option maxRecDepth 20000 in
theorem g179_816 (r : Nat) (l0 l1 l2 l3 : Option AV) (s0 s1 s2 s3 s4 : AV) (M : Mem) (S : Sh) : go r 179 816 [l0, l1, l2, l3] [s0, s1, s2, s3, s4] M S = go r 179 817 [l0, l1, l2, l3] [aI 3, s0, s1, s2, s3, s4] M S := go_nx rfl rfl
set_option maxRecDepth 20000 in
theorem g179_817 (r : Nat) (l0 l1 l2 l3 : Option AV) (s0 s1 s2 s3 : AV) (x y : Int) (M : Mem) (S : Sh) : go r 179 817 [l0, l1, l2, l3] [aI y, aI x, s0, s1, s2, s3] M S = go r 179 818 [l0, l1, l2, l3] [aI (w32 (x + y)), s0, s1, s2, s3] M S := go_nx rfl rfl
set_option maxRecDepth 20000 in
theorem g179_818 (r : Nat) (l0 l1 l2 l3 : Option AV) (s0 s1 s2 : AV) (x : Int) (a : Nat) (M : Mem) (S : Sh) (h : S.1 a = 7) (h0 : 0 ≤ x) (h1 : x < S.2.1 a) : go r 179 818 [l0, l1, l2, l3] [aI x, aR a, s0, s1, s2] M S = go r 179 819 [l0, l1, l2, l3] [aI (M a x.toNat), s0, s1, s2] M S := go_bnd rfl ⟨h, h0, h1⟩ rfl
set_option maxRecDepth 20000 in
theorem g179_819 (r : Nat) (l1 l2 l3 : Option AV) (s0 s1 s2 s3 : AV) (a : Nat) (M : Mem) (S : Sh) : go r 179 819 [some (aR a), l1, l2, l3] [s0, s1, s2, s3] M S = go r 179 820 [some (aR a), l1, l2, l3] [aR a, s0, s1, s2, s3] M S := go_nx rfl rfl
set_option maxRecDepth 20000 in
theorem g179_819n (r : Nat) (l1 l2 l3 : Option AV) (s0 s1 s2 s3 : AV) (M : Mem) (S : Sh) : go r 179 819 [some aN, l1, l2, l3] [s0, s1, s2, s3] M S = go r 179 820 [some aN, l1, l2, l3] [aN, s0, s1, s2, s3] M S := go_nx rfl rfl
set_option maxRecDepth 20000 in
theorem g179_820 (r : Nat) (l0 l1 l2 : Option AV) (s0 s1 s2 s3 s4 : AV) (x : Int) (M : Mem) (S : Sh) : go r 179 820 [l0, l1, l2, some (aI x)] [s0, s1, s2, s3, s4] M S = go r 179 821 [l0, l1, l2, some (aI x)] [aI x, s0, s1, s2, s3, s4] M S := go_nx rfl rfl
set_option maxRecDepth 20000 in
theorem g179_821 (r : Nat) (l0 l1 l2 l3 : Option AV) (s0 s1 s2 s3 s4 s5 : AV) (M : Mem) (S : Sh) : go r 179 821 [l0, l1, l2, l3] [s0, s1, s2, s3, s4, s5] M S = go r 179 822 [l0, l1, l2, l3] [aI 4, s0, s1, s2, s3, s4, s5] M S := go_nx rfl rfl
set_option maxRecDepth 20000 in
theorem g179_822 (r : Nat) (l0 l1 l2 l3 : Option AV) (s0 s1 s2 s3 s4 : AV) (x y : Int) (M : Mem) (S : Sh) : go r 179 822 [l0, l1, l2, l3] [aI y, aI x, s0, s1, s2, s3, s4] M S = go r 179 823 [l0, l1, l2, l3] [aI (w32 (x + y)), s0, s1, s2, s3, s4] M S := go_nx rfl rfl
set_option maxRecDepth 20000 in
theorem g179_823 (r : Nat) (l0 l1 l2 l3 : Option AV) (s0 s1 s2 s3 : AV) (x : Int) (a : Nat) (M : Mem) (S : Sh) (h : S.1 a = 7) (h0 : 0 ≤ x) (h1 : x < S.2.1 a) : go r 179 823 [l0, l1, l2, l3] [aI x, aR a, s0, s1, s2, s3] M S = go r 179 824 [l0, l1, l2, l3] [aI (M a x.toNat), s0, s1, s2, s3] M S := go_bnd rfl ⟨h, h0, h1⟩ rfl
set_option maxRecDepth 20000 in
theorem g179_824 (r : Nat) (l0 l1 l2 l3 : Option AV) (x1 x2 x3 x4 : Int) (a0 : Nat) (M : Mem) (S : Sh) (hk : 16 < r) (h : S.1 a0 = 5) : go r 179 824 [l0, l1, l2, l3] [aI x4, aI x3, aI x2, aI x1, aR a0] M S = cont r 179 827 [l0, l1, l2, l3] [] 1 (res 64 [aR a0, aI x1, aI x2, aI x3, aI x4] M S) := go_cr0 (m' := 64) (n := 5) (pc' := 827) (hr := 1) rfl rfl rfl h rfl rfl rfl rfl hk rfl
set_option maxRecDepth 20000 in
theorem g179_827 (r : Nat) (l0 l1 l3 : Option AV) (s0 : AV) (a : Nat) (M : Mem) (S : Sh) : go r 179 827 [l0, l1, some (aR a), l3] [s0] M S = go r 179 828 [l0, l1, some (aR a), l3] [aR a, s0] M S := go_nx rfl rfl
set_option maxRecDepth 20000 in
theorem g179_827n (r : Nat) (l0 l1 l3 : Option AV) (s0 : AV) (M : Mem) (S : Sh) : go r 179 827 [l0, l1, some aN, l3] [s0] M S = go r 179 828 [l0, l1, some aN, l3] [aN, s0] M S := go_nx rfl rfl
set_option maxRecDepth 20000 in
theorem g179_828 (r : Nat) (l1 l2 l3 : Option AV) (s0 s1 : AV) (a : Nat) (M : Mem) (S : Sh) : go r 179 828 [some (aR a), l1, l2, l3] [s0, s1] M S = go r 179 829 [some (aR a), l1, l2, l3] [aR a, s0, s1] M S := go_nx rfl rfl
set_option maxRecDepth 20000 in
theorem g179_828n (r : Nat) (l1 l2 l3 : Option AV) (s0 s1 : AV) (M : Mem) (S : Sh) : go r 179 828 [some aN, l1, l2, l3] [s0, s1] M S = go r 179 829 [some aN, l1, l2, l3] [aN, s0, s1] M S := go_nx rfl rfl
set_option maxRecDepth 20000 in
theorem g179_829 (r : Nat) (l0 l1 l2 : Option AV) (s0 s1 s2 : AV) (x : Int) (M : Mem) (S : Sh) : go r 179 829 [l0, l1, l2, some (aI x)] [s0, s1, s2] M S = go r 179 830 [l0, l1, l2, some (aI x)] [aI x, s0, s1, s2] M S := go_nx rfl rfl
set_option maxRecDepth 20000 in
theorem g179_830 (r : Nat) (l0 l1 l2 l3 : Option AV) (s0 s1 s2 s3 : AV) (M : Mem) (S : Sh) : go r 179 830 [l0, l1, l2, l3] [s0, s1, s2, s3] M S = go r 179 831 [l0, l1, l2, l3] [aI 1, s0, s1, s2, s3] M S := go_nx rfl rfl
set_option maxRecDepth 20000 in
theorem g179_831 (r : Nat) (l0 l1 l2 l3 : Option AV) (s0 s1 s2 : AV) (x y : Int) (M : Mem) (S : Sh) : go r 179 831 [l0, l1, l2, l3] [aI y, aI x, s0, s1, s2] M S = go r 179 832 [l0, l1, l2, l3] [aI (w32 (x + y)), s0, s1, s2] M S := go_nx rfl rfl
set_option maxRecDepth 20000 in
theorem g179_832 (r : Nat) (l0 l1 l2 l3 : Option AV) (s0 s1 : AV) (x : Int) (a : Nat) (M : Mem) (S : Sh) (h : S.1 a = 7) (h0 : 0 ≤ x) (h1 : x < S.2.1 a) : go r 179 832 [l0, l1, l2, l3] [aI x, aR a, s0, s1] M S = go r 179 833 [l0, l1, l2, l3] [aI (M a x.toNat), s0, s1] M S := go_bnd rfl ⟨h, h0, h1⟩ rfl
set_option maxRecDepth 20000 in
theorem g179_833 (r : Nat) (l1 l2 l3 : Option AV) (s0 s1 s2 : AV) (a : Nat) (M : Mem) (S : Sh) : go r 179 833 [some (aR a), l1, l2, l3] [s0, s1, s2] M S = go r 179 834 [some (aR a), l1, l2, l3] [aR a, s0, s1, s2] M S := go_nx rfl rfl
set_option maxRecDepth 20000 in
theorem g179_833n (r : Nat) (l1 l2 l3 : Option AV) (s0 s1 s2 : AV) (M : Mem) (S : Sh) : go r 179 833 [some aN, l1, l2, l3] [s0, s1, s2] M S = go r 179 834 [some aN, l1, l2, l3] [aN, s0, s1, s2] M S := go_nx rfl rfl
set_option maxRecDepth 20000 in
theorem g179_834 (r : Nat) (l0 l1 l2 : Option AV) (s0 s1 s2 s3 : AV) (x : Int) (M : Mem) (S : Sh) : go r 179 834 [l0, l1, l2, some (aI x)] [s0, s1, s2, s3] M S = go r 179 835 [l0, l1, l2, some (aI x)] [aI x, s0, s1, s2, s3] M S := go_nx rfl rfl
set_option maxRecDepth 20000 in
theorem g179_835 (r : Nat) (l0 l1 l2 l3 : Option AV) (s0 s1 s2 s3 s4 : AV) (M : Mem) (S : Sh) : go r 179 835 [l0, l1, l2, l3] [s0, s1, s2, s3, s4] M S = go r 179 836 [l0, l1, l2, l3] [aI 2, s0, s1, s2, s3, s4] M S := go_nx rfl rfl
set_option maxRecDepth 20000 in
theorem g179_836 (r : Nat) (l0 l1 l2 l3 : Option AV) (s0 s1 s2 s3 : AV) (x y : Int) (M : Mem) (S : Sh) : go r 179 836 [l0, l1, l2, l3] [aI y, aI x, s0, s1, s2, s3] M S = go r 179 837 [l0, l1, l2, l3] [aI (w32 (x + y)), s0, s1, s2, s3] M S := go_nx rfl rfl
set_option maxRecDepth 20000 in
theorem g179_837 (r : Nat) (l0 l1 l2 l3 : Option AV) (s0 s1 s2 : AV) (x : Int) (a : Nat) (M : Mem) (S : Sh) (h : S.1 a = 7) (h0 : 0 ≤ x) (h1 : x < S.2.1 a) : go r 179 837 [l0, l1, l2, l3] [aI x, aR a, s0, s1, s2] M S = go r 179 838 [l0, l1, l2, l3] [aI (M a x.toNat), s0, s1, s2] M S := go_bnd rfl ⟨h, h0, h1⟩ rfl
set_option maxRecDepth 20000 in
theorem g179_838 (r : Nat) (l1 l2 l3 : Option AV) (s0 s1 s2 s3 : AV) (a : Nat) (M : Mem) (S : Sh) : go r 179 838 [some (aR a), l1, l2, l3] [s0, s1, s2, s3] M S = go r 179 839 [some (aR a), l1, l2, l3] [aR a, s0, s1, s2, s3] M S := go_nx rfl rfl
set_option maxRecDepth 20000 in
theorem g179_838n (r : Nat) (l1 l2 l3 : Option AV) (s0 s1 s2 s3 : AV) (M : Mem) (S : Sh) : go r 179 838 [some aN, l1, l2, l3] [s0, s1, s2, s3] M S = go r 179 839 [some aN, l1, l2, l3] [aN, s0, s1, s2, s3] M S := go_nx rfl rfl
set_option maxRecDepth 20000 in
theorem g179_839 (r : Nat) (l0 l1 l2 : Option AV) (s0 s1 s2 s3 s4 : AV) (x : Int) (M : Mem) (S : Sh) : go r 179 839 [l0, l1, l2, some (aI x)] [s0, s1, s2, s3, s4] M S = go r 179 840 [l0, l1, l2, some (aI x)] [aI x, s0, s1, s2, s3, s4] M S := go_nx rfl rfl
set_option maxRecDepth 20000 in
theorem g179_840 (r : Nat) (l0 l1 l2 l3 : Option AV) (s0 s1 s2 s3 s4 s5 : AV) (M : Mem) (S : Sh) : go r 179 840 [l0, l1, l2, l3] [s0, s1, s2, s3, s4, s5] M S = go r 179 841 [l0, l1, l2, l3] [aI 3, s0, s1, s2, s3, s4, s5] M S := go_nx rfl rfl
set_option maxRecDepth 20000 in
theorem g179_841 (r : Nat) (l0 l1 l2 l3 : Option AV) (s0 s1 s2 s3 s4 : AV) (x y : Int) (M : Mem) (S : Sh) : go r 179 841 [l0, l1, l2, l3] [aI y, aI x, s0, s1, s2, s3, s4] M S = go r 179 842 [l0, l1, l2, l3] [aI (w32 (x + y)), s0, s1, s2, s3, s4] M S := go_nx rfl rfl
set_option maxRecDepth 20000 in
theorem g179_842 (r : Nat) (l0 l1 l2 l3 : Option AV) (s0 s1 s2 s3 : AV) (x : Int) (a : Nat) (M : Mem) (S : Sh) (h : S.1 a = 7) (h0 : 0 ≤ x) (h1 : x < S.2.1 a) : go r 179 842 [l0, l1, l2, l3] [aI x, aR a, s0, s1, s2, s3] M S = go r 179 843 [l0, l1, l2, l3] [aI (M a x.toNat), s0, s1, s2, s3] M S := go_bnd rfl ⟨h, h0, h1⟩ rfl
set_option maxRecDepth 20000 in
theorem g179_843 (r : Nat) (l1 l2 l3 : Option AV) (s0 s1 s2 s3 s4 : AV) (a : Nat) (M : Mem) (S : Sh) : go r 179 843 [some (aR a), l1, l2, l3] [s0, s1, s2, s3, s4] M S = go r 179 844 [some (aR a), l1, l2, l3] [aR a, s0, s1, s2, s3, s4] M S := go_nx rfl rfl
set_option maxRecDepth 20000 in
theorem g179_843n (r : Nat) (l1 l2 l3 : Option AV) (s0 s1 s2 s3 s4 : AV) (M : Mem) (S : Sh) : go r 179 843 [some aN, l1, l2, l3] [s0, s1, s2, s3, s4] M S = go r 179 844 [some aN, l1, l2, l3] [aN, s0, s1, s2, s3, s4] M S := go_nx rfl rfl
set_option maxRecDepth 20000 in
theorem g179_844 (r : Nat) (l0 l1 l2 : Option AV) (s0 s1 s2 s3 s4 s5 : AV) (x : Int) (M : Mem) (S : Sh) : go r 179 844 [l0, l1, l2, some (aI x)] [s0, s1, s2, s3, s4, s5] M S = go r 179 845 [l0, l1, l2, some (aI x)] [aI x, s0, s1, s2, s3, s4, s5] M S := go_nx rfl rfl
set_option maxRecDepth 20000 in
theorem g179_845 (r : Nat) (l0 l1 l2 l3 : Option AV) (s0 s1 s2 s3 s4 s5 s6 : AV) (M : Mem) (S : Sh) : go r 179 845 [l0, l1, l2, l3] [s0, s1, s2, s3, s4, s5, s6] M S = go r 179 846 [l0, l1, l2, l3] [aI 4, s0, s1, s2, s3, s4, s5, s6] M S := go_nx rfl rfl
set_option maxRecDepth 20000 in
theorem g179_846 (r : Nat) (l0 l1 l2 l3 : Option AV) (s0 s1 s2 s3 s4 s5 : AV) (x y : Int) (M : Mem) (S : Sh) : go r 179 846 [l0, l1, l2, l3] [aI y, aI x, s0, s1, s2, s3, s4, s5] M S = go r 179 847 [l0, l1, l2, l3] [aI (w32 (x + y)), s0, s1, s2, s3, s4, s5] M S := go_nx rfl rfl
set_option maxRecDepth 20000 in
theorem g179_847 (r : Nat) (l0 l1 l2 l3 : Option AV) (s0 s1 s2 s3 s4 : AV) (x : Int) (a : Nat) (M : Mem) (S : Sh) (h : S.1 a = 7) (h0 : 0 ≤ x) (h1 : x < S.2.1 a) : go r 179 847 [l0, l1, l2, l3] [aI x, aR a, s0, s1, s2, s3, s4] M S = go r 179 848 [l0, l1, l2, l3] [aI (M a x.toNat), s0, s1, s2, s3, s4] M S := go_bnd rfl ⟨h, h0, h1⟩ rfl
set_option maxRecDepth 20000 in
theorem g179_848 (r : Nat) (l0 l1 l2 l3 : Option AV) (s0 : AV) (x1 x2 x3 x4 : Int) (a0 : Nat) (M : Mem) (S : Sh) (hk : 19 < r) (h : S.1 a0 = 6) : go r 179 848 [l0, l1, l2, l3] [aI x4, aI x3, aI x2, aI x1, aR a0, s0] M S = cont r 179 851 [l0, l1, l2, l3] [s0] 1 (res 154 [aR a0, aI x1, aI x2, aI x3, aI x4] M S) := go_cr0 (m' := 154) (n := 5) (pc' := 851) (hr := 1) rfl rfl rfl h rfl rfl rfl rfl hk rfl
set_option maxRecDepth 20000 in
theorem g179_851 (r : Nat) (l0 l1 l2 l3 : Option AV) (x y : Int) (M : Mem) (S : Sh) : go r 179 851 [l0, l1, l2, l3] [aI y, aI x] M S = if x = y then go r 179 1514 [l0, l1, l2, l3] [] M S else go r 179 854 [l0, l1, l2, l3] [] M S := go_br rfl rfl rfl rfl rfl
set_option maxRecDepth 20000 in
theorem g179_854 (r : Nat) (l0 l1 l2 l3 : Option AV) (M : Mem) (S : Sh) : go r 179 854 [l0, l1, l2, l3] [] M S = go r 179 855 [l0, l1, l2, l3] [aI 0] M S := go_nx rfl rfl
set_option maxRecDepth 20000 in
theorem g179_855 (r : Nat) (l0 l1 l2 l3 : Option AV) (x : Int) (M : Mem) (S : Sh) (h : x = 0 ∨ x = 1) : go r 179 855 [l0, l1, l2, l3] [aI x] M S = some (some (aI x), M, S) := go_rt rfl (bnd_t (Or.inr h))
set_option maxRecDepth 20000 in
theorem g179_856 (r : Nat) (l0 l2 l3 : Option AV) (a : Nat) (M : Mem) (S : Sh) : go r 179 856 [l0, some (aR a), l2, l3] [] M S = go r 179 857 [l0, some (aR a), l2, l3] [aR a] M S := go_nx rfl rfl
set_option maxRecDepth 20000 in
theorem g179_856n (r : Nat) (l0 l2 l3 : Option AV) (M : Mem) (S : Sh) : go r 179 856 [l0, some aN, l2, l3] [] M S = go r 179 857 [l0, some aN, l2, l3] [aN] M S := go_nx rfl rfl
set_option maxRecDepth 20000 in
theorem g179_857 (r : Nat) (l1 l2 l3 : Option AV) (s0 : AV) (a : Nat) (M : Mem) (S : Sh) : go r 179 857 [some (aR a), l1, l2, l3] [s0] M S = go r 179 858 [some (aR a), l1, l2, l3] [aR a, s0] M S := go_nx rfl rfl
set_option maxRecDepth 20000 in
theorem g179_857n (r : Nat) (l1 l2 l3 : Option AV) (s0 : AV) (M : Mem) (S : Sh) : go r 179 857 [some aN, l1, l2, l3] [s0] M S = go r 179 858 [some aN, l1, l2, l3] [aN, s0] M S := go_nx rfl rfl
set_option maxRecDepth 20000 in
theorem g179_858 (r : Nat) (l0 l1 l2 : Option AV) (s0 s1 : AV) (x : Int) (M : Mem) (S : Sh) : go r 179 858 [l0, l1, l2, some (aI x)] [s0, s1] M S = go r 179 859 [l0, l1, l2, some (aI x)] [aI x, s0, s1] M S := go_nx rfl rfl
set_option maxRecDepth 20000 in
theorem g179_859 (r : Nat) (l0 l1 l2 l3 : Option AV) (s0 s1 s2 : AV) (M : Mem) (S : Sh) : go r 179 859 [l0, l1, l2, l3] [s0, s1, s2] M S = go r 179 860 [l0, l1, l2, l3] [aI 1, s0, s1, s2] M S := go_nx rfl rfl
set_option maxRecDepth 20000 in
theorem g179_860 (r : Nat) (l0 l1 l2 l3 : Option AV) (s0 s1 : AV) (x y : Int) (M : Mem) (S : Sh) : go r 179 860 [l0, l1, l2, l3] [aI y, aI x, s0, s1] M S = go r 179 861 [l0, l1, l2, l3] [aI (w32 (x + y)), s0, s1] M S := go_nx rfl rfl
set_option maxRecDepth 20000 in
theorem g179_861 (r : Nat) (l0 l1 l2 l3 : Option AV) (s0 : AV) (x : Int) (a : Nat) (M : Mem) (S : Sh) (h : S.1 a = 7) (h0 : 0 ≤ x) (h1 : x < S.2.1 a) : go r 179 861 [l0, l1, l2, l3] [aI x, aR a, s0] M S = go r 179 862 [l0, l1, l2, l3] [aI (M a x.toNat), s0] M S := go_bnd rfl ⟨h, h0, h1⟩ rfl
set_option maxRecDepth 20000 in
theorem g179_862 (r : Nat) (l1 l2 l3 : Option AV) (s0 s1 : AV) (a : Nat) (M : Mem) (S : Sh) : go r 179 862 [some (aR a), l1, l2, l3] [s0, s1] M S = go r 179 863 [some (aR a), l1, l2, l3] [aR a, s0, s1] M S := go_nx rfl rfl
set_option maxRecDepth 20000 in
theorem g179_862n (r : Nat) (l1 l2 l3 : Option AV) (s0 s1 : AV) (M : Mem) (S : Sh) : go r 179 862 [some aN, l1, l2, l3] [s0, s1] M S = go r 179 863 [some aN, l1, l2, l3] [aN, s0, s1] M S := go_nx rfl rfl
set_option maxRecDepth 20000 in
theorem g179_863 (r : Nat) (l0 l1 l2 : Option AV) (s0 s1 s2 : AV) (x : Int) (M : Mem) (S : Sh) : go r 179 863 [l0, l1, l2, some (aI x)] [s0, s1, s2] M S = go r 179 864 [l0, l1, l2, some (aI x)] [aI x, s0, s1, s2] M S := go_nx rfl rfl
set_option maxRecDepth 20000 in
theorem g179_864 (r : Nat) (l0 l1 l2 l3 : Option AV) (s0 s1 s2 s3 : AV) (M : Mem) (S : Sh) : go r 179 864 [l0, l1, l2, l3] [s0, s1, s2, s3] M S = go r 179 865 [l0, l1, l2, l3] [aI 2, s0, s1, s2, s3] M S := go_nx rfl rfl
set_option maxRecDepth 20000 in
theorem g179_865 (r : Nat) (l0 l1 l2 l3 : Option AV) (s0 s1 s2 : AV) (x y : Int) (M : Mem) (S : Sh) : go r 179 865 [l0, l1, l2, l3] [aI y, aI x, s0, s1, s2] M S = go r 179 866 [l0, l1, l2, l3] [aI (w32 (x + y)), s0, s1, s2] M S := go_nx rfl rfl
set_option maxRecDepth 20000 in
theorem g179_866 (r : Nat) (l0 l1 l2 l3 : Option AV) (s0 s1 : AV) (x : Int) (a : Nat) (M : Mem) (S : Sh) (h : S.1 a = 7) (h0 : 0 ≤ x) (h1 : x < S.2.1 a) : go r 179 866 [l0, l1, l2, l3] [aI x, aR a, s0, s1] M S = go r 179 867 [l0, l1, l2, l3] [aI (M a x.toNat), s0, s1] M S := go_bnd rfl ⟨h, h0, h1⟩ rfl
set_option maxRecDepth 20000 in
theorem g179_867 (r : Nat) (l0 l1 l2 l3 : Option AV) (x1 x2 : Int) (a0 : Nat) (M : Mem) (S : Sh) (hk : 16 < r) (h : S.1 a0 = 5) : go r 179 867 [l0, l1, l2, l3] [aI x2, aI x1, aR a0] M S = cont r 179 870 [l0, l1, l2, l3] [] 1 (res 65 [aR a0, aI x1, aI x2] M S) := go_cr0 (m' := 65) (n := 3) (pc' := 870) (hr := 1) rfl rfl rfl h rfl rfl rfl rfl hk rfl
set_option maxRecDepth 20000 in
theorem g179_870 (r : Nat) (l0 l1 l3 : Option AV) (s0 : AV) (a : Nat) (M : Mem) (S : Sh) : go r 179 870 [l0, l1, some (aR a), l3] [s0] M S = go r 179 871 [l0, l1, some (aR a), l3] [aR a, s0] M S := go_nx rfl rfl
set_option maxRecDepth 20000 in
theorem g179_870n (r : Nat) (l0 l1 l3 : Option AV) (s0 : AV) (M : Mem) (S : Sh) : go r 179 870 [l0, l1, some aN, l3] [s0] M S = go r 179 871 [l0, l1, some aN, l3] [aN, s0] M S := go_nx rfl rfl
set_option maxRecDepth 20000 in
theorem g179_871 (r : Nat) (l1 l2 l3 : Option AV) (s0 s1 : AV) (a : Nat) (M : Mem) (S : Sh) : go r 179 871 [some (aR a), l1, l2, l3] [s0, s1] M S = go r 179 872 [some (aR a), l1, l2, l3] [aR a, s0, s1] M S := go_nx rfl rfl
set_option maxRecDepth 20000 in
theorem g179_871n (r : Nat) (l1 l2 l3 : Option AV) (s0 s1 : AV) (M : Mem) (S : Sh) : go r 179 871 [some aN, l1, l2, l3] [s0, s1] M S = go r 179 872 [some aN, l1, l2, l3] [aN, s0, s1] M S := go_nx rfl rfl
set_option maxRecDepth 20000 in
theorem g179_872 (r : Nat) (l0 l1 l2 : Option AV) (s0 s1 s2 : AV) (x : Int) (M : Mem) (S : Sh) : go r 179 872 [l0, l1, l2, some (aI x)] [s0, s1, s2] M S = go r 179 873 [l0, l1, l2, some (aI x)] [aI x, s0, s1, s2] M S := go_nx rfl rfl
set_option maxRecDepth 20000 in
theorem g179_873 (r : Nat) (l0 l1 l2 l3 : Option AV) (s0 s1 s2 s3 : AV) (M : Mem) (S : Sh) : go r 179 873 [l0, l1, l2, l3] [s0, s1, s2, s3] M S = go r 179 874 [l0, l1, l2, l3] [aI 1, s0, s1, s2, s3] M S := go_nx rfl rfl
set_option maxRecDepth 20000 in
theorem g179_874 (r : Nat) (l0 l1 l2 l3 : Option AV) (s0 s1 s2 : AV) (x y : Int) (M : Mem) (S : Sh) : go r 179 874 [l0, l1, l2, l3] [aI y, aI x, s0, s1, s2] M S = go r 179 875 [l0, l1, l2, l3] [aI (w32 (x + y)), s0, s1, s2] M S := go_nx rfl rfl
set_option maxRecDepth 20000 in
theorem g179_875 (r : Nat) (l0 l1 l2 l3 : Option AV) (s0 s1 : AV) (x : Int) (a : Nat) (M : Mem) (S : Sh) (h : S.1 a = 7) (h0 : 0 ≤ x) (h1 : x < S.2.1 a) : go r 179 875 [l0, l1, l2, l3] [aI x, aR a, s0, s1] M S = go r 179 876 [l0, l1, l2, l3] [aI (M a x.toNat), s0, s1] M S := go_bnd rfl ⟨h, h0, h1⟩ rfl
set_option maxRecDepth 20000 in
theorem g179_876 (r : Nat) (l1 l2 l3 : Option AV) (s0 s1 s2 : AV) (a : Nat) (M : Mem) (S : Sh) : go r 179 876 [some (aR a), l1, l2, l3] [s0, s1, s2] M S = go r 179 877 [some (aR a), l1, l2, l3] [aR a, s0, s1, s2] M S := go_nx rfl rfl
set_option maxRecDepth 20000 in
theorem g179_876n (r : Nat) (l1 l2 l3 : Option AV) (s0 s1 s2 : AV) (M : Mem) (S : Sh) : go r 179 876 [some aN, l1, l2, l3] [s0, s1, s2] M S = go r 179 877 [some aN, l1, l2, l3] [aN, s0, s1, s2] M S := go_nx rfl rfl
set_option maxRecDepth 20000 in
theorem g179_877 (r : Nat) (l0 l1 l2 : Option AV) (s0 s1 s2 s3 : AV) (x : Int) (M : Mem) (S : Sh) : go r 179 877 [l0, l1, l2, some (aI x)] [s0, s1, s2, s3] M S = go r 179 878 [l0, l1, l2, some (aI x)] [aI x, s0, s1, s2, s3] M S := go_nx rfl rfl
set_option maxRecDepth 20000 in
theorem g179_878 (r : Nat) (l0 l1 l2 l3 : Option AV) (s0 s1 s2 s3 s4 : AV) (M : Mem) (S : Sh) : go r 179 878 [l0, l1, l2, l3] [s0, s1, s2, s3, s4] M S = go r 179 879 [l0, l1, l2, l3] [aI 2, s0, s1, s2, s3, s4] M S := go_nx rfl rfl
set_option maxRecDepth 20000 in
theorem g179_879 (r : Nat) (l0 l1 l2 l3 : Option AV) (s0 s1 s2 s3 : AV) (x y : Int) (M : Mem) (S : Sh) : go r 179 879 [l0, l1, l2, l3] [aI y, aI x, s0, s1, s2, s3] M S = go r 179 880 [l0, l1, l2, l3] [aI (w32 (x + y)), s0, s1, s2, s3] M S := go_nx rfl rfl
set_option maxRecDepth 20000 in
theorem g179_880 (r : Nat) (l0 l1 l2 l3 : Option AV) (s0 s1 s2 : AV) (x : Int) (a : Nat) (M : Mem) (S : Sh) (h : S.1 a = 7) (h0 : 0 ≤ x) (h1 : x < S.2.1 a) : go r 179 880 [l0, l1, l2, l3] [aI x, aR a, s0, s1, s2] M S = go r 179 881 [l0, l1, l2, l3] [aI (M a x.toNat), s0, s1, s2] M S := go_bnd rfl ⟨h, h0, h1⟩ rfl
set_option maxRecDepth 20000 in
theorem g179_881 (r : Nat) (l0 l1 l2 l3 : Option AV) (s0 : AV) (x1 x2 : Int) (a0 : Nat) (M : Mem) (S : Sh) (hk : 19 < r) (h : S.1 a0 = 6) : go r 179 881 [l0, l1, l2, l3] [aI x2, aI x1, aR a0, s0] M S = cont r 179 884 [l0, l1, l2, l3] [s0] 1 (res 155 [aR a0, aI x1, aI x2] M S) := go_cr0 (m' := 155) (n := 3) (pc' := 884) (hr := 1) rfl rfl rfl h rfl rfl rfl rfl hk rfl
set_option maxRecDepth 20000 in
theorem g179_884 (r : Nat) (l0 l1 l2 l3 : Option AV) (x y : Int) (M : Mem) (S : Sh) : go r 179 884 [l0, l1, l2, l3] [aI y, aI x] M S = if x = y then go r 179 1514 [l0, l1, l2, l3] [] M S else go r 179 887 [l0, l1, l2, l3] [] M S := go_br rfl rfl rfl rfl rfl
set_option maxRecDepth 20000 in
theorem g179_887 (r : Nat) (l0 l1 l2 l3 : Option AV) (M : Mem) (S : Sh) : go r 179 887 [l0, l1, l2, l3] [] M S = go r 179 888 [l0, l1, l2, l3] [aI 0] M S := go_nx rfl rfl
set_option maxRecDepth 20000 in
theorem g179_888 (r : Nat) (l0 l1 l2 l3 : Option AV) (x : Int) (M : Mem) (S : Sh) (h : x = 0 ∨ x = 1) : go r 179 888 [l0, l1, l2, l3] [aI x] M S = some (some (aI x), M, S) := go_rt rfl (bnd_t (Or.inr h))
set_option maxRecDepth 20000 in
theorem g179_889 (r : Nat) (l0 l2 l3 : Option AV) (a : Nat) (M : Mem) (S : Sh) : go r 179 889 [l0, some (aR a), l2, l3] [] M S = go r 179 890 [l0, some (aR a), l2, l3] [aR a] M S := go_nx rfl rfl
set_option maxRecDepth 20000 in
theorem g179_889n (r : Nat) (l0 l2 l3 : Option AV) (M : Mem) (S : Sh) : go r 179 889 [l0, some aN, l2, l3] [] M S = go r 179 890 [l0, some aN, l2, l3] [aN] M S := go_nx rfl rfl
set_option maxRecDepth 20000 in
theorem g179_890 (r : Nat) (l1 l2 l3 : Option AV) (s0 : AV) (a : Nat) (M : Mem) (S : Sh) : go r 179 890 [some (aR a), l1, l2, l3] [s0] M S = go r 179 891 [some (aR a), l1, l2, l3] [aR a, s0] M S := go_nx rfl rfl
set_option maxRecDepth 20000 in
theorem g179_890n (r : Nat) (l1 l2 l3 : Option AV) (s0 : AV) (M : Mem) (S : Sh) : go r 179 890 [some aN, l1, l2, l3] [s0] M S = go r 179 891 [some aN, l1, l2, l3] [aN, s0] M S := go_nx rfl rfl
set_option maxRecDepth 20000 in
theorem g179_891 (r : Nat) (l0 l1 l2 : Option AV) (s0 s1 : AV) (x : Int) (M : Mem) (S : Sh) : go r 179 891 [l0, l1, l2, some (aI x)] [s0, s1] M S = go r 179 892 [l0, l1, l2, some (aI x)] [aI x, s0, s1] M S := go_nx rfl rfl
set_option maxRecDepth 20000 in
theorem g179_892 (r : Nat) (l0 l1 l2 l3 : Option AV) (s0 s1 s2 : AV) (M : Mem) (S : Sh) : go r 179 892 [l0, l1, l2, l3] [s0, s1, s2] M S = go r 179 893 [l0, l1, l2, l3] [aI 1, s0, s1, s2] M S := go_nx rfl rfl
set_option maxRecDepth 20000 in
theorem g179_893 (r : Nat) (l0 l1 l2 l3 : Option AV) (s0 s1 : AV) (x y : Int) (M : Mem) (S : Sh) : go r 179 893 [l0, l1, l2, l3] [aI y, aI x, s0, s1] M S = go r 179 894 [l0, l1, l2, l3] [aI (w32 (x + y)), s0, s1] M S := go_nx rfl rfl
set_option maxRecDepth 20000 in
theorem g179_894 (r : Nat) (l0 l1 l2 l3 : Option AV) (s0 : AV) (x : Int) (a : Nat) (M : Mem) (S : Sh) (h : S.1 a = 7) (h0 : 0 ≤ x) (h1 : x < S.2.1 a) : go r 179 894 [l0, l1, l2, l3] [aI x, aR a, s0] M S = go r 179 895 [l0, l1, l2, l3] [aI (M a x.toNat), s0] M S := go_bnd rfl ⟨h, h0, h1⟩ rfl
set_option maxRecDepth 20000 in
theorem g179_895 (r : Nat) (l0 l1 l2 l3 : Option AV) (x1 : Int) (a0 : Nat) (M : Mem) (S : Sh) (hk : 16 < r) (h : S.1 a0 = 5) : go r 179 895 [l0, l1, l2, l3] [aI x1, aR a0] M S = cont r 179 898 [l0, l1, l2, l3] [] 1 (res 66 [aR a0, aI x1] M S) := go_cr0 (m' := 66) (n := 2) (pc' := 898) (hr := 1) rfl rfl rfl h rfl rfl rfl rfl hk rfl
set_option maxRecDepth 20000 in
theorem g179_898 (r : Nat) (l0 l1 l3 : Option AV) (s0 : AV) (a : Nat) (M : Mem) (S : Sh) : go r 179 898 [l0, l1, some (aR a), l3] [s0] M S = go r 179 899 [l0, l1, some (aR a), l3] [aR a, s0] M S := go_nx rfl rfl
set_option maxRecDepth 20000 in
theorem g179_898n (r : Nat) (l0 l1 l3 : Option AV) (s0 : AV) (M : Mem) (S : Sh) : go r 179 898 [l0, l1, some aN, l3] [s0] M S = go r 179 899 [l0, l1, some aN, l3] [aN, s0] M S := go_nx rfl rfl
set_option maxRecDepth 20000 in
theorem g179_899 (r : Nat) (l1 l2 l3 : Option AV) (s0 s1 : AV) (a : Nat) (M : Mem) (S : Sh) : go r 179 899 [some (aR a), l1, l2, l3] [s0, s1] M S = go r 179 900 [some (aR a), l1, l2, l3] [aR a, s0, s1] M S := go_nx rfl rfl
set_option maxRecDepth 20000 in
theorem g179_899n (r : Nat) (l1 l2 l3 : Option AV) (s0 s1 : AV) (M : Mem) (S : Sh) : go r 179 899 [some aN, l1, l2, l3] [s0, s1] M S = go r 179 900 [some aN, l1, l2, l3] [aN, s0, s1] M S := go_nx rfl rfl
set_option maxRecDepth 20000 in
theorem g179_900 (r : Nat) (l0 l1 l2 : Option AV) (s0 s1 s2 : AV) (x : Int) (M : Mem) (S : Sh) : go r 179 900 [l0, l1, l2, some (aI x)] [s0, s1, s2] M S = go r 179 901 [l0, l1, l2, some (aI x)] [aI x, s0, s1, s2] M S := go_nx rfl rfl
set_option maxRecDepth 20000 in
theorem g179_901 (r : Nat) (l0 l1 l2 l3 : Option AV) (s0 s1 s2 s3 : AV) (M : Mem) (S : Sh) : go r 179 901 [l0, l1, l2, l3] [s0, s1, s2, s3] M S = go r 179 902 [l0, l1, l2, l3] [aI 1, s0, s1, s2, s3] M S := go_nx rfl rfl
set_option maxRecDepth 20000 in
theorem g179_902 (r : Nat) (l0 l1 l2 l3 : Option AV) (s0 s1 s2 : AV) (x y : Int) (M : Mem) (S : Sh) : go r 179 902 [l0, l1, l2, l3] [aI y, aI x, s0, s1, s2] M S = go r 179 903 [l0, l1, l2, l3] [aI (w32 (x + y)), s0, s1, s2] M S := go_nx rfl rfl
set_option maxRecDepth 20000 in
theorem g179_903 (r : Nat) (l0 l1 l2 l3 : Option AV) (s0 s1 : AV) (x : Int) (a : Nat) (M : Mem) (S : Sh) (h : S.1 a = 7) (h0 : 0 ≤ x) (h1 : x < S.2.1 a) : go r 179 903 [l0, l1, l2, l3] [aI x, aR a, s0, s1] M S = go r 179 904 [l0, l1, l2, l3] [aI (M a x.toNat), s0, s1] M S := go_bnd rfl ⟨h, h0, h1⟩ rfl
set_option maxRecDepth 20000 in
theorem g179_904 (r : Nat) (l0 l1 l2 l3 : Option AV) (s0 : AV) (x1 : Int) (a0 : Nat) (M : Mem) (S : Sh) (hk : 18 < r) (h : S.1 a0 = 6) : go r 179 904 [l0, l1, l2, l3] [aI x1, aR a0, s0] M S = cont r 179 907 [l0, l1, l2, l3] [s0] 1 (res 156 [aR a0, aI x1] M S) := go_cr0 (m' := 156) (n := 2) (pc' := 907) (hr := 1) rfl rfl rfl h rfl rfl rfl rfl hk rfl
set_option maxRecDepth 20000 in
theorem g179_907 (r : Nat) (l0 l1 l2 l3 : Option AV) (x y : Int) (M : Mem) (S : Sh) : go r 179 907 [l0, l1, l2, l3] [aI y, aI x] M S = if x = y then go r 179 1514 [l0, l1, l2, l3] [] M S else go r 179 910 [l0, l1, l2, l3] [] M S := go_br rfl rfl rfl rfl rfl
set_option maxRecDepth 20000 in
theorem g179_910 (r : Nat) (l0 l1 l2 l3 : Option AV) (M : Mem) (S : Sh) : go r 179 910 [l0, l1, l2, l3] [] M S = go r 179 911 [l0, l1, l2, l3] [aI 0] M S := go_nx rfl rfl
set_option maxRecDepth 20000 in
theorem g179_911 (r : Nat) (l0 l1 l2 l3 : Option AV) (x : Int) (M : Mem) (S : Sh) (h : x = 0 ∨ x = 1) : go r 179 911 [l0, l1, l2, l3] [aI x] M S = some (some (aI x), M, S) := go_rt rfl (bnd_t (Or.inr h))
set_option maxRecDepth 20000 in
theorem g179_912 (r : Nat) (l0 l2 l3 : Option AV) (a : Nat) (M : Mem) (S : Sh) : go r 179 912 [l0, some (aR a), l2, l3] [] M S = go r 179 913 [l0, some (aR a), l2, l3] [aR a] M S := go_nx rfl rfl
set_option maxRecDepth 20000 in
theorem g179_912n (r : Nat) (l0 l2 l3 : Option AV) (M : Mem) (S : Sh) : go r 179 912 [l0, some aN, l2, l3] [] M S = go r 179 913 [l0, some aN, l2, l3] [aN] M S := go_nx rfl rfl
set_option maxRecDepth 20000 in
theorem g179_913 (r : Nat) (l1 l2 l3 : Option AV) (s0 : AV) (a : Nat) (M : Mem) (S : Sh) : go r 179 913 [some (aR a), l1, l2, l3] [s0] M S = go r 179 914 [some (aR a), l1, l2, l3] [aR a, s0] M S := go_nx rfl rfl
set_option maxRecDepth 20000 in
theorem g179_913n (r : Nat) (l1 l2 l3 : Option AV) (s0 : AV) (M : Mem) (S : Sh) : go r 179 913 [some aN, l1, l2, l3] [s0] M S = go r 179 914 [some aN, l1, l2, l3] [aN, s0] M S := go_nx rfl rfl
set_option maxRecDepth 20000 in
theorem g179_914 (r : Nat) (l0 l1 l2 : Option AV) (s0 s1 : AV) (x : Int) (M : Mem) (S : Sh) : go r 179 914 [l0, l1, l2, some (aI x)] [s0, s1] M S = go r 179 915 [l0, l1, l2, some (aI x)] [aI x, s0, s1] M S := go_nx rfl rfl
set_option maxRecDepth 20000 in
theorem g179_915 (r : Nat) (l0 l1 l2 l3 : Option AV) (s0 s1 s2 : AV) (M : Mem) (S : Sh) : go r 179 915 [l0, l1, l2, l3] [s0, s1, s2] M S = go r 179 916 [l0, l1, l2, l3] [aI 1, s0, s1, s2] M S := go_nx rfl rfl
set_option maxRecDepth 20000 in
theorem g179_916 (r : Nat) (l0 l1 l2 l3 : Option AV) (s0 s1 : AV) (x y : Int) (M : Mem) (S : Sh) : go r 179 916 [l0, l1, l2, l3] [aI y, aI x, s0, s1] M S = go r 179 917 [l0, l1, l2, l3] [aI (w32 (x + y)), s0, s1] M S := go_nx rfl rfl
set_option maxRecDepth 20000 in
theorem g179_917 (r : Nat) (l0 l1 l2 l3 : Option AV) (s0 : AV) (x : Int) (a : Nat) (M : Mem) (S : Sh) (h : S.1 a = 7) (h0 : 0 ≤ x) (h1 : x < S.2.1 a) : go r 179 917 [l0, l1, l2, l3] [aI x, aR a, s0] M S = go r 179 918 [l0, l1, l2, l3] [aI (M a x.toNat), s0] M S := go_bnd rfl ⟨h, h0, h1⟩ rfl
set_option maxRecDepth 20000 in
theorem g179_918 (r : Nat) (l0 l1 l2 l3 : Option AV) (x1 : Int) (a0 : Nat) (M : Mem) (S : Sh) (hk : 16 < r) (h : S.1 a0 = 5) : go r 179 918 [l0, l1, l2, l3] [aI x1, aR a0] M S = cont r 179 921 [l0, l1, l2, l3] [] 1 (res 67 [aR a0, aI x1] M S) := go_cr0 (m' := 67) (n := 2) (pc' := 921) (hr := 1) rfl rfl rfl h rfl rfl rfl rfl hk rfl
set_option maxRecDepth 20000 in
theorem g179_921 (r : Nat) (l0 l1 l3 : Option AV) (s0 : AV) (a : Nat) (M : Mem) (S : Sh) : go r 179 921 [l0, l1, some (aR a), l3] [s0] M S = go r 179 922 [l0, l1, some (aR a), l3] [aR a, s0] M S := go_nx rfl rfl
set_option maxRecDepth 20000 in
theorem g179_921n (r : Nat) (l0 l1 l3 : Option AV) (s0 : AV) (M : Mem) (S : Sh) : go r 179 921 [l0, l1, some aN, l3] [s0] M S = go r 179 922 [l0, l1, some aN, l3] [aN, s0] M S := go_nx rfl rfl
set_option maxRecDepth 20000 in
theorem g179_922 (r : Nat) (l1 l2 l3 : Option AV) (s0 s1 : AV) (a : Nat) (M : Mem) (S : Sh) : go r 179 922 [some (aR a), l1, l2, l3] [s0, s1] M S = go r 179 923 [some (aR a), l1, l2, l3] [aR a, s0, s1] M S := go_nx rfl rfl
set_option maxRecDepth 20000 in
theorem g179_922n (r : Nat) (l1 l2 l3 : Option AV) (s0 s1 : AV) (M : Mem) (S : Sh) : go r 179 922 [some aN, l1, l2, l3] [s0, s1] M S = go r 179 923 [some aN, l1, l2, l3] [aN, s0, s1] M S := go_nx rfl rfl
set_option maxRecDepth 20000 in
theorem g179_923 (r : Nat) (l0 l1 l2 : Option AV) (s0 s1 s2 : AV) (x : Int) (M : Mem) (S : Sh) : go r 179 923 [l0, l1, l2, some (aI x)] [s0, s1, s2] M S = go r 179 924 [l0, l1, l2, some (aI x)] [aI x, s0, s1, s2] M S := go_nx rfl rfl
set_option maxRecDepth 20000 in
theorem g179_924 (r : Nat) (l0 l1 l2 l3 : Option AV) (s0 s1 s2 s3 : AV) (M : Mem) (S : Sh) : go r 179 924 [l0, l1, l2, l3] [s0, s1, s2, s3] M S = go r 179 925 [l0, l1, l2, l3] [aI 1, s0, s1, s2, s3] M S := go_nx rfl rfl
set_option maxRecDepth 20000 in
theorem g179_925 (r : Nat) (l0 l1 l2 l3 : Option AV) (s0 s1 s2 : AV) (x y : Int) (M : Mem) (S : Sh) : go r 179 925 [l0, l1, l2, l3] [aI y, aI x, s0, s1, s2] M S = go r 179 926 [l0, l1, l2, l3] [aI (w32 (x + y)), s0, s1, s2] M S := go_nx rfl rfl
set_option maxRecDepth 20000 in
theorem g179_926 (r : Nat) (l0 l1 l2 l3 : Option AV) (s0 s1 : AV) (x : Int) (a : Nat) (M : Mem) (S : Sh) (h : S.1 a = 7) (h0 : 0 ≤ x) (h1 : x < S.2.1 a) : go r 179 926 [l0, l1, l2, l3] [aI x, aR a, s0, s1] M S = go r 179 927 [l0, l1, l2, l3] [aI (M a x.toNat), s0, s1] M S := go_bnd rfl ⟨h, h0, h1⟩ rfl
set_option maxRecDepth 20000 in
theorem g179_927 (r : Nat) (l0 l1 l2 l3 : Option AV) (s0 : AV) (x1 : Int) (a0 : Nat) (M : Mem) (S : Sh) (hk : 18 < r) (h : S.1 a0 = 6) : go r 179 927 [l0, l1, l2, l3] [aI x1, aR a0, s0] M S = cont r 179 930 [l0, l1, l2, l3] [s0] 1 (res 157 [aR a0, aI x1] M S) := go_cr0 (m' := 157) (n := 2) (pc' := 930) (hr := 1) rfl rfl rfl h rfl rfl rfl rfl hk rfl
set_option maxRecDepth 20000 in
theorem g179_930 (r : Nat) (l0 l1 l2 l3 : Option AV) (x y : Int) (M : Mem) (S : Sh) : go r 179 930 [l0, l1, l2, l3] [aI y, aI x] M S = if x = y then go r 179 1514 [l0, l1, l2, l3] [] M S else go r 179 933 [l0, l1, l2, l3] [] M S := go_br rfl rfl rfl rfl rfl
set_option maxRecDepth 20000 in
theorem g179_933 (r : Nat) (l0 l1 l2 l3 : Option AV) (M : Mem) (S : Sh) : go r 179 933 [l0, l1, l2, l3] [] M S = go r 179 934 [l0, l1, l2, l3] [aI 0] M S := go_nx rfl rfl
set_option maxRecDepth 20000 in
theorem g179_934 (r : Nat) (l0 l1 l2 l3 : Option AV) (x : Int) (M : Mem) (S : Sh) (h : x = 0 ∨ x = 1) : go r 179 934 [l0, l1, l2, l3] [aI x] M S = some (some (aI x), M, S) := go_rt rfl (bnd_t (Or.inr h))
set_option maxRecDepth 20000 in
theorem g179_935 (r : Nat) (l0 l2 l3 : Option AV) (a : Nat) (M : Mem) (S : Sh) : go r 179 935 [l0, some (aR a), l2, l3] [] M S = go r 179 936 [l0, some (aR a), l2, l3] [aR a] M S := go_nx rfl rfl
set_option maxRecDepth 20000 in
theorem g179_935n (r : Nat) (l0 l2 l3 : Option AV) (M : Mem) (S : Sh) : go r 179 935 [l0, some aN, l2, l3] [] M S = go r 179 936 [l0, some aN, l2, l3] [aN] M S := go_nx rfl rfl
set_option maxRecDepth 20000 in
theorem g179_936 (r : Nat) (l1 l2 l3 : Option AV) (s0 : AV) (a : Nat) (M : Mem) (S : Sh) : go r 179 936 [some (aR a), l1, l2, l3] [s0] M S = go r 179 937 [some (aR a), l1, l2, l3] [aR a, s0] M S := go_nx rfl rfl
set_option maxRecDepth 20000 in
theorem g179_936n (r : Nat) (l1 l2 l3 : Option AV) (s0 : AV) (M : Mem) (S : Sh) : go r 179 936 [some aN, l1, l2, l3] [s0] M S = go r 179 937 [some aN, l1, l2, l3] [aN, s0] M S := go_nx rfl rfl
set_option maxRecDepth 20000 in
theorem g179_937 (r : Nat) (l0 l1 l2 : Option AV) (s0 s1 : AV) (x : Int) (M : Mem) (S : Sh) : go r 179 937 [l0, l1, l2, some (aI x)] [s0, s1] M S = go r 179 938 [l0, l1, l2, some (aI x)] [aI x, s0, s1] M S := go_nx rfl rfl
set_option maxRecDepth 20000 in
theorem g179_938 (r : Nat) (l0 l1 l2 l3 : Option AV) (s0 s1 s2 : AV) (M : Mem) (S : Sh) : go r 179 938 [l0, l1, l2, l3] [s0, s1, s2] M S = go r 179 939 [l0, l1, l2, l3] [aI 1, s0, s1, s2] M S := go_nx rfl rfl
set_option maxRecDepth 20000 in
theorem g179_939 (r : Nat) (l0 l1 l2 l3 : Option AV) (s0 s1 : AV) (x y : Int) (M : Mem) (S : Sh) : go r 179 939 [l0, l1, l2, l3] [aI y, aI x, s0, s1] M S = go r 179 940 [l0, l1, l2, l3] [aI (w32 (x + y)), s0, s1] M S := go_nx rfl rfl
set_option maxRecDepth 20000 in
theorem g179_940 (r : Nat) (l0 l1 l2 l3 : Option AV) (s0 : AV) (x : Int) (a : Nat) (M : Mem) (S : Sh) (h : S.1 a = 7) (h0 : 0 ≤ x) (h1 : x < S.2.1 a) : go r 179 940 [l0, l1, l2, l3] [aI x, aR a, s0] M S = go r 179 941 [l0, l1, l2, l3] [aI (M a x.toNat), s0] M S := go_bnd rfl ⟨h, h0, h1⟩ rfl
set_option maxRecDepth 20000 in
theorem g179_941 (r : Nat) (l0 l1 l2 l3 : Option AV) (x1 : Int) (a0 : Nat) (M : Mem) (S : Sh) (hk : 16 < r) (h : S.1 a0 = 5) : go r 179 941 [l0, l1, l2, l3] [aI x1, aR a0] M S = cont r 179 944 [l0, l1, l2, l3] [] 1 (res 68 [aR a0, aI x1] M S) := go_cr0 (m' := 68) (n := 2) (pc' := 944) (hr := 1) rfl rfl rfl h rfl rfl rfl rfl hk rfl
set_option maxRecDepth 20000 in
theorem g179_944 (r : Nat) (l0 l1 l3 : Option AV) (s0 : AV) (a : Nat) (M : Mem) (S : Sh) : go r 179 944 [l0, l1, some (aR a), l3] [s0] M S = go r 179 945 [l0, l1, some (aR a), l3] [aR a, s0] M S := go_nx rfl rfl
set_option maxRecDepth 20000 in
theorem g179_944n (r : Nat) (l0 l1 l3 : Option AV) (s0 : AV) (M : Mem) (S : Sh) : go r 179 944 [l0, l1, some aN, l3] [s0] M S = go r 179 945 [l0, l1, some aN, l3] [aN, s0] M S := go_nx rfl rfl
set_option maxRecDepth 20000 in
theorem g179_945 (r : Nat) (l1 l2 l3 : Option AV) (s0 s1 : AV) (a : Nat) (M : Mem) (S : Sh) : go r 179 945 [some (aR a), l1, l2, l3] [s0, s1] M S = go r 179 946 [some (aR a), l1, l2, l3] [aR a, s0, s1] M S := go_nx rfl rfl
set_option maxRecDepth 20000 in
theorem g179_945n (r : Nat) (l1 l2 l3 : Option AV) (s0 s1 : AV) (M : Mem) (S : Sh) : go r 179 945 [some aN, l1, l2, l3] [s0, s1] M S = go r 179 946 [some aN, l1, l2, l3] [aN, s0, s1] M S := go_nx rfl rfl
set_option maxRecDepth 20000 in
theorem g179_946 (r : Nat) (l0 l1 l2 : Option AV) (s0 s1 s2 : AV) (x : Int) (M : Mem) (S : Sh) : go r 179 946 [l0, l1, l2, some (aI x)] [s0, s1, s2] M S = go r 179 947 [l0, l1, l2, some (aI x)] [aI x, s0, s1, s2] M S := go_nx rfl rfl
set_option maxRecDepth 20000 in
theorem g179_947 (r : Nat) (l0 l1 l2 l3 : Option AV) (s0 s1 s2 s3 : AV) (M : Mem) (S : Sh) : go r 179 947 [l0, l1, l2, l3] [s0, s1, s2, s3] M S = go r 179 948 [l0, l1, l2, l3] [aI 1, s0, s1, s2, s3] M S := go_nx rfl rfl
set_option maxRecDepth 20000 in
theorem g179_948 (r : Nat) (l0 l1 l2 l3 : Option AV) (s0 s1 s2 : AV) (x y : Int) (M : Mem) (S : Sh) : go r 179 948 [l0, l1, l2, l3] [aI y, aI x, s0, s1, s2] M S = go r 179 949 [l0, l1, l2, l3] [aI (w32 (x + y)), s0, s1, s2] M S := go_nx rfl rfl
set_option maxRecDepth 20000 in
theorem g179_949 (r : Nat) (l0 l1 l2 l3 : Option AV) (s0 s1 : AV) (x : Int) (a : Nat) (M : Mem) (S : Sh) (h : S.1 a = 7) (h0 : 0 ≤ x) (h1 : x < S.2.1 a) : go r 179 949 [l0, l1, l2, l3] [aI x, aR a, s0, s1] M S = go r 179 950 [l0, l1, l2, l3] [aI (M a x.toNat), s0, s1] M S := go_bnd rfl ⟨h, h0, h1⟩ rfl
set_option maxRecDepth 20000 in
theorem g179_950 (r : Nat) (l0 l1 l2 l3 : Option AV) (s0 : AV) (x1 : Int) (a0 : Nat) (M : Mem) (S : Sh) (hk : 18 < r) (h : S.1 a0 = 6) : go r 179 950 [l0, l1, l2, l3] [aI x1, aR a0, s0] M S = cont r 179 953 [l0, l1, l2, l3] [s0] 1 (res 158 [aR a0, aI x1] M S) := go_cr0 (m' := 158) (n := 2) (pc' := 953) (hr := 1) rfl rfl rfl h rfl rfl rfl rfl hk rfl
set_option maxRecDepth 20000 in
theorem g179_953 (r : Nat) (l0 l1 l2 l3 : Option AV) (x y : Int) (M : Mem) (S : Sh) : go r 179 953 [l0, l1, l2, l3] [aI y, aI x] M S = if x = y then go r 179 1514 [l0, l1, l2, l3] [] M S else go r 179 956 [l0, l1, l2, l3] [] M S := go_br rfl rfl rfl rfl rfl
set_option maxRecDepth 20000 in
theorem g179_956 (r : Nat) (l0 l1 l2 l3 : Option AV) (M : Mem) (S : Sh) : go r 179 956 [l0, l1, l2, l3] [] M S = go r 179 957 [l0, l1, l2, l3] [aI 0] M S := go_nx rfl rfl
set_option maxRecDepth 20000 in
theorem g179_957 (r : Nat) (l0 l1 l2 l3 : Option AV) (x : Int) (M : Mem) (S : Sh) (h : x = 0 ∨ x = 1) : go r 179 957 [l0, l1, l2, l3] [aI x] M S = some (some (aI x), M, S) := go_rt rfl (bnd_t (Or.inr h))
set_option maxRecDepth 20000 in
theorem g179_958 (r : Nat) (l0 l2 l3 : Option AV) (a : Nat) (M : Mem) (S : Sh) : go r 179 958 [l0, some (aR a), l2, l3] [] M S = go r 179 959 [l0, some (aR a), l2, l3] [aR a] M S := go_nx rfl rfl
set_option maxRecDepth 20000 in
theorem g179_958n (r : Nat) (l0 l2 l3 : Option AV) (M : Mem) (S : Sh) : go r 179 958 [l0, some aN, l2, l3] [] M S = go r 179 959 [l0, some aN, l2, l3] [aN] M S := go_nx rfl rfl
set_option maxRecDepth 20000 in
theorem g179_959 (r : Nat) (l1 l2 l3 : Option AV) (s0 : AV) (a : Nat) (M : Mem) (S : Sh) : go r 179 959 [some (aR a), l1, l2, l3] [s0] M S = go r 179 960 [some (aR a), l1, l2, l3] [aR a, s0] M S := go_nx rfl rfl
set_option maxRecDepth 20000 in
theorem g179_959n (r : Nat) (l1 l2 l3 : Option AV) (s0 : AV) (M : Mem) (S : Sh) : go r 179 959 [some aN, l1, l2, l3] [s0] M S = go r 179 960 [some aN, l1, l2, l3] [aN, s0] M S := go_nx rfl rfl
set_option maxRecDepth 20000 in
theorem g179_960 (r : Nat) (l0 l1 l2 : Option AV) (s0 s1 : AV) (x : Int) (M : Mem) (S : Sh) : go r 179 960 [l0, l1, l2, some (aI x)] [s0, s1] M S = go r 179 961 [l0, l1, l2, some (aI x)] [aI x, s0, s1] M S := go_nx rfl rfl
set_option maxRecDepth 20000 in
theorem g179_961 (r : Nat) (l0 l1 l2 l3 : Option AV) (s0 s1 s2 : AV) (M : Mem) (S : Sh) : go r 179 961 [l0, l1, l2, l3] [s0, s1, s2] M S = go r 179 962 [l0, l1, l2, l3] [aI 1, s0, s1, s2] M S := go_nx rfl rfl
set_option maxRecDepth 20000 in
theorem g179_962 (r : Nat) (l0 l1 l2 l3 : Option AV) (s0 s1 : AV) (x y : Int) (M : Mem) (S : Sh) : go r 179 962 [l0, l1, l2, l3] [aI y, aI x, s0, s1] M S = go r 179 963 [l0, l1, l2, l3] [aI (w32 (x + y)), s0, s1] M S := go_nx rfl rfl
set_option maxRecDepth 20000 in
theorem g179_963 (r : Nat) (l0 l1 l2 l3 : Option AV) (s0 : AV) (x : Int) (a : Nat) (M : Mem) (S : Sh) (h : S.1 a = 7) (h0 : 0 ≤ x) (h1 : x < S.2.1 a) : go r 179 963 [l0, l1, l2, l3] [aI x, aR a, s0] M S = go r 179 964 [l0, l1, l2, l3] [aI (M a x.toNat), s0] M S := go_bnd rfl ⟨h, h0, h1⟩ rfl
set_option maxRecDepth 20000 in
theorem g179_964 (r : Nat) (l0 l1 l2 l3 : Option AV) (x1 : Int) (a0 : Nat) (M : Mem) (S : Sh) (hk : 16 < r) (h : S.1 a0 = 5) : go r 179 964 [l0, l1, l2, l3] [aI x1, aR a0] M S = cont r 179 967 [l0, l1, l2, l3] [] 1 (res 69 [aR a0, aI x1] M S) := go_cr0 (m' := 69) (n := 2) (pc' := 967) (hr := 1) rfl rfl rfl h rfl rfl rfl rfl hk rfl
set_option maxRecDepth 20000 in
theorem g179_967 (r : Nat) (l0 l1 l3 : Option AV) (s0 : AV) (a : Nat) (M : Mem) (S : Sh) : go r 179 967 [l0, l1, some (aR a), l3] [s0] M S = go r 179 968 [l0, l1, some (aR a), l3] [aR a, s0] M S := go_nx rfl rfl
set_option maxRecDepth 20000 in
theorem g179_967n (r : Nat) (l0 l1 l3 : Option AV) (s0 : AV) (M : Mem) (S : Sh) : go r 179 967 [l0, l1, some aN, l3] [s0] M S = go r 179 968 [l0, l1, some aN, l3] [aN, s0] M S := go_nx rfl rfl
set_option maxRecDepth 20000 in
theorem g179_968 (r : Nat) (l1 l2 l3 : Option AV) (s0 s1 : AV) (a : Nat) (M : Mem) (S : Sh) : go r 179 968 [some (aR a), l1, l2, l3] [s0, s1] M S = go r 179 969 [some (aR a), l1, l2, l3] [aR a, s0, s1] M S := go_nx rfl rfl
set_option maxRecDepth 20000 in
theorem g179_968n (r : Nat) (l1 l2 l3 : Option AV) (s0 s1 : AV) (M : Mem) (S : Sh) : go r 179 968 [some aN, l1, l2, l3] [s0, s1] M S = go r 179 969 [some aN, l1, l2, l3] [aN, s0, s1] M S := go_nx rfl rfl
set_option maxRecDepth 20000 in
theorem g179_969 (r : Nat) (l0 l1 l2 : Option AV) (s0 s1 s2 : AV) (x : Int) (M : Mem) (S : Sh) : go r 179 969 [l0, l1, l2, some (aI x)] [s0, s1, s2] M S = go r 179 970 [l0, l1, l2, some (aI x)] [aI x, s0, s1, s2] M S := go_nx rfl rfl
set_option maxRecDepth 20000 in
theorem g179_970 (r : Nat) (l0 l1 l2 l3 : Option AV) (s0 s1 s2 s3 : AV) (M : Mem) (S : Sh) : go r 179 970 [l0, l1, l2, l3] [s0, s1, s2, s3] M S = go r 179 971 [l0, l1, l2, l3] [aI 1, s0, s1, s2, s3] M S := go_nx rfl rfl
set_option maxRecDepth 20000 in
theorem g179_971 (r : Nat) (l0 l1 l2 l3 : Option AV) (s0 s1 s2 : AV) (x y : Int) (M : Mem) (S : Sh) : go r 179 971 [l0, l1, l2, l3] [aI y, aI x, s0, s1, s2] M S = go r 179 972 [l0, l1, l2, l3] [aI (w32 (x + y)), s0, s1, s2] M S := go_nx rfl rfl
set_option maxRecDepth 20000 in
theorem g179_972 (r : Nat) (l0 l1 l2 l3 : Option AV) (s0 s1 : AV) (x : Int) (a : Nat) (M : Mem) (S : Sh) (h : S.1 a = 7) (h0 : 0 ≤ x) (h1 : x < S.2.1 a) : go r 179 972 [l0, l1, l2, l3] [aI x, aR a, s0, s1] M S = go r 179 973 [l0, l1, l2, l3] [aI (M a x.toNat), s0, s1] M S := go_bnd rfl ⟨h, h0, h1⟩ rfl
set_option maxRecDepth 20000 in
theorem g179_973 (r : Nat) (l0 l1 l2 l3 : Option AV) (s0 : AV) (x1 : Int) (a0 : Nat) (M : Mem) (S : Sh) (hk : 18 < r) (h : S.1 a0 = 6) : go r 179 973 [l0, l1, l2, l3] [aI x1, aR a0, s0] M S = cont r 179 976 [l0, l1, l2, l3] [s0] 1 (res 159 [aR a0, aI x1] M S) := go_cr0 (m' := 159) (n := 2) (pc' := 976) (hr := 1) rfl rfl rfl h rfl rfl rfl rfl hk rfl
set_option maxRecDepth 20000 in
theorem g179_976 (r : Nat) (l0 l1 l2 l3 : Option AV) (x y : Int) (M : Mem) (S : Sh) : go r 179 976 [l0, l1, l2, l3] [aI y, aI x] M S = if x = y then go r 179 1514 [l0, l1, l2, l3] [] M S else go r 179 979 [l0, l1, l2, l3] [] M S := go_br rfl rfl rfl rfl rfl
set_option maxRecDepth 20000 in
theorem g179_979 (r : Nat) (l0 l1 l2 l3 : Option AV) (M : Mem) (S : Sh) : go r 179 979 [l0, l1, l2, l3] [] M S = go r 179 980 [l0, l1, l2, l3] [aI 0] M S := go_nx rfl rfl
set_option maxRecDepth 20000 in
theorem g179_980 (r : Nat) (l0 l1 l2 l3 : Option AV) (x : Int) (M : Mem) (S : Sh) (h : x = 0 ∨ x = 1) : go r 179 980 [l0, l1, l2, l3] [aI x] M S = some (some (aI x), M, S) := go_rt rfl (bnd_t (Or.inr h))
set_option maxRecDepth 20000 in
theorem g179_981 (r : Nat) (l0 l2 l3 : Option AV) (a : Nat) (M : Mem) (S : Sh) : go r 179 981 [l0, some (aR a), l2, l3] [] M S = go r 179 982 [l0, some (aR a), l2, l3] [aR a] M S := go_nx rfl rfl
set_option maxRecDepth 20000 in
theorem g179_981n (r : Nat) (l0 l2 l3 : Option AV) (M : Mem) (S : Sh) : go r 179 981 [l0, some aN, l2, l3] [] M S = go r 179 982 [l0, some aN, l2, l3] [aN] M S := go_nx rfl rfl
set_option maxRecDepth 20000 in
theorem g179_982 (r : Nat) (l1 l2 l3 : Option AV) (s0 : AV) (a : Nat) (M : Mem) (S : Sh) : go r 179 982 [some (aR a), l1, l2, l3] [s0] M S = go r 179 983 [some (aR a), l1, l2, l3] [aR a, s0] M S := go_nx rfl rfl
set_option maxRecDepth 20000 in
theorem g179_982n (r : Nat) (l1 l2 l3 : Option AV) (s0 : AV) (M : Mem) (S : Sh) : go r 179 982 [some aN, l1, l2, l3] [s0] M S = go r 179 983 [some aN, l1, l2, l3] [aN, s0] M S := go_nx rfl rfl
set_option maxRecDepth 20000 in
theorem g179_983 (r : Nat) (l0 l1 l2 : Option AV) (s0 s1 : AV) (x : Int) (M : Mem) (S : Sh) : go r 179 983 [l0, l1, l2, some (aI x)] [s0, s1] M S = go r 179 984 [l0, l1, l2, some (aI x)] [aI x, s0, s1] M S := go_nx rfl rfl
set_option maxRecDepth 20000 in
theorem g179_984 (r : Nat) (l0 l1 l2 l3 : Option AV) (s0 s1 s2 : AV) (M : Mem) (S : Sh) : go r 179 984 [l0, l1, l2, l3] [s0, s1, s2] M S = go r 179 985 [l0, l1, l2, l3] [aI 1, s0, s1, s2] M S := go_nx rfl rfl
set_option maxRecDepth 20000 in
theorem g179_985 (r : Nat) (l0 l1 l2 l3 : Option AV) (s0 s1 : AV) (x y : Int) (M : Mem) (S : Sh) : go r 179 985 [l0, l1, l2, l3] [aI y, aI x, s0, s1] M S = go r 179 986 [l0, l1, l2, l3] [aI (w32 (x + y)), s0, s1] M S := go_nx rfl rfl
set_option maxRecDepth 20000 in
theorem g179_986 (r : Nat) (l0 l1 l2 l3 : Option AV) (s0 : AV) (x : Int) (a : Nat) (M : Mem) (S : Sh) (h : S.1 a = 7) (h0 : 0 ≤ x) (h1 : x < S.2.1 a) : go r 179 986 [l0, l1, l2, l3] [aI x, aR a, s0] M S = go r 179 987 [l0, l1, l2, l3] [aI (M a x.toNat), s0] M S := go_bnd rfl ⟨h, h0, h1⟩ rfl
set_option maxRecDepth 20000 in
theorem g179_987 (r : Nat) (l1 l2 l3 : Option AV) (s0 s1 : AV) (a : Nat) (M : Mem) (S : Sh) : go r 179 987 [some (aR a), l1, l2, l3] [s0, s1] M S = go r 179 988 [some (aR a), l1, l2, l3] [aR a, s0, s1] M S := go_nx rfl rfl
set_option maxRecDepth 20000 in
theorem g179_987n (r : Nat) (l1 l2 l3 : Option AV) (s0 s1 : AV) (M : Mem) (S : Sh) : go r 179 987 [some aN, l1, l2, l3] [s0, s1] M S = go r 179 988 [some aN, l1, l2, l3] [aN, s0, s1] M S := go_nx rfl rfl
set_option maxRecDepth 20000 in
theorem g179_988 (r : Nat) (l0 l1 l2 : Option AV) (s0 s1 s2 : AV) (x : Int) (M : Mem) (S : Sh) : go r 179 988 [l0, l1, l2, some (aI x)] [s0, s1, s2] M S = go r 179 989 [l0, l1, l2, some (aI x)] [aI x, s0, s1, s2] M S := go_nx rfl rfl
set_option maxRecDepth 20000 in
theorem g179_989 (r : Nat) (l0 l1 l2 l3 : Option AV) (s0 s1 s2 s3 : AV) (M : Mem) (S : Sh) : go r 179 989 [l0, l1, l2, l3] [s0, s1, s2, s3] M S = go r 179 990 [l0, l1, l2, l3] [aI 2, s0, s1, s2, s3] M S := go_nx rfl rfl
set_option maxRecDepth 20000 in
theorem g179_990 (r : Nat) (l0 l1 l2 l3 : Option AV) (s0 s1 s2 : AV) (x y : Int) (M : Mem) (S : Sh) : go r 179 990 [l0, l1, l2, l3] [aI y, aI x, s0, s1, s2] M S = go r 179 991 [l0, l1, l2, l3] [aI (w32 (x + y)), s0, s1, s2] M S := go_nx rfl rfl
set_option maxRecDepth 20000 in
theorem g179_991 (r : Nat) (l0 l1 l2 l3 : Option AV) (s0 s1 : AV) (x : Int) (a : Nat) (M : Mem) (S : Sh) (h : S.1 a = 7) (h0 : 0 ≤ x) (h1 : x < S.2.1 a) : go r 179 991 [l0, l1, l2, l3] [aI x, aR a, s0, s1] M S = go r 179 992 [l0, l1, l2, l3] [aI (M a x.toNat), s0, s1] M S := go_bnd rfl ⟨h, h0, h1⟩ rfl
set_option maxRecDepth 20000 in
theorem g179_992 (r : Nat) (l0 l1 l2 l3 : Option AV) (x1 x2 : Int) (a0 : Nat) (M : Mem) (S : Sh) (hk : 16 < r) (h : S.1 a0 = 5) : go r 179 992 [l0, l1, l2, l3] [aI x2, aI x1, aR a0] M S = cont r 179 995 [l0, l1, l2, l3] [] 1 (res 70 [aR a0, aI x1, aI x2] M S) := go_cr0 (m' := 70) (n := 3) (pc' := 995) (hr := 1) rfl rfl rfl h rfl rfl rfl rfl hk rfl
set_option maxRecDepth 20000 in
theorem g179_995 (r : Nat) (l0 l1 l3 : Option AV) (s0 : AV) (a : Nat) (M : Mem) (S : Sh) : go r 179 995 [l0, l1, some (aR a), l3] [s0] M S = go r 179 996 [l0, l1, some (aR a), l3] [aR a, s0] M S := go_nx rfl rfl
set_option maxRecDepth 20000 in
theorem g179_995n (r : Nat) (l0 l1 l3 : Option AV) (s0 : AV) (M : Mem) (S : Sh) : go r 179 995 [l0, l1, some aN, l3] [s0] M S = go r 179 996 [l0, l1, some aN, l3] [aN, s0] M S := go_nx rfl rfl
set_option maxRecDepth 20000 in
theorem g179_996 (r : Nat) (l1 l2 l3 : Option AV) (s0 s1 : AV) (a : Nat) (M : Mem) (S : Sh) : go r 179 996 [some (aR a), l1, l2, l3] [s0, s1] M S = go r 179 997 [some (aR a), l1, l2, l3] [aR a, s0, s1] M S := go_nx rfl rfl
set_option maxRecDepth 20000 in
theorem g179_996n (r : Nat) (l1 l2 l3 : Option AV) (s0 s1 : AV) (M : Mem) (S : Sh) : go r 179 996 [some aN, l1, l2, l3] [s0, s1] M S = go r 179 997 [some aN, l1, l2, l3] [aN, s0, s1] M S := go_nx rfl rfl
set_option maxRecDepth 20000 in
theorem g179_997 (r : Nat) (l0 l1 l2 : Option AV) (s0 s1 s2 : AV) (x : Int) (M : Mem) (S : Sh) : go r 179 997 [l0, l1, l2, some (aI x)] [s0, s1, s2] M S = go r 179 998 [l0, l1, l2, some (aI x)] [aI x, s0, s1, s2] M S := go_nx rfl rfl
set_option maxRecDepth 20000 in
theorem g179_998 (r : Nat) (l0 l1 l2 l3 : Option AV) (s0 s1 s2 s3 : AV) (M : Mem) (S : Sh) : go r 179 998 [l0, l1, l2, l3] [s0, s1, s2, s3] M S = go r 179 999 [l0, l1, l2, l3] [aI 1, s0, s1, s2, s3] M S := go_nx rfl rfl
set_option maxRecDepth 20000 in
theorem g179_999 (r : Nat) (l0 l1 l2 l3 : Option AV) (s0 s1 s2 : AV) (x y : Int) (M : Mem) (S : Sh) : go r 179 999 [l0, l1, l2, l3] [aI y, aI x, s0, s1, s2] M S = go r 179 1000 [l0, l1, l2, l3] [aI (w32 (x + y)), s0, s1, s2] M S := go_nx rfl rfl
set_option maxRecDepth 20000 in
theorem g179_1000 (r : Nat) (l0 l1 l2 l3 : Option AV) (s0 s1 : AV) (x : Int) (a : Nat) (M : Mem) (S : Sh) (h : S.1 a = 7) (h0 : 0 ≤ x) (h1 : x < S.2.1 a) : go r 179 1000 [l0, l1, l2, l3] [aI x, aR a, s0, s1] M S = go r 179 1001 [l0, l1, l2, l3] [aI (M a x.toNat), s0, s1] M S := go_bnd rfl ⟨h, h0, h1⟩ rfl
set_option maxRecDepth 20000 in
theorem g179_1001 (r : Nat) (l1 l2 l3 : Option AV) (s0 s1 s2 : AV) (a : Nat) (M : Mem) (S : Sh) : go r 179 1001 [some (aR a), l1, l2, l3] [s0, s1, s2] M S = go r 179 1002 [some (aR a), l1, l2, l3] [aR a, s0, s1, s2] M S := go_nx rfl rfl
set_option maxRecDepth 20000 in
theorem g179_1001n (r : Nat) (l1 l2 l3 : Option AV) (s0 s1 s2 : AV) (M : Mem) (S : Sh) : go r 179 1001 [some aN, l1, l2, l3] [s0, s1, s2] M S = go r 179 1002 [some aN, l1, l2, l3] [aN, s0, s1, s2] M S := go_nx rfl rfl
set_option maxRecDepth 20000 in
theorem g179_1002 (r : Nat) (l0 l1 l2 : Option AV) (s0 s1 s2 s3 : AV) (x : Int) (M : Mem) (S : Sh) : go r 179 1002 [l0, l1, l2, some (aI x)] [s0, s1, s2, s3] M S = go r 179 1003 [l0, l1, l2, some (aI x)] [aI x, s0, s1, s2, s3] M S := go_nx rfl rfl
set_option maxRecDepth 20000 in
theorem g179_1003 (r : Nat) (l0 l1 l2 l3 : Option AV) (s0 s1 s2 s3 s4 : AV) (M : Mem) (S : Sh) : go r 179 1003 [l0, l1, l2, l3] [s0, s1, s2, s3, s4] M S = go r 179 1004 [l0, l1, l2, l3] [aI 2, s0, s1, s2, s3, s4] M S := go_nx rfl rfl
set_option maxRecDepth 20000 in
theorem g179_1004 (r : Nat) (l0 l1 l2 l3 : Option AV) (s0 s1 s2 s3 : AV) (x y : Int) (M : Mem) (S : Sh) : go r 179 1004 [l0, l1, l2, l3] [aI y, aI x, s0, s1, s2, s3] M S = go r 179 1005 [l0, l1, l2, l3] [aI (w32 (x + y)), s0, s1, s2, s3] M S := go_nx rfl rfl
set_option maxRecDepth 20000 in
theorem g179_1005 (r : Nat) (l0 l1 l2 l3 : Option AV) (s0 s1 s2 : AV) (x : Int) (a : Nat) (M : Mem) (S : Sh) (h : S.1 a = 7) (h0 : 0 ≤ x) (h1 : x < S.2.1 a) : go r 179 1005 [l0, l1, l2, l3] [aI x, aR a, s0, s1, s2] M S = go r 179 1006 [l0, l1, l2, l3] [aI (M a x.toNat), s0, s1, s2] M S := go_bnd rfl ⟨h, h0, h1⟩ rfl
set_option maxRecDepth 20000 in
theorem g179_1006 (r : Nat) (l0 l1 l2 l3 : Option AV) (s0 : AV) (x1 x2 : Int) (a0 : Nat) (M : Mem) (S : Sh) (hk : 19 < r) (h : S.1 a0 = 6) : go r 179 1006 [l0, l1, l2, l3] [aI x2, aI x1, aR a0, s0] M S = cont r 179 1009 [l0, l1, l2, l3] [s0] 1 (res 162 [aR a0, aI x1, aI x2] M S) := go_cr0 (m' := 162) (n := 3) (pc' := 1009) (hr := 1) rfl rfl rfl h rfl rfl rfl rfl hk rfl
set_option maxRecDepth 20000 in
theorem g179_1009 (r : Nat) (l0 l1 l2 l3 : Option AV) (x y : Int) (M : Mem) (S : Sh) : go r 179 1009 [l0, l1, l2, l3] [aI y, aI x] M S = if x = y then go r 179 1514 [l0, l1, l2, l3] [] M S else go r 179 1012 [l0, l1, l2, l3] [] M S := go_br rfl rfl rfl rfl rfl
set_option maxRecDepth 20000 in
theorem g179_1012 (r : Nat) (l0 l1 l2 l3 : Option AV) (M : Mem) (S : Sh) : go r 179 1012 [l0, l1, l2, l3] [] M S = go r 179 1013 [l0, l1, l2, l3] [aI 0] M S := go_nx rfl rfl
set_option maxRecDepth 20000 in
theorem g179_1013 (r : Nat) (l0 l1 l2 l3 : Option AV) (x : Int) (M : Mem) (S : Sh) (h : x = 0 ∨ x = 1) : go r 179 1013 [l0, l1, l2, l3] [aI x] M S = some (some (aI x), M, S) := go_rt rfl (bnd_t (Or.inr h))
set_option maxRecDepth 20000 in
theorem g179_1014 (r : Nat) (l0 l2 l3 : Option AV) (a : Nat) (M : Mem) (S : Sh) : go r 179 1014 [l0, some (aR a), l2, l3] [] M S = go r 179 1015 [l0, some (aR a), l2, l3] [aR a] M S := go_nx rfl rfl
set_option maxRecDepth 20000 in
theorem g179_1014n (r : Nat) (l0 l2 l3 : Option AV) (M : Mem) (S : Sh) : go r 179 1014 [l0, some aN, l2, l3] [] M S = go r 179 1015 [l0, some aN, l2, l3] [aN] M S := go_nx rfl rfl
set_option maxRecDepth 20000 in
theorem g179_1015 (r : Nat) (l1 l2 l3 : Option AV) (s0 : AV) (a : Nat) (M : Mem) (S : Sh) : go r 179 1015 [some (aR a), l1, l2, l3] [s0] M S = go r 179 1016 [some (aR a), l1, l2, l3] [aR a, s0] M S := go_nx rfl rfl
set_option maxRecDepth 20000 in
theorem g179_1015n (r : Nat) (l1 l2 l3 : Option AV) (s0 : AV) (M : Mem) (S : Sh) : go r 179 1015 [some aN, l1, l2, l3] [s0] M S = go r 179 1016 [some aN, l1, l2, l3] [aN, s0] M S := go_nx rfl rfl
set_option maxRecDepth 20000 in
theorem g179_1016 (r : Nat) (l0 l1 l2 : Option AV) (s0 s1 : AV) (x : Int) (M : Mem) (S : Sh) : go r 179 1016 [l0, l1, l2, some (aI x)] [s0, s1] M S = go r 179 1017 [l0, l1, l2, some (aI x)] [aI x, s0, s1] M S := go_nx rfl rfl
set_option maxRecDepth 20000 in
theorem g179_1017 (r : Nat) (l0 l1 l2 l3 : Option AV) (s0 s1 s2 : AV) (M : Mem) (S : Sh) : go r 179 1017 [l0, l1, l2, l3] [s0, s1, s2] M S = go r 179 1018 [l0, l1, l2, l3] [aI 1, s0, s1, s2] M S := go_nx rfl rfl
set_option maxRecDepth 20000 in
theorem g179_1018 (r : Nat) (l0 l1 l2 l3 : Option AV) (s0 s1 : AV) (x y : Int) (M : Mem) (S : Sh) : go r 179 1018 [l0, l1, l2, l3] [aI y, aI x, s0, s1] M S = go r 179 1019 [l0, l1, l2, l3] [aI (w32 (x + y)), s0, s1] M S := go_nx rfl rfl
set_option maxRecDepth 20000 in
theorem g179_1019 (r : Nat) (l0 l1 l2 l3 : Option AV) (s0 : AV) (x : Int) (a : Nat) (M : Mem) (S : Sh) (h : S.1 a = 7) (h0 : 0 ≤ x) (h1 : x < S.2.1 a) : go r 179 1019 [l0, l1, l2, l3] [aI x, aR a, s0] M S = go r 179 1020 [l0, l1, l2, l3] [aI (M a x.toNat), s0] M S := go_bnd rfl ⟨h, h0, h1⟩ rfl
set_option maxRecDepth 20000 in
theorem g179_1020 (r : Nat) (l1 l2 l3 : Option AV) (s0 s1 : AV) (a : Nat) (M : Mem) (S : Sh) : go r 179 1020 [some (aR a), l1, l2, l3] [s0, s1] M S = go r 179 1021 [some (aR a), l1, l2, l3] [aR a, s0, s1] M S := go_nx rfl rfl
set_option maxRecDepth 20000 in
theorem g179_1020n (r : Nat) (l1 l2 l3 : Option AV) (s0 s1 : AV) (M : Mem) (S : Sh) : go r 179 1020 [some aN, l1, l2, l3] [s0, s1] M S = go r 179 1021 [some aN, l1, l2, l3] [aN, s0, s1] M S := go_nx rfl rfl
set_option maxRecDepth 20000 in
theorem g179_1021 (r : Nat) (l0 l1 l2 : Option AV) (s0 s1 s2 : AV) (x : Int) (M : Mem) (S : Sh) : go r 179 1021 [l0, l1, l2, some (aI x)] [s0, s1, s2] M S = go r 179 1022 [l0, l1, l2, some (aI x)] [aI x, s0, s1, s2] M S := go_nx rfl rfl
set_option maxRecDepth 20000 in
theorem g179_1022 (r : Nat) (l0 l1 l2 l3 : Option AV) (s0 s1 s2 s3 : AV) (M : Mem) (S : Sh) : go r 179 1022 [l0, l1, l2, l3] [s0, s1, s2, s3] M S = go r 179 1023 [l0, l1, l2, l3] [aI 2, s0, s1, s2, s3] M S := go_nx rfl rfl
set_option maxRecDepth 20000 in
theorem g179_1023 (r : Nat) (l0 l1 l2 l3 : Option AV) (s0 s1 s2 : AV) (x y : Int) (M : Mem) (S : Sh) : go r 179 1023 [l0, l1, l2, l3] [aI y, aI x, s0, s1, s2] M S = go r 179 1024 [l0, l1, l2, l3] [aI (w32 (x + y)), s0, s1, s2] M S := go_nx rfl rfl
set_option maxRecDepth 20000 in
theorem g179_1024 (r : Nat) (l0 l1 l2 l3 : Option AV) (s0 s1 : AV) (x : Int) (a : Nat) (M : Mem) (S : Sh) (h : S.1 a = 7) (h0 : 0 ≤ x) (h1 : x < S.2.1 a) : go r 179 1024 [l0, l1, l2, l3] [aI x, aR a, s0, s1] M S = go r 179 1025 [l0, l1, l2, l3] [aI (M a x.toNat), s0, s1] M S := go_bnd rfl ⟨h, h0, h1⟩ rfl
set_option maxRecDepth 20000 in
theorem g179_1025 (r : Nat) (l0 l1 l2 l3 : Option AV) (x1 x2 : Int) (a0 : Nat) (M : Mem) (S : Sh) (hk : 16 < r) (h : S.1 a0 = 5) : go r 179 1025 [l0, l1, l2, l3] [aI x2, aI x1, aR a0] M S = cont r 179 1028 [l0, l1, l2, l3] [] 1 (res 71 [aR a0, aI x1, aI x2] M S) := go_cr0 (m' := 71) (n := 3) (pc' := 1028) (hr := 1) rfl rfl rfl h rfl rfl rfl rfl hk rfl
set_option maxRecDepth 20000 in
theorem g179_1028 (r : Nat) (l0 l1 l3 : Option AV) (s0 : AV) (a : Nat) (M : Mem) (S : Sh) : go r 179 1028 [l0, l1, some (aR a), l3] [s0] M S = go r 179 1029 [l0, l1, some (aR a), l3] [aR a, s0] M S := go_nx rfl rfl
set_option maxRecDepth 20000 in
theorem g179_1028n (r : Nat) (l0 l1 l3 : Option AV) (s0 : AV) (M : Mem) (S : Sh) : go r 179 1028 [l0, l1, some aN, l3] [s0] M S = go r 179 1029 [l0, l1, some aN, l3] [aN, s0] M S := go_nx rfl rfl
set_option maxRecDepth 20000 in
theorem g179_1029 (r : Nat) (l1 l2 l3 : Option AV) (s0 s1 : AV) (a : Nat) (M : Mem) (S : Sh) : go r 179 1029 [some (aR a), l1, l2, l3] [s0, s1] M S = go r 179 1030 [some (aR a), l1, l2, l3] [aR a, s0, s1] M S := go_nx rfl rfl
set_option maxRecDepth 20000 in
theorem g179_1029n (r : Nat) (l1 l2 l3 : Option AV) (s0 s1 : AV) (M : Mem) (S : Sh) : go r 179 1029 [some aN, l1, l2, l3] [s0, s1] M S = go r 179 1030 [some aN, l1, l2, l3] [aN, s0, s1] M S := go_nx rfl rfl
set_option maxRecDepth 20000 in
theorem g179_1030 (r : Nat) (l0 l1 l2 : Option AV) (s0 s1 s2 : AV) (x : Int) (M : Mem) (S : Sh) : go r 179 1030 [l0, l1, l2, some (aI x)] [s0, s1, s2] M S = go r 179 1031 [l0, l1, l2, some (aI x)] [aI x, s0, s1, s2] M S := go_nx rfl rfl
set_option maxRecDepth 20000 in
theorem g179_1031 (r : Nat) (l0 l1 l2 l3 : Option AV) (s0 s1 s2 s3 : AV) (M : Mem) (S : Sh) : go r 179 1031 [l0, l1, l2, l3] [s0, s1, s2, s3] M S = go r 179 1032 [l0, l1, l2, l3] [aI 1, s0, s1, s2, s3] M S := go_nx rfl rfl
set_option maxRecDepth 20000 in
theorem g179_1032 (r : Nat) (l0 l1 l2 l3 : Option AV) (s0 s1 s2 : AV) (x y : Int) (M : Mem) (S : Sh) : go r 179 1032 [l0, l1, l2, l3] [aI y, aI x, s0, s1, s2] M S = go r 179 1033 [l0, l1, l2, l3] [aI (w32 (x + y)), s0, s1, s2] M S := go_nx rfl rfl
set_option maxRecDepth 20000 in
theorem g179_1033 (r : Nat) (l0 l1 l2 l3 : Option AV) (s0 s1 : AV) (x : Int) (a : Nat) (M : Mem) (S : Sh) (h : S.1 a = 7) (h0 : 0 ≤ x) (h1 : x < S.2.1 a) : go r 179 1033 [l0, l1, l2, l3] [aI x, aR a, s0, s1] M S = go r 179 1034 [l0, l1, l2, l3] [aI (M a x.toNat), s0, s1] M S := go_bnd rfl ⟨h, h0, h1⟩ rfl
set_option maxRecDepth 20000 in
theorem g179_1034 (r : Nat) (l1 l2 l3 : Option AV) (s0 s1 s2 : AV) (a : Nat) (M : Mem) (S : Sh) : go r 179 1034 [some (aR a), l1, l2, l3] [s0, s1, s2] M S = go r 179 1035 [some (aR a), l1, l2, l3] [aR a, s0, s1, s2] M S := go_nx rfl rfl
set_option maxRecDepth 20000 in
theorem g179_1034n (r : Nat) (l1 l2 l3 : Option AV) (s0 s1 s2 : AV) (M : Mem) (S : Sh) : go r 179 1034 [some aN, l1, l2, l3] [s0, s1, s2] M S = go r 179 1035 [some aN, l1, l2, l3] [aN, s0, s1, s2] M S := go_nx rfl rfl
set_option maxRecDepth 20000 in
theorem g179_1035 (r : Nat) (l0 l1 l2 : Option AV) (s0 s1 s2 s3 : AV) (x : Int) (M : Mem) (S : Sh) : go r 179 1035 [l0, l1, l2, some (aI x)] [s0, s1, s2, s3] M S = go r 179 1036 [l0, l1, l2, some (aI x)] [aI x, s0, s1, s2, s3] M S := go_nx rfl rfl
set_option maxRecDepth 20000 in
theorem g179_1036 (r : Nat) (l0 l1 l2 l3 : Option AV) (s0 s1 s2 s3 s4 : AV) (M : Mem) (S : Sh) : go r 179 1036 [l0, l1, l2, l3] [s0, s1, s2, s3, s4] M S = go r 179 1037 [l0, l1, l2, l3] [aI 2, s0, s1, s2, s3, s4] M S := go_nx rfl rfl
set_option maxRecDepth 20000 in
theorem g179_1037 (r : Nat) (l0 l1 l2 l3 : Option AV) (s0 s1 s2 s3 : AV) (x y : Int) (M : Mem) (S : Sh) : go r 179 1037 [l0, l1, l2, l3] [aI y, aI x, s0, s1, s2, s3] M S = go r 179 1038 [l0, l1, l2, l3] [aI (w32 (x + y)), s0, s1, s2, s3] M S := go_nx rfl rfl
set_option maxRecDepth 20000 in
theorem g179_1038 (r : Nat) (l0 l1 l2 l3 : Option AV) (s0 s1 s2 : AV) (x : Int) (a : Nat) (M : Mem) (S : Sh) (h : S.1 a = 7) (h0 : 0 ≤ x) (h1 : x < S.2.1 a) : go r 179 1038 [l0, l1, l2, l3] [aI x, aR a, s0, s1, s2] M S = go r 179 1039 [l0, l1, l2, l3] [aI (M a x.toNat), s0, s1, s2] M S := go_bnd rfl ⟨h, h0, h1⟩ rfl
set_option maxRecDepth 20000 in
theorem g179_1039 (r : Nat) (l0 l1 l2 l3 : Option AV) (s0 : AV) (x1 x2 : Int) (a0 : Nat) (M : Mem) (S : Sh) (hk : 19 < r) (h : S.1 a0 = 6) : go r 179 1039 [l0, l1, l2, l3] [aI x2, aI x1, aR a0, s0] M S = cont r 179 1042 [l0, l1, l2, l3] [s0] 1 (res 163 [aR a0, aI x1, aI x2] M S) := go_cr0 (m' := 163) (n := 3) (pc' := 1042) (hr := 1) rfl rfl rfl h rfl rfl rfl rfl hk rfl
set_option maxRecDepth 20000 in
theorem g179_1042 (r : Nat) (l0 l1 l2 l3 : Option AV) (x y : Int) (M : Mem) (S : Sh) : go r 179 1042 [l0, l1, l2, l3] [aI y, aI x] M S = if x = y then go r 179 1514 [l0, l1, l2, l3] [] M S else go r 179 1045 [l0, l1, l2, l3] [] M S := go_br rfl rfl rfl rfl rfl
set_option maxRecDepth 20000 in
theorem g179_1045 (r : Nat) (l0 l1 l2 l3 : Option AV) (M : Mem) (S : Sh) : go r 179 1045 [l0, l1, l2, l3] [] M S = go r 179 1046 [l0, l1, l2, l3] [aI 0] M S := go_nx rfl rfl
set_option maxRecDepth 20000 in
theorem g179_1046 (r : Nat) (l0 l1 l2 l3 : Option AV) (x : Int) (M : Mem) (S : Sh) (h : x = 0 ∨ x = 1) : go r 179 1046 [l0, l1, l2, l3] [aI x] M S = some (some (aI x), M, S) := go_rt rfl (bnd_t (Or.inr h))
set_option maxRecDepth 20000 in
theorem g179_1047 (r : Nat) (l0 l2 l3 : Option AV) (a : Nat) (M : Mem) (S : Sh) : go r 179 1047 [l0, some (aR a), l2, l3] [] M S = go r 179 1048 [l0, some (aR a), l2, l3] [aR a] M S := go_nx rfl rfl
set_option maxRecDepth 20000 in
theorem g179_1047n (r : Nat) (l0 l2 l3 : Option AV) (M : Mem) (S : Sh) : go r 179 1047 [l0, some aN, l2, l3] [] M S = go r 179 1048 [l0, some aN, l2, l3] [aN] M S := go_nx rfl rfl
set_option maxRecDepth 20000 in
theorem g179_1048 (r : Nat) (l1 l2 l3 : Option AV) (s0 : AV) (a : Nat) (M : Mem) (S : Sh) : go r 179 1048 [some (aR a), l1, l2, l3] [s0] M S = go r 179 1049 [some (aR a), l1, l2, l3] [aR a, s0] M S := go_nx rfl rfl
set_option maxRecDepth 20000 in
theorem g179_1048n (r : Nat) (l1 l2 l3 : Option AV) (s0 : AV) (M : Mem) (S : Sh) : go r 179 1048 [some aN, l1, l2, l3] [s0] M S = go r 179 1049 [some aN, l1, l2, l3] [aN, s0] M S := go_nx rfl rfl
set_option maxRecDepth 20000 in
theorem g179_1049 (r : Nat) (l0 l1 l2 : Option AV) (s0 s1 : AV) (x : Int) (M : Mem) (S : Sh) : go r 179 1049 [l0, l1, l2, some (aI x)] [s0, s1] M S = go r 179 1050 [l0, l1, l2, some (aI x)] [aI x, s0, s1] M S := go_nx rfl rfl
set_option maxRecDepth 20000 in
theorem g179_1050 (r : Nat) (l0 l1 l2 l3 : Option AV) (s0 s1 s2 : AV) (M : Mem) (S : Sh) : go r 179 1050 [l0, l1, l2, l3] [s0, s1, s2] M S = go r 179 1051 [l0, l1, l2, l3] [aI 1, s0, s1, s2] M S := go_nx rfl rfl
set_option maxRecDepth 20000 in
theorem g179_1051 (r : Nat) (l0 l1 l2 l3 : Option AV) (s0 s1 : AV) (x y : Int) (M : Mem) (S : Sh) : go r 179 1051 [l0, l1, l2, l3] [aI y, aI x, s0, s1] M S = go r 179 1052 [l0, l1, l2, l3] [aI (w32 (x + y)), s0, s1] M S := go_nx rfl rfl
set_option maxRecDepth 20000 in
theorem g179_1052 (r : Nat) (l0 l1 l2 l3 : Option AV) (s0 : AV) (x : Int) (a : Nat) (M : Mem) (S : Sh) (h : S.1 a = 7) (h0 : 0 ≤ x) (h1 : x < S.2.1 a) : go r 179 1052 [l0, l1, l2, l3] [aI x, aR a, s0] M S = go r 179 1053 [l0, l1, l2, l3] [aI (M a x.toNat), s0] M S := go_bnd rfl ⟨h, h0, h1⟩ rfl
set_option maxRecDepth 20000 in
theorem g179_1053 (r : Nat) (l1 l2 l3 : Option AV) (s0 s1 : AV) (a : Nat) (M : Mem) (S : Sh) : go r 179 1053 [some (aR a), l1, l2, l3] [s0, s1] M S = go r 179 1054 [some (aR a), l1, l2, l3] [aR a, s0, s1] M S := go_nx rfl rfl
set_option maxRecDepth 20000 in
theorem g179_1053n (r : Nat) (l1 l2 l3 : Option AV) (s0 s1 : AV) (M : Mem) (S : Sh) : go r 179 1053 [some aN, l1, l2, l3] [s0, s1] M S = go r 179 1054 [some aN, l1, l2, l3] [aN, s0, s1] M S := go_nx rfl rfl
set_option maxRecDepth 20000 in
theorem g179_1054 (r : Nat) (l0 l1 l2 : Option AV) (s0 s1 s2 : AV) (x : Int) (M : Mem) (S : Sh) : go r 179 1054 [l0, l1, l2, some (aI x)] [s0, s1, s2] M S = go r 179 1055 [l0, l1, l2, some (aI x)] [aI x, s0, s1, s2] M S := go_nx rfl rfl
set_option maxRecDepth 20000 in
theorem g179_1055 (r : Nat) (l0 l1 l2 l3 : Option AV) (s0 s1 s2 s3 : AV) (M : Mem) (S : Sh) : go r 179 1055 [l0, l1, l2, l3] [s0, s1, s2, s3] M S = go r 179 1056 [l0, l1, l2, l3] [aI 2, s0, s1, s2, s3] M S := go_nx rfl rfl
set_option maxRecDepth 20000 in
theorem g179_1056 (r : Nat) (l0 l1 l2 l3 : Option AV) (s0 s1 s2 : AV) (x y : Int) (M : Mem) (S : Sh) : go r 179 1056 [l0, l1, l2, l3] [aI y, aI x, s0, s1, s2] M S = go r 179 1057 [l0, l1, l2, l3] [aI (w32 (x + y)), s0, s1, s2] M S := go_nx rfl rfl
set_option maxRecDepth 20000 in
theorem g179_1057 (r : Nat) (l0 l1 l2 l3 : Option AV) (s0 s1 : AV) (x : Int) (a : Nat) (M : Mem) (S : Sh) (h : S.1 a = 7) (h0 : 0 ≤ x) (h1 : x < S.2.1 a) : go r 179 1057 [l0, l1, l2, l3] [aI x, aR a, s0, s1] M S = go r 179 1058 [l0, l1, l2, l3] [aI (M a x.toNat), s0, s1] M S := go_bnd rfl ⟨h, h0, h1⟩ rfl
set_option maxRecDepth 20000 in
theorem g179_1058 (r : Nat) (l1 l2 l3 : Option AV) (s0 s1 s2 : AV) (a : Nat) (M : Mem) (S : Sh) : go r 179 1058 [some (aR a), l1, l2, l3] [s0, s1, s2] M S = go r 179 1059 [some (aR a), l1, l2, l3] [aR a, s0, s1, s2] M S := go_nx rfl rfl
set_option maxRecDepth 20000 in
theorem g179_1058n (r : Nat) (l1 l2 l3 : Option AV) (s0 s1 s2 : AV) (M : Mem) (S : Sh) : go r 179 1058 [some aN, l1, l2, l3] [s0, s1, s2] M S = go r 179 1059 [some aN, l1, l2, l3] [aN, s0, s1, s2] M S := go_nx rfl rfl
set_option maxRecDepth 20000 in
theorem g179_1059 (r : Nat) (l0 l1 l2 : Option AV) (s0 s1 s2 s3 : AV) (x : Int) (M : Mem) (S : Sh) : go r 179 1059 [l0, l1, l2, some (aI x)] [s0, s1, s2, s3] M S = go r 179 1060 [l0, l1, l2, some (aI x)] [aI x, s0, s1, s2, s3] M S := go_nx rfl rfl
set_option maxRecDepth 20000 in
theorem g179_1060 (r : Nat) (l0 l1 l2 l3 : Option AV) (s0 s1 s2 s3 s4 : AV) (M : Mem) (S : Sh) : go r 179 1060 [l0, l1, l2, l3] [s0, s1, s2, s3, s4] M S = go r 179 1061 [l0, l1, l2, l3] [aI 3, s0, s1, s2, s3, s4] M S := go_nx rfl rfl
set_option maxRecDepth 20000 in
theorem g179_1061 (r : Nat) (l0 l1 l2 l3 : Option AV) (s0 s1 s2 s3 : AV) (x y : Int) (M : Mem) (S : Sh) : go r 179 1061 [l0, l1, l2, l3] [aI y, aI x, s0, s1, s2, s3] M S = go r 179 1062 [l0, l1, l2, l3] [aI (w32 (x + y)), s0, s1, s2, s3] M S := go_nx rfl rfl
set_option maxRecDepth 20000 in
theorem g179_1062 (r : Nat) (l0 l1 l2 l3 : Option AV) (s0 s1 s2 : AV) (x : Int) (a : Nat) (M : Mem) (S : Sh) (h : S.1 a = 7) (h0 : 0 ≤ x) (h1 : x < S.2.1 a) : go r 179 1062 [l0, l1, l2, l3] [aI x, aR a, s0, s1, s2] M S = go r 179 1063 [l0, l1, l2, l3] [aI (M a x.toNat), s0, s1, s2] M S := go_bnd rfl ⟨h, h0, h1⟩ rfl
set_option maxRecDepth 20000 in
theorem g179_1063 (r : Nat) (l0 l1 l2 l3 : Option AV) (x1 x2 x3 : Int) (a0 : Nat) (M : Mem) (S : Sh) (hk : 16 < r) (h : S.1 a0 = 5) : go r 179 1063 [l0, l1, l2, l3] [aI x3, aI x2, aI x1, aR a0] M S = cont r 179 1066 [l0, l1, l2, l3] [] 1 (res 72 [aR a0, aI x1, aI x2, aI x3] M S) := go_cr0 (m' := 72) (n := 4) (pc' := 1066) (hr := 1) rfl rfl rfl h rfl rfl rfl rfl hk rfl
set_option maxRecDepth 20000 in
theorem g179_1066 (r : Nat) (l0 l1 l3 : Option AV) (s0 : AV) (a : Nat) (M : Mem) (S : Sh) : go r 179 1066 [l0, l1, some (aR a), l3] [s0] M S = go r 179 1067 [l0, l1, some (aR a), l3] [aR a, s0] M S := go_nx rfl rfl
set_option maxRecDepth 20000 in
theorem g179_1066n (r : Nat) (l0 l1 l3 : Option AV) (s0 : AV) (M : Mem) (S : Sh) : go r 179 1066 [l0, l1, some aN, l3] [s0] M S = go r 179 1067 [l0, l1, some aN, l3] [aN, s0] M S := go_nx rfl rfl
set_option maxRecDepth 20000 in
theorem g179_1067 (r : Nat) (l1 l2 l3 : Option AV) (s0 s1 : AV) (a : Nat) (M : Mem) (S : Sh) : go r 179 1067 [some (aR a), l1, l2, l3] [s0, s1] M S = go r 179 1068 [some (aR a), l1, l2, l3] [aR a, s0, s1] M S := go_nx rfl rfl
set_option maxRecDepth 20000 in
theorem g179_1067n (r : Nat) (l1 l2 l3 : Option AV) (s0 s1 : AV) (M : Mem) (S : Sh) : go r 179 1067 [some aN, l1, l2, l3] [s0, s1] M S = go r 179 1068 [some aN, l1, l2, l3] [aN, s0, s1] M S := go_nx rfl rfl
set_option maxRecDepth 20000 in
theorem g179_1068 (r : Nat) (l0 l1 l2 : Option AV) (s0 s1 s2 : AV) (x : Int) (M : Mem) (S : Sh) : go r 179 1068 [l0, l1, l2, some (aI x)] [s0, s1, s2] M S = go r 179 1069 [l0, l1, l2, some (aI x)] [aI x, s0, s1, s2] M S := go_nx rfl rfl
set_option maxRecDepth 20000 in
theorem g179_1069 (r : Nat) (l0 l1 l2 l3 : Option AV) (s0 s1 s2 s3 : AV) (M : Mem) (S : Sh) : go r 179 1069 [l0, l1, l2, l3] [s0, s1, s2, s3] M S = go r 179 1070 [l0, l1, l2, l3] [aI 1, s0, s1, s2, s3] M S := go_nx rfl rfl
set_option maxRecDepth 20000 in
theorem g179_1070 (r : Nat) (l0 l1 l2 l3 : Option AV) (s0 s1 s2 : AV) (x y : Int) (M : Mem) (S : Sh) : go r 179 1070 [l0, l1, l2, l3] [aI y, aI x, s0, s1, s2] M S = go r 179 1071 [l0, l1, l2, l3] [aI (w32 (x + y)), s0, s1, s2] M S := go_nx rfl rfl
set_option maxRecDepth 20000 in
theorem g179_1071 (r : Nat) (l0 l1 l2 l3 : Option AV) (s0 s1 : AV) (x : Int) (a : Nat) (M : Mem) (S : Sh) (h : S.1 a = 7) (h0 : 0 ≤ x) (h1 : x < S.2.1 a) : go r 179 1071 [l0, l1, l2, l3] [aI x, aR a, s0, s1] M S = go r 179 1072 [l0, l1, l2, l3] [aI (M a x.toNat), s0, s1] M S := go_bnd rfl ⟨h, h0, h1⟩ rfl
set_option maxRecDepth 20000 in
theorem g179_1072 (r : Nat) (l1 l2 l3 : Option AV) (s0 s1 s2 : AV) (a : Nat) (M : Mem) (S : Sh) : go r 179 1072 [some (aR a), l1, l2, l3] [s0, s1, s2] M S = go r 179 1073 [some (aR a), l1, l2, l3] [aR a, s0, s1, s2] M S := go_nx rfl rfl
set_option maxRecDepth 20000 in
theorem g179_1072n (r : Nat) (l1 l2 l3 : Option AV) (s0 s1 s2 : AV) (M : Mem) (S : Sh) : go r 179 1072 [some aN, l1, l2, l3] [s0, s1, s2] M S = go r 179 1073 [some aN, l1, l2, l3] [aN, s0, s1, s2] M S := go_nx rfl rfl
set_option maxRecDepth 20000 in
theorem g179_1073 (r : Nat) (l0 l1 l2 : Option AV) (s0 s1 s2 s3 : AV) (x : Int) (M : Mem) (S : Sh) : go r 179 1073 [l0, l1, l2, some (aI x)] [s0, s1, s2, s3] M S = go r 179 1074 [l0, l1, l2, some (aI x)] [aI x, s0, s1, s2, s3] M S := go_nx rfl rfl
set_option maxRecDepth 20000 in
theorem g179_1074 (r : Nat) (l0 l1 l2 l3 : Option AV) (s0 s1 s2 s3 s4 : AV) (M : Mem) (S : Sh) : go r 179 1074 [l0, l1, l2, l3] [s0, s1, s2, s3, s4] M S = go r 179 1075 [l0, l1, l2, l3] [aI 2, s0, s1, s2, s3, s4] M S := go_nx rfl rfl
set_option maxRecDepth 20000 in
theorem g179_1075 (r : Nat) (l0 l1 l2 l3 : Option AV) (s0 s1 s2 s3 : AV) (x y : Int) (M : Mem) (S : Sh) : go r 179 1075 [l0, l1, l2, l3] [aI y, aI x, s0, s1, s2, s3] M S = go r 179 1076 [l0, l1, l2, l3] [aI (w32 (x + y)), s0, s1, s2, s3] M S := go_nx rfl rfl
set_option maxRecDepth 20000 in
theorem g179_1076 (r : Nat) (l0 l1 l2 l3 : Option AV) (s0 s1 s2 : AV) (x : Int) (a : Nat) (M : Mem) (S : Sh) (h : S.1 a = 7) (h0 : 0 ≤ x) (h1 : x < S.2.1 a) : go r 179 1076 [l0, l1, l2, l3] [aI x, aR a, s0, s1, s2] M S = go r 179 1077 [l0, l1, l2, l3] [aI (M a x.toNat), s0, s1, s2] M S := go_bnd rfl ⟨h, h0, h1⟩ rfl
set_option maxRecDepth 20000 in
theorem g179_1077 (r : Nat) (l1 l2 l3 : Option AV) (s0 s1 s2 s3 : AV) (a : Nat) (M : Mem) (S : Sh) : go r 179 1077 [some (aR a), l1, l2, l3] [s0, s1, s2, s3] M S = go r 179 1078 [some (aR a), l1, l2, l3] [aR a, s0, s1, s2, s3] M S := go_nx rfl rfl
set_option maxRecDepth 20000 in
theorem g179_1077n (r : Nat) (l1 l2 l3 : Option AV) (s0 s1 s2 s3 : AV) (M : Mem) (S : Sh) : go r 179 1077 [some aN, l1, l2, l3] [s0, s1, s2, s3] M S = go r 179 1078 [some aN, l1, l2, l3] [aN, s0, s1, s2, s3] M S := go_nx rfl rfl
set_option maxRecDepth 20000 in
theorem g179_1078 (r : Nat) (l0 l1 l2 : Option AV) (s0 s1 s2 s3 s4 : AV) (x : Int) (M : Mem) (S : Sh) : go r 179 1078 [l0, l1, l2, some (aI x)] [s0, s1, s2, s3, s4] M S = go r 179 1079 [l0, l1, l2, some (aI x)] [aI x, s0, s1, s2, s3, s4] M S := go_nx rfl rfl
set_option maxRecDepth 20000 in
theorem g179_1079 (r : Nat) (l0 l1 l2 l3 : Option AV) (s0 s1 s2 s3 s4 s5 : AV) (M : Mem) (S : Sh) : go r 179 1079 [l0, l1, l2, l3] [s0, s1, s2, s3, s4, s5] M S = go r 179 1080 [l0, l1, l2, l3] [aI 3, s0, s1, s2, s3, s4, s5] M S := go_nx rfl rfl
set_option maxRecDepth 20000 in
theorem g179_1080 (r : Nat) (l0 l1 l2 l3 : Option AV) (s0 s1 s2 s3 s4 : AV) (x y : Int) (M : Mem) (S : Sh) : go r 179 1080 [l0, l1, l2, l3] [aI y, aI x, s0, s1, s2, s3, s4] M S = go r 179 1081 [l0, l1, l2, l3] [aI (w32 (x + y)), s0, s1, s2, s3, s4] M S := go_nx rfl rfl
set_option maxRecDepth 20000 in
theorem g179_1081 (r : Nat) (l0 l1 l2 l3 : Option AV) (s0 s1 s2 s3 : AV) (x : Int) (a : Nat) (M : Mem) (S : Sh) (h : S.1 a = 7) (h0 : 0 ≤ x) (h1 : x < S.2.1 a) : go r 179 1081 [l0, l1, l2, l3] [aI x, aR a, s0, s1, s2, s3] M S = go r 179 1082 [l0, l1, l2, l3] [aI (M a x.toNat), s0, s1, s2, s3] M S := go_bnd rfl ⟨h, h0, h1⟩ rfl
set_option maxRecDepth 20000 in
theorem g179_1082 (r : Nat) (l0 l1 l2 l3 : Option AV) (s0 : AV) (x1 x2 x3 : Int) (a0 : Nat) (M : Mem) (S : Sh) (hk : 19 < r) (h : S.1 a0 = 6) : go r 179 1082 [l0, l1, l2, l3] [aI x3, aI x2, aI x1, aR a0, s0] M S = cont r 179 1085 [l0, l1, l2, l3] [s0] 1 (res 164 [aR a0, aI x1, aI x2, aI x3] M S) := go_cr0 (m' := 164) (n := 4) (pc' := 1085) (hr := 1) rfl rfl rfl h rfl rfl rfl rfl hk rfl
set_option maxRecDepth 20000 in
theorem g179_1085 (r : Nat) (l0 l1 l2 l3 : Option AV) (x y : Int) (M : Mem) (S : Sh) : go r 179 1085 [l0, l1, l2, l3] [aI y, aI x] M S = if x = y then go r 179 1514 [l0, l1, l2, l3] [] M S else go r 179 1088 [l0, l1, l2, l3] [] M S := go_br rfl rfl rfl rfl rfl
set_option maxRecDepth 20000 in
theorem g179_1088 (r : Nat) (l0 l1 l2 l3 : Option AV) (M : Mem) (S : Sh) : go r 179 1088 [l0, l1, l2, l3] [] M S = go r 179 1089 [l0, l1, l2, l3] [aI 0] M S := go_nx rfl rfl
set_option maxRecDepth 20000 in
theorem g179_1089 (r : Nat) (l0 l1 l2 l3 : Option AV) (x : Int) (M : Mem) (S : Sh) (h : x = 0 ∨ x = 1) : go r 179 1089 [l0, l1, l2, l3] [aI x] M S = some (some (aI x), M, S) := go_rt rfl (bnd_t (Or.inr h))
set_option maxRecDepth 20000 in
theorem g179_1090 (r : Nat) (l0 l2 l3 : Option AV) (a : Nat) (M : Mem) (S : Sh) : go r 179 1090 [l0, some (aR a), l2, l3] [] M S = go r 179 1091 [l0, some (aR a), l2, l3] [aR a] M S := go_nx rfl rfl
set_option maxRecDepth 20000 in
theorem g179_1090n (r : Nat) (l0 l2 l3 : Option AV) (M : Mem) (S : Sh) : go r 179 1090 [l0, some aN, l2, l3] [] M S = go r 179 1091 [l0, some aN, l2, l3] [aN] M S := go_nx rfl rfl
set_option maxRecDepth 20000 in
theorem g179_1091 (r : Nat) (l1 l2 l3 : Option AV) (s0 : AV) (a : Nat) (M : Mem) (S : Sh) : go r 179 1091 [some (aR a), l1, l2, l3] [s0] M S = go r 179 1092 [some (aR a), l1, l2, l3] [aR a, s0] M S := go_nx rfl rfl
set_option maxRecDepth 20000 in
theorem g179_1091n (r : Nat) (l1 l2 l3 : Option AV) (s0 : AV) (M : Mem) (S : Sh) : go r 179 1091 [some aN, l1, l2, l3] [s0] M S = go r 179 1092 [some aN, l1, l2, l3] [aN, s0] M S := go_nx rfl rfl
set_option maxRecDepth 20000 in
theorem g179_1092 (r : Nat) (l0 l1 l2 : Option AV) (s0 s1 : AV) (x : Int) (M : Mem) (S : Sh) : go r 179 1092 [l0, l1, l2, some (aI x)] [s0, s1] M S = go r 179 1093 [l0, l1, l2, some (aI x)] [aI x, s0, s1] M S := go_nx rfl rfl
set_option maxRecDepth 20000 in
theorem g179_1093 (r : Nat) (l0 l1 l2 l3 : Option AV) (s0 s1 s2 : AV) (M : Mem) (S : Sh) : go r 179 1093 [l0, l1, l2, l3] [s0, s1, s2] M S = go r 179 1094 [l0, l1, l2, l3] [aI 1, s0, s1, s2] M S := go_nx rfl rfl
set_option maxRecDepth 20000 in
theorem g179_1094 (r : Nat) (l0 l1 l2 l3 : Option AV) (s0 s1 : AV) (x y : Int) (M : Mem) (S : Sh) : go r 179 1094 [l0, l1, l2, l3] [aI y, aI x, s0, s1] M S = go r 179 1095 [l0, l1, l2, l3] [aI (w32 (x + y)), s0, s1] M S := go_nx rfl rfl
set_option maxRecDepth 20000 in
theorem g179_1095 (r : Nat) (l0 l1 l2 l3 : Option AV) (s0 : AV) (x : Int) (a : Nat) (M : Mem) (S : Sh) (h : S.1 a = 7) (h0 : 0 ≤ x) (h1 : x < S.2.1 a) : go r 179 1095 [l0, l1, l2, l3] [aI x, aR a, s0] M S = go r 179 1096 [l0, l1, l2, l3] [aI (M a x.toNat), s0] M S := go_bnd rfl ⟨h, h0, h1⟩ rfl
set_option maxRecDepth 20000 in
theorem g179_1096 (r : Nat) (l1 l2 l3 : Option AV) (s0 s1 : AV) (a : Nat) (M : Mem) (S : Sh) : go r 179 1096 [some (aR a), l1, l2, l3] [s0, s1] M S = go r 179 1097 [some (aR a), l1, l2, l3] [aR a, s0, s1] M S := go_nx rfl rfl
set_option maxRecDepth 20000 in
theorem g179_1096n (r : Nat) (l1 l2 l3 : Option AV) (s0 s1 : AV) (M : Mem) (S : Sh) : go r 179 1096 [some aN, l1, l2, l3] [s0, s1] M S = go r 179 1097 [some aN, l1, l2, l3] [aN, s0, s1] M S := go_nx rfl rfl
set_option maxRecDepth 20000 in
theorem g179_1097 (r : Nat) (l0 l1 l2 : Option AV) (s0 s1 s2 : AV) (x : Int) (M : Mem) (S : Sh) : go r 179 1097 [l0, l1, l2, some (aI x)] [s0, s1, s2] M S = go r 179 1098 [l0, l1, l2, some (aI x)] [aI x, s0, s1, s2] M S := go_nx rfl rfl
set_option maxRecDepth 20000 in
theorem g179_1098 (r : Nat) (l0 l1 l2 l3 : Option AV) (s0 s1 s2 s3 : AV) (M : Mem) (S : Sh) : go r 179 1098 [l0, l1, l2, l3] [s0, s1, s2, s3] M S = go r 179 1099 [l0, l1, l2, l3] [aI 2, s0, s1, s2, s3] M S := go_nx rfl rfl
set_option maxRecDepth 20000 in
theorem g179_1099 (r : Nat) (l0 l1 l2 l3 : Option AV) (s0 s1 s2 : AV) (x y : Int) (M : Mem) (S : Sh) : go r 179 1099 [l0, l1, l2, l3] [aI y, aI x, s0, s1, s2] M S = go r 179 1100 [l0, l1, l2, l3] [aI (w32 (x + y)), s0, s1, s2] M S := go_nx rfl rfl
set_option maxRecDepth 20000 in
theorem g179_1100 (r : Nat) (l0 l1 l2 l3 : Option AV) (s0 s1 : AV) (x : Int) (a : Nat) (M : Mem) (S : Sh) (h : S.1 a = 7) (h0 : 0 ≤ x) (h1 : x < S.2.1 a) : go r 179 1100 [l0, l1, l2, l3] [aI x, aR a, s0, s1] M S = go r 179 1101 [l0, l1, l2, l3] [aI (M a x.toNat), s0, s1] M S := go_bnd rfl ⟨h, h0, h1⟩ rfl
set_option maxRecDepth 20000 in
theorem g179_1101 (r : Nat) (l0 l1 l2 l3 : Option AV) (x1 x2 : Int) (a0 : Nat) (M : Mem) (S : Sh) (hk : 16 < r) (h : S.1 a0 = 5) : go r 179 1101 [l0, l1, l2, l3] [aI x2, aI x1, aR a0] M S = cont r 179 1104 [l0, l1, l2, l3] [] 1 (res 73 [aR a0, aI x1, aI x2] M S) := go_cr0 (m' := 73) (n := 3) (pc' := 1104) (hr := 1) rfl rfl rfl h rfl rfl rfl rfl hk rfl
set_option maxRecDepth 20000 in
theorem g179_1104 (r : Nat) (l0 l1 l3 : Option AV) (s0 : AV) (a : Nat) (M : Mem) (S : Sh) : go r 179 1104 [l0, l1, some (aR a), l3] [s0] M S = go r 179 1105 [l0, l1, some (aR a), l3] [aR a, s0] M S := go_nx rfl rfl
set_option maxRecDepth 20000 in
theorem g179_1104n (r : Nat) (l0 l1 l3 : Option AV) (s0 : AV) (M : Mem) (S : Sh) : go r 179 1104 [l0, l1, some aN, l3] [s0] M S = go r 179 1105 [l0, l1, some aN, l3] [aN, s0] M S := go_nx rfl rfl
set_option maxRecDepth 20000 in
theorem g179_1105 (r : Nat) (l1 l2 l3 : Option AV) (s0 s1 : AV) (a : Nat) (M : Mem) (S : Sh) : go r 179 1105 [some (aR a), l1, l2, l3] [s0, s1] M S = go r 179 1106 [some (aR a), l1, l2, l3] [aR a, s0, s1] M S := go_nx rfl rfl
set_option maxRecDepth 20000 in
theorem g179_1105n (r : Nat) (l1 l2 l3 : Option AV) (s0 s1 : AV) (M : Mem) (S : Sh) : go r 179 1105 [some aN, l1, l2, l3] [s0, s1] M S = go r 179 1106 [some aN, l1, l2, l3] [aN, s0, s1] M S := go_nx rfl rfl
set_option maxRecDepth 20000 in
theorem g179_1106 (r : Nat) (l0 l1 l2 : Option AV) (s0 s1 s2 : AV) (x : Int) (M : Mem) (S : Sh) : go r 179 1106 [l0, l1, l2, some (aI x)] [s0, s1, s2] M S = go r 179 1107 [l0, l1, l2, some (aI x)] [aI x, s0, s1, s2] M S := go_nx rfl rfl
set_option maxRecDepth 20000 in
theorem g179_1107 (r : Nat) (l0 l1 l2 l3 : Option AV) (s0 s1 s2 s3 : AV) (M : Mem) (S : Sh) : go r 179 1107 [l0, l1, l2, l3] [s0, s1, s2, s3] M S = go r 179 1108 [l0, l1, l2, l3] [aI 1, s0, s1, s2, s3] M S := go_nx rfl rfl
set_option maxRecDepth 20000 in
theorem g179_1108 (r : Nat) (l0 l1 l2 l3 : Option AV) (s0 s1 s2 : AV) (x y : Int) (M : Mem) (S : Sh) : go r 179 1108 [l0, l1, l2, l3] [aI y, aI x, s0, s1, s2] M S = go r 179 1109 [l0, l1, l2, l3] [aI (w32 (x + y)), s0, s1, s2] M S := go_nx rfl rfl
set_option maxRecDepth 20000 in
theorem g179_1109 (r : Nat) (l0 l1 l2 l3 : Option AV) (s0 s1 : AV) (x : Int) (a : Nat) (M : Mem) (S : Sh) (h : S.1 a = 7) (h0 : 0 ≤ x) (h1 : x < S.2.1 a) : go r 179 1109 [l0, l1, l2, l3] [aI x, aR a, s0, s1] M S = go r 179 1110 [l0, l1, l2, l3] [aI (M a x.toNat), s0, s1] M S := go_bnd rfl ⟨h, h0, h1⟩ rfl
set_option maxRecDepth 20000 in
theorem g179_1110 (r : Nat) (l1 l2 l3 : Option AV) (s0 s1 s2 : AV) (a : Nat) (M : Mem) (S : Sh) : go r 179 1110 [some (aR a), l1, l2, l3] [s0, s1, s2] M S = go r 179 1111 [some (aR a), l1, l2, l3] [aR a, s0, s1, s2] M S := go_nx rfl rfl
set_option maxRecDepth 20000 in
theorem g179_1110n (r : Nat) (l1 l2 l3 : Option AV) (s0 s1 s2 : AV) (M : Mem) (S : Sh) : go r 179 1110 [some aN, l1, l2, l3] [s0, s1, s2] M S = go r 179 1111 [some aN, l1, l2, l3] [aN, s0, s1, s2] M S := go_nx rfl rfl
set_option maxRecDepth 20000 in
theorem g179_1111 (r : Nat) (l0 l1 l2 : Option AV) (s0 s1 s2 s3 : AV) (x : Int) (M : Mem) (S : Sh) : go r 179 1111 [l0, l1, l2, some (aI x)] [s0, s1, s2, s3] M S = go r 179 1112 [l0, l1, l2, some (aI x)] [aI x, s0, s1, s2, s3] M S := go_nx rfl rfl
set_option maxRecDepth 20000 in
theorem g179_1112 (r : Nat) (l0 l1 l2 l3 : Option AV) (s0 s1 s2 s3 s4 : AV) (M : Mem) (S : Sh) : go r 179 1112 [l0, l1, l2, l3] [s0, s1, s2, s3, s4] M S = go r 179 1113 [l0, l1, l2, l3] [aI 2, s0, s1, s2, s3, s4] M S := go_nx rfl rfl
set_option maxRecDepth 20000 in
theorem g179_1113 (r : Nat) (l0 l1 l2 l3 : Option AV) (s0 s1 s2 s3 : AV) (x y : Int) (M : Mem) (S : Sh) : go r 179 1113 [l0, l1, l2, l3] [aI y, aI x, s0, s1, s2, s3] M S = go r 179 1114 [l0, l1, l2, l3] [aI (w32 (x + y)), s0, s1, s2, s3] M S := go_nx rfl rfl
set_option maxRecDepth 20000 in
theorem g179_1114 (r : Nat) (l0 l1 l2 l3 : Option AV) (s0 s1 s2 : AV) (x : Int) (a : Nat) (M : Mem) (S : Sh) (h : S.1 a = 7) (h0 : 0 ≤ x) (h1 : x < S.2.1 a) : go r 179 1114 [l0, l1, l2, l3] [aI x, aR a, s0, s1, s2] M S = go r 179 1115 [l0, l1, l2, l3] [aI (M a x.toNat), s0, s1, s2] M S := go_bnd rfl ⟨h, h0, h1⟩ rfl
set_option maxRecDepth 20000 in
theorem g179_1115 (r : Nat) (l0 l1 l2 l3 : Option AV) (s0 : AV) (x1 x2 : Int) (a0 : Nat) (M : Mem) (S : Sh) (hk : 19 < r) (h : S.1 a0 = 6) : go r 179 1115 [l0, l1, l2, l3] [aI x2, aI x1, aR a0, s0] M S = cont r 179 1118 [l0, l1, l2, l3] [s0] 1 (res 165 [aR a0, aI x1, aI x2] M S) := go_cr0 (m' := 165) (n := 3) (pc' := 1118) (hr := 1) rfl rfl rfl h rfl rfl rfl rfl hk rfl
set_option maxRecDepth 20000 in
theorem g179_1118 (r : Nat) (l0 l1 l2 l3 : Option AV) (x y : Int) (M : Mem) (S : Sh) : go r 179 1118 [l0, l1, l2, l3] [aI y, aI x] M S = if x = y then go r 179 1514 [l0, l1, l2, l3] [] M S else go r 179 1121 [l0, l1, l2, l3] [] M S := go_br rfl rfl rfl rfl rfl
set_option maxRecDepth 20000 in
theorem g179_1121 (r : Nat) (l0 l1 l2 l3 : Option AV) (M : Mem) (S : Sh) : go r 179 1121 [l0, l1, l2, l3] [] M S = go r 179 1122 [l0, l1, l2, l3] [aI 0] M S := go_nx rfl rfl
set_option maxRecDepth 20000 in
theorem g179_1122 (r : Nat) (l0 l1 l2 l3 : Option AV) (x : Int) (M : Mem) (S : Sh) (h : x = 0 ∨ x = 1) : go r 179 1122 [l0, l1, l2, l3] [aI x] M S = some (some (aI x), M, S) := go_rt rfl (bnd_t (Or.inr h))
set_option maxRecDepth 20000 in
theorem g179_1123 (r : Nat) (l0 l2 l3 : Option AV) (a : Nat) (M : Mem) (S : Sh) : go r 179 1123 [l0, some (aR a), l2, l3] [] M S = go r 179 1124 [l0, some (aR a), l2, l3] [aR a] M S := go_nx rfl rfl
set_option maxRecDepth 20000 in
theorem g179_1123n (r : Nat) (l0 l2 l3 : Option AV) (M : Mem) (S : Sh) : go r 179 1123 [l0, some aN, l2, l3] [] M S = go r 179 1124 [l0, some aN, l2, l3] [aN] M S := go_nx rfl rfl
set_option maxRecDepth 20000 in
theorem g179_1124 (r : Nat) (l1 l2 l3 : Option AV) (s0 : AV) (a : Nat) (M : Mem) (S : Sh) : go r 179 1124 [some (aR a), l1, l2, l3] [s0] M S = go r 179 1125 [some (aR a), l1, l2, l3] [aR a, s0] M S := go_nx rfl rfl
set_option maxRecDepth 20000 in
theorem g179_1124n (r : Nat) (l1 l2 l3 : Option AV) (s0 : AV) (M : Mem) (S : Sh) : go r 179 1124 [some aN, l1, l2, l3] [s0] M S = go r 179 1125 [some aN, l1, l2, l3] [aN, s0] M S := go_nx rfl rfl
set_option maxRecDepth 20000 in
theorem g179_1125 (r : Nat) (l0 l1 l2 : Option AV) (s0 s1 : AV) (x : Int) (M : Mem) (S : Sh) : go r 179 1125 [l0, l1, l2, some (aI x)] [s0, s1] M S = go r 179 1126 [l0, l1, l2, some (aI x)] [aI x, s0, s1] M S := go_nx rfl rfl
set_option maxRecDepth 20000 in
theorem g179_1126 (r : Nat) (l0 l1 l2 l3 : Option AV) (s0 s1 s2 : AV) (M : Mem) (S : Sh) : go r 179 1126 [l0, l1, l2, l3] [s0, s1, s2] M S = go r 179 1127 [l0, l1, l2, l3] [aI 1, s0, s1, s2] M S := go_nx rfl rfl
set_option maxRecDepth 20000 in
theorem g179_1127 (r : Nat) (l0 l1 l2 l3 : Option AV) (s0 s1 : AV) (x y : Int) (M : Mem) (S : Sh) : go r 179 1127 [l0, l1, l2, l3] [aI y, aI x, s0, s1] M S = go r 179 1128 [l0, l1, l2, l3] [aI (w32 (x + y)), s0, s1] M S := go_nx rfl rfl
set_option maxRecDepth 20000 in
theorem g179_1128 (r : Nat) (l0 l1 l2 l3 : Option AV) (s0 : AV) (x : Int) (a : Nat) (M : Mem) (S : Sh) (h : S.1 a = 7) (h0 : 0 ≤ x) (h1 : x < S.2.1 a) : go r 179 1128 [l0, l1, l2, l3] [aI x, aR a, s0] M S = go r 179 1129 [l0, l1, l2, l3] [aI (M a x.toNat), s0] M S := go_bnd rfl ⟨h, h0, h1⟩ rfl
set_option maxRecDepth 20000 in
theorem g179_1129 (r : Nat) (l1 l2 l3 : Option AV) (s0 s1 : AV) (a : Nat) (M : Mem) (S : Sh) : go r 179 1129 [some (aR a), l1, l2, l3] [s0, s1] M S = go r 179 1130 [some (aR a), l1, l2, l3] [aR a, s0, s1] M S := go_nx rfl rfl
set_option maxRecDepth 20000 in
theorem g179_1129n (r : Nat) (l1 l2 l3 : Option AV) (s0 s1 : AV) (M : Mem) (S : Sh) : go r 179 1129 [some aN, l1, l2, l3] [s0, s1] M S = go r 179 1130 [some aN, l1, l2, l3] [aN, s0, s1] M S := go_nx rfl rfl
set_option maxRecDepth 20000 in
theorem g179_1130 (r : Nat) (l0 l1 l2 : Option AV) (s0 s1 s2 : AV) (x : Int) (M : Mem) (S : Sh) : go r 179 1130 [l0, l1, l2, some (aI x)] [s0, s1, s2] M S = go r 179 1131 [l0, l1, l2, some (aI x)] [aI x, s0, s1, s2] M S := go_nx rfl rfl
set_option maxRecDepth 20000 in
theorem g179_1131 (r : Nat) (l0 l1 l2 l3 : Option AV) (s0 s1 s2 s3 : AV) (M : Mem) (S : Sh) : go r 179 1131 [l0, l1, l2, l3] [s0, s1, s2, s3] M S = go r 179 1132 [l0, l1, l2, l3] [aI 2, s0, s1, s2, s3] M S := go_nx rfl rfl
set_option maxRecDepth 20000 in
theorem g179_1132 (r : Nat) (l0 l1 l2 l3 : Option AV) (s0 s1 s2 : AV) (x y : Int) (M : Mem) (S : Sh) : go r 179 1132 [l0, l1, l2, l3] [aI y, aI x, s0, s1, s2] M S = go r 179 1133 [l0, l1, l2, l3] [aI (w32 (x + y)), s0, s1, s2] M S := go_nx rfl rfl
set_option maxRecDepth 20000 in
theorem g179_1133 (r : Nat) (l0 l1 l2 l3 : Option AV) (s0 s1 : AV) (x : Int) (a : Nat) (M : Mem) (S : Sh) (h : S.1 a = 7) (h0 : 0 ≤ x) (h1 : x < S.2.1 a) : go r 179 1133 [l0, l1, l2, l3] [aI x, aR a, s0, s1] M S = go r 179 1134 [l0, l1, l2, l3] [aI (M a x.toNat), s0, s1] M S := go_bnd rfl ⟨h, h0, h1⟩ rfl
set_option maxRecDepth 20000 in
theorem g179_1134 (r : Nat) (l0 l1 l2 l3 : Option AV) (x1 x2 : Int) (a0 : Nat) (M : Mem) (S : Sh) (hk : 16 < r) (h : S.1 a0 = 5) : go r 179 1134 [l0, l1, l2, l3] [aI x2, aI x1, aR a0] M S = cont r 179 1137 [l0, l1, l2, l3] [] 1 (res 74 [aR a0, aI x1, aI x2] M S) := go_cr0 (m' := 74) (n := 3) (pc' := 1137) (hr := 1) rfl rfl rfl h rfl rfl rfl rfl hk rfl
set_option maxRecDepth 20000 in
theorem g179_1137 (r : Nat) (l0 l1 l3 : Option AV) (s0 : AV) (a : Nat) (M : Mem) (S : Sh) : go r 179 1137 [l0, l1, some (aR a), l3] [s0] M S = go r 179 1138 [l0, l1, some (aR a), l3] [aR a, s0] M S := go_nx rfl rfl
set_option maxRecDepth 20000 in
theorem g179_1137n (r : Nat) (l0 l1 l3 : Option AV) (s0 : AV) (M : Mem) (S : Sh) : go r 179 1137 [l0, l1, some aN, l3] [s0] M S = go r 179 1138 [l0, l1, some aN, l3] [aN, s0] M S := go_nx rfl rfl
set_option maxRecDepth 20000 in
theorem g179_1138 (r : Nat) (l1 l2 l3 : Option AV) (s0 s1 : AV) (a : Nat) (M : Mem) (S : Sh) : go r 179 1138 [some (aR a), l1, l2, l3] [s0, s1] M S = go r 179 1139 [some (aR a), l1, l2, l3] [aR a, s0, s1] M S := go_nx rfl rfl
set_option maxRecDepth 20000 in
theorem g179_1138n (r : Nat) (l1 l2 l3 : Option AV) (s0 s1 : AV) (M : Mem) (S : Sh) : go r 179 1138 [some aN, l1, l2, l3] [s0, s1] M S = go r 179 1139 [some aN, l1, l2, l3] [aN, s0, s1] M S := go_nx rfl rfl
set_option maxRecDepth 20000 in
theorem g179_1139 (r : Nat) (l0 l1 l2 : Option AV) (s0 s1 s2 : AV) (x : Int) (M : Mem) (S : Sh) : go r 179 1139 [l0, l1, l2, some (aI x)] [s0, s1, s2] M S = go r 179 1140 [l0, l1, l2, some (aI x)] [aI x, s0, s1, s2] M S := go_nx rfl rfl
set_option maxRecDepth 20000 in
theorem g179_1140 (r : Nat) (l0 l1 l2 l3 : Option AV) (s0 s1 s2 s3 : AV) (M : Mem) (S : Sh) : go r 179 1140 [l0, l1, l2, l3] [s0, s1, s2, s3] M S = go r 179 1141 [l0, l1, l2, l3] [aI 1, s0, s1, s2, s3] M S := go_nx rfl rfl
set_option maxRecDepth 20000 in
theorem g179_1141 (r : Nat) (l0 l1 l2 l3 : Option AV) (s0 s1 s2 : AV) (x y : Int) (M : Mem) (S : Sh) : go r 179 1141 [l0, l1, l2, l3] [aI y, aI x, s0, s1, s2] M S = go r 179 1142 [l0, l1, l2, l3] [aI (w32 (x + y)), s0, s1, s2] M S := go_nx rfl rfl
set_option maxRecDepth 20000 in
theorem g179_1142 (r : Nat) (l0 l1 l2 l3 : Option AV) (s0 s1 : AV) (x : Int) (a : Nat) (M : Mem) (S : Sh) (h : S.1 a = 7) (h0 : 0 ≤ x) (h1 : x < S.2.1 a) : go r 179 1142 [l0, l1, l2, l3] [aI x, aR a, s0, s1] M S = go r 179 1143 [l0, l1, l2, l3] [aI (M a x.toNat), s0, s1] M S := go_bnd rfl ⟨h, h0, h1⟩ rfl
set_option maxRecDepth 20000 in
theorem g179_1143 (r : Nat) (l1 l2 l3 : Option AV) (s0 s1 s2 : AV) (a : Nat) (M : Mem) (S : Sh) : go r 179 1143 [some (aR a), l1, l2, l3] [s0, s1, s2] M S = go r 179 1144 [some (aR a), l1, l2, l3] [aR a, s0, s1, s2] M S := go_nx rfl rfl
set_option maxRecDepth 20000 in
theorem g179_1143n (r : Nat) (l1 l2 l3 : Option AV) (s0 s1 s2 : AV) (M : Mem) (S : Sh) : go r 179 1143 [some aN, l1, l2, l3] [s0, s1, s2] M S = go r 179 1144 [some aN, l1, l2, l3] [aN, s0, s1, s2] M S := go_nx rfl rfl
set_option maxRecDepth 20000 in
theorem g179_1144 (r : Nat) (l0 l1 l2 : Option AV) (s0 s1 s2 s3 : AV) (x : Int) (M : Mem) (S : Sh) : go r 179 1144 [l0, l1, l2, some (aI x)] [s0, s1, s2, s3] M S = go r 179 1145 [l0, l1, l2, some (aI x)] [aI x, s0, s1, s2, s3] M S := go_nx rfl rfl
set_option maxRecDepth 20000 in
theorem g179_1145 (r : Nat) (l0 l1 l2 l3 : Option AV) (s0 s1 s2 s3 s4 : AV) (M : Mem) (S : Sh) : go r 179 1145 [l0, l1, l2, l3] [s0, s1, s2, s3, s4] M S = go r 179 1146 [l0, l1, l2, l3] [aI 2, s0, s1, s2, s3, s4] M S := go_nx rfl rfl
set_option maxRecDepth 20000 in
theorem g179_1146 (r : Nat) (l0 l1 l2 l3 : Option AV) (s0 s1 s2 s3 : AV) (x y : Int) (M : Mem) (S : Sh) : go r 179 1146 [l0, l1, l2, l3] [aI y, aI x, s0, s1, s2, s3] M S = go r 179 1147 [l0, l1, l2, l3] [aI (w32 (x + y)), s0, s1, s2, s3] M S := go_nx rfl rfl
set_option maxRecDepth 20000 in
theorem g179_1147 (r : Nat) (l0 l1 l2 l3 : Option AV) (s0 s1 s2 : AV) (x : Int) (a : Nat) (M : Mem) (S : Sh) (h : S.1 a = 7) (h0 : 0 ≤ x) (h1 : x < S.2.1 a) : go r 179 1147 [l0, l1, l2, l3] [aI x, aR a, s0, s1, s2] M S = go r 179 1148 [l0, l1, l2, l3] [aI (M a x.toNat), s0, s1, s2] M S := go_bnd rfl ⟨h, h0, h1⟩ rfl
set_option maxRecDepth 20000 in
theorem g179_1148 (r : Nat) (l0 l1 l2 l3 : Option AV) (s0 : AV) (x1 x2 : Int) (a0 : Nat) (M : Mem) (S : Sh) (hk : 18 < r) (h : S.1 a0 = 6) : go r 179 1148 [l0, l1, l2, l3] [aI x2, aI x1, aR a0, s0] M S = cont r 179 1151 [l0, l1, l2, l3] [s0] 1 (res 166 [aR a0, aI x1, aI x2] M S) := go_cr0 (m' := 166) (n := 3) (pc' := 1151) (hr := 1) rfl rfl rfl h rfl rfl rfl rfl hk rfl
set_option maxRecDepth 20000 in
theorem g179_1151 (r : Nat) (l0 l1 l2 l3 : Option AV) (x y : Int) (M : Mem) (S : Sh) : go r 179 1151 [l0, l1, l2, l3] [aI y, aI x] M S = if x = y then go r 179 1514 [l0, l1, l2, l3] [] M S else go r 179 1154 [l0, l1, l2, l3] [] M S := go_br rfl rfl rfl rfl rfl
set_option maxRecDepth 20000 in
theorem g179_1154 (r : Nat) (l0 l1 l2 l3 : Option AV) (M : Mem) (S : Sh) : go r 179 1154 [l0, l1, l2, l3] [] M S = go r 179 1155 [l0, l1, l2, l3] [aI 0] M S := go_nx rfl rfl
set_option maxRecDepth 20000 in
theorem g179_1155 (r : Nat) (l0 l1 l2 l3 : Option AV) (x : Int) (M : Mem) (S : Sh) (h : x = 0 ∨ x = 1) : go r 179 1155 [l0, l1, l2, l3] [aI x] M S = some (some (aI x), M, S) := go_rt rfl (bnd_t (Or.inr h))
set_option maxRecDepth 20000 in
theorem g179_1156 (r : Nat) (l0 l2 l3 : Option AV) (a : Nat) (M : Mem) (S : Sh) : go r 179 1156 [l0, some (aR a), l2, l3] [] M S = go r 179 1157 [l0, some (aR a), l2, l3] [aR a] M S := go_nx rfl rfl
set_option maxRecDepth 20000 in
theorem g179_1156n (r : Nat) (l0 l2 l3 : Option AV) (M : Mem) (S : Sh) : go r 179 1156 [l0, some aN, l2, l3] [] M S = go r 179 1157 [l0, some aN, l2, l3] [aN] M S := go_nx rfl rfl
set_option maxRecDepth 20000 in
theorem g179_1157 (r : Nat) (l1 l2 l3 : Option AV) (s0 : AV) (a : Nat) (M : Mem) (S : Sh) : go r 179 1157 [some (aR a), l1, l2, l3] [s0] M S = go r 179 1158 [some (aR a), l1, l2, l3] [aR a, s0] M S := go_nx rfl rfl
set_option maxRecDepth 20000 in
theorem g179_1157n (r : Nat) (l1 l2 l3 : Option AV) (s0 : AV) (M : Mem) (S : Sh) : go r 179 1157 [some aN, l1, l2, l3] [s0] M S = go r 179 1158 [some aN, l1, l2, l3] [aN, s0] M S := go_nx rfl rfl
set_option maxRecDepth 20000 in
theorem g179_1158 (r : Nat) (l0 l1 l2 : Option AV) (s0 s1 : AV) (x : Int) (M : Mem) (S : Sh) : go r 179 1158 [l0, l1, l2, some (aI x)] [s0, s1] M S = go r 179 1159 [l0, l1, l2, some (aI x)] [aI x, s0, s1] M S := go_nx rfl rfl
set_option maxRecDepth 20000 in
theorem g179_1159 (r : Nat) (l0 l1 l2 l3 : Option AV) (s0 s1 s2 : AV) (M : Mem) (S : Sh) : go r 179 1159 [l0, l1, l2, l3] [s0, s1, s2] M S = go r 179 1160 [l0, l1, l2, l3] [aI 1, s0, s1, s2] M S := go_nx rfl rfl
set_option maxRecDepth 20000 in
theorem g179_1160 (r : Nat) (l0 l1 l2 l3 : Option AV) (s0 s1 : AV) (x y : Int) (M : Mem) (S : Sh) : go r 179 1160 [l0, l1, l2, l3] [aI y, aI x, s0, s1] M S = go r 179 1161 [l0, l1, l2, l3] [aI (w32 (x + y)), s0, s1] M S := go_nx rfl rfl
set_option maxRecDepth 20000 in
theorem g179_1161 (r : Nat) (l0 l1 l2 l3 : Option AV) (s0 : AV) (x : Int) (a : Nat) (M : Mem) (S : Sh) (h : S.1 a = 7) (h0 : 0 ≤ x) (h1 : x < S.2.1 a) : go r 179 1161 [l0, l1, l2, l3] [aI x, aR a, s0] M S = go r 179 1162 [l0, l1, l2, l3] [aI (M a x.toNat), s0] M S := go_bnd rfl ⟨h, h0, h1⟩ rfl
set_option maxRecDepth 20000 in
theorem g179_1162 (r : Nat) (l1 l2 l3 : Option AV) (s0 s1 : AV) (a : Nat) (M : Mem) (S : Sh) : go r 179 1162 [some (aR a), l1, l2, l3] [s0, s1] M S = go r 179 1163 [some (aR a), l1, l2, l3] [aR a, s0, s1] M S := go_nx rfl rfl
set_option maxRecDepth 20000 in
theorem g179_1162n (r : Nat) (l1 l2 l3 : Option AV) (s0 s1 : AV) (M : Mem) (S : Sh) : go r 179 1162 [some aN, l1, l2, l3] [s0, s1] M S = go r 179 1163 [some aN, l1, l2, l3] [aN, s0, s1] M S := go_nx rfl rfl
set_option maxRecDepth 20000 in
theorem g179_1163 (r : Nat) (l0 l1 l2 : Option AV) (s0 s1 s2 : AV) (x : Int) (M : Mem) (S : Sh) : go r 179 1163 [l0, l1, l2, some (aI x)] [s0, s1, s2] M S = go r 179 1164 [l0, l1, l2, some (aI x)] [aI x, s0, s1, s2] M S := go_nx rfl rfl
set_option maxRecDepth 20000 in
theorem g179_1164 (r : Nat) (l0 l1 l2 l3 : Option AV) (s0 s1 s2 s3 : AV) (M : Mem) (S : Sh) : go r 179 1164 [l0, l1, l2, l3] [s0, s1, s2, s3] M S = go r 179 1165 [l0, l1, l2, l3] [aI 2, s0, s1, s2, s3] M S := go_nx rfl rfl
set_option maxRecDepth 20000 in
theorem g179_1165 (r : Nat) (l0 l1 l2 l3 : Option AV) (s0 s1 s2 : AV) (x y : Int) (M : Mem) (S : Sh) : go r 179 1165 [l0, l1, l2, l3] [aI y, aI x, s0, s1, s2] M S = go r 179 1166 [l0, l1, l2, l3] [aI (w32 (x + y)), s0, s1, s2] M S := go_nx rfl rfl
set_option maxRecDepth 20000 in
theorem g179_1166 (r : Nat) (l0 l1 l2 l3 : Option AV) (s0 s1 : AV) (x : Int) (a : Nat) (M : Mem) (S : Sh) (h : S.1 a = 7) (h0 : 0 ≤ x) (h1 : x < S.2.1 a) : go r 179 1166 [l0, l1, l2, l3] [aI x, aR a, s0, s1] M S = go r 179 1167 [l0, l1, l2, l3] [aI (M a x.toNat), s0, s1] M S := go_bnd rfl ⟨h, h0, h1⟩ rfl
set_option maxRecDepth 20000 in
theorem g179_1167 (r : Nat) (l0 l1 l2 l3 : Option AV) (x1 x2 : Int) (a0 : Nat) (M : Mem) (S : Sh) (hk : 16 < r) (h : S.1 a0 = 5) : go r 179 1167 [l0, l1, l2, l3] [aI x2, aI x1, aR a0] M S = cont r 179 1170 [l0, l1, l2, l3] [] 1 (res 75 [aR a0, aI x1, aI x2] M S) := go_cr0 (m' := 75) (n := 3) (pc' := 1170) (hr := 1) rfl rfl rfl h rfl rfl rfl rfl hk rfl
set_option maxRecDepth 20000 in
theorem g179_1170 (r : Nat) (l0 l1 l3 : Option AV) (s0 : AV) (a : Nat) (M : Mem) (S : Sh) : go r 179 1170 [l0, l1, some (aR a), l3] [s0] M S = go r 179 1171 [l0, l1, some (aR a), l3] [aR a, s0] M S := go_nx rfl rfl
set_option maxRecDepth 20000 in
theorem g179_1170n (r : Nat) (l0 l1 l3 : Option AV) (s0 : AV) (M : Mem) (S : Sh) : go r 179 1170 [l0, l1, some aN, l3] [s0] M S = go r 179 1171 [l0, l1, some aN, l3] [aN, s0] M S := go_nx rfl rfl
set_option maxRecDepth 20000 in
theorem g179_1171 (r : Nat) (l1 l2 l3 : Option AV) (s0 s1 : AV) (a : Nat) (M : Mem) (S : Sh) : go r 179 1171 [some (aR a), l1, l2, l3] [s0, s1] M S = go r 179 1172 [some (aR a), l1, l2, l3] [aR a, s0, s1] M S := go_nx rfl rfl
set_option maxRecDepth 20000 in
theorem g179_1171n (r : Nat) (l1 l2 l3 : Option AV) (s0 s1 : AV) (M : Mem) (S : Sh) : go r 179 1171 [some aN, l1, l2, l3] [s0, s1] M S = go r 179 1172 [some aN, l1, l2, l3] [aN, s0, s1] M S := go_nx rfl rfl
set_option maxRecDepth 20000 in
theorem g179_1172 (r : Nat) (l0 l1 l2 : Option AV) (s0 s1 s2 : AV) (x : Int) (M : Mem) (S : Sh) : go r 179 1172 [l0, l1, l2, some (aI x)] [s0, s1, s2] M S = go r 179 1173 [l0, l1, l2, some (aI x)] [aI x, s0, s1, s2] M S := go_nx rfl rfl
set_option maxRecDepth 20000 in
theorem g179_1173 (r : Nat) (l0 l1 l2 l3 : Option AV) (s0 s1 s2 s3 : AV) (M : Mem) (S : Sh) : go r 179 1173 [l0, l1, l2, l3] [s0, s1, s2, s3] M S = go r 179 1174 [l0, l1, l2, l3] [aI 1, s0, s1, s2, s3] M S := go_nx rfl rfl
set_option maxRecDepth 20000 in
theorem g179_1174 (r : Nat) (l0 l1 l2 l3 : Option AV) (s0 s1 s2 : AV) (x y : Int) (M : Mem) (S : Sh) : go r 179 1174 [l0, l1, l2, l3] [aI y, aI x, s0, s1, s2] M S = go r 179 1175 [l0, l1, l2, l3] [aI (w32 (x + y)), s0, s1, s2] M S := go_nx rfl rfl
set_option maxRecDepth 20000 in
theorem g179_1175 (r : Nat) (l0 l1 l2 l3 : Option AV) (s0 s1 : AV) (x : Int) (a : Nat) (M : Mem) (S : Sh) (h : S.1 a = 7) (h0 : 0 ≤ x) (h1 : x < S.2.1 a) : go r 179 1175 [l0, l1, l2, l3] [aI x, aR a, s0, s1] M S = go r 179 1176 [l0, l1, l2, l3] [aI (M a x.toNat), s0, s1] M S := go_bnd rfl ⟨h, h0, h1⟩ rfl
set_option maxRecDepth 20000 in
theorem g179_1176 (r : Nat) (l1 l2 l3 : Option AV) (s0 s1 s2 : AV) (a : Nat) (M : Mem) (S : Sh) : go r 179 1176 [some (aR a), l1, l2, l3] [s0, s1, s2] M S = go r 179 1177 [some (aR a), l1, l2, l3] [aR a, s0, s1, s2] M S := go_nx rfl rfl
set_option maxRecDepth 20000 in
theorem g179_1176n (r : Nat) (l1 l2 l3 : Option AV) (s0 s1 s2 : AV) (M : Mem) (S : Sh) : go r 179 1176 [some aN, l1, l2, l3] [s0, s1, s2] M S = go r 179 1177 [some aN, l1, l2, l3] [aN, s0, s1, s2] M S := go_nx rfl rfl
set_option maxRecDepth 20000 in
theorem g179_1177 (r : Nat) (l0 l1 l2 : Option AV) (s0 s1 s2 s3 : AV) (x : Int) (M : Mem) (S : Sh) : go r 179 1177 [l0, l1, l2, some (aI x)] [s0, s1, s2, s3] M S = go r 179 1178 [l0, l1, l2, some (aI x)] [aI x, s0, s1, s2, s3] M S := go_nx rfl rfl
set_option maxRecDepth 20000 in
theorem g179_1178 (r : Nat) (l0 l1 l2 l3 : Option AV) (s0 s1 s2 s3 s4 : AV) (M : Mem) (S : Sh) : go r 179 1178 [l0, l1, l2, l3] [s0, s1, s2, s3, s4] M S = go r 179 1179 [l0, l1, l2, l3] [aI 2, s0, s1, s2, s3, s4] M S := go_nx rfl rfl
set_option maxRecDepth 20000 in
theorem g179_1179 (r : Nat) (l0 l1 l2 l3 : Option AV) (s0 s1 s2 s3 : AV) (x y : Int) (M : Mem) (S : Sh) : go r 179 1179 [l0, l1, l2, l3] [aI y, aI x, s0, s1, s2, s3] M S = go r 179 1180 [l0, l1, l2, l3] [aI (w32 (x + y)), s0, s1, s2, s3] M S := go_nx rfl rfl
set_option maxRecDepth 20000 in
theorem g179_1180 (r : Nat) (l0 l1 l2 l3 : Option AV) (s0 s1 s2 : AV) (x : Int) (a : Nat) (M : Mem) (S : Sh) (h : S.1 a = 7) (h0 : 0 ≤ x) (h1 : x < S.2.1 a) : go r 179 1180 [l0, l1, l2, l3] [aI x, aR a, s0, s1, s2] M S = go r 179 1181 [l0, l1, l2, l3] [aI (M a x.toNat), s0, s1, s2] M S := go_bnd rfl ⟨h, h0, h1⟩ rfl
set_option maxRecDepth 20000 in
theorem g179_1181 (r : Nat) (l0 l1 l2 l3 : Option AV) (s0 : AV) (x1 x2 : Int) (a0 : Nat) (M : Mem) (S : Sh) (hk : 19 < r) (h : S.1 a0 = 6) : go r 179 1181 [l0, l1, l2, l3] [aI x2, aI x1, aR a0, s0] M S = cont r 179 1184 [l0, l1, l2, l3] [s0] 1 (res 168 [aR a0, aI x1, aI x2] M S) := go_cr0 (m' := 168) (n := 3) (pc' := 1184) (hr := 1) rfl rfl rfl h rfl rfl rfl rfl hk rfl
set_option maxRecDepth 20000 in
theorem g179_1184 (r : Nat) (l0 l1 l2 l3 : Option AV) (x y : Int) (M : Mem) (S : Sh) : go r 179 1184 [l0, l1, l2, l3] [aI y, aI x] M S = if x = y then go r 179 1514 [l0, l1, l2, l3] [] M S else go r 179 1187 [l0, l1, l2, l3] [] M S := go_br rfl rfl rfl rfl rfl
set_option maxRecDepth 20000 in
theorem g179_1187 (r : Nat) (l0 l1 l2 l3 : Option AV) (M : Mem) (S : Sh) : go r 179 1187 [l0, l1, l2, l3] [] M S = go r 179 1188 [l0, l1, l2, l3] [aI 0] M S := go_nx rfl rfl
set_option maxRecDepth 20000 in
theorem g179_1188 (r : Nat) (l0 l1 l2 l3 : Option AV) (x : Int) (M : Mem) (S : Sh) (h : x = 0 ∨ x = 1) : go r 179 1188 [l0, l1, l2, l3] [aI x] M S = some (some (aI x), M, S) := go_rt rfl (bnd_t (Or.inr h))
set_option maxRecDepth 20000 in
theorem g179_1189 (r : Nat) (l0 l2 l3 : Option AV) (a : Nat) (M : Mem) (S : Sh) : go r 179 1189 [l0, some (aR a), l2, l3] [] M S = go r 179 1190 [l0, some (aR a), l2, l3] [aR a] M S := go_nx rfl rfl
set_option maxRecDepth 20000 in
theorem g179_1189n (r : Nat) (l0 l2 l3 : Option AV) (M : Mem) (S : Sh) : go r 179 1189 [l0, some aN, l2, l3] [] M S = go r 179 1190 [l0, some aN, l2, l3] [aN] M S := go_nx rfl rfl
set_option maxRecDepth 20000 in
theorem g179_1190 (r : Nat) (l1 l2 l3 : Option AV) (s0 : AV) (a : Nat) (M : Mem) (S : Sh) : go r 179 1190 [some (aR a), l1, l2, l3] [s0] M S = go r 179 1191 [some (aR a), l1, l2, l3] [aR a, s0] M S := go_nx rfl rfl
set_option maxRecDepth 20000 in
theorem g179_1190n (r : Nat) (l1 l2 l3 : Option AV) (s0 : AV) (M : Mem) (S : Sh) : go r 179 1190 [some aN, l1, l2, l3] [s0] M S = go r 179 1191 [some aN, l1, l2, l3] [aN, s0] M S := go_nx rfl rfl
set_option maxRecDepth 20000 in
theorem g179_1191 (r : Nat) (l0 l1 l2 : Option AV) (s0 s1 : AV) (x : Int) (M : Mem) (S : Sh) : go r 179 1191 [l0, l1, l2, some (aI x)] [s0, s1] M S = go r 179 1192 [l0, l1, l2, some (aI x)] [aI x, s0, s1] M S := go_nx rfl rfl
set_option maxRecDepth 20000 in
theorem g179_1192 (r : Nat) (l0 l1 l2 l3 : Option AV) (s0 s1 s2 : AV) (M : Mem) (S : Sh) : go r 179 1192 [l0, l1, l2, l3] [s0, s1, s2] M S = go r 179 1193 [l0, l1, l2, l3] [aI 1, s0, s1, s2] M S := go_nx rfl rfl
set_option maxRecDepth 20000 in
theorem g179_1193 (r : Nat) (l0 l1 l2 l3 : Option AV) (s0 s1 : AV) (x y : Int) (M : Mem) (S : Sh) : go r 179 1193 [l0, l1, l2, l3] [aI y, aI x, s0, s1] M S = go r 179 1194 [l0, l1, l2, l3] [aI (w32 (x + y)), s0, s1] M S := go_nx rfl rfl
set_option maxRecDepth 20000 in
theorem g179_1194 (r : Nat) (l0 l1 l2 l3 : Option AV) (s0 : AV) (x : Int) (a : Nat) (M : Mem) (S : Sh) (h : S.1 a = 7) (h0 : 0 ≤ x) (h1 : x < S.2.1 a) : go r 179 1194 [l0, l1, l2, l3] [aI x, aR a, s0] M S = go r 179 1195 [l0, l1, l2, l3] [aI (M a x.toNat), s0] M S := go_bnd rfl ⟨h, h0, h1⟩ rfl
set_option maxRecDepth 20000 in
theorem g179_1195 (r : Nat) (l1 l2 l3 : Option AV) (s0 s1 : AV) (a : Nat) (M : Mem) (S : Sh) : go r 179 1195 [some (aR a), l1, l2, l3] [s0, s1] M S = go r 179 1196 [some (aR a), l1, l2, l3] [aR a, s0, s1] M S := go_nx rfl rfl
set_option maxRecDepth 20000 in
theorem g179_1195n (r : Nat) (l1 l2 l3 : Option AV) (s0 s1 : AV) (M : Mem) (S : Sh) : go r 179 1195 [some aN, l1, l2, l3] [s0, s1] M S = go r 179 1196 [some aN, l1, l2, l3] [aN, s0, s1] M S := go_nx rfl rfl
set_option maxRecDepth 20000 in
theorem g179_1196 (r : Nat) (l0 l1 l2 : Option AV) (s0 s1 s2 : AV) (x : Int) (M : Mem) (S : Sh) : go r 179 1196 [l0, l1, l2, some (aI x)] [s0, s1, s2] M S = go r 179 1197 [l0, l1, l2, some (aI x)] [aI x, s0, s1, s2] M S := go_nx rfl rfl
set_option maxRecDepth 20000 in
theorem g179_1197 (r : Nat) (l0 l1 l2 l3 : Option AV) (s0 s1 s2 s3 : AV) (M : Mem) (S : Sh) : go r 179 1197 [l0, l1, l2, l3] [s0, s1, s2, s3] M S = go r 179 1198 [l0, l1, l2, l3] [aI 2, s0, s1, s2, s3] M S := go_nx rfl rfl
set_option maxRecDepth 20000 in
theorem g179_1198 (r : Nat) (l0 l1 l2 l3 : Option AV) (s0 s1 s2 : AV) (x y : Int) (M : Mem) (S : Sh) : go r 179 1198 [l0, l1, l2, l3] [aI y, aI x, s0, s1, s2] M S = go r 179 1199 [l0, l1, l2, l3] [aI (w32 (x + y)), s0, s1, s2] M S := go_nx rfl rfl
set_option maxRecDepth 20000 in
theorem g179_1199 (r : Nat) (l0 l1 l2 l3 : Option AV) (s0 s1 : AV) (x : Int) (a : Nat) (M : Mem) (S : Sh) (h : S.1 a = 7) (h0 : 0 ≤ x) (h1 : x < S.2.1 a) : go r 179 1199 [l0, l1, l2, l3] [aI x, aR a, s0, s1] M S = go r 179 1200 [l0, l1, l2, l3] [aI (M a x.toNat), s0, s1] M S := go_bnd rfl ⟨h, h0, h1⟩ rfl
set_option maxRecDepth 20000 in
theorem g179_1200 (r : Nat) (l1 l2 l3 : Option AV) (s0 s1 s2 : AV) (a : Nat) (M : Mem) (S : Sh) : go r 179 1200 [some (aR a), l1, l2, l3] [s0, s1, s2] M S = go r 179 1201 [some (aR a), l1, l2, l3] [aR a, s0, s1, s2] M S := go_nx rfl rfl
set_option maxRecDepth 20000 in
theorem g179_1200n (r : Nat) (l1 l2 l3 : Option AV) (s0 s1 s2 : AV) (M : Mem) (S : Sh) : go r 179 1200 [some aN, l1, l2, l3] [s0, s1, s2] M S = go r 179 1201 [some aN, l1, l2, l3] [aN, s0, s1, s2] M S := go_nx rfl rfl
set_option maxRecDepth 20000 in
theorem g179_1201 (r : Nat) (l0 l1 l2 : Option AV) (s0 s1 s2 s3 : AV) (x : Int) (M : Mem) (S : Sh) : go r 179 1201 [l0, l1, l2, some (aI x)] [s0, s1, s2, s3] M S = go r 179 1202 [l0, l1, l2, some (aI x)] [aI x, s0, s1, s2, s3] M S := go_nx rfl rfl
set_option maxRecDepth 20000 in
theorem g179_1202 (r : Nat) (l0 l1 l2 l3 : Option AV) (s0 s1 s2 s3 s4 : AV) (M : Mem) (S : Sh) : go r 179 1202 [l0, l1, l2, l3] [s0, s1, s2, s3, s4] M S = go r 179 1203 [l0, l1, l2, l3] [aI 3, s0, s1, s2, s3, s4] M S := go_nx rfl rfl
set_option maxRecDepth 20000 in
theorem g179_1203 (r : Nat) (l0 l1 l2 l3 : Option AV) (s0 s1 s2 s3 : AV) (x y : Int) (M : Mem) (S : Sh) : go r 179 1203 [l0, l1, l2, l3] [aI y, aI x, s0, s1, s2, s3] M S = go r 179 1204 [l0, l1, l2, l3] [aI (w32 (x + y)), s0, s1, s2, s3] M S := go_nx rfl rfl
set_option maxRecDepth 20000 in
theorem g179_1204 (r : Nat) (l0 l1 l2 l3 : Option AV) (s0 s1 s2 : AV) (x : Int) (a : Nat) (M : Mem) (S : Sh) (h : S.1 a = 7) (h0 : 0 ≤ x) (h1 : x < S.2.1 a) : go r 179 1204 [l0, l1, l2, l3] [aI x, aR a, s0, s1, s2] M S = go r 179 1205 [l0, l1, l2, l3] [aI (M a x.toNat), s0, s1, s2] M S := go_bnd rfl ⟨h, h0, h1⟩ rfl
set_option maxRecDepth 20000 in
theorem g179_1205 (r : Nat) (l1 l2 l3 : Option AV) (s0 s1 s2 s3 : AV) (a : Nat) (M : Mem) (S : Sh) : go r 179 1205 [some (aR a), l1, l2, l3] [s0, s1, s2, s3] M S = go r 179 1206 [some (aR a), l1, l2, l3] [aR a, s0, s1, s2, s3] M S := go_nx rfl rfl
set_option maxRecDepth 20000 in
theorem g179_1205n (r : Nat) (l1 l2 l3 : Option AV) (s0 s1 s2 s3 : AV) (M : Mem) (S : Sh) : go r 179 1205 [some aN, l1, l2, l3] [s0, s1, s2, s3] M S = go r 179 1206 [some aN, l1, l2, l3] [aN, s0, s1, s2, s3] M S := go_nx rfl rfl
set_option maxRecDepth 20000 in
theorem g179_1206 (r : Nat) (l0 l1 l2 : Option AV) (s0 s1 s2 s3 s4 : AV) (x : Int) (M : Mem) (S : Sh) : go r 179 1206 [l0, l1, l2, some (aI x)] [s0, s1, s2, s3, s4] M S = go r 179 1207 [l0, l1, l2, some (aI x)] [aI x, s0, s1, s2, s3, s4] M S := go_nx rfl rfl
set_option maxRecDepth 20000 in
theorem g179_1207 (r : Nat) (l0 l1 l2 l3 : Option AV) (s0 s1 s2 s3 s4 s5 : AV) (M : Mem) (S : Sh) : go r 179 1207 [l0, l1, l2, l3] [s0, s1, s2, s3, s4, s5] M S = go r 179 1208 [l0, l1, l2, l3] [aI 4, s0, s1, s2, s3, s4, s5] M S := go_nx rfl rfl
set_option maxRecDepth 20000 in
theorem g179_1208 (r : Nat) (l0 l1 l2 l3 : Option AV) (s0 s1 s2 s3 s4 : AV) (x y : Int) (M : Mem) (S : Sh) : go r 179 1208 [l0, l1, l2, l3] [aI y, aI x, s0, s1, s2, s3, s4] M S = go r 179 1209 [l0, l1, l2, l3] [aI (w32 (x + y)), s0, s1, s2, s3, s4] M S := go_nx rfl rfl
set_option maxRecDepth 20000 in
theorem g179_1209 (r : Nat) (l0 l1 l2 l3 : Option AV) (s0 s1 s2 s3 : AV) (x : Int) (a : Nat) (M : Mem) (S : Sh) (h : S.1 a = 7) (h0 : 0 ≤ x) (h1 : x < S.2.1 a) : go r 179 1209 [l0, l1, l2, l3] [aI x, aR a, s0, s1, s2, s3] M S = go r 179 1210 [l0, l1, l2, l3] [aI (M a x.toNat), s0, s1, s2, s3] M S := go_bnd rfl ⟨h, h0, h1⟩ rfl
set_option maxRecDepth 20000 in
theorem g179_1210 (r : Nat) (l1 l2 l3 : Option AV) (s0 s1 s2 s3 s4 : AV) (a : Nat) (M : Mem) (S : Sh) : go r 179 1210 [some (aR a), l1, l2, l3] [s0, s1, s2, s3, s4] M S = go r 179 1211 [some (aR a), l1, l2, l3] [aR a, s0, s1, s2, s3, s4] M S := go_nx rfl rfl
set_option maxRecDepth 20000 in
theorem g179_1210n (r : Nat) (l1 l2 l3 : Option AV) (s0 s1 s2 s3 s4 : AV) (M : Mem) (S : Sh) : go r 179 1210 [some aN, l1, l2, l3] [s0, s1, s2, s3, s4] M S = go r 179 1211 [some aN, l1, l2, l3] [aN, s0, s1, s2, s3, s4] M S := go_nx rfl rfl
set_option maxRecDepth 20000 in
theorem g179_1211 (r : Nat) (l0 l1 l2 : Option AV) (s0 s1 s2 s3 s4 s5 : AV) (x : Int) (M : Mem) (S : Sh) : go r 179 1211 [l0, l1, l2, some (aI x)] [s0, s1, s2, s3, s4, s5] M S = go r 179 1212 [l0, l1, l2, some (aI x)] [aI x, s0, s1, s2, s3, s4, s5] M S := go_nx rfl rfl
set_option maxRecDepth 20000 in
theorem g179_1212 (r : Nat) (l0 l1 l2 l3 : Option AV) (s0 s1 s2 s3 s4 s5 s6 : AV) (M : Mem) (S : Sh) : go r 179 1212 [l0, l1, l2, l3] [s0, s1, s2, s3, s4, s5, s6] M S = go r 179 1213 [l0, l1, l2, l3] [aI 5, s0, s1, s2, s3, s4, s5, s6] M S := go_nx rfl rfl
set_option maxRecDepth 20000 in
theorem g179_1213 (r : Nat) (l0 l1 l2 l3 : Option AV) (s0 s1 s2 s3 s4 s5 : AV) (x y : Int) (M : Mem) (S : Sh) : go r 179 1213 [l0, l1, l2, l3] [aI y, aI x, s0, s1, s2, s3, s4, s5] M S = go r 179 1214 [l0, l1, l2, l3] [aI (w32 (x + y)), s0, s1, s2, s3, s4, s5] M S := go_nx rfl rfl
set_option maxRecDepth 20000 in
theorem g179_1214 (r : Nat) (l0 l1 l2 l3 : Option AV) (s0 s1 s2 s3 s4 : AV) (x : Int) (a : Nat) (M : Mem) (S : Sh) (h : S.1 a = 7) (h0 : 0 ≤ x) (h1 : x < S.2.1 a) : go r 179 1214 [l0, l1, l2, l3] [aI x, aR a, s0, s1, s2, s3, s4] M S = go r 179 1215 [l0, l1, l2, l3] [aI (M a x.toNat), s0, s1, s2, s3, s4] M S := go_bnd rfl ⟨h, h0, h1⟩ rfl
set_option maxRecDepth 20000 in
theorem g179_1215 (r : Nat) (l0 l1 l2 l3 : Option AV) (x1 x2 x3 x4 x5 : Int) (a0 : Nat) (M : Mem) (S : Sh) (hk : 16 < r) (h : S.1 a0 = 5) : go r 179 1215 [l0, l1, l2, l3] [aI x5, aI x4, aI x3, aI x2, aI x1, aR a0] M S = cont r 179 1218 [l0, l1, l2, l3] [] 1 (res 76 [aR a0, aI x1, aI x2, aI x3, aI x4, aI x5] M S) := go_cr0 (m' := 76) (n := 6) (pc' := 1218) (hr := 1) rfl rfl rfl h rfl rfl rfl rfl hk rfl
set_option maxRecDepth 20000 in
theorem g179_1218 (r : Nat) (l0 l1 l3 : Option AV) (s0 : AV) (a : Nat) (M : Mem) (S : Sh) : go r 179 1218 [l0, l1, some (aR a), l3] [s0] M S = go r 179 1219 [l0, l1, some (aR a), l3] [aR a, s0] M S := go_nx rfl rfl
set_option maxRecDepth 20000 in
theorem g179_1218n (r : Nat) (l0 l1 l3 : Option AV) (s0 : AV) (M : Mem) (S : Sh) : go r 179 1218 [l0, l1, some aN, l3] [s0] M S = go r 179 1219 [l0, l1, some aN, l3] [aN, s0] M S := go_nx rfl rfl
set_option maxRecDepth 20000 in
theorem g179_1219 (r : Nat) (l1 l2 l3 : Option AV) (s0 s1 : AV) (a : Nat) (M : Mem) (S : Sh) : go r 179 1219 [some (aR a), l1, l2, l3] [s0, s1] M S = go r 179 1220 [some (aR a), l1, l2, l3] [aR a, s0, s1] M S := go_nx rfl rfl
set_option maxRecDepth 20000 in
theorem g179_1219n (r : Nat) (l1 l2 l3 : Option AV) (s0 s1 : AV) (M : Mem) (S : Sh) : go r 179 1219 [some aN, l1, l2, l3] [s0, s1] M S = go r 179 1220 [some aN, l1, l2, l3] [aN, s0, s1] M S := go_nx rfl rfl
set_option maxRecDepth 20000 in
theorem g179_1220 (r : Nat) (l0 l1 l2 : Option AV) (s0 s1 s2 : AV) (x : Int) (M : Mem) (S : Sh) : go r 179 1220 [l0, l1, l2, some (aI x)] [s0, s1, s2] M S = go r 179 1221 [l0, l1, l2, some (aI x)] [aI x, s0, s1, s2] M S := go_nx rfl rfl
set_option maxRecDepth 20000 in
theorem g179_1221 (r : Nat) (l0 l1 l2 l3 : Option AV) (s0 s1 s2 s3 : AV) (M : Mem) (S : Sh) : go r 179 1221 [l0, l1, l2, l3] [s0, s1, s2, s3] M S = go r 179 1222 [l0, l1, l2, l3] [aI 1, s0, s1, s2, s3] M S := go_nx rfl rfl
set_option maxRecDepth 20000 in
theorem g179_1222 (r : Nat) (l0 l1 l2 l3 : Option AV) (s0 s1 s2 : AV) (x y : Int) (M : Mem) (S : Sh) : go r 179 1222 [l0, l1, l2, l3] [aI y, aI x, s0, s1, s2] M S = go r 179 1223 [l0, l1, l2, l3] [aI (w32 (x + y)), s0, s1, s2] M S := go_nx rfl rfl
set_option maxRecDepth 20000 in
theorem g179_1223 (r : Nat) (l0 l1 l2 l3 : Option AV) (s0 s1 : AV) (x : Int) (a : Nat) (M : Mem) (S : Sh) (h : S.1 a = 7) (h0 : 0 ≤ x) (h1 : x < S.2.1 a) : go r 179 1223 [l0, l1, l2, l3] [aI x, aR a, s0, s1] M S = go r 179 1224 [l0, l1, l2, l3] [aI (M a x.toNat), s0, s1] M S := go_bnd rfl ⟨h, h0, h1⟩ rfl
set_option maxRecDepth 20000 in
theorem g179_1224 (r : Nat) (l1 l2 l3 : Option AV) (s0 s1 s2 : AV) (a : Nat) (M : Mem) (S : Sh) : go r 179 1224 [some (aR a), l1, l2, l3] [s0, s1, s2] M S = go r 179 1225 [some (aR a), l1, l2, l3] [aR a, s0, s1, s2] M S := go_nx rfl rfl
set_option maxRecDepth 20000 in
theorem g179_1224n (r : Nat) (l1 l2 l3 : Option AV) (s0 s1 s2 : AV) (M : Mem) (S : Sh) : go r 179 1224 [some aN, l1, l2, l3] [s0, s1, s2] M S = go r 179 1225 [some aN, l1, l2, l3] [aN, s0, s1, s2] M S := go_nx rfl rfl
set_option maxRecDepth 20000 in
theorem g179_1225 (r : Nat) (l0 l1 l2 : Option AV) (s0 s1 s2 s3 : AV) (x : Int) (M : Mem) (S : Sh) : go r 179 1225 [l0, l1, l2, some (aI x)] [s0, s1, s2, s3] M S = go r 179 1226 [l0, l1, l2, some (aI x)] [aI x, s0, s1, s2, s3] M S := go_nx rfl rfl
set_option maxRecDepth 20000 in
theorem g179_1226 (r : Nat) (l0 l1 l2 l3 : Option AV) (s0 s1 s2 s3 s4 : AV) (M : Mem) (S : Sh) : go r 179 1226 [l0, l1, l2, l3] [s0, s1, s2, s3, s4] M S = go r 179 1227 [l0, l1, l2, l3] [aI 2, s0, s1, s2, s3, s4] M S := go_nx rfl rfl
set_option maxRecDepth 20000 in
theorem g179_1227 (r : Nat) (l0 l1 l2 l3 : Option AV) (s0 s1 s2 s3 : AV) (x y : Int) (M : Mem) (S : Sh) : go r 179 1227 [l0, l1, l2, l3] [aI y, aI x, s0, s1, s2, s3] M S = go r 179 1228 [l0, l1, l2, l3] [aI (w32 (x + y)), s0, s1, s2, s3] M S := go_nx rfl rfl
set_option maxRecDepth 20000 in
theorem g179_1228 (r : Nat) (l0 l1 l2 l3 : Option AV) (s0 s1 s2 : AV) (x : Int) (a : Nat) (M : Mem) (S : Sh) (h : S.1 a = 7) (h0 : 0 ≤ x) (h1 : x < S.2.1 a) : go r 179 1228 [l0, l1, l2, l3] [aI x, aR a, s0, s1, s2] M S = go r 179 1229 [l0, l1, l2, l3] [aI (M a x.toNat), s0, s1, s2] M S := go_bnd rfl ⟨h, h0, h1⟩ rfl
set_option maxRecDepth 20000 in
theorem g179_1229 (r : Nat) (l1 l2 l3 : Option AV) (s0 s1 s2 s3 : AV) (a : Nat) (M : Mem) (S : Sh) : go r 179 1229 [some (aR a), l1, l2, l3] [s0, s1, s2, s3] M S = go r 179 1230 [some (aR a), l1, l2, l3] [aR a, s0, s1, s2, s3] M S := go_nx rfl rfl
set_option maxRecDepth 20000 in
theorem g179_1229n (r : Nat) (l1 l2 l3 : Option AV) (s0 s1 s2 s3 : AV) (M : Mem) (S : Sh) : go r 179 1229 [some aN, l1, l2, l3] [s0, s1, s2, s3] M S = go r 179 1230 [some aN, l1, l2, l3] [aN, s0, s1, s2, s3] M S := go_nx rfl rfl
set_option maxRecDepth 20000 in
theorem g179_1230 (r : Nat) (l0 l1 l2 : Option AV) (s0 s1 s2 s3 s4 : AV) (x : Int) (M : Mem) (S : Sh) : go r 179 1230 [l0, l1, l2, some (aI x)] [s0, s1, s2, s3, s4] M S = go r 179 1231 [l0, l1, l2, some (aI x)] [aI x, s0, s1, s2, s3, s4] M S := go_nx rfl rfl
set_option maxRecDepth 20000 in
theorem g179_1231 (r : Nat) (l0 l1 l2 l3 : Option AV) (s0 s1 s2 s3 s4 s5 : AV) (M : Mem) (S : Sh) : go r 179 1231 [l0, l1, l2, l3] [s0, s1, s2, s3, s4, s5] M S = go r 179 1232 [l0, l1, l2, l3] [aI 3, s0, s1, s2, s3, s4, s5] M S := go_nx rfl rfl
set_option maxRecDepth 20000 in
theorem g179_1232 (r : Nat) (l0 l1 l2 l3 : Option AV) (s0 s1 s2 s3 s4 : AV) (x y : Int) (M : Mem) (S : Sh) : go r 179 1232 [l0, l1, l2, l3] [aI y, aI x, s0, s1, s2, s3, s4] M S = go r 179 1233 [l0, l1, l2, l3] [aI (w32 (x + y)), s0, s1, s2, s3, s4] M S := go_nx rfl rfl
set_option maxRecDepth 20000 in
theorem g179_1233 (r : Nat) (l0 l1 l2 l3 : Option AV) (s0 s1 s2 s3 : AV) (x : Int) (a : Nat) (M : Mem) (S : Sh) (h : S.1 a = 7) (h0 : 0 ≤ x) (h1 : x < S.2.1 a) : go r 179 1233 [l0, l1, l2, l3] [aI x, aR a, s0, s1, s2, s3] M S = go r 179 1234 [l0, l1, l2, l3] [aI (M a x.toNat), s0, s1, s2, s3] M S := go_bnd rfl ⟨h, h0, h1⟩ rfl
set_option maxRecDepth 20000 in
theorem g179_1234 (r : Nat) (l1 l2 l3 : Option AV) (s0 s1 s2 s3 s4 : AV) (a : Nat) (M : Mem) (S : Sh) : go r 179 1234 [some (aR a), l1, l2, l3] [s0, s1, s2, s3, s4] M S = go r 179 1235 [some (aR a), l1, l2, l3] [aR a, s0, s1, s2, s3, s4] M S := go_nx rfl rfl
set_option maxRecDepth 20000 in
theorem g179_1234n (r : Nat) (l1 l2 l3 : Option AV) (s0 s1 s2 s3 s4 : AV) (M : Mem) (S : Sh) : go r 179 1234 [some aN, l1, l2, l3] [s0, s1, s2, s3, s4] M S = go r 179 1235 [some aN, l1, l2, l3] [aN, s0, s1, s2, s3, s4] M S := go_nx rfl rfl
set_option maxRecDepth 20000 in
theorem g179_1235 (r : Nat) (l0 l1 l2 : Option AV) (s0 s1 s2 s3 s4 s5 : AV) (x : Int) (M : Mem) (S : Sh) : go r 179 1235 [l0, l1, l2, some (aI x)] [s0, s1, s2, s3, s4, s5] M S = go r 179 1236 [l0, l1, l2, some (aI x)] [aI x, s0, s1, s2, s3, s4, s5] M S := go_nx rfl rfl
set_option maxRecDepth 20000 in
theorem g179_1236 (r : Nat) (l0 l1 l2 l3 : Option AV) (s0 s1 s2 s3 s4 s5 s6 : AV) (M : Mem) (S : Sh) : go r 179 1236 [l0, l1, l2, l3] [s0, s1, s2, s3, s4, s5, s6] M S = go r 179 1237 [l0, l1, l2, l3] [aI 4, s0, s1, s2, s3, s4, s5, s6] M S := go_nx rfl rfl
set_option maxRecDepth 20000 in
theorem g179_1237 (r : Nat) (l0 l1 l2 l3 : Option AV) (s0 s1 s2 s3 s4 s5 : AV) (x y : Int) (M : Mem) (S : Sh) : go r 179 1237 [l0, l1, l2, l3] [aI y, aI x, s0, s1, s2, s3, s4, s5] M S = go r 179 1238 [l0, l1, l2, l3] [aI (w32 (x + y)), s0, s1, s2, s3, s4, s5] M S := go_nx rfl rfl
set_option maxRecDepth 20000 in
theorem g179_1238 (r : Nat) (l0 l1 l2 l3 : Option AV) (s0 s1 s2 s3 s4 : AV) (x : Int) (a : Nat) (M : Mem) (S : Sh) (h : S.1 a = 7) (h0 : 0 ≤ x) (h1 : x < S.2.1 a) : go r 179 1238 [l0, l1, l2, l3] [aI x, aR a, s0, s1, s2, s3, s4] M S = go r 179 1239 [l0, l1, l2, l3] [aI (M a x.toNat), s0, s1, s2, s3, s4] M S := go_bnd rfl ⟨h, h0, h1⟩ rfl
set_option maxRecDepth 20000 in
theorem g179_1239 (r : Nat) (l1 l2 l3 : Option AV) (s0 s1 s2 s3 s4 s5 : AV) (a : Nat) (M : Mem) (S : Sh) : go r 179 1239 [some (aR a), l1, l2, l3] [s0, s1, s2, s3, s4, s5] M S = go r 179 1240 [some (aR a), l1, l2, l3] [aR a, s0, s1, s2, s3, s4, s5] M S := go_nx rfl rfl
set_option maxRecDepth 20000 in
theorem g179_1239n (r : Nat) (l1 l2 l3 : Option AV) (s0 s1 s2 s3 s4 s5 : AV) (M : Mem) (S : Sh) : go r 179 1239 [some aN, l1, l2, l3] [s0, s1, s2, s3, s4, s5] M S = go r 179 1240 [some aN, l1, l2, l3] [aN, s0, s1, s2, s3, s4, s5] M S := go_nx rfl rfl
set_option maxRecDepth 20000 in
theorem g179_1240 (r : Nat) (l0 l1 l2 : Option AV) (s0 s1 s2 s3 s4 s5 s6 : AV) (x : Int) (M : Mem) (S : Sh) : go r 179 1240 [l0, l1, l2, some (aI x)] [s0, s1, s2, s3, s4, s5, s6] M S = go r 179 1241 [l0, l1, l2, some (aI x)] [aI x, s0, s1, s2, s3, s4, s5, s6] M S := go_nx rfl rfl
set_option maxRecDepth 20000 in
theorem g179_1241 (r : Nat) (l0 l1 l2 l3 : Option AV) (s0 s1 s2 s3 s4 s5 s6 s7 : AV) (M : Mem) (S : Sh) : go r 179 1241 [l0, l1, l2, l3] [s0, s1, s2, s3, s4, s5, s6, s7] M S = go r 179 1242 [l0, l1, l2, l3] [aI 5, s0, s1, s2, s3, s4, s5, s6, s7] M S := go_nx rfl rfl
set_option maxRecDepth 20000 in
theorem g179_1242 (r : Nat) (l0 l1 l2 l3 : Option AV) (s0 s1 s2 s3 s4 s5 s6 : AV) (x y : Int) (M : Mem) (S : Sh) : go r 179 1242 [l0, l1, l2, l3] [aI y, aI x, s0, s1, s2, s3, s4, s5, s6] M S = go r 179 1243 [l0, l1, l2, l3] [aI (w32 (x + y)), s0, s1, s2, s3, s4, s5, s6] M S := go_nx rfl rfl
set_option maxRecDepth 20000 in
theorem g179_1243 (r : Nat) (l0 l1 l2 l3 : Option AV) (s0 s1 s2 s3 s4 s5 : AV) (x : Int) (a : Nat) (M : Mem) (S : Sh) (h : S.1 a = 7) (h0 : 0 ≤ x) (h1 : x < S.2.1 a) : go r 179 1243 [l0, l1, l2, l3] [aI x, aR a, s0, s1, s2, s3, s4, s5] M S = go r 179 1244 [l0, l1, l2, l3] [aI (M a x.toNat), s0, s1, s2, s3, s4, s5] M S := go_bnd rfl ⟨h, h0, h1⟩ rfl
set_option maxRecDepth 20000 in
theorem g179_1244 (r : Nat) (l0 l1 l2 l3 : Option AV) (s0 : AV) (x1 x2 x3 x4 x5 : Int) (a0 : Nat) (M : Mem) (S : Sh) (hk : 19 < r) (h : S.1 a0 = 6) : go r 179 1244 [l0, l1, l2, l3] [aI x5, aI x4, aI x3, aI x2, aI x1, aR a0, s0] M S = cont r 179 1247 [l0, l1, l2, l3] [s0] 1 (res 170 [aR a0, aI x1, aI x2, aI x3, aI x4, aI x5] M S) := go_cr0 (m' := 170) (n := 6) (pc' := 1247) (hr := 1) rfl rfl rfl h rfl rfl rfl rfl hk rfl
set_option maxRecDepth 20000 in
theorem g179_1247 (r : Nat) (l0 l1 l2 l3 : Option AV) (x y : Int) (M : Mem) (S : Sh) : go r 179 1247 [l0, l1, l2, l3] [aL y, aL x] M S = go r 179 1248 [l0, l1, l2, l3] [aI (if x < y then -1 else if x = y then 0 else 1)] M S := go_nx rfl rfl
set_option maxRecDepth 20000 in
theorem g179_1248 (r : Nat) (l0 l1 l2 l3 : Option AV) (x : Int) (M : Mem) (S : Sh) : go r 179 1248 [l0, l1, l2, l3] [aI x] M S = if x = 0 then go r 179 1514 [l0, l1, l2, l3] [] M S else go r 179 1251 [l0, l1, l2, l3] [] M S := go_br rfl rfl rfl rfl rfl
set_option maxRecDepth 20000 in
theorem g179_1251 (r : Nat) (l0 l1 l2 l3 : Option AV) (M : Mem) (S : Sh) : go r 179 1251 [l0, l1, l2, l3] [] M S = go r 179 1252 [l0, l1, l2, l3] [aI 0] M S := go_nx rfl rfl
set_option maxRecDepth 20000 in
theorem g179_1252 (r : Nat) (l0 l1 l2 l3 : Option AV) (x : Int) (M : Mem) (S : Sh) (h : x = 0 ∨ x = 1) : go r 179 1252 [l0, l1, l2, l3] [aI x] M S = some (some (aI x), M, S) := go_rt rfl (bnd_t (Or.inr h))
set_option maxRecDepth 20000 in
theorem g179_1253 (r : Nat) (l0 l2 l3 : Option AV) (a : Nat) (M : Mem) (S : Sh) : go r 179 1253 [l0, some (aR a), l2, l3] [] M S = go r 179 1254 [l0, some (aR a), l2, l3] [aR a] M S := go_nx rfl rfl
set_option maxRecDepth 20000 in
theorem g179_1253n (r : Nat) (l0 l2 l3 : Option AV) (M : Mem) (S : Sh) : go r 179 1253 [l0, some aN, l2, l3] [] M S = go r 179 1254 [l0, some aN, l2, l3] [aN] M S := go_nx rfl rfl
set_option maxRecDepth 20000 in
theorem g179_1254 (r : Nat) (l0 l1 l2 l3 : Option AV) (a0 : Nat) (M : Mem) (S : Sh) (hk : 11 < r) (h : S.1 a0 = 5) : go r 179 1254 [l0, l1, l2, l3] [aR a0] M S = cont r 179 1257 [l0, l1, l2, l3] [] 1 (res 77 [aR a0] M S) := go_cr0 (m' := 77) (n := 1) (pc' := 1257) (hr := 1) rfl rfl rfl h rfl rfl rfl rfl hk rfl
set_option maxRecDepth 20000 in
theorem g179_1257 (r : Nat) (l0 l1 l3 : Option AV) (s0 : AV) (a : Nat) (M : Mem) (S : Sh) : go r 179 1257 [l0, l1, some (aR a), l3] [s0] M S = go r 179 1258 [l0, l1, some (aR a), l3] [aR a, s0] M S := go_nx rfl rfl
set_option maxRecDepth 20000 in
theorem g179_1257n (r : Nat) (l0 l1 l3 : Option AV) (s0 : AV) (M : Mem) (S : Sh) : go r 179 1257 [l0, l1, some aN, l3] [s0] M S = go r 179 1258 [l0, l1, some aN, l3] [aN, s0] M S := go_nx rfl rfl
set_option maxRecDepth 20000 in
theorem g179_1258 (r : Nat) (l0 l1 l2 l3 : Option AV) (s0 : AV) (a0 : Nat) (M : Mem) (S : Sh) (hk : 10 < r) (h : S.1 a0 = 6) : go r 179 1258 [l0, l1, l2, l3] [aR a0, s0] M S = cont r 179 1261 [l0, l1, l2, l3] [s0] 1 (res 171 [aR a0] M S) := go_cr0 (m' := 171) (n := 1) (pc' := 1261) (hr := 1) rfl rfl rfl h rfl rfl rfl rfl hk rfl
set_option maxRecDepth 20000 in
theorem g179_1261 (r : Nat) (l0 l1 l2 l3 : Option AV) (x y : Int) (M : Mem) (S : Sh) : go r 179 1261 [l0, l1, l2, l3] [aI y, aI x] M S = if x = y then go r 179 1514 [l0, l1, l2, l3] [] M S else go r 179 1264 [l0, l1, l2, l3] [] M S := go_br rfl rfl rfl rfl rfl
set_option maxRecDepth 20000 in
theorem g179_1264 (r : Nat) (l0 l1 l2 l3 : Option AV) (M : Mem) (S : Sh) : go r 179 1264 [l0, l1, l2, l3] [] M S = go r 179 1265 [l0, l1, l2, l3] [aI 0] M S := go_nx rfl rfl
set_option maxRecDepth 20000 in
theorem g179_1265 (r : Nat) (l0 l1 l2 l3 : Option AV) (x : Int) (M : Mem) (S : Sh) (h : x = 0 ∨ x = 1) : go r 179 1265 [l0, l1, l2, l3] [aI x] M S = some (some (aI x), M, S) := go_rt rfl (bnd_t (Or.inr h))
set_option maxRecDepth 20000 in
theorem g179_1266 (r : Nat) (l0 l2 l3 : Option AV) (a : Nat) (M : Mem) (S : Sh) : go r 179 1266 [l0, some (aR a), l2, l3] [] M S = go r 179 1267 [l0, some (aR a), l2, l3] [aR a] M S := go_nx rfl rfl
set_option maxRecDepth 20000 in
theorem g179_1266n (r : Nat) (l0 l2 l3 : Option AV) (M : Mem) (S : Sh) : go r 179 1266 [l0, some aN, l2, l3] [] M S = go r 179 1267 [l0, some aN, l2, l3] [aN] M S := go_nx rfl rfl
set_option maxRecDepth 20000 in
theorem g179_1267 (r : Nat) (l0 l1 l2 l3 : Option AV) (a0 : Nat) (M : Mem) (S : Sh) (hk : 11 < r) (h : S.1 a0 = 5) : go r 179 1267 [l0, l1, l2, l3] [aR a0] M S = cont r 179 1270 [l0, l1, l2, l3] [] 1 (res 78 [aR a0] M S) := go_cr0 (m' := 78) (n := 1) (pc' := 1270) (hr := 1) rfl rfl rfl h rfl rfl rfl rfl hk rfl
set_option maxRecDepth 20000 in
theorem g179_1270 (r : Nat) (l0 l1 l3 : Option AV) (s0 : AV) (a : Nat) (M : Mem) (S : Sh) : go r 179 1270 [l0, l1, some (aR a), l3] [s0] M S = go r 179 1271 [l0, l1, some (aR a), l3] [aR a, s0] M S := go_nx rfl rfl
set_option maxRecDepth 20000 in
theorem g179_1270n (r : Nat) (l0 l1 l3 : Option AV) (s0 : AV) (M : Mem) (S : Sh) : go r 179 1270 [l0, l1, some aN, l3] [s0] M S = go r 179 1271 [l0, l1, some aN, l3] [aN, s0] M S := go_nx rfl rfl
set_option maxRecDepth 20000 in
theorem g179_1271 (r : Nat) (l0 l1 l2 l3 : Option AV) (s0 : AV) (a0 : Nat) (M : Mem) (S : Sh) (hk : 10 < r) (h : S.1 a0 = 6) : go r 179 1271 [l0, l1, l2, l3] [aR a0, s0] M S = cont r 179 1274 [l0, l1, l2, l3] [s0] 1 (res 172 [aR a0] M S) := go_cr0 (m' := 172) (n := 1) (pc' := 1274) (hr := 1) rfl rfl rfl h rfl rfl rfl rfl hk rfl
set_option maxRecDepth 20000 in
theorem g179_1274 (r : Nat) (l0 l1 l2 l3 : Option AV) (x y : Int) (M : Mem) (S : Sh) : go r 179 1274 [l0, l1, l2, l3] [aI y, aI x] M S = if x = y then go r 179 1514 [l0, l1, l2, l3] [] M S else go r 179 1277 [l0, l1, l2, l3] [] M S := go_br rfl rfl rfl rfl rfl
set_option maxRecDepth 20000 in
theorem g179_1277 (r : Nat) (l0 l1 l2 l3 : Option AV) (M : Mem) (S : Sh) : go r 179 1277 [l0, l1, l2, l3] [] M S = go r 179 1278 [l0, l1, l2, l3] [aI 0] M S := go_nx rfl rfl
set_option maxRecDepth 20000 in
theorem g179_1278 (r : Nat) (l0 l1 l2 l3 : Option AV) (x : Int) (M : Mem) (S : Sh) (h : x = 0 ∨ x = 1) : go r 179 1278 [l0, l1, l2, l3] [aI x] M S = some (some (aI x), M, S) := go_rt rfl (bnd_t (Or.inr h))
set_option maxRecDepth 20000 in
theorem g179_1279 (r : Nat) (l0 l2 l3 : Option AV) (a : Nat) (M : Mem) (S : Sh) : go r 179 1279 [l0, some (aR a), l2, l3] [] M S = go r 179 1280 [l0, some (aR a), l2, l3] [aR a] M S := go_nx rfl rfl
set_option maxRecDepth 20000 in
theorem g179_1279n (r : Nat) (l0 l2 l3 : Option AV) (M : Mem) (S : Sh) : go r 179 1279 [l0, some aN, l2, l3] [] M S = go r 179 1280 [l0, some aN, l2, l3] [aN] M S := go_nx rfl rfl
set_option maxRecDepth 20000 in
theorem g179_1280 (r : Nat) (l1 l2 l3 : Option AV) (s0 : AV) (a : Nat) (M : Mem) (S : Sh) : go r 179 1280 [some (aR a), l1, l2, l3] [s0] M S = go r 179 1281 [some (aR a), l1, l2, l3] [aR a, s0] M S := go_nx rfl rfl
set_option maxRecDepth 20000 in
theorem g179_1280n (r : Nat) (l1 l2 l3 : Option AV) (s0 : AV) (M : Mem) (S : Sh) : go r 179 1280 [some aN, l1, l2, l3] [s0] M S = go r 179 1281 [some aN, l1, l2, l3] [aN, s0] M S := go_nx rfl rfl
set_option maxRecDepth 20000 in
theorem g179_1281 (r : Nat) (l0 l1 l2 : Option AV) (s0 s1 : AV) (x : Int) (M : Mem) (S : Sh) : go r 179 1281 [l0, l1, l2, some (aI x)] [s0, s1] M S = go r 179 1282 [l0, l1, l2, some (aI x)] [aI x, s0, s1] M S := go_nx rfl rfl
set_option maxRecDepth 20000 in
theorem g179_1282 (r : Nat) (l0 l1 l2 l3 : Option AV) (s0 s1 s2 : AV) (M : Mem) (S : Sh) : go r 179 1282 [l0, l1, l2, l3] [s0, s1, s2] M S = go r 179 1283 [l0, l1, l2, l3] [aI 1, s0, s1, s2] M S := go_nx rfl rfl
set_option maxRecDepth 20000 in
theorem g179_1283 (r : Nat) (l0 l1 l2 l3 : Option AV) (s0 s1 : AV) (x y : Int) (M : Mem) (S : Sh) : go r 179 1283 [l0, l1, l2, l3] [aI y, aI x, s0, s1] M S = go r 179 1284 [l0, l1, l2, l3] [aI (w32 (x + y)), s0, s1] M S := go_nx rfl rfl
set_option maxRecDepth 20000 in
theorem g179_1284 (r : Nat) (l0 l1 l2 l3 : Option AV) (s0 : AV) (x : Int) (a : Nat) (M : Mem) (S : Sh) (h : S.1 a = 7) (h0 : 0 ≤ x) (h1 : x < S.2.1 a) : go r 179 1284 [l0, l1, l2, l3] [aI x, aR a, s0] M S = go r 179 1285 [l0, l1, l2, l3] [aI (M a x.toNat), s0] M S := go_bnd rfl ⟨h, h0, h1⟩ rfl
set_option maxRecDepth 20000 in
theorem g179_1285 (r : Nat) (l1 l2 l3 : Option AV) (s0 s1 : AV) (a : Nat) (M : Mem) (S : Sh) : go r 179 1285 [some (aR a), l1, l2, l3] [s0, s1] M S = go r 179 1286 [some (aR a), l1, l2, l3] [aR a, s0, s1] M S := go_nx rfl rfl
set_option maxRecDepth 20000 in
theorem g179_1285n (r : Nat) (l1 l2 l3 : Option AV) (s0 s1 : AV) (M : Mem) (S : Sh) : go r 179 1285 [some aN, l1, l2, l3] [s0, s1] M S = go r 179 1286 [some aN, l1, l2, l3] [aN, s0, s1] M S := go_nx rfl rfl
set_option maxRecDepth 20000 in
theorem g179_1286 (r : Nat) (l0 l1 l2 : Option AV) (s0 s1 s2 : AV) (x : Int) (M : Mem) (S : Sh) : go r 179 1286 [l0, l1, l2, some (aI x)] [s0, s1, s2] M S = go r 179 1287 [l0, l1, l2, some (aI x)] [aI x, s0, s1, s2] M S := go_nx rfl rfl
set_option maxRecDepth 20000 in
theorem g179_1287 (r : Nat) (l0 l1 l2 l3 : Option AV) (s0 s1 s2 s3 : AV) (M : Mem) (S : Sh) : go r 179 1287 [l0, l1, l2, l3] [s0, s1, s2, s3] M S = go r 179 1288 [l0, l1, l2, l3] [aI 2, s0, s1, s2, s3] M S := go_nx rfl rfl
set_option maxRecDepth 20000 in
theorem g179_1288 (r : Nat) (l0 l1 l2 l3 : Option AV) (s0 s1 s2 : AV) (x y : Int) (M : Mem) (S : Sh) : go r 179 1288 [l0, l1, l2, l3] [aI y, aI x, s0, s1, s2] M S = go r 179 1289 [l0, l1, l2, l3] [aI (w32 (x + y)), s0, s1, s2] M S := go_nx rfl rfl
set_option maxRecDepth 20000 in
theorem g179_1289 (r : Nat) (l0 l1 l2 l3 : Option AV) (s0 s1 : AV) (x : Int) (a : Nat) (M : Mem) (S : Sh) (h : S.1 a = 7) (h0 : 0 ≤ x) (h1 : x < S.2.1 a) : go r 179 1289 [l0, l1, l2, l3] [aI x, aR a, s0, s1] M S = go r 179 1290 [l0, l1, l2, l3] [aI (M a x.toNat), s0, s1] M S := go_bnd rfl ⟨h, h0, h1⟩ rfl
set_option maxRecDepth 20000 in
theorem g179_1290 (r : Nat) (l1 l2 l3 : Option AV) (s0 s1 s2 : AV) (a : Nat) (M : Mem) (S : Sh) : go r 179 1290 [some (aR a), l1, l2, l3] [s0, s1, s2] M S = go r 179 1291 [some (aR a), l1, l2, l3] [aR a, s0, s1, s2] M S := go_nx rfl rfl
set_option maxRecDepth 20000 in
theorem g179_1290n (r : Nat) (l1 l2 l3 : Option AV) (s0 s1 s2 : AV) (M : Mem) (S : Sh) : go r 179 1290 [some aN, l1, l2, l3] [s0, s1, s2] M S = go r 179 1291 [some aN, l1, l2, l3] [aN, s0, s1, s2] M S := go_nx rfl rfl
set_option maxRecDepth 20000 in
theorem g179_1291 (r : Nat) (l0 l1 l2 : Option AV) (s0 s1 s2 s3 : AV) (x : Int) (M : Mem) (S : Sh) : go r 179 1291 [l0, l1, l2, some (aI x)] [s0, s1, s2, s3] M S = go r 179 1292 [l0, l1, l2, some (aI x)] [aI x, s0, s1, s2, s3] M S := go_nx rfl rfl
set_option maxRecDepth 20000 in
theorem g179_1292 (r : Nat) (l0 l1 l2 l3 : Option AV) (s0 s1 s2 s3 s4 : AV) (M : Mem) (S : Sh) : go r 179 1292 [l0, l1, l2, l3] [s0, s1, s2, s3, s4] M S = go r 179 1293 [l0, l1, l2, l3] [aI 3, s0, s1, s2, s3, s4] M S := go_nx rfl rfl
set_option maxRecDepth 20000 in
theorem g179_1293 (r : Nat) (l0 l1 l2 l3 : Option AV) (s0 s1 s2 s3 : AV) (x y : Int) (M : Mem) (S : Sh) : go r 179 1293 [l0, l1, l2, l3] [aI y, aI x, s0, s1, s2, s3] M S = go r 179 1294 [l0, l1, l2, l3] [aI (w32 (x + y)), s0, s1, s2, s3] M S := go_nx rfl rfl
set_option maxRecDepth 20000 in
theorem g179_1294 (r : Nat) (l0 l1 l2 l3 : Option AV) (s0 s1 s2 : AV) (x : Int) (a : Nat) (M : Mem) (S : Sh) (h : S.1 a = 7) (h0 : 0 ≤ x) (h1 : x < S.2.1 a) : go r 179 1294 [l0, l1, l2, l3] [aI x, aR a, s0, s1, s2] M S = go r 179 1295 [l0, l1, l2, l3] [aI (M a x.toNat), s0, s1, s2] M S := go_bnd rfl ⟨h, h0, h1⟩ rfl
set_option maxRecDepth 20000 in
theorem g179_1295 (r : Nat) (l0 l1 l2 l3 : Option AV) (x1 x2 x3 : Int) (a0 : Nat) (M : Mem) (S : Sh) (hk : 12 < r) (h : S.1 a0 = 5) : go r 179 1295 [l0, l1, l2, l3] [aI x3, aI x2, aI x1, aR a0] M S = cont r 179 1298 [l0, l1, l2, l3] [] 1 (res 79 [aR a0, aI x1, aI x2, aI x3] M S) := go_cr0 (m' := 79) (n := 4) (pc' := 1298) (hr := 1) rfl rfl rfl h rfl rfl rfl rfl hk rfl
set_option maxRecDepth 20000 in
theorem g179_1298 (r : Nat) (l0 l1 l3 : Option AV) (s0 : AV) (a : Nat) (M : Mem) (S : Sh) : go r 179 1298 [l0, l1, some (aR a), l3] [s0] M S = go r 179 1299 [l0, l1, some (aR a), l3] [aR a, s0] M S := go_nx rfl rfl
set_option maxRecDepth 20000 in
theorem g179_1298n (r : Nat) (l0 l1 l3 : Option AV) (s0 : AV) (M : Mem) (S : Sh) : go r 179 1298 [l0, l1, some aN, l3] [s0] M S = go r 179 1299 [l0, l1, some aN, l3] [aN, s0] M S := go_nx rfl rfl
set_option maxRecDepth 20000 in
theorem g179_1299 (r : Nat) (l1 l2 l3 : Option AV) (s0 s1 : AV) (a : Nat) (M : Mem) (S : Sh) : go r 179 1299 [some (aR a), l1, l2, l3] [s0, s1] M S = go r 179 1300 [some (aR a), l1, l2, l3] [aR a, s0, s1] M S := go_nx rfl rfl
set_option maxRecDepth 20000 in
theorem g179_1299n (r : Nat) (l1 l2 l3 : Option AV) (s0 s1 : AV) (M : Mem) (S : Sh) : go r 179 1299 [some aN, l1, l2, l3] [s0, s1] M S = go r 179 1300 [some aN, l1, l2, l3] [aN, s0, s1] M S := go_nx rfl rfl
set_option maxRecDepth 20000 in
theorem g179_1300 (r : Nat) (l0 l1 l2 : Option AV) (s0 s1 s2 : AV) (x : Int) (M : Mem) (S : Sh) : go r 179 1300 [l0, l1, l2, some (aI x)] [s0, s1, s2] M S = go r 179 1301 [l0, l1, l2, some (aI x)] [aI x, s0, s1, s2] M S := go_nx rfl rfl
set_option maxRecDepth 20000 in
theorem g179_1301 (r : Nat) (l0 l1 l2 l3 : Option AV) (s0 s1 s2 s3 : AV) (M : Mem) (S : Sh) : go r 179 1301 [l0, l1, l2, l3] [s0, s1, s2, s3] M S = go r 179 1302 [l0, l1, l2, l3] [aI 1, s0, s1, s2, s3] M S := go_nx rfl rfl
set_option maxRecDepth 20000 in
theorem g179_1302 (r : Nat) (l0 l1 l2 l3 : Option AV) (s0 s1 s2 : AV) (x y : Int) (M : Mem) (S : Sh) : go r 179 1302 [l0, l1, l2, l3] [aI y, aI x, s0, s1, s2] M S = go r 179 1303 [l0, l1, l2, l3] [aI (w32 (x + y)), s0, s1, s2] M S := go_nx rfl rfl
set_option maxRecDepth 20000 in
theorem g179_1303 (r : Nat) (l0 l1 l2 l3 : Option AV) (s0 s1 : AV) (x : Int) (a : Nat) (M : Mem) (S : Sh) (h : S.1 a = 7) (h0 : 0 ≤ x) (h1 : x < S.2.1 a) : go r 179 1303 [l0, l1, l2, l3] [aI x, aR a, s0, s1] M S = go r 179 1304 [l0, l1, l2, l3] [aI (M a x.toNat), s0, s1] M S := go_bnd rfl ⟨h, h0, h1⟩ rfl
set_option maxRecDepth 20000 in
theorem g179_1304 (r : Nat) (l1 l2 l3 : Option AV) (s0 s1 s2 : AV) (a : Nat) (M : Mem) (S : Sh) : go r 179 1304 [some (aR a), l1, l2, l3] [s0, s1, s2] M S = go r 179 1305 [some (aR a), l1, l2, l3] [aR a, s0, s1, s2] M S := go_nx rfl rfl
set_option maxRecDepth 20000 in
theorem g179_1304n (r : Nat) (l1 l2 l3 : Option AV) (s0 s1 s2 : AV) (M : Mem) (S : Sh) : go r 179 1304 [some aN, l1, l2, l3] [s0, s1, s2] M S = go r 179 1305 [some aN, l1, l2, l3] [aN, s0, s1, s2] M S := go_nx rfl rfl
set_option maxRecDepth 20000 in
theorem g179_1305 (r : Nat) (l0 l1 l2 : Option AV) (s0 s1 s2 s3 : AV) (x : Int) (M : Mem) (S : Sh) : go r 179 1305 [l0, l1, l2, some (aI x)] [s0, s1, s2, s3] M S = go r 179 1306 [l0, l1, l2, some (aI x)] [aI x, s0, s1, s2, s3] M S := go_nx rfl rfl
set_option maxRecDepth 20000 in
theorem g179_1306 (r : Nat) (l0 l1 l2 l3 : Option AV) (s0 s1 s2 s3 s4 : AV) (M : Mem) (S : Sh) : go r 179 1306 [l0, l1, l2, l3] [s0, s1, s2, s3, s4] M S = go r 179 1307 [l0, l1, l2, l3] [aI 2, s0, s1, s2, s3, s4] M S := go_nx rfl rfl
set_option maxRecDepth 20000 in
theorem g179_1307 (r : Nat) (l0 l1 l2 l3 : Option AV) (s0 s1 s2 s3 : AV) (x y : Int) (M : Mem) (S : Sh) : go r 179 1307 [l0, l1, l2, l3] [aI y, aI x, s0, s1, s2, s3] M S = go r 179 1308 [l0, l1, l2, l3] [aI (w32 (x + y)), s0, s1, s2, s3] M S := go_nx rfl rfl
set_option maxRecDepth 20000 in
theorem g179_1308 (r : Nat) (l0 l1 l2 l3 : Option AV) (s0 s1 s2 : AV) (x : Int) (a : Nat) (M : Mem) (S : Sh) (h : S.1 a = 7) (h0 : 0 ≤ x) (h1 : x < S.2.1 a) : go r 179 1308 [l0, l1, l2, l3] [aI x, aR a, s0, s1, s2] M S = go r 179 1309 [l0, l1, l2, l3] [aI (M a x.toNat), s0, s1, s2] M S := go_bnd rfl ⟨h, h0, h1⟩ rfl
set_option maxRecDepth 20000 in
theorem g179_1309 (r : Nat) (l1 l2 l3 : Option AV) (s0 s1 s2 s3 : AV) (a : Nat) (M : Mem) (S : Sh) : go r 179 1309 [some (aR a), l1, l2, l3] [s0, s1, s2, s3] M S = go r 179 1310 [some (aR a), l1, l2, l3] [aR a, s0, s1, s2, s3] M S := go_nx rfl rfl
set_option maxRecDepth 20000 in
theorem g179_1309n (r : Nat) (l1 l2 l3 : Option AV) (s0 s1 s2 s3 : AV) (M : Mem) (S : Sh) : go r 179 1309 [some aN, l1, l2, l3] [s0, s1, s2, s3] M S = go r 179 1310 [some aN, l1, l2, l3] [aN, s0, s1, s2, s3] M S := go_nx rfl rfl
set_option maxRecDepth 20000 in
theorem g179_1310 (r : Nat) (l0 l1 l2 : Option AV) (s0 s1 s2 s3 s4 : AV) (x : Int) (M : Mem) (S : Sh) : go r 179 1310 [l0, l1, l2, some (aI x)] [s0, s1, s2, s3, s4] M S = go r 179 1311 [l0, l1, l2, some (aI x)] [aI x, s0, s1, s2, s3, s4] M S := go_nx rfl rfl
set_option maxRecDepth 20000 in
theorem g179_1311 (r : Nat) (l0 l1 l2 l3 : Option AV) (s0 s1 s2 s3 s4 s5 : AV) (M : Mem) (S : Sh) : go r 179 1311 [l0, l1, l2, l3] [s0, s1, s2, s3, s4, s5] M S = go r 179 1312 [l0, l1, l2, l3] [aI 3, s0, s1, s2, s3, s4, s5] M S := go_nx rfl rfl
set_option maxRecDepth 20000 in
theorem g179_1312 (r : Nat) (l0 l1 l2 l3 : Option AV) (s0 s1 s2 s3 s4 : AV) (x y : Int) (M : Mem) (S : Sh) : go r 179 1312 [l0, l1, l2, l3] [aI y, aI x, s0, s1, s2, s3, s4] M S = go r 179 1313 [l0, l1, l2, l3] [aI (w32 (x + y)), s0, s1, s2, s3, s4] M S := go_nx rfl rfl
set_option maxRecDepth 20000 in
theorem g179_1313 (r : Nat) (l0 l1 l2 l3 : Option AV) (s0 s1 s2 s3 : AV) (x : Int) (a : Nat) (M : Mem) (S : Sh) (h : S.1 a = 7) (h0 : 0 ≤ x) (h1 : x < S.2.1 a) : go r 179 1313 [l0, l1, l2, l3] [aI x, aR a, s0, s1, s2, s3] M S = go r 179 1314 [l0, l1, l2, l3] [aI (M a x.toNat), s0, s1, s2, s3] M S := go_bnd rfl ⟨h, h0, h1⟩ rfl
set_option maxRecDepth 20000 in
theorem g179_1314 (r : Nat) (l0 l1 l2 l3 : Option AV) (s0 : AV) (x1 x2 x3 : Int) (a0 : Nat) (M : Mem) (S : Sh) (hk : 11 < r) (h : S.1 a0 = 6) : go r 179 1314 [l0, l1, l2, l3] [aI x3, aI x2, aI x1, aR a0, s0] M S = cont r 179 1317 [l0, l1, l2, l3] [s0] 1 (res 173 [aR a0, aI x1, aI x2, aI x3] M S) := go_cr0 (m' := 173) (n := 4) (pc' := 1317) (hr := 1) rfl rfl rfl h rfl rfl rfl rfl hk rfl
set_option maxRecDepth 20000 in
theorem g179_1317 (r : Nat) (l0 l1 l2 l3 : Option AV) (x y : Int) (M : Mem) (S : Sh) : go r 179 1317 [l0, l1, l2, l3] [aI y, aI x] M S = if x = y then go r 179 1514 [l0, l1, l2, l3] [] M S else go r 179 1320 [l0, l1, l2, l3] [] M S := go_br rfl rfl rfl rfl rfl
set_option maxRecDepth 20000 in
theorem g179_1320 (r : Nat) (l0 l1 l2 l3 : Option AV) (M : Mem) (S : Sh) : go r 179 1320 [l0, l1, l2, l3] [] M S = go r 179 1321 [l0, l1, l2, l3] [aI 0] M S := go_nx rfl rfl
set_option maxRecDepth 20000 in
theorem g179_1321 (r : Nat) (l0 l1 l2 l3 : Option AV) (x : Int) (M : Mem) (S : Sh) (h : x = 0 ∨ x = 1) : go r 179 1321 [l0, l1, l2, l3] [aI x] M S = some (some (aI x), M, S) := go_rt rfl (bnd_t (Or.inr h))
set_option maxRecDepth 20000 in
theorem g179_1322 (r : Nat) (l0 l2 l3 : Option AV) (a : Nat) (M : Mem) (S : Sh) : go r 179 1322 [l0, some (aR a), l2, l3] [] M S = go r 179 1323 [l0, some (aR a), l2, l3] [aR a] M S := go_nx rfl rfl
set_option maxRecDepth 20000 in
theorem g179_1322n (r : Nat) (l0 l2 l3 : Option AV) (M : Mem) (S : Sh) : go r 179 1322 [l0, some aN, l2, l3] [] M S = go r 179 1323 [l0, some aN, l2, l3] [aN] M S := go_nx rfl rfl
set_option maxRecDepth 20000 in
theorem g179_1323 (r : Nat) (l1 l2 l3 : Option AV) (s0 : AV) (a : Nat) (M : Mem) (S : Sh) : go r 179 1323 [some (aR a), l1, l2, l3] [s0] M S = go r 179 1324 [some (aR a), l1, l2, l3] [aR a, s0] M S := go_nx rfl rfl
set_option maxRecDepth 20000 in
theorem g179_1323n (r : Nat) (l1 l2 l3 : Option AV) (s0 : AV) (M : Mem) (S : Sh) : go r 179 1323 [some aN, l1, l2, l3] [s0] M S = go r 179 1324 [some aN, l1, l2, l3] [aN, s0] M S := go_nx rfl rfl
set_option maxRecDepth 20000 in
theorem g179_1324 (r : Nat) (l0 l1 l2 : Option AV) (s0 s1 : AV) (x : Int) (M : Mem) (S : Sh) : go r 179 1324 [l0, l1, l2, some (aI x)] [s0, s1] M S = go r 179 1325 [l0, l1, l2, some (aI x)] [aI x, s0, s1] M S := go_nx rfl rfl
set_option maxRecDepth 20000 in
theorem g179_1325 (r : Nat) (l0 l1 l2 l3 : Option AV) (s0 s1 s2 : AV) (M : Mem) (S : Sh) : go r 179 1325 [l0, l1, l2, l3] [s0, s1, s2] M S = go r 179 1326 [l0, l1, l2, l3] [aI 1, s0, s1, s2] M S := go_nx rfl rfl
set_option maxRecDepth 20000 in
theorem g179_1326 (r : Nat) (l0 l1 l2 l3 : Option AV) (s0 s1 : AV) (x y : Int) (M : Mem) (S : Sh) : go r 179 1326 [l0, l1, l2, l3] [aI y, aI x, s0, s1] M S = go r 179 1327 [l0, l1, l2, l3] [aI (w32 (x + y)), s0, s1] M S := go_nx rfl rfl
set_option maxRecDepth 20000 in
theorem g179_1327 (r : Nat) (l0 l1 l2 l3 : Option AV) (s0 : AV) (x : Int) (a : Nat) (M : Mem) (S : Sh) (h : S.1 a = 7) (h0 : 0 ≤ x) (h1 : x < S.2.1 a) : go r 179 1327 [l0, l1, l2, l3] [aI x, aR a, s0] M S = go r 179 1328 [l0, l1, l2, l3] [aI (M a x.toNat), s0] M S := go_bnd rfl ⟨h, h0, h1⟩ rfl
set_option maxRecDepth 20000 in
theorem g179_1328 (r : Nat) (l1 l2 l3 : Option AV) (s0 s1 : AV) (a : Nat) (M : Mem) (S : Sh) : go r 179 1328 [some (aR a), l1, l2, l3] [s0, s1] M S = go r 179 1329 [some (aR a), l1, l2, l3] [aR a, s0, s1] M S := go_nx rfl rfl
set_option maxRecDepth 20000 in
theorem g179_1328n (r : Nat) (l1 l2 l3 : Option AV) (s0 s1 : AV) (M : Mem) (S : Sh) : go r 179 1328 [some aN, l1, l2, l3] [s0, s1] M S = go r 179 1329 [some aN, l1, l2, l3] [aN, s0, s1] M S := go_nx rfl rfl
set_option maxRecDepth 20000 in
theorem g179_1329 (r : Nat) (l0 l1 l2 : Option AV) (s0 s1 s2 : AV) (x : Int) (M : Mem) (S : Sh) : go r 179 1329 [l0, l1, l2, some (aI x)] [s0, s1, s2] M S = go r 179 1330 [l0, l1, l2, some (aI x)] [aI x, s0, s1, s2] M S := go_nx rfl rfl
set_option maxRecDepth 20000 in
theorem g179_1330 (r : Nat) (l0 l1 l2 l3 : Option AV) (s0 s1 s2 s3 : AV) (M : Mem) (S : Sh) : go r 179 1330 [l0, l1, l2, l3] [s0, s1, s2, s3] M S = go r 179 1331 [l0, l1, l2, l3] [aI 2, s0, s1, s2, s3] M S := go_nx rfl rfl
set_option maxRecDepth 20000 in
theorem g179_1331 (r : Nat) (l0 l1 l2 l3 : Option AV) (s0 s1 s2 : AV) (x y : Int) (M : Mem) (S : Sh) : go r 179 1331 [l0, l1, l2, l3] [aI y, aI x, s0, s1, s2] M S = go r 179 1332 [l0, l1, l2, l3] [aI (w32 (x + y)), s0, s1, s2] M S := go_nx rfl rfl
set_option maxRecDepth 20000 in
theorem g179_1332 (r : Nat) (l0 l1 l2 l3 : Option AV) (s0 s1 : AV) (x : Int) (a : Nat) (M : Mem) (S : Sh) (h : S.1 a = 7) (h0 : 0 ≤ x) (h1 : x < S.2.1 a) : go r 179 1332 [l0, l1, l2, l3] [aI x, aR a, s0, s1] M S = go r 179 1333 [l0, l1, l2, l3] [aI (M a x.toNat), s0, s1] M S := go_bnd rfl ⟨h, h0, h1⟩ rfl
set_option maxRecDepth 20000 in
theorem g179_1333 (r : Nat) (l1 l2 l3 : Option AV) (s0 s1 s2 : AV) (a : Nat) (M : Mem) (S : Sh) : go r 179 1333 [some (aR a), l1, l2, l3] [s0, s1, s2] M S = go r 179 1334 [some (aR a), l1, l2, l3] [aR a, s0, s1, s2] M S := go_nx rfl rfl
set_option maxRecDepth 20000 in
theorem g179_1333n (r : Nat) (l1 l2 l3 : Option AV) (s0 s1 s2 : AV) (M : Mem) (S : Sh) : go r 179 1333 [some aN, l1, l2, l3] [s0, s1, s2] M S = go r 179 1334 [some aN, l1, l2, l3] [aN, s0, s1, s2] M S := go_nx rfl rfl
set_option maxRecDepth 20000 in
theorem g179_1334 (r : Nat) (l0 l1 l2 : Option AV) (s0 s1 s2 s3 : AV) (x : Int) (M : Mem) (S : Sh) : go r 179 1334 [l0, l1, l2, some (aI x)] [s0, s1, s2, s3] M S = go r 179 1335 [l0, l1, l2, some (aI x)] [aI x, s0, s1, s2, s3] M S := go_nx rfl rfl
set_option maxRecDepth 20000 in
theorem g179_1335 (r : Nat) (l0 l1 l2 l3 : Option AV) (s0 s1 s2 s3 s4 : AV) (M : Mem) (S : Sh) : go r 179 1335 [l0, l1, l2, l3] [s0, s1, s2, s3, s4] M S = go r 179 1336 [l0, l1, l2, l3] [aI 3, s0, s1, s2, s3, s4] M S := go_nx rfl rfl
set_option maxRecDepth 20000 in
theorem g179_1336 (r : Nat) (l0 l1 l2 l3 : Option AV) (s0 s1 s2 s3 : AV) (x y : Int) (M : Mem) (S : Sh) : go r 179 1336 [l0, l1, l2, l3] [aI y, aI x, s0, s1, s2, s3] M S = go r 179 1337 [l0, l1, l2, l3] [aI (w32 (x + y)), s0, s1, s2, s3] M S := go_nx rfl rfl
set_option maxRecDepth 20000 in
theorem g179_1337 (r : Nat) (l0 l1 l2 l3 : Option AV) (s0 s1 s2 : AV) (x : Int) (a : Nat) (M : Mem) (S : Sh) (h : S.1 a = 7) (h0 : 0 ≤ x) (h1 : x < S.2.1 a) : go r 179 1337 [l0, l1, l2, l3] [aI x, aR a, s0, s1, s2] M S = go r 179 1338 [l0, l1, l2, l3] [aI (M a x.toNat), s0, s1, s2] M S := go_bnd rfl ⟨h, h0, h1⟩ rfl
set_option maxRecDepth 20000 in
theorem g179_1338 (r : Nat) (l0 l1 l2 l3 : Option AV) (x1 x2 x3 : Int) (a0 : Nat) (M : Mem) (S : Sh) (hk : 12 < r) (h : S.1 a0 = 5) : go r 179 1338 [l0, l1, l2, l3] [aI x3, aI x2, aI x1, aR a0] M S = cont r 179 1341 [l0, l1, l2, l3] [] 1 (res 80 [aR a0, aI x1, aI x2, aI x3] M S) := go_cr0 (m' := 80) (n := 4) (pc' := 1341) (hr := 1) rfl rfl rfl h rfl rfl rfl rfl hk rfl
set_option maxRecDepth 20000 in
theorem g179_1341 (r : Nat) (l0 l1 l3 : Option AV) (s0 : AV) (a : Nat) (M : Mem) (S : Sh) : go r 179 1341 [l0, l1, some (aR a), l3] [s0] M S = go r 179 1342 [l0, l1, some (aR a), l3] [aR a, s0] M S := go_nx rfl rfl
set_option maxRecDepth 20000 in
theorem g179_1341n (r : Nat) (l0 l1 l3 : Option AV) (s0 : AV) (M : Mem) (S : Sh) : go r 179 1341 [l0, l1, some aN, l3] [s0] M S = go r 179 1342 [l0, l1, some aN, l3] [aN, s0] M S := go_nx rfl rfl
set_option maxRecDepth 20000 in
theorem g179_1342 (r : Nat) (l1 l2 l3 : Option AV) (s0 s1 : AV) (a : Nat) (M : Mem) (S : Sh) : go r 179 1342 [some (aR a), l1, l2, l3] [s0, s1] M S = go r 179 1343 [some (aR a), l1, l2, l3] [aR a, s0, s1] M S := go_nx rfl rfl
set_option maxRecDepth 20000 in
theorem g179_1342n (r : Nat) (l1 l2 l3 : Option AV) (s0 s1 : AV) (M : Mem) (S : Sh) : go r 179 1342 [some aN, l1, l2, l3] [s0, s1] M S = go r 179 1343 [some aN, l1, l2, l3] [aN, s0, s1] M S := go_nx rfl rfl
set_option maxRecDepth 20000 in
theorem g179_1343 (r : Nat) (l0 l1 l2 : Option AV) (s0 s1 s2 : AV) (x : Int) (M : Mem) (S : Sh) : go r 179 1343 [l0, l1, l2, some (aI x)] [s0, s1, s2] M S = go r 179 1344 [l0, l1, l2, some (aI x)] [aI x, s0, s1, s2] M S := go_nx rfl rfl
set_option maxRecDepth 20000 in
theorem g179_1344 (r : Nat) (l0 l1 l2 l3 : Option AV) (s0 s1 s2 s3 : AV) (M : Mem) (S : Sh) : go r 179 1344 [l0, l1, l2, l3] [s0, s1, s2, s3] M S = go r 179 1345 [l0, l1, l2, l3] [aI 1, s0, s1, s2, s3] M S := go_nx rfl rfl
set_option maxRecDepth 20000 in
theorem g179_1345 (r : Nat) (l0 l1 l2 l3 : Option AV) (s0 s1 s2 : AV) (x y : Int) (M : Mem) (S : Sh) : go r 179 1345 [l0, l1, l2, l3] [aI y, aI x, s0, s1, s2] M S = go r 179 1346 [l0, l1, l2, l3] [aI (w32 (x + y)), s0, s1, s2] M S := go_nx rfl rfl
set_option maxRecDepth 20000 in
theorem g179_1346 (r : Nat) (l0 l1 l2 l3 : Option AV) (s0 s1 : AV) (x : Int) (a : Nat) (M : Mem) (S : Sh) (h : S.1 a = 7) (h0 : 0 ≤ x) (h1 : x < S.2.1 a) : go r 179 1346 [l0, l1, l2, l3] [aI x, aR a, s0, s1] M S = go r 179 1347 [l0, l1, l2, l3] [aI (M a x.toNat), s0, s1] M S := go_bnd rfl ⟨h, h0, h1⟩ rfl
set_option maxRecDepth 20000 in
theorem g179_1347 (r : Nat) (l1 l2 l3 : Option AV) (s0 s1 s2 : AV) (a : Nat) (M : Mem) (S : Sh) : go r 179 1347 [some (aR a), l1, l2, l3] [s0, s1, s2] M S = go r 179 1348 [some (aR a), l1, l2, l3] [aR a, s0, s1, s2] M S := go_nx rfl rfl
set_option maxRecDepth 20000 in
theorem g179_1347n (r : Nat) (l1 l2 l3 : Option AV) (s0 s1 s2 : AV) (M : Mem) (S : Sh) : go r 179 1347 [some aN, l1, l2, l3] [s0, s1, s2] M S = go r 179 1348 [some aN, l1, l2, l3] [aN, s0, s1, s2] M S := go_nx rfl rfl
set_option maxRecDepth 20000 in
theorem g179_1348 (r : Nat) (l0 l1 l2 : Option AV) (s0 s1 s2 s3 : AV) (x : Int) (M : Mem) (S : Sh) : go r 179 1348 [l0, l1, l2, some (aI x)] [s0, s1, s2, s3] M S = go r 179 1349 [l0, l1, l2, some (aI x)] [aI x, s0, s1, s2, s3] M S := go_nx rfl rfl
set_option maxRecDepth 20000 in
theorem g179_1349 (r : Nat) (l0 l1 l2 l3 : Option AV) (s0 s1 s2 s3 s4 : AV) (M : Mem) (S : Sh) : go r 179 1349 [l0, l1, l2, l3] [s0, s1, s2, s3, s4] M S = go r 179 1350 [l0, l1, l2, l3] [aI 2, s0, s1, s2, s3, s4] M S := go_nx rfl rfl
set_option maxRecDepth 20000 in
theorem g179_1350 (r : Nat) (l0 l1 l2 l3 : Option AV) (s0 s1 s2 s3 : AV) (x y : Int) (M : Mem) (S : Sh) : go r 179 1350 [l0, l1, l2, l3] [aI y, aI x, s0, s1, s2, s3] M S = go r 179 1351 [l0, l1, l2, l3] [aI (w32 (x + y)), s0, s1, s2, s3] M S := go_nx rfl rfl
set_option maxRecDepth 20000 in
theorem g179_1351 (r : Nat) (l0 l1 l2 l3 : Option AV) (s0 s1 s2 : AV) (x : Int) (a : Nat) (M : Mem) (S : Sh) (h : S.1 a = 7) (h0 : 0 ≤ x) (h1 : x < S.2.1 a) : go r 179 1351 [l0, l1, l2, l3] [aI x, aR a, s0, s1, s2] M S = go r 179 1352 [l0, l1, l2, l3] [aI (M a x.toNat), s0, s1, s2] M S := go_bnd rfl ⟨h, h0, h1⟩ rfl
set_option maxRecDepth 20000 in
theorem g179_1352 (r : Nat) (l1 l2 l3 : Option AV) (s0 s1 s2 s3 : AV) (a : Nat) (M : Mem) (S : Sh) : go r 179 1352 [some (aR a), l1, l2, l3] [s0, s1, s2, s3] M S = go r 179 1353 [some (aR a), l1, l2, l3] [aR a, s0, s1, s2, s3] M S := go_nx rfl rfl
set_option maxRecDepth 20000 in
theorem g179_1352n (r : Nat) (l1 l2 l3 : Option AV) (s0 s1 s2 s3 : AV) (M : Mem) (S : Sh) : go r 179 1352 [some aN, l1, l2, l3] [s0, s1, s2, s3] M S = go r 179 1353 [some aN, l1, l2, l3] [aN, s0, s1, s2, s3] M S := go_nx rfl rfl
set_option maxRecDepth 20000 in
theorem g179_1353 (r : Nat) (l0 l1 l2 : Option AV) (s0 s1 s2 s3 s4 : AV) (x : Int) (M : Mem) (S : Sh) : go r 179 1353 [l0, l1, l2, some (aI x)] [s0, s1, s2, s3, s4] M S = go r 179 1354 [l0, l1, l2, some (aI x)] [aI x, s0, s1, s2, s3, s4] M S := go_nx rfl rfl
set_option maxRecDepth 20000 in
theorem g179_1354 (r : Nat) (l0 l1 l2 l3 : Option AV) (s0 s1 s2 s3 s4 s5 : AV) (M : Mem) (S : Sh) : go r 179 1354 [l0, l1, l2, l3] [s0, s1, s2, s3, s4, s5] M S = go r 179 1355 [l0, l1, l2, l3] [aI 3, s0, s1, s2, s3, s4, s5] M S := go_nx rfl rfl
set_option maxRecDepth 20000 in
theorem g179_1355 (r : Nat) (l0 l1 l2 l3 : Option AV) (s0 s1 s2 s3 s4 : AV) (x y : Int) (M : Mem) (S : Sh) : go r 179 1355 [l0, l1, l2, l3] [aI y, aI x, s0, s1, s2, s3, s4] M S = go r 179 1356 [l0, l1, l2, l3] [aI (w32 (x + y)), s0, s1, s2, s3, s4] M S := go_nx rfl rfl
set_option maxRecDepth 20000 in
theorem g179_1356 (r : Nat) (l0 l1 l2 l3 : Option AV) (s0 s1 s2 s3 : AV) (x : Int) (a : Nat) (M : Mem) (S : Sh) (h : S.1 a = 7) (h0 : 0 ≤ x) (h1 : x < S.2.1 a) : go r 179 1356 [l0, l1, l2, l3] [aI x, aR a, s0, s1, s2, s3] M S = go r 179 1357 [l0, l1, l2, l3] [aI (M a x.toNat), s0, s1, s2, s3] M S := go_bnd rfl ⟨h, h0, h1⟩ rfl
set_option maxRecDepth 20000 in
theorem g179_1357 (r : Nat) (l0 l1 l2 l3 : Option AV) (s0 : AV) (x1 x2 x3 : Int) (a0 : Nat) (M : Mem) (S : Sh) (hk : 11 < r) (h : S.1 a0 = 6) : go r 179 1357 [l0, l1, l2, l3] [aI x3, aI x2, aI x1, aR a0, s0] M S = cont r 179 1360 [l0, l1, l2, l3] [s0] 1 (res 174 [aR a0, aI x1, aI x2, aI x3] M S) := go_cr0 (m' := 174) (n := 4) (pc' := 1360) (hr := 1) rfl rfl rfl h rfl rfl rfl rfl hk rfl
set_option maxRecDepth 20000 in
theorem g179_1360 (r : Nat) (l0 l1 l2 l3 : Option AV) (x y : Int) (M : Mem) (S : Sh) : go r 179 1360 [l0, l1, l2, l3] [aI y, aI x] M S = if x = y then go r 179 1514 [l0, l1, l2, l3] [] M S else go r 179 1363 [l0, l1, l2, l3] [] M S := go_br rfl rfl rfl rfl rfl
set_option maxRecDepth 20000 in
theorem g179_1363 (r : Nat) (l0 l1 l2 l3 : Option AV) (M : Mem) (S : Sh) : go r 179 1363 [l0, l1, l2, l3] [] M S = go r 179 1364 [l0, l1, l2, l3] [aI 0] M S := go_nx rfl rfl
set_option maxRecDepth 20000 in
theorem g179_1364 (r : Nat) (l0 l1 l2 l3 : Option AV) (x : Int) (M : Mem) (S : Sh) (h : x = 0 ∨ x = 1) : go r 179 1364 [l0, l1, l2, l3] [aI x] M S = some (some (aI x), M, S) := go_rt rfl (bnd_t (Or.inr h))
set_option maxRecDepth 20000 in
theorem g179_1365 (r : Nat) (l0 l2 l3 : Option AV) (a : Nat) (M : Mem) (S : Sh) : go r 179 1365 [l0, some (aR a), l2, l3] [] M S = go r 179 1366 [l0, some (aR a), l2, l3] [aR a] M S := go_nx rfl rfl
set_option maxRecDepth 20000 in
theorem g179_1365n (r : Nat) (l0 l2 l3 : Option AV) (M : Mem) (S : Sh) : go r 179 1365 [l0, some aN, l2, l3] [] M S = go r 179 1366 [l0, some aN, l2, l3] [aN] M S := go_nx rfl rfl
set_option maxRecDepth 20000 in
theorem g179_1366 (r : Nat) (l1 l2 l3 : Option AV) (s0 : AV) (a : Nat) (M : Mem) (S : Sh) : go r 179 1366 [some (aR a), l1, l2, l3] [s0] M S = go r 179 1367 [some (aR a), l1, l2, l3] [aR a, s0] M S := go_nx rfl rfl
set_option maxRecDepth 20000 in
theorem g179_1366n (r : Nat) (l1 l2 l3 : Option AV) (s0 : AV) (M : Mem) (S : Sh) : go r 179 1366 [some aN, l1, l2, l3] [s0] M S = go r 179 1367 [some aN, l1, l2, l3] [aN, s0] M S := go_nx rfl rfl
set_option maxRecDepth 20000 in
theorem g179_1367 (r : Nat) (l0 l1 l2 : Option AV) (s0 s1 : AV) (x : Int) (M : Mem) (S : Sh) : go r 179 1367 [l0, l1, l2, some (aI x)] [s0, s1] M S = go r 179 1368 [l0, l1, l2, some (aI x)] [aI x, s0, s1] M S := go_nx rfl rfl
set_option maxRecDepth 20000 in
theorem g179_1368 (r : Nat) (l0 l1 l2 l3 : Option AV) (s0 s1 s2 : AV) (M : Mem) (S : Sh) : go r 179 1368 [l0, l1, l2, l3] [s0, s1, s2] M S = go r 179 1369 [l0, l1, l2, l3] [aI 1, s0, s1, s2] M S := go_nx rfl rfl
set_option maxRecDepth 20000 in
theorem g179_1369 (r : Nat) (l0 l1 l2 l3 : Option AV) (s0 s1 : AV) (x y : Int) (M : Mem) (S : Sh) : go r 179 1369 [l0, l1, l2, l3] [aI y, aI x, s0, s1] M S = go r 179 1370 [l0, l1, l2, l3] [aI (w32 (x + y)), s0, s1] M S := go_nx rfl rfl
set_option maxRecDepth 20000 in
theorem g179_1370 (r : Nat) (l0 l1 l2 l3 : Option AV) (s0 : AV) (x : Int) (a : Nat) (M : Mem) (S : Sh) (h : S.1 a = 7) (h0 : 0 ≤ x) (h1 : x < S.2.1 a) : go r 179 1370 [l0, l1, l2, l3] [aI x, aR a, s0] M S = go r 179 1371 [l0, l1, l2, l3] [aI (M a x.toNat), s0] M S := go_bnd rfl ⟨h, h0, h1⟩ rfl
set_option maxRecDepth 20000 in
theorem g179_1371 (r : Nat) (l1 l2 l3 : Option AV) (s0 s1 : AV) (a : Nat) (M : Mem) (S : Sh) : go r 179 1371 [some (aR a), l1, l2, l3] [s0, s1] M S = go r 179 1372 [some (aR a), l1, l2, l3] [aR a, s0, s1] M S := go_nx rfl rfl
set_option maxRecDepth 20000 in
theorem g179_1371n (r : Nat) (l1 l2 l3 : Option AV) (s0 s1 : AV) (M : Mem) (S : Sh) : go r 179 1371 [some aN, l1, l2, l3] [s0, s1] M S = go r 179 1372 [some aN, l1, l2, l3] [aN, s0, s1] M S := go_nx rfl rfl
set_option maxRecDepth 20000 in
theorem g179_1372 (r : Nat) (l0 l1 l2 : Option AV) (s0 s1 s2 : AV) (x : Int) (M : Mem) (S : Sh) : go r 179 1372 [l0, l1, l2, some (aI x)] [s0, s1, s2] M S = go r 179 1373 [l0, l1, l2, some (aI x)] [aI x, s0, s1, s2] M S := go_nx rfl rfl
set_option maxRecDepth 20000 in
theorem g179_1373 (r : Nat) (l0 l1 l2 l3 : Option AV) (s0 s1 s2 s3 : AV) (M : Mem) (S : Sh) : go r 179 1373 [l0, l1, l2, l3] [s0, s1, s2, s3] M S = go r 179 1374 [l0, l1, l2, l3] [aI 2, s0, s1, s2, s3] M S := go_nx rfl rfl
set_option maxRecDepth 20000 in
theorem g179_1374 (r : Nat) (l0 l1 l2 l3 : Option AV) (s0 s1 s2 : AV) (x y : Int) (M : Mem) (S : Sh) : go r 179 1374 [l0, l1, l2, l3] [aI y, aI x, s0, s1, s2] M S = go r 179 1375 [l0, l1, l2, l3] [aI (w32 (x + y)), s0, s1, s2] M S := go_nx rfl rfl
set_option maxRecDepth 20000 in
theorem g179_1375 (r : Nat) (l0 l1 l2 l3 : Option AV) (s0 s1 : AV) (x : Int) (a : Nat) (M : Mem) (S : Sh) (h : S.1 a = 7) (h0 : 0 ≤ x) (h1 : x < S.2.1 a) : go r 179 1375 [l0, l1, l2, l3] [aI x, aR a, s0, s1] M S = go r 179 1376 [l0, l1, l2, l3] [aI (M a x.toNat), s0, s1] M S := go_bnd rfl ⟨h, h0, h1⟩ rfl
set_option maxRecDepth 20000 in
theorem g179_1376 (r : Nat) (l1 l2 l3 : Option AV) (s0 s1 s2 : AV) (a : Nat) (M : Mem) (S : Sh) : go r 179 1376 [some (aR a), l1, l2, l3] [s0, s1, s2] M S = go r 179 1377 [some (aR a), l1, l2, l3] [aR a, s0, s1, s2] M S := go_nx rfl rfl
set_option maxRecDepth 20000 in
theorem g179_1376n (r : Nat) (l1 l2 l3 : Option AV) (s0 s1 s2 : AV) (M : Mem) (S : Sh) : go r 179 1376 [some aN, l1, l2, l3] [s0, s1, s2] M S = go r 179 1377 [some aN, l1, l2, l3] [aN, s0, s1, s2] M S := go_nx rfl rfl
set_option maxRecDepth 20000 in
theorem g179_1377 (r : Nat) (l0 l1 l2 : Option AV) (s0 s1 s2 s3 : AV) (x : Int) (M : Mem) (S : Sh) : go r 179 1377 [l0, l1, l2, some (aI x)] [s0, s1, s2, s3] M S = go r 179 1378 [l0, l1, l2, some (aI x)] [aI x, s0, s1, s2, s3] M S := go_nx rfl rfl
set_option maxRecDepth 20000 in
theorem g179_1378 (r : Nat) (l0 l1 l2 l3 : Option AV) (s0 s1 s2 s3 s4 : AV) (M : Mem) (S : Sh) : go r 179 1378 [l0, l1, l2, l3] [s0, s1, s2, s3, s4] M S = go r 179 1379 [l0, l1, l2, l3] [aI 3, s0, s1, s2, s3, s4] M S := go_nx rfl rfl
set_option maxRecDepth 20000 in
theorem g179_1379 (r : Nat) (l0 l1 l2 l3 : Option AV) (s0 s1 s2 s3 : AV) (x y : Int) (M : Mem) (S : Sh) : go r 179 1379 [l0, l1, l2, l3] [aI y, aI x, s0, s1, s2, s3] M S = go r 179 1380 [l0, l1, l2, l3] [aI (w32 (x + y)), s0, s1, s2, s3] M S := go_nx rfl rfl
set_option maxRecDepth 20000 in
theorem g179_1380 (r : Nat) (l0 l1 l2 l3 : Option AV) (s0 s1 s2 : AV) (x : Int) (a : Nat) (M : Mem) (S : Sh) (h : S.1 a = 7) (h0 : 0 ≤ x) (h1 : x < S.2.1 a) : go r 179 1380 [l0, l1, l2, l3] [aI x, aR a, s0, s1, s2] M S = go r 179 1381 [l0, l1, l2, l3] [aI (M a x.toNat), s0, s1, s2] M S := go_bnd rfl ⟨h, h0, h1⟩ rfl
set_option maxRecDepth 20000 in
theorem g179_1381 (r : Nat) (l1 l2 l3 : Option AV) (s0 s1 s2 s3 : AV) (a : Nat) (M : Mem) (S : Sh) : go r 179 1381 [some (aR a), l1, l2, l3] [s0, s1, s2, s3] M S = go r 179 1382 [some (aR a), l1, l2, l3] [aR a, s0, s1, s2, s3] M S := go_nx rfl rfl
set_option maxRecDepth 20000 in
theorem g179_1381n (r : Nat) (l1 l2 l3 : Option AV) (s0 s1 s2 s3 : AV) (M : Mem) (S : Sh) : go r 179 1381 [some aN, l1, l2, l3] [s0, s1, s2, s3] M S = go r 179 1382 [some aN, l1, l2, l3] [aN, s0, s1, s2, s3] M S := go_nx rfl rfl
set_option maxRecDepth 20000 in
theorem g179_1382 (r : Nat) (l0 l1 l2 : Option AV) (s0 s1 s2 s3 s4 : AV) (x : Int) (M : Mem) (S : Sh) : go r 179 1382 [l0, l1, l2, some (aI x)] [s0, s1, s2, s3, s4] M S = go r 179 1383 [l0, l1, l2, some (aI x)] [aI x, s0, s1, s2, s3, s4] M S := go_nx rfl rfl
set_option maxRecDepth 20000 in
theorem g179_1383 (r : Nat) (l0 l1 l2 l3 : Option AV) (s0 s1 s2 s3 s4 s5 : AV) (M : Mem) (S : Sh) : go r 179 1383 [l0, l1, l2, l3] [s0, s1, s2, s3, s4, s5] M S = go r 179 1384 [l0, l1, l2, l3] [aI 4, s0, s1, s2, s3, s4, s5] M S := go_nx rfl rfl
set_option maxRecDepth 20000 in
theorem g179_1384 (r : Nat) (l0 l1 l2 l3 : Option AV) (s0 s1 s2 s3 s4 : AV) (x y : Int) (M : Mem) (S : Sh) : go r 179 1384 [l0, l1, l2, l3] [aI y, aI x, s0, s1, s2, s3, s4] M S = go r 179 1385 [l0, l1, l2, l3] [aI (w32 (x + y)), s0, s1, s2, s3, s4] M S := go_nx rfl rfl
set_option maxRecDepth 20000 in
theorem g179_1385 (r : Nat) (l0 l1 l2 l3 : Option AV) (s0 s1 s2 s3 : AV) (x : Int) (a : Nat) (M : Mem) (S : Sh) (h : S.1 a = 7) (h0 : 0 ≤ x) (h1 : x < S.2.1 a) : go r 179 1385 [l0, l1, l2, l3] [aI x, aR a, s0, s1, s2, s3] M S = go r 179 1386 [l0, l1, l2, l3] [aI (M a x.toNat), s0, s1, s2, s3] M S := go_bnd rfl ⟨h, h0, h1⟩ rfl
set_option maxRecDepth 20000 in
theorem g179_1386 (r : Nat) (l1 l2 l3 : Option AV) (s0 s1 s2 s3 s4 : AV) (a : Nat) (M : Mem) (S : Sh) : go r 179 1386 [some (aR a), l1, l2, l3] [s0, s1, s2, s3, s4] M S = go r 179 1387 [some (aR a), l1, l2, l3] [aR a, s0, s1, s2, s3, s4] M S := go_nx rfl rfl
set_option maxRecDepth 20000 in
theorem g179_1386n (r : Nat) (l1 l2 l3 : Option AV) (s0 s1 s2 s3 s4 : AV) (M : Mem) (S : Sh) : go r 179 1386 [some aN, l1, l2, l3] [s0, s1, s2, s3, s4] M S = go r 179 1387 [some aN, l1, l2, l3] [aN, s0, s1, s2, s3, s4] M S := go_nx rfl rfl
set_option maxRecDepth 20000 in
theorem g179_1387 (r : Nat) (l0 l1 l2 : Option AV) (s0 s1 s2 s3 s4 s5 : AV) (x : Int) (M : Mem) (S : Sh) : go r 179 1387 [l0, l1, l2, some (aI x)] [s0, s1, s2, s3, s4, s5] M S = go r 179 1388 [l0, l1, l2, some (aI x)] [aI x, s0, s1, s2, s3, s4, s5] M S := go_nx rfl rfl
set_option maxRecDepth 20000 in
theorem g179_1388 (r : Nat) (l0 l1 l2 l3 : Option AV) (s0 s1 s2 s3 s4 s5 s6 : AV) (M : Mem) (S : Sh) : go r 179 1388 [l0, l1, l2, l3] [s0, s1, s2, s3, s4, s5, s6] M S = go r 179 1389 [l0, l1, l2, l3] [aI 5, s0, s1, s2, s3, s4, s5, s6] M S := go_nx rfl rfl
set_option maxRecDepth 20000 in
theorem g179_1389 (r : Nat) (l0 l1 l2 l3 : Option AV) (s0 s1 s2 s3 s4 s5 : AV) (x y : Int) (M : Mem) (S : Sh) : go r 179 1389 [l0, l1, l2, l3] [aI y, aI x, s0, s1, s2, s3, s4, s5] M S = go r 179 1390 [l0, l1, l2, l3] [aI (w32 (x + y)), s0, s1, s2, s3, s4, s5] M S := go_nx rfl rfl
set_option maxRecDepth 20000 in
theorem g179_1390 (r : Nat) (l0 l1 l2 l3 : Option AV) (s0 s1 s2 s3 s4 : AV) (x : Int) (a : Nat) (M : Mem) (S : Sh) (h : S.1 a = 7) (h0 : 0 ≤ x) (h1 : x < S.2.1 a) : go r 179 1390 [l0, l1, l2, l3] [aI x, aR a, s0, s1, s2, s3, s4] M S = go r 179 1391 [l0, l1, l2, l3] [aI (M a x.toNat), s0, s1, s2, s3, s4] M S := go_bnd rfl ⟨h, h0, h1⟩ rfl
set_option maxRecDepth 20000 in
theorem g179_1391 (r : Nat) (l0 l1 l2 l3 : Option AV) (x1 x2 x3 x4 x5 : Int) (a0 : Nat) (M : Mem) (S : Sh) (hk : 11 < r) (h : S.1 a0 = 5) : go r 179 1391 [l0, l1, l2, l3] [aI x5, aI x4, aI x3, aI x2, aI x1, aR a0] M S = cont r 179 1394 [l0, l1, l2, l3] [] 1 (res 81 [aR a0, aI x1, aI x2, aI x3, aI x4, aI x5] M S) := go_cr0 (m' := 81) (n := 6) (pc' := 1394) (hr := 1) rfl rfl rfl h rfl rfl rfl rfl hk rfl
set_option maxRecDepth 20000 in
theorem g179_1394 (r : Nat) (l0 l1 l3 : Option AV) (s0 : AV) (a : Nat) (M : Mem) (S : Sh) : go r 179 1394 [l0, l1, some (aR a), l3] [s0] M S = go r 179 1395 [l0, l1, some (aR a), l3] [aR a, s0] M S := go_nx rfl rfl
set_option maxRecDepth 20000 in
theorem g179_1394n (r : Nat) (l0 l1 l3 : Option AV) (s0 : AV) (M : Mem) (S : Sh) : go r 179 1394 [l0, l1, some aN, l3] [s0] M S = go r 179 1395 [l0, l1, some aN, l3] [aN, s0] M S := go_nx rfl rfl
set_option maxRecDepth 20000 in
theorem g179_1395 (r : Nat) (l1 l2 l3 : Option AV) (s0 s1 : AV) (a : Nat) (M : Mem) (S : Sh) : go r 179 1395 [some (aR a), l1, l2, l3] [s0, s1] M S = go r 179 1396 [some (aR a), l1, l2, l3] [aR a, s0, s1] M S := go_nx rfl rfl
set_option maxRecDepth 20000 in
theorem g179_1395n (r : Nat) (l1 l2 l3 : Option AV) (s0 s1 : AV) (M : Mem) (S : Sh) : go r 179 1395 [some aN, l1, l2, l3] [s0, s1] M S = go r 179 1396 [some aN, l1, l2, l3] [aN, s0, s1] M S := go_nx rfl rfl
set_option maxRecDepth 20000 in
theorem g179_1396 (r : Nat) (l0 l1 l2 : Option AV) (s0 s1 s2 : AV) (x : Int) (M : Mem) (S : Sh) : go r 179 1396 [l0, l1, l2, some (aI x)] [s0, s1, s2] M S = go r 179 1397 [l0, l1, l2, some (aI x)] [aI x, s0, s1, s2] M S := go_nx rfl rfl
set_option maxRecDepth 20000 in
theorem g179_1397 (r : Nat) (l0 l1 l2 l3 : Option AV) (s0 s1 s2 s3 : AV) (M : Mem) (S : Sh) : go r 179 1397 [l0, l1, l2, l3] [s0, s1, s2, s3] M S = go r 179 1398 [l0, l1, l2, l3] [aI 1, s0, s1, s2, s3] M S := go_nx rfl rfl
set_option maxRecDepth 20000 in
theorem g179_1398 (r : Nat) (l0 l1 l2 l3 : Option AV) (s0 s1 s2 : AV) (x y : Int) (M : Mem) (S : Sh) : go r 179 1398 [l0, l1, l2, l3] [aI y, aI x, s0, s1, s2] M S = go r 179 1399 [l0, l1, l2, l3] [aI (w32 (x + y)), s0, s1, s2] M S := go_nx rfl rfl
set_option maxRecDepth 20000 in
theorem g179_1399 (r : Nat) (l0 l1 l2 l3 : Option AV) (s0 s1 : AV) (x : Int) (a : Nat) (M : Mem) (S : Sh) (h : S.1 a = 7) (h0 : 0 ≤ x) (h1 : x < S.2.1 a) : go r 179 1399 [l0, l1, l2, l3] [aI x, aR a, s0, s1] M S = go r 179 1400 [l0, l1, l2, l3] [aI (M a x.toNat), s0, s1] M S := go_bnd rfl ⟨h, h0, h1⟩ rfl
set_option maxRecDepth 20000 in
theorem g179_1400 (r : Nat) (l1 l2 l3 : Option AV) (s0 s1 s2 : AV) (a : Nat) (M : Mem) (S : Sh) : go r 179 1400 [some (aR a), l1, l2, l3] [s0, s1, s2] M S = go r 179 1401 [some (aR a), l1, l2, l3] [aR a, s0, s1, s2] M S := go_nx rfl rfl
set_option maxRecDepth 20000 in
theorem g179_1400n (r : Nat) (l1 l2 l3 : Option AV) (s0 s1 s2 : AV) (M : Mem) (S : Sh) : go r 179 1400 [some aN, l1, l2, l3] [s0, s1, s2] M S = go r 179 1401 [some aN, l1, l2, l3] [aN, s0, s1, s2] M S := go_nx rfl rfl
set_option maxRecDepth 20000 in
theorem g179_1401 (r : Nat) (l0 l1 l2 : Option AV) (s0 s1 s2 s3 : AV) (x : Int) (M : Mem) (S : Sh) : go r 179 1401 [l0, l1, l2, some (aI x)] [s0, s1, s2, s3] M S = go r 179 1402 [l0, l1, l2, some (aI x)] [aI x, s0, s1, s2, s3] M S := go_nx rfl rfl
set_option maxRecDepth 20000 in
theorem g179_1402 (r : Nat) (l0 l1 l2 l3 : Option AV) (s0 s1 s2 s3 s4 : AV) (M : Mem) (S : Sh) : go r 179 1402 [l0, l1, l2, l3] [s0, s1, s2, s3, s4] M S = go r 179 1403 [l0, l1, l2, l3] [aI 2, s0, s1, s2, s3, s4] M S := go_nx rfl rfl
set_option maxRecDepth 20000 in
theorem g179_1403 (r : Nat) (l0 l1 l2 l3 : Option AV) (s0 s1 s2 s3 : AV) (x y : Int) (M : Mem) (S : Sh) : go r 179 1403 [l0, l1, l2, l3] [aI y, aI x, s0, s1, s2, s3] M S = go r 179 1404 [l0, l1, l2, l3] [aI (w32 (x + y)), s0, s1, s2, s3] M S := go_nx rfl rfl
set_option maxRecDepth 20000 in
theorem g179_1404 (r : Nat) (l0 l1 l2 l3 : Option AV) (s0 s1 s2 : AV) (x : Int) (a : Nat) (M : Mem) (S : Sh) (h : S.1 a = 7) (h0 : 0 ≤ x) (h1 : x < S.2.1 a) : go r 179 1404 [l0, l1, l2, l3] [aI x, aR a, s0, s1, s2] M S = go r 179 1405 [l0, l1, l2, l3] [aI (M a x.toNat), s0, s1, s2] M S := go_bnd rfl ⟨h, h0, h1⟩ rfl
set_option maxRecDepth 20000 in
theorem g179_1405 (r : Nat) (l1 l2 l3 : Option AV) (s0 s1 s2 s3 : AV) (a : Nat) (M : Mem) (S : Sh) : go r 179 1405 [some (aR a), l1, l2, l3] [s0, s1, s2, s3] M S = go r 179 1406 [some (aR a), l1, l2, l3] [aR a, s0, s1, s2, s3] M S := go_nx rfl rfl
set_option maxRecDepth 20000 in
theorem g179_1405n (r : Nat) (l1 l2 l3 : Option AV) (s0 s1 s2 s3 : AV) (M : Mem) (S : Sh) : go r 179 1405 [some aN, l1, l2, l3] [s0, s1, s2, s3] M S = go r 179 1406 [some aN, l1, l2, l3] [aN, s0, s1, s2, s3] M S := go_nx rfl rfl
set_option maxRecDepth 20000 in
theorem g179_1406 (r : Nat) (l0 l1 l2 : Option AV) (s0 s1 s2 s3 s4 : AV) (x : Int) (M : Mem) (S : Sh) : go r 179 1406 [l0, l1, l2, some (aI x)] [s0, s1, s2, s3, s4] M S = go r 179 1407 [l0, l1, l2, some (aI x)] [aI x, s0, s1, s2, s3, s4] M S := go_nx rfl rfl
set_option maxRecDepth 20000 in
theorem g179_1407 (r : Nat) (l0 l1 l2 l3 : Option AV) (s0 s1 s2 s3 s4 s5 : AV) (M : Mem) (S : Sh) : go r 179 1407 [l0, l1, l2, l3] [s0, s1, s2, s3, s4, s5] M S = go r 179 1408 [l0, l1, l2, l3] [aI 3, s0, s1, s2, s3, s4, s5] M S := go_nx rfl rfl
set_option maxRecDepth 20000 in
theorem g179_1408 (r : Nat) (l0 l1 l2 l3 : Option AV) (s0 s1 s2 s3 s4 : AV) (x y : Int) (M : Mem) (S : Sh) : go r 179 1408 [l0, l1, l2, l3] [aI y, aI x, s0, s1, s2, s3, s4] M S = go r 179 1409 [l0, l1, l2, l3] [aI (w32 (x + y)), s0, s1, s2, s3, s4] M S := go_nx rfl rfl
set_option maxRecDepth 20000 in
theorem g179_1409 (r : Nat) (l0 l1 l2 l3 : Option AV) (s0 s1 s2 s3 : AV) (x : Int) (a : Nat) (M : Mem) (S : Sh) (h : S.1 a = 7) (h0 : 0 ≤ x) (h1 : x < S.2.1 a) : go r 179 1409 [l0, l1, l2, l3] [aI x, aR a, s0, s1, s2, s3] M S = go r 179 1410 [l0, l1, l2, l3] [aI (M a x.toNat), s0, s1, s2, s3] M S := go_bnd rfl ⟨h, h0, h1⟩ rfl
set_option maxRecDepth 20000 in
theorem g179_1410 (r : Nat) (l1 l2 l3 : Option AV) (s0 s1 s2 s3 s4 : AV) (a : Nat) (M : Mem) (S : Sh) : go r 179 1410 [some (aR a), l1, l2, l3] [s0, s1, s2, s3, s4] M S = go r 179 1411 [some (aR a), l1, l2, l3] [aR a, s0, s1, s2, s3, s4] M S := go_nx rfl rfl
set_option maxRecDepth 20000 in
theorem g179_1410n (r : Nat) (l1 l2 l3 : Option AV) (s0 s1 s2 s3 s4 : AV) (M : Mem) (S : Sh) : go r 179 1410 [some aN, l1, l2, l3] [s0, s1, s2, s3, s4] M S = go r 179 1411 [some aN, l1, l2, l3] [aN, s0, s1, s2, s3, s4] M S := go_nx rfl rfl
set_option maxRecDepth 20000 in
theorem g179_1411 (r : Nat) (l0 l1 l2 : Option AV) (s0 s1 s2 s3 s4 s5 : AV) (x : Int) (M : Mem) (S : Sh) : go r 179 1411 [l0, l1, l2, some (aI x)] [s0, s1, s2, s3, s4, s5] M S = go r 179 1412 [l0, l1, l2, some (aI x)] [aI x, s0, s1, s2, s3, s4, s5] M S := go_nx rfl rfl
set_option maxRecDepth 20000 in
theorem g179_1412 (r : Nat) (l0 l1 l2 l3 : Option AV) (s0 s1 s2 s3 s4 s5 s6 : AV) (M : Mem) (S : Sh) : go r 179 1412 [l0, l1, l2, l3] [s0, s1, s2, s3, s4, s5, s6] M S = go r 179 1413 [l0, l1, l2, l3] [aI 4, s0, s1, s2, s3, s4, s5, s6] M S := go_nx rfl rfl
set_option maxRecDepth 20000 in
theorem g179_1413 (r : Nat) (l0 l1 l2 l3 : Option AV) (s0 s1 s2 s3 s4 s5 : AV) (x y : Int) (M : Mem) (S : Sh) : go r 179 1413 [l0, l1, l2, l3] [aI y, aI x, s0, s1, s2, s3, s4, s5] M S = go r 179 1414 [l0, l1, l2, l3] [aI (w32 (x + y)), s0, s1, s2, s3, s4, s5] M S := go_nx rfl rfl
set_option maxRecDepth 20000 in
theorem g179_1414 (r : Nat) (l0 l1 l2 l3 : Option AV) (s0 s1 s2 s3 s4 : AV) (x : Int) (a : Nat) (M : Mem) (S : Sh) (h : S.1 a = 7) (h0 : 0 ≤ x) (h1 : x < S.2.1 a) : go r 179 1414 [l0, l1, l2, l3] [aI x, aR a, s0, s1, s2, s3, s4] M S = go r 179 1415 [l0, l1, l2, l3] [aI (M a x.toNat), s0, s1, s2, s3, s4] M S := go_bnd rfl ⟨h, h0, h1⟩ rfl
set_option maxRecDepth 20000 in
theorem g179_1415 (r : Nat) (l1 l2 l3 : Option AV) (s0 s1 s2 s3 s4 s5 : AV) (a : Nat) (M : Mem) (S : Sh) : go r 179 1415 [some (aR a), l1, l2, l3] [s0, s1, s2, s3, s4, s5] M S = go r 179 1416 [some (aR a), l1, l2, l3] [aR a, s0, s1, s2, s3, s4, s5] M S := go_nx rfl rfl
set_option maxRecDepth 20000 in
theorem g179_1415n (r : Nat) (l1 l2 l3 : Option AV) (s0 s1 s2 s3 s4 s5 : AV) (M : Mem) (S : Sh) : go r 179 1415 [some aN, l1, l2, l3] [s0, s1, s2, s3, s4, s5] M S = go r 179 1416 [some aN, l1, l2, l3] [aN, s0, s1, s2, s3, s4, s5] M S := go_nx rfl rfl
set_option maxRecDepth 20000 in
theorem g179_1416 (r : Nat) (l0 l1 l2 : Option AV) (s0 s1 s2 s3 s4 s5 s6 : AV) (x : Int) (M : Mem) (S : Sh) : go r 179 1416 [l0, l1, l2, some (aI x)] [s0, s1, s2, s3, s4, s5, s6] M S = go r 179 1417 [l0, l1, l2, some (aI x)] [aI x, s0, s1, s2, s3, s4, s5, s6] M S := go_nx rfl rfl
set_option maxRecDepth 20000 in
theorem g179_1417 (r : Nat) (l0 l1 l2 l3 : Option AV) (s0 s1 s2 s3 s4 s5 s6 s7 : AV) (M : Mem) (S : Sh) : go r 179 1417 [l0, l1, l2, l3] [s0, s1, s2, s3, s4, s5, s6, s7] M S = go r 179 1418 [l0, l1, l2, l3] [aI 5, s0, s1, s2, s3, s4, s5, s6, s7] M S := go_nx rfl rfl
set_option maxRecDepth 20000 in
theorem g179_1418 (r : Nat) (l0 l1 l2 l3 : Option AV) (s0 s1 s2 s3 s4 s5 s6 : AV) (x y : Int) (M : Mem) (S : Sh) : go r 179 1418 [l0, l1, l2, l3] [aI y, aI x, s0, s1, s2, s3, s4, s5, s6] M S = go r 179 1419 [l0, l1, l2, l3] [aI (w32 (x + y)), s0, s1, s2, s3, s4, s5, s6] M S := go_nx rfl rfl
set_option maxRecDepth 20000 in
theorem g179_1419 (r : Nat) (l0 l1 l2 l3 : Option AV) (s0 s1 s2 s3 s4 s5 : AV) (x : Int) (a : Nat) (M : Mem) (S : Sh) (h : S.1 a = 7) (h0 : 0 ≤ x) (h1 : x < S.2.1 a) : go r 179 1419 [l0, l1, l2, l3] [aI x, aR a, s0, s1, s2, s3, s4, s5] M S = go r 179 1420 [l0, l1, l2, l3] [aI (M a x.toNat), s0, s1, s2, s3, s4, s5] M S := go_bnd rfl ⟨h, h0, h1⟩ rfl
set_option maxRecDepth 20000 in
theorem g179_1420 (r : Nat) (l0 l1 l2 l3 : Option AV) (s0 : AV) (x1 x2 x3 x4 x5 : Int) (a0 : Nat) (M : Mem) (S : Sh) (hk : 11 < r) (h : S.1 a0 = 6) : go r 179 1420 [l0, l1, l2, l3] [aI x5, aI x4, aI x3, aI x2, aI x1, aR a0, s0] M S = cont r 179 1423 [l0, l1, l2, l3] [s0] 1 (res 175 [aR a0, aI x1, aI x2, aI x3, aI x4, aI x5] M S) := go_cr0 (m' := 175) (n := 6) (pc' := 1423) (hr := 1) rfl rfl rfl h rfl rfl rfl rfl hk rfl
set_option maxRecDepth 20000 in
theorem g179_1423 (r : Nat) (l0 l1 l2 l3 : Option AV) (x y : Int) (M : Mem) (S : Sh) : go r 179 1423 [l0, l1, l2, l3] [aI y, aI x] M S = if x = y then go r 179 1514 [l0, l1, l2, l3] [] M S else go r 179 1426 [l0, l1, l2, l3] [] M S := go_br rfl rfl rfl rfl rfl
set_option maxRecDepth 20000 in
theorem g179_1426 (r : Nat) (l0 l1 l2 l3 : Option AV) (M : Mem) (S : Sh) : go r 179 1426 [l0, l1, l2, l3] [] M S = go r 179 1427 [l0, l1, l2, l3] [aI 0] M S := go_nx rfl rfl
set_option maxRecDepth 20000 in
theorem g179_1427 (r : Nat) (l0 l1 l2 l3 : Option AV) (x : Int) (M : Mem) (S : Sh) (h : x = 0 ∨ x = 1) : go r 179 1427 [l0, l1, l2, l3] [aI x] M S = some (some (aI x), M, S) := go_rt rfl (bnd_t (Or.inr h))
set_option maxRecDepth 20000 in
theorem g179_1428 (r : Nat) (l0 l2 l3 : Option AV) (a : Nat) (M : Mem) (S : Sh) : go r 179 1428 [l0, some (aR a), l2, l3] [] M S = go r 179 1429 [l0, some (aR a), l2, l3] [aR a] M S := go_nx rfl rfl
set_option maxRecDepth 20000 in
theorem g179_1428n (r : Nat) (l0 l2 l3 : Option AV) (M : Mem) (S : Sh) : go r 179 1428 [l0, some aN, l2, l3] [] M S = go r 179 1429 [l0, some aN, l2, l3] [aN] M S := go_nx rfl rfl
set_option maxRecDepth 20000 in
theorem g179_1429 (r : Nat) (l1 l2 l3 : Option AV) (s0 : AV) (a : Nat) (M : Mem) (S : Sh) : go r 179 1429 [some (aR a), l1, l2, l3] [s0] M S = go r 179 1430 [some (aR a), l1, l2, l3] [aR a, s0] M S := go_nx rfl rfl
set_option maxRecDepth 20000 in
theorem g179_1429n (r : Nat) (l1 l2 l3 : Option AV) (s0 : AV) (M : Mem) (S : Sh) : go r 179 1429 [some aN, l1, l2, l3] [s0] M S = go r 179 1430 [some aN, l1, l2, l3] [aN, s0] M S := go_nx rfl rfl
set_option maxRecDepth 20000 in
theorem g179_1430 (r : Nat) (l0 l1 l2 : Option AV) (s0 s1 : AV) (x : Int) (M : Mem) (S : Sh) : go r 179 1430 [l0, l1, l2, some (aI x)] [s0, s1] M S = go r 179 1431 [l0, l1, l2, some (aI x)] [aI x, s0, s1] M S := go_nx rfl rfl
set_option maxRecDepth 20000 in
theorem g179_1431 (r : Nat) (l0 l1 l2 l3 : Option AV) (s0 s1 s2 : AV) (M : Mem) (S : Sh) : go r 179 1431 [l0, l1, l2, l3] [s0, s1, s2] M S = go r 179 1432 [l0, l1, l2, l3] [aI 1, s0, s1, s2] M S := go_nx rfl rfl
set_option maxRecDepth 20000 in
theorem g179_1432 (r : Nat) (l0 l1 l2 l3 : Option AV) (s0 s1 : AV) (x y : Int) (M : Mem) (S : Sh) : go r 179 1432 [l0, l1, l2, l3] [aI y, aI x, s0, s1] M S = go r 179 1433 [l0, l1, l2, l3] [aI (w32 (x + y)), s0, s1] M S := go_nx rfl rfl
set_option maxRecDepth 20000 in
theorem g179_1433 (r : Nat) (l0 l1 l2 l3 : Option AV) (s0 : AV) (x : Int) (a : Nat) (M : Mem) (S : Sh) (h : S.1 a = 7) (h0 : 0 ≤ x) (h1 : x < S.2.1 a) : go r 179 1433 [l0, l1, l2, l3] [aI x, aR a, s0] M S = go r 179 1434 [l0, l1, l2, l3] [aI (M a x.toNat), s0] M S := go_bnd rfl ⟨h, h0, h1⟩ rfl
set_option maxRecDepth 20000 in
theorem g179_1434 (r : Nat) (l1 l2 l3 : Option AV) (s0 s1 : AV) (a : Nat) (M : Mem) (S : Sh) : go r 179 1434 [some (aR a), l1, l2, l3] [s0, s1] M S = go r 179 1435 [some (aR a), l1, l2, l3] [aR a, s0, s1] M S := go_nx rfl rfl
set_option maxRecDepth 20000 in
theorem g179_1434n (r : Nat) (l1 l2 l3 : Option AV) (s0 s1 : AV) (M : Mem) (S : Sh) : go r 179 1434 [some aN, l1, l2, l3] [s0, s1] M S = go r 179 1435 [some aN, l1, l2, l3] [aN, s0, s1] M S := go_nx rfl rfl
set_option maxRecDepth 20000 in
theorem g179_1435 (r : Nat) (l0 l1 l2 : Option AV) (s0 s1 s2 : AV) (x : Int) (M : Mem) (S : Sh) : go r 179 1435 [l0, l1, l2, some (aI x)] [s0, s1, s2] M S = go r 179 1436 [l0, l1, l2, some (aI x)] [aI x, s0, s1, s2] M S := go_nx rfl rfl
set_option maxRecDepth 20000 in
theorem g179_1436 (r : Nat) (l0 l1 l2 l3 : Option AV) (s0 s1 s2 s3 : AV) (M : Mem) (S : Sh) : go r 179 1436 [l0, l1, l2, l3] [s0, s1, s2, s3] M S = go r 179 1437 [l0, l1, l2, l3] [aI 2, s0, s1, s2, s3] M S := go_nx rfl rfl
set_option maxRecDepth 20000 in
theorem g179_1437 (r : Nat) (l0 l1 l2 l3 : Option AV) (s0 s1 s2 : AV) (x y : Int) (M : Mem) (S : Sh) : go r 179 1437 [l0, l1, l2, l3] [aI y, aI x, s0, s1, s2] M S = go r 179 1438 [l0, l1, l2, l3] [aI (w32 (x + y)), s0, s1, s2] M S := go_nx rfl rfl
set_option maxRecDepth 20000 in
theorem g179_1438 (r : Nat) (l0 l1 l2 l3 : Option AV) (s0 s1 : AV) (x : Int) (a : Nat) (M : Mem) (S : Sh) (h : S.1 a = 7) (h0 : 0 ≤ x) (h1 : x < S.2.1 a) : go r 179 1438 [l0, l1, l2, l3] [aI x, aR a, s0, s1] M S = go r 179 1439 [l0, l1, l2, l3] [aI (M a x.toNat), s0, s1] M S := go_bnd rfl ⟨h, h0, h1⟩ rfl
set_option maxRecDepth 20000 in
theorem g179_1439 (r : Nat) (l1 l2 l3 : Option AV) (s0 s1 s2 : AV) (a : Nat) (M : Mem) (S : Sh) : go r 179 1439 [some (aR a), l1, l2, l3] [s0, s1, s2] M S = go r 179 1440 [some (aR a), l1, l2, l3] [aR a, s0, s1, s2] M S := go_nx rfl rfl
set_option maxRecDepth 20000 in
theorem g179_1439n (r : Nat) (l1 l2 l3 : Option AV) (s0 s1 s2 : AV) (M : Mem) (S : Sh) : go r 179 1439 [some aN, l1, l2, l3] [s0, s1, s2] M S = go r 179 1440 [some aN, l1, l2, l3] [aN, s0, s1, s2] M S := go_nx rfl rfl
set_option maxRecDepth 20000 in
theorem g179_1440 (r : Nat) (l0 l1 l2 : Option AV) (s0 s1 s2 s3 : AV) (x : Int) (M : Mem) (S : Sh) : go r 179 1440 [l0, l1, l2, some (aI x)] [s0, s1, s2, s3] M S = go r 179 1441 [l0, l1, l2, some (aI x)] [aI x, s0, s1, s2, s3] M S := go_nx rfl rfl
set_option maxRecDepth 20000 in
theorem g179_1441 (r : Nat) (l0 l1 l2 l3 : Option AV) (s0 s1 s2 s3 s4 : AV) (M : Mem) (S : Sh) : go r 179 1441 [l0, l1, l2, l3] [s0, s1, s2, s3, s4] M S = go r 179 1442 [l0, l1, l2, l3] [aI 3, s0, s1, s2, s3, s4] M S := go_nx rfl rfl
set_option maxRecDepth 20000 in
theorem g179_1442 (r : Nat) (l0 l1 l2 l3 : Option AV) (s0 s1 s2 s3 : AV) (x y : Int) (M : Mem) (S : Sh) : go r 179 1442 [l0, l1, l2, l3] [aI y, aI x, s0, s1, s2, s3] M S = go r 179 1443 [l0, l1, l2, l3] [aI (w32 (x + y)), s0, s1, s2, s3] M S := go_nx rfl rfl
set_option maxRecDepth 20000 in
theorem g179_1443 (r : Nat) (l0 l1 l2 l3 : Option AV) (s0 s1 s2 : AV) (x : Int) (a : Nat) (M : Mem) (S : Sh) (h : S.1 a = 7) (h0 : 0 ≤ x) (h1 : x < S.2.1 a) : go r 179 1443 [l0, l1, l2, l3] [aI x, aR a, s0, s1, s2] M S = go r 179 1444 [l0, l1, l2, l3] [aI (M a x.toNat), s0, s1, s2] M S := go_bnd rfl ⟨h, h0, h1⟩ rfl
set_option maxRecDepth 20000 in
theorem g179_1444 (r : Nat) (l1 l2 l3 : Option AV) (s0 s1 s2 s3 : AV) (a : Nat) (M : Mem) (S : Sh) : go r 179 1444 [some (aR a), l1, l2, l3] [s0, s1, s2, s3] M S = go r 179 1445 [some (aR a), l1, l2, l3] [aR a, s0, s1, s2, s3] M S := go_nx rfl rfl
set_option maxRecDepth 20000 in
theorem g179_1444n (r : Nat) (l1 l2 l3 : Option AV) (s0 s1 s2 s3 : AV) (M : Mem) (S : Sh) : go r 179 1444 [some aN, l1, l2, l3] [s0, s1, s2, s3] M S = go r 179 1445 [some aN, l1, l2, l3] [aN, s0, s1, s2, s3] M S := go_nx rfl rfl
set_option maxRecDepth 20000 in
theorem g179_1445 (r : Nat) (l0 l1 l2 : Option AV) (s0 s1 s2 s3 s4 : AV) (x : Int) (M : Mem) (S : Sh) : go r 179 1445 [l0, l1, l2, some (aI x)] [s0, s1, s2, s3, s4] M S = go r 179 1446 [l0, l1, l2, some (aI x)] [aI x, s0, s1, s2, s3, s4] M S := go_nx rfl rfl
set_option maxRecDepth 20000 in
theorem g179_1446 (r : Nat) (l0 l1 l2 l3 : Option AV) (s0 s1 s2 s3 s4 s5 : AV) (M : Mem) (S : Sh) : go r 179 1446 [l0, l1, l2, l3] [s0, s1, s2, s3, s4, s5] M S = go r 179 1447 [l0, l1, l2, l3] [aI 4, s0, s1, s2, s3, s4, s5] M S := go_nx rfl rfl
set_option maxRecDepth 20000 in
theorem g179_1447 (r : Nat) (l0 l1 l2 l3 : Option AV) (s0 s1 s2 s3 s4 : AV) (x y : Int) (M : Mem) (S : Sh) : go r 179 1447 [l0, l1, l2, l3] [aI y, aI x, s0, s1, s2, s3, s4] M S = go r 179 1448 [l0, l1, l2, l3] [aI (w32 (x + y)), s0, s1, s2, s3, s4] M S := go_nx rfl rfl
set_option maxRecDepth 20000 in
theorem g179_1448 (r : Nat) (l0 l1 l2 l3 : Option AV) (s0 s1 s2 s3 : AV) (x : Int) (a : Nat) (M : Mem) (S : Sh) (h : S.1 a = 7) (h0 : 0 ≤ x) (h1 : x < S.2.1 a) : go r 179 1448 [l0, l1, l2, l3] [aI x, aR a, s0, s1, s2, s3] M S = go r 179 1449 [l0, l1, l2, l3] [aI (M a x.toNat), s0, s1, s2, s3] M S := go_bnd rfl ⟨h, h0, h1⟩ rfl
set_option maxRecDepth 20000 in
theorem g179_1449 (r : Nat) (l0 l1 l2 l3 : Option AV) (x1 x2 x3 x4 : Int) (a0 : Nat) (M : Mem) (S : Sh) (hk : 11 < r) (h : S.1 a0 = 5) : go r 179 1449 [l0, l1, l2, l3] [aI x4, aI x3, aI x2, aI x1, aR a0] M S = cont r 179 1452 [l0, l1, l2, l3] [] 1 (res 82 [aR a0, aI x1, aI x2, aI x3, aI x4] M S) := go_cr0 (m' := 82) (n := 5) (pc' := 1452) (hr := 1) rfl rfl rfl h rfl rfl rfl rfl hk rfl
set_option maxRecDepth 20000 in
theorem g179_1452 (r : Nat) (l0 l1 l3 : Option AV) (s0 : AV) (a : Nat) (M : Mem) (S : Sh) : go r 179 1452 [l0, l1, some (aR a), l3] [s0] M S = go r 179 1453 [l0, l1, some (aR a), l3] [aR a, s0] M S := go_nx rfl rfl
set_option maxRecDepth 20000 in
theorem g179_1452n (r : Nat) (l0 l1 l3 : Option AV) (s0 : AV) (M : Mem) (S : Sh) : go r 179 1452 [l0, l1, some aN, l3] [s0] M S = go r 179 1453 [l0, l1, some aN, l3] [aN, s0] M S := go_nx rfl rfl
set_option maxRecDepth 20000 in
theorem g179_1453 (r : Nat) (l1 l2 l3 : Option AV) (s0 s1 : AV) (a : Nat) (M : Mem) (S : Sh) : go r 179 1453 [some (aR a), l1, l2, l3] [s0, s1] M S = go r 179 1454 [some (aR a), l1, l2, l3] [aR a, s0, s1] M S := go_nx rfl rfl
set_option maxRecDepth 20000 in
theorem g179_1453n (r : Nat) (l1 l2 l3 : Option AV) (s0 s1 : AV) (M : Mem) (S : Sh) : go r 179 1453 [some aN, l1, l2, l3] [s0, s1] M S = go r 179 1454 [some aN, l1, l2, l3] [aN, s0, s1] M S := go_nx rfl rfl
set_option maxRecDepth 20000 in
theorem g179_1454 (r : Nat) (l0 l1 l2 : Option AV) (s0 s1 s2 : AV) (x : Int) (M : Mem) (S : Sh) : go r 179 1454 [l0, l1, l2, some (aI x)] [s0, s1, s2] M S = go r 179 1455 [l0, l1, l2, some (aI x)] [aI x, s0, s1, s2] M S := go_nx rfl rfl
set_option maxRecDepth 20000 in
theorem g179_1455 (r : Nat) (l0 l1 l2 l3 : Option AV) (s0 s1 s2 s3 : AV) (M : Mem) (S : Sh) : go r 179 1455 [l0, l1, l2, l3] [s0, s1, s2, s3] M S = go r 179 1456 [l0, l1, l2, l3] [aI 1, s0, s1, s2, s3] M S := go_nx rfl rfl
set_option maxRecDepth 20000 in
theorem g179_1456 (r : Nat) (l0 l1 l2 l3 : Option AV) (s0 s1 s2 : AV) (x y : Int) (M : Mem) (S : Sh) : go r 179 1456 [l0, l1, l2, l3] [aI y, aI x, s0, s1, s2] M S = go r 179 1457 [l0, l1, l2, l3] [aI (w32 (x + y)), s0, s1, s2] M S := go_nx rfl rfl
set_option maxRecDepth 20000 in
theorem g179_1457 (r : Nat) (l0 l1 l2 l3 : Option AV) (s0 s1 : AV) (x : Int) (a : Nat) (M : Mem) (S : Sh) (h : S.1 a = 7) (h0 : 0 ≤ x) (h1 : x < S.2.1 a) : go r 179 1457 [l0, l1, l2, l3] [aI x, aR a, s0, s1] M S = go r 179 1458 [l0, l1, l2, l3] [aI (M a x.toNat), s0, s1] M S := go_bnd rfl ⟨h, h0, h1⟩ rfl
set_option maxRecDepth 20000 in
theorem g179_1458 (r : Nat) (l1 l2 l3 : Option AV) (s0 s1 s2 : AV) (a : Nat) (M : Mem) (S : Sh) : go r 179 1458 [some (aR a), l1, l2, l3] [s0, s1, s2] M S = go r 179 1459 [some (aR a), l1, l2, l3] [aR a, s0, s1, s2] M S := go_nx rfl rfl
set_option maxRecDepth 20000 in
theorem g179_1458n (r : Nat) (l1 l2 l3 : Option AV) (s0 s1 s2 : AV) (M : Mem) (S : Sh) : go r 179 1458 [some aN, l1, l2, l3] [s0, s1, s2] M S = go r 179 1459 [some aN, l1, l2, l3] [aN, s0, s1, s2] M S := go_nx rfl rfl
set_option maxRecDepth 20000 in
theorem g179_1459 (r : Nat) (l0 l1 l2 : Option AV) (s0 s1 s2 s3 : AV) (x : Int) (M : Mem) (S : Sh) : go r 179 1459 [l0, l1, l2, some (aI x)] [s0, s1, s2, s3] M S = go r 179 1460 [l0, l1, l2, some (aI x)] [aI x, s0, s1, s2, s3] M S := go_nx rfl rfl
set_option maxRecDepth 20000 in
theorem g179_1460 (r : Nat) (l0 l1 l2 l3 : Option AV) (s0 s1 s2 s3 s4 : AV) (M : Mem) (S : Sh) : go r 179 1460 [l0, l1, l2, l3] [s0, s1, s2, s3, s4] M S = go r 179 1461 [l0, l1, l2, l3] [aI 2, s0, s1, s2, s3, s4] M S := go_nx rfl rfl
set_option maxRecDepth 20000 in
theorem g179_1461 (r : Nat) (l0 l1 l2 l3 : Option AV) (s0 s1 s2 s3 : AV) (x y : Int) (M : Mem) (S : Sh) : go r 179 1461 [l0, l1, l2, l3] [aI y, aI x, s0, s1, s2, s3] M S = go r 179 1462 [l0, l1, l2, l3] [aI (w32 (x + y)), s0, s1, s2, s3] M S := go_nx rfl rfl
set_option maxRecDepth 20000 in
theorem g179_1462 (r : Nat) (l0 l1 l2 l3 : Option AV) (s0 s1 s2 : AV) (x : Int) (a : Nat) (M : Mem) (S : Sh) (h : S.1 a = 7) (h0 : 0 ≤ x) (h1 : x < S.2.1 a) : go r 179 1462 [l0, l1, l2, l3] [aI x, aR a, s0, s1, s2] M S = go r 179 1463 [l0, l1, l2, l3] [aI (M a x.toNat), s0, s1, s2] M S := go_bnd rfl ⟨h, h0, h1⟩ rfl
set_option maxRecDepth 20000 in
theorem g179_1463 (r : Nat) (l1 l2 l3 : Option AV) (s0 s1 s2 s3 : AV) (a : Nat) (M : Mem) (S : Sh) : go r 179 1463 [some (aR a), l1, l2, l3] [s0, s1, s2, s3] M S = go r 179 1464 [some (aR a), l1, l2, l3] [aR a, s0, s1, s2, s3] M S := go_nx rfl rfl
set_option maxRecDepth 20000 in
theorem g179_1463n (r : Nat) (l1 l2 l3 : Option AV) (s0 s1 s2 s3 : AV) (M : Mem) (S : Sh) : go r 179 1463 [some aN, l1, l2, l3] [s0, s1, s2, s3] M S = go r 179 1464 [some aN, l1, l2, l3] [aN, s0, s1, s2, s3] M S := go_nx rfl rfl
set_option maxRecDepth 20000 in
theorem g179_1464 (r : Nat) (l0 l1 l2 : Option AV) (s0 s1 s2 s3 s4 : AV) (x : Int) (M : Mem) (S : Sh) : go r 179 1464 [l0, l1, l2, some (aI x)] [s0, s1, s2, s3, s4] M S = go r 179 1465 [l0, l1, l2, some (aI x)] [aI x, s0, s1, s2, s3, s4] M S := go_nx rfl rfl
set_option maxRecDepth 20000 in
theorem g179_1465 (r : Nat) (l0 l1 l2 l3 : Option AV) (s0 s1 s2 s3 s4 s5 : AV) (M : Mem) (S : Sh) : go r 179 1465 [l0, l1, l2, l3] [s0, s1, s2, s3, s4, s5] M S = go r 179 1466 [l0, l1, l2, l3] [aI 3, s0, s1, s2, s3, s4, s5] M S := go_nx rfl rfl
set_option maxRecDepth 20000 in
theorem g179_1466 (r : Nat) (l0 l1 l2 l3 : Option AV) (s0 s1 s2 s3 s4 : AV) (x y : Int) (M : Mem) (S : Sh) : go r 179 1466 [l0, l1, l2, l3] [aI y, aI x, s0, s1, s2, s3, s4] M S = go r 179 1467 [l0, l1, l2, l3] [aI (w32 (x + y)), s0, s1, s2, s3, s4] M S := go_nx rfl rfl
set_option maxRecDepth 20000 in
theorem g179_1467 (r : Nat) (l0 l1 l2 l3 : Option AV) (s0 s1 s2 s3 : AV) (x : Int) (a : Nat) (M : Mem) (S : Sh) (h : S.1 a = 7) (h0 : 0 ≤ x) (h1 : x < S.2.1 a) : go r 179 1467 [l0, l1, l2, l3] [aI x, aR a, s0, s1, s2, s3] M S = go r 179 1468 [l0, l1, l2, l3] [aI (M a x.toNat), s0, s1, s2, s3] M S := go_bnd rfl ⟨h, h0, h1⟩ rfl
set_option maxRecDepth 20000 in
theorem g179_1468 (r : Nat) (l1 l2 l3 : Option AV) (s0 s1 s2 s3 s4 : AV) (a : Nat) (M : Mem) (S : Sh) : go r 179 1468 [some (aR a), l1, l2, l3] [s0, s1, s2, s3, s4] M S = go r 179 1469 [some (aR a), l1, l2, l3] [aR a, s0, s1, s2, s3, s4] M S := go_nx rfl rfl
set_option maxRecDepth 20000 in
theorem g179_1468n (r : Nat) (l1 l2 l3 : Option AV) (s0 s1 s2 s3 s4 : AV) (M : Mem) (S : Sh) : go r 179 1468 [some aN, l1, l2, l3] [s0, s1, s2, s3, s4] M S = go r 179 1469 [some aN, l1, l2, l3] [aN, s0, s1, s2, s3, s4] M S := go_nx rfl rfl
set_option maxRecDepth 20000 in
theorem g179_1469 (r : Nat) (l0 l1 l2 : Option AV) (s0 s1 s2 s3 s4 s5 : AV) (x : Int) (M : Mem) (S : Sh) : go r 179 1469 [l0, l1, l2, some (aI x)] [s0, s1, s2, s3, s4, s5] M S = go r 179 1470 [l0, l1, l2, some (aI x)] [aI x, s0, s1, s2, s3, s4, s5] M S := go_nx rfl rfl
set_option maxRecDepth 20000 in
theorem g179_1470 (r : Nat) (l0 l1 l2 l3 : Option AV) (s0 s1 s2 s3 s4 s5 s6 : AV) (M : Mem) (S : Sh) : go r 179 1470 [l0, l1, l2, l3] [s0, s1, s2, s3, s4, s5, s6] M S = go r 179 1471 [l0, l1, l2, l3] [aI 4, s0, s1, s2, s3, s4, s5, s6] M S := go_nx rfl rfl
set_option maxRecDepth 20000 in
theorem g179_1471 (r : Nat) (l0 l1 l2 l3 : Option AV) (s0 s1 s2 s3 s4 s5 : AV) (x y : Int) (M : Mem) (S : Sh) : go r 179 1471 [l0, l1, l2, l3] [aI y, aI x, s0, s1, s2, s3, s4, s5] M S = go r 179 1472 [l0, l1, l2, l3] [aI (w32 (x + y)), s0, s1, s2, s3, s4, s5] M S := go_nx rfl rfl
set_option maxRecDepth 20000 in
theorem g179_1472 (r : Nat) (l0 l1 l2 l3 : Option AV) (s0 s1 s2 s3 s4 : AV) (x : Int) (a : Nat) (M : Mem) (S : Sh) (h : S.1 a = 7) (h0 : 0 ≤ x) (h1 : x < S.2.1 a) : go r 179 1472 [l0, l1, l2, l3] [aI x, aR a, s0, s1, s2, s3, s4] M S = go r 179 1473 [l0, l1, l2, l3] [aI (M a x.toNat), s0, s1, s2, s3, s4] M S := go_bnd rfl ⟨h, h0, h1⟩ rfl
set_option maxRecDepth 20000 in
theorem g179_1473 (r : Nat) (l0 l1 l2 l3 : Option AV) (s0 : AV) (x1 x2 x3 x4 : Int) (a0 : Nat) (M : Mem) (S : Sh) (hk : 14 < r) (h : S.1 a0 = 6) : go r 179 1473 [l0, l1, l2, l3] [aI x4, aI x3, aI x2, aI x1, aR a0, s0] M S = cont r 179 1476 [l0, l1, l2, l3] [s0] 1 (res 176 [aR a0, aI x1, aI x2, aI x3, aI x4] M S) := go_cr0 (m' := 176) (n := 5) (pc' := 1476) (hr := 1) rfl rfl rfl h rfl rfl rfl rfl hk rfl
set_option maxRecDepth 20000 in
theorem g179_1476 (r : Nat) (l0 l1 l2 l3 : Option AV) (x y : Int) (M : Mem) (S : Sh) : go r 179 1476 [l0, l1, l2, l3] [aI y, aI x] M S = if x = y then go r 179 1514 [l0, l1, l2, l3] [] M S else go r 179 1479 [l0, l1, l2, l3] [] M S := go_br rfl rfl rfl rfl rfl
set_option maxRecDepth 20000 in
theorem g179_1479 (r : Nat) (l0 l1 l2 l3 : Option AV) (M : Mem) (S : Sh) : go r 179 1479 [l0, l1, l2, l3] [] M S = go r 179 1480 [l0, l1, l2, l3] [aI 0] M S := go_nx rfl rfl
set_option maxRecDepth 20000 in
theorem g179_1480 (r : Nat) (l0 l1 l2 l3 : Option AV) (x : Int) (M : Mem) (S : Sh) (h : x = 0 ∨ x = 1) : go r 179 1480 [l0, l1, l2, l3] [aI x] M S = some (some (aI x), M, S) := go_rt rfl (bnd_t (Or.inr h))
set_option maxRecDepth 20000 in
theorem g179_1481 (r : Nat) (l0 l2 l3 : Option AV) (a : Nat) (M : Mem) (S : Sh) : go r 179 1481 [l0, some (aR a), l2, l3] [] M S = go r 179 1482 [l0, some (aR a), l2, l3] [aR a] M S := go_nx rfl rfl
set_option maxRecDepth 20000 in
theorem g179_1481n (r : Nat) (l0 l2 l3 : Option AV) (M : Mem) (S : Sh) : go r 179 1481 [l0, some aN, l2, l3] [] M S = go r 179 1482 [l0, some aN, l2, l3] [aN] M S := go_nx rfl rfl
set_option maxRecDepth 20000 in
theorem g179_1482 (r : Nat) (l1 l2 l3 : Option AV) (s0 : AV) (a : Nat) (M : Mem) (S : Sh) : go r 179 1482 [some (aR a), l1, l2, l3] [s0] M S = go r 179 1483 [some (aR a), l1, l2, l3] [aR a, s0] M S := go_nx rfl rfl
set_option maxRecDepth 20000 in
theorem g179_1482n (r : Nat) (l1 l2 l3 : Option AV) (s0 : AV) (M : Mem) (S : Sh) : go r 179 1482 [some aN, l1, l2, l3] [s0] M S = go r 179 1483 [some aN, l1, l2, l3] [aN, s0] M S := go_nx rfl rfl
set_option maxRecDepth 20000 in
theorem g179_1483 (r : Nat) (l0 l1 l2 : Option AV) (s0 s1 : AV) (x : Int) (M : Mem) (S : Sh) : go r 179 1483 [l0, l1, l2, some (aI x)] [s0, s1] M S = go r 179 1484 [l0, l1, l2, some (aI x)] [aI x, s0, s1] M S := go_nx rfl rfl
set_option maxRecDepth 20000 in
theorem g179_1484 (r : Nat) (l0 l1 l2 l3 : Option AV) (s0 s1 s2 : AV) (M : Mem) (S : Sh) : go r 179 1484 [l0, l1, l2, l3] [s0, s1, s2] M S = go r 179 1485 [l0, l1, l2, l3] [aI 1, s0, s1, s2] M S := go_nx rfl rfl
set_option maxRecDepth 20000 in
theorem g179_1485 (r : Nat) (l0 l1 l2 l3 : Option AV) (s0 s1 : AV) (x y : Int) (M : Mem) (S : Sh) : go r 179 1485 [l0, l1, l2, l3] [aI y, aI x, s0, s1] M S = go r 179 1486 [l0, l1, l2, l3] [aI (w32 (x + y)), s0, s1] M S := go_nx rfl rfl
set_option maxRecDepth 20000 in
theorem g179_1486 (r : Nat) (l0 l1 l2 l3 : Option AV) (s0 : AV) (x : Int) (a : Nat) (M : Mem) (S : Sh) (h : S.1 a = 7) (h0 : 0 ≤ x) (h1 : x < S.2.1 a) : go r 179 1486 [l0, l1, l2, l3] [aI x, aR a, s0] M S = go r 179 1487 [l0, l1, l2, l3] [aI (M a x.toNat), s0] M S := go_bnd rfl ⟨h, h0, h1⟩ rfl
set_option maxRecDepth 20000 in
theorem g179_1487 (r : Nat) (l1 l2 l3 : Option AV) (s0 s1 : AV) (a : Nat) (M : Mem) (S : Sh) : go r 179 1487 [some (aR a), l1, l2, l3] [s0, s1] M S = go r 179 1488 [some (aR a), l1, l2, l3] [aR a, s0, s1] M S := go_nx rfl rfl
set_option maxRecDepth 20000 in
theorem g179_1487n (r : Nat) (l1 l2 l3 : Option AV) (s0 s1 : AV) (M : Mem) (S : Sh) : go r 179 1487 [some aN, l1, l2, l3] [s0, s1] M S = go r 179 1488 [some aN, l1, l2, l3] [aN, s0, s1] M S := go_nx rfl rfl
set_option maxRecDepth 20000 in
theorem g179_1488 (r : Nat) (l0 l1 l2 : Option AV) (s0 s1 s2 : AV) (x : Int) (M : Mem) (S : Sh) : go r 179 1488 [l0, l1, l2, some (aI x)] [s0, s1, s2] M S = go r 179 1489 [l0, l1, l2, some (aI x)] [aI x, s0, s1, s2] M S := go_nx rfl rfl
set_option maxRecDepth 20000 in
theorem g179_1489 (r : Nat) (l0 l1 l2 l3 : Option AV) (s0 s1 s2 s3 : AV) (M : Mem) (S : Sh) : go r 179 1489 [l0, l1, l2, l3] [s0, s1, s2, s3] M S = go r 179 1490 [l0, l1, l2, l3] [aI 2, s0, s1, s2, s3] M S := go_nx rfl rfl
set_option maxRecDepth 20000 in
theorem g179_1490 (r : Nat) (l0 l1 l2 l3 : Option AV) (s0 s1 s2 : AV) (x y : Int) (M : Mem) (S : Sh) : go r 179 1490 [l0, l1, l2, l3] [aI y, aI x, s0, s1, s2] M S = go r 179 1491 [l0, l1, l2, l3] [aI (w32 (x + y)), s0, s1, s2] M S := go_nx rfl rfl
set_option maxRecDepth 20000 in
theorem g179_1491 (r : Nat) (l0 l1 l2 l3 : Option AV) (s0 s1 : AV) (x : Int) (a : Nat) (M : Mem) (S : Sh) (h : S.1 a = 7) (h0 : 0 ≤ x) (h1 : x < S.2.1 a) : go r 179 1491 [l0, l1, l2, l3] [aI x, aR a, s0, s1] M S = go r 179 1492 [l0, l1, l2, l3] [aI (M a x.toNat), s0, s1] M S := go_bnd rfl ⟨h, h0, h1⟩ rfl
set_option maxRecDepth 20000 in
theorem g179_1492 (r : Nat) (l0 l1 l2 l3 : Option AV) (x1 x2 : Int) (a0 : Nat) (M : Mem) (S : Sh) (hk : 12 < r) (h : S.1 a0 = 5) : go r 179 1492 [l0, l1, l2, l3] [aI x2, aI x1, aR a0] M S = cont r 179 1495 [l0, l1, l2, l3] [] 1 (res 83 [aR a0, aI x1, aI x2] M S) := go_cr0 (m' := 83) (n := 3) (pc' := 1495) (hr := 1) rfl rfl rfl h rfl rfl rfl rfl hk rfl
set_option maxRecDepth 20000 in
theorem g179_1495 (r : Nat) (l0 l1 l3 : Option AV) (s0 : AV) (a : Nat) (M : Mem) (S : Sh) : go r 179 1495 [l0, l1, some (aR a), l3] [s0] M S = go r 179 1496 [l0, l1, some (aR a), l3] [aR a, s0] M S := go_nx rfl rfl
set_option maxRecDepth 20000 in
theorem g179_1495n (r : Nat) (l0 l1 l3 : Option AV) (s0 : AV) (M : Mem) (S : Sh) : go r 179 1495 [l0, l1, some aN, l3] [s0] M S = go r 179 1496 [l0, l1, some aN, l3] [aN, s0] M S := go_nx rfl rfl
set_option maxRecDepth 20000 in
theorem g179_1496 (r : Nat) (l1 l2 l3 : Option AV) (s0 s1 : AV) (a : Nat) (M : Mem) (S : Sh) : go r 179 1496 [some (aR a), l1, l2, l3] [s0, s1] M S = go r 179 1497 [some (aR a), l1, l2, l3] [aR a, s0, s1] M S := go_nx rfl rfl
set_option maxRecDepth 20000 in
theorem g179_1496n (r : Nat) (l1 l2 l3 : Option AV) (s0 s1 : AV) (M : Mem) (S : Sh) : go r 179 1496 [some aN, l1, l2, l3] [s0, s1] M S = go r 179 1497 [some aN, l1, l2, l3] [aN, s0, s1] M S := go_nx rfl rfl
set_option maxRecDepth 20000 in
theorem g179_1497 (r : Nat) (l0 l1 l2 : Option AV) (s0 s1 s2 : AV) (x : Int) (M : Mem) (S : Sh) : go r 179 1497 [l0, l1, l2, some (aI x)] [s0, s1, s2] M S = go r 179 1498 [l0, l1, l2, some (aI x)] [aI x, s0, s1, s2] M S := go_nx rfl rfl
set_option maxRecDepth 20000 in
theorem g179_1498 (r : Nat) (l0 l1 l2 l3 : Option AV) (s0 s1 s2 s3 : AV) (M : Mem) (S : Sh) : go r 179 1498 [l0, l1, l2, l3] [s0, s1, s2, s3] M S = go r 179 1499 [l0, l1, l2, l3] [aI 1, s0, s1, s2, s3] M S := go_nx rfl rfl
set_option maxRecDepth 20000 in
theorem g179_1499 (r : Nat) (l0 l1 l2 l3 : Option AV) (s0 s1 s2 : AV) (x y : Int) (M : Mem) (S : Sh) : go r 179 1499 [l0, l1, l2, l3] [aI y, aI x, s0, s1, s2] M S = go r 179 1500 [l0, l1, l2, l3] [aI (w32 (x + y)), s0, s1, s2] M S := go_nx rfl rfl
set_option maxRecDepth 20000 in
theorem g179_1500 (r : Nat) (l0 l1 l2 l3 : Option AV) (s0 s1 : AV) (x : Int) (a : Nat) (M : Mem) (S : Sh) (h : S.1 a = 7) (h0 : 0 ≤ x) (h1 : x < S.2.1 a) : go r 179 1500 [l0, l1, l2, l3] [aI x, aR a, s0, s1] M S = go r 179 1501 [l0, l1, l2, l3] [aI (M a x.toNat), s0, s1] M S := go_bnd rfl ⟨h, h0, h1⟩ rfl
set_option maxRecDepth 20000 in
theorem g179_1501 (r : Nat) (l1 l2 l3 : Option AV) (s0 s1 s2 : AV) (a : Nat) (M : Mem) (S : Sh) : go r 179 1501 [some (aR a), l1, l2, l3] [s0, s1, s2] M S = go r 179 1502 [some (aR a), l1, l2, l3] [aR a, s0, s1, s2] M S := go_nx rfl rfl
set_option maxRecDepth 20000 in
theorem g179_1501n (r : Nat) (l1 l2 l3 : Option AV) (s0 s1 s2 : AV) (M : Mem) (S : Sh) : go r 179 1501 [some aN, l1, l2, l3] [s0, s1, s2] M S = go r 179 1502 [some aN, l1, l2, l3] [aN, s0, s1, s2] M S := go_nx rfl rfl
set_option maxRecDepth 20000 in
theorem g179_1502 (r : Nat) (l0 l1 l2 : Option AV) (s0 s1 s2 s3 : AV) (x : Int) (M : Mem) (S : Sh) : go r 179 1502 [l0, l1, l2, some (aI x)] [s0, s1, s2, s3] M S = go r 179 1503 [l0, l1, l2, some (aI x)] [aI x, s0, s1, s2, s3] M S := go_nx rfl rfl
set_option maxRecDepth 20000 in
theorem g179_1503 (r : Nat) (l0 l1 l2 l3 : Option AV) (s0 s1 s2 s3 s4 : AV) (M : Mem) (S : Sh) : go r 179 1503 [l0, l1, l2, l3] [s0, s1, s2, s3, s4] M S = go r 179 1504 [l0, l1, l2, l3] [aI 2, s0, s1, s2, s3, s4] M S := go_nx rfl rfl
set_option maxRecDepth 20000 in
theorem g179_1504 (r : Nat) (l0 l1 l2 l3 : Option AV) (s0 s1 s2 s3 : AV) (x y : Int) (M : Mem) (S : Sh) : go r 179 1504 [l0, l1, l2, l3] [aI y, aI x, s0, s1, s2, s3] M S = go r 179 1505 [l0, l1, l2, l3] [aI (w32 (x + y)), s0, s1, s2, s3] M S := go_nx rfl rfl
set_option maxRecDepth 20000 in
theorem g179_1505 (r : Nat) (l0 l1 l2 l3 : Option AV) (s0 s1 s2 : AV) (x : Int) (a : Nat) (M : Mem) (S : Sh) (h : S.1 a = 7) (h0 : 0 ≤ x) (h1 : x < S.2.1 a) : go r 179 1505 [l0, l1, l2, l3] [aI x, aR a, s0, s1, s2] M S = go r 179 1506 [l0, l1, l2, l3] [aI (M a x.toNat), s0, s1, s2] M S := go_bnd rfl ⟨h, h0, h1⟩ rfl
set_option maxRecDepth 20000 in
theorem g179_1506 (r : Nat) (l0 l1 l2 l3 : Option AV) (s0 : AV) (x1 x2 : Int) (a0 : Nat) (M : Mem) (S : Sh) (hk : 11 < r) (h : S.1 a0 = 6) : go r 179 1506 [l0, l1, l2, l3] [aI x2, aI x1, aR a0, s0] M S = cont r 179 1509 [l0, l1, l2, l3] [s0] 1 (res 178 [aR a0, aI x1, aI x2] M S) := go_cr0 (m' := 178) (n := 3) (pc' := 1509) (hr := 1) rfl rfl rfl h rfl rfl rfl rfl hk rfl
set_option maxRecDepth 20000 in
theorem g179_1509 (r : Nat) (l0 l1 l2 l3 : Option AV) (x y : Int) (M : Mem) (S : Sh) : go r 179 1509 [l0, l1, l2, l3] [aI y, aI x] M S = if x = y then go r 179 1514 [l0, l1, l2, l3] [] M S else go r 179 1512 [l0, l1, l2, l3] [] M S := go_br rfl rfl rfl rfl rfl
set_option maxRecDepth 20000 in
theorem g179_1512 (r : Nat) (l0 l1 l2 l3 : Option AV) (M : Mem) (S : Sh) : go r 179 1512 [l0, l1, l2, l3] [] M S = go r 179 1513 [l0, l1, l2, l3] [aI 0] M S := go_nx rfl rfl
set_option maxRecDepth 20000 in
theorem g179_1513 (r : Nat) (l0 l1 l2 l3 : Option AV) (x : Int) (M : Mem) (S : Sh) (h : x = 0 ∨ x = 1) : go r 179 1513 [l0, l1, l2, l3] [aI x] M S = some (some (aI x), M, S) := go_rt rfl (bnd_t (Or.inr h))
set_option maxRecDepth 20000 in
theorem g179_1514 (r : Nat) (l0 l1 l2 : Option AV) (x : Int) (M : Mem) (S : Sh) : go r 179 1514 [l0, l1, l2, some (aI x)] [] M S = go r 179 1517 [l0, l1, l2, some (aI (w32 (x + 7)))] [] M S := go_nx rfl rfl
set_option maxRecDepth 20000 in
theorem g179_1517 (r : Nat) (l0 l1 l2 l3 : Option AV) (M : Mem) (S : Sh) : go r 179 1517 [l0, l1, l2, l3] [] M S = go r 179 18 [l0, l1, l2, l3] [] M S := go_nx rfl rfl
set_option maxRecDepth 20000 in
theorem g179_1520 (r : Nat) (l0 l1 l2 l3 : Option AV) (M : Mem) (S : Sh) : go r 179 1520 [l0, l1, l2, l3] [] M S = go r 179 1521 [l0, l1, l2, l3] [aI 1] M S := go_nx rfl rfl
set_option maxRecDepth 20000 in
theorem g179_1521 (r : Nat) (l0 l1 l2 l3 : Option AV) (x : Int) (M : Mem) (S : Sh) (h : x = 0 ∨ x = 1) : go r 179 1521 [l0, l1, l2, l3] [aI x] M S = some (some (aI x), M, S) := go_rt rfl (bnd_t (Or.inr h))
