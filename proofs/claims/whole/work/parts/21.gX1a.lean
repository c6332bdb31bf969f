/-- StripsFromAbove$Law.<init>()V -/
theorem g9 (a0 : Nat) (M : Mem) (S : Sh) : res 9 [aR a0] M S = go 10 9 0 [some (aR a0)] [] M S := res_e0 rfl _ M S
theorem g9_0 (r : Nat) (a : Nat) (M : Mem) (S : Sh) : go r 9 0 [some (aR a)] [] M S = go r 9 1 [some (aR a)] [aR a] M S := go_nx rfl rfl
theorem g9_1 (r : Nat) (l0 : Option AV) (a : Nat) (M : Mem) (S : Sh) : go r 9 1 [l0] [aR a] M S = go r 9 4 [l0] [] M S := go_bnd (c := ([] : List AV).length ≤ 4) rfl (Nat.le_of_ble_eq_true rfl) rfl
theorem g9_4 (r : Nat) (a : Nat) (M : Mem) (S : Sh) : go r 9 4 [some (aR a)] [] M S = go r 9 5 [some (aR a)] [aR a] M S := go_nx rfl rfl
theorem g9_5 (r : Nat) (l0 : Option AV) (s0 : AV) (M : Mem) (S : Sh) : go r 9 5 [l0] [s0] M S = go r 9 8 [l0] [aI 160, s0] M S := go_nx rfl rfl
theorem g9_8 (r : Nat) (l0 : Option AV) (s0 : AV) (x : Int) (M : Mem) (S : Sh) (h : 0 ≤ x ∧ x ≤ 100000) : go r 9 8 [l0] [aI x, s0] M S = go r 9 10 [l0] [aR S.2.2.2.1, s0] (mrow M S.2.2.2.1 (fun _ => 0)) (fset S.1 S.2.2.2.1 7, fset S.2.1 S.2.2.2.1 x.toNat, S.2.2.1, S.2.2.2.1 + 1, S.2.2.2.2 + x.toNat) := go_bnd rfl h rfl
theorem g9_10 (r : Nat) (l0 : Option AV) (a v : Nat) (M : Mem) (S : Sh) (h : S.1 a = 1) : go r 9 10 [l0] [aR v, aR a] M S = go r 9 13 [l0] [] M (S.1, S.2.1, pset S.2.2.1 a 0 (some v), S.2.2.2) := go_bnd rfl h rfl
theorem g9_13 (r : Nat) (a : Nat) (M : Mem) (S : Sh) : go r 9 13 [some (aR a)] [] M S = go r 9 14 [some (aR a)] [aR a] M S := go_nx rfl rfl
theorem g9_14 (r : Nat) (l0 : Option AV) (s0 : AV) (M : Mem) (S : Sh) : go r 9 14 [l0] [s0] M S = go r 9 17 [l0] [aI 160, s0] M S := go_nx rfl rfl
theorem g9_17 (r : Nat) (l0 : Option AV) (s0 : AV) (x : Int) (M : Mem) (S : Sh) (h : 0 ≤ x ∧ x ≤ 100000) : go r 9 17 [l0] [aI x, s0] M S = go r 9 19 [l0] [aR S.2.2.2.1, s0] (mrow M S.2.2.2.1 (fun _ => 0)) (fset S.1 S.2.2.2.1 7, fset S.2.1 S.2.2.2.1 x.toNat, S.2.2.1, S.2.2.2.1 + 1, S.2.2.2.2 + x.toNat) := go_bnd rfl h rfl
theorem g9_19 (r : Nat) (l0 : Option AV) (a v : Nat) (M : Mem) (S : Sh) (h : S.1 a = 1) : go r 9 19 [l0] [aR v, aR a] M S = go r 9 22 [l0] [] M (S.1, S.2.1, pset S.2.2.1 a 1 (some v), S.2.2.2) := go_bnd rfl h rfl
theorem g9_22 (r : Nat) (a : Nat) (M : Mem) (S : Sh) : go r 9 22 [some (aR a)] [] M S = go r 9 23 [some (aR a)] [aR a] M S := go_nx rfl rfl
theorem g9_23 (r : Nat) (l0 : Option AV) (s0 : AV) (M : Mem) (S : Sh) : go r 9 23 [l0] [s0] M S = go r 9 24 [l0] [aI 4, s0] M S := go_nx rfl rfl
theorem g9_24 (r : Nat) (l0 : Option AV) (s0 : AV) (x : Int) (M : Mem) (S : Sh) (h : 0 ≤ x ∧ x ≤ 100000) : go r 9 24 [l0] [aI x, s0] M S = go r 9 26 [l0] [aR S.2.2.2.1, s0] (mrow M S.2.2.2.1 (fun _ => 0)) (fset S.1 S.2.2.2.1 7, fset S.2.1 S.2.2.2.1 x.toNat, S.2.2.1, S.2.2.2.1 + 1, S.2.2.2.2 + x.toNat) := go_bnd rfl h rfl
theorem g9_26 (r : Nat) (l0 : Option AV) (a v : Nat) (M : Mem) (S : Sh) (h : S.1 a = 1) : go r 9 26 [l0] [aR v, aR a] M S = go r 9 29 [l0] [] M (S.1, S.2.1, pset S.2.2.1 a 2 (some v), S.2.2.2) := go_bnd rfl h rfl
theorem g9_29 (r : Nat) (a : Nat) (M : Mem) (S : Sh) : go r 9 29 [some (aR a)] [] M S = go r 9 30 [some (aR a)] [aR a] M S := go_nx rfl rfl
theorem g9_30 (r : Nat) (l0 : Option AV) (s0 : AV) (M : Mem) (S : Sh) : go r 9 30 [l0] [s0] M S = go r 9 33 [l0] [aI 160, s0] M S := go_nx rfl rfl
theorem g9_33 (r : Nat) (l0 : Option AV) (s0 : AV) (x : Int) (M : Mem) (S : Sh) (h : 0 ≤ x ∧ x ≤ 100000) : go r 9 33 [l0] [aI x, s0] M S = go r 9 35 [l0] [aR S.2.2.2.1, s0] (mrow M S.2.2.2.1 (fun _ => 0)) (fset S.1 S.2.2.2.1 7, fset S.2.1 S.2.2.2.1 x.toNat, S.2.2.1, S.2.2.2.1 + 1, S.2.2.2.2 + x.toNat) := go_bnd rfl h rfl
theorem g9_35 (r : Nat) (l0 : Option AV) (a v : Nat) (M : Mem) (S : Sh) (h : S.1 a = 1) : go r 9 35 [l0] [aR v, aR a] M S = go r 9 38 [l0] [] M (S.1, S.2.1, pset S.2.2.1 a 3 (some v), S.2.2.2) := go_bnd rfl h rfl
theorem g9_38 (r : Nat) (l0 : Option AV) (M : Mem) (S : Sh) : go r 9 38 [l0] [] M S = some (none, M, S) := go_rt rfl rfl
/-- StripsFromAbove$Law.clear()V -/
theorem g10 (a0 : Nat) (M : Mem) (S : Sh) : res 10 [aR a0] M S = go 10 10 0 [some (aR a0)] [] M S := res_e0 rfl _ M S
theorem g10_0 (r : Nat) (a : Nat) (M : Mem) (S : Sh) : go r 10 0 [some (aR a)] [] M S = go r 10 1 [some (aR a)] [aR a] M S := go_nx rfl rfl
theorem g10_1 (r : Nat) (l0 : Option AV) (s0 : AV) (M : Mem) (S : Sh) : go r 10 1 [l0] [s0] M S = go r 10 2 [l0] [aI 0, s0] M S := go_nx rfl rfl
theorem g10_2 (r : Nat) (l0 : Option AV) (x : Int) (a : Nat) (M : Mem) (S : Sh) (h : S.1 a = 1) : go r 10 2 [l0] [aI x, aR a] M S = go r 10 5 [l0] [] (mset M a 4 x) S := go_bnd rfl ⟨h, fun z => absurd z (by decide)⟩ rfl
theorem g10_5 (r : Nat) (l0 : Option AV) (M : Mem) (S : Sh) : go r 10 5 [l0] [] M S = some (none, M, S) := go_rt rfl rfl
/-- StripsFromAbove$Law.add(II)V -/
theorem g11 (x1 x2 : Int) (a0 : Nat) (M : Mem) (S : Sh) : res 11 [aR a0, aI x1, aI x2] M S = go 11 11 0 [some (aR a0), some (aI x1), some (aI x2)] [] M S := res_e0 rfl _ M S
theorem g11_0 (r : Nat) (l1 l2 : Option AV) (a : Nat) (M : Mem) (S : Sh) : go r 11 0 [some (aR a), l1, l2] [] M S = go r 11 1 [some (aR a), l1, l2] [aR a] M S := go_nx rfl rfl
theorem g11_1 (r : Nat) (l0 l1 l2 : Option AV) (a : Nat) (M : Mem) (S : Sh) (h : S.1 a = 1) : go r 11 1 [l0, l1, l2] [aR a] M S = go r 11 4 [l0, l1, l2] [aI (M a 4)] M S := go_bnd rfl h rfl
theorem g11_4 (r : Nat) (l0 l1 l2 : Option AV) (s0 : AV) (M : Mem) (S : Sh) : go r 11 4 [l0, l1, l2] [s0] M S = go r 11 7 [l0, l1, l2] [aI 160, s0] M S := go_nx rfl rfl
theorem g11_7 (r : Nat) (l0 l1 l2 : Option AV) (x y : Int) (M : Mem) (S : Sh) : go r 11 7 [l0, l1, l2] [aI y, aI x] M S = if x ≥ y then go r 11 44 [l0, l1, l2] [] M S else go r 11 10 [l0, l1, l2] [] M S := go_br rfl rfl rfl rfl rfl
theorem g11_10 (r : Nat) (l1 l2 : Option AV) (a : Nat) (M : Mem) (S : Sh) : go r 11 10 [some (aR a), l1, l2] [] M S = go r 11 11 [some (aR a), l1, l2] [aR a] M S := go_nx rfl rfl
theorem g11_11 (r : Nat) (l0 l1 l2 : Option AV) (a : Nat) (M : Mem) (S : Sh) (h : S.1 a = 1) : go r 11 11 [l0, l1, l2] [aR a] M S = go r 11 14 [l0, l1, l2] [aO (S.2.2.1 a 0)] M S := go_bnd rfl h rfl
theorem g11_14 (r : Nat) (l1 l2 : Option AV) (s0 : AV) (a : Nat) (M : Mem) (S : Sh) : go r 11 14 [some (aR a), l1, l2] [s0] M S = go r 11 15 [some (aR a), l1, l2] [aR a, s0] M S := go_nx rfl rfl
theorem g11_15 (r : Nat) (l0 l1 l2 : Option AV) (s0 : AV) (a : Nat) (M : Mem) (S : Sh) (h : S.1 a = 1) : go r 11 15 [l0, l1, l2] [aR a, s0] M S = go r 11 18 [l0, l1, l2] [aI (M a 4), s0] M S := go_bnd rfl h rfl
theorem g11_18 (r : Nat) (l0 l2 : Option AV) (s0 s1 : AV) (x : Int) (M : Mem) (S : Sh) : go r 11 18 [l0, some (aI x), l2] [s0, s1] M S = go r 11 19 [l0, some (aI x), l2] [aI x, s0, s1] M S := go_nx rfl rfl
theorem g11_19 (r : Nat) (l0 l1 l2 : Option AV) (x1 x2 : Int) (a0 : Nat) (M : Mem) (S : Sh) (hk : 10 < r) : go r 11 19 [l0, l1, l2] [aI x2, aI x1, aR a0] M S = cont r 11 22 [l0, l1, l2] [] 0 (res 97 [aR a0, aI x1, aI x2] M S) := go_c0 (m' := 97) (n := 3) (pc' := 22) (hr := 0) rfl rfl rfl rfl rfl rfl hk rfl
theorem g11_22 (r : Nat) (l1 l2 : Option AV) (a : Nat) (M : Mem) (S : Sh) : go r 11 22 [some (aR a), l1, l2] [] M S = go r 11 23 [some (aR a), l1, l2] [aR a] M S := go_nx rfl rfl
theorem g11_23 (r : Nat) (l0 l1 l2 : Option AV) (a : Nat) (M : Mem) (S : Sh) (h : S.1 a = 1) : go r 11 23 [l0, l1, l2] [aR a] M S = go r 11 26 [l0, l1, l2] [aO (S.2.2.1 a 1)] M S := go_bnd rfl h rfl
theorem g11_26 (r : Nat) (l1 l2 : Option AV) (s0 : AV) (a : Nat) (M : Mem) (S : Sh) : go r 11 26 [some (aR a), l1, l2] [s0] M S = go r 11 27 [some (aR a), l1, l2] [aR a, s0] M S := go_nx rfl rfl
theorem g11_27 (r : Nat) (l0 l1 l2 : Option AV) (s0 : AV) (a : Nat) (M : Mem) (S : Sh) (h : S.1 a = 1) : go r 11 27 [l0, l1, l2] [aR a, s0] M S = go r 11 30 [l0, l1, l2] [aI (M a 4), s0] M S := go_bnd rfl h rfl
theorem g11_30 (r : Nat) (l0 l1 : Option AV) (s0 s1 : AV) (x : Int) (M : Mem) (S : Sh) : go r 11 30 [l0, l1, some (aI x)] [s0, s1] M S = go r 11 31 [l0, l1, some (aI x)] [aI x, s0, s1] M S := go_nx rfl rfl
theorem g11_31 (r : Nat) (l0 l1 l2 : Option AV) (x1 x2 : Int) (a0 : Nat) (M : Mem) (S : Sh) (hk : 10 < r) : go r 11 31 [l0, l1, l2] [aI x2, aI x1, aR a0] M S = cont r 11 34 [l0, l1, l2] [] 0 (res 97 [aR a0, aI x1, aI x2] M S) := go_c0 (m' := 97) (n := 3) (pc' := 34) (hr := 0) rfl rfl rfl rfl rfl rfl hk rfl
theorem g11_34 (r : Nat) (l1 l2 : Option AV) (a : Nat) (M : Mem) (S : Sh) : go r 11 34 [some (aR a), l1, l2] [] M S = go r 11 35 [some (aR a), l1, l2] [aR a] M S := go_nx rfl rfl
theorem g11_35 (r : Nat) (l0 l1 l2 : Option AV) (a : Nat) (M : Mem) (S : Sh) : go r 11 35 [l0, l1, l2] [aR a] M S = go r 11 36 [l0, l1, l2] [aR a, aR a] M S := go_nx rfl rfl
theorem g11_36 (r : Nat) (l0 l1 l2 : Option AV) (s0 : AV) (a : Nat) (M : Mem) (S : Sh) (h : S.1 a = 1) : go r 11 36 [l0, l1, l2] [aR a, s0] M S = go r 11 39 [l0, l1, l2] [aI (M a 4), s0] M S := go_bnd rfl h rfl
theorem g11_39 (r : Nat) (l0 l1 l2 : Option AV) (s0 s1 : AV) (M : Mem) (S : Sh) : go r 11 39 [l0, l1, l2] [s0, s1] M S = go r 11 40 [l0, l1, l2] [aI 1, s0, s1] M S := go_nx rfl rfl
theorem g11_40 (r : Nat) (l0 l1 l2 : Option AV) (s0 : AV) (x y : Int) (M : Mem) (S : Sh) : go r 11 40 [l0, l1, l2] [aI y, aI x, s0] M S = go r 11 41 [l0, l1, l2] [aI (w32 (x + y)), s0] M S := go_nx rfl rfl
theorem g11_41 (r : Nat) (l0 l1 l2 : Option AV) (x : Int) (a : Nat) (M : Mem) (S : Sh) (h : S.1 a = 1) : go r 11 41 [l0, l1, l2] [aI x, aR a] M S = go r 11 44 [l0, l1, l2] [] (mset M a 4 x) S := go_bnd rfl ⟨h, fun z => absurd z (by decide)⟩ rfl
theorem g11_44 (r : Nat) (l0 l1 l2 : Option AV) (M : Mem) (S : Sh) : go r 11 44 [l0, l1, l2] [] M S = some (none, M, S) := go_rt rfl rfl
/-- StripsFromAbove$Law.endPart(I)V -/
theorem g12 (x1 : Int) (a0 : Nat) (M : Mem) (S : Sh) : res 12 [aR a0, aI x1] M S = go 11 12 0 [some (aR a0), some (aI x1)] [] M S := res_e0 rfl _ M S
theorem g12_0 (r : Nat) (l1 : Option AV) (a : Nat) (M : Mem) (S : Sh) : go r 12 0 [some (aR a), l1] [] M S = go r 12 1 [some (aR a), l1] [aR a] M S := go_nx rfl rfl
theorem g12_1 (r : Nat) (l0 l1 : Option AV) (a : Nat) (M : Mem) (S : Sh) (h : S.1 a = 1) : go r 12 1 [l0, l1] [aR a] M S = go r 12 4 [l0, l1] [aO (S.2.2.1 a 2)] M S := go_bnd rfl h rfl
theorem g12_4 (r : Nat) (l0 : Option AV) (s0 : AV) (x : Int) (M : Mem) (S : Sh) : go r 12 4 [l0, some (aI x)] [s0] M S = go r 12 5 [l0, some (aI x)] [aI x, s0] M S := go_nx rfl rfl
theorem g12_5 (r : Nat) (l0 l1 : Option AV) (s0 s1 : AV) (M : Mem) (S : Sh) : go r 12 5 [l0, l1] [s0, s1] M S = go r 12 6 [l0, l1] [aI 1, s0, s1] M S := go_nx rfl rfl
theorem g12_6 (r : Nat) (l0 l1 : Option AV) (s0 : AV) (x y : Int) (M : Mem) (S : Sh) : go r 12 6 [l0, l1] [aI y, aI x, s0] M S = go r 12 7 [l0, l1] [aI (w32 (x + y)), s0] M S := go_nx rfl rfl
theorem g12_7 (r : Nat) (l1 : Option AV) (s0 s1 : AV) (a : Nat) (M : Mem) (S : Sh) : go r 12 7 [some (aR a), l1] [s0, s1] M S = go r 12 8 [some (aR a), l1] [aR a, s0, s1] M S := go_nx rfl rfl
theorem g12_8 (r : Nat) (l0 l1 : Option AV) (s0 s1 : AV) (a : Nat) (M : Mem) (S : Sh) (h : S.1 a = 1) : go r 12 8 [l0, l1] [aR a, s0, s1] M S = go r 12 11 [l0, l1] [aI (M a 4), s0, s1] M S := go_bnd rfl h rfl
theorem g12_11 (r : Nat) (l0 l1 : Option AV) (x1 x2 : Int) (a0 : Nat) (M : Mem) (S : Sh) (hk : 10 < r) : go r 12 11 [l0, l1] [aI x2, aI x1, aR a0] M S = cont r 12 14 [l0, l1] [] 0 (res 97 [aR a0, aI x1, aI x2] M S) := go_c0 (m' := 97) (n := 3) (pc' := 14) (hr := 0) rfl rfl rfl rfl rfl rfl hk rfl
theorem g12_14 (r : Nat) (l0 l1 : Option AV) (M : Mem) (S : Sh) : go r 12 14 [l0, l1] [] M S = some (none, M, S) := go_rt rfl rfl
/-- StripsFromAbove$Law.says(I[I)I -/
theorem g13 (x1 : Int) (a0 a2 : Nat) (M : Mem) (S : Sh) : res 13 [aR a0, aI x1, aR a2] M S = go 11 13 0 [some (aR a0), some (aI x1), some (aR a2), none, none, none, none] [] M S := res_e0 rfl _ M S
theorem g13_0 (r : Nat) (l0 l1 l2 l3 l4 l5 l6 : Option AV) (M : Mem) (S : Sh) : go r 13 0 [l0, l1, l2, l3, l4, l5, l6] [] M S = go r 13 1 [l0, l1, l2, l3, l4, l5, l6] [aI 0] M S := go_nx rfl rfl
theorem g13_1 (r : Nat) (l0 l1 l2 l3 l4 l5 l6 : Option AV) (x : Int) (M : Mem) (S : Sh) : go r 13 1 [l0, l1, l2, l3, l4, l5, l6] [aI x] M S = go r 13 2 [l0, l1, l2, some (aI x), l4, l5, l6] [] M S := go_nx rfl rfl
theorem g13_2 (r : Nat) (l1 l2 l3 l4 l5 l6 : Option AV) (a : Nat) (M : Mem) (S : Sh) : go r 13 2 [some (aR a), l1, l2, l3, l4, l5, l6] [] M S = go r 13 3 [some (aR a), l1, l2, l3, l4, l5, l6] [aR a] M S := go_nx rfl rfl
theorem g13_3 (r : Nat) (l0 l1 l2 l3 l4 l5 l6 : Option AV) (a : Nat) (M : Mem) (S : Sh) (h : S.1 a = 1) : go r 13 3 [l0, l1, l2, l3, l4, l5, l6] [aR a] M S = go r 13 6 [l0, l1, l2, l3, l4, l5, l6] [aO (S.2.2.1 a 2)] M S := go_bnd rfl h rfl
theorem g13_6 (r : Nat) (l0 l2 l3 l4 l5 l6 : Option AV) (s0 : AV) (x : Int) (M : Mem) (S : Sh) : go r 13 6 [l0, some (aI x), l2, l3, l4, l5, l6] [s0] M S = go r 13 7 [l0, some (aI x), l2, l3, l4, l5, l6] [aI x, s0] M S := go_nx rfl rfl
theorem g13_7 (r : Nat) (l0 l1 l2 l3 l4 l5 l6 : Option AV) (s0 s1 : AV) (M : Mem) (S : Sh) : go r 13 7 [l0, l1, l2, l3, l4, l5, l6] [s0, s1] M S = go r 13 8 [l0, l1, l2, l3, l4, l5, l6] [aI 1, s0, s1] M S := go_nx rfl rfl
theorem g13_8 (r : Nat) (l0 l1 l2 l3 l4 l5 l6 : Option AV) (s0 : AV) (x y : Int) (M : Mem) (S : Sh) : go r 13 8 [l0, l1, l2, l3, l4, l5, l6] [aI y, aI x, s0] M S = go r 13 9 [l0, l1, l2, l3, l4, l5, l6] [aI (w32 (x + y)), s0] M S := go_nx rfl rfl
theorem g13_9 (r : Nat) (l0 l1 l2 l3 l4 l5 l6 : Option AV) (x1 : Int) (a0 : Nat) (M : Mem) (S : Sh) (hk : 10 < r) : go r 13 9 [l0, l1, l2, l3, l4, l5, l6] [aI x1, aR a0] M S = cont r 13 12 [l0, l1, l2, l3, l4, l5, l6] [] 1 (res 96 [aR a0, aI x1] M S) := go_c0 (m' := 96) (n := 2) (pc' := 12) (hr := 1) rfl rfl rfl rfl rfl rfl hk rfl
theorem g13_12 (r : Nat) (l0 l1 l2 l3 l4 l5 l6 : Option AV) (x : Int) (M : Mem) (S : Sh) : go r 13 12 [l0, l1, l2, l3, l4, l5, l6] [aI x] M S = go r 13 14 [l0, l1, l2, l3, some (aI x), l5, l6] [] M S := go_nx rfl rfl
theorem g13_14 (r : Nat) (l1 l2 l3 l4 l5 l6 : Option AV) (a : Nat) (M : Mem) (S : Sh) : go r 13 14 [some (aR a), l1, l2, l3, l4, l5, l6] [] M S = go r 13 15 [some (aR a), l1, l2, l3, l4, l5, l6] [aR a] M S := go_nx rfl rfl
theorem g13_15 (r : Nat) (l0 l1 l2 l3 l4 l5 l6 : Option AV) (a : Nat) (M : Mem) (S : Sh) (h : S.1 a = 1) : go r 13 15 [l0, l1, l2, l3, l4, l5, l6] [aR a] M S = go r 13 18 [l0, l1, l2, l3, l4, l5, l6] [aO (S.2.2.1 a 2)] M S := go_bnd rfl h rfl
theorem g13_18 (r : Nat) (l0 l2 l3 l4 l5 l6 : Option AV) (s0 : AV) (x : Int) (M : Mem) (S : Sh) : go r 13 18 [l0, some (aI x), l2, l3, l4, l5, l6] [s0] M S = go r 13 19 [l0, some (aI x), l2, l3, l4, l5, l6] [aI x, s0] M S := go_nx rfl rfl
theorem g13_19 (r : Nat) (l0 l1 l2 l3 l4 l5 l6 : Option AV) (x1 : Int) (a0 : Nat) (M : Mem) (S : Sh) (hk : 10 < r) : go r 13 19 [l0, l1, l2, l3, l4, l5, l6] [aI x1, aR a0] M S = cont r 13 22 [l0, l1, l2, l3, l4, l5, l6] [] 1 (res 96 [aR a0, aI x1] M S) := go_c0 (m' := 96) (n := 2) (pc' := 22) (hr := 1) rfl rfl rfl rfl rfl rfl hk rfl
theorem g13_22 (r : Nat) (l0 l1 l2 l3 l4 l5 l6 : Option AV) (x : Int) (M : Mem) (S : Sh) : go r 13 22 [l0, l1, l2, l3, l4, l5, l6] [aI x] M S = go r 13 24 [l0, l1, l2, l3, l4, some (aI x), l6] [] M S := go_nx rfl rfl
theorem g13_24 (r : Nat) (l0 l1 l2 l3 l4 l6 : Option AV) (x : Int) (M : Mem) (S : Sh) : go r 13 24 [l0, l1, l2, l3, l4, some (aI x), l6] [] M S = go r 13 26 [l0, l1, l2, l3, l4, some (aI x), l6] [aI x] M S := go_nx rfl rfl
theorem g13_26 (r : Nat) (l0 l1 l2 l3 l5 l6 : Option AV) (s0 : AV) (x : Int) (M : Mem) (S : Sh) : go r 13 26 [l0, l1, l2, l3, some (aI x), l5, l6] [s0] M S = go r 13 28 [l0, l1, l2, l3, some (aI x), l5, l6] [aI x, s0] M S := go_nx rfl rfl
theorem g13_28 (r : Nat) (l0 l1 l2 l3 l4 l5 l6 : Option AV) (x y : Int) (M : Mem) (S : Sh) : go r 13 28 [l0, l1, l2, l3, l4, l5, l6] [aI y, aI x] M S = if x ≥ y then go r 13 215 [l0, l1, l2, l3, l4, l5, l6] [] M S else go r 13 31 [l0, l1, l2, l3, l4, l5, l6] [] M S := go_br rfl rfl rfl rfl rfl
theorem g13_31 (r : Nat) (l1 l2 l3 l4 l5 l6 : Option AV) (a : Nat) (M : Mem) (S : Sh) : go r 13 31 [some (aR a), l1, l2, l3, l4, l5, l6] [] M S = go r 13 32 [some (aR a), l1, l2, l3, l4, l5, l6] [aR a] M S := go_nx rfl rfl
theorem g13_32 (r : Nat) (l0 l1 l2 l3 l4 l5 l6 : Option AV) (a : Nat) (M : Mem) (S : Sh) (h : S.1 a = 1) : go r 13 32 [l0, l1, l2, l3, l4, l5, l6] [aR a] M S = go r 13 35 [l0, l1, l2, l3, l4, l5, l6] [aO (S.2.2.1 a 0)] M S := go_bnd rfl h rfl
theorem g13_35 (r : Nat) (l0 l1 l2 l3 l4 l6 : Option AV) (s0 : AV) (x : Int) (M : Mem) (S : Sh) : go r 13 35 [l0, l1, l2, l3, l4, some (aI x), l6] [s0] M S = go r 13 37 [l0, l1, l2, l3, l4, some (aI x), l6] [aI x, s0] M S := go_nx rfl rfl
theorem g13_37 (r : Nat) (l0 l1 l2 l3 l4 l5 l6 : Option AV) (x1 : Int) (a0 : Nat) (M : Mem) (S : Sh) (hk : 10 < r) : go r 13 37 [l0, l1, l2, l3, l4, l5, l6] [aI x1, aR a0] M S = cont r 13 40 [l0, l1, l2, l3, l4, l5, l6] [] 1 (res 96 [aR a0, aI x1] M S) := go_c0 (m' := 96) (n := 2) (pc' := 40) (hr := 1) rfl rfl rfl rfl rfl rfl hk rfl
theorem g13_40 (r : Nat) (l0 l1 l2 l3 l4 l5 l6 : Option AV) (x : Int) (M : Mem) (S : Sh) : go r 13 40 [l0, l1, l2, l3, l4, l5, l6] [aI x] M S = go r 13 42 [l0, l1, l2, l3, l4, l5, some (aI x)] [] M S := go_nx rfl rfl
theorem g13_42 (r : Nat) (l0 l1 l2 l3 l4 l5 : Option AV) (x : Int) (M : Mem) (S : Sh) : go r 13 42 [l0, l1, l2, l3, l4, l5, some (aI x)] [] M S = go r 13 44 [l0, l1, l2, l3, l4, l5, some (aI x)] [aI x] M S := go_nx rfl rfl
theorem g13_44 (r : Nat) (l0 l1 l2 l3 l4 l5 l6 : Option AV) (s0 : AV) (M : Mem) (S : Sh) : go r 13 44 [l0, l1, l2, l3, l4, l5, l6] [s0] M S = go r 13 45 [l0, l1, l2, l3, l4, l5, l6] [aI 2, s0] M S := go_nx rfl rfl
theorem g13_45 (r : Nat) (l0 l1 l2 l3 l4 l5 l6 : Option AV) (x y : Int) (M : Mem) (S : Sh) : go r 13 45 [l0, l1, l2, l3, l4, l5, l6] [aI y, aI x] M S = if x ≠ y then go r 13 71 [l0, l1, l2, l3, l4, l5, l6] [] M S else go r 13 48 [l0, l1, l2, l3, l4, l5, l6] [] M S := go_br rfl rfl rfl rfl rfl
theorem g13_48 (r : Nat) (l1 l2 l3 l4 l5 l6 : Option AV) (a : Nat) (M : Mem) (S : Sh) : go r 13 48 [some (aR a), l1, l2, l3, l4, l5, l6] [] M S = go r 13 49 [some (aR a), l1, l2, l3, l4, l5, l6] [aR a] M S := go_nx rfl rfl
theorem g13_49 (r : Nat) (l0 l1 l2 l3 l4 l5 l6 : Option AV) (a : Nat) (M : Mem) (S : Sh) (h : S.1 a = 1) : go r 13 49 [l0, l1, l2, l3, l4, l5, l6] [aR a] M S = go r 13 52 [l0, l1, l2, l3, l4, l5, l6] [aO (S.2.2.1 a 3)] M S := go_bnd rfl h rfl
theorem g13_52 (r : Nat) (l0 l1 l2 l4 l5 l6 : Option AV) (s0 : AV) (x : Int) (M : Mem) (S : Sh) : go r 13 52 [l0, l1, l2, some (aI x), l4, l5, l6] [s0] M S = go r 13 53 [l0, l1, l2, some (aI x), l4, l5, l6] [aI x, s0] M S := go_nx rfl rfl
theorem g13_53 (r : Nat) (l1 l2 l3 l4 l5 l6 : Option AV) (s0 s1 : AV) (a : Nat) (M : Mem) (S : Sh) : go r 13 53 [some (aR a), l1, l2, l3, l4, l5, l6] [s0, s1] M S = go r 13 54 [some (aR a), l1, l2, l3, l4, l5, l6] [aR a, s0, s1] M S := go_nx rfl rfl
theorem g13_54 (r : Nat) (l0 l1 l2 l3 l4 l5 l6 : Option AV) (s0 s1 : AV) (a : Nat) (M : Mem) (S : Sh) (h : S.1 a = 1) : go r 13 54 [l0, l1, l2, l3, l4, l5, l6] [aR a, s0, s1] M S = go r 13 57 [l0, l1, l2, l3, l4, l5, l6] [aO (S.2.2.1 a 1), s0, s1] M S := go_bnd rfl h rfl
theorem g13_57 (r : Nat) (l0 l1 l2 l3 l4 l6 : Option AV) (s0 s1 s2 : AV) (x : Int) (M : Mem) (S : Sh) : go r 13 57 [l0, l1, l2, l3, l4, some (aI x), l6] [s0, s1, s2] M S = go r 13 59 [l0, l1, l2, l3, l4, some (aI x), l6] [aI x, s0, s1, s2] M S := go_nx rfl rfl
theorem g13_59 (r : Nat) (l0 l1 l2 l3 l4 l5 l6 : Option AV) (s0 s1 : AV) (x1 : Int) (a0 : Nat) (M : Mem) (S : Sh) (hk : 10 < r) : go r 13 59 [l0, l1, l2, l3, l4, l5, l6] [aI x1, aR a0, s0, s1] M S = cont r 13 62 [l0, l1, l2, l3, l4, l5, l6] [s0, s1] 1 (res 96 [aR a0, aI x1] M S) := go_c0 (m' := 96) (n := 2) (pc' := 62) (hr := 1) rfl rfl rfl rfl rfl rfl hk rfl
theorem g13_62 (r : Nat) (l0 l1 l2 l3 l4 l5 l6 : Option AV) (x1 x2 : Int) (a0 : Nat) (M : Mem) (S : Sh) (hk : 10 < r) : go r 13 62 [l0, l1, l2, l3, l4, l5, l6] [aI x2, aI x1, aR a0] M S = cont r 13 65 [l0, l1, l2, l3, l4, l5, l6] [] 0 (res 97 [aR a0, aI x1, aI x2] M S) := go_c0 (m' := 97) (n := 3) (pc' := 65) (hr := 0) rfl rfl rfl rfl rfl rfl hk rfl
theorem g13_65 (r : Nat) (l0 l1 l2 l4 l5 l6 : Option AV) (x : Int) (M : Mem) (S : Sh) : go r 13 65 [l0, l1, l2, some (aI x), l4, l5, l6] [] M S = go r 13 68 [l0, l1, l2, some (aI (w32 (x + 1))), l4, l5, l6] [] M S := go_nx rfl rfl
theorem g13_68 (r : Nat) (l0 l1 l2 l3 l4 l5 l6 : Option AV) (M : Mem) (S : Sh) : go r 13 68 [l0, l1, l2, l3, l4, l5, l6] [] M S = go r 13 209 [l0, l1, l2, l3, l4, l5, l6] [] M S := go_nx rfl rfl
theorem g13_71 (r : Nat) (l0 l1 l2 l3 l4 l5 : Option AV) (x : Int) (M : Mem) (S : Sh) : go r 13 71 [l0, l1, l2, l3, l4, l5, some (aI x)] [] M S = go r 13 73 [l0, l1, l2, l3, l4, l5, some (aI x)] [aI x] M S := go_nx rfl rfl
theorem g13_73 (r : Nat) (l0 l1 l2 l3 l4 l5 l6 : Option AV) (s0 : AV) (M : Mem) (S : Sh) : go r 13 73 [l0, l1, l2, l3, l4, l5, l6] [s0] M S = go r 13 74 [l0, l1, l2, l3, l4, l5, l6] [aI 3, s0] M S := go_nx rfl rfl
theorem g13_74 (r : Nat) (l0 l1 l2 l3 l4 l5 l6 : Option AV) (x y : Int) (M : Mem) (S : Sh) : go r 13 74 [l0, l1, l2, l3, l4, l5, l6] [aI y, aI x] M S = if x ≠ y then go r 13 104 [l0, l1, l2, l3, l4, l5, l6] [] M S else go r 13 77 [l0, l1, l2, l3, l4, l5, l6] [] M S := go_br rfl rfl rfl rfl rfl
theorem g13_77 (r : Nat) (l1 l2 l3 l4 l5 l6 : Option AV) (a : Nat) (M : Mem) (S : Sh) : go r 13 77 [some (aR a), l1, l2, l3, l4, l5, l6] [] M S = go r 13 78 [some (aR a), l1, l2, l3, l4, l5, l6] [aR a] M S := go_nx rfl rfl
theorem g13_78 (r : Nat) (l0 l1 l2 l3 l4 l5 l6 : Option AV) (a : Nat) (M : Mem) (S : Sh) (h : S.1 a = 1) : go r 13 78 [l0, l1, l2, l3, l4, l5, l6] [aR a] M S = go r 13 81 [l0, l1, l2, l3, l4, l5, l6] [aO (S.2.2.1 a 3)] M S := go_bnd rfl h rfl
theorem g13_81 (r : Nat) (l0 l1 l2 l4 l5 l6 : Option AV) (s0 : AV) (x : Int) (M : Mem) (S : Sh) : go r 13 81 [l0, l1, l2, some (aI x), l4, l5, l6] [s0] M S = go r 13 82 [l0, l1, l2, some (aI x), l4, l5, l6] [aI x, s0] M S := go_nx rfl rfl
theorem g13_82 (r : Nat) (l0 l1 l3 l4 l5 l6 : Option AV) (s0 s1 : AV) (a : Nat) (M : Mem) (S : Sh) : go r 13 82 [l0, l1, some (aR a), l3, l4, l5, l6] [s0, s1] M S = go r 13 83 [l0, l1, some (aR a), l3, l4, l5, l6] [aR a, s0, s1] M S := go_nx rfl rfl
theorem g13_82n (r : Nat) (l0 l1 l3 l4 l5 l6 : Option AV) (s0 s1 : AV) (M : Mem) (S : Sh) : go r 13 82 [l0, l1, some aN, l3, l4, l5, l6] [s0, s1] M S = go r 13 83 [l0, l1, some aN, l3, l4, l5, l6] [aN, s0, s1] M S := go_nx rfl rfl
theorem g13_83 (r : Nat) (l1 l2 l3 l4 l5 l6 : Option AV) (s0 s1 s2 : AV) (a : Nat) (M : Mem) (S : Sh) : go r 13 83 [some (aR a), l1, l2, l3, l4, l5, l6] [s0, s1, s2] M S = go r 13 84 [some (aR a), l1, l2, l3, l4, l5, l6] [aR a, s0, s1, s2] M S := go_nx rfl rfl
theorem g13_84 (r : Nat) (l0 l1 l2 l3 l4 l5 l6 : Option AV) (s0 s1 s2 : AV) (a : Nat) (M : Mem) (S : Sh) (h : S.1 a = 1) : go r 13 84 [l0, l1, l2, l3, l4, l5, l6] [aR a, s0, s1, s2] M S = go r 13 87 [l0, l1, l2, l3, l4, l5, l6] [aO (S.2.2.1 a 1), s0, s1, s2] M S := go_bnd rfl h rfl
theorem g13_87 (r : Nat) (l0 l1 l2 l3 l4 l6 : Option AV) (s0 s1 s2 s3 : AV) (x : Int) (M : Mem) (S : Sh) : go r 13 87 [l0, l1, l2, l3, l4, some (aI x), l6] [s0, s1, s2, s3] M S = go r 13 89 [l0, l1, l2, l3, l4, some (aI x), l6] [aI x, s0, s1, s2, s3] M S := go_nx rfl rfl
theorem g13_89 (r : Nat) (l0 l1 l2 l3 l4 l5 l6 : Option AV) (s0 s1 s2 : AV) (x1 : Int) (a0 : Nat) (M : Mem) (S : Sh) (hk : 10 < r) : go r 13 89 [l0, l1, l2, l3, l4, l5, l6] [aI x1, aR a0, s0, s1, s2] M S = cont r 13 92 [l0, l1, l2, l3, l4, l5, l6] [s0, s1, s2] 1 (res 96 [aR a0, aI x1] M S) := go_c0 (m' := 96) (n := 2) (pc' := 92) (hr := 1) rfl rfl rfl rfl rfl rfl hk rfl
theorem g13_92 (r : Nat) (l0 l1 l2 l3 l4 l5 l6 : Option AV) (s0 s1 : AV) (x1 : Int) (a0 : Nat) (M : Mem) (S : Sh) (hk : 10 < r) : go r 13 92 [l0, l1, l2, l3, l4, l5, l6] [aI x1, aR a0, s0, s1] M S = cont r 13 95 [l0, l1, l2, l3, l4, l5, l6] [s0, s1] 1 (res 96 [aR a0, aI x1] M S) := go_c0 (m' := 96) (n := 2) (pc' := 95) (hr := 1) rfl rfl rfl rfl rfl rfl hk rfl
theorem g13_95 (r : Nat) (l0 l1 l2 l3 l4 l5 l6 : Option AV) (x1 x2 : Int) (a0 : Nat) (M : Mem) (S : Sh) (hk : 10 < r) : go r 13 95 [l0, l1, l2, l3, l4, l5, l6] [aI x2, aI x1, aR a0] M S = cont r 13 98 [l0, l1, l2, l3, l4, l5, l6] [] 0 (res 97 [aR a0, aI x1, aI x2] M S) := go_c0 (m' := 97) (n := 3) (pc' := 98) (hr := 0) rfl rfl rfl rfl rfl rfl hk rfl
theorem g13_98 (r : Nat) (l0 l1 l2 l4 l5 l6 : Option AV) (x : Int) (M : Mem) (S : Sh) : go r 13 98 [l0, l1, l2, some (aI x), l4, l5, l6] [] M S = go r 13 101 [l0, l1, l2, some (aI (w32 (x + 1))), l4, l5, l6] [] M S := go_nx rfl rfl
theorem g13_101 (r : Nat) (l0 l1 l2 l3 l4 l5 l6 : Option AV) (M : Mem) (S : Sh) : go r 13 101 [l0, l1, l2, l3, l4, l5, l6] [] M S = go r 13 209 [l0, l1, l2, l3, l4, l5, l6] [] M S := go_nx rfl rfl
theorem g13_104 (r : Nat) (l0 l1 l2 l3 l4 l5 : Option AV) (x : Int) (M : Mem) (S : Sh) : go r 13 104 [l0, l1, l2, l3, l4, l5, some (aI x)] [] M S = go r 13 106 [l0, l1, l2, l3, l4, l5, some (aI x)] [aI x] M S := go_nx rfl rfl
theorem g13_106 (r : Nat) (l0 l1 l2 l3 l4 l5 l6 : Option AV) (s0 : AV) (M : Mem) (S : Sh) : go r 13 106 [l0, l1, l2, l3, l4, l5, l6] [s0] M S = go r 13 108 [l0, l1, l2, l3, l4, l5, l6] [aI 9, s0] M S := go_nx rfl rfl
theorem g13_108 (r : Nat) (l0 l1 l2 l3 l4 l5 l6 : Option AV) (x y : Int) (M : Mem) (S : Sh) : go r 13 108 [l0, l1, l2, l3, l4, l5, l6] [aI y, aI x] M S = if x ≠ y then go r 13 142 [l0, l1, l2, l3, l4, l5, l6] [] M S else go r 13 111 [l0, l1, l2, l3, l4, l5, l6] [] M S := go_br rfl rfl rfl rfl rfl
theorem g13_111 (r : Nat) (l1 l2 l3 l4 l5 l6 : Option AV) (a : Nat) (M : Mem) (S : Sh) : go r 13 111 [some (aR a), l1, l2, l3, l4, l5, l6] [] M S = go r 13 112 [some (aR a), l1, l2, l3, l4, l5, l6] [aR a] M S := go_nx rfl rfl
theorem g13_112 (r : Nat) (l0 l1 l2 l3 l4 l5 l6 : Option AV) (a : Nat) (M : Mem) (S : Sh) (h : S.1 a = 1) : go r 13 112 [l0, l1, l2, l3, l4, l5, l6] [aR a] M S = go r 13 115 [l0, l1, l2, l3, l4, l5, l6] [aO (S.2.2.1 a 3)] M S := go_bnd rfl h rfl
theorem g13_115 (r : Nat) (l0 l1 l2 l4 l5 l6 : Option AV) (s0 : AV) (x : Int) (M : Mem) (S : Sh) : go r 13 115 [l0, l1, l2, some (aI x), l4, l5, l6] [s0] M S = go r 13 116 [l0, l1, l2, some (aI x), l4, l5, l6] [aI x, s0] M S := go_nx rfl rfl
theorem g13_116 (r : Nat) (l0 l1 l2 l3 l4 l5 l6 : Option AV) (s0 s1 : AV) (M : Mem) (S : Sh) : go r 13 116 [l0, l1, l2, l3, l4, l5, l6] [s0, s1] M S = go r 13 117 [l0, l1, l2, l3, l4, l5, l6] [aI 1, s0, s1] M S := go_nx rfl rfl
theorem g13_117 (r : Nat) (l0 l1 l2 l3 l4 l5 l6 : Option AV) (s0 : AV) (x y : Int) (M : Mem) (S : Sh) : go r 13 117 [l0, l1, l2, l3, l4, l5, l6] [aI y, aI x, s0] M S = go r 13 118 [l0, l1, l2, l3, l4, l5, l6] [aI (w32 (x - y)), s0] M S := go_nx rfl rfl
theorem g13_118 (r : Nat) (l1 l2 l3 l4 l5 l6 : Option AV) (s0 s1 : AV) (a : Nat) (M : Mem) (S : Sh) : go r 13 118 [some (aR a), l1, l2, l3, l4, l5, l6] [s0, s1] M S = go r 13 119 [some (aR a), l1, l2, l3, l4, l5, l6] [aR a, s0, s1] M S := go_nx rfl rfl
theorem g13_119 (r : Nat) (l0 l1 l2 l3 l4 l5 l6 : Option AV) (s0 s1 : AV) (a : Nat) (M : Mem) (S : Sh) (h : S.1 a = 1) : go r 13 119 [l0, l1, l2, l3, l4, l5, l6] [aR a, s0, s1] M S = go r 13 122 [l0, l1, l2, l3, l4, l5, l6] [aO (S.2.2.1 a 3), s0, s1] M S := go_bnd rfl h rfl
theorem g13_122 (r : Nat) (l0 l1 l2 l4 l5 l6 : Option AV) (s0 s1 s2 : AV) (x : Int) (M : Mem) (S : Sh) : go r 13 122 [l0, l1, l2, some (aI x), l4, l5, l6] [s0, s1, s2] M S = go r 13 123 [l0, l1, l2, some (aI x), l4, l5, l6] [aI x, s0, s1, s2] M S := go_nx rfl rfl
set_option maxRecDepth 20000 in
theorem g13_123 (r : Nat) (l0 l1 l2 l3 l4 l5 l6 : Option AV) (s0 s1 s2 s3 : AV) (M : Mem) (S : Sh) : go r 13 123 [l0, l1, l2, l3, l4, l5, l6] [s0, s1, s2, s3] M S = go r 13 124 [l0, l1, l2, l3, l4, l5, l6] [aI 1, s0, s1, s2, s3] M S := go_nx rfl rfl
set_option maxRecDepth 20000 in
theorem g13_124 (r : Nat) (l0 l1 l2 l3 l4 l5 l6 : Option AV) (s0 s1 s2 : AV) (x y : Int) (M : Mem) (S : Sh) : go r 13 124 [l0, l1, l2, l3, l4, l5, l6] [aI y, aI x, s0, s1, s2] M S = go r 13 125 [l0, l1, l2, l3, l4, l5, l6] [aI (w32 (x - y)), s0, s1, s2] M S := go_nx rfl rfl
set_option maxRecDepth 20000 in
theorem g13_125 (r : Nat) (l0 l1 l2 l3 l4 l5 l6 : Option AV) (s0 s1 : AV) (x1 : Int) (a0 : Nat) (M : Mem) (S : Sh) (hk : 10 < r) : go r 13 125 [l0, l1, l2, l3, l4, l5, l6] [aI x1, aR a0, s0, s1] M S = cont r 13 128 [l0, l1, l2, l3, l4, l5, l6] [s0, s1] 1 (res 96 [aR a0, aI x1] M S) := go_c0 (m' := 96) (n := 2) (pc' := 128) (hr := 1) rfl rfl rfl rfl rfl rfl hk rfl
set_option maxRecDepth 20000 in
theorem g13_128 (r : Nat) (l0 l1 l2 l3 l4 l5 l6 : Option AV) (s0 s1 : AV) (x : Int) (M : Mem) (S : Sh) : go r 13 128 [l0, l1, l2, l3, l4, l5, l6] [aI x, s0, s1] M S = if x ≠ 0 then go r 13 135 [l0, l1, l2, l3, l4, l5, l6] [s0, s1] M S else go r 13 131 [l0, l1, l2, l3, l4, l5, l6] [s0, s1] M S := go_br rfl rfl rfl rfl rfl
set_option maxRecDepth 20000 in
theorem g13_131 (r : Nat) (l0 l1 l2 l3 l4 l5 l6 : Option AV) (s0 s1 : AV) (M : Mem) (S : Sh) : go r 13 131 [l0, l1, l2, l3, l4, l5, l6] [s0, s1] M S = go r 13 132 [l0, l1, l2, l3, l4, l5, l6] [aI 1, s0, s1] M S := go_nx rfl rfl
set_option maxRecDepth 20000 in
theorem g13_132 (r : Nat) (l0 l1 l2 l3 l4 l5 l6 : Option AV) (s0 s1 s2 : AV) (M : Mem) (S : Sh) : go r 13 132 [l0, l1, l2, l3, l4, l5, l6] [s0, s1, s2] M S = go r 13 136 [l0, l1, l2, l3, l4, l5, l6] [s0, s1, s2] M S := go_nx rfl rfl
set_option maxRecDepth 20000 in
theorem g13_135 (r : Nat) (l0 l1 l2 l3 l4 l5 l6 : Option AV) (s0 s1 : AV) (M : Mem) (S : Sh) : go r 13 135 [l0, l1, l2, l3, l4, l5, l6] [s0, s1] M S = go r 13 136 [l0, l1, l2, l3, l4, l5, l6] [aI 0, s0, s1] M S := go_nx rfl rfl
set_option maxRecDepth 20000 in
theorem g13_136 (r : Nat) (l0 l1 l2 l3 l4 l5 l6 : Option AV) (x1 x2 : Int) (a0 : Nat) (M : Mem) (S : Sh) (hk : 10 < r) : go r 13 136 [l0, l1, l2, l3, l4, l5, l6] [aI x2, aI x1, aR a0] M S = cont r 13 139 [l0, l1, l2, l3, l4, l5, l6] [] 0 (res 97 [aR a0, aI x1, aI x2] M S) := go_c0 (m' := 97) (n := 3) (pc' := 139) (hr := 0) rfl rfl rfl rfl rfl rfl hk rfl
set_option maxRecDepth 20000 in
theorem g13_139 (r : Nat) (l0 l1 l2 l3 l4 l5 l6 : Option AV) (M : Mem) (S : Sh) : go r 13 139 [l0, l1, l2, l3, l4, l5, l6] [] M S = go r 13 209 [l0, l1, l2, l3, l4, l5, l6] [] M S := go_nx rfl rfl
set_option maxRecDepth 20000 in
theorem g13_142 (r : Nat) (l0 l1 l2 l3 l4 l5 : Option AV) (x : Int) (M : Mem) (S : Sh) : go r 13 142 [l0, l1, l2, l3, l4, l5, some (aI x)] [] M S = go r 13 144 [l0, l1, l2, l3, l4, l5, some (aI x)] [aI x] M S := go_nx rfl rfl
set_option maxRecDepth 20000 in
theorem g13_144 (r : Nat) (l0 l1 l2 l3 l4 l5 l6 : Option AV) (s0 : AV) (M : Mem) (S : Sh) : go r 13 144 [l0, l1, l2, l3, l4, l5, l6] [s0] M S = go r 13 146 [l0, l1, l2, l3, l4, l5, l6] [aI 10, s0] M S := go_nx rfl rfl
set_option maxRecDepth 20000 in
theorem g13_146 (r : Nat) (l0 l1 l2 l3 l4 l5 l6 : Option AV) (x y : Int) (M : Mem) (S : Sh) : go r 13 146 [l0, l1, l2, l3, l4, l5, l6] [aI y, aI x] M S = if x ≠ y then go r 13 173 [l0, l1, l2, l3, l4, l5, l6] [] M S else go r 13 149 [l0, l1, l2, l3, l4, l5, l6] [] M S := go_br rfl rfl rfl rfl rfl
set_option maxRecDepth 20000 in
theorem g13_149 (r : Nat) (l1 l2 l3 l4 l5 l6 : Option AV) (a : Nat) (M : Mem) (S : Sh) : go r 13 149 [some (aR a), l1, l2, l3, l4, l5, l6] [] M S = go r 13 150 [some (aR a), l1, l2, l3, l4, l5, l6] [aR a] M S := go_nx rfl rfl
set_option maxRecDepth 20000 in
theorem g13_150 (r : Nat) (l0 l1 l2 l3 l4 l5 l6 : Option AV) (a : Nat) (M : Mem) (S : Sh) (h : S.1 a = 1) : go r 13 150 [l0, l1, l2, l3, l4, l5, l6] [aR a] M S = go r 13 153 [l0, l1, l2, l3, l4, l5, l6] [aO (S.2.2.1 a 3)] M S := go_bnd rfl h rfl
set_option maxRecDepth 20000 in
theorem g13_153 (r : Nat) (l0 l1 l2 l4 l5 l6 : Option AV) (s0 : AV) (x : Int) (M : Mem) (S : Sh) : go r 13 153 [l0, l1, l2, some (aI x), l4, l5, l6] [s0] M S = go r 13 154 [l0, l1, l2, some (aI x), l4, l5, l6] [aI x, s0] M S := go_nx rfl rfl
set_option maxRecDepth 20000 in
theorem g13_154 (r : Nat) (l0 l1 l2 l3 l4 l5 l6 : Option AV) (s0 s1 : AV) (M : Mem) (S : Sh) : go r 13 154 [l0, l1, l2, l3, l4, l5, l6] [s0, s1] M S = go r 13 155 [l0, l1, l2, l3, l4, l5, l6] [aI 1, s0, s1] M S := go_nx rfl rfl
set_option maxRecDepth 20000 in
theorem g13_155 (r : Nat) (l0 l1 l2 l3 l4 l5 l6 : Option AV) (s0 : AV) (x y : Int) (M : Mem) (S : Sh) : go r 13 155 [l0, l1, l2, l3, l4, l5, l6] [aI y, aI x, s0] M S = go r 13 156 [l0, l1, l2, l3, l4, l5, l6] [aI (w32 (x - y)), s0] M S := go_nx rfl rfl
set_option maxRecDepth 20000 in
theorem g13_156 (r : Nat) (l1 l2 l3 l4 l5 l6 : Option AV) (s0 s1 : AV) (a : Nat) (M : Mem) (S : Sh) : go r 13 156 [some (aR a), l1, l2, l3, l4, l5, l6] [s0, s1] M S = go r 13 157 [some (aR a), l1, l2, l3, l4, l5, l6] [aR a, s0, s1] M S := go_nx rfl rfl
set_option maxRecDepth 20000 in
theorem g13_157 (r : Nat) (l0 l1 l2 l3 l4 l5 l6 : Option AV) (s0 s1 : AV) (a : Nat) (M : Mem) (S : Sh) (h : S.1 a = 1) : go r 13 157 [l0, l1, l2, l3, l4, l5, l6] [aR a, s0, s1] M S = go r 13 160 [l0, l1, l2, l3, l4, l5, l6] [aO (S.2.2.1 a 3), s0, s1] M S := go_bnd rfl h rfl
set_option maxRecDepth 20000 in
theorem g13_160 (r : Nat) (l0 l1 l2 l4 l5 l6 : Option AV) (s0 s1 s2 : AV) (x : Int) (M : Mem) (S : Sh) : go r 13 160 [l0, l1, l2, some (aI x), l4, l5, l6] [s0, s1, s2] M S = go r 13 161 [l0, l1, l2, some (aI x), l4, l5, l6] [aI x, s0, s1, s2] M S := go_nx rfl rfl
set_option maxRecDepth 20000 in
theorem g13_161 (r : Nat) (l0 l1 l2 l3 l4 l5 l6 : Option AV) (s0 s1 s2 s3 : AV) (M : Mem) (S : Sh) : go r 13 161 [l0, l1, l2, l3, l4, l5, l6] [s0, s1, s2, s3] M S = go r 13 162 [l0, l1, l2, l3, l4, l5, l6] [aI 1, s0, s1, s2, s3] M S := go_nx rfl rfl
set_option maxRecDepth 20000 in
theorem g13_162 (r : Nat) (l0 l1 l2 l3 l4 l5 l6 : Option AV) (s0 s1 s2 : AV) (x y : Int) (M : Mem) (S : Sh) : go r 13 162 [l0, l1, l2, l3, l4, l5, l6] [aI y, aI x, s0, s1, s2] M S = go r 13 163 [l0, l1, l2, l3, l4, l5, l6] [aI (w32 (x - y)), s0, s1, s2] M S := go_nx rfl rfl
set_option maxRecDepth 20000 in
theorem g13_163 (r : Nat) (l0 l1 l2 l3 l4 l5 l6 : Option AV) (s0 s1 : AV) (x1 : Int) (a0 : Nat) (M : Mem) (S : Sh) (hk : 10 < r) : go r 13 163 [l0, l1, l2, l3, l4, l5, l6] [aI x1, aR a0, s0, s1] M S = cont r 13 166 [l0, l1, l2, l3, l4, l5, l6] [s0, s1] 1 (res 96 [aR a0, aI x1] M S) := go_c0 (m' := 96) (n := 2) (pc' := 166) (hr := 1) rfl rfl rfl rfl rfl rfl hk rfl
set_option maxRecDepth 20000 in
theorem g13_166 (r : Nat) (l0 l1 l2 l3 l4 l5 l6 : Option AV) (s0 s1 : AV) (x : Int) (M : Mem) (S : Sh) : go r 13 166 [l0, l1, l2, l3, l4, l5, l6] [aI x, s0, s1] M S = go r 13 167 [l0, l1, l2, l3, l4, l5, l6] [aI (w32 (-x)), s0, s1] M S := go_nx rfl rfl
set_option maxRecDepth 20000 in
theorem g13_167 (r : Nat) (l0 l1 l2 l3 l4 l5 l6 : Option AV) (x1 x2 : Int) (a0 : Nat) (M : Mem) (S : Sh) (hk : 10 < r) : go r 13 167 [l0, l1, l2, l3, l4, l5, l6] [aI x2, aI x1, aR a0] M S = cont r 13 170 [l0, l1, l2, l3, l4, l5, l6] [] 0 (res 97 [aR a0, aI x1, aI x2] M S) := go_c0 (m' := 97) (n := 3) (pc' := 170) (hr := 0) rfl rfl rfl rfl rfl rfl hk rfl
set_option maxRecDepth 20000 in
theorem g13_170 (r : Nat) (l0 l1 l2 l3 l4 l5 l6 : Option AV) (M : Mem) (S : Sh) : go r 13 170 [l0, l1, l2, l3, l4, l5, l6] [] M S = go r 13 209 [l0, l1, l2, l3, l4, l5, l6] [] M S := go_nx rfl rfl
set_option maxRecDepth 20000 in
theorem g13_173 (r : Nat) (l0 l1 l2 l4 l5 l6 : Option AV) (x : Int) (M : Mem) (S : Sh) : go r 13 173 [l0, l1, l2, some (aI x), l4, l5, l6] [] M S = go r 13 176 [l0, l1, l2, some (aI (w32 (x + (-1)))), l4, l5, l6] [] M S := go_nx rfl rfl
set_option maxRecDepth 20000 in
theorem g13_176 (r : Nat) (l1 l2 l3 l4 l5 l6 : Option AV) (a : Nat) (M : Mem) (S : Sh) : go r 13 176 [some (aR a), l1, l2, l3, l4, l5, l6] [] M S = go r 13 177 [some (aR a), l1, l2, l3, l4, l5, l6] [aR a] M S := go_nx rfl rfl
set_option maxRecDepth 20000 in
theorem g13_177 (r : Nat) (l0 l1 l2 l3 l4 l5 l6 : Option AV) (a : Nat) (M : Mem) (S : Sh) (h : S.1 a = 1) : go r 13 177 [l0, l1, l2, l3, l4, l5, l6] [aR a] M S = go r 13 180 [l0, l1, l2, l3, l4, l5, l6] [aO (S.2.2.1 a 3)] M S := go_bnd rfl h rfl
set_option maxRecDepth 20000 in
theorem g13_180 (r : Nat) (l0 l1 l2 l4 l5 l6 : Option AV) (s0 : AV) (x : Int) (M : Mem) (S : Sh) : go r 13 180 [l0, l1, l2, some (aI x), l4, l5, l6] [s0] M S = go r 13 181 [l0, l1, l2, some (aI x), l4, l5, l6] [aI x, s0] M S := go_nx rfl rfl
set_option maxRecDepth 20000 in
theorem g13_181 (r : Nat) (l0 l1 l2 l3 l4 l5 l6 : Option AV) (s0 s1 : AV) (M : Mem) (S : Sh) : go r 13 181 [l0, l1, l2, l3, l4, l5, l6] [s0, s1] M S = go r 13 182 [l0, l1, l2, l3, l4, l5, l6] [aI 1, s0, s1] M S := go_nx rfl rfl
set_option maxRecDepth 20000 in
theorem g13_182 (r : Nat) (l0 l1 l2 l3 l4 l5 l6 : Option AV) (s0 : AV) (x y : Int) (M : Mem) (S : Sh) : go r 13 182 [l0, l1, l2, l3, l4, l5, l6] [aI y, aI x, s0] M S = go r 13 183 [l0, l1, l2, l3, l4, l5, l6] [aI (w32 (x - y)), s0] M S := go_nx rfl rfl
set_option maxRecDepth 20000 in
theorem g13_183 (r : Nat) (l0 l1 l2 l3 l4 l5 : Option AV) (s0 s1 : AV) (x : Int) (M : Mem) (S : Sh) : go r 13 183 [l0, l1, l2, l3, l4, l5, some (aI x)] [s0, s1] M S = go r 13 185 [l0, l1, l2, l3, l4, l5, some (aI x)] [aI x, s0, s1] M S := go_nx rfl rfl
set_option maxRecDepth 20000 in
theorem g13_185 (r : Nat) (l1 l2 l3 l4 l5 l6 : Option AV) (s0 s1 s2 : AV) (a : Nat) (M : Mem) (S : Sh) : go r 13 185 [some (aR a), l1, l2, l3, l4, l5, l6] [s0, s1, s2] M S = go r 13 186 [some (aR a), l1, l2, l3, l4, l5, l6] [aR a, s0, s1, s2] M S := go_nx rfl rfl
set_option maxRecDepth 20000 in
theorem g13_186 (r : Nat) (l0 l1 l2 l3 l4 l5 l6 : Option AV) (s0 s1 s2 : AV) (a : Nat) (M : Mem) (S : Sh) (h : S.1 a = 1) : go r 13 186 [l0, l1, l2, l3, l4, l5, l6] [aR a, s0, s1, s2] M S = go r 13 189 [l0, l1, l2, l3, l4, l5, l6] [aO (S.2.2.1 a 3), s0, s1, s2] M S := go_bnd rfl h rfl
set_option maxRecDepth 20000 in
theorem g13_189 (r : Nat) (l0 l1 l2 l4 l5 l6 : Option AV) (s0 s1 s2 s3 : AV) (x : Int) (M : Mem) (S : Sh) : go r 13 189 [l0, l1, l2, some (aI x), l4, l5, l6] [s0, s1, s2, s3] M S = go r 13 190 [l0, l1, l2, some (aI x), l4, l5, l6] [aI x, s0, s1, s2, s3] M S := go_nx rfl rfl
set_option maxRecDepth 20000 in
theorem g13_190 (r : Nat) (l0 l1 l2 l3 l4 l5 l6 : Option AV) (s0 s1 s2 s3 s4 : AV) (M : Mem) (S : Sh) : go r 13 190 [l0, l1, l2, l3, l4, l5, l6] [s0, s1, s2, s3, s4] M S = go r 13 191 [l0, l1, l2, l3, l4, l5, l6] [aI 1, s0, s1, s2, s3, s4] M S := go_nx rfl rfl
set_option maxRecDepth 20000 in
theorem g13_191 (r : Nat) (l0 l1 l2 l3 l4 l5 l6 : Option AV) (s0 s1 s2 s3 : AV) (x y : Int) (M : Mem) (S : Sh) : go r 13 191 [l0, l1, l2, l3, l4, l5, l6] [aI y, aI x, s0, s1, s2, s3] M S = go r 13 192 [l0, l1, l2, l3, l4, l5, l6] [aI (w32 (x - y)), s0, s1, s2, s3] M S := go_nx rfl rfl
set_option maxRecDepth 20000 in
theorem g13_192 (r : Nat) (l0 l1 l2 l3 l4 l5 l6 : Option AV) (s0 s1 s2 : AV) (x1 : Int) (a0 : Nat) (M : Mem) (S : Sh) (hk : 10 < r) : go r 13 192 [l0, l1, l2, l3, l4, l5, l6] [aI x1, aR a0, s0, s1, s2] M S = cont r 13 195 [l0, l1, l2, l3, l4, l5, l6] [s0, s1, s2] 1 (res 96 [aR a0, aI x1] M S) := go_c0 (m' := 96) (n := 2) (pc' := 195) (hr := 1) rfl rfl rfl rfl rfl rfl hk rfl
set_option maxRecDepth 20000 in
theorem g13_195 (r : Nat) (l1 l2 l3 l4 l5 l6 : Option AV) (s0 s1 s2 s3 : AV) (a : Nat) (M : Mem) (S : Sh) : go r 13 195 [some (aR a), l1, l2, l3, l4, l5, l6] [s0, s1, s2, s3] M S = go r 13 196 [some (aR a), l1, l2, l3, l4, l5, l6] [aR a, s0, s1, s2, s3] M S := go_nx rfl rfl
set_option maxRecDepth 20000 in
theorem g13_196 (r : Nat) (l0 l1 l2 l3 l4 l5 l6 : Option AV) (s0 s1 s2 s3 : AV) (a : Nat) (M : Mem) (S : Sh) (h : S.1 a = 1) : go r 13 196 [l0, l1, l2, l3, l4, l5, l6] [aR a, s0, s1, s2, s3] M S = go r 13 199 [l0, l1, l2, l3, l4, l5, l6] [aO (S.2.2.1 a 3), s0, s1, s2, s3] M S := go_bnd rfl h rfl
set_option maxRecDepth 20000 in
theorem g13_199 (r : Nat) (l0 l1 l2 l4 l5 l6 : Option AV) (s0 s1 s2 s3 s4 : AV) (x : Int) (M : Mem) (S : Sh) : go r 13 199 [l0, l1, l2, some (aI x), l4, l5, l6] [s0, s1, s2, s3, s4] M S = go r 13 200 [l0, l1, l2, some (aI x), l4, l5, l6] [aI x, s0, s1, s2, s3, s4] M S := go_nx rfl rfl
set_option maxRecDepth 20000 in
theorem g13_200 (r : Nat) (l0 l1 l2 l3 l4 l5 l6 : Option AV) (s0 s1 s2 s3 : AV) (x1 : Int) (a0 : Nat) (M : Mem) (S : Sh) (hk : 10 < r) : go r 13 200 [l0, l1, l2, l3, l4, l5, l6] [aI x1, aR a0, s0, s1, s2, s3] M S = cont r 13 203 [l0, l1, l2, l3, l4, l5, l6] [s0, s1, s2, s3] 1 (res 96 [aR a0, aI x1] M S) := go_c0 (m' := 96) (n := 2) (pc' := 203) (hr := 1) rfl rfl rfl rfl rfl rfl hk rfl
set_option maxRecDepth 20000 in
theorem g13_203 (r : Nat) (l0 l1 l2 l3 l4 l5 l6 : Option AV) (s0 s1 : AV) (x0 x1 x2 : Int) (M : Mem) (S : Sh) (hk : 10 < r) : go r 13 203 [l0, l1, l2, l3, l4, l5, l6] [aI x2, aI x1, aI x0, s0, s1] M S = cont r 13 206 [l0, l1, l2, l3, l4, l5, l6] [s0, s1] 1 (res 14 [aI x0, aI x1, aI x2] M S) := go_c0 (m' := 14) (n := 3) (pc' := 206) (hr := 1) rfl rfl rfl rfl rfl rfl hk rfl
set_option maxRecDepth 20000 in
theorem g13_206 (r : Nat) (l0 l1 l2 l3 l4 l5 l6 : Option AV) (x1 x2 : Int) (a0 : Nat) (M : Mem) (S : Sh) (hk : 10 < r) : go r 13 206 [l0, l1, l2, l3, l4, l5, l6] [aI x2, aI x1, aR a0] M S = cont r 13 209 [l0, l1, l2, l3, l4, l5, l6] [] 0 (res 97 [aR a0, aI x1, aI x2] M S) := go_c0 (m' := 97) (n := 3) (pc' := 209) (hr := 0) rfl rfl rfl rfl rfl rfl hk rfl
set_option maxRecDepth 20000 in
theorem g13_209 (r : Nat) (l0 l1 l2 l3 l4 l6 : Option AV) (x : Int) (M : Mem) (S : Sh) : go r 13 209 [l0, l1, l2, l3, l4, some (aI x), l6] [] M S = go r 13 212 [l0, l1, l2, l3, l4, some (aI (w32 (x + 1))), l6] [] M S := go_nx rfl rfl
set_option maxRecDepth 20000 in
theorem g13_212 (r : Nat) (l0 l1 l2 l3 l4 l5 l6 : Option AV) (M : Mem) (S : Sh) : go r 13 212 [l0, l1, l2, l3, l4, l5, l6] [] M S = go r 13 24 [l0, l1, l2, l3, l4, l5, l6] [] M S := go_nx rfl rfl
set_option maxRecDepth 20000 in
theorem g13_215 (r : Nat) (l1 l2 l3 l4 l5 l6 : Option AV) (a : Nat) (M : Mem) (S : Sh) : go r 13 215 [some (aR a), l1, l2, l3, l4, l5, l6] [] M S = go r 13 216 [some (aR a), l1, l2, l3, l4, l5, l6] [aR a] M S := go_nx rfl rfl
set_option maxRecDepth 20000 in
theorem g13_216 (r : Nat) (l0 l1 l2 l3 l4 l5 l6 : Option AV) (a : Nat) (M : Mem) (S : Sh) (h : S.1 a = 1) : go r 13 216 [l0, l1, l2, l3, l4, l5, l6] [aR a] M S = go r 13 219 [l0, l1, l2, l3, l4, l5, l6] [aO (S.2.2.1 a 3)] M S := go_bnd rfl h rfl
set_option maxRecDepth 20000 in
theorem g13_219 (r : Nat) (l0 l1 l2 l3 l4 l5 l6 : Option AV) (s0 : AV) (M : Mem) (S : Sh) : go r 13 219 [l0, l1, l2, l3, l4, l5, l6] [s0] M S = go r 13 220 [l0, l1, l2, l3, l4, l5, l6] [aI 0, s0] M S := go_nx rfl rfl
set_option maxRecDepth 20000 in
theorem g13_220 (r : Nat) (l0 l1 l2 l3 l4 l5 l6 : Option AV) (x1 : Int) (a0 : Nat) (M : Mem) (S : Sh) (hk : 10 < r) : go r 13 220 [l0, l1, l2, l3, l4, l5, l6] [aI x1, aR a0] M S = cont r 13 223 [l0, l1, l2, l3, l4, l5, l6] [] 1 (res 96 [aR a0, aI x1] M S) := go_c0 (m' := 96) (n := 2) (pc' := 223) (hr := 1) rfl rfl rfl rfl rfl rfl hk rfl
set_option maxRecDepth 20000 in
theorem g13_223 (r : Nat) (l0 l1 l2 l3 l4 l5 l6 : Option AV) (s0 : AV) (M : Mem) (S : Sh) : go r 13 223 [l0, l1, l2, l3, l4, l5, l6] [s0] M S = go r 13 226 [l0, l1, l2, l3, l4, l5, l6] [aR 1, s0] M S := go_nx rfl rfl
set_option maxRecDepth 20000 in
theorem g13_226 (r : Nat) (l0 l2 l3 l4 l5 l6 : Option AV) (s0 s1 : AV) (x : Int) (M : Mem) (S : Sh) : go r 13 226 [l0, some (aI x), l2, l3, l4, l5, l6] [s0, s1] M S = go r 13 227 [l0, some (aI x), l2, l3, l4, l5, l6] [aI x, s0, s1] M S := go_nx rfl rfl
set_option maxRecDepth 20000 in
theorem g13_227 (r : Nat) (l0 l1 l2 l3 l4 l5 l6 : Option AV) (s0 : AV) (x1 : Int) (a0 : Nat) (M : Mem) (S : Sh) (hk : 10 < r) : go r 13 227 [l0, l1, l2, l3, l4, l5, l6] [aI x1, aR a0, s0] M S = cont r 13 230 [l0, l1, l2, l3, l4, l5, l6] [s0] 1 (res 96 [aR a0, aI x1] M S) := go_c0 (m' := 96) (n := 2) (pc' := 230) (hr := 1) rfl rfl rfl rfl rfl rfl hk rfl
set_option maxRecDepth 20000 in
theorem g13_230 (r : Nat) (l0 l1 l2 l3 l4 l5 l6 : Option AV) (s0 s1 : AV) (M : Mem) (S : Sh) : go r 13 230 [l0, l1, l2, l3, l4, l5, l6] [s0, s1] M S = go r 13 233 [l0, l1, l2, l3, l4, l5, l6] [aR 2, s0, s1] M S := go_nx rfl rfl
set_option maxRecDepth 20000 in
theorem g13_233 (r : Nat) (l0 l2 l3 l4 l5 l6 : Option AV) (s0 s1 s2 : AV) (x : Int) (M : Mem) (S : Sh) : go r 13 233 [l0, some (aI x), l2, l3, l4, l5, l6] [s0, s1, s2] M S = go r 13 234 [l0, some (aI x), l2, l3, l4, l5, l6] [aI x, s0, s1, s2] M S := go_nx rfl rfl
set_option maxRecDepth 20000 in
theorem g13_234 (r : Nat) (l0 l1 l2 l3 l4 l5 l6 : Option AV) (s0 s1 : AV) (x1 : Int) (a0 : Nat) (M : Mem) (S : Sh) (hk : 10 < r) : go r 13 234 [l0, l1, l2, l3, l4, l5, l6] [aI x1, aR a0, s0, s1] M S = cont r 13 237 [l0, l1, l2, l3, l4, l5, l6] [s0, s1] 1 (res 96 [aR a0, aI x1] M S) := go_c0 (m' := 96) (n := 2) (pc' := 237) (hr := 1) rfl rfl rfl rfl rfl rfl hk rfl
set_option maxRecDepth 20000 in
theorem g13_237 (r : Nat) (l0 l1 l2 l3 l4 l5 l6 : Option AV) (x0 x1 x2 : Int) (M : Mem) (S : Sh) (hk : 10 < r) : go r 13 237 [l0, l1, l2, l3, l4, l5, l6] [aI x2, aI x1, aI x0] M S = cont r 13 240 [l0, l1, l2, l3, l4, l5, l6] [] 1 (res 98 [aI x0, aI x1, aI x2] M S) := go_c0 (m' := 98) (n := 3) (pc' := 240) (hr := 1) rfl rfl rfl rfl rfl rfl hk rfl
set_option maxRecDepth 20000 in
theorem g13_240 (r : Nat) (l0 l1 l2 l3 l4 l5 l6 : Option AV) (x : Int) (M : Mem) (S : Sh) : go r 13 240 [l0, l1, l2, l3, l4, l5, l6] [aI x] M S = some (some (aI x), M, S) := go_rt rfl (bnd_t (Or.inl rfl))
/-- StripsFromAbove$Law.joined(III)I -/
theorem g14 (x0 x1 x2 : Int) (M : Mem) (S : Sh) : res 14 [aI x0, aI x1, aI x2] M S = go 10 14 0 [some (aI x0), some (aI x1), some (aI x2)] [] M S := res_e0 rfl _ M S
theorem g14_0 (r : Nat) (l1 l2 : Option AV) (x : Int) (M : Mem) (S : Sh) : go r 14 0 [some (aI x), l1, l2] [] M S = go r 14 1 [some (aI x), l1, l2] [aI x] M S := go_nx rfl rfl
theorem g14_1c8 (r : Nat) (l0 l1 l2 : Option AV) (M : Mem) (S : Sh) : go r 14 1 [l0, l1, l2] [aI 8] M S = go r 14 94 [l0, l1, l2] [] M S := go_nx rfl rfl
theorem g14_1c42 (r : Nat) (l0 l1 l2 : Option AV) (M : Mem) (S : Sh) : go r 14 1 [l0, l1, l2] [aI 42] M S = go r 14 68 [l0, l1, l2] [] M S := go_nx rfl rfl
theorem g14_1c43 (r : Nat) (l0 l1 l2 : Option AV) (M : Mem) (S : Sh) : go r 14 1 [l0, l1, l2] [aI 43] M S = go r 14 60 [l0, l1, l2] [] M S := go_nx rfl rfl
theorem g14_1c45 (r : Nat) (l0 l1 l2 : Option AV) (M : Mem) (S : Sh) : go r 14 1 [l0, l1, l2] [aI 45] M S = go r 14 64 [l0, l1, l2] [] M S := go_nx rfl rfl
theorem g14_1c60 (r : Nat) (l0 l1 l2 : Option AV) (M : Mem) (S : Sh) : go r 14 1 [l0, l1, l2] [aI 60] M S = go r 14 72 [l0, l1, l2] [] M S := go_nx rfl rfl
theorem g14_1c61 (r : Nat) (l0 l1 l2 : Option AV) (M : Mem) (S : Sh) : go r 14 1 [l0, l1, l2] [aI 61] M S = go r 14 83 [l0, l1, l2] [] M S := go_nx rfl rfl
theorem g14_1c0 (r : Nat) (l0 l1 l2 : Option AV) (M : Mem) (S : Sh) : go r 14 1 [l0, l1, l2] [aI 0] M S = go r 14 108 [l0, l1, l2] [] M S := go_nx rfl rfl
theorem g14_1c1 (r : Nat) (l0 l1 l2 : Option AV) (M : Mem) (S : Sh) : go r 14 1 [l0, l1, l2] [aI 1] M S = go r 14 108 [l0, l1, l2] [] M S := go_nx rfl rfl
theorem g14_1c2 (r : Nat) (l0 l1 l2 : Option AV) (M : Mem) (S : Sh) : go r 14 1 [l0, l1, l2] [aI 2] M S = go r 14 108 [l0, l1, l2] [] M S := go_nx rfl rfl
theorem g14_1c3 (r : Nat) (l0 l1 l2 : Option AV) (M : Mem) (S : Sh) : go r 14 1 [l0, l1, l2] [aI 3] M S = go r 14 108 [l0, l1, l2] [] M S := go_nx rfl rfl
theorem g14_1c4 (r : Nat) (l0 l1 l2 : Option AV) (M : Mem) (S : Sh) : go r 14 1 [l0, l1, l2] [aI 4] M S = go r 14 108 [l0, l1, l2] [] M S := go_nx rfl rfl
theorem g14_1c5 (r : Nat) (l0 l1 l2 : Option AV) (M : Mem) (S : Sh) : go r 14 1 [l0, l1, l2] [aI 5] M S = go r 14 108 [l0, l1, l2] [] M S := go_nx rfl rfl
theorem g14_60 (r : Nat) (l0 l2 : Option AV) (x : Int) (M : Mem) (S : Sh) : go r 14 60 [l0, some (aI x), l2] [] M S = go r 14 61 [l0, some (aI x), l2] [aI x] M S := go_nx rfl rfl
theorem g14_61 (r : Nat) (l0 l1 : Option AV) (s0 : AV) (x : Int) (M : Mem) (S : Sh) : go r 14 61 [l0, l1, some (aI x)] [s0] M S = go r 14 62 [l0, l1, some (aI x)] [aI x, s0] M S := go_nx rfl rfl
theorem g14_62 (r : Nat) (l0 l1 l2 : Option AV) (x y : Int) (M : Mem) (S : Sh) : go r 14 62 [l0, l1, l2] [aI y, aI x] M S = go r 14 63 [l0, l1, l2] [aI (w32 (x + y))] M S := go_nx rfl rfl
theorem g14_63 (r : Nat) (l0 l1 l2 : Option AV) (x : Int) (M : Mem) (S : Sh) : go r 14 63 [l0, l1, l2] [aI x] M S = some (some (aI x), M, S) := go_rt rfl (bnd_t (Or.inl rfl))
theorem g14_64 (r : Nat) (l0 l2 : Option AV) (x : Int) (M : Mem) (S : Sh) : go r 14 64 [l0, some (aI x), l2] [] M S = go r 14 65 [l0, some (aI x), l2] [aI x] M S := go_nx rfl rfl
theorem g14_65 (r : Nat) (l0 l1 : Option AV) (s0 : AV) (x : Int) (M : Mem) (S : Sh) : go r 14 65 [l0, l1, some (aI x)] [s0] M S = go r 14 66 [l0, l1, some (aI x)] [aI x, s0] M S := go_nx rfl rfl
theorem g14_66 (r : Nat) (l0 l1 l2 : Option AV) (x y : Int) (M : Mem) (S : Sh) : go r 14 66 [l0, l1, l2] [aI y, aI x] M S = go r 14 67 [l0, l1, l2] [aI (w32 (x - y))] M S := go_nx rfl rfl
theorem g14_67 (r : Nat) (l0 l1 l2 : Option AV) (x : Int) (M : Mem) (S : Sh) : go r 14 67 [l0, l1, l2] [aI x] M S = some (some (aI x), M, S) := go_rt rfl (bnd_t (Or.inl rfl))
theorem g14_68 (r : Nat) (l0 l2 : Option AV) (x : Int) (M : Mem) (S : Sh) : go r 14 68 [l0, some (aI x), l2] [] M S = go r 14 69 [l0, some (aI x), l2] [aI x] M S := go_nx rfl rfl
theorem g14_69 (r : Nat) (l0 l1 : Option AV) (s0 : AV) (x : Int) (M : Mem) (S : Sh) : go r 14 69 [l0, l1, some (aI x)] [s0] M S = go r 14 70 [l0, l1, some (aI x)] [aI x, s0] M S := go_nx rfl rfl
theorem g14_70 (r : Nat) (l0 l1 l2 : Option AV) (x y : Int) (M : Mem) (S : Sh) : go r 14 70 [l0, l1, l2] [aI y, aI x] M S = go r 14 71 [l0, l1, l2] [aI (w32 (x * y))] M S := go_nx rfl rfl
theorem g14_71 (r : Nat) (l0 l1 l2 : Option AV) (x : Int) (M : Mem) (S : Sh) : go r 14 71 [l0, l1, l2] [aI x] M S = some (some (aI x), M, S) := go_rt rfl (bnd_t (Or.inl rfl))
theorem g14_72 (r : Nat) (l0 l2 : Option AV) (x : Int) (M : Mem) (S : Sh) : go r 14 72 [l0, some (aI x), l2] [] M S = go r 14 73 [l0, some (aI x), l2] [aI x] M S := go_nx rfl rfl
theorem g14_73 (r : Nat) (l0 l1 : Option AV) (s0 : AV) (x : Int) (M : Mem) (S : Sh) : go r 14 73 [l0, l1, some (aI x)] [s0] M S = go r 14 74 [l0, l1, some (aI x)] [aI x, s0] M S := go_nx rfl rfl
theorem g14_74 (r : Nat) (l0 l1 l2 : Option AV) (x y : Int) (M : Mem) (S : Sh) : go r 14 74 [l0, l1, l2] [aI y, aI x] M S = if x ≥ y then go r 14 81 [l0, l1, l2] [] M S else go r 14 77 [l0, l1, l2] [] M S := go_br rfl rfl rfl rfl rfl
theorem g14_77 (r : Nat) (l0 l1 l2 : Option AV) (M : Mem) (S : Sh) : go r 14 77 [l0, l1, l2] [] M S = go r 14 78 [l0, l1, l2] [aI 1] M S := go_nx rfl rfl
theorem g14_78 (r : Nat) (l0 l1 l2 : Option AV) (s0 : AV) (M : Mem) (S : Sh) : go r 14 78 [l0, l1, l2] [s0] M S = go r 14 82 [l0, l1, l2] [s0] M S := go_nx rfl rfl
theorem g14_81 (r : Nat) (l0 l1 l2 : Option AV) (M : Mem) (S : Sh) : go r 14 81 [l0, l1, l2] [] M S = go r 14 82 [l0, l1, l2] [aI 0] M S := go_nx rfl rfl
theorem g14_82 (r : Nat) (l0 l1 l2 : Option AV) (x : Int) (M : Mem) (S : Sh) : go r 14 82 [l0, l1, l2] [aI x] M S = some (some (aI x), M, S) := go_rt rfl (bnd_t (Or.inl rfl))
theorem g14_83 (r : Nat) (l0 l2 : Option AV) (x : Int) (M : Mem) (S : Sh) : go r 14 83 [l0, some (aI x), l2] [] M S = go r 14 84 [l0, some (aI x), l2] [aI x] M S := go_nx rfl rfl
theorem g14_84 (r : Nat) (l0 l1 : Option AV) (s0 : AV) (x : Int) (M : Mem) (S : Sh) : go r 14 84 [l0, l1, some (aI x)] [s0] M S = go r 14 85 [l0, l1, some (aI x)] [aI x, s0] M S := go_nx rfl rfl
theorem g14_85 (r : Nat) (l0 l1 l2 : Option AV) (x y : Int) (M : Mem) (S : Sh) : go r 14 85 [l0, l1, l2] [aI y, aI x] M S = if x ≠ y then go r 14 92 [l0, l1, l2] [] M S else go r 14 88 [l0, l1, l2] [] M S := go_br rfl rfl rfl rfl rfl
theorem g14_88 (r : Nat) (l0 l1 l2 : Option AV) (M : Mem) (S : Sh) : go r 14 88 [l0, l1, l2] [] M S = go r 14 89 [l0, l1, l2] [aI 1] M S := go_nx rfl rfl
theorem g14_89 (r : Nat) (l0 l1 l2 : Option AV) (s0 : AV) (M : Mem) (S : Sh) : go r 14 89 [l0, l1, l2] [s0] M S = go r 14 93 [l0, l1, l2] [s0] M S := go_nx rfl rfl
theorem g14_92 (r : Nat) (l0 l1 l2 : Option AV) (M : Mem) (S : Sh) : go r 14 92 [l0, l1, l2] [] M S = go r 14 93 [l0, l1, l2] [aI 0] M S := go_nx rfl rfl
theorem g14_93 (r : Nat) (l0 l1 l2 : Option AV) (x : Int) (M : Mem) (S : Sh) : go r 14 93 [l0, l1, l2] [aI x] M S = some (some (aI x), M, S) := go_rt rfl (bnd_t (Or.inl rfl))
theorem g14_94 (r : Nat) (l0 l2 : Option AV) (x : Int) (M : Mem) (S : Sh) : go r 14 94 [l0, some (aI x), l2] [] M S = go r 14 95 [l0, some (aI x), l2] [aI x] M S := go_nx rfl rfl
theorem g14_95 (r : Nat) (l0 l1 l2 : Option AV) (x : Int) (M : Mem) (S : Sh) : go r 14 95 [l0, l1, l2] [aI x] M S = if x = 0 then go r 14 106 [l0, l1, l2] [] M S else go r 14 98 [l0, l1, l2] [] M S := go_br rfl rfl rfl rfl rfl
theorem g14_98 (r : Nat) (l0 l1 : Option AV) (x : Int) (M : Mem) (S : Sh) : go r 14 98 [l0, l1, some (aI x)] [] M S = go r 14 99 [l0, l1, some (aI x)] [aI x] M S := go_nx rfl rfl
theorem g14_99 (r : Nat) (l0 l1 l2 : Option AV) (x : Int) (M : Mem) (S : Sh) : go r 14 99 [l0, l1, l2] [aI x] M S = if x = 0 then go r 14 106 [l0, l1, l2] [] M S else go r 14 102 [l0, l1, l2] [] M S := go_br rfl rfl rfl rfl rfl
theorem g14_102 (r : Nat) (l0 l1 l2 : Option AV) (M : Mem) (S : Sh) : go r 14 102 [l0, l1, l2] [] M S = go r 14 103 [l0, l1, l2] [aI 1] M S := go_nx rfl rfl
theorem g14_103 (r : Nat) (l0 l1 l2 : Option AV) (s0 : AV) (M : Mem) (S : Sh) : go r 14 103 [l0, l1, l2] [s0] M S = go r 14 107 [l0, l1, l2] [s0] M S := go_nx rfl rfl
theorem g14_106 (r : Nat) (l0 l1 l2 : Option AV) (M : Mem) (S : Sh) : go r 14 106 [l0, l1, l2] [] M S = go r 14 107 [l0, l1, l2] [aI 0] M S := go_nx rfl rfl
theorem g14_107 (r : Nat) (l0 l1 l2 : Option AV) (x : Int) (M : Mem) (S : Sh) : go r 14 107 [l0, l1, l2] [aI x] M S = some (some (aI x), M, S) := go_rt rfl (bnd_t (Or.inl rfl))
theorem g14_108 (r : Nat) (l0 l2 : Option AV) (x : Int) (M : Mem) (S : Sh) : go r 14 108 [l0, some (aI x), l2] [] M S = go r 14 109 [l0, some (aI x), l2] [aI x] M S := go_nx rfl rfl
theorem g14_109 (r : Nat) (l0 l1 l2 : Option AV) (x : Int) (M : Mem) (S : Sh) : go r 14 109 [l0, l1, l2] [aI x] M S = if x ≠ 0 then go r 14 116 [l0, l1, l2] [] M S else go r 14 112 [l0, l1, l2] [] M S := go_br rfl rfl rfl rfl rfl
theorem g14_112 (r : Nat) (l0 l1 : Option AV) (x : Int) (M : Mem) (S : Sh) : go r 14 112 [l0, l1, some (aI x)] [] M S = go r 14 113 [l0, l1, some (aI x)] [aI x] M S := go_nx rfl rfl
theorem g14_113 (r : Nat) (l0 l1 l2 : Option AV) (x : Int) (M : Mem) (S : Sh) : go r 14 113 [l0, l1, l2] [aI x] M S = if x = 0 then go r 14 120 [l0, l1, l2] [] M S else go r 14 116 [l0, l1, l2] [] M S := go_br rfl rfl rfl rfl rfl
theorem g14_116 (r : Nat) (l0 l1 l2 : Option AV) (M : Mem) (S : Sh) : go r 14 116 [l0, l1, l2] [] M S = go r 14 117 [l0, l1, l2] [aI 1] M S := go_nx rfl rfl
theorem g14_117 (r : Nat) (l0 l1 l2 : Option AV) (s0 : AV) (M : Mem) (S : Sh) : go r 14 117 [l0, l1, l2] [s0] M S = go r 14 121 [l0, l1, l2] [s0] M S := go_nx rfl rfl
theorem g14_120 (r : Nat) (l0 l1 l2 : Option AV) (M : Mem) (S : Sh) : go r 14 120 [l0, l1, l2] [] M S = go r 14 121 [l0, l1, l2] [aI 0] M S := go_nx rfl rfl
theorem g14_121 (r : Nat) (l0 l1 l2 : Option AV) (x : Int) (M : Mem) (S : Sh) : go r 14 121 [l0, l1, l2] [aI x] M S = some (some (aI x), M, S) := go_rt rfl (bnd_t (Or.inl rfl))
