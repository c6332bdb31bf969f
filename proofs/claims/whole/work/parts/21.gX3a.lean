/-- StripsFromAbove$Scene.<init>()V -/
theorem g33 (a0 : Nat) (M : Mem) (S : Sh) : res 33 [aR a0] M S = go 10 33 0 [some (aR a0)] [] M S := res_e0 rfl _ M S
theorem g33_0 (r : Nat) (a : Nat) (M : Mem) (S : Sh) : go r 33 0 [some (aR a)] [] M S = go r 33 1 [some (aR a)] [aR a] M S := go_nx rfl rfl
theorem g33_1 (r : Nat) (l0 : Option AV) (a : Nat) (M : Mem) (S : Sh) : go r 33 1 [l0] [aR a] M S = go r 33 4 [l0] [] M S := go_bnd (c := ([] : List AV).length ≤ 4) rfl (Nat.le_of_ble_eq_true rfl) rfl
theorem g33_4 (r : Nat) (a : Nat) (M : Mem) (S : Sh) : go r 33 4 [some (aR a)] [] M S = go r 33 5 [some (aR a)] [aR a] M S := go_nx rfl rfl
theorem g33_5 (r : Nat) (l0 : Option AV) (s0 : AV) (M : Mem) (S : Sh) : go r 33 5 [l0] [s0] M S = go r 33 8 [l0] [aI 192, s0] M S := go_nx rfl rfl
theorem g33_8 (r : Nat) (l0 : Option AV) (s0 : AV) (x : Int) (M : Mem) (S : Sh) (h : 0 ≤ x ∧ x ≤ 100000) : go r 33 8 [l0] [aI x, s0] M S = go r 33 10 [l0] [aR S.2.2.2.1, s0] (mrow M S.2.2.2.1 (fun _ => 0)) (fset S.1 S.2.2.2.1 7, fset S.2.1 S.2.2.2.1 x.toNat, S.2.2.1, S.2.2.2.1 + 1, S.2.2.2.2 + x.toNat) := go_bnd rfl h rfl
theorem g33_10 (r : Nat) (l0 : Option AV) (a v : Nat) (M : Mem) (S : Sh) (h : S.1 a = 3) : go r 33 10 [l0] [aR v, aR a] M S = go r 33 13 [l0] [] M (S.1, S.2.1, pset S.2.2.1 a 0 (some v), S.2.2.2) := go_bnd rfl h rfl
theorem g33_13 (r : Nat) (a : Nat) (M : Mem) (S : Sh) : go r 33 13 [some (aR a)] [] M S = go r 33 14 [some (aR a)] [aR a] M S := go_nx rfl rfl
theorem g33_14 (r : Nat) (l0 : Option AV) (s0 : AV) (M : Mem) (S : Sh) : go r 33 14 [l0] [s0] M S = go r 33 17 [l0] [aI 192, s0] M S := go_nx rfl rfl
theorem g33_17 (r : Nat) (l0 : Option AV) (s0 : AV) (x : Int) (M : Mem) (S : Sh) (h : 0 ≤ x ∧ x ≤ 100000) : go r 33 17 [l0] [aI x, s0] M S = go r 33 19 [l0] [aR S.2.2.2.1, s0] (mrow M S.2.2.2.1 (fun _ => 0)) (fset S.1 S.2.2.2.1 7, fset S.2.1 S.2.2.2.1 x.toNat, S.2.2.1, S.2.2.2.1 + 1, S.2.2.2.2 + x.toNat) := go_bnd rfl h rfl
theorem g33_19 (r : Nat) (l0 : Option AV) (a v : Nat) (M : Mem) (S : Sh) (h : S.1 a = 3) : go r 33 19 [l0] [aR v, aR a] M S = go r 33 22 [l0] [] M (S.1, S.2.1, pset S.2.2.1 a 1 (some v), S.2.2.2) := go_bnd rfl h rfl
theorem g33_22 (r : Nat) (a : Nat) (M : Mem) (S : Sh) : go r 33 22 [some (aR a)] [] M S = go r 33 23 [some (aR a)] [aR a] M S := go_nx rfl rfl
theorem g33_23 (r : Nat) (l0 : Option AV) (s0 : AV) (M : Mem) (S : Sh) : go r 33 23 [l0] [s0] M S = go r 33 25 [l0] [aI 12, s0] M S := go_nx rfl rfl
theorem g33_25 (r : Nat) (l0 : Option AV) (s0 : AV) (x : Int) (M : Mem) (S : Sh) (h : 0 ≤ x ∧ x ≤ 100000) : go r 33 25 [l0] [aI x, s0] M S = go r 33 27 [l0] [aR S.2.2.2.1, s0] (mrow M S.2.2.2.1 (fun _ => 0)) (fset S.1 S.2.2.2.1 7, fset S.2.1 S.2.2.2.1 x.toNat, S.2.2.1, S.2.2.2.1 + 1, S.2.2.2.2 + x.toNat) := go_bnd rfl h rfl
theorem g33_27 (r : Nat) (l0 : Option AV) (a v : Nat) (M : Mem) (S : Sh) (h : S.1 a = 3) : go r 33 27 [l0] [aR v, aR a] M S = go r 33 30 [l0] [] M (S.1, S.2.1, pset S.2.2.1 a 2 (some v), S.2.2.2) := go_bnd rfl h rfl
theorem g33_30 (r : Nat) (a : Nat) (M : Mem) (S : Sh) : go r 33 30 [some (aR a)] [] M S = go r 33 31 [some (aR a)] [aR a] M S := go_nx rfl rfl
theorem g33_31 (r : Nat) (l0 : Option AV) (s0 : AV) (M : Mem) (S : Sh) : go r 33 31 [l0] [s0] M S = go r 33 33 [l0] [aI 12, s0] M S := go_nx rfl rfl
theorem g33_33 (r : Nat) (l0 : Option AV) (s0 : AV) (x : Int) (M : Mem) (S : Sh) (h : 0 ≤ x ∧ x ≤ 100000) : go r 33 33 [l0] [aI x, s0] M S = go r 33 35 [l0] [aR S.2.2.2.1, s0] (mrow M S.2.2.2.1 (fun _ => 0)) (fset S.1 S.2.2.2.1 7, fset S.2.1 S.2.2.2.1 x.toNat, S.2.2.1, S.2.2.2.1 + 1, S.2.2.2.2 + x.toNat) := go_bnd rfl h rfl
theorem g33_35 (r : Nat) (l0 : Option AV) (a v : Nat) (M : Mem) (S : Sh) (h : S.1 a = 3) : go r 33 35 [l0] [aR v, aR a] M S = go r 33 38 [l0] [] M (S.1, S.2.1, pset S.2.2.1 a 3 (some v), S.2.2.2) := go_bnd rfl h rfl
theorem g33_38 (r : Nat) (a : Nat) (M : Mem) (S : Sh) : go r 33 38 [some (aR a)] [] M S = go r 33 39 [some (aR a)] [aR a] M S := go_nx rfl rfl
theorem g33_39 (r : Nat) (l0 : Option AV) (s0 : AV) (M : Mem) (S : Sh) : go r 33 39 [l0] [s0] M S = go r 33 40 [l0] [aI 4, s0] M S := go_nx rfl rfl
theorem g33_40 (r : Nat) (l0 : Option AV) (s0 : AV) (x : Int) (M : Mem) (S : Sh) (h : 0 ≤ x ∧ x ≤ 100000) : go r 33 40 [l0] [aI x, s0] M S = go r 33 42 [l0] [aR S.2.2.2.1, s0] (mrow M S.2.2.2.1 (fun _ => 0)) (fset S.1 S.2.2.2.1 7, fset S.2.1 S.2.2.2.1 x.toNat, S.2.2.1, S.2.2.2.1 + 1, S.2.2.2.2 + x.toNat) := go_bnd rfl h rfl
theorem g33_42 (r : Nat) (l0 : Option AV) (a v : Nat) (M : Mem) (S : Sh) (h : S.1 a = 3) : go r 33 42 [l0] [aR v, aR a] M S = go r 33 45 [l0] [] M (S.1, S.2.1, pset S.2.2.1 a 5 (some v), S.2.2.2) := go_bnd rfl h rfl
theorem g33_45 (r : Nat) (a : Nat) (M : Mem) (S : Sh) : go r 33 45 [some (aR a)] [] M S = go r 33 46 [some (aR a)] [aR a] M S := go_nx rfl rfl
theorem g33_46 (r : Nat) (l0 : Option AV) (s0 : AV) (M : Mem) (S : Sh) : go r 33 46 [l0] [s0] M S = go r 33 47 [l0] [aI 4, s0] M S := go_nx rfl rfl
theorem g33_47 (r : Nat) (l0 : Option AV) (s0 : AV) (x : Int) (M : Mem) (S : Sh) (h : 0 ≤ x ∧ x ≤ 100000) : go r 33 47 [l0] [aI x, s0] M S = go r 33 49 [l0] [aR S.2.2.2.1, s0] (mrow M S.2.2.2.1 (fun _ => 0)) (fset S.1 S.2.2.2.1 7, fset S.2.1 S.2.2.2.1 x.toNat, S.2.2.1, S.2.2.2.1 + 1, S.2.2.2.2 + x.toNat) := go_bnd rfl h rfl
theorem g33_49 (r : Nat) (l0 : Option AV) (a v : Nat) (M : Mem) (S : Sh) (h : S.1 a = 3) : go r 33 49 [l0] [aR v, aR a] M S = go r 33 52 [l0] [] M (S.1, S.2.1, pset S.2.2.1 a 6 (some v), S.2.2.2) := go_bnd rfl h rfl
theorem g33_52 (r : Nat) (a : Nat) (M : Mem) (S : Sh) : go r 33 52 [some (aR a)] [] M S = go r 33 53 [some (aR a)] [aR a] M S := go_nx rfl rfl
theorem g33_53 (r : Nat) (l0 : Option AV) (s0 : AV) (M : Mem) (S : Sh) : go r 33 53 [l0] [s0] M S = go r 33 54 [l0] [aI 4, s0] M S := go_nx rfl rfl
theorem g33_54 (r : Nat) (l0 : Option AV) (s0 : AV) (x : Int) (M : Mem) (S : Sh) (h : 0 ≤ x ∧ x ≤ 100000) : go r 33 54 [l0] [aI x, s0] M S = go r 33 56 [l0] [aR S.2.2.2.1, s0] (mrow M S.2.2.2.1 (fun _ => 0)) (fset S.1 S.2.2.2.1 7, fset S.2.1 S.2.2.2.1 x.toNat, S.2.2.1, S.2.2.2.1 + 1, S.2.2.2.2 + x.toNat) := go_bnd rfl h rfl
theorem g33_56 (r : Nat) (l0 : Option AV) (a v : Nat) (M : Mem) (S : Sh) (h : S.1 a = 3) : go r 33 56 [l0] [aR v, aR a] M S = go r 33 59 [l0] [] M (S.1, S.2.1, pset S.2.2.1 a 7 (some v), S.2.2.2) := go_bnd rfl h rfl
theorem g33_59 (r : Nat) (a : Nat) (M : Mem) (S : Sh) : go r 33 59 [some (aR a)] [] M S = go r 33 60 [some (aR a)] [aR a] M S := go_nx rfl rfl
theorem g33_60 (r : Nat) (l0 : Option AV) (s0 : AV) (M : Mem) (S : Sh) : go r 33 60 [l0] [s0] M S = go r 33 61 [l0] [aI 4, s0] M S := go_nx rfl rfl
theorem g33_61 (r : Nat) (l0 : Option AV) (s0 : AV) (x : Int) (M : Mem) (S : Sh) (h : 0 ≤ x ∧ x ≤ 100000) : go r 33 61 [l0] [aI x, s0] M S = go r 33 63 [l0] [aR S.2.2.2.1, s0] (mrow M S.2.2.2.1 (fun _ => 0)) (fset S.1 S.2.2.2.1 7, fset S.2.1 S.2.2.2.1 x.toNat, S.2.2.1, S.2.2.2.1 + 1, S.2.2.2.2 + x.toNat) := go_bnd rfl h rfl
theorem g33_63 (r : Nat) (l0 : Option AV) (a v : Nat) (M : Mem) (S : Sh) (h : S.1 a = 3) : go r 33 63 [l0] [aR v, aR a] M S = go r 33 66 [l0] [] M (S.1, S.2.1, pset S.2.2.1 a 8 (some v), S.2.2.2) := go_bnd rfl h rfl
theorem g33_66 (r : Nat) (a : Nat) (M : Mem) (S : Sh) : go r 33 66 [some (aR a)] [] M S = go r 33 67 [some (aR a)] [aR a] M S := go_nx rfl rfl
theorem g33_67 (r : Nat) (l0 : Option AV) (s0 : AV) (M : Mem) (S : Sh) : go r 33 67 [l0] [s0] M S = go r 33 68 [l0] [aI 4, s0] M S := go_nx rfl rfl
theorem g33_68 (r : Nat) (l0 : Option AV) (s0 : AV) (x : Int) (M : Mem) (S : Sh) (h : 0 ≤ x ∧ x ≤ 100000) : go r 33 68 [l0] [aI x, s0] M S = go r 33 70 [l0] [aR S.2.2.2.1, s0] (mrow M S.2.2.2.1 (fun _ => 0)) (fset S.1 S.2.2.2.1 7, fset S.2.1 S.2.2.2.1 x.toNat, S.2.2.1, S.2.2.2.1 + 1, S.2.2.2.2 + x.toNat) := go_bnd rfl h rfl
theorem g33_70 (r : Nat) (l0 : Option AV) (a v : Nat) (M : Mem) (S : Sh) (h : S.1 a = 3) : go r 33 70 [l0] [aR v, aR a] M S = go r 33 73 [l0] [] M (S.1, S.2.1, pset S.2.2.1 a 9 (some v), S.2.2.2) := go_bnd rfl h rfl
theorem g33_73 (r : Nat) (a : Nat) (M : Mem) (S : Sh) : go r 33 73 [some (aR a)] [] M S = go r 33 74 [some (aR a)] [aR a] M S := go_nx rfl rfl
theorem g33_74 (r : Nat) (l0 : Option AV) (s0 : AV) (M : Mem) (S : Sh) : go r 33 74 [l0] [s0] M S = go r 33 76 [l0] [aI 10, s0] M S := go_nx rfl rfl
theorem g33_76 (r : Nat) (l0 : Option AV) (x : Int) (a : Nat) (M : Mem) (S : Sh) (h : S.1 a = 3) : go r 33 76 [l0] [aI x, aR a] M S = go r 33 79 [l0] [] (mset M a 12 x) S := go_bnd rfl ⟨h, fun z => absurd z (by decide)⟩ rfl
theorem g33_79 (r : Nat) (a : Nat) (M : Mem) (S : Sh) : go r 33 79 [some (aR a)] [] M S = go r 33 80 [some (aR a)] [aR a] M S := go_nx rfl rfl
theorem g33_80 (r : Nat) (l0 : Option AV) (s0 : AV) (M : Mem) (S : Sh) : go r 33 80 [l0] [s0] M S = go r 33 81 [l0] [aI (-1), s0] M S := go_nx rfl rfl
theorem g33_81 (r : Nat) (l0 : Option AV) (x : Int) (a : Nat) (M : Mem) (S : Sh) (h : S.1 a = 3) : go r 33 81 [l0] [aI x, aR a] M S = go r 33 84 [l0] [] (mset M a 13 x) S := go_bnd rfl ⟨h, fun z => absurd z (by decide)⟩ rfl
theorem g33_84 (r : Nat) (l0 : Option AV) (M : Mem) (S : Sh) : go r 33 84 [l0] [] M S = some (none, M, S) := go_rt rfl rfl
/-- StripsFromAbove$Scene.take(LStripsFromAbove$Scene;)V -/
theorem g34 (a0 a1 : Nat) (M : Mem) (S : Sh) : res 34 [aR a0, aR a1] M S = go 10 34 0 [some (aR a0), some (aR a1)] [] M S := res_e0 rfl _ M S
theorem g34_0 (r : Nat) (l0 : Option AV) (a : Nat) (M : Mem) (S : Sh) : go r 34 0 [l0, some (aR a)] [] M S = go r 34 1 [l0, some (aR a)] [aR a] M S := go_nx rfl rfl
theorem g34_0n (r : Nat) (l0 : Option AV) (M : Mem) (S : Sh) : go r 34 0 [l0, some aN] [] M S = go r 34 1 [l0, some aN] [aN] M S := go_nx rfl rfl
theorem g34_1 (r : Nat) (l0 l1 : Option AV) (a : Nat) (M : Mem) (S : Sh) (h : S.1 a = 3) : go r 34 1 [l0, l1] [aR a] M S = go r 34 4 [l0, l1] [aO (S.2.2.1 a 0)] M S := go_bnd rfl h rfl
theorem g34_4 (r : Nat) (l0 l1 : Option AV) (s0 : AV) (M : Mem) (S : Sh) : go r 34 4 [l0, l1] [s0] M S = go r 34 5 [l0, l1] [aI 0, s0] M S := go_nx rfl rfl
theorem g34_5 (r : Nat) (l1 : Option AV) (s0 s1 : AV) (a : Nat) (M : Mem) (S : Sh) : go r 34 5 [some (aR a), l1] [s0, s1] M S = go r 34 6 [some (aR a), l1] [aR a, s0, s1] M S := go_nx rfl rfl
theorem g34_6 (r : Nat) (l0 l1 : Option AV) (s0 s1 : AV) (a : Nat) (M : Mem) (S : Sh) (h : S.1 a = 3) : go r 34 6 [l0, l1] [aR a, s0, s1] M S = go r 34 9 [l0, l1] [aO (S.2.2.1 a 0), s0, s1] M S := go_bnd rfl h rfl
theorem g34_9 (r : Nat) (l0 l1 : Option AV) (s0 s1 s2 : AV) (M : Mem) (S : Sh) : go r 34 9 [l0, l1] [s0, s1, s2] M S = go r 34 10 [l0, l1] [aI 0, s0, s1, s2] M S := go_nx rfl rfl
theorem g34_10 (r : Nat) (l0 l1 : Option AV) (s0 s1 s2 s3 : AV) (M : Mem) (S : Sh) : go r 34 10 [l0, l1] [s0, s1, s2, s3] M S = go r 34 13 [l0, l1] [aI 192, s0, s1, s2, s3] M S := go_nx rfl rfl
theorem g34_13 (r : Nat) (l0 l1 : Option AV) (x y z : Int) (a b : Nat) (M : Mem) (S : Sh) (h : S.1 a = 7 ∧ S.1 b = 7 ∧ 6 ≤ a ∧ 6 ≤ b ∧ 0 ≤ z ∧ 0 ≤ x ∧ 0 ≤ y ∧ x + z ≤ S.2.1 a ∧ y + z ≤ S.2.1 b) : go r 34 13 [l0, l1] [aI z, aI y, aR b, aI x, aR a] M S = go r 34 16 [l0, l1] [] (mrow M b (am_cpy (M a) (M b) x.toNat y.toNat z.toNat)) S := go_bnd rfl ⟨Nat.le_of_ble_eq_true rfl, h⟩ rfl
theorem g34_16 (r : Nat) (l0 : Option AV) (a : Nat) (M : Mem) (S : Sh) : go r 34 16 [l0, some (aR a)] [] M S = go r 34 17 [l0, some (aR a)] [aR a] M S := go_nx rfl rfl
theorem g34_16n (r : Nat) (l0 : Option AV) (M : Mem) (S : Sh) : go r 34 16 [l0, some aN] [] M S = go r 34 17 [l0, some aN] [aN] M S := go_nx rfl rfl
theorem g34_17 (r : Nat) (l0 l1 : Option AV) (a : Nat) (M : Mem) (S : Sh) (h : S.1 a = 3) : go r 34 17 [l0, l1] [aR a] M S = go r 34 20 [l0, l1] [aO (S.2.2.1 a 1)] M S := go_bnd rfl h rfl
theorem g34_20 (r : Nat) (l0 l1 : Option AV) (s0 : AV) (M : Mem) (S : Sh) : go r 34 20 [l0, l1] [s0] M S = go r 34 21 [l0, l1] [aI 0, s0] M S := go_nx rfl rfl
theorem g34_21 (r : Nat) (l1 : Option AV) (s0 s1 : AV) (a : Nat) (M : Mem) (S : Sh) : go r 34 21 [some (aR a), l1] [s0, s1] M S = go r 34 22 [some (aR a), l1] [aR a, s0, s1] M S := go_nx rfl rfl
theorem g34_22 (r : Nat) (l0 l1 : Option AV) (s0 s1 : AV) (a : Nat) (M : Mem) (S : Sh) (h : S.1 a = 3) : go r 34 22 [l0, l1] [aR a, s0, s1] M S = go r 34 25 [l0, l1] [aO (S.2.2.1 a 1), s0, s1] M S := go_bnd rfl h rfl
theorem g34_25 (r : Nat) (l0 l1 : Option AV) (s0 s1 s2 : AV) (M : Mem) (S : Sh) : go r 34 25 [l0, l1] [s0, s1, s2] M S = go r 34 26 [l0, l1] [aI 0, s0, s1, s2] M S := go_nx rfl rfl
theorem g34_26 (r : Nat) (l0 l1 : Option AV) (s0 s1 s2 s3 : AV) (M : Mem) (S : Sh) : go r 34 26 [l0, l1] [s0, s1, s2, s3] M S = go r 34 29 [l0, l1] [aI 192, s0, s1, s2, s3] M S := go_nx rfl rfl
theorem g34_29 (r : Nat) (l0 l1 : Option AV) (x y z : Int) (a b : Nat) (M : Mem) (S : Sh) (h : S.1 a = 7 ∧ S.1 b = 7 ∧ 6 ≤ a ∧ 6 ≤ b ∧ 0 ≤ z ∧ 0 ≤ x ∧ 0 ≤ y ∧ x + z ≤ S.2.1 a ∧ y + z ≤ S.2.1 b) : go r 34 29 [l0, l1] [aI z, aI y, aR b, aI x, aR a] M S = go r 34 32 [l0, l1] [] (mrow M b (am_cpy (M a) (M b) x.toNat y.toNat z.toNat)) S := go_bnd rfl ⟨Nat.le_of_ble_eq_true rfl, h⟩ rfl
theorem g34_32 (r : Nat) (l0 : Option AV) (a : Nat) (M : Mem) (S : Sh) : go r 34 32 [l0, some (aR a)] [] M S = go r 34 33 [l0, some (aR a)] [aR a] M S := go_nx rfl rfl
theorem g34_32n (r : Nat) (l0 : Option AV) (M : Mem) (S : Sh) : go r 34 32 [l0, some aN] [] M S = go r 34 33 [l0, some aN] [aN] M S := go_nx rfl rfl
theorem g34_33 (r : Nat) (l0 l1 : Option AV) (a : Nat) (M : Mem) (S : Sh) (h : S.1 a = 3) : go r 34 33 [l0, l1] [aR a] M S = go r 34 36 [l0, l1] [aO (S.2.2.1 a 2)] M S := go_bnd rfl h rfl
theorem g34_36 (r : Nat) (l0 l1 : Option AV) (s0 : AV) (M : Mem) (S : Sh) : go r 34 36 [l0, l1] [s0] M S = go r 34 37 [l0, l1] [aI 0, s0] M S := go_nx rfl rfl
theorem g34_37 (r : Nat) (l1 : Option AV) (s0 s1 : AV) (a : Nat) (M : Mem) (S : Sh) : go r 34 37 [some (aR a), l1] [s0, s1] M S = go r 34 38 [some (aR a), l1] [aR a, s0, s1] M S := go_nx rfl rfl
theorem g34_38 (r : Nat) (l0 l1 : Option AV) (s0 s1 : AV) (a : Nat) (M : Mem) (S : Sh) (h : S.1 a = 3) : go r 34 38 [l0, l1] [aR a, s0, s1] M S = go r 34 41 [l0, l1] [aO (S.2.2.1 a 2), s0, s1] M S := go_bnd rfl h rfl
theorem g34_41 (r : Nat) (l0 l1 : Option AV) (s0 s1 s2 : AV) (M : Mem) (S : Sh) : go r 34 41 [l0, l1] [s0, s1, s2] M S = go r 34 42 [l0, l1] [aI 0, s0, s1, s2] M S := go_nx rfl rfl
theorem g34_42 (r : Nat) (l0 l1 : Option AV) (s0 s1 s2 s3 : AV) (M : Mem) (S : Sh) : go r 34 42 [l0, l1] [s0, s1, s2, s3] M S = go r 34 44 [l0, l1] [aI 12, s0, s1, s2, s3] M S := go_nx rfl rfl
theorem g34_44 (r : Nat) (l0 l1 : Option AV) (x y z : Int) (a b : Nat) (M : Mem) (S : Sh) (h : S.1 a = 7 ∧ S.1 b = 7 ∧ 6 ≤ a ∧ 6 ≤ b ∧ 0 ≤ z ∧ 0 ≤ x ∧ 0 ≤ y ∧ x + z ≤ S.2.1 a ∧ y + z ≤ S.2.1 b) : go r 34 44 [l0, l1] [aI z, aI y, aR b, aI x, aR a] M S = go r 34 47 [l0, l1] [] (mrow M b (am_cpy (M a) (M b) x.toNat y.toNat z.toNat)) S := go_bnd rfl ⟨Nat.le_of_ble_eq_true rfl, h⟩ rfl
theorem g34_47 (r : Nat) (l0 : Option AV) (a : Nat) (M : Mem) (S : Sh) : go r 34 47 [l0, some (aR a)] [] M S = go r 34 48 [l0, some (aR a)] [aR a] M S := go_nx rfl rfl
theorem g34_47n (r : Nat) (l0 : Option AV) (M : Mem) (S : Sh) : go r 34 47 [l0, some aN] [] M S = go r 34 48 [l0, some aN] [aN] M S := go_nx rfl rfl
theorem g34_48 (r : Nat) (l0 l1 : Option AV) (a : Nat) (M : Mem) (S : Sh) (h : S.1 a = 3) : go r 34 48 [l0, l1] [aR a] M S = go r 34 51 [l0, l1] [aO (S.2.2.1 a 3)] M S := go_bnd rfl h rfl
theorem g34_51 (r : Nat) (l0 l1 : Option AV) (s0 : AV) (M : Mem) (S : Sh) : go r 34 51 [l0, l1] [s0] M S = go r 34 52 [l0, l1] [aI 0, s0] M S := go_nx rfl rfl
theorem g34_52 (r : Nat) (l1 : Option AV) (s0 s1 : AV) (a : Nat) (M : Mem) (S : Sh) : go r 34 52 [some (aR a), l1] [s0, s1] M S = go r 34 53 [some (aR a), l1] [aR a, s0, s1] M S := go_nx rfl rfl
theorem g34_53 (r : Nat) (l0 l1 : Option AV) (s0 s1 : AV) (a : Nat) (M : Mem) (S : Sh) (h : S.1 a = 3) : go r 34 53 [l0, l1] [aR a, s0, s1] M S = go r 34 56 [l0, l1] [aO (S.2.2.1 a 3), s0, s1] M S := go_bnd rfl h rfl
theorem g34_56 (r : Nat) (l0 l1 : Option AV) (s0 s1 s2 : AV) (M : Mem) (S : Sh) : go r 34 56 [l0, l1] [s0, s1, s2] M S = go r 34 57 [l0, l1] [aI 0, s0, s1, s2] M S := go_nx rfl rfl
theorem g34_57 (r : Nat) (l0 l1 : Option AV) (s0 s1 s2 s3 : AV) (M : Mem) (S : Sh) : go r 34 57 [l0, l1] [s0, s1, s2, s3] M S = go r 34 59 [l0, l1] [aI 12, s0, s1, s2, s3] M S := go_nx rfl rfl
theorem g34_59 (r : Nat) (l0 l1 : Option AV) (x y z : Int) (a b : Nat) (M : Mem) (S : Sh) (h : S.1 a = 7 ∧ S.1 b = 7 ∧ 6 ≤ a ∧ 6 ≤ b ∧ 0 ≤ z ∧ 0 ≤ x ∧ 0 ≤ y ∧ x + z ≤ S.2.1 a ∧ y + z ≤ S.2.1 b) : go r 34 59 [l0, l1] [aI z, aI y, aR b, aI x, aR a] M S = go r 34 62 [l0, l1] [] (mrow M b (am_cpy (M a) (M b) x.toNat y.toNat z.toNat)) S := go_bnd rfl ⟨Nat.le_of_ble_eq_true rfl, h⟩ rfl
theorem g34_62 (r : Nat) (l1 : Option AV) (a : Nat) (M : Mem) (S : Sh) : go r 34 62 [some (aR a), l1] [] M S = go r 34 63 [some (aR a), l1] [aR a] M S := go_nx rfl rfl
theorem g34_63 (r : Nat) (l0 : Option AV) (s0 : AV) (a : Nat) (M : Mem) (S : Sh) : go r 34 63 [l0, some (aR a)] [s0] M S = go r 34 64 [l0, some (aR a)] [aR a, s0] M S := go_nx rfl rfl
theorem g34_63n (r : Nat) (l0 : Option AV) (s0 : AV) (M : Mem) (S : Sh) : go r 34 63 [l0, some aN] [s0] M S = go r 34 64 [l0, some aN] [aN, s0] M S := go_nx rfl rfl
theorem g34_64 (r : Nat) (l0 l1 : Option AV) (s0 : AV) (a : Nat) (M : Mem) (S : Sh) (h : S.1 a = 3) : go r 34 64 [l0, l1] [aR a, s0] M S = go r 34 67 [l0, l1] [aI (M a 4), s0] M S := go_bnd rfl h rfl
theorem g34_67 (r : Nat) (l0 l1 : Option AV) (x : Int) (a : Nat) (M : Mem) (S : Sh) (h : S.1 a = 3) : go r 34 67 [l0, l1] [aI x, aR a] M S = go r 34 70 [l0, l1] [] (mset M a 4 x) S := go_bnd rfl ⟨h, fun z => absurd z (by decide)⟩ rfl
theorem g34_70 (r : Nat) (l0 : Option AV) (a : Nat) (M : Mem) (S : Sh) : go r 34 70 [l0, some (aR a)] [] M S = go r 34 71 [l0, some (aR a)] [aR a] M S := go_nx rfl rfl
theorem g34_70n (r : Nat) (l0 : Option AV) (M : Mem) (S : Sh) : go r 34 70 [l0, some aN] [] M S = go r 34 71 [l0, some aN] [aN] M S := go_nx rfl rfl
theorem g34_71 (r : Nat) (l0 l1 : Option AV) (a : Nat) (M : Mem) (S : Sh) (h : S.1 a = 3) : go r 34 71 [l0, l1] [aR a] M S = go r 34 74 [l0, l1] [aO (S.2.2.1 a 5)] M S := go_bnd rfl h rfl
theorem g34_74 (r : Nat) (l0 l1 : Option AV) (s0 : AV) (M : Mem) (S : Sh) : go r 34 74 [l0, l1] [s0] M S = go r 34 75 [l0, l1] [aI 0, s0] M S := go_nx rfl rfl
theorem g34_75 (r : Nat) (l1 : Option AV) (s0 s1 : AV) (a : Nat) (M : Mem) (S : Sh) : go r 34 75 [some (aR a), l1] [s0, s1] M S = go r 34 76 [some (aR a), l1] [aR a, s0, s1] M S := go_nx rfl rfl
theorem g34_76 (r : Nat) (l0 l1 : Option AV) (s0 s1 : AV) (a : Nat) (M : Mem) (S : Sh) (h : S.1 a = 3) : go r 34 76 [l0, l1] [aR a, s0, s1] M S = go r 34 79 [l0, l1] [aO (S.2.2.1 a 5), s0, s1] M S := go_bnd rfl h rfl
theorem g34_79 (r : Nat) (l0 l1 : Option AV) (s0 s1 s2 : AV) (M : Mem) (S : Sh) : go r 34 79 [l0, l1] [s0, s1, s2] M S = go r 34 80 [l0, l1] [aI 0, s0, s1, s2] M S := go_nx rfl rfl
theorem g34_80 (r : Nat) (l0 l1 : Option AV) (s0 s1 s2 s3 : AV) (M : Mem) (S : Sh) : go r 34 80 [l0, l1] [s0, s1, s2, s3] M S = go r 34 81 [l0, l1] [aI 4, s0, s1, s2, s3] M S := go_nx rfl rfl
theorem g34_81 (r : Nat) (l0 l1 : Option AV) (x y z : Int) (a b : Nat) (M : Mem) (S : Sh) (h : S.1 a = 7 ∧ S.1 b = 7 ∧ 6 ≤ a ∧ 6 ≤ b ∧ 0 ≤ z ∧ 0 ≤ x ∧ 0 ≤ y ∧ x + z ≤ S.2.1 a ∧ y + z ≤ S.2.1 b) : go r 34 81 [l0, l1] [aI z, aI y, aR b, aI x, aR a] M S = go r 34 84 [l0, l1] [] (mrow M b (am_cpy (M a) (M b) x.toNat y.toNat z.toNat)) S := go_bnd rfl ⟨Nat.le_of_ble_eq_true rfl, h⟩ rfl
theorem g34_84 (r : Nat) (l0 : Option AV) (a : Nat) (M : Mem) (S : Sh) : go r 34 84 [l0, some (aR a)] [] M S = go r 34 85 [l0, some (aR a)] [aR a] M S := go_nx rfl rfl
theorem g34_84n (r : Nat) (l0 : Option AV) (M : Mem) (S : Sh) : go r 34 84 [l0, some aN] [] M S = go r 34 85 [l0, some aN] [aN] M S := go_nx rfl rfl
theorem g34_85 (r : Nat) (l0 l1 : Option AV) (a : Nat) (M : Mem) (S : Sh) (h : S.1 a = 3) : go r 34 85 [l0, l1] [aR a] M S = go r 34 88 [l0, l1] [aO (S.2.2.1 a 6)] M S := go_bnd rfl h rfl
theorem g34_88 (r : Nat) (l0 l1 : Option AV) (s0 : AV) (M : Mem) (S : Sh) : go r 34 88 [l0, l1] [s0] M S = go r 34 89 [l0, l1] [aI 0, s0] M S := go_nx rfl rfl
theorem g34_89 (r : Nat) (l1 : Option AV) (s0 s1 : AV) (a : Nat) (M : Mem) (S : Sh) : go r 34 89 [some (aR a), l1] [s0, s1] M S = go r 34 90 [some (aR a), l1] [aR a, s0, s1] M S := go_nx rfl rfl
theorem g34_90 (r : Nat) (l0 l1 : Option AV) (s0 s1 : AV) (a : Nat) (M : Mem) (S : Sh) (h : S.1 a = 3) : go r 34 90 [l0, l1] [aR a, s0, s1] M S = go r 34 93 [l0, l1] [aO (S.2.2.1 a 6), s0, s1] M S := go_bnd rfl h rfl
theorem g34_93 (r : Nat) (l0 l1 : Option AV) (s0 s1 s2 : AV) (M : Mem) (S : Sh) : go r 34 93 [l0, l1] [s0, s1, s2] M S = go r 34 94 [l0, l1] [aI 0, s0, s1, s2] M S := go_nx rfl rfl
theorem g34_94 (r : Nat) (l0 l1 : Option AV) (s0 s1 s2 s3 : AV) (M : Mem) (S : Sh) : go r 34 94 [l0, l1] [s0, s1, s2, s3] M S = go r 34 95 [l0, l1] [aI 4, s0, s1, s2, s3] M S := go_nx rfl rfl
theorem g34_95 (r : Nat) (l0 l1 : Option AV) (x y z : Int) (a b : Nat) (M : Mem) (S : Sh) (h : S.1 a = 7 ∧ S.1 b = 7 ∧ 6 ≤ a ∧ 6 ≤ b ∧ 0 ≤ z ∧ 0 ≤ x ∧ 0 ≤ y ∧ x + z ≤ S.2.1 a ∧ y + z ≤ S.2.1 b) : go r 34 95 [l0, l1] [aI z, aI y, aR b, aI x, aR a] M S = go r 34 98 [l0, l1] [] (mrow M b (am_cpy (M a) (M b) x.toNat y.toNat z.toNat)) S := go_bnd rfl ⟨Nat.le_of_ble_eq_true rfl, h⟩ rfl
theorem g34_98 (r : Nat) (l0 : Option AV) (a : Nat) (M : Mem) (S : Sh) : go r 34 98 [l0, some (aR a)] [] M S = go r 34 99 [l0, some (aR a)] [aR a] M S := go_nx rfl rfl
theorem g34_98n (r : Nat) (l0 : Option AV) (M : Mem) (S : Sh) : go r 34 98 [l0, some aN] [] M S = go r 34 99 [l0, some aN] [aN] M S := go_nx rfl rfl
theorem g34_99 (r : Nat) (l0 l1 : Option AV) (a : Nat) (M : Mem) (S : Sh) (h : S.1 a = 3) : go r 34 99 [l0, l1] [aR a] M S = go r 34 102 [l0, l1] [aO (S.2.2.1 a 7)] M S := go_bnd rfl h rfl
theorem g34_102 (r : Nat) (l0 l1 : Option AV) (s0 : AV) (M : Mem) (S : Sh) : go r 34 102 [l0, l1] [s0] M S = go r 34 103 [l0, l1] [aI 0, s0] M S := go_nx rfl rfl
theorem g34_103 (r : Nat) (l1 : Option AV) (s0 s1 : AV) (a : Nat) (M : Mem) (S : Sh) : go r 34 103 [some (aR a), l1] [s0, s1] M S = go r 34 104 [some (aR a), l1] [aR a, s0, s1] M S := go_nx rfl rfl
theorem g34_104 (r : Nat) (l0 l1 : Option AV) (s0 s1 : AV) (a : Nat) (M : Mem) (S : Sh) (h : S.1 a = 3) : go r 34 104 [l0, l1] [aR a, s0, s1] M S = go r 34 107 [l0, l1] [aO (S.2.2.1 a 7), s0, s1] M S := go_bnd rfl h rfl
theorem g34_107 (r : Nat) (l0 l1 : Option AV) (s0 s1 s2 : AV) (M : Mem) (S : Sh) : go r 34 107 [l0, l1] [s0, s1, s2] M S = go r 34 108 [l0, l1] [aI 0, s0, s1, s2] M S := go_nx rfl rfl
theorem g34_108 (r : Nat) (l0 l1 : Option AV) (s0 s1 s2 s3 : AV) (M : Mem) (S : Sh) : go r 34 108 [l0, l1] [s0, s1, s2, s3] M S = go r 34 109 [l0, l1] [aI 4, s0, s1, s2, s3] M S := go_nx rfl rfl
theorem g34_109 (r : Nat) (l0 l1 : Option AV) (x y z : Int) (a b : Nat) (M : Mem) (S : Sh) (h : S.1 a = 7 ∧ S.1 b = 7 ∧ 6 ≤ a ∧ 6 ≤ b ∧ 0 ≤ z ∧ 0 ≤ x ∧ 0 ≤ y ∧ x + z ≤ S.2.1 a ∧ y + z ≤ S.2.1 b) : go r 34 109 [l0, l1] [aI z, aI y, aR b, aI x, aR a] M S = go r 34 112 [l0, l1] [] (mrow M b (am_cpy (M a) (M b) x.toNat y.toNat z.toNat)) S := go_bnd rfl ⟨Nat.le_of_ble_eq_true rfl, h⟩ rfl
theorem g34_112 (r : Nat) (l0 : Option AV) (a : Nat) (M : Mem) (S : Sh) : go r 34 112 [l0, some (aR a)] [] M S = go r 34 113 [l0, some (aR a)] [aR a] M S := go_nx rfl rfl
theorem g34_112n (r : Nat) (l0 : Option AV) (M : Mem) (S : Sh) : go r 34 112 [l0, some aN] [] M S = go r 34 113 [l0, some aN] [aN] M S := go_nx rfl rfl
set_option maxRecDepth 20000 in
theorem g34_113 (r : Nat) (l0 l1 : Option AV) (a : Nat) (M : Mem) (S : Sh) (h : S.1 a = 3) : go r 34 113 [l0, l1] [aR a] M S = go r 34 116 [l0, l1] [aO (S.2.2.1 a 8)] M S := go_bnd rfl h rfl
set_option maxRecDepth 20000 in
theorem g34_116 (r : Nat) (l0 l1 : Option AV) (s0 : AV) (M : Mem) (S : Sh) : go r 34 116 [l0, l1] [s0] M S = go r 34 117 [l0, l1] [aI 0, s0] M S := go_nx rfl rfl
set_option maxRecDepth 20000 in
theorem g34_117 (r : Nat) (l1 : Option AV) (s0 s1 : AV) (a : Nat) (M : Mem) (S : Sh) : go r 34 117 [some (aR a), l1] [s0, s1] M S = go r 34 118 [some (aR a), l1] [aR a, s0, s1] M S := go_nx rfl rfl
set_option maxRecDepth 20000 in
theorem g34_118 (r : Nat) (l0 l1 : Option AV) (s0 s1 : AV) (a : Nat) (M : Mem) (S : Sh) (h : S.1 a = 3) : go r 34 118 [l0, l1] [aR a, s0, s1] M S = go r 34 121 [l0, l1] [aO (S.2.2.1 a 8), s0, s1] M S := go_bnd rfl h rfl
set_option maxRecDepth 20000 in
theorem g34_121 (r : Nat) (l0 l1 : Option AV) (s0 s1 s2 : AV) (M : Mem) (S : Sh) : go r 34 121 [l0, l1] [s0, s1, s2] M S = go r 34 122 [l0, l1] [aI 0, s0, s1, s2] M S := go_nx rfl rfl
set_option maxRecDepth 20000 in
theorem g34_122 (r : Nat) (l0 l1 : Option AV) (s0 s1 s2 s3 : AV) (M : Mem) (S : Sh) : go r 34 122 [l0, l1] [s0, s1, s2, s3] M S = go r 34 123 [l0, l1] [aI 4, s0, s1, s2, s3] M S := go_nx rfl rfl
set_option maxRecDepth 20000 in
theorem g34_123 (r : Nat) (l0 l1 : Option AV) (x y z : Int) (a b : Nat) (M : Mem) (S : Sh) (h : S.1 a = 7 ∧ S.1 b = 7 ∧ 6 ≤ a ∧ 6 ≤ b ∧ 0 ≤ z ∧ 0 ≤ x ∧ 0 ≤ y ∧ x + z ≤ S.2.1 a ∧ y + z ≤ S.2.1 b) : go r 34 123 [l0, l1] [aI z, aI y, aR b, aI x, aR a] M S = go r 34 126 [l0, l1] [] (mrow M b (am_cpy (M a) (M b) x.toNat y.toNat z.toNat)) S := go_bnd rfl ⟨Nat.le_of_ble_eq_true rfl, h⟩ rfl
set_option maxRecDepth 20000 in
theorem g34_126 (r : Nat) (l0 : Option AV) (a : Nat) (M : Mem) (S : Sh) : go r 34 126 [l0, some (aR a)] [] M S = go r 34 127 [l0, some (aR a)] [aR a] M S := go_nx rfl rfl
set_option maxRecDepth 20000 in
theorem g34_126n (r : Nat) (l0 : Option AV) (M : Mem) (S : Sh) : go r 34 126 [l0, some aN] [] M S = go r 34 127 [l0, some aN] [aN] M S := go_nx rfl rfl
set_option maxRecDepth 20000 in
theorem g34_127 (r : Nat) (l0 l1 : Option AV) (a : Nat) (M : Mem) (S : Sh) (h : S.1 a = 3) : go r 34 127 [l0, l1] [aR a] M S = go r 34 130 [l0, l1] [aO (S.2.2.1 a 9)] M S := go_bnd rfl h rfl
set_option maxRecDepth 20000 in
theorem g34_130 (r : Nat) (l0 l1 : Option AV) (s0 : AV) (M : Mem) (S : Sh) : go r 34 130 [l0, l1] [s0] M S = go r 34 131 [l0, l1] [aI 0, s0] M S := go_nx rfl rfl
set_option maxRecDepth 20000 in
theorem g34_131 (r : Nat) (l1 : Option AV) (s0 s1 : AV) (a : Nat) (M : Mem) (S : Sh) : go r 34 131 [some (aR a), l1] [s0, s1] M S = go r 34 132 [some (aR a), l1] [aR a, s0, s1] M S := go_nx rfl rfl
set_option maxRecDepth 20000 in
theorem g34_132 (r : Nat) (l0 l1 : Option AV) (s0 s1 : AV) (a : Nat) (M : Mem) (S : Sh) (h : S.1 a = 3) : go r 34 132 [l0, l1] [aR a, s0, s1] M S = go r 34 135 [l0, l1] [aO (S.2.2.1 a 9), s0, s1] M S := go_bnd rfl h rfl
set_option maxRecDepth 20000 in
theorem g34_135 (r : Nat) (l0 l1 : Option AV) (s0 s1 s2 : AV) (M : Mem) (S : Sh) : go r 34 135 [l0, l1] [s0, s1, s2] M S = go r 34 136 [l0, l1] [aI 0, s0, s1, s2] M S := go_nx rfl rfl
set_option maxRecDepth 20000 in
theorem g34_136 (r : Nat) (l0 l1 : Option AV) (s0 s1 s2 s3 : AV) (M : Mem) (S : Sh) : go r 34 136 [l0, l1] [s0, s1, s2, s3] M S = go r 34 137 [l0, l1] [aI 4, s0, s1, s2, s3] M S := go_nx rfl rfl
set_option maxRecDepth 20000 in
theorem g34_137 (r : Nat) (l0 l1 : Option AV) (x y z : Int) (a b : Nat) (M : Mem) (S : Sh) (h : S.1 a = 7 ∧ S.1 b = 7 ∧ 6 ≤ a ∧ 6 ≤ b ∧ 0 ≤ z ∧ 0 ≤ x ∧ 0 ≤ y ∧ x + z ≤ S.2.1 a ∧ y + z ≤ S.2.1 b) : go r 34 137 [l0, l1] [aI z, aI y, aR b, aI x, aR a] M S = go r 34 140 [l0, l1] [] (mrow M b (am_cpy (M a) (M b) x.toNat y.toNat z.toNat)) S := go_bnd rfl ⟨Nat.le_of_ble_eq_true rfl, h⟩ rfl
set_option maxRecDepth 20000 in
theorem g34_140 (r : Nat) (l1 : Option AV) (a : Nat) (M : Mem) (S : Sh) : go r 34 140 [some (aR a), l1] [] M S = go r 34 141 [some (aR a), l1] [aR a] M S := go_nx rfl rfl
set_option maxRecDepth 20000 in
theorem g34_141 (r : Nat) (l0 : Option AV) (s0 : AV) (a : Nat) (M : Mem) (S : Sh) : go r 34 141 [l0, some (aR a)] [s0] M S = go r 34 142 [l0, some (aR a)] [aR a, s0] M S := go_nx rfl rfl
set_option maxRecDepth 20000 in
theorem g34_141n (r : Nat) (l0 : Option AV) (s0 : AV) (M : Mem) (S : Sh) : go r 34 141 [l0, some aN] [s0] M S = go r 34 142 [l0, some aN] [aN, s0] M S := go_nx rfl rfl
set_option maxRecDepth 20000 in
theorem g34_142 (r : Nat) (l0 l1 : Option AV) (s0 : AV) (a : Nat) (M : Mem) (S : Sh) (h : S.1 a = 3) : go r 34 142 [l0, l1] [aR a, s0] M S = go r 34 145 [l0, l1] [aI (M a 10), s0] M S := go_bnd rfl h rfl
set_option maxRecDepth 20000 in
theorem g34_145 (r : Nat) (l0 l1 : Option AV) (x : Int) (a : Nat) (M : Mem) (S : Sh) (h : S.1 a = 3) : go r 34 145 [l0, l1] [aI x, aR a] M S = go r 34 148 [l0, l1] [] (mset M a 10 x) S := go_bnd rfl ⟨h, fun z => absurd z (by decide)⟩ rfl
set_option maxRecDepth 20000 in
theorem g34_148 (r : Nat) (l1 : Option AV) (a : Nat) (M : Mem) (S : Sh) : go r 34 148 [some (aR a), l1] [] M S = go r 34 149 [some (aR a), l1] [aR a] M S := go_nx rfl rfl
set_option maxRecDepth 20000 in
theorem g34_149 (r : Nat) (l0 : Option AV) (s0 : AV) (a : Nat) (M : Mem) (S : Sh) : go r 34 149 [l0, some (aR a)] [s0] M S = go r 34 150 [l0, some (aR a)] [aR a, s0] M S := go_nx rfl rfl
set_option maxRecDepth 20000 in
theorem g34_149n (r : Nat) (l0 : Option AV) (s0 : AV) (M : Mem) (S : Sh) : go r 34 149 [l0, some aN] [s0] M S = go r 34 150 [l0, some aN] [aN, s0] M S := go_nx rfl rfl
set_option maxRecDepth 20000 in
theorem g34_150 (r : Nat) (l0 l1 : Option AV) (s0 : AV) (a : Nat) (M : Mem) (S : Sh) (h : S.1 a = 3) : go r 34 150 [l0, l1] [aR a, s0] M S = go r 34 153 [l0, l1] [aI (M a 11), s0] M S := go_bnd rfl h rfl
set_option maxRecDepth 20000 in
theorem g34_153 (r : Nat) (l0 l1 : Option AV) (x : Int) (a : Nat) (M : Mem) (S : Sh) (h : S.1 a = 3) : go r 34 153 [l0, l1] [aI x, aR a] M S = go r 34 156 [l0, l1] [] (mset M a 11 x) S := go_bnd rfl ⟨h, fun z => absurd z (by decide)⟩ rfl
set_option maxRecDepth 20000 in
theorem g34_156 (r : Nat) (l1 : Option AV) (a : Nat) (M : Mem) (S : Sh) : go r 34 156 [some (aR a), l1] [] M S = go r 34 157 [some (aR a), l1] [aR a] M S := go_nx rfl rfl
set_option maxRecDepth 20000 in
theorem g34_157 (r : Nat) (l0 : Option AV) (s0 : AV) (a : Nat) (M : Mem) (S : Sh) : go r 34 157 [l0, some (aR a)] [s0] M S = go r 34 158 [l0, some (aR a)] [aR a, s0] M S := go_nx rfl rfl
set_option maxRecDepth 20000 in
theorem g34_157n (r : Nat) (l0 : Option AV) (s0 : AV) (M : Mem) (S : Sh) : go r 34 157 [l0, some aN] [s0] M S = go r 34 158 [l0, some aN] [aN, s0] M S := go_nx rfl rfl
set_option maxRecDepth 20000 in
theorem g34_158 (r : Nat) (l0 l1 : Option AV) (s0 : AV) (a : Nat) (M : Mem) (S : Sh) (h : S.1 a = 3) : go r 34 158 [l0, l1] [aR a, s0] M S = go r 34 161 [l0, l1] [aI (M a 12), s0] M S := go_bnd rfl h rfl
set_option maxRecDepth 20000 in
theorem g34_161 (r : Nat) (l0 l1 : Option AV) (x : Int) (a : Nat) (M : Mem) (S : Sh) (h : S.1 a = 3) : go r 34 161 [l0, l1] [aI x, aR a] M S = go r 34 164 [l0, l1] [] (mset M a 12 x) S := go_bnd rfl ⟨h, fun z => absurd z (by decide)⟩ rfl
set_option maxRecDepth 20000 in
theorem g34_164 (r : Nat) (l1 : Option AV) (a : Nat) (M : Mem) (S : Sh) : go r 34 164 [some (aR a), l1] [] M S = go r 34 165 [some (aR a), l1] [aR a] M S := go_nx rfl rfl
set_option maxRecDepth 20000 in
theorem g34_165 (r : Nat) (l0 : Option AV) (s0 : AV) (a : Nat) (M : Mem) (S : Sh) : go r 34 165 [l0, some (aR a)] [s0] M S = go r 34 166 [l0, some (aR a)] [aR a, s0] M S := go_nx rfl rfl
set_option maxRecDepth 20000 in
theorem g34_165n (r : Nat) (l0 : Option AV) (s0 : AV) (M : Mem) (S : Sh) : go r 34 165 [l0, some aN] [s0] M S = go r 34 166 [l0, some aN] [aN, s0] M S := go_nx rfl rfl
set_option maxRecDepth 20000 in
theorem g34_166 (r : Nat) (l0 l1 : Option AV) (s0 : AV) (a : Nat) (M : Mem) (S : Sh) (h : S.1 a = 3) : go r 34 166 [l0, l1] [aR a, s0] M S = go r 34 169 [l0, l1] [aI (M a 13), s0] M S := go_bnd rfl h rfl
set_option maxRecDepth 20000 in
theorem g34_169 (r : Nat) (l0 l1 : Option AV) (x : Int) (a : Nat) (M : Mem) (S : Sh) (h : S.1 a = 3) : go r 34 169 [l0, l1] [aI x, aR a] M S = go r 34 172 [l0, l1] [] (mset M a 13 x) S := go_bnd rfl ⟨h, fun z => absurd z (by decide)⟩ rfl
set_option maxRecDepth 20000 in
theorem g34_172 (r : Nat) (l1 : Option AV) (a : Nat) (M : Mem) (S : Sh) : go r 34 172 [some (aR a), l1] [] M S = go r 34 173 [some (aR a), l1] [aR a] M S := go_nx rfl rfl
set_option maxRecDepth 20000 in
theorem g34_173 (r : Nat) (l0 : Option AV) (s0 : AV) (a : Nat) (M : Mem) (S : Sh) : go r 34 173 [l0, some (aR a)] [s0] M S = go r 34 174 [l0, some (aR a)] [aR a, s0] M S := go_nx rfl rfl
set_option maxRecDepth 20000 in
theorem g34_173n (r : Nat) (l0 : Option AV) (s0 : AV) (M : Mem) (S : Sh) : go r 34 173 [l0, some aN] [s0] M S = go r 34 174 [l0, some aN] [aN, s0] M S := go_nx rfl rfl
set_option maxRecDepth 20000 in
theorem g34_174 (r : Nat) (l0 l1 : Option AV) (s0 : AV) (a : Nat) (M : Mem) (S : Sh) (h : S.1 a = 3) : go r 34 174 [l0, l1] [aR a, s0] M S = go r 34 177 [l0, l1] [aI (M a 14), s0] M S := go_bnd rfl h rfl
set_option maxRecDepth 20000 in
theorem g34_177 (r : Nat) (l0 l1 : Option AV) (x : Int) (a : Nat) (M : Mem) (S : Sh) (h : S.1 a = 3) : go r 34 177 [l0, l1] [aI x, aR a] M S = go r 34 180 [l0, l1] [] (mset M a 14 x) S := go_bnd rfl ⟨h, fun z => absurd z (by decide)⟩ rfl
set_option maxRecDepth 20000 in
theorem g34_180 (r : Nat) (l0 l1 : Option AV) (M : Mem) (S : Sh) : go r 34 180 [l0, l1] [] M S = some (none, M, S) := go_rt rfl rfl
/-- StripsFromAbove$Scene.addStrip(II)V -/
theorem g35 (x1 x2 : Int) (a0 : Nat) (M : Mem) (S : Sh) : res 35 [aR a0, aI x1, aI x2] M S = go 11 35 0 [some (aR a0), some (aI x1), some (aI x2)] [] M S := res_e0 rfl _ M S
theorem g35_0 (r : Nat) (l1 l2 : Option AV) (a : Nat) (M : Mem) (S : Sh) : go r 35 0 [some (aR a), l1, l2] [] M S = go r 35 1 [some (aR a), l1, l2] [aR a] M S := go_nx rfl rfl
theorem g35_1 (r : Nat) (l0 l1 l2 : Option AV) (a : Nat) (M : Mem) (S : Sh) (h : S.1 a = 3) : go r 35 1 [l0, l1, l2] [aR a] M S = go r 35 4 [l0, l1, l2] [aI (M a 4)] M S := go_bnd rfl h rfl
theorem g35_4 (r : Nat) (l0 l1 l2 : Option AV) (s0 : AV) (M : Mem) (S : Sh) : go r 35 4 [l0, l1, l2] [s0] M S = go r 35 6 [l0, l1, l2] [aI 12, s0] M S := go_nx rfl rfl
theorem g35_6 (r : Nat) (l0 l1 l2 : Option AV) (x y : Int) (M : Mem) (S : Sh) : go r 35 6 [l0, l1, l2] [aI y, aI x] M S = if x ≥ y then go r 35 43 [l0, l1, l2] [] M S else go r 35 9 [l0, l1, l2] [] M S := go_br rfl rfl rfl rfl rfl
theorem g35_9 (r : Nat) (l1 l2 : Option AV) (a : Nat) (M : Mem) (S : Sh) : go r 35 9 [some (aR a), l1, l2] [] M S = go r 35 10 [some (aR a), l1, l2] [aR a] M S := go_nx rfl rfl
theorem g35_10 (r : Nat) (l0 l1 l2 : Option AV) (a : Nat) (M : Mem) (S : Sh) (h : S.1 a = 3) : go r 35 10 [l0, l1, l2] [aR a] M S = go r 35 13 [l0, l1, l2] [aO (S.2.2.1 a 2)] M S := go_bnd rfl h rfl
theorem g35_13 (r : Nat) (l1 l2 : Option AV) (s0 : AV) (a : Nat) (M : Mem) (S : Sh) : go r 35 13 [some (aR a), l1, l2] [s0] M S = go r 35 14 [some (aR a), l1, l2] [aR a, s0] M S := go_nx rfl rfl
theorem g35_14 (r : Nat) (l0 l1 l2 : Option AV) (s0 : AV) (a : Nat) (M : Mem) (S : Sh) (h : S.1 a = 3) : go r 35 14 [l0, l1, l2] [aR a, s0] M S = go r 35 17 [l0, l1, l2] [aI (M a 4), s0] M S := go_bnd rfl h rfl
theorem g35_17 (r : Nat) (l0 l2 : Option AV) (s0 s1 : AV) (x : Int) (M : Mem) (S : Sh) : go r 35 17 [l0, some (aI x), l2] [s0, s1] M S = go r 35 18 [l0, some (aI x), l2] [aI x, s0, s1] M S := go_nx rfl rfl
theorem g35_18 (r : Nat) (l0 l1 l2 : Option AV) (x1 x2 : Int) (a0 : Nat) (M : Mem) (S : Sh) (hk : 10 < r) : go r 35 18 [l0, l1, l2] [aI x2, aI x1, aR a0] M S = cont r 35 21 [l0, l1, l2] [] 0 (res 97 [aR a0, aI x1, aI x2] M S) := go_c0 (m' := 97) (n := 3) (pc' := 21) (hr := 0) rfl rfl rfl rfl rfl rfl hk rfl
theorem g35_21 (r : Nat) (l1 l2 : Option AV) (a : Nat) (M : Mem) (S : Sh) : go r 35 21 [some (aR a), l1, l2] [] M S = go r 35 22 [some (aR a), l1, l2] [aR a] M S := go_nx rfl rfl
theorem g35_22 (r : Nat) (l0 l1 l2 : Option AV) (a : Nat) (M : Mem) (S : Sh) (h : S.1 a = 3) : go r 35 22 [l0, l1, l2] [aR a] M S = go r 35 25 [l0, l1, l2] [aO (S.2.2.1 a 3)] M S := go_bnd rfl h rfl
theorem g35_25 (r : Nat) (l1 l2 : Option AV) (s0 : AV) (a : Nat) (M : Mem) (S : Sh) : go r 35 25 [some (aR a), l1, l2] [s0] M S = go r 35 26 [some (aR a), l1, l2] [aR a, s0] M S := go_nx rfl rfl
theorem g35_26 (r : Nat) (l0 l1 l2 : Option AV) (s0 : AV) (a : Nat) (M : Mem) (S : Sh) (h : S.1 a = 3) : go r 35 26 [l0, l1, l2] [aR a, s0] M S = go r 35 29 [l0, l1, l2] [aI (M a 4), s0] M S := go_bnd rfl h rfl
theorem g35_29 (r : Nat) (l0 l1 : Option AV) (s0 s1 : AV) (x : Int) (M : Mem) (S : Sh) : go r 35 29 [l0, l1, some (aI x)] [s0, s1] M S = go r 35 30 [l0, l1, some (aI x)] [aI x, s0, s1] M S := go_nx rfl rfl
theorem g35_30 (r : Nat) (l0 l1 l2 : Option AV) (x1 x2 : Int) (a0 : Nat) (M : Mem) (S : Sh) (hk : 10 < r) : go r 35 30 [l0, l1, l2] [aI x2, aI x1, aR a0] M S = cont r 35 33 [l0, l1, l2] [] 0 (res 97 [aR a0, aI x1, aI x2] M S) := go_c0 (m' := 97) (n := 3) (pc' := 33) (hr := 0) rfl rfl rfl rfl rfl rfl hk rfl
theorem g35_33 (r : Nat) (l1 l2 : Option AV) (a : Nat) (M : Mem) (S : Sh) : go r 35 33 [some (aR a), l1, l2] [] M S = go r 35 34 [some (aR a), l1, l2] [aR a] M S := go_nx rfl rfl
theorem g35_34 (r : Nat) (l0 l1 l2 : Option AV) (a : Nat) (M : Mem) (S : Sh) : go r 35 34 [l0, l1, l2] [aR a] M S = go r 35 35 [l0, l1, l2] [aR a, aR a] M S := go_nx rfl rfl
theorem g35_35 (r : Nat) (l0 l1 l2 : Option AV) (s0 : AV) (a : Nat) (M : Mem) (S : Sh) (h : S.1 a = 3) : go r 35 35 [l0, l1, l2] [aR a, s0] M S = go r 35 38 [l0, l1, l2] [aI (M a 4), s0] M S := go_bnd rfl h rfl
theorem g35_38 (r : Nat) (l0 l1 l2 : Option AV) (s0 s1 : AV) (M : Mem) (S : Sh) : go r 35 38 [l0, l1, l2] [s0, s1] M S = go r 35 39 [l0, l1, l2] [aI 1, s0, s1] M S := go_nx rfl rfl
theorem g35_39 (r : Nat) (l0 l1 l2 : Option AV) (s0 : AV) (x y : Int) (M : Mem) (S : Sh) : go r 35 39 [l0, l1, l2] [aI y, aI x, s0] M S = go r 35 40 [l0, l1, l2] [aI (w32 (x + y)), s0] M S := go_nx rfl rfl
theorem g35_40 (r : Nat) (l0 l1 l2 : Option AV) (x : Int) (a : Nat) (M : Mem) (S : Sh) (h : S.1 a = 3) : go r 35 40 [l0, l1, l2] [aI x, aR a] M S = go r 35 43 [l0, l1, l2] [] (mset M a 4 x) S := go_bnd rfl ⟨h, fun z => absurd z (by decide)⟩ rfl
theorem g35_43 (r : Nat) (l0 l1 l2 : Option AV) (M : Mem) (S : Sh) : go r 35 43 [l0, l1, l2] [] M S = some (none, M, S) := go_rt rfl rfl
/-- StripsFromAbove$Scene.leaveOut(I)V -/
theorem g36 (x1 : Int) (a0 : Nat) (M : Mem) (S : Sh) : res 36 [aR a0, aI x1] M S = go 11 36 0 [some (aR a0), some (aI x1), none] [] M S := res_e0 rfl _ M S
theorem g36_0 (r : Nat) (l0 l2 : Option AV) (x : Int) (M : Mem) (S : Sh) : go r 36 0 [l0, some (aI x), l2] [] M S = go r 36 1 [l0, some (aI x), l2] [aI x] M S := go_nx rfl rfl
theorem g36_1 (r : Nat) (l0 l1 l2 : Option AV) (x : Int) (M : Mem) (S : Sh) : go r 36 1 [l0, l1, l2] [aI x] M S = go r 36 2 [l0, l1, some (aI x)] [] M S := go_nx rfl rfl
theorem g36_2 (r : Nat) (l0 l1 : Option AV) (x : Int) (M : Mem) (S : Sh) : go r 36 2 [l0, l1, some (aI x)] [] M S = go r 36 3 [l0, l1, some (aI x)] [aI x] M S := go_nx rfl rfl
theorem g36_3 (r : Nat) (l0 l1 l2 : Option AV) (s0 : AV) (M : Mem) (S : Sh) : go r 36 3 [l0, l1, l2] [s0] M S = go r 36 4 [l0, l1, l2] [aI 1, s0] M S := go_nx rfl rfl
theorem g36_4 (r : Nat) (l0 l1 l2 : Option AV) (x y : Int) (M : Mem) (S : Sh) : go r 36 4 [l0, l1, l2] [aI y, aI x] M S = go r 36 5 [l0, l1, l2] [aI (w32 (x + y))] M S := go_nx rfl rfl
theorem g36_5 (r : Nat) (l1 l2 : Option AV) (s0 : AV) (a : Nat) (M : Mem) (S : Sh) : go r 36 5 [some (aR a), l1, l2] [s0] M S = go r 36 6 [some (aR a), l1, l2] [aR a, s0] M S := go_nx rfl rfl
theorem g36_6 (r : Nat) (l0 l1 l2 : Option AV) (s0 : AV) (a : Nat) (M : Mem) (S : Sh) (h : S.1 a = 3) : go r 36 6 [l0, l1, l2] [aR a, s0] M S = go r 36 9 [l0, l1, l2] [aI (M a 4), s0] M S := go_bnd rfl h rfl
theorem g36_9 (r : Nat) (l0 l1 l2 : Option AV) (x y : Int) (M : Mem) (S : Sh) : go r 36 9 [l0, l1, l2] [aI y, aI x] M S = if x ≥ y then go r 36 54 [l0, l1, l2] [] M S else go r 36 12 [l0, l1, l2] [] M S := go_br rfl rfl rfl rfl rfl
theorem g36_12 (r : Nat) (l1 l2 : Option AV) (a : Nat) (M : Mem) (S : Sh) : go r 36 12 [some (aR a), l1, l2] [] M S = go r 36 13 [some (aR a), l1, l2] [aR a] M S := go_nx rfl rfl
theorem g36_13 (r : Nat) (l0 l1 l2 : Option AV) (a : Nat) (M : Mem) (S : Sh) (h : S.1 a = 3) : go r 36 13 [l0, l1, l2] [aR a] M S = go r 36 16 [l0, l1, l2] [aO (S.2.2.1 a 2)] M S := go_bnd rfl h rfl
theorem g36_16 (r : Nat) (l0 l1 : Option AV) (s0 : AV) (x : Int) (M : Mem) (S : Sh) : go r 36 16 [l0, l1, some (aI x)] [s0] M S = go r 36 17 [l0, l1, some (aI x)] [aI x, s0] M S := go_nx rfl rfl
theorem g36_17 (r : Nat) (l1 l2 : Option AV) (s0 s1 : AV) (a : Nat) (M : Mem) (S : Sh) : go r 36 17 [some (aR a), l1, l2] [s0, s1] M S = go r 36 18 [some (aR a), l1, l2] [aR a, s0, s1] M S := go_nx rfl rfl
theorem g36_18 (r : Nat) (l0 l1 l2 : Option AV) (s0 s1 : AV) (a : Nat) (M : Mem) (S : Sh) (h : S.1 a = 3) : go r 36 18 [l0, l1, l2] [aR a, s0, s1] M S = go r 36 21 [l0, l1, l2] [aO (S.2.2.1 a 2), s0, s1] M S := go_bnd rfl h rfl
theorem g36_21 (r : Nat) (l0 l1 : Option AV) (s0 s1 s2 : AV) (x : Int) (M : Mem) (S : Sh) : go r 36 21 [l0, l1, some (aI x)] [s0, s1, s2] M S = go r 36 22 [l0, l1, some (aI x)] [aI x, s0, s1, s2] M S := go_nx rfl rfl
theorem g36_22 (r : Nat) (l0 l1 l2 : Option AV) (s0 s1 s2 s3 : AV) (M : Mem) (S : Sh) : go r 36 22 [l0, l1, l2] [s0, s1, s2, s3] M S = go r 36 23 [l0, l1, l2] [aI 1, s0, s1, s2, s3] M S := go_nx rfl rfl
theorem g36_23 (r : Nat) (l0 l1 l2 : Option AV) (s0 s1 s2 : AV) (x y : Int) (M : Mem) (S : Sh) : go r 36 23 [l0, l1, l2] [aI y, aI x, s0, s1, s2] M S = go r 36 24 [l0, l1, l2] [aI (w32 (x + y)), s0, s1, s2] M S := go_nx rfl rfl
theorem g36_24 (r : Nat) (l0 l1 l2 : Option AV) (s0 s1 : AV) (x1 : Int) (a0 : Nat) (M : Mem) (S : Sh) (hk : 10 < r) : go r 36 24 [l0, l1, l2] [aI x1, aR a0, s0, s1] M S = cont r 36 27 [l0, l1, l2] [s0, s1] 1 (res 96 [aR a0, aI x1] M S) := go_c0 (m' := 96) (n := 2) (pc' := 27) (hr := 1) rfl rfl rfl rfl rfl rfl hk rfl
theorem g36_27 (r : Nat) (l0 l1 l2 : Option AV) (x1 x2 : Int) (a0 : Nat) (M : Mem) (S : Sh) (hk : 10 < r) : go r 36 27 [l0, l1, l2] [aI x2, aI x1, aR a0] M S = cont r 36 30 [l0, l1, l2] [] 0 (res 97 [aR a0, aI x1, aI x2] M S) := go_c0 (m' := 97) (n := 3) (pc' := 30) (hr := 0) rfl rfl rfl rfl rfl rfl hk rfl
theorem g36_30 (r : Nat) (l1 l2 : Option AV) (a : Nat) (M : Mem) (S : Sh) : go r 36 30 [some (aR a), l1, l2] [] M S = go r 36 31 [some (aR a), l1, l2] [aR a] M S := go_nx rfl rfl
theorem g36_31 (r : Nat) (l0 l1 l2 : Option AV) (a : Nat) (M : Mem) (S : Sh) (h : S.1 a = 3) : go r 36 31 [l0, l1, l2] [aR a] M S = go r 36 34 [l0, l1, l2] [aO (S.2.2.1 a 3)] M S := go_bnd rfl h rfl
theorem g36_34 (r : Nat) (l0 l1 : Option AV) (s0 : AV) (x : Int) (M : Mem) (S : Sh) : go r 36 34 [l0, l1, some (aI x)] [s0] M S = go r 36 35 [l0, l1, some (aI x)] [aI x, s0] M S := go_nx rfl rfl
theorem g36_35 (r : Nat) (l1 l2 : Option AV) (s0 s1 : AV) (a : Nat) (M : Mem) (S : Sh) : go r 36 35 [some (aR a), l1, l2] [s0, s1] M S = go r 36 36 [some (aR a), l1, l2] [aR a, s0, s1] M S := go_nx rfl rfl
theorem g36_36 (r : Nat) (l0 l1 l2 : Option AV) (s0 s1 : AV) (a : Nat) (M : Mem) (S : Sh) (h : S.1 a = 3) : go r 36 36 [l0, l1, l2] [aR a, s0, s1] M S = go r 36 39 [l0, l1, l2] [aO (S.2.2.1 a 3), s0, s1] M S := go_bnd rfl h rfl
theorem g36_39 (r : Nat) (l0 l1 : Option AV) (s0 s1 s2 : AV) (x : Int) (M : Mem) (S : Sh) : go r 36 39 [l0, l1, some (aI x)] [s0, s1, s2] M S = go r 36 40 [l0, l1, some (aI x)] [aI x, s0, s1, s2] M S := go_nx rfl rfl
theorem g36_40 (r : Nat) (l0 l1 l2 : Option AV) (s0 s1 s2 s3 : AV) (M : Mem) (S : Sh) : go r 36 40 [l0, l1, l2] [s0, s1, s2, s3] M S = go r 36 41 [l0, l1, l2] [aI 1, s0, s1, s2, s3] M S := go_nx rfl rfl
theorem g36_41 (r : Nat) (l0 l1 l2 : Option AV) (s0 s1 s2 : AV) (x y : Int) (M : Mem) (S : Sh) : go r 36 41 [l0, l1, l2] [aI y, aI x, s0, s1, s2] M S = go r 36 42 [l0, l1, l2] [aI (w32 (x + y)), s0, s1, s2] M S := go_nx rfl rfl
theorem g36_42 (r : Nat) (l0 l1 l2 : Option AV) (s0 s1 : AV) (x1 : Int) (a0 : Nat) (M : Mem) (S : Sh) (hk : 10 < r) : go r 36 42 [l0, l1, l2] [aI x1, aR a0, s0, s1] M S = cont r 36 45 [l0, l1, l2] [s0, s1] 1 (res 96 [aR a0, aI x1] M S) := go_c0 (m' := 96) (n := 2) (pc' := 45) (hr := 1) rfl rfl rfl rfl rfl rfl hk rfl
theorem g36_45 (r : Nat) (l0 l1 l2 : Option AV) (x1 x2 : Int) (a0 : Nat) (M : Mem) (S : Sh) (hk : 10 < r) : go r 36 45 [l0, l1, l2] [aI x2, aI x1, aR a0] M S = cont r 36 48 [l0, l1, l2] [] 0 (res 97 [aR a0, aI x1, aI x2] M S) := go_c0 (m' := 97) (n := 3) (pc' := 48) (hr := 0) rfl rfl rfl rfl rfl rfl hk rfl
theorem g36_48 (r : Nat) (l0 l1 : Option AV) (x : Int) (M : Mem) (S : Sh) : go r 36 48 [l0, l1, some (aI x)] [] M S = go r 36 51 [l0, l1, some (aI (w32 (x + 1)))] [] M S := go_nx rfl rfl
theorem g36_51 (r : Nat) (l0 l1 l2 : Option AV) (M : Mem) (S : Sh) : go r 36 51 [l0, l1, l2] [] M S = go r 36 2 [l0, l1, l2] [] M S := go_nx rfl rfl
theorem g36_54 (r : Nat) (l1 l2 : Option AV) (a : Nat) (M : Mem) (S : Sh) : go r 36 54 [some (aR a), l1, l2] [] M S = go r 36 55 [some (aR a), l1, l2] [aR a] M S := go_nx rfl rfl
theorem g36_55 (r : Nat) (l0 l1 l2 : Option AV) (a : Nat) (M : Mem) (S : Sh) : go r 36 55 [l0, l1, l2] [aR a] M S = go r 36 56 [l0, l1, l2] [aR a, aR a] M S := go_nx rfl rfl
theorem g36_56 (r : Nat) (l0 l1 l2 : Option AV) (s0 : AV) (a : Nat) (M : Mem) (S : Sh) (h : S.1 a = 3) : go r 36 56 [l0, l1, l2] [aR a, s0] M S = go r 36 59 [l0, l1, l2] [aI (M a 4), s0] M S := go_bnd rfl h rfl
theorem g36_59 (r : Nat) (l0 l1 l2 : Option AV) (s0 s1 : AV) (M : Mem) (S : Sh) : go r 36 59 [l0, l1, l2] [s0, s1] M S = go r 36 60 [l0, l1, l2] [aI 1, s0, s1] M S := go_nx rfl rfl
theorem g36_60 (r : Nat) (l0 l1 l2 : Option AV) (s0 : AV) (x y : Int) (M : Mem) (S : Sh) : go r 36 60 [l0, l1, l2] [aI y, aI x, s0] M S = go r 36 61 [l0, l1, l2] [aI (w32 (x - y)), s0] M S := go_nx rfl rfl
theorem g36_61 (r : Nat) (l0 l1 l2 : Option AV) (x : Int) (a : Nat) (M : Mem) (S : Sh) (h : S.1 a = 3) : go r 36 61 [l0, l1, l2] [aI x, aR a] M S = go r 36 64 [l0, l1, l2] [] (mset M a 4 x) S := go_bnd rfl ⟨h, fun z => absurd z (by decide)⟩ rfl
theorem g36_64 (r : Nat) (l0 l1 l2 : Option AV) (M : Mem) (S : Sh) : go r 36 64 [l0, l1, l2] [] M S = some (none, M, S) := go_rt rfl rfl
/-- StripsFromAbove$Scene.stripNumber(I)I -/
theorem g37 (x1 : Int) (a0 : Nat) (M : Mem) (S : Sh) : res 37 [aR a0, aI x1] M S = go 11 37 0 [some (aR a0), some (aI x1)] [] M S := res_e0 rfl _ M S
theorem g37_0 (r : Nat) (l0 l1 : Option AV) (M : Mem) (S : Sh) : go r 37 0 [l0, l1] [] M S = go r 37 2 [l0, l1] [aI 100] M S := go_nx rfl rfl
theorem g37_2 (r : Nat) (l1 : Option AV) (s0 : AV) (a : Nat) (M : Mem) (S : Sh) : go r 37 2 [some (aR a), l1] [s0] M S = go r 37 3 [some (aR a), l1] [aR a, s0] M S := go_nx rfl rfl
theorem g37_3 (r : Nat) (l0 l1 : Option AV) (s0 : AV) (a : Nat) (M : Mem) (S : Sh) (h : S.1 a = 3) : go r 37 3 [l0, l1] [aR a, s0] M S = go r 37 6 [l0, l1] [aO (S.2.2.1 a 2), s0] M S := go_bnd rfl h rfl
theorem g37_6 (r : Nat) (l0 : Option AV) (s0 s1 : AV) (x : Int) (M : Mem) (S : Sh) : go r 37 6 [l0, some (aI x)] [s0, s1] M S = go r 37 7 [l0, some (aI x)] [aI x, s0, s1] M S := go_nx rfl rfl
theorem g37_7 (r : Nat) (l0 l1 : Option AV) (s0 : AV) (x1 : Int) (a0 : Nat) (M : Mem) (S : Sh) (hk : 10 < r) : go r 37 7 [l0, l1] [aI x1, aR a0, s0] M S = cont r 37 10 [l0, l1] [s0] 1 (res 96 [aR a0, aI x1] M S) := go_c0 (m' := 96) (n := 2) (pc' := 10) (hr := 1) rfl rfl rfl rfl rfl rfl hk rfl
theorem g37_10 (r : Nat) (l0 l1 : Option AV) (x y : Int) (M : Mem) (S : Sh) : go r 37 10 [l0, l1] [aI y, aI x] M S = go r 37 11 [l0, l1] [aI (w32 (x * y))] M S := go_nx rfl rfl
theorem g37_11 (r : Nat) (l1 : Option AV) (s0 : AV) (a : Nat) (M : Mem) (S : Sh) : go r 37 11 [some (aR a), l1] [s0] M S = go r 37 12 [some (aR a), l1] [aR a, s0] M S := go_nx rfl rfl
theorem g37_12 (r : Nat) (l0 l1 : Option AV) (s0 : AV) (a : Nat) (M : Mem) (S : Sh) (h : S.1 a = 3) : go r 37 12 [l0, l1] [aR a, s0] M S = go r 37 15 [l0, l1] [aO (S.2.2.1 a 3), s0] M S := go_bnd rfl h rfl
theorem g37_15 (r : Nat) (l0 : Option AV) (s0 s1 : AV) (x : Int) (M : Mem) (S : Sh) : go r 37 15 [l0, some (aI x)] [s0, s1] M S = go r 37 16 [l0, some (aI x)] [aI x, s0, s1] M S := go_nx rfl rfl
theorem g37_16 (r : Nat) (l0 l1 : Option AV) (s0 : AV) (x1 : Int) (a0 : Nat) (M : Mem) (S : Sh) (hk : 10 < r) : go r 37 16 [l0, l1] [aI x1, aR a0, s0] M S = cont r 37 19 [l0, l1] [s0] 1 (res 96 [aR a0, aI x1] M S) := go_c0 (m' := 96) (n := 2) (pc' := 19) (hr := 1) rfl rfl rfl rfl rfl rfl hk rfl
theorem g37_19 (r : Nat) (l0 l1 : Option AV) (x y : Int) (M : Mem) (S : Sh) : go r 37 19 [l0, l1] [aI y, aI x] M S = go r 37 20 [l0, l1] [aI (w32 (x + y))] M S := go_nx rfl rfl
theorem g37_20 (r : Nat) (l0 l1 : Option AV) (x : Int) (M : Mem) (S : Sh) : go r 37 20 [l0, l1] [aI x] M S = some (some (aI x), M, S) := go_rt rfl (bnd_t (Or.inl rfl))
/-- StripsFromAbove$Scene.fillNames([IIII)V -/
theorem g38 (x2 x3 x4 : Int) (a0 a1 : Nat) (M : Mem) (S : Sh) : res 38 [aR a0, aR a1, aI x2, aI x3, aI x4] M S = go 11 38 0 [some (aR a0), some (aR a1), some (aI x2), some (aI x3), some (aI x4)] [] M S := res_e0 rfl _ M S
theorem g38_0 (r : Nat) (l0 l2 l3 l4 : Option AV) (a : Nat) (M : Mem) (S : Sh) : go r 38 0 [l0, some (aR a), l2, l3, l4] [] M S = go r 38 1 [l0, some (aR a), l2, l3, l4] [aR a] M S := go_nx rfl rfl
theorem g38_0n (r : Nat) (l0 l2 l3 l4 : Option AV) (M : Mem) (S : Sh) : go r 38 0 [l0, some aN, l2, l3, l4] [] M S = go r 38 1 [l0, some aN, l2, l3, l4] [aN] M S := go_nx rfl rfl
theorem g38_1 (r : Nat) (l0 l1 l2 l3 l4 : Option AV) (s0 : AV) (M : Mem) (S : Sh) : go r 38 1 [l0, l1, l2, l3, l4] [s0] M S = go r 38 2 [l0, l1, l2, l3, l4] [aI 0, s0] M S := go_nx rfl rfl
theorem g38_2 (r : Nat) (l1 l2 l3 l4 : Option AV) (s0 s1 : AV) (a : Nat) (M : Mem) (S : Sh) : go r 38 2 [some (aR a), l1, l2, l3, l4] [s0, s1] M S = go r 38 3 [some (aR a), l1, l2, l3, l4] [aR a, s0, s1] M S := go_nx rfl rfl
theorem g38_3 (r : Nat) (l0 l1 l2 l3 l4 : Option AV) (s0 s1 : AV) (a : Nat) (M : Mem) (S : Sh) (h : S.1 a = 3) : go r 38 3 [l0, l1, l2, l3, l4] [aR a, s0, s1] M S = go r 38 6 [l0, l1, l2, l3, l4] [aO (S.2.2.1 a 0), s0, s1] M S := go_bnd rfl h rfl
theorem g38_6 (r : Nat) (l0 l1 l2 l4 : Option AV) (s0 s1 s2 : AV) (x : Int) (M : Mem) (S : Sh) : go r 38 6 [l0, l1, l2, some (aI x), l4] [s0, s1, s2] M S = go r 38 7 [l0, l1, l2, some (aI x), l4] [aI x, s0, s1, s2] M S := go_nx rfl rfl
theorem g38_7 (r : Nat) (l0 l1 l2 l3 l4 : Option AV) (s0 s1 : AV) (x1 : Int) (a0 : Nat) (M : Mem) (S : Sh) (hk : 10 < r) : go r 38 7 [l0, l1, l2, l3, l4] [aI x1, aR a0, s0, s1] M S = cont r 38 10 [l0, l1, l2, l3, l4] [s0, s1] 1 (res 96 [aR a0, aI x1] M S) := go_c0 (m' := 96) (n := 2) (pc' := 10) (hr := 1) rfl rfl rfl rfl rfl rfl hk rfl
theorem g38_10 (r : Nat) (l0 l1 l2 l3 l4 : Option AV) (x1 x2 : Int) (a0 : Nat) (M : Mem) (S : Sh) (hk : 10 < r) : go r 38 10 [l0, l1, l2, l3, l4] [aI x2, aI x1, aR a0] M S = cont r 38 13 [l0, l1, l2, l3, l4] [] 0 (res 97 [aR a0, aI x1, aI x2] M S) := go_c0 (m' := 97) (n := 3) (pc' := 13) (hr := 0) rfl rfl rfl rfl rfl rfl hk rfl
theorem g38_13 (r : Nat) (l0 l2 l3 l4 : Option AV) (a : Nat) (M : Mem) (S : Sh) : go r 38 13 [l0, some (aR a), l2, l3, l4] [] M S = go r 38 14 [l0, some (aR a), l2, l3, l4] [aR a] M S := go_nx rfl rfl
theorem g38_13n (r : Nat) (l0 l2 l3 l4 : Option AV) (M : Mem) (S : Sh) : go r 38 13 [l0, some aN, l2, l3, l4] [] M S = go r 38 14 [l0, some aN, l2, l3, l4] [aN] M S := go_nx rfl rfl
theorem g38_14 (r : Nat) (l0 l1 l2 l3 l4 : Option AV) (s0 : AV) (M : Mem) (S : Sh) : go r 38 14 [l0, l1, l2, l3, l4] [s0] M S = go r 38 15 [l0, l1, l2, l3, l4] [aI 1, s0] M S := go_nx rfl rfl
theorem g38_15 (r : Nat) (l1 l2 l3 l4 : Option AV) (s0 s1 : AV) (a : Nat) (M : Mem) (S : Sh) : go r 38 15 [some (aR a), l1, l2, l3, l4] [s0, s1] M S = go r 38 16 [some (aR a), l1, l2, l3, l4] [aR a, s0, s1] M S := go_nx rfl rfl
theorem g38_16 (r : Nat) (l0 l1 l2 l3 l4 : Option AV) (s0 s1 : AV) (a : Nat) (M : Mem) (S : Sh) (h : S.1 a = 3) : go r 38 16 [l0, l1, l2, l3, l4] [aR a, s0, s1] M S = go r 38 19 [l0, l1, l2, l3, l4] [aI (M a 11), s0, s1] M S := go_bnd rfl h rfl
theorem g38_19 (r : Nat) (l0 l1 l2 l3 l4 : Option AV) (x1 x2 : Int) (a0 : Nat) (M : Mem) (S : Sh) (hk : 10 < r) : go r 38 19 [l0, l1, l2, l3, l4] [aI x2, aI x1, aR a0] M S = cont r 38 22 [l0, l1, l2, l3, l4] [] 0 (res 97 [aR a0, aI x1, aI x2] M S) := go_c0 (m' := 97) (n := 3) (pc' := 22) (hr := 0) rfl rfl rfl rfl rfl rfl hk rfl
theorem g38_22 (r : Nat) (l0 l2 l3 l4 : Option AV) (a : Nat) (M : Mem) (S : Sh) : go r 38 22 [l0, some (aR a), l2, l3, l4] [] M S = go r 38 23 [l0, some (aR a), l2, l3, l4] [aR a] M S := go_nx rfl rfl
theorem g38_22n (r : Nat) (l0 l2 l3 l4 : Option AV) (M : Mem) (S : Sh) : go r 38 22 [l0, some aN, l2, l3, l4] [] M S = go r 38 23 [l0, some aN, l2, l3, l4] [aN] M S := go_nx rfl rfl
theorem g38_23 (r : Nat) (l0 l1 l2 l3 l4 : Option AV) (s0 : AV) (M : Mem) (S : Sh) : go r 38 23 [l0, l1, l2, l3, l4] [s0] M S = go r 38 24 [l0, l1, l2, l3, l4] [aI 2, s0] M S := go_nx rfl rfl
theorem g38_24 (r : Nat) (l1 l2 l3 l4 : Option AV) (s0 s1 : AV) (a : Nat) (M : Mem) (S : Sh) : go r 38 24 [some (aR a), l1, l2, l3, l4] [s0, s1] M S = go r 38 25 [some (aR a), l1, l2, l3, l4] [aR a, s0, s1] M S := go_nx rfl rfl
theorem g38_25 (r : Nat) (l0 l1 l2 l3 l4 : Option AV) (s0 s1 : AV) (a : Nat) (M : Mem) (S : Sh) (h : S.1 a = 3) : go r 38 25 [l0, l1, l2, l3, l4] [aR a, s0, s1] M S = go r 38 28 [l0, l1, l2, l3, l4] [aO (S.2.2.1 a 6), s0, s1] M S := go_bnd rfl h rfl
theorem g38_28 (r : Nat) (l0 l1 l3 l4 : Option AV) (s0 s1 s2 : AV) (x : Int) (M : Mem) (S : Sh) : go r 38 28 [l0, l1, some (aI x), l3, l4] [s0, s1, s2] M S = go r 38 29 [l0, l1, some (aI x), l3, l4] [aI x, s0, s1, s2] M S := go_nx rfl rfl
theorem g38_29 (r : Nat) (l0 l1 l2 l3 l4 : Option AV) (s0 s1 : AV) (x1 : Int) (a0 : Nat) (M : Mem) (S : Sh) (hk : 10 < r) : go r 38 29 [l0, l1, l2, l3, l4] [aI x1, aR a0, s0, s1] M S = cont r 38 32 [l0, l1, l2, l3, l4] [s0, s1] 1 (res 96 [aR a0, aI x1] M S) := go_c0 (m' := 96) (n := 2) (pc' := 32) (hr := 1) rfl rfl rfl rfl rfl rfl hk rfl
theorem g38_32 (r : Nat) (l0 l1 l2 l3 l4 : Option AV) (x1 x2 : Int) (a0 : Nat) (M : Mem) (S : Sh) (hk : 10 < r) : go r 38 32 [l0, l1, l2, l3, l4] [aI x2, aI x1, aR a0] M S = cont r 38 35 [l0, l1, l2, l3, l4] [] 0 (res 97 [aR a0, aI x1, aI x2] M S) := go_c0 (m' := 97) (n := 3) (pc' := 35) (hr := 0) rfl rfl rfl rfl rfl rfl hk rfl
theorem g38_35 (r : Nat) (l0 l2 l3 l4 : Option AV) (a : Nat) (M : Mem) (S : Sh) : go r 38 35 [l0, some (aR a), l2, l3, l4] [] M S = go r 38 36 [l0, some (aR a), l2, l3, l4] [aR a] M S := go_nx rfl rfl
theorem g38_35n (r : Nat) (l0 l2 l3 l4 : Option AV) (M : Mem) (S : Sh) : go r 38 35 [l0, some aN, l2, l3, l4] [] M S = go r 38 36 [l0, some aN, l2, l3, l4] [aN] M S := go_nx rfl rfl
theorem g38_36 (r : Nat) (l0 l1 l2 l3 l4 : Option AV) (s0 : AV) (M : Mem) (S : Sh) : go r 38 36 [l0, l1, l2, l3, l4] [s0] M S = go r 38 37 [l0, l1, l2, l3, l4] [aI 3, s0] M S := go_nx rfl rfl
theorem g38_37 (r : Nat) (l1 l2 l3 l4 : Option AV) (s0 s1 : AV) (a : Nat) (M : Mem) (S : Sh) : go r 38 37 [some (aR a), l1, l2, l3, l4] [s0, s1] M S = go r 38 38 [some (aR a), l1, l2, l3, l4] [aR a, s0, s1] M S := go_nx rfl rfl
theorem g38_38 (r : Nat) (l0 l1 l2 l3 l4 : Option AV) (s0 s1 : AV) (a : Nat) (M : Mem) (S : Sh) (h : S.1 a = 3) : go r 38 38 [l0, l1, l2, l3, l4] [aR a, s0, s1] M S = go r 38 41 [l0, l1, l2, l3, l4] [aI (M a 12), s0, s1] M S := go_bnd rfl h rfl
theorem g38_41 (r : Nat) (l0 l1 l2 l3 l4 : Option AV) (x1 x2 : Int) (a0 : Nat) (M : Mem) (S : Sh) (hk : 10 < r) : go r 38 41 [l0, l1, l2, l3, l4] [aI x2, aI x1, aR a0] M S = cont r 38 44 [l0, l1, l2, l3, l4] [] 0 (res 97 [aR a0, aI x1, aI x2] M S) := go_c0 (m' := 97) (n := 3) (pc' := 44) (hr := 0) rfl rfl rfl rfl rfl rfl hk rfl
theorem g38_44 (r : Nat) (l0 l2 l3 l4 : Option AV) (a : Nat) (M : Mem) (S : Sh) : go r 38 44 [l0, some (aR a), l2, l3, l4] [] M S = go r 38 45 [l0, some (aR a), l2, l3, l4] [aR a] M S := go_nx rfl rfl
theorem g38_44n (r : Nat) (l0 l2 l3 l4 : Option AV) (M : Mem) (S : Sh) : go r 38 44 [l0, some aN, l2, l3, l4] [] M S = go r 38 45 [l0, some aN, l2, l3, l4] [aN] M S := go_nx rfl rfl
theorem g38_45 (r : Nat) (l0 l1 l2 l3 l4 : Option AV) (s0 : AV) (M : Mem) (S : Sh) : go r 38 45 [l0, l1, l2, l3, l4] [s0] M S = go r 38 46 [l0, l1, l2, l3, l4] [aI 4, s0] M S := go_nx rfl rfl
theorem g38_46 (r : Nat) (l0 l1 l2 l3 : Option AV) (s0 s1 : AV) (x : Int) (M : Mem) (S : Sh) : go r 38 46 [l0, l1, l2, l3, some (aI x)] [s0, s1] M S = go r 38 48 [l0, l1, l2, l3, some (aI x)] [aI x, s0, s1] M S := go_nx rfl rfl
theorem g38_48 (r : Nat) (l0 l1 l2 l3 l4 : Option AV) (s0 s1 s2 : AV) (M : Mem) (S : Sh) : go r 38 48 [l0, l1, l2, l3, l4] [s0, s1, s2] M S = go r 38 51 [l0, l1, l2, l3, l4] [aI 200, s0, s1, s2] M S := go_nx rfl rfl
theorem g38_51 (r : Nat) (l0 l1 l2 l3 l4 : Option AV) (s0 s1 : AV) (x y : Int) (M : Mem) (S : Sh) : go r 38 51 [l0, l1, l2, l3, l4] [aI y, aI x, s0, s1] M S = go r 38 54 [l0, l1, l2, l3, l4] [aI (if y < x then y else x), s0, s1] M S := go_bnd (c := ([s0, s1] : List AV).length ≤ 4) rfl (Nat.le_of_ble_eq_true rfl) rfl
theorem g38_54 (r : Nat) (l0 l1 l2 l3 l4 : Option AV) (x1 x2 : Int) (a0 : Nat) (M : Mem) (S : Sh) (hk : 10 < r) : go r 38 54 [l0, l1, l2, l3, l4] [aI x2, aI x1, aR a0] M S = cont r 38 57 [l0, l1, l2, l3, l4] [] 0 (res 97 [aR a0, aI x1, aI x2] M S) := go_c0 (m' := 97) (n := 3) (pc' := 57) (hr := 0) rfl rfl rfl rfl rfl rfl hk rfl
theorem g38_57 (r : Nat) (l0 l2 l3 l4 : Option AV) (a : Nat) (M : Mem) (S : Sh) : go r 38 57 [l0, some (aR a), l2, l3, l4] [] M S = go r 38 58 [l0, some (aR a), l2, l3, l4] [aR a] M S := go_nx rfl rfl
theorem g38_57n (r : Nat) (l0 l2 l3 l4 : Option AV) (M : Mem) (S : Sh) : go r 38 57 [l0, some aN, l2, l3, l4] [] M S = go r 38 58 [l0, some aN, l2, l3, l4] [aN] M S := go_nx rfl rfl
theorem g38_58 (r : Nat) (l0 l1 l2 l3 l4 : Option AV) (s0 : AV) (M : Mem) (S : Sh) : go r 38 58 [l0, l1, l2, l3, l4] [s0] M S = go r 38 59 [l0, l1, l2, l3, l4] [aI 5, s0] M S := go_nx rfl rfl
theorem g38_59 (r : Nat) (l0 l1 l2 l4 : Option AV) (s0 s1 : AV) (x : Int) (M : Mem) (S : Sh) : go r 38 59 [l0, l1, l2, some (aI x), l4] [s0, s1] M S = go r 38 60 [l0, l1, l2, some (aI x), l4] [aI x, s0, s1] M S := go_nx rfl rfl
theorem g38_60 (r : Nat) (l0 l1 l2 l3 l4 : Option AV) (s0 s1 s2 : AV) (M : Mem) (S : Sh) : go r 38 60 [l0, l1, l2, l3, l4] [s0, s1, s2] M S = go r 38 62 [l0, l1, l2, l3, l4] [aI 12, s0, s1, s2] M S := go_nx rfl rfl
theorem g38_62 (r : Nat) (l0 l1 l2 l3 l4 : Option AV) (s0 s1 : AV) (x y : Int) (M : Mem) (S : Sh) (h : y ≠ 0) : go r 38 62 [l0, l1, l2, l3, l4] [aI y, aI x, s0, s1] M S = go r 38 63 [l0, l1, l2, l3, l4] [aI (w32 (Int.tdiv x y)), s0, s1] M S := go_bnd rfl h rfl
theorem g38_63 (r : Nat) (l0 l1 l2 l3 l4 : Option AV) (x1 x2 : Int) (a0 : Nat) (M : Mem) (S : Sh) (hk : 10 < r) : go r 38 63 [l0, l1, l2, l3, l4] [aI x2, aI x1, aR a0] M S = cont r 38 66 [l0, l1, l2, l3, l4] [] 0 (res 97 [aR a0, aI x1, aI x2] M S) := go_c0 (m' := 97) (n := 3) (pc' := 66) (hr := 0) rfl rfl rfl rfl rfl rfl hk rfl
theorem g38_66 (r : Nat) (l0 l1 l2 l3 l4 : Option AV) (M : Mem) (S : Sh) : go r 38 66 [l0, l1, l2, l3, l4] [] M S = some (none, M, S) := go_rt rfl rfl
