/-- StripsFromAboveModel.<init>()V -/
theorem g105 (a0 : Nat) (M : Mem) (S : Sh) : res 105 [aR a0] M S = go 15 105 0 [some (aR a0), none] [] M S := res_e0 rfl _ M S
theorem g105_0 (r : Nat) (l1 : Option AV) (a : Nat) (M : Mem) (S : Sh) : go r 105 0 [some (aR a), l1] [] M S = go r 105 1 [some (aR a), l1] [aR a] M S := go_nx rfl rfl
theorem g105_1 (r : Nat) (l0 l1 : Option AV) (a : Nat) (M : Mem) (S : Sh) : go r 105 1 [l0, l1] [aR a] M S = go r 105 4 [l0, l1] [] M S := go_bnd (c := ([] : List AV).length ≤ 4) rfl (Nat.le_of_ble_eq_true rfl) rfl
theorem g105_4 (r : Nat) (l1 : Option AV) (a : Nat) (M : Mem) (S : Sh) : go r 105 4 [some (aR a), l1] [] M S = go r 105 5 [some (aR a), l1] [aR a] M S := go_nx rfl rfl
theorem g105_5 (r : Nat) (l0 l1 : Option AV) (s0 : AV) (M : Mem) (S : Sh) : go r 105 5 [l0, l1] [s0] M S = go r 105 8 [l0, l1] [aI 192, s0] M S := go_nx rfl rfl
theorem g105_8 (r : Nat) (l0 l1 : Option AV) (s0 : AV) (x : Int) (M : Mem) (S : Sh) (h : 0 ≤ x ∧ x ≤ 100000) : go r 105 8 [l0, l1] [aI x, s0] M S = go r 105 10 [l0, l1] [aR S.2.2.2.1, s0] (mrow M S.2.2.2.1 (fun _ => 0)) (fset S.1 S.2.2.2.1 7, fset S.2.1 S.2.2.2.1 x.toNat, S.2.2.1, S.2.2.2.1 + 1, S.2.2.2.2 + x.toNat) := go_bnd rfl h rfl
theorem g105_10 (r : Nat) (l0 l1 : Option AV) (a v : Nat) (M : Mem) (S : Sh) (h : S.1 a = 6) : go r 105 10 [l0, l1] [aR v, aR a] M S = go r 105 13 [l0, l1] [] M (S.1, S.2.1, pset S.2.2.1 a 0 (some v), S.2.2.2) := go_bnd rfl h rfl
theorem g105_13 (r : Nat) (l1 : Option AV) (a : Nat) (M : Mem) (S : Sh) : go r 105 13 [some (aR a), l1] [] M S = go r 105 14 [some (aR a), l1] [aR a] M S := go_nx rfl rfl
theorem g105_14 (r : Nat) (l0 l1 : Option AV) (s0 : AV) (M : Mem) (S : Sh) : go r 105 14 [l0, l1] [s0] M S = go r 105 17 [l0, l1] [aI 192, s0] M S := go_nx rfl rfl
theorem g105_17 (r : Nat) (l0 l1 : Option AV) (s0 : AV) (x : Int) (M : Mem) (S : Sh) (h : 0 ≤ x ∧ x ≤ 100000) : go r 105 17 [l0, l1] [aI x, s0] M S = go r 105 19 [l0, l1] [aR S.2.2.2.1, s0] (mrow M S.2.2.2.1 (fun _ => 0)) (fset S.1 S.2.2.2.1 7, fset S.2.1 S.2.2.2.1 x.toNat, S.2.2.1, S.2.2.2.1 + 1, S.2.2.2.2 + x.toNat) := go_bnd rfl h rfl
theorem g105_19 (r : Nat) (l0 l1 : Option AV) (a v : Nat) (M : Mem) (S : Sh) (h : S.1 a = 6) : go r 105 19 [l0, l1] [aR v, aR a] M S = go r 105 22 [l0, l1] [] M (S.1, S.2.1, pset S.2.2.1 a 1 (some v), S.2.2.2) := go_bnd rfl h rfl
theorem g105_22 (r : Nat) (l1 : Option AV) (a : Nat) (M : Mem) (S : Sh) : go r 105 22 [some (aR a), l1] [] M S = go r 105 23 [some (aR a), l1] [aR a] M S := go_nx rfl rfl
theorem g105_23 (r : Nat) (l0 l1 : Option AV) (s0 : AV) (M : Mem) (S : Sh) : go r 105 23 [l0, l1] [s0] M S = go r 105 25 [l0, l1] [aI 10, s0] M S := go_nx rfl rfl
theorem g105_25 (r : Nat) (l0 l1 : Option AV) (x : Int) (a : Nat) (M : Mem) (S : Sh) (h : S.1 a = 6) : go r 105 25 [l0, l1] [aI x, aR a] M S = go r 105 28 [l0, l1] [] (mset M a 3 x) S := go_bnd rfl ⟨h, fun z => absurd z (by decide)⟩ rfl
theorem g105_28 (r : Nat) (l1 : Option AV) (a : Nat) (M : Mem) (S : Sh) : go r 105 28 [some (aR a), l1] [] M S = go r 105 29 [some (aR a), l1] [aR a] M S := go_nx rfl rfl
theorem g105_29 (r : Nat) (l0 l1 : Option AV) (s0 : AV) (M : Mem) (S : Sh) : go r 105 29 [l0, l1] [s0] M S = go r 105 30 [l0, l1] [aI (-1), s0] M S := go_nx rfl rfl
theorem g105_30 (r : Nat) (l0 l1 : Option AV) (x : Int) (a : Nat) (M : Mem) (S : Sh) (h : S.1 a = 6) : go r 105 30 [l0, l1] [aI x, aR a] M S = go r 105 33 [l0, l1] [] (mset M a 4 x) S := go_bnd rfl ⟨h, fun z => absurd z (by decide)⟩ rfl
theorem g105_33 (r : Nat) (l1 : Option AV) (a : Nat) (M : Mem) (S : Sh) : go r 105 33 [some (aR a), l1] [] M S = go r 105 34 [some (aR a), l1] [aR a] M S := go_nx rfl rfl
theorem g105_34 (r : Nat) (l0 l1 : Option AV) (s0 : AV) (M : Mem) (S : Sh) : go r 105 34 [l0, l1] [s0] M S = go r 105 35 [l0, l1] [aI 4, s0] M S := go_nx rfl rfl
theorem g105_35 (r : Nat) (l0 l1 : Option AV) (s0 : AV) (x : Int) (M : Mem) (S : Sh) (h : 0 ≤ x ∧ x ≤ 100000) : go r 105 35 [l0, l1] [aI x, s0] M S = go r 105 37 [l0, l1] [aR S.2.2.2.1, s0] (mrow M S.2.2.2.1 (fun _ => 0)) (fset S.1 S.2.2.2.1 7, fset S.2.1 S.2.2.2.1 x.toNat, S.2.2.1, S.2.2.2.1 + 1, S.2.2.2.2 + x.toNat) := go_bnd rfl h rfl
theorem g105_37 (r : Nat) (l0 l1 : Option AV) (a v : Nat) (M : Mem) (S : Sh) (h : S.1 a = 6) : go r 105 37 [l0, l1] [aR v, aR a] M S = go r 105 40 [l0, l1] [] M (S.1, S.2.1, pset S.2.2.1 a 6 (some v), S.2.2.2) := go_bnd rfl h rfl
theorem g105_40 (r : Nat) (l1 : Option AV) (a : Nat) (M : Mem) (S : Sh) : go r 105 40 [some (aR a), l1] [] M S = go r 105 41 [some (aR a), l1] [aR a] M S := go_nx rfl rfl
theorem g105_41 (r : Nat) (l0 l1 : Option AV) (s0 : AV) (M : Mem) (S : Sh) : go r 105 41 [l0, l1] [s0] M S = go r 105 42 [l0, l1] [aI 4, s0] M S := go_nx rfl rfl
theorem g105_42 (r : Nat) (l0 l1 : Option AV) (s0 : AV) (x : Int) (M : Mem) (S : Sh) (h : 0 ≤ x ∧ x ≤ 100000) : go r 105 42 [l0, l1] [aI x, s0] M S = go r 105 44 [l0, l1] [aR S.2.2.2.1, s0] (mrow M S.2.2.2.1 (fun _ => 0)) (fset S.1 S.2.2.2.1 7, fset S.2.1 S.2.2.2.1 x.toNat, S.2.2.1, S.2.2.2.1 + 1, S.2.2.2.2 + x.toNat) := go_bnd rfl h rfl
theorem g105_44 (r : Nat) (l0 l1 : Option AV) (a v : Nat) (M : Mem) (S : Sh) (h : S.1 a = 6) : go r 105 44 [l0, l1] [aR v, aR a] M S = go r 105 47 [l0, l1] [] M (S.1, S.2.1, pset S.2.2.1 a 7 (some v), S.2.2.2) := go_bnd rfl h rfl
theorem g105_47 (r : Nat) (l1 : Option AV) (a : Nat) (M : Mem) (S : Sh) : go r 105 47 [some (aR a), l1] [] M S = go r 105 48 [some (aR a), l1] [aR a] M S := go_nx rfl rfl
theorem g105_48 (r : Nat) (l0 l1 : Option AV) (s0 : AV) (M : Mem) (S : Sh) : go r 105 48 [l0, l1] [s0] M S = go r 105 50 [l0, l1] [aI 12, s0] M S := go_nx rfl rfl
theorem g105_50 (r : Nat) (l0 l1 : Option AV) (s0 : AV) (x : Int) (M : Mem) (S : Sh) (h : 0 ≤ x ∧ x ≤ 100000) : go r 105 50 [l0, l1] [aI x, s0] M S = go r 105 52 [l0, l1] [aR S.2.2.2.1, s0] (mrow M S.2.2.2.1 (fun _ => 0)) (fset S.1 S.2.2.2.1 7, fset S.2.1 S.2.2.2.1 x.toNat, S.2.2.1, S.2.2.2.1 + 1, S.2.2.2.2 + x.toNat) := go_bnd rfl h rfl
theorem g105_52 (r : Nat) (l0 l1 : Option AV) (a v : Nat) (M : Mem) (S : Sh) (h : S.1 a = 6) : go r 105 52 [l0, l1] [aR v, aR a] M S = go r 105 55 [l0, l1] [] M (S.1, S.2.1, pset S.2.2.1 a 8 (some v), S.2.2.2) := go_bnd rfl h rfl
theorem g105_55 (r : Nat) (l1 : Option AV) (a : Nat) (M : Mem) (S : Sh) : go r 105 55 [some (aR a), l1] [] M S = go r 105 56 [some (aR a), l1] [aR a] M S := go_nx rfl rfl
theorem g105_56 (r : Nat) (l0 l1 : Option AV) (s0 : AV) (M : Mem) (S : Sh) : go r 105 56 [l0, l1] [s0] M S = go r 105 58 [l0, l1] [aI 12, s0] M S := go_nx rfl rfl
theorem g105_58 (r : Nat) (l0 l1 : Option AV) (s0 : AV) (x : Int) (M : Mem) (S : Sh) (h : 0 ≤ x ∧ x ≤ 100000) : go r 105 58 [l0, l1] [aI x, s0] M S = go r 105 60 [l0, l1] [aR S.2.2.2.1, s0] (mrow M S.2.2.2.1 (fun _ => 0)) (fset S.1 S.2.2.2.1 7, fset S.2.1 S.2.2.2.1 x.toNat, S.2.2.1, S.2.2.2.1 + 1, S.2.2.2.2 + x.toNat) := go_bnd rfl h rfl
theorem g105_60 (r : Nat) (l0 l1 : Option AV) (a v : Nat) (M : Mem) (S : Sh) (h : S.1 a = 6) : go r 105 60 [l0, l1] [aR v, aR a] M S = go r 105 63 [l0, l1] [] M (S.1, S.2.1, pset S.2.2.1 a 10 (some v), S.2.2.2) := go_bnd rfl h rfl
theorem g105_63 (r : Nat) (l1 : Option AV) (a : Nat) (M : Mem) (S : Sh) : go r 105 63 [some (aR a), l1] [] M S = go r 105 64 [some (aR a), l1] [aR a] M S := go_nx rfl rfl
theorem g105_64 (r : Nat) (l0 l1 : Option AV) (s0 : AV) (M : Mem) (S : Sh) : go r 105 64 [l0, l1] [s0] M S = go r 105 66 [l0, l1] [aI 12, s0] M S := go_nx rfl rfl
theorem g105_66 (r : Nat) (l0 l1 : Option AV) (s0 : AV) (x : Int) (M : Mem) (S : Sh) (h : 0 ≤ x ∧ x ≤ 100000) : go r 105 66 [l0, l1] [aI x, s0] M S = go r 105 68 [l0, l1] [aR S.2.2.2.1, s0] (mrow M S.2.2.2.1 (fun _ => 0)) (fset S.1 S.2.2.2.1 7, fset S.2.1 S.2.2.2.1 x.toNat, S.2.2.1, S.2.2.2.1 + 1, S.2.2.2.2 + x.toNat) := go_bnd rfl h rfl
theorem g105_68 (r : Nat) (l0 l1 : Option AV) (a v : Nat) (M : Mem) (S : Sh) (h : S.1 a = 6) : go r 105 68 [l0, l1] [aR v, aR a] M S = go r 105 71 [l0, l1] [] M (S.1, S.2.1, pset S.2.2.1 a 11 (some v), S.2.2.2) := go_bnd rfl h rfl
theorem g105_71 (r : Nat) (l1 : Option AV) (a : Nat) (M : Mem) (S : Sh) : go r 105 71 [some (aR a), l1] [] M S = go r 105 72 [some (aR a), l1] [aR a] M S := go_nx rfl rfl
theorem g105_72 (r : Nat) (l0 l1 : Option AV) (s0 : AV) (M : Mem) (S : Sh) : go r 105 72 [l0, l1] [s0] M S = go r 105 75 [l0, l1] [aI 160, s0] M S := go_nx rfl rfl
theorem g105_75 (r : Nat) (l0 l1 : Option AV) (s0 : AV) (x : Int) (M : Mem) (S : Sh) (h : 0 ≤ x ∧ x ≤ 100000) : go r 105 75 [l0, l1] [aI x, s0] M S = go r 105 77 [l0, l1] [aR S.2.2.2.1, s0] (mrow M S.2.2.2.1 (fun _ => 0)) (fset S.1 S.2.2.2.1 7, fset S.2.1 S.2.2.2.1 x.toNat, S.2.2.1, S.2.2.2.1 + 1, S.2.2.2.2 + x.toNat) := go_bnd rfl h rfl
theorem g105_77 (r : Nat) (l0 l1 : Option AV) (a v : Nat) (M : Mem) (S : Sh) (h : S.1 a = 6) : go r 105 77 [l0, l1] [aR v, aR a] M S = go r 105 80 [l0, l1] [] M (S.1, S.2.1, pset S.2.2.1 a 12 (some v), S.2.2.2) := go_bnd rfl h rfl
theorem g105_80 (r : Nat) (l1 : Option AV) (a : Nat) (M : Mem) (S : Sh) : go r 105 80 [some (aR a), l1] [] M S = go r 105 81 [some (aR a), l1] [aR a] M S := go_nx rfl rfl
theorem g105_81 (r : Nat) (l0 l1 : Option AV) (s0 : AV) (M : Mem) (S : Sh) : go r 105 81 [l0, l1] [s0] M S = go r 105 84 [l0, l1] [aI 1200, s0] M S := go_nx rfl rfl
theorem g105_84 (r : Nat) (l0 l1 : Option AV) (s0 : AV) (x : Int) (M : Mem) (S : Sh) (h : 0 ≤ x ∧ x ≤ 100000) : go r 105 84 [l0, l1] [aI x, s0] M S = go r 105 86 [l0, l1] [aR S.2.2.2.1, s0] (mrow M S.2.2.2.1 (fun _ => 0)) (fset S.1 S.2.2.2.1 7, fset S.2.1 S.2.2.2.1 x.toNat, S.2.2.1, S.2.2.2.1 + 1, S.2.2.2.2 + x.toNat) := go_bnd rfl h rfl
theorem g105_86 (r : Nat) (l0 l1 : Option AV) (a v : Nat) (M : Mem) (S : Sh) (h : S.1 a = 6) : go r 105 86 [l0, l1] [aR v, aR a] M S = go r 105 89 [l0, l1] [] M (S.1, S.2.1, pset S.2.2.1 a 14 (some v), S.2.2.2) := go_bnd rfl h rfl
theorem g105_89 (r : Nat) (l1 : Option AV) (a : Nat) (M : Mem) (S : Sh) : go r 105 89 [some (aR a), l1] [] M S = go r 105 90 [some (aR a), l1] [aR a] M S := go_nx rfl rfl
theorem g105_90 (r : Nat) (l0 l1 : Option AV) (s0 : AV) (M : Mem) (S : Sh) : go r 105 90 [l0, l1] [s0] M S = go r 105 92 [l0, l1] [aI 24, s0] M S := go_nx rfl rfl
theorem g105_92 (r : Nat) (l0 l1 : Option AV) (s0 : AV) (x : Int) (M : Mem) (S : Sh) (h : 0 ≤ x ∧ x ≤ 100000) : go r 105 92 [l0, l1] [aI x, s0] M S = go r 105 94 [l0, l1] [aR S.2.2.2.1, s0] (mrow M S.2.2.2.1 (fun _ => 0)) (fset S.1 S.2.2.2.1 7, fset S.2.1 S.2.2.2.1 x.toNat, S.2.2.1, S.2.2.2.1 + 1, S.2.2.2.2 + x.toNat) := go_bnd rfl h rfl
theorem g105_94 (r : Nat) (l0 l1 : Option AV) (a v : Nat) (M : Mem) (S : Sh) (h : S.1 a = 6) : go r 105 94 [l0, l1] [aR v, aR a] M S = go r 105 97 [l0, l1] [] M (S.1, S.2.1, pset S.2.2.1 a 15 (some v), S.2.2.2) := go_bnd rfl h rfl
theorem g105_97 (r : Nat) (l1 : Option AV) (a : Nat) (M : Mem) (S : Sh) : go r 105 97 [some (aR a), l1] [] M S = go r 105 98 [some (aR a), l1] [aR a] M S := go_nx rfl rfl
theorem g105_98 (r : Nat) (l0 l1 : Option AV) (s0 : AV) (M : Mem) (S : Sh) : go r 105 98 [l0, l1] [s0] M S = go r 105 101 [l0, l1] [aI 384, s0] M S := go_nx rfl rfl
theorem g105_101 (r : Nat) (l0 l1 : Option AV) (s0 : AV) (x : Int) (M : Mem) (S : Sh) (h : 0 ≤ x ∧ x ≤ 100000) : go r 105 101 [l0, l1] [aI x, s0] M S = go r 105 103 [l0, l1] [aR S.2.2.2.1, s0] (mrow M S.2.2.2.1 (fun _ => 0)) (fset S.1 S.2.2.2.1 7, fset S.2.1 S.2.2.2.1 x.toNat, S.2.2.1, S.2.2.2.1 + 1, S.2.2.2.2 + x.toNat) := go_bnd rfl h rfl
theorem g105_103 (r : Nat) (l0 l1 : Option AV) (a v : Nat) (M : Mem) (S : Sh) (h : S.1 a = 6) : go r 105 103 [l0, l1] [aR v, aR a] M S = go r 105 106 [l0, l1] [] M (S.1, S.2.1, pset S.2.2.1 a 19 (some v), S.2.2.2) := go_bnd rfl h rfl
theorem g105_106 (r : Nat) (l1 : Option AV) (a : Nat) (M : Mem) (S : Sh) : go r 105 106 [some (aR a), l1] [] M S = go r 105 107 [some (aR a), l1] [aR a] M S := go_nx rfl rfl
theorem g105_107 (r : Nat) (l0 l1 : Option AV) (s0 : AV) (M : Mem) (S : Sh) : go r 105 107 [l0, l1] [s0] M S = go r 105 109 [l0, l1] [aI 36, s0] M S := go_nx rfl rfl
theorem g105_109 (r : Nat) (l0 l1 : Option AV) (s0 : AV) (x : Int) (M : Mem) (S : Sh) (h : 0 ≤ x ∧ x ≤ 100000) : go r 105 109 [l0, l1] [aI x, s0] M S = go r 105 111 [l0, l1] [aR S.2.2.2.1, s0] (mrow M S.2.2.2.1 (fun _ => 0)) (fset S.1 S.2.2.2.1 7, fset S.2.1 S.2.2.2.1 x.toNat, S.2.2.1, S.2.2.2.1 + 1, S.2.2.2.2 + x.toNat) := go_bnd rfl h rfl
theorem g105_111 (r : Nat) (l0 l1 : Option AV) (a v : Nat) (M : Mem) (S : Sh) (h : S.1 a = 6) : go r 105 111 [l0, l1] [aR v, aR a] M S = go r 105 114 [l0, l1] [] M (S.1, S.2.1, pset S.2.2.1 a 20 (some v), S.2.2.2) := go_bnd rfl h rfl
theorem g105_114 (r : Nat) (l1 : Option AV) (a : Nat) (M : Mem) (S : Sh) : go r 105 114 [some (aR a), l1] [] M S = go r 105 115 [some (aR a), l1] [aR a] M S := go_nx rfl rfl
theorem g105_115 (r : Nat) (l0 l1 : Option AV) (s0 : AV) (M : Mem) (S : Sh) : go r 105 115 [l0, l1] [s0] M S = go r 105 117 [l0, l1] [aI 6, s0] M S := go_nx rfl rfl
theorem g105_117 (r : Nat) (l0 l1 : Option AV) (s0 : AV) (x : Int) (M : Mem) (S : Sh) (h : 0 ≤ x ∧ x ≤ 100000) : go r 105 117 [l0, l1] [aI x, s0] M S = go r 105 119 [l0, l1] [aR S.2.2.2.1, s0] (mrow M S.2.2.2.1 (fun _ => 0)) (fset S.1 S.2.2.2.1 7, fset S.2.1 S.2.2.2.1 x.toNat, S.2.2.1, S.2.2.2.1 + 1, S.2.2.2.2 + x.toNat) := go_bnd rfl h rfl
theorem g105_119 (r : Nat) (l0 l1 : Option AV) (a v : Nat) (M : Mem) (S : Sh) (h : S.1 a = 6) : go r 105 119 [l0, l1] [aR v, aR a] M S = go r 105 122 [l0, l1] [] M (S.1, S.2.1, pset S.2.2.1 a 21 (some v), S.2.2.2) := go_bnd rfl h rfl
theorem g105_122 (r : Nat) (l1 : Option AV) (a : Nat) (M : Mem) (S : Sh) : go r 105 122 [some (aR a), l1] [] M S = go r 105 123 [some (aR a), l1] [aR a] M S := go_nx rfl rfl
set_option maxRecDepth 20000 in
theorem g105_123 (r : Nat) (l0 l1 : Option AV) (s0 : AV) (M : Mem) (S : Sh) : go r 105 123 [l0, l1] [s0] M S = go r 105 124 [l0, l1] [aI 4, s0] M S := go_nx rfl rfl
set_option maxRecDepth 20000 in
theorem g105_124 (r : Nat) (l0 l1 : Option AV) (s0 : AV) (x : Int) (M : Mem) (S : Sh) (h : 0 ≤ x ∧ x ≤ 100000) : go r 105 124 [l0, l1] [aI x, s0] M S = go r 105 126 [l0, l1] [aR S.2.2.2.1, s0] (mrow M S.2.2.2.1 (fun _ => 0)) (fset S.1 S.2.2.2.1 7, fset S.2.1 S.2.2.2.1 x.toNat, S.2.2.1, S.2.2.2.1 + 1, S.2.2.2.2 + x.toNat) := go_bnd rfl h rfl
set_option maxRecDepth 20000 in
theorem g105_126 (r : Nat) (l0 l1 : Option AV) (s0 : AV) (a : Nat) (M : Mem) (S : Sh) : go r 105 126 [l0, l1] [aR a, s0] M S = go r 105 127 [l0, l1] [aR a, aR a, s0] M S := go_nx rfl rfl
set_option maxRecDepth 20000 in
theorem g105_127 (r : Nat) (l0 l1 : Option AV) (s0 s1 s2 : AV) (M : Mem) (S : Sh) : go r 105 127 [l0, l1] [s0, s1, s2] M S = go r 105 128 [l0, l1] [aI 0, s0, s1, s2] M S := go_nx rfl rfl
set_option maxRecDepth 20000 in
theorem g105_128 (r : Nat) (l0 l1 : Option AV) (s0 s1 s2 s3 : AV) (M : Mem) (S : Sh) : go r 105 128 [l0, l1] [s0, s1, s2, s3] M S = go r 105 129 [l0, l1] [aI (-1), s0, s1, s2, s3] M S := go_nx rfl rfl
set_option maxRecDepth 20000 in
theorem g105_129 (r : Nat) (l0 l1 : Option AV) (s0 s1 : AV) (x y : Int) (a : Nat) (M : Mem) (S : Sh) (h : S.1 a = 7) (h6 : 6 ≤ a) (h0 : 0 ≤ x) (h1 : x < S.2.1 a) : go r 105 129 [l0, l1] [aI y, aI x, aR a, s0, s1] M S = go r 105 130 [l0, l1] [s0, s1] (mset M a x.toNat y) S := go_bnd rfl ⟨h, h6, h0, h1⟩ rfl
set_option maxRecDepth 20000 in
theorem g105_130 (r : Nat) (l0 l1 : Option AV) (s0 : AV) (a : Nat) (M : Mem) (S : Sh) : go r 105 130 [l0, l1] [aR a, s0] M S = go r 105 131 [l0, l1] [aR a, aR a, s0] M S := go_nx rfl rfl
set_option maxRecDepth 20000 in
theorem g105_131 (r : Nat) (l0 l1 : Option AV) (s0 s1 s2 : AV) (M : Mem) (S : Sh) : go r 105 131 [l0, l1] [s0, s1, s2] M S = go r 105 132 [l0, l1] [aI 1, s0, s1, s2] M S := go_nx rfl rfl
set_option maxRecDepth 20000 in
theorem g105_132 (r : Nat) (l0 l1 : Option AV) (s0 s1 s2 s3 : AV) (M : Mem) (S : Sh) : go r 105 132 [l0, l1] [s0, s1, s2, s3] M S = go r 105 133 [l0, l1] [aI (-1), s0, s1, s2, s3] M S := go_nx rfl rfl
set_option maxRecDepth 20000 in
theorem g105_133 (r : Nat) (l0 l1 : Option AV) (s0 s1 : AV) (x y : Int) (a : Nat) (M : Mem) (S : Sh) (h : S.1 a = 7) (h6 : 6 ≤ a) (h0 : 0 ≤ x) (h1 : x < S.2.1 a) : go r 105 133 [l0, l1] [aI y, aI x, aR a, s0, s1] M S = go r 105 134 [l0, l1] [s0, s1] (mset M a x.toNat y) S := go_bnd rfl ⟨h, h6, h0, h1⟩ rfl
set_option maxRecDepth 20000 in
theorem g105_134 (r : Nat) (l0 l1 : Option AV) (s0 : AV) (a : Nat) (M : Mem) (S : Sh) : go r 105 134 [l0, l1] [aR a, s0] M S = go r 105 135 [l0, l1] [aR a, aR a, s0] M S := go_nx rfl rfl
set_option maxRecDepth 20000 in
theorem g105_135 (r : Nat) (l0 l1 : Option AV) (s0 s1 s2 : AV) (M : Mem) (S : Sh) : go r 105 135 [l0, l1] [s0, s1, s2] M S = go r 105 136 [l0, l1] [aI 2, s0, s1, s2] M S := go_nx rfl rfl
set_option maxRecDepth 20000 in
theorem g105_136 (r : Nat) (l0 l1 : Option AV) (s0 s1 s2 s3 : AV) (M : Mem) (S : Sh) : go r 105 136 [l0, l1] [s0, s1, s2, s3] M S = go r 105 137 [l0, l1] [aI (-1), s0, s1, s2, s3] M S := go_nx rfl rfl
set_option maxRecDepth 20000 in
theorem g105_137 (r : Nat) (l0 l1 : Option AV) (s0 s1 : AV) (x y : Int) (a : Nat) (M : Mem) (S : Sh) (h : S.1 a = 7) (h6 : 6 ≤ a) (h0 : 0 ≤ x) (h1 : x < S.2.1 a) : go r 105 137 [l0, l1] [aI y, aI x, aR a, s0, s1] M S = go r 105 138 [l0, l1] [s0, s1] (mset M a x.toNat y) S := go_bnd rfl ⟨h, h6, h0, h1⟩ rfl
set_option maxRecDepth 20000 in
theorem g105_138 (r : Nat) (l0 l1 : Option AV) (s0 : AV) (a : Nat) (M : Mem) (S : Sh) : go r 105 138 [l0, l1] [aR a, s0] M S = go r 105 139 [l0, l1] [aR a, aR a, s0] M S := go_nx rfl rfl
set_option maxRecDepth 20000 in
theorem g105_139 (r : Nat) (l0 l1 : Option AV) (s0 s1 s2 : AV) (M : Mem) (S : Sh) : go r 105 139 [l0, l1] [s0, s1, s2] M S = go r 105 140 [l0, l1] [aI 3, s0, s1, s2] M S := go_nx rfl rfl
set_option maxRecDepth 20000 in
theorem g105_140 (r : Nat) (l0 l1 : Option AV) (s0 s1 s2 s3 : AV) (M : Mem) (S : Sh) : go r 105 140 [l0, l1] [s0, s1, s2, s3] M S = go r 105 141 [l0, l1] [aI (-1), s0, s1, s2, s3] M S := go_nx rfl rfl
set_option maxRecDepth 20000 in
theorem g105_141 (r : Nat) (l0 l1 : Option AV) (s0 s1 : AV) (x y : Int) (a : Nat) (M : Mem) (S : Sh) (h : S.1 a = 7) (h6 : 6 ≤ a) (h0 : 0 ≤ x) (h1 : x < S.2.1 a) : go r 105 141 [l0, l1] [aI y, aI x, aR a, s0, s1] M S = go r 105 142 [l0, l1] [s0, s1] (mset M a x.toNat y) S := go_bnd rfl ⟨h, h6, h0, h1⟩ rfl
set_option maxRecDepth 20000 in
theorem g105_142 (r : Nat) (l0 l1 : Option AV) (a v : Nat) (M : Mem) (S : Sh) (h : S.1 a = 6) : go r 105 142 [l0, l1] [aR v, aR a] M S = go r 105 145 [l0, l1] [] M (S.1, S.2.1, pset S.2.2.1 a 22 (some v), S.2.2.2) := go_bnd rfl h rfl
set_option maxRecDepth 20000 in
theorem g105_145 (r : Nat) (l1 : Option AV) (a : Nat) (M : Mem) (S : Sh) : go r 105 145 [some (aR a), l1] [] M S = go r 105 146 [some (aR a), l1] [aR a] M S := go_nx rfl rfl
set_option maxRecDepth 20000 in
theorem g105_146 (r : Nat) (l0 l1 : Option AV) (s0 : AV) (M : Mem) (S : Sh) : go r 105 146 [l0, l1] [s0] M S = go r 105 147 [l0, l1] [aI 4, s0] M S := go_nx rfl rfl
set_option maxRecDepth 20000 in
theorem g105_147 (r : Nat) (l0 l1 : Option AV) (s0 : AV) (x : Int) (M : Mem) (S : Sh) (h : 0 ≤ x ∧ x ≤ 100000) : go r 105 147 [l0, l1] [aI x, s0] M S = go r 105 149 [l0, l1] [aR S.2.2.2.1, s0] (mrow M S.2.2.2.1 (fun _ => 0)) (fset S.1 S.2.2.2.1 7, fset S.2.1 S.2.2.2.1 x.toNat, S.2.2.1, S.2.2.2.1 + 1, S.2.2.2.2 + x.toNat) := go_bnd rfl h rfl
set_option maxRecDepth 20000 in
theorem g105_149 (r : Nat) (l0 l1 : Option AV) (a v : Nat) (M : Mem) (S : Sh) (h : S.1 a = 6) : go r 105 149 [l0, l1] [aR v, aR a] M S = go r 105 152 [l0, l1] [] M (S.1, S.2.1, pset S.2.2.1 a 23 (some v), S.2.2.2) := go_bnd rfl h rfl
set_option maxRecDepth 20000 in
theorem g105_152 (r : Nat) (l1 : Option AV) (a : Nat) (M : Mem) (S : Sh) : go r 105 152 [some (aR a), l1] [] M S = go r 105 153 [some (aR a), l1] [aR a] M S := go_nx rfl rfl
set_option maxRecDepth 20000 in
theorem g105_153 (r : Nat) (l0 l1 : Option AV) (s0 : AV) (M : Mem) (S : Sh) : go r 105 153 [l0, l1] [s0] M S = go r 105 156 [l0, l1] [aI 160, s0] M S := go_nx rfl rfl
set_option maxRecDepth 20000 in
theorem g105_156 (r : Nat) (l0 l1 : Option AV) (s0 : AV) (x : Int) (M : Mem) (S : Sh) (h : 0 ≤ x ∧ x ≤ 100000) : go r 105 156 [l0, l1] [aI x, s0] M S = go r 105 158 [l0, l1] [aR S.2.2.2.1, s0] (mrow M S.2.2.2.1 (fun _ => 0)) (fset S.1 S.2.2.2.1 7, fset S.2.1 S.2.2.2.1 x.toNat, S.2.2.1, S.2.2.2.1 + 1, S.2.2.2.2 + x.toNat) := go_bnd rfl h rfl
set_option maxRecDepth 20000 in
theorem g105_158 (r : Nat) (l0 l1 : Option AV) (a v : Nat) (M : Mem) (S : Sh) (h : S.1 a = 6) : go r 105 158 [l0, l1] [aR v, aR a] M S = go r 105 161 [l0, l1] [] M (S.1, S.2.1, pset S.2.2.1 a 24 (some v), S.2.2.2) := go_bnd rfl h rfl
set_option maxRecDepth 20000 in
theorem g105_161 (r : Nat) (l1 : Option AV) (a : Nat) (M : Mem) (S : Sh) : go r 105 161 [some (aR a), l1] [] M S = go r 105 162 [some (aR a), l1] [aR a] M S := go_nx rfl rfl
set_option maxRecDepth 20000 in
theorem g105_162 (r : Nat) (l0 l1 : Option AV) (s0 : AV) (M : Mem) (S : Sh) : go r 105 162 [l0, l1] [s0] M S = go r 105 164 [l0, l1] [aI 40, s0] M S := go_nx rfl rfl
set_option maxRecDepth 20000 in
theorem g105_164 (r : Nat) (l0 l1 : Option AV) (s0 : AV) (x : Int) (M : Mem) (S : Sh) (h : 0 ≤ x ∧ x ≤ 100000) : go r 105 164 [l0, l1] [aI x, s0] M S = go r 105 166 [l0, l1] [aR S.2.2.2.1, s0] (mrow M S.2.2.2.1 (fun _ => 0)) (fset S.1 S.2.2.2.1 7, fset S.2.1 S.2.2.2.1 x.toNat, S.2.2.1, S.2.2.2.1 + 1, S.2.2.2.2 + x.toNat) := go_bnd rfl h rfl
set_option maxRecDepth 20000 in
theorem g105_166 (r : Nat) (l0 l1 : Option AV) (s0 : AV) (a : Nat) (M : Mem) (S : Sh) : go r 105 166 [l0, l1] [aR a, s0] M S = go r 105 167 [l0, l1] [aR a, aR a, s0] M S := go_nx rfl rfl
set_option maxRecDepth 20000 in
theorem g105_167 (r : Nat) (l0 l1 : Option AV) (s0 s1 s2 : AV) (M : Mem) (S : Sh) : go r 105 167 [l0, l1] [s0, s1, s2] M S = go r 105 168 [l0, l1] [aI 0, s0, s1, s2] M S := go_nx rfl rfl
set_option maxRecDepth 20000 in
theorem g105_168 (r : Nat) (l0 l1 : Option AV) (s0 s1 s2 s3 : AV) (M : Mem) (S : Sh) : go r 105 168 [l0, l1] [s0, s1, s2, s3] M S = go r 105 170 [l0, l1] [aI 115, s0, s1, s2, s3] M S := go_nx rfl rfl
set_option maxRecDepth 20000 in
theorem g105_170 (r : Nat) (l0 l1 : Option AV) (s0 s1 : AV) (x y : Int) (a : Nat) (M : Mem) (S : Sh) (h : S.1 a = 7) (h6 : 6 ≤ a) (h0 : 0 ≤ x) (h1 : x < S.2.1 a) : go r 105 170 [l0, l1] [aI y, aI x, aR a, s0, s1] M S = go r 105 171 [l0, l1] [s0, s1] (mset M a x.toNat y) S := go_bnd rfl ⟨h, h6, h0, h1⟩ rfl
set_option maxRecDepth 20000 in
theorem g105_171 (r : Nat) (l0 l1 : Option AV) (s0 : AV) (a : Nat) (M : Mem) (S : Sh) : go r 105 171 [l0, l1] [aR a, s0] M S = go r 105 172 [l0, l1] [aR a, aR a, s0] M S := go_nx rfl rfl
set_option maxRecDepth 20000 in
theorem g105_172 (r : Nat) (l0 l1 : Option AV) (s0 s1 s2 : AV) (M : Mem) (S : Sh) : go r 105 172 [l0, l1] [s0, s1, s2] M S = go r 105 173 [l0, l1] [aI 1, s0, s1, s2] M S := go_nx rfl rfl
set_option maxRecDepth 20000 in
theorem g105_173 (r : Nat) (l0 l1 : Option AV) (s0 s1 s2 s3 : AV) (M : Mem) (S : Sh) : go r 105 173 [l0, l1] [s0, s1, s2, s3] M S = go r 105 175 [l0, l1] [aI 101, s0, s1, s2, s3] M S := go_nx rfl rfl
set_option maxRecDepth 20000 in
theorem g105_175 (r : Nat) (l0 l1 : Option AV) (s0 s1 : AV) (x y : Int) (a : Nat) (M : Mem) (S : Sh) (h : S.1 a = 7) (h6 : 6 ≤ a) (h0 : 0 ≤ x) (h1 : x < S.2.1 a) : go r 105 175 [l0, l1] [aI y, aI x, aR a, s0, s1] M S = go r 105 176 [l0, l1] [s0, s1] (mset M a x.toNat y) S := go_bnd rfl ⟨h, h6, h0, h1⟩ rfl
set_option maxRecDepth 20000 in
theorem g105_176 (r : Nat) (l0 l1 : Option AV) (s0 : AV) (a : Nat) (M : Mem) (S : Sh) : go r 105 176 [l0, l1] [aR a, s0] M S = go r 105 177 [l0, l1] [aR a, aR a, s0] M S := go_nx rfl rfl
set_option maxRecDepth 20000 in
theorem g105_177 (r : Nat) (l0 l1 : Option AV) (s0 s1 s2 : AV) (M : Mem) (S : Sh) : go r 105 177 [l0, l1] [s0, s1, s2] M S = go r 105 178 [l0, l1] [aI 2, s0, s1, s2] M S := go_nx rfl rfl
set_option maxRecDepth 20000 in
theorem g105_178 (r : Nat) (l0 l1 : Option AV) (s0 s1 s2 s3 : AV) (M : Mem) (S : Sh) : go r 105 178 [l0, l1] [s0, s1, s2, s3] M S = go r 105 180 [l0, l1] [aI 101, s0, s1, s2, s3] M S := go_nx rfl rfl
set_option maxRecDepth 20000 in
theorem g105_180 (r : Nat) (l0 l1 : Option AV) (s0 s1 : AV) (x y : Int) (a : Nat) (M : Mem) (S : Sh) (h : S.1 a = 7) (h6 : 6 ≤ a) (h0 : 0 ≤ x) (h1 : x < S.2.1 a) : go r 105 180 [l0, l1] [aI y, aI x, aR a, s0, s1] M S = go r 105 181 [l0, l1] [s0, s1] (mset M a x.toNat y) S := go_bnd rfl ⟨h, h6, h0, h1⟩ rfl
set_option maxRecDepth 20000 in
theorem g105_181 (r : Nat) (l0 l1 : Option AV) (s0 : AV) (a : Nat) (M : Mem) (S : Sh) : go r 105 181 [l0, l1] [aR a, s0] M S = go r 105 182 [l0, l1] [aR a, aR a, s0] M S := go_nx rfl rfl
set_option maxRecDepth 20000 in
theorem g105_182 (r : Nat) (l0 l1 : Option AV) (s0 s1 s2 : AV) (M : Mem) (S : Sh) : go r 105 182 [l0, l1] [s0, s1, s2] M S = go r 105 183 [l0, l1] [aI 3, s0, s1, s2] M S := go_nx rfl rfl
set_option maxRecDepth 20000 in
theorem g105_183 (r : Nat) (l0 l1 : Option AV) (s0 s1 s2 s3 : AV) (M : Mem) (S : Sh) : go r 105 183 [l0, l1] [s0, s1, s2, s3] M S = go r 105 185 [l0, l1] [aI 115, s0, s1, s2, s3] M S := go_nx rfl rfl
set_option maxRecDepth 20000 in
theorem g105_185 (r : Nat) (l0 l1 : Option AV) (s0 s1 : AV) (x y : Int) (a : Nat) (M : Mem) (S : Sh) (h : S.1 a = 7) (h6 : 6 ≤ a) (h0 : 0 ≤ x) (h1 : x < S.2.1 a) : go r 105 185 [l0, l1] [aI y, aI x, aR a, s0, s1] M S = go r 105 186 [l0, l1] [s0, s1] (mset M a x.toNat y) S := go_bnd rfl ⟨h, h6, h0, h1⟩ rfl
set_option maxRecDepth 20000 in
theorem g105_186 (r : Nat) (l0 l1 : Option AV) (s0 : AV) (a : Nat) (M : Mem) (S : Sh) : go r 105 186 [l0, l1] [aR a, s0] M S = go r 105 187 [l0, l1] [aR a, aR a, s0] M S := go_nx rfl rfl
set_option maxRecDepth 20000 in
theorem g105_187 (r : Nat) (l0 l1 : Option AV) (s0 s1 s2 : AV) (M : Mem) (S : Sh) : go r 105 187 [l0, l1] [s0, s1, s2] M S = go r 105 188 [l0, l1] [aI 4, s0, s1, s2] M S := go_nx rfl rfl
set_option maxRecDepth 20000 in
theorem g105_188 (r : Nat) (l0 l1 : Option AV) (s0 s1 s2 s3 : AV) (M : Mem) (S : Sh) : go r 105 188 [l0, l1] [s0, s1, s2, s3] M S = go r 105 190 [l0, l1] [aI 32, s0, s1, s2, s3] M S := go_nx rfl rfl
set_option maxRecDepth 20000 in
theorem g105_190 (r : Nat) (l0 l1 : Option AV) (s0 s1 : AV) (x y : Int) (a : Nat) (M : Mem) (S : Sh) (h : S.1 a = 7) (h6 : 6 ≤ a) (h0 : 0 ≤ x) (h1 : x < S.2.1 a) : go r 105 190 [l0, l1] [aI y, aI x, aR a, s0, s1] M S = go r 105 191 [l0, l1] [s0, s1] (mset M a x.toNat y) S := go_bnd rfl ⟨h, h6, h0, h1⟩ rfl
set_option maxRecDepth 20000 in
theorem g105_191 (r : Nat) (l0 l1 : Option AV) (s0 : AV) (a : Nat) (M : Mem) (S : Sh) : go r 105 191 [l0, l1] [aR a, s0] M S = go r 105 192 [l0, l1] [aR a, aR a, s0] M S := go_nx rfl rfl
set_option maxRecDepth 20000 in
theorem g105_192 (r : Nat) (l0 l1 : Option AV) (s0 s1 s2 : AV) (M : Mem) (S : Sh) : go r 105 192 [l0, l1] [s0, s1, s2] M S = go r 105 193 [l0, l1] [aI 5, s0, s1, s2] M S := go_nx rfl rfl
set_option maxRecDepth 20000 in
theorem g105_193 (r : Nat) (l0 l1 : Option AV) (s0 s1 s2 s3 : AV) (M : Mem) (S : Sh) : go r 105 193 [l0, l1] [s0, s1, s2, s3] M S = go r 105 195 [l0, l1] [aI 51, s0, s1, s2, s3] M S := go_nx rfl rfl
set_option maxRecDepth 20000 in
theorem g105_195 (r : Nat) (l0 l1 : Option AV) (s0 s1 : AV) (x y : Int) (a : Nat) (M : Mem) (S : Sh) (h : S.1 a = 7) (h6 : 6 ≤ a) (h0 : 0 ≤ x) (h1 : x < S.2.1 a) : go r 105 195 [l0, l1] [aI y, aI x, aR a, s0, s1] M S = go r 105 196 [l0, l1] [s0, s1] (mset M a x.toNat y) S := go_bnd rfl ⟨h, h6, h0, h1⟩ rfl
set_option maxRecDepth 20000 in
theorem g105_196 (r : Nat) (l0 l1 : Option AV) (s0 : AV) (a : Nat) (M : Mem) (S : Sh) : go r 105 196 [l0, l1] [aR a, s0] M S = go r 105 197 [l0, l1] [aR a, aR a, s0] M S := go_nx rfl rfl
set_option maxRecDepth 20000 in
theorem g105_197 (r : Nat) (l0 l1 : Option AV) (s0 s1 s2 : AV) (M : Mem) (S : Sh) : go r 105 197 [l0, l1] [s0, s1, s2] M S = go r 105 199 [l0, l1] [aI 6, s0, s1, s2] M S := go_nx rfl rfl
set_option maxRecDepth 20000 in
theorem g105_199 (r : Nat) (l0 l1 : Option AV) (s0 s1 s2 s3 : AV) (M : Mem) (S : Sh) : go r 105 199 [l0, l1] [s0, s1, s2, s3] M S = go r 105 201 [l0, l1] [aI 32, s0, s1, s2, s3] M S := go_nx rfl rfl
set_option maxRecDepth 20000 in
theorem g105_201 (r : Nat) (l0 l1 : Option AV) (s0 s1 : AV) (x y : Int) (a : Nat) (M : Mem) (S : Sh) (h : S.1 a = 7) (h6 : 6 ≤ a) (h0 : 0 ≤ x) (h1 : x < S.2.1 a) : go r 105 201 [l0, l1] [aI y, aI x, aR a, s0, s1] M S = go r 105 202 [l0, l1] [s0, s1] (mset M a x.toNat y) S := go_bnd rfl ⟨h, h6, h0, h1⟩ rfl
set_option maxRecDepth 20000 in
theorem g105_202 (r : Nat) (l0 l1 : Option AV) (s0 : AV) (a : Nat) (M : Mem) (S : Sh) : go r 105 202 [l0, l1] [aR a, s0] M S = go r 105 203 [l0, l1] [aR a, aR a, s0] M S := go_nx rfl rfl
set_option maxRecDepth 20000 in
theorem g105_203 (r : Nat) (l0 l1 : Option AV) (s0 s1 s2 : AV) (M : Mem) (S : Sh) : go r 105 203 [l0, l1] [s0, s1, s2] M S = go r 105 205 [l0, l1] [aI 7, s0, s1, s2] M S := go_nx rfl rfl
set_option maxRecDepth 20000 in
theorem g105_205 (r : Nat) (l0 l1 : Option AV) (s0 s1 s2 s3 : AV) (M : Mem) (S : Sh) : go r 105 205 [l0, l1] [s0, s1, s2, s3] M S = go r 105 207 [l0, l1] [aI 45, s0, s1, s2, s3] M S := go_nx rfl rfl
set_option maxRecDepth 20000 in
theorem g105_207 (r : Nat) (l0 l1 : Option AV) (s0 s1 : AV) (x y : Int) (a : Nat) (M : Mem) (S : Sh) (h : S.1 a = 7) (h6 : 6 ≤ a) (h0 : 0 ≤ x) (h1 : x < S.2.1 a) : go r 105 207 [l0, l1] [aI y, aI x, aR a, s0, s1] M S = go r 105 208 [l0, l1] [s0, s1] (mset M a x.toNat y) S := go_bnd rfl ⟨h, h6, h0, h1⟩ rfl
set_option maxRecDepth 20000 in
theorem g105_208 (r : Nat) (l0 l1 : Option AV) (s0 : AV) (a : Nat) (M : Mem) (S : Sh) : go r 105 208 [l0, l1] [aR a, s0] M S = go r 105 209 [l0, l1] [aR a, aR a, s0] M S := go_nx rfl rfl
set_option maxRecDepth 20000 in
theorem g105_209 (r : Nat) (l0 l1 : Option AV) (s0 s1 s2 : AV) (M : Mem) (S : Sh) : go r 105 209 [l0, l1] [s0, s1, s2] M S = go r 105 211 [l0, l1] [aI 8, s0, s1, s2] M S := go_nx rfl rfl
set_option maxRecDepth 20000 in
theorem g105_211 (r : Nat) (l0 l1 : Option AV) (s0 s1 s2 s3 : AV) (M : Mem) (S : Sh) : go r 105 211 [l0, l1] [s0, s1, s2, s3] M S = go r 105 213 [l0, l1] [aI 32, s0, s1, s2, s3] M S := go_nx rfl rfl
set_option maxRecDepth 20000 in
theorem g105_213 (r : Nat) (l0 l1 : Option AV) (s0 s1 : AV) (x y : Int) (a : Nat) (M : Mem) (S : Sh) (h : S.1 a = 7) (h6 : 6 ≤ a) (h0 : 0 ≤ x) (h1 : x < S.2.1 a) : go r 105 213 [l0, l1] [aI y, aI x, aR a, s0, s1] M S = go r 105 214 [l0, l1] [s0, s1] (mset M a x.toNat y) S := go_bnd rfl ⟨h, h6, h0, h1⟩ rfl
set_option maxRecDepth 20000 in
theorem g105_214 (r : Nat) (l0 l1 : Option AV) (s0 : AV) (a : Nat) (M : Mem) (S : Sh) : go r 105 214 [l0, l1] [aR a, s0] M S = go r 105 215 [l0, l1] [aR a, aR a, s0] M S := go_nx rfl rfl
set_option maxRecDepth 20000 in
theorem g105_215 (r : Nat) (l0 l1 : Option AV) (s0 s1 s2 : AV) (M : Mem) (S : Sh) : go r 105 215 [l0, l1] [s0, s1, s2] M S = go r 105 217 [l0, l1] [aI 9, s0, s1, s2] M S := go_nx rfl rfl
set_option maxRecDepth 20000 in
theorem g105_217 (r : Nat) (l0 l1 : Option AV) (s0 s1 s2 s3 : AV) (M : Mem) (S : Sh) : go r 105 217 [l0, l1] [s0, s1, s2, s3] M S = go r 105 219 [l0, l1] [aI 104, s0, s1, s2, s3] M S := go_nx rfl rfl
set_option maxRecDepth 20000 in
theorem g105_219 (r : Nat) (l0 l1 : Option AV) (s0 s1 : AV) (x y : Int) (a : Nat) (M : Mem) (S : Sh) (h : S.1 a = 7) (h6 : 6 ≤ a) (h0 : 0 ≤ x) (h1 : x < S.2.1 a) : go r 105 219 [l0, l1] [aI y, aI x, aR a, s0, s1] M S = go r 105 220 [l0, l1] [s0, s1] (mset M a x.toNat y) S := go_bnd rfl ⟨h, h6, h0, h1⟩ rfl
set_option maxRecDepth 20000 in
theorem g105_220 (r : Nat) (l0 l1 : Option AV) (s0 : AV) (a : Nat) (M : Mem) (S : Sh) : go r 105 220 [l0, l1] [aR a, s0] M S = go r 105 221 [l0, l1] [aR a, aR a, s0] M S := go_nx rfl rfl
set_option maxRecDepth 20000 in
theorem g105_221 (r : Nat) (l0 l1 : Option AV) (s0 s1 s2 : AV) (M : Mem) (S : Sh) : go r 105 221 [l0, l1] [s0, s1, s2] M S = go r 105 223 [l0, l1] [aI 10, s0, s1, s2] M S := go_nx rfl rfl
set_option maxRecDepth 20000 in
theorem g105_223 (r : Nat) (l0 l1 : Option AV) (s0 s1 s2 s3 : AV) (M : Mem) (S : Sh) : go r 105 223 [l0, l1] [s0, s1, s2, s3] M S = go r 105 225 [l0, l1] [aI 105, s0, s1, s2, s3] M S := go_nx rfl rfl
set_option maxRecDepth 20000 in
theorem g105_225 (r : Nat) (l0 l1 : Option AV) (s0 s1 : AV) (x y : Int) (a : Nat) (M : Mem) (S : Sh) (h : S.1 a = 7) (h6 : 6 ≤ a) (h0 : 0 ≤ x) (h1 : x < S.2.1 a) : go r 105 225 [l0, l1] [aI y, aI x, aR a, s0, s1] M S = go r 105 226 [l0, l1] [s0, s1] (mset M a x.toNat y) S := go_bnd rfl ⟨h, h6, h0, h1⟩ rfl
set_option maxRecDepth 20000 in
theorem g105_226 (r : Nat) (l0 l1 : Option AV) (s0 : AV) (a : Nat) (M : Mem) (S : Sh) : go r 105 226 [l0, l1] [aR a, s0] M S = go r 105 227 [l0, l1] [aR a, aR a, s0] M S := go_nx rfl rfl
set_option maxRecDepth 20000 in
theorem g105_227 (r : Nat) (l0 l1 : Option AV) (s0 s1 s2 : AV) (M : Mem) (S : Sh) : go r 105 227 [l0, l1] [s0, s1, s2] M S = go r 105 229 [l0, l1] [aI 11, s0, s1, s2] M S := go_nx rfl rfl
set_option maxRecDepth 20000 in
theorem g105_229 (r : Nat) (l0 l1 : Option AV) (s0 s1 s2 s3 : AV) (M : Mem) (S : Sh) : go r 105 229 [l0, l1] [s0, s1, s2, s3] M S = go r 105 231 [l0, l1] [aI 108, s0, s1, s2, s3] M S := go_nx rfl rfl
set_option maxRecDepth 20000 in
theorem g105_231 (r : Nat) (l0 l1 : Option AV) (s0 s1 : AV) (x y : Int) (a : Nat) (M : Mem) (S : Sh) (h : S.1 a = 7) (h6 : 6 ≤ a) (h0 : 0 ≤ x) (h1 : x < S.2.1 a) : go r 105 231 [l0, l1] [aI y, aI x, aR a, s0, s1] M S = go r 105 232 [l0, l1] [s0, s1] (mset M a x.toNat y) S := go_bnd rfl ⟨h, h6, h0, h1⟩ rfl
set_option maxRecDepth 20000 in
theorem g105_232 (r : Nat) (l0 l1 : Option AV) (s0 : AV) (a : Nat) (M : Mem) (S : Sh) : go r 105 232 [l0, l1] [aR a, s0] M S = go r 105 233 [l0, l1] [aR a, aR a, s0] M S := go_nx rfl rfl
set_option maxRecDepth 20000 in
theorem g105_233 (r : Nat) (l0 l1 : Option AV) (s0 s1 s2 : AV) (M : Mem) (S : Sh) : go r 105 233 [l0, l1] [s0, s1, s2] M S = go r 105 235 [l0, l1] [aI 12, s0, s1, s2] M S := go_nx rfl rfl
set_option maxRecDepth 20000 in
theorem g105_235 (r : Nat) (l0 l1 : Option AV) (s0 s1 s2 s3 : AV) (M : Mem) (S : Sh) : go r 105 235 [l0, l1] [s0, s1, s2, s3] M S = go r 105 237 [l0, l1] [aI 108, s0, s1, s2, s3] M S := go_nx rfl rfl
set_option maxRecDepth 20000 in
theorem g105_237 (r : Nat) (l0 l1 : Option AV) (s0 s1 : AV) (x y : Int) (a : Nat) (M : Mem) (S : Sh) (h : S.1 a = 7) (h6 : 6 ≤ a) (h0 : 0 ≤ x) (h1 : x < S.2.1 a) : go r 105 237 [l0, l1] [aI y, aI x, aR a, s0, s1] M S = go r 105 238 [l0, l1] [s0, s1] (mset M a x.toNat y) S := go_bnd rfl ⟨h, h6, h0, h1⟩ rfl
set_option maxRecDepth 20000 in
theorem g105_238 (r : Nat) (l0 l1 : Option AV) (s0 : AV) (a : Nat) (M : Mem) (S : Sh) : go r 105 238 [l0, l1] [aR a, s0] M S = go r 105 239 [l0, l1] [aR a, aR a, s0] M S := go_nx rfl rfl
set_option maxRecDepth 20000 in
theorem g105_239 (r : Nat) (l0 l1 : Option AV) (s0 s1 s2 : AV) (M : Mem) (S : Sh) : go r 105 239 [l0, l1] [s0, s1, s2] M S = go r 105 241 [l0, l1] [aI 13, s0, s1, s2] M S := go_nx rfl rfl
set_option maxRecDepth 20000 in
theorem g105_241 (r : Nat) (l0 l1 : Option AV) (s0 s1 s2 s3 : AV) (M : Mem) (S : Sh) : go r 105 241 [l0, l1] [s0, s1, s2, s3] M S = go r 105 243 [l0, l1] [aI 32, s0, s1, s2, s3] M S := go_nx rfl rfl
set_option maxRecDepth 20000 in
theorem g105_243 (r : Nat) (l0 l1 : Option AV) (s0 s1 : AV) (x y : Int) (a : Nat) (M : Mem) (S : Sh) (h : S.1 a = 7) (h6 : 6 ≤ a) (h0 : 0 ≤ x) (h1 : x < S.2.1 a) : go r 105 243 [l0, l1] [aI y, aI x, aR a, s0, s1] M S = go r 105 244 [l0, l1] [s0, s1] (mset M a x.toNat y) S := go_bnd rfl ⟨h, h6, h0, h1⟩ rfl
set_option maxRecDepth 20000 in
theorem g105_244 (r : Nat) (l0 l1 : Option AV) (s0 : AV) (a : Nat) (M : Mem) (S : Sh) : go r 105 244 [l0, l1] [aR a, s0] M S = go r 105 245 [l0, l1] [aR a, aR a, s0] M S := go_nx rfl rfl
set_option maxRecDepth 20000 in
theorem g105_245 (r : Nat) (l0 l1 : Option AV) (s0 s1 s2 : AV) (M : Mem) (S : Sh) : go r 105 245 [l0, l1] [s0, s1, s2] M S = go r 105 247 [l0, l1] [aI 14, s0, s1, s2] M S := go_nx rfl rfl
set_option maxRecDepth 20000 in
theorem g105_247 (r : Nat) (l0 l1 : Option AV) (s0 s1 s2 s3 : AV) (M : Mem) (S : Sh) : go r 105 247 [l0, l1] [s0, s1, s2, s3] M S = go r 105 249 [l0, l1] [aI 59, s0, s1, s2, s3] M S := go_nx rfl rfl
set_option maxRecDepth 20000 in
theorem g105_249 (r : Nat) (l0 l1 : Option AV) (s0 s1 : AV) (x y : Int) (a : Nat) (M : Mem) (S : Sh) (h : S.1 a = 7) (h6 : 6 ≤ a) (h0 : 0 ≤ x) (h1 : x < S.2.1 a) : go r 105 249 [l0, l1] [aI y, aI x, aR a, s0, s1] M S = go r 105 250 [l0, l1] [s0, s1] (mset M a x.toNat y) S := go_bnd rfl ⟨h, h6, h0, h1⟩ rfl
set_option maxRecDepth 20000 in
theorem g105_250 (r : Nat) (l0 l1 : Option AV) (s0 : AV) (a : Nat) (M : Mem) (S : Sh) : go r 105 250 [l0, l1] [aR a, s0] M S = go r 105 251 [l0, l1] [aR a, aR a, s0] M S := go_nx rfl rfl
set_option maxRecDepth 20000 in
theorem g105_251 (r : Nat) (l0 l1 : Option AV) (s0 s1 s2 : AV) (M : Mem) (S : Sh) : go r 105 251 [l0, l1] [s0, s1, s2] M S = go r 105 253 [l0, l1] [aI 15, s0, s1, s2] M S := go_nx rfl rfl
set_option maxRecDepth 20000 in
theorem g105_253 (r : Nat) (l0 l1 : Option AV) (s0 s1 s2 s3 : AV) (M : Mem) (S : Sh) : go r 105 253 [l0, l1] [s0, s1, s2, s3] M S = go r 105 255 [l0, l1] [aI 32, s0, s1, s2, s3] M S := go_nx rfl rfl
set_option maxRecDepth 20000 in
theorem g105_255 (r : Nat) (l0 l1 : Option AV) (s0 s1 : AV) (x y : Int) (a : Nat) (M : Mem) (S : Sh) (h : S.1 a = 7) (h6 : 6 ≤ a) (h0 : 0 ≤ x) (h1 : x < S.2.1 a) : go r 105 255 [l0, l1] [aI y, aI x, aR a, s0, s1] M S = go r 105 256 [l0, l1] [s0, s1] (mset M a x.toNat y) S := go_bnd rfl ⟨h, h6, h0, h1⟩ rfl
set_option maxRecDepth 20000 in
theorem g105_256 (r : Nat) (l0 l1 : Option AV) (s0 : AV) (a : Nat) (M : Mem) (S : Sh) : go r 105 256 [l0, l1] [aR a, s0] M S = go r 105 257 [l0, l1] [aR a, aR a, s0] M S := go_nx rfl rfl
set_option maxRecDepth 20000 in
theorem g105_257 (r : Nat) (l0 l1 : Option AV) (s0 s1 s2 : AV) (M : Mem) (S : Sh) : go r 105 257 [l0, l1] [s0, s1, s2] M S = go r 105 259 [l0, l1] [aI 16, s0, s1, s2] M S := go_nx rfl rfl
set_option maxRecDepth 20000 in
theorem g105_259 (r : Nat) (l0 l1 : Option AV) (s0 s1 s2 s3 : AV) (M : Mem) (S : Sh) : go r 105 259 [l0, l1] [s0, s1, s2, s3] M S = go r 105 261 [l0, l1] [aI 100, s0, s1, s2, s3] M S := go_nx rfl rfl
set_option maxRecDepth 20000 in
theorem g105_261 (r : Nat) (l0 l1 : Option AV) (s0 s1 : AV) (x y : Int) (a : Nat) (M : Mem) (S : Sh) (h : S.1 a = 7) (h6 : 6 ≤ a) (h0 : 0 ≤ x) (h1 : x < S.2.1 a) : go r 105 261 [l0, l1] [aI y, aI x, aR a, s0, s1] M S = go r 105 262 [l0, l1] [s0, s1] (mset M a x.toNat y) S := go_bnd rfl ⟨h, h6, h0, h1⟩ rfl
set_option maxRecDepth 20000 in
theorem g105_262 (r : Nat) (l0 l1 : Option AV) (s0 : AV) (a : Nat) (M : Mem) (S : Sh) : go r 105 262 [l0, l1] [aR a, s0] M S = go r 105 263 [l0, l1] [aR a, aR a, s0] M S := go_nx rfl rfl
set_option maxRecDepth 20000 in
theorem g105_263 (r : Nat) (l0 l1 : Option AV) (s0 s1 s2 : AV) (M : Mem) (S : Sh) : go r 105 263 [l0, l1] [s0, s1, s2] M S = go r 105 265 [l0, l1] [aI 17, s0, s1, s2] M S := go_nx rfl rfl
set_option maxRecDepth 20000 in
theorem g105_265 (r : Nat) (l0 l1 : Option AV) (s0 s1 s2 s3 : AV) (M : Mem) (S : Sh) : go r 105 265 [l0, l1] [s0, s1, s2, s3] M S = go r 105 267 [l0, l1] [aI 114, s0, s1, s2, s3] M S := go_nx rfl rfl
set_option maxRecDepth 20000 in
theorem g105_267 (r : Nat) (l0 l1 : Option AV) (s0 s1 : AV) (x y : Int) (a : Nat) (M : Mem) (S : Sh) (h : S.1 a = 7) (h6 : 6 ≤ a) (h0 : 0 ≤ x) (h1 : x < S.2.1 a) : go r 105 267 [l0, l1] [aI y, aI x, aR a, s0, s1] M S = go r 105 268 [l0, l1] [s0, s1] (mset M a x.toNat y) S := go_bnd rfl ⟨h, h6, h0, h1⟩ rfl
set_option maxRecDepth 20000 in
theorem g105_268 (r : Nat) (l0 l1 : Option AV) (s0 : AV) (a : Nat) (M : Mem) (S : Sh) : go r 105 268 [l0, l1] [aR a, s0] M S = go r 105 269 [l0, l1] [aR a, aR a, s0] M S := go_nx rfl rfl
set_option maxRecDepth 20000 in
theorem g105_269 (r : Nat) (l0 l1 : Option AV) (s0 s1 s2 : AV) (M : Mem) (S : Sh) : go r 105 269 [l0, l1] [s0, s1, s2] M S = go r 105 271 [l0, l1] [aI 18, s0, s1, s2] M S := go_nx rfl rfl
set_option maxRecDepth 20000 in
theorem g105_271 (r : Nat) (l0 l1 : Option AV) (s0 s1 s2 s3 : AV) (M : Mem) (S : Sh) : go r 105 271 [l0, l1] [s0, s1, s2, s3] M S = go r 105 273 [l0, l1] [aI 105, s0, s1, s2, s3] M S := go_nx rfl rfl
set_option maxRecDepth 20000 in
theorem g105_273 (r : Nat) (l0 l1 : Option AV) (s0 s1 : AV) (x y : Int) (a : Nat) (M : Mem) (S : Sh) (h : S.1 a = 7) (h6 : 6 ≤ a) (h0 : 0 ≤ x) (h1 : x < S.2.1 a) : go r 105 273 [l0, l1] [aI y, aI x, aR a, s0, s1] M S = go r 105 274 [l0, l1] [s0, s1] (mset M a x.toNat y) S := go_bnd rfl ⟨h, h6, h0, h1⟩ rfl
set_option maxRecDepth 20000 in
theorem g105_274 (r : Nat) (l0 l1 : Option AV) (s0 : AV) (a : Nat) (M : Mem) (S : Sh) : go r 105 274 [l0, l1] [aR a, s0] M S = go r 105 275 [l0, l1] [aR a, aR a, s0] M S := go_nx rfl rfl
set_option maxRecDepth 20000 in
theorem g105_275 (r : Nat) (l0 l1 : Option AV) (s0 s1 s2 : AV) (M : Mem) (S : Sh) : go r 105 275 [l0, l1] [s0, s1, s2] M S = go r 105 277 [l0, l1] [aI 19, s0, s1, s2] M S := go_nx rfl rfl
set_option maxRecDepth 20000 in
theorem g105_277 (r : Nat) (l0 l1 : Option AV) (s0 s1 s2 s3 : AV) (M : Mem) (S : Sh) : go r 105 277 [l0, l1] [s0, s1, s2, s3] M S = go r 105 279 [l0, l1] [aI 102, s0, s1, s2, s3] M S := go_nx rfl rfl
set_option maxRecDepth 20000 in
theorem g105_279 (r : Nat) (l0 l1 : Option AV) (s0 s1 : AV) (x y : Int) (a : Nat) (M : Mem) (S : Sh) (h : S.1 a = 7) (h6 : 6 ≤ a) (h0 : 0 ≤ x) (h1 : x < S.2.1 a) : go r 105 279 [l0, l1] [aI y, aI x, aR a, s0, s1] M S = go r 105 280 [l0, l1] [s0, s1] (mset M a x.toNat y) S := go_bnd rfl ⟨h, h6, h0, h1⟩ rfl
set_option maxRecDepth 20000 in
theorem g105_280 (r : Nat) (l0 l1 : Option AV) (s0 : AV) (a : Nat) (M : Mem) (S : Sh) : go r 105 280 [l0, l1] [aR a, s0] M S = go r 105 281 [l0, l1] [aR a, aR a, s0] M S := go_nx rfl rfl
set_option maxRecDepth 20000 in
theorem g105_281 (r : Nat) (l0 l1 : Option AV) (s0 s1 s2 : AV) (M : Mem) (S : Sh) : go r 105 281 [l0, l1] [s0, s1, s2] M S = go r 105 283 [l0, l1] [aI 20, s0, s1, s2] M S := go_nx rfl rfl
set_option maxRecDepth 20000 in
theorem g105_283 (r : Nat) (l0 l1 : Option AV) (s0 s1 s2 s3 : AV) (M : Mem) (S : Sh) : go r 105 283 [l0, l1] [s0, s1, s2, s3] M S = go r 105 285 [l0, l1] [aI 116, s0, s1, s2, s3] M S := go_nx rfl rfl
set_option maxRecDepth 20000 in
theorem g105_285 (r : Nat) (l0 l1 : Option AV) (s0 s1 : AV) (x y : Int) (a : Nat) (M : Mem) (S : Sh) (h : S.1 a = 7) (h6 : 6 ≤ a) (h0 : 0 ≤ x) (h1 : x < S.2.1 a) : go r 105 285 [l0, l1] [aI y, aI x, aR a, s0, s1] M S = go r 105 286 [l0, l1] [s0, s1] (mset M a x.toNat y) S := go_bnd rfl ⟨h, h6, h0, h1⟩ rfl
set_option maxRecDepth 20000 in
theorem g105_286 (r : Nat) (l0 l1 : Option AV) (s0 : AV) (a : Nat) (M : Mem) (S : Sh) : go r 105 286 [l0, l1] [aR a, s0] M S = go r 105 287 [l0, l1] [aR a, aR a, s0] M S := go_nx rfl rfl
set_option maxRecDepth 20000 in
theorem g105_287 (r : Nat) (l0 l1 : Option AV) (s0 s1 s2 : AV) (M : Mem) (S : Sh) : go r 105 287 [l0, l1] [s0, s1, s2] M S = go r 105 289 [l0, l1] [aI 21, s0, s1, s2] M S := go_nx rfl rfl
set_option maxRecDepth 20000 in
theorem g105_289 (r : Nat) (l0 l1 : Option AV) (s0 s1 s2 s3 : AV) (M : Mem) (S : Sh) : go r 105 289 [l0, l1] [s0, s1, s2, s3] M S = go r 105 291 [l0, l1] [aI 115, s0, s1, s2, s3] M S := go_nx rfl rfl
set_option maxRecDepth 20000 in
theorem g105_291 (r : Nat) (l0 l1 : Option AV) (s0 s1 : AV) (x y : Int) (a : Nat) (M : Mem) (S : Sh) (h : S.1 a = 7) (h6 : 6 ≤ a) (h0 : 0 ≤ x) (h1 : x < S.2.1 a) : go r 105 291 [l0, l1] [aI y, aI x, aR a, s0, s1] M S = go r 105 292 [l0, l1] [s0, s1] (mset M a x.toNat y) S := go_bnd rfl ⟨h, h6, h0, h1⟩ rfl
set_option maxRecDepth 20000 in
theorem g105_292 (r : Nat) (l0 l1 : Option AV) (s0 : AV) (a : Nat) (M : Mem) (S : Sh) : go r 105 292 [l0, l1] [aR a, s0] M S = go r 105 293 [l0, l1] [aR a, aR a, s0] M S := go_nx rfl rfl
set_option maxRecDepth 20000 in
theorem g105_293 (r : Nat) (l0 l1 : Option AV) (s0 s1 s2 : AV) (M : Mem) (S : Sh) : go r 105 293 [l0, l1] [s0, s1, s2] M S = go r 105 295 [l0, l1] [aI 22, s0, s1, s2] M S := go_nx rfl rfl
set_option maxRecDepth 20000 in
theorem g105_295 (r : Nat) (l0 l1 : Option AV) (s0 s1 s2 s3 : AV) (M : Mem) (S : Sh) : go r 105 295 [l0, l1] [s0, s1, s2, s3] M S = go r 105 297 [l0, l1] [aI 32, s0, s1, s2, s3] M S := go_nx rfl rfl
set_option maxRecDepth 20000 in
theorem g105_297 (r : Nat) (l0 l1 : Option AV) (s0 s1 : AV) (x y : Int) (a : Nat) (M : Mem) (S : Sh) (h : S.1 a = 7) (h6 : 6 ≤ a) (h0 : 0 ≤ x) (h1 : x < S.2.1 a) : go r 105 297 [l0, l1] [aI y, aI x, aR a, s0, s1] M S = go r 105 298 [l0, l1] [s0, s1] (mset M a x.toNat y) S := go_bnd rfl ⟨h, h6, h0, h1⟩ rfl
set_option maxRecDepth 20000 in
theorem g105_298 (r : Nat) (l0 l1 : Option AV) (s0 : AV) (a : Nat) (M : Mem) (S : Sh) : go r 105 298 [l0, l1] [aR a, s0] M S = go r 105 299 [l0, l1] [aR a, aR a, s0] M S := go_nx rfl rfl
set_option maxRecDepth 20000 in
theorem g105_299 (r : Nat) (l0 l1 : Option AV) (s0 s1 s2 : AV) (M : Mem) (S : Sh) : go r 105 299 [l0, l1] [s0, s1, s2] M S = go r 105 301 [l0, l1] [aI 23, s0, s1, s2] M S := go_nx rfl rfl
set_option maxRecDepth 20000 in
theorem g105_301 (r : Nat) (l0 l1 : Option AV) (s0 s1 s2 s3 : AV) (M : Mem) (S : Sh) : go r 105 301 [l0, l1] [s0, s1, s2, s3] M S = go r 105 303 [l0, l1] [aI 119, s0, s1, s2, s3] M S := go_nx rfl rfl
set_option maxRecDepth 20000 in
theorem g105_303 (r : Nat) (l0 l1 : Option AV) (s0 s1 : AV) (x y : Int) (a : Nat) (M : Mem) (S : Sh) (h : S.1 a = 7) (h6 : 6 ≤ a) (h0 : 0 ≤ x) (h1 : x < S.2.1 a) : go r 105 303 [l0, l1] [aI y, aI x, aR a, s0, s1] M S = go r 105 304 [l0, l1] [s0, s1] (mset M a x.toNat y) S := go_bnd rfl ⟨h, h6, h0, h1⟩ rfl
set_option maxRecDepth 20000 in
theorem g105_304 (r : Nat) (l0 l1 : Option AV) (s0 : AV) (a : Nat) (M : Mem) (S : Sh) : go r 105 304 [l0, l1] [aR a, s0] M S = go r 105 305 [l0, l1] [aR a, aR a, s0] M S := go_nx rfl rfl
set_option maxRecDepth 20000 in
theorem g105_305 (r : Nat) (l0 l1 : Option AV) (s0 s1 s2 : AV) (M : Mem) (S : Sh) : go r 105 305 [l0, l1] [s0, s1, s2] M S = go r 105 307 [l0, l1] [aI 24, s0, s1, s2] M S := go_nx rfl rfl
set_option maxRecDepth 20000 in
theorem g105_307 (r : Nat) (l0 l1 : Option AV) (s0 s1 s2 s3 : AV) (M : Mem) (S : Sh) : go r 105 307 [l0, l1] [s0, s1, s2, s3] M S = go r 105 309 [l0, l1] [aI 105, s0, s1, s2, s3] M S := go_nx rfl rfl
set_option maxRecDepth 20000 in
theorem g105_309 (r : Nat) (l0 l1 : Option AV) (s0 s1 : AV) (x y : Int) (a : Nat) (M : Mem) (S : Sh) (h : S.1 a = 7) (h6 : 6 ≤ a) (h0 : 0 ≤ x) (h1 : x < S.2.1 a) : go r 105 309 [l0, l1] [aI y, aI x, aR a, s0, s1] M S = go r 105 310 [l0, l1] [s0, s1] (mset M a x.toNat y) S := go_bnd rfl ⟨h, h6, h0, h1⟩ rfl
set_option maxRecDepth 20000 in
theorem g105_310 (r : Nat) (l0 l1 : Option AV) (s0 : AV) (a : Nat) (M : Mem) (S : Sh) : go r 105 310 [l0, l1] [aR a, s0] M S = go r 105 311 [l0, l1] [aR a, aR a, s0] M S := go_nx rfl rfl
set_option maxRecDepth 20000 in
theorem g105_311 (r : Nat) (l0 l1 : Option AV) (s0 s1 s2 : AV) (M : Mem) (S : Sh) : go r 105 311 [l0, l1] [s0, s1, s2] M S = go r 105 313 [l0, l1] [aI 25, s0, s1, s2] M S := go_nx rfl rfl
set_option maxRecDepth 20000 in
theorem g105_313 (r : Nat) (l0 l1 : Option AV) (s0 s1 s2 s3 : AV) (M : Mem) (S : Sh) : go r 105 313 [l0, l1] [s0, s1, s2, s3] M S = go r 105 315 [l0, l1] [aI 110, s0, s1, s2, s3] M S := go_nx rfl rfl
set_option maxRecDepth 20000 in
theorem g105_315 (r : Nat) (l0 l1 : Option AV) (s0 s1 : AV) (x y : Int) (a : Nat) (M : Mem) (S : Sh) (h : S.1 a = 7) (h6 : 6 ≤ a) (h0 : 0 ≤ x) (h1 : x < S.2.1 a) : go r 105 315 [l0, l1] [aI y, aI x, aR a, s0, s1] M S = go r 105 316 [l0, l1] [s0, s1] (mset M a x.toNat y) S := go_bnd rfl ⟨h, h6, h0, h1⟩ rfl
set_option maxRecDepth 20000 in
theorem g105_316 (r : Nat) (l0 l1 : Option AV) (s0 : AV) (a : Nat) (M : Mem) (S : Sh) : go r 105 316 [l0, l1] [aR a, s0] M S = go r 105 317 [l0, l1] [aR a, aR a, s0] M S := go_nx rfl rfl
set_option maxRecDepth 20000 in
theorem g105_317 (r : Nat) (l0 l1 : Option AV) (s0 s1 s2 : AV) (M : Mem) (S : Sh) : go r 105 317 [l0, l1] [s0, s1, s2] M S = go r 105 319 [l0, l1] [aI 26, s0, s1, s2] M S := go_nx rfl rfl
set_option maxRecDepth 20000 in
theorem g105_319 (r : Nat) (l0 l1 : Option AV) (s0 s1 s2 s3 : AV) (M : Mem) (S : Sh) : go r 105 319 [l0, l1] [s0, s1, s2, s3] M S = go r 105 321 [l0, l1] [aI 100, s0, s1, s2, s3] M S := go_nx rfl rfl
set_option maxRecDepth 20000 in
theorem g105_321 (r : Nat) (l0 l1 : Option AV) (s0 s1 : AV) (x y : Int) (a : Nat) (M : Mem) (S : Sh) (h : S.1 a = 7) (h6 : 6 ≤ a) (h0 : 0 ≤ x) (h1 : x < S.2.1 a) : go r 105 321 [l0, l1] [aI y, aI x, aR a, s0, s1] M S = go r 105 322 [l0, l1] [s0, s1] (mset M a x.toNat y) S := go_bnd rfl ⟨h, h6, h0, h1⟩ rfl
set_option maxRecDepth 20000 in
theorem g105_322 (r : Nat) (l0 l1 : Option AV) (s0 : AV) (a : Nat) (M : Mem) (S : Sh) : go r 105 322 [l0, l1] [aR a, s0] M S = go r 105 323 [l0, l1] [aR a, aR a, s0] M S := go_nx rfl rfl
set_option maxRecDepth 20000 in
theorem g105_323 (r : Nat) (l0 l1 : Option AV) (s0 s1 s2 : AV) (M : Mem) (S : Sh) : go r 105 323 [l0, l1] [s0, s1, s2] M S = go r 105 325 [l0, l1] [aI 27, s0, s1, s2] M S := go_nx rfl rfl
set_option maxRecDepth 20000 in
theorem g105_325 (r : Nat) (l0 l1 : Option AV) (s0 s1 s2 s3 : AV) (M : Mem) (S : Sh) : go r 105 325 [l0, l1] [s0, s1, s2, s3] M S = go r 105 327 [l0, l1] [aI 32, s0, s1, s2, s3] M S := go_nx rfl rfl
set_option maxRecDepth 20000 in
theorem g105_327 (r : Nat) (l0 l1 : Option AV) (s0 s1 : AV) (x y : Int) (a : Nat) (M : Mem) (S : Sh) (h : S.1 a = 7) (h6 : 6 ≤ a) (h0 : 0 ≤ x) (h1 : x < S.2.1 a) : go r 105 327 [l0, l1] [aI y, aI x, aR a, s0, s1] M S = go r 105 328 [l0, l1] [s0, s1] (mset M a x.toNat y) S := go_bnd rfl ⟨h, h6, h0, h1⟩ rfl
set_option maxRecDepth 20000 in
theorem g105_328 (r : Nat) (l0 l1 : Option AV) (s0 : AV) (a : Nat) (M : Mem) (S : Sh) : go r 105 328 [l0, l1] [aR a, s0] M S = go r 105 329 [l0, l1] [aR a, aR a, s0] M S := go_nx rfl rfl
set_option maxRecDepth 20000 in
theorem g105_329 (r : Nat) (l0 l1 : Option AV) (s0 s1 s2 : AV) (M : Mem) (S : Sh) : go r 105 329 [l0, l1] [s0, s1, s2] M S = go r 105 331 [l0, l1] [aI 28, s0, s1, s2] M S := go_nx rfl rfl
set_option maxRecDepth 20000 in
theorem g105_331 (r : Nat) (l0 l1 : Option AV) (s0 s1 s2 s3 : AV) (M : Mem) (S : Sh) : go r 105 331 [l0, l1] [s0, s1, s2, s3] M S = go r 105 333 [l0, l1] [aI 59, s0, s1, s2, s3] M S := go_nx rfl rfl
set_option maxRecDepth 20000 in
theorem g105_333 (r : Nat) (l0 l1 : Option AV) (s0 s1 : AV) (x y : Int) (a : Nat) (M : Mem) (S : Sh) (h : S.1 a = 7) (h6 : 6 ≤ a) (h0 : 0 ≤ x) (h1 : x < S.2.1 a) : go r 105 333 [l0, l1] [aI y, aI x, aR a, s0, s1] M S = go r 105 334 [l0, l1] [s0, s1] (mset M a x.toNat y) S := go_bnd rfl ⟨h, h6, h0, h1⟩ rfl
set_option maxRecDepth 20000 in
theorem g105_334 (r : Nat) (l0 l1 : Option AV) (s0 : AV) (a : Nat) (M : Mem) (S : Sh) : go r 105 334 [l0, l1] [aR a, s0] M S = go r 105 335 [l0, l1] [aR a, aR a, s0] M S := go_nx rfl rfl
set_option maxRecDepth 20000 in
theorem g105_335 (r : Nat) (l0 l1 : Option AV) (s0 s1 s2 : AV) (M : Mem) (S : Sh) : go r 105 335 [l0, l1] [s0, s1, s2] M S = go r 105 337 [l0, l1] [aI 29, s0, s1, s2] M S := go_nx rfl rfl
set_option maxRecDepth 20000 in
theorem g105_337 (r : Nat) (l0 l1 : Option AV) (s0 s1 s2 s3 : AV) (M : Mem) (S : Sh) : go r 105 337 [l0, l1] [s0, s1, s2, s3] M S = go r 105 339 [l0, l1] [aI 32, s0, s1, s2, s3] M S := go_nx rfl rfl
set_option maxRecDepth 20000 in
theorem g105_339 (r : Nat) (l0 l1 : Option AV) (s0 s1 : AV) (x y : Int) (a : Nat) (M : Mem) (S : Sh) (h : S.1 a = 7) (h6 : 6 ≤ a) (h0 : 0 ≤ x) (h1 : x < S.2.1 a) : go r 105 339 [l0, l1] [aI y, aI x, aR a, s0, s1] M S = go r 105 340 [l0, l1] [s0, s1] (mset M a x.toNat y) S := go_bnd rfl ⟨h, h6, h0, h1⟩ rfl
set_option maxRecDepth 20000 in
theorem g105_340 (r : Nat) (l0 l1 : Option AV) (s0 : AV) (a : Nat) (M : Mem) (S : Sh) : go r 105 340 [l0, l1] [aR a, s0] M S = go r 105 341 [l0, l1] [aR a, aR a, s0] M S := go_nx rfl rfl
set_option maxRecDepth 20000 in
theorem g105_341 (r : Nat) (l0 l1 : Option AV) (s0 s1 s2 : AV) (M : Mem) (S : Sh) : go r 105 341 [l0, l1] [s0, s1, s2] M S = go r 105 343 [l0, l1] [aI 30, s0, s1, s2] M S := go_nx rfl rfl
set_option maxRecDepth 20000 in
theorem g105_343 (r : Nat) (l0 l1 : Option AV) (s0 s1 s2 s3 : AV) (M : Mem) (S : Sh) : go r 105 343 [l0, l1] [s0, s1, s2, s3] M S = go r 105 345 [l0, l1] [aI 102, s0, s1, s2, s3] M S := go_nx rfl rfl
set_option maxRecDepth 20000 in
theorem g105_345 (r : Nat) (l0 l1 : Option AV) (s0 s1 : AV) (x y : Int) (a : Nat) (M : Mem) (S : Sh) (h : S.1 a = 7) (h6 : 6 ≤ a) (h0 : 0 ≤ x) (h1 : x < S.2.1 a) : go r 105 345 [l0, l1] [aI y, aI x, aR a, s0, s1] M S = go r 105 346 [l0, l1] [s0, s1] (mset M a x.toNat y) S := go_bnd rfl ⟨h, h6, h0, h1⟩ rfl
set_option maxRecDepth 20000 in
theorem g105_346 (r : Nat) (l0 l1 : Option AV) (s0 : AV) (a : Nat) (M : Mem) (S : Sh) : go r 105 346 [l0, l1] [aR a, s0] M S = go r 105 347 [l0, l1] [aR a, aR a, s0] M S := go_nx rfl rfl
set_option maxRecDepth 20000 in
theorem g105_347 (r : Nat) (l0 l1 : Option AV) (s0 s1 s2 : AV) (M : Mem) (S : Sh) : go r 105 347 [l0, l1] [s0, s1, s2] M S = go r 105 349 [l0, l1] [aI 31, s0, s1, s2] M S := go_nx rfl rfl
set_option maxRecDepth 20000 in
theorem g105_349 (r : Nat) (l0 l1 : Option AV) (s0 s1 s2 s3 : AV) (M : Mem) (S : Sh) : go r 105 349 [l0, l1] [s0, s1, s2, s3] M S = go r 105 351 [l0, l1] [aI 114, s0, s1, s2, s3] M S := go_nx rfl rfl
set_option maxRecDepth 20000 in
theorem g105_351 (r : Nat) (l0 l1 : Option AV) (s0 s1 : AV) (x y : Int) (a : Nat) (M : Mem) (S : Sh) (h : S.1 a = 7) (h6 : 6 ≤ a) (h0 : 0 ≤ x) (h1 : x < S.2.1 a) : go r 105 351 [l0, l1] [aI y, aI x, aR a, s0, s1] M S = go r 105 352 [l0, l1] [s0, s1] (mset M a x.toNat y) S := go_bnd rfl ⟨h, h6, h0, h1⟩ rfl
set_option maxRecDepth 20000 in
theorem g105_352 (r : Nat) (l0 l1 : Option AV) (s0 : AV) (a : Nat) (M : Mem) (S : Sh) : go r 105 352 [l0, l1] [aR a, s0] M S = go r 105 353 [l0, l1] [aR a, aR a, s0] M S := go_nx rfl rfl
set_option maxRecDepth 20000 in
theorem g105_353 (r : Nat) (l0 l1 : Option AV) (s0 s1 s2 : AV) (M : Mem) (S : Sh) : go r 105 353 [l0, l1] [s0, s1, s2] M S = go r 105 355 [l0, l1] [aI 32, s0, s1, s2] M S := go_nx rfl rfl
set_option maxRecDepth 20000 in
theorem g105_355 (r : Nat) (l0 l1 : Option AV) (s0 s1 s2 s3 : AV) (M : Mem) (S : Sh) : go r 105 355 [l0, l1] [s0, s1, s2, s3] M S = go r 105 357 [l0, l1] [aI 111, s0, s1, s2, s3] M S := go_nx rfl rfl
set_option maxRecDepth 20000 in
theorem g105_357 (r : Nat) (l0 l1 : Option AV) (s0 s1 : AV) (x y : Int) (a : Nat) (M : Mem) (S : Sh) (h : S.1 a = 7) (h6 : 6 ≤ a) (h0 : 0 ≤ x) (h1 : x < S.2.1 a) : go r 105 357 [l0, l1] [aI y, aI x, aR a, s0, s1] M S = go r 105 358 [l0, l1] [s0, s1] (mset M a x.toNat y) S := go_bnd rfl ⟨h, h6, h0, h1⟩ rfl
set_option maxRecDepth 20000 in
theorem g105_358 (r : Nat) (l0 l1 : Option AV) (s0 : AV) (a : Nat) (M : Mem) (S : Sh) : go r 105 358 [l0, l1] [aR a, s0] M S = go r 105 359 [l0, l1] [aR a, aR a, s0] M S := go_nx rfl rfl
set_option maxRecDepth 20000 in
theorem g105_359 (r : Nat) (l0 l1 : Option AV) (s0 s1 s2 : AV) (M : Mem) (S : Sh) : go r 105 359 [l0, l1] [s0, s1, s2] M S = go r 105 361 [l0, l1] [aI 33, s0, s1, s2] M S := go_nx rfl rfl
set_option maxRecDepth 20000 in
theorem g105_361 (r : Nat) (l0 l1 : Option AV) (s0 s1 s2 s3 : AV) (M : Mem) (S : Sh) : go r 105 361 [l0, l1] [s0, s1, s2, s3] M S = go r 105 363 [l0, l1] [aI 115, s0, s1, s2, s3] M S := go_nx rfl rfl
set_option maxRecDepth 20000 in
theorem g105_363 (r : Nat) (l0 l1 : Option AV) (s0 s1 : AV) (x y : Int) (a : Nat) (M : Mem) (S : Sh) (h : S.1 a = 7) (h6 : 6 ≤ a) (h0 : 0 ≤ x) (h1 : x < S.2.1 a) : go r 105 363 [l0, l1] [aI y, aI x, aR a, s0, s1] M S = go r 105 364 [l0, l1] [s0, s1] (mset M a x.toNat y) S := go_bnd rfl ⟨h, h6, h0, h1⟩ rfl
set_option maxRecDepth 20000 in
theorem g105_364 (r : Nat) (l0 l1 : Option AV) (s0 : AV) (a : Nat) (M : Mem) (S : Sh) : go r 105 364 [l0, l1] [aR a, s0] M S = go r 105 365 [l0, l1] [aR a, aR a, s0] M S := go_nx rfl rfl
set_option maxRecDepth 20000 in
theorem g105_365 (r : Nat) (l0 l1 : Option AV) (s0 s1 s2 : AV) (M : Mem) (S : Sh) : go r 105 365 [l0, l1] [s0, s1, s2] M S = go r 105 367 [l0, l1] [aI 34, s0, s1, s2] M S := go_nx rfl rfl
set_option maxRecDepth 20000 in
theorem g105_367 (r : Nat) (l0 l1 : Option AV) (s0 s1 s2 s3 : AV) (M : Mem) (S : Sh) : go r 105 367 [l0, l1] [s0, s1, s2, s3] M S = go r 105 369 [l0, l1] [aI 116, s0, s1, s2, s3] M S := go_nx rfl rfl
set_option maxRecDepth 20000 in
theorem g105_369 (r : Nat) (l0 l1 : Option AV) (s0 s1 : AV) (x y : Int) (a : Nat) (M : Mem) (S : Sh) (h : S.1 a = 7) (h6 : 6 ≤ a) (h0 : 0 ≤ x) (h1 : x < S.2.1 a) : go r 105 369 [l0, l1] [aI y, aI x, aR a, s0, s1] M S = go r 105 370 [l0, l1] [s0, s1] (mset M a x.toNat y) S := go_bnd rfl ⟨h, h6, h0, h1⟩ rfl
set_option maxRecDepth 20000 in
theorem g105_370 (r : Nat) (l0 l1 : Option AV) (s0 : AV) (a : Nat) (M : Mem) (S : Sh) : go r 105 370 [l0, l1] [aR a, s0] M S = go r 105 371 [l0, l1] [aR a, aR a, s0] M S := go_nx rfl rfl
set_option maxRecDepth 20000 in
theorem g105_371 (r : Nat) (l0 l1 : Option AV) (s0 s1 s2 : AV) (M : Mem) (S : Sh) : go r 105 371 [l0, l1] [s0, s1, s2] M S = go r 105 373 [l0, l1] [aI 35, s0, s1, s2] M S := go_nx rfl rfl
set_option maxRecDepth 20000 in
theorem g105_373 (r : Nat) (l0 l1 : Option AV) (s0 s1 s2 s3 : AV) (M : Mem) (S : Sh) : go r 105 373 [l0, l1] [s0, s1, s2, s3] M S = go r 105 375 [l0, l1] [aI 115, s0, s1, s2, s3] M S := go_nx rfl rfl
set_option maxRecDepth 20000 in
theorem g105_375 (r : Nat) (l0 l1 : Option AV) (s0 s1 : AV) (x y : Int) (a : Nat) (M : Mem) (S : Sh) (h : S.1 a = 7) (h6 : 6 ≤ a) (h0 : 0 ≤ x) (h1 : x < S.2.1 a) : go r 105 375 [l0, l1] [aI y, aI x, aR a, s0, s1] M S = go r 105 376 [l0, l1] [s0, s1] (mset M a x.toNat y) S := go_bnd rfl ⟨h, h6, h0, h1⟩ rfl
set_option maxRecDepth 20000 in
theorem g105_376 (r : Nat) (l0 l1 : Option AV) (s0 : AV) (a : Nat) (M : Mem) (S : Sh) : go r 105 376 [l0, l1] [aR a, s0] M S = go r 105 377 [l0, l1] [aR a, aR a, s0] M S := go_nx rfl rfl
set_option maxRecDepth 20000 in
theorem g105_377 (r : Nat) (l0 l1 : Option AV) (s0 s1 s2 : AV) (M : Mem) (S : Sh) : go r 105 377 [l0, l1] [s0, s1, s2] M S = go r 105 379 [l0, l1] [aI 36, s0, s1, s2] M S := go_nx rfl rfl
set_option maxRecDepth 20000 in
theorem g105_379 (r : Nat) (l0 l1 : Option AV) (s0 s1 s2 s3 : AV) (M : Mem) (S : Sh) : go r 105 379 [l0, l1] [s0, s1, s2, s3] M S = go r 105 381 [l0, l1] [aI 32, s0, s1, s2, s3] M S := go_nx rfl rfl
set_option maxRecDepth 20000 in
theorem g105_381 (r : Nat) (l0 l1 : Option AV) (s0 s1 : AV) (x y : Int) (a : Nat) (M : Mem) (S : Sh) (h : S.1 a = 7) (h6 : 6 ≤ a) (h0 : 0 ≤ x) (h1 : x < S.2.1 a) : go r 105 381 [l0, l1] [aI y, aI x, aR a, s0, s1] M S = go r 105 382 [l0, l1] [s0, s1] (mset M a x.toNat y) S := go_bnd rfl ⟨h, h6, h0, h1⟩ rfl
set_option maxRecDepth 20000 in
theorem g105_382 (r : Nat) (l0 l1 : Option AV) (s0 : AV) (a : Nat) (M : Mem) (S : Sh) : go r 105 382 [l0, l1] [aR a, s0] M S = go r 105 383 [l0, l1] [aR a, aR a, s0] M S := go_nx rfl rfl
set_option maxRecDepth 20000 in
theorem g105_383 (r : Nat) (l0 l1 : Option AV) (s0 s1 s2 : AV) (M : Mem) (S : Sh) : go r 105 383 [l0, l1] [s0, s1, s2] M S = go r 105 385 [l0, l1] [aI 37, s0, s1, s2] M S := go_nx rfl rfl
set_option maxRecDepth 20000 in
theorem g105_385 (r : Nat) (l0 l1 : Option AV) (s0 s1 s2 s3 : AV) (M : Mem) (S : Sh) : go r 105 385 [l0, l1] [s0, s1, s2, s3] M S = go r 105 387 [l0, l1] [aI 48, s0, s1, s2, s3] M S := go_nx rfl rfl
set_option maxRecDepth 20000 in
theorem g105_387 (r : Nat) (l0 l1 : Option AV) (s0 s1 : AV) (x y : Int) (a : Nat) (M : Mem) (S : Sh) (h : S.1 a = 7) (h6 : 6 ≤ a) (h0 : 0 ≤ x) (h1 : x < S.2.1 a) : go r 105 387 [l0, l1] [aI y, aI x, aR a, s0, s1] M S = go r 105 388 [l0, l1] [s0, s1] (mset M a x.toNat y) S := go_bnd rfl ⟨h, h6, h0, h1⟩ rfl
set_option maxRecDepth 20000 in
theorem g105_388 (r : Nat) (l0 l1 : Option AV) (s0 : AV) (a : Nat) (M : Mem) (S : Sh) : go r 105 388 [l0, l1] [aR a, s0] M S = go r 105 389 [l0, l1] [aR a, aR a, s0] M S := go_nx rfl rfl
set_option maxRecDepth 20000 in
theorem g105_389 (r : Nat) (l0 l1 : Option AV) (s0 s1 s2 : AV) (M : Mem) (S : Sh) : go r 105 389 [l0, l1] [s0, s1, s2] M S = go r 105 391 [l0, l1] [aI 38, s0, s1, s2] M S := go_nx rfl rfl
set_option maxRecDepth 20000 in
theorem g105_391 (r : Nat) (l0 l1 : Option AV) (s0 s1 s2 s3 : AV) (M : Mem) (S : Sh) : go r 105 391 [l0, l1] [s0, s1, s2, s3] M S = go r 105 393 [l0, l1] [aI 32, s0, s1, s2, s3] M S := go_nx rfl rfl
set_option maxRecDepth 20000 in
theorem g105_393 (r : Nat) (l0 l1 : Option AV) (s0 s1 : AV) (x y : Int) (a : Nat) (M : Mem) (S : Sh) (h : S.1 a = 7) (h6 : 6 ≤ a) (h0 : 0 ≤ x) (h1 : x < S.2.1 a) : go r 105 393 [l0, l1] [aI y, aI x, aR a, s0, s1] M S = go r 105 394 [l0, l1] [s0, s1] (mset M a x.toNat y) S := go_bnd rfl ⟨h, h6, h0, h1⟩ rfl
set_option maxRecDepth 20000 in
theorem g105_394 (r : Nat) (l0 l1 : Option AV) (s0 : AV) (a : Nat) (M : Mem) (S : Sh) : go r 105 394 [l0, l1] [aR a, s0] M S = go r 105 395 [l0, l1] [aR a, aR a, s0] M S := go_nx rfl rfl
set_option maxRecDepth 20000 in
theorem g105_395 (r : Nat) (l0 l1 : Option AV) (s0 s1 s2 : AV) (M : Mem) (S : Sh) : go r 105 395 [l0, l1] [s0, s1, s2] M S = go r 105 397 [l0, l1] [aI 39, s0, s1, s2] M S := go_nx rfl rfl
set_option maxRecDepth 20000 in
theorem g105_397 (r : Nat) (l0 l1 : Option AV) (s0 s1 s2 s3 : AV) (M : Mem) (S : Sh) : go r 105 397 [l0, l1] [s0, s1, s2, s3] M S = go r 105 399 [l0, l1] [aI 59, s0, s1, s2, s3] M S := go_nx rfl rfl
set_option maxRecDepth 20000 in
theorem g105_399 (r : Nat) (l0 l1 : Option AV) (s0 s1 : AV) (x y : Int) (a : Nat) (M : Mem) (S : Sh) (h : S.1 a = 7) (h6 : 6 ≤ a) (h0 : 0 ≤ x) (h1 : x < S.2.1 a) : go r 105 399 [l0, l1] [aI y, aI x, aR a, s0, s1] M S = go r 105 400 [l0, l1] [s0, s1] (mset M a x.toNat y) S := go_bnd rfl ⟨h, h6, h0, h1⟩ rfl
set_option maxRecDepth 20000 in
theorem g105_400 (r : Nat) (l0 l1 : Option AV) (a v : Nat) (M : Mem) (S : Sh) (h : S.1 a = 6) : go r 105 400 [l0, l1] [aR v, aR a] M S = go r 105 403 [l0, l1] [] M (S.1, S.2.1, pset S.2.2.1 a 25 (some v), S.2.2.2) := go_bnd rfl h rfl
set_option maxRecDepth 20000 in
theorem g105_403 (r : Nat) (l1 : Option AV) (a : Nat) (M : Mem) (S : Sh) : go r 105 403 [some (aR a), l1] [] M S = go r 105 404 [some (aR a), l1] [aR a] M S := go_nx rfl rfl
set_option maxRecDepth 20000 in
theorem g105_404 (r : Nat) (l0 l1 : Option AV) (s0 : AV) (M : Mem) (S : Sh) : go r 105 404 [l0, l1] [s0] M S = go r 105 406 [l0, l1] [aI 96, s0] M S := go_nx rfl rfl
set_option maxRecDepth 20000 in
theorem g105_406 (r : Nat) (l0 l1 : Option AV) (s0 : AV) (x : Int) (M : Mem) (S : Sh) (h : 0 ≤ x ∧ x ≤ 100000) : go r 105 406 [l0, l1] [aI x, s0] M S = go r 105 408 [l0, l1] [aR S.2.2.2.1, s0] (mrow M S.2.2.2.1 (fun _ => 0)) (fset S.1 S.2.2.2.1 7, fset S.2.1 S.2.2.2.1 x.toNat, S.2.2.1, S.2.2.2.1 + 1, S.2.2.2.2 + x.toNat) := go_bnd rfl h rfl
set_option maxRecDepth 20000 in
theorem g105_408 (r : Nat) (l0 l1 : Option AV) (s0 : AV) (a : Nat) (M : Mem) (S : Sh) : go r 105 408 [l0, l1] [aR a, s0] M S = go r 105 409 [l0, l1] [aR a, aR a, s0] M S := go_nx rfl rfl
set_option maxRecDepth 20000 in
theorem g105_409 (r : Nat) (l0 l1 : Option AV) (s0 s1 s2 : AV) (M : Mem) (S : Sh) : go r 105 409 [l0, l1] [s0, s1, s2] M S = go r 105 410 [l0, l1] [aI 0, s0, s1, s2] M S := go_nx rfl rfl
set_option maxRecDepth 20000 in
theorem g105_410 (r : Nat) (l0 l1 : Option AV) (s0 s1 s2 s3 : AV) (M : Mem) (S : Sh) : go r 105 410 [l0, l1] [s0, s1, s2, s3] M S = go r 105 412 [l0, l1] [aI 115, s0, s1, s2, s3] M S := go_nx rfl rfl
set_option maxRecDepth 20000 in
theorem g105_412 (r : Nat) (l0 l1 : Option AV) (s0 s1 : AV) (x y : Int) (a : Nat) (M : Mem) (S : Sh) (h : S.1 a = 7) (h6 : 6 ≤ a) (h0 : 0 ≤ x) (h1 : x < S.2.1 a) : go r 105 412 [l0, l1] [aI y, aI x, aR a, s0, s1] M S = go r 105 413 [l0, l1] [s0, s1] (mset M a x.toNat y) S := go_bnd rfl ⟨h, h6, h0, h1⟩ rfl
set_option maxRecDepth 20000 in
theorem g105_413 (r : Nat) (l0 l1 : Option AV) (s0 : AV) (a : Nat) (M : Mem) (S : Sh) : go r 105 413 [l0, l1] [aR a, s0] M S = go r 105 414 [l0, l1] [aR a, aR a, s0] M S := go_nx rfl rfl
set_option maxRecDepth 20000 in
theorem g105_414 (r : Nat) (l0 l1 : Option AV) (s0 s1 s2 : AV) (M : Mem) (S : Sh) : go r 105 414 [l0, l1] [s0, s1, s2] M S = go r 105 415 [l0, l1] [aI 1, s0, s1, s2] M S := go_nx rfl rfl
set_option maxRecDepth 20000 in
theorem g105_415 (r : Nat) (l0 l1 : Option AV) (s0 s1 s2 s3 : AV) (M : Mem) (S : Sh) : go r 105 415 [l0, l1] [s0, s1, s2, s3] M S = go r 105 417 [l0, l1] [aI 101, s0, s1, s2, s3] M S := go_nx rfl rfl
set_option maxRecDepth 20000 in
theorem g105_417 (r : Nat) (l0 l1 : Option AV) (s0 s1 : AV) (x y : Int) (a : Nat) (M : Mem) (S : Sh) (h : S.1 a = 7) (h6 : 6 ≤ a) (h0 : 0 ≤ x) (h1 : x < S.2.1 a) : go r 105 417 [l0, l1] [aI y, aI x, aR a, s0, s1] M S = go r 105 418 [l0, l1] [s0, s1] (mset M a x.toNat y) S := go_bnd rfl ⟨h, h6, h0, h1⟩ rfl
set_option maxRecDepth 20000 in
theorem g105_418 (r : Nat) (l0 l1 : Option AV) (s0 : AV) (a : Nat) (M : Mem) (S : Sh) : go r 105 418 [l0, l1] [aR a, s0] M S = go r 105 419 [l0, l1] [aR a, aR a, s0] M S := go_nx rfl rfl
set_option maxRecDepth 20000 in
theorem g105_419 (r : Nat) (l0 l1 : Option AV) (s0 s1 s2 : AV) (M : Mem) (S : Sh) : go r 105 419 [l0, l1] [s0, s1, s2] M S = go r 105 420 [l0, l1] [aI 2, s0, s1, s2] M S := go_nx rfl rfl
set_option maxRecDepth 20000 in
theorem g105_420 (r : Nat) (l0 l1 : Option AV) (s0 s1 s2 s3 : AV) (M : Mem) (S : Sh) : go r 105 420 [l0, l1] [s0, s1, s2, s3] M S = go r 105 422 [l0, l1] [aI 101, s0, s1, s2, s3] M S := go_nx rfl rfl
set_option maxRecDepth 20000 in
theorem g105_422 (r : Nat) (l0 l1 : Option AV) (s0 s1 : AV) (x y : Int) (a : Nat) (M : Mem) (S : Sh) (h : S.1 a = 7) (h6 : 6 ≤ a) (h0 : 0 ≤ x) (h1 : x < S.2.1 a) : go r 105 422 [l0, l1] [aI y, aI x, aR a, s0, s1] M S = go r 105 423 [l0, l1] [s0, s1] (mset M a x.toNat y) S := go_bnd rfl ⟨h, h6, h0, h1⟩ rfl
set_option maxRecDepth 20000 in
theorem g105_423 (r : Nat) (l0 l1 : Option AV) (s0 : AV) (a : Nat) (M : Mem) (S : Sh) : go r 105 423 [l0, l1] [aR a, s0] M S = go r 105 424 [l0, l1] [aR a, aR a, s0] M S := go_nx rfl rfl
set_option maxRecDepth 20000 in
theorem g105_424 (r : Nat) (l0 l1 : Option AV) (s0 s1 s2 : AV) (M : Mem) (S : Sh) : go r 105 424 [l0, l1] [s0, s1, s2] M S = go r 105 425 [l0, l1] [aI 3, s0, s1, s2] M S := go_nx rfl rfl
set_option maxRecDepth 20000 in
theorem g105_425 (r : Nat) (l0 l1 : Option AV) (s0 s1 s2 s3 : AV) (M : Mem) (S : Sh) : go r 105 425 [l0, l1] [s0, s1, s2, s3] M S = go r 105 427 [l0, l1] [aI 115, s0, s1, s2, s3] M S := go_nx rfl rfl
set_option maxRecDepth 20000 in
theorem g105_427 (r : Nat) (l0 l1 : Option AV) (s0 s1 : AV) (x y : Int) (a : Nat) (M : Mem) (S : Sh) (h : S.1 a = 7) (h6 : 6 ≤ a) (h0 : 0 ≤ x) (h1 : x < S.2.1 a) : go r 105 427 [l0, l1] [aI y, aI x, aR a, s0, s1] M S = go r 105 428 [l0, l1] [s0, s1] (mset M a x.toNat y) S := go_bnd rfl ⟨h, h6, h0, h1⟩ rfl
set_option maxRecDepth 20000 in
theorem g105_428 (r : Nat) (l0 l1 : Option AV) (s0 : AV) (a : Nat) (M : Mem) (S : Sh) : go r 105 428 [l0, l1] [aR a, s0] M S = go r 105 429 [l0, l1] [aR a, aR a, s0] M S := go_nx rfl rfl
set_option maxRecDepth 20000 in
theorem g105_429 (r : Nat) (l0 l1 : Option AV) (s0 s1 s2 : AV) (M : Mem) (S : Sh) : go r 105 429 [l0, l1] [s0, s1, s2] M S = go r 105 430 [l0, l1] [aI 4, s0, s1, s2] M S := go_nx rfl rfl
set_option maxRecDepth 20000 in
theorem g105_430 (r : Nat) (l0 l1 : Option AV) (s0 s1 s2 s3 : AV) (M : Mem) (S : Sh) : go r 105 430 [l0, l1] [s0, s1, s2, s3] M S = go r 105 432 [l0, l1] [aI 32, s0, s1, s2, s3] M S := go_nx rfl rfl
set_option maxRecDepth 20000 in
theorem g105_432 (r : Nat) (l0 l1 : Option AV) (s0 s1 : AV) (x y : Int) (a : Nat) (M : Mem) (S : Sh) (h : S.1 a = 7) (h6 : 6 ≤ a) (h0 : 0 ≤ x) (h1 : x < S.2.1 a) : go r 105 432 [l0, l1] [aI y, aI x, aR a, s0, s1] M S = go r 105 433 [l0, l1] [s0, s1] (mset M a x.toNat y) S := go_bnd rfl ⟨h, h6, h0, h1⟩ rfl
set_option maxRecDepth 20000 in
theorem g105_433 (r : Nat) (l0 l1 : Option AV) (s0 : AV) (a : Nat) (M : Mem) (S : Sh) : go r 105 433 [l0, l1] [aR a, s0] M S = go r 105 434 [l0, l1] [aR a, aR a, s0] M S := go_nx rfl rfl
set_option maxRecDepth 20000 in
theorem g105_434 (r : Nat) (l0 l1 : Option AV) (s0 s1 s2 : AV) (M : Mem) (S : Sh) : go r 105 434 [l0, l1] [s0, s1, s2] M S = go r 105 435 [l0, l1] [aI 5, s0, s1, s2] M S := go_nx rfl rfl
set_option maxRecDepth 20000 in
theorem g105_435 (r : Nat) (l0 l1 : Option AV) (s0 s1 s2 s3 : AV) (M : Mem) (S : Sh) : go r 105 435 [l0, l1] [s0, s1, s2, s3] M S = go r 105 437 [l0, l1] [aI 32, s0, s1, s2, s3] M S := go_nx rfl rfl
set_option maxRecDepth 20000 in
theorem g105_437 (r : Nat) (l0 l1 : Option AV) (s0 s1 : AV) (x y : Int) (a : Nat) (M : Mem) (S : Sh) (h : S.1 a = 7) (h6 : 6 ≤ a) (h0 : 0 ≤ x) (h1 : x < S.2.1 a) : go r 105 437 [l0, l1] [aI y, aI x, aR a, s0, s1] M S = go r 105 438 [l0, l1] [s0, s1] (mset M a x.toNat y) S := go_bnd rfl ⟨h, h6, h0, h1⟩ rfl
set_option maxRecDepth 20000 in
theorem g105_438 (r : Nat) (l0 l1 : Option AV) (s0 : AV) (a : Nat) (M : Mem) (S : Sh) : go r 105 438 [l0, l1] [aR a, s0] M S = go r 105 439 [l0, l1] [aR a, aR a, s0] M S := go_nx rfl rfl
set_option maxRecDepth 20000 in
theorem g105_439 (r : Nat) (l0 l1 : Option AV) (s0 s1 s2 : AV) (M : Mem) (S : Sh) : go r 105 439 [l0, l1] [s0, s1, s2] M S = go r 105 441 [l0, l1] [aI 6, s0, s1, s2] M S := go_nx rfl rfl
set_option maxRecDepth 20000 in
theorem g105_441 (r : Nat) (l0 l1 : Option AV) (s0 s1 s2 s3 : AV) (M : Mem) (S : Sh) : go r 105 441 [l0, l1] [s0, s1, s2, s3] M S = go r 105 443 [l0, l1] [aI 32, s0, s1, s2, s3] M S := go_nx rfl rfl
set_option maxRecDepth 20000 in
theorem g105_443 (r : Nat) (l0 l1 : Option AV) (s0 s1 : AV) (x y : Int) (a : Nat) (M : Mem) (S : Sh) (h : S.1 a = 7) (h6 : 6 ≤ a) (h0 : 0 ≤ x) (h1 : x < S.2.1 a) : go r 105 443 [l0, l1] [aI y, aI x, aR a, s0, s1] M S = go r 105 444 [l0, l1] [s0, s1] (mset M a x.toNat y) S := go_bnd rfl ⟨h, h6, h0, h1⟩ rfl
set_option maxRecDepth 20000 in
theorem g105_444 (r : Nat) (l0 l1 : Option AV) (s0 : AV) (a : Nat) (M : Mem) (S : Sh) : go r 105 444 [l0, l1] [aR a, s0] M S = go r 105 445 [l0, l1] [aR a, aR a, s0] M S := go_nx rfl rfl
set_option maxRecDepth 20000 in
theorem g105_445 (r : Nat) (l0 l1 : Option AV) (s0 s1 s2 : AV) (M : Mem) (S : Sh) : go r 105 445 [l0, l1] [s0, s1, s2] M S = go r 105 447 [l0, l1] [aI 7, s0, s1, s2] M S := go_nx rfl rfl
set_option maxRecDepth 20000 in
theorem g105_447 (r : Nat) (l0 l1 : Option AV) (s0 s1 s2 s3 : AV) (M : Mem) (S : Sh) : go r 105 447 [l0, l1] [s0, s1, s2, s3] M S = go r 105 449 [l0, l1] [aI 32, s0, s1, s2, s3] M S := go_nx rfl rfl
set_option maxRecDepth 20000 in
theorem g105_449 (r : Nat) (l0 l1 : Option AV) (s0 s1 : AV) (x y : Int) (a : Nat) (M : Mem) (S : Sh) (h : S.1 a = 7) (h6 : 6 ≤ a) (h0 : 0 ≤ x) (h1 : x < S.2.1 a) : go r 105 449 [l0, l1] [aI y, aI x, aR a, s0, s1] M S = go r 105 450 [l0, l1] [s0, s1] (mset M a x.toNat y) S := go_bnd rfl ⟨h, h6, h0, h1⟩ rfl
set_option maxRecDepth 20000 in
theorem g105_450 (r : Nat) (l0 l1 : Option AV) (s0 : AV) (a : Nat) (M : Mem) (S : Sh) : go r 105 450 [l0, l1] [aR a, s0] M S = go r 105 451 [l0, l1] [aR a, aR a, s0] M S := go_nx rfl rfl
set_option maxRecDepth 20000 in
theorem g105_451 (r : Nat) (l0 l1 : Option AV) (s0 s1 s2 : AV) (M : Mem) (S : Sh) : go r 105 451 [l0, l1] [s0, s1, s2] M S = go r 105 453 [l0, l1] [aI 8, s0, s1, s2] M S := go_nx rfl rfl
set_option maxRecDepth 20000 in
theorem g105_453 (r : Nat) (l0 l1 : Option AV) (s0 s1 s2 s3 : AV) (M : Mem) (S : Sh) : go r 105 453 [l0, l1] [s0, s1, s2, s3] M S = go r 105 455 [l0, l1] [aI 100, s0, s1, s2, s3] M S := go_nx rfl rfl
set_option maxRecDepth 20000 in
theorem g105_455 (r : Nat) (l0 l1 : Option AV) (s0 s1 : AV) (x y : Int) (a : Nat) (M : Mem) (S : Sh) (h : S.1 a = 7) (h6 : 6 ≤ a) (h0 : 0 ≤ x) (h1 : x < S.2.1 a) : go r 105 455 [l0, l1] [aI y, aI x, aR a, s0, s1] M S = go r 105 456 [l0, l1] [s0, s1] (mset M a x.toNat y) S := go_bnd rfl ⟨h, h6, h0, h1⟩ rfl
set_option maxRecDepth 20000 in
theorem g105_456 (r : Nat) (l0 l1 : Option AV) (s0 : AV) (a : Nat) (M : Mem) (S : Sh) : go r 105 456 [l0, l1] [aR a, s0] M S = go r 105 457 [l0, l1] [aR a, aR a, s0] M S := go_nx rfl rfl
set_option maxRecDepth 20000 in
theorem g105_457 (r : Nat) (l0 l1 : Option AV) (s0 s1 s2 : AV) (M : Mem) (S : Sh) : go r 105 457 [l0, l1] [s0, s1, s2] M S = go r 105 459 [l0, l1] [aI 9, s0, s1, s2] M S := go_nx rfl rfl
set_option maxRecDepth 20000 in
theorem g105_459 (r : Nat) (l0 l1 : Option AV) (s0 s1 s2 s3 : AV) (M : Mem) (S : Sh) : go r 105 459 [l0, l1] [s0, s1, s2, s3] M S = go r 105 461 [l0, l1] [aI 114, s0, s1, s2, s3] M S := go_nx rfl rfl
set_option maxRecDepth 20000 in
theorem g105_461 (r : Nat) (l0 l1 : Option AV) (s0 s1 : AV) (x y : Int) (a : Nat) (M : Mem) (S : Sh) (h : S.1 a = 7) (h6 : 6 ≤ a) (h0 : 0 ≤ x) (h1 : x < S.2.1 a) : go r 105 461 [l0, l1] [aI y, aI x, aR a, s0, s1] M S = go r 105 462 [l0, l1] [s0, s1] (mset M a x.toNat y) S := go_bnd rfl ⟨h, h6, h0, h1⟩ rfl
set_option maxRecDepth 20000 in
theorem g105_462 (r : Nat) (l0 l1 : Option AV) (s0 : AV) (a : Nat) (M : Mem) (S : Sh) : go r 105 462 [l0, l1] [aR a, s0] M S = go r 105 463 [l0, l1] [aR a, aR a, s0] M S := go_nx rfl rfl
set_option maxRecDepth 20000 in
theorem g105_463 (r : Nat) (l0 l1 : Option AV) (s0 s1 s2 : AV) (M : Mem) (S : Sh) : go r 105 463 [l0, l1] [s0, s1, s2] M S = go r 105 465 [l0, l1] [aI 10, s0, s1, s2] M S := go_nx rfl rfl
set_option maxRecDepth 20000 in
theorem g105_465 (r : Nat) (l0 l1 : Option AV) (s0 s1 s2 s3 : AV) (M : Mem) (S : Sh) : go r 105 465 [l0, l1] [s0, s1, s2, s3] M S = go r 105 467 [l0, l1] [aI 105, s0, s1, s2, s3] M S := go_nx rfl rfl
set_option maxRecDepth 20000 in
theorem g105_467 (r : Nat) (l0 l1 : Option AV) (s0 s1 : AV) (x y : Int) (a : Nat) (M : Mem) (S : Sh) (h : S.1 a = 7) (h6 : 6 ≤ a) (h0 : 0 ≤ x) (h1 : x < S.2.1 a) : go r 105 467 [l0, l1] [aI y, aI x, aR a, s0, s1] M S = go r 105 468 [l0, l1] [s0, s1] (mset M a x.toNat y) S := go_bnd rfl ⟨h, h6, h0, h1⟩ rfl
set_option maxRecDepth 20000 in
theorem g105_468 (r : Nat) (l0 l1 : Option AV) (s0 : AV) (a : Nat) (M : Mem) (S : Sh) : go r 105 468 [l0, l1] [aR a, s0] M S = go r 105 469 [l0, l1] [aR a, aR a, s0] M S := go_nx rfl rfl
set_option maxRecDepth 20000 in
theorem g105_469 (r : Nat) (l0 l1 : Option AV) (s0 s1 s2 : AV) (M : Mem) (S : Sh) : go r 105 469 [l0, l1] [s0, s1, s2] M S = go r 105 471 [l0, l1] [aI 11, s0, s1, s2] M S := go_nx rfl rfl
set_option maxRecDepth 20000 in
theorem g105_471 (r : Nat) (l0 l1 : Option AV) (s0 s1 s2 s3 : AV) (M : Mem) (S : Sh) : go r 105 471 [l0, l1] [s0, s1, s2, s3] M S = go r 105 473 [l0, l1] [aI 102, s0, s1, s2, s3] M S := go_nx rfl rfl
set_option maxRecDepth 20000 in
theorem g105_473 (r : Nat) (l0 l1 : Option AV) (s0 s1 : AV) (x y : Int) (a : Nat) (M : Mem) (S : Sh) (h : S.1 a = 7) (h6 : 6 ≤ a) (h0 : 0 ≤ x) (h1 : x < S.2.1 a) : go r 105 473 [l0, l1] [aI y, aI x, aR a, s0, s1] M S = go r 105 474 [l0, l1] [s0, s1] (mset M a x.toNat y) S := go_bnd rfl ⟨h, h6, h0, h1⟩ rfl
set_option maxRecDepth 20000 in
theorem g105_474 (r : Nat) (l0 l1 : Option AV) (s0 : AV) (a : Nat) (M : Mem) (S : Sh) : go r 105 474 [l0, l1] [aR a, s0] M S = go r 105 475 [l0, l1] [aR a, aR a, s0] M S := go_nx rfl rfl
set_option maxRecDepth 20000 in
theorem g105_475 (r : Nat) (l0 l1 : Option AV) (s0 s1 s2 : AV) (M : Mem) (S : Sh) : go r 105 475 [l0, l1] [s0, s1, s2] M S = go r 105 477 [l0, l1] [aI 12, s0, s1, s2] M S := go_nx rfl rfl
set_option maxRecDepth 20000 in
theorem g105_477 (r : Nat) (l0 l1 : Option AV) (s0 s1 s2 s3 : AV) (M : Mem) (S : Sh) : go r 105 477 [l0, l1] [s0, s1, s2, s3] M S = go r 105 479 [l0, l1] [aI 116, s0, s1, s2, s3] M S := go_nx rfl rfl
set_option maxRecDepth 20000 in
theorem g105_479 (r : Nat) (l0 l1 : Option AV) (s0 s1 : AV) (x y : Int) (a : Nat) (M : Mem) (S : Sh) (h : S.1 a = 7) (h6 : 6 ≤ a) (h0 : 0 ≤ x) (h1 : x < S.2.1 a) : go r 105 479 [l0, l1] [aI y, aI x, aR a, s0, s1] M S = go r 105 480 [l0, l1] [s0, s1] (mset M a x.toNat y) S := go_bnd rfl ⟨h, h6, h0, h1⟩ rfl
set_option maxRecDepth 20000 in
theorem g105_480 (r : Nat) (l0 l1 : Option AV) (s0 : AV) (a : Nat) (M : Mem) (S : Sh) : go r 105 480 [l0, l1] [aR a, s0] M S = go r 105 481 [l0, l1] [aR a, aR a, s0] M S := go_nx rfl rfl
set_option maxRecDepth 20000 in
theorem g105_481 (r : Nat) (l0 l1 : Option AV) (s0 s1 s2 : AV) (M : Mem) (S : Sh) : go r 105 481 [l0, l1] [s0, s1, s2] M S = go r 105 483 [l0, l1] [aI 13, s0, s1, s2] M S := go_nx rfl rfl
set_option maxRecDepth 20000 in
theorem g105_483 (r : Nat) (l0 l1 : Option AV) (s0 s1 s2 s3 : AV) (M : Mem) (S : Sh) : go r 105 483 [l0, l1] [s0, s1, s2, s3] M S = go r 105 485 [l0, l1] [aI 115, s0, s1, s2, s3] M S := go_nx rfl rfl
set_option maxRecDepth 20000 in
theorem g105_485 (r : Nat) (l0 l1 : Option AV) (s0 s1 : AV) (x y : Int) (a : Nat) (M : Mem) (S : Sh) (h : S.1 a = 7) (h6 : 6 ≤ a) (h0 : 0 ≤ x) (h1 : x < S.2.1 a) : go r 105 485 [l0, l1] [aI y, aI x, aR a, s0, s1] M S = go r 105 486 [l0, l1] [s0, s1] (mset M a x.toNat y) S := go_bnd rfl ⟨h, h6, h0, h1⟩ rfl
set_option maxRecDepth 20000 in
theorem g105_486 (r : Nat) (l0 l1 : Option AV) (s0 : AV) (a : Nat) (M : Mem) (S : Sh) : go r 105 486 [l0, l1] [aR a, s0] M S = go r 105 487 [l0, l1] [aR a, aR a, s0] M S := go_nx rfl rfl
set_option maxRecDepth 20000 in
theorem g105_487 (r : Nat) (l0 l1 : Option AV) (s0 s1 s2 : AV) (M : Mem) (S : Sh) : go r 105 487 [l0, l1] [s0, s1, s2] M S = go r 105 489 [l0, l1] [aI 14, s0, s1, s2] M S := go_nx rfl rfl
set_option maxRecDepth 20000 in
theorem g105_489 (r : Nat) (l0 l1 : Option AV) (s0 s1 s2 s3 : AV) (M : Mem) (S : Sh) : go r 105 489 [l0, l1] [s0, s1, s2, s3] M S = go r 105 491 [l0, l1] [aI 32, s0, s1, s2, s3] M S := go_nx rfl rfl
set_option maxRecDepth 20000 in
theorem g105_491 (r : Nat) (l0 l1 : Option AV) (s0 s1 : AV) (x y : Int) (a : Nat) (M : Mem) (S : Sh) (h : S.1 a = 7) (h6 : 6 ≤ a) (h0 : 0 ≤ x) (h1 : x < S.2.1 a) : go r 105 491 [l0, l1] [aI y, aI x, aR a, s0, s1] M S = go r 105 492 [l0, l1] [s0, s1] (mset M a x.toNat y) S := go_bnd rfl ⟨h, h6, h0, h1⟩ rfl
set_option maxRecDepth 20000 in
theorem g105_492 (r : Nat) (l0 l1 : Option AV) (s0 : AV) (a : Nat) (M : Mem) (S : Sh) : go r 105 492 [l0, l1] [aR a, s0] M S = go r 105 493 [l0, l1] [aR a, aR a, s0] M S := go_nx rfl rfl
set_option maxRecDepth 20000 in
theorem g105_493 (r : Nat) (l0 l1 : Option AV) (s0 s1 s2 : AV) (M : Mem) (S : Sh) : go r 105 493 [l0, l1] [s0, s1, s2] M S = go r 105 495 [l0, l1] [aI 15, s0, s1, s2] M S := go_nx rfl rfl
set_option maxRecDepth 20000 in
theorem g105_495 (r : Nat) (l0 l1 : Option AV) (s0 s1 s2 s3 : AV) (M : Mem) (S : Sh) : go r 105 495 [l0, l1] [s0, s1, s2, s3] M S = go r 105 497 [l0, l1] [aI 32, s0, s1, s2, s3] M S := go_nx rfl rfl
set_option maxRecDepth 20000 in
theorem g105_497 (r : Nat) (l0 l1 : Option AV) (s0 s1 : AV) (x y : Int) (a : Nat) (M : Mem) (S : Sh) (h : S.1 a = 7) (h6 : 6 ≤ a) (h0 : 0 ≤ x) (h1 : x < S.2.1 a) : go r 105 497 [l0, l1] [aI y, aI x, aR a, s0, s1] M S = go r 105 498 [l0, l1] [s0, s1] (mset M a x.toNat y) S := go_bnd rfl ⟨h, h6, h0, h1⟩ rfl
set_option maxRecDepth 20000 in
theorem g105_498 (r : Nat) (l0 l1 : Option AV) (s0 : AV) (a : Nat) (M : Mem) (S : Sh) : go r 105 498 [l0, l1] [aR a, s0] M S = go r 105 499 [l0, l1] [aR a, aR a, s0] M S := go_nx rfl rfl
set_option maxRecDepth 20000 in
theorem g105_499 (r : Nat) (l0 l1 : Option AV) (s0 s1 s2 : AV) (M : Mem) (S : Sh) : go r 105 499 [l0, l1] [s0, s1, s2] M S = go r 105 501 [l0, l1] [aI 16, s0, s1, s2] M S := go_nx rfl rfl
set_option maxRecDepth 20000 in
theorem g105_501 (r : Nat) (l0 l1 : Option AV) (s0 s1 s2 s3 : AV) (M : Mem) (S : Sh) : go r 105 501 [l0, l1] [s0, s1, s2, s3] M S = go r 105 503 [l0, l1] [aI 102, s0, s1, s2, s3] M S := go_nx rfl rfl
set_option maxRecDepth 20000 in
theorem g105_503 (r : Nat) (l0 l1 : Option AV) (s0 s1 : AV) (x y : Int) (a : Nat) (M : Mem) (S : Sh) (h : S.1 a = 7) (h6 : 6 ≤ a) (h0 : 0 ≤ x) (h1 : x < S.2.1 a) : go r 105 503 [l0, l1] [aI y, aI x, aR a, s0, s1] M S = go r 105 504 [l0, l1] [s0, s1] (mset M a x.toNat y) S := go_bnd rfl ⟨h, h6, h0, h1⟩ rfl
set_option maxRecDepth 20000 in
theorem g105_504 (r : Nat) (l0 l1 : Option AV) (s0 : AV) (a : Nat) (M : Mem) (S : Sh) : go r 105 504 [l0, l1] [aR a, s0] M S = go r 105 505 [l0, l1] [aR a, aR a, s0] M S := go_nx rfl rfl
set_option maxRecDepth 20000 in
theorem g105_505 (r : Nat) (l0 l1 : Option AV) (s0 s1 s2 : AV) (M : Mem) (S : Sh) : go r 105 505 [l0, l1] [s0, s1, s2] M S = go r 105 507 [l0, l1] [aI 17, s0, s1, s2] M S := go_nx rfl rfl
set_option maxRecDepth 20000 in
theorem g105_507 (r : Nat) (l0 l1 : Option AV) (s0 s1 s2 s3 : AV) (M : Mem) (S : Sh) : go r 105 507 [l0, l1] [s0, s1, s2, s3] M S = go r 105 509 [l0, l1] [aI 114, s0, s1, s2, s3] M S := go_nx rfl rfl
set_option maxRecDepth 20000 in
theorem g105_509 (r : Nat) (l0 l1 : Option AV) (s0 s1 : AV) (x y : Int) (a : Nat) (M : Mem) (S : Sh) (h : S.1 a = 7) (h6 : 6 ≤ a) (h0 : 0 ≤ x) (h1 : x < S.2.1 a) : go r 105 509 [l0, l1] [aI y, aI x, aR a, s0, s1] M S = go r 105 510 [l0, l1] [s0, s1] (mset M a x.toNat y) S := go_bnd rfl ⟨h, h6, h0, h1⟩ rfl
set_option maxRecDepth 20000 in
theorem g105_510 (r : Nat) (l0 l1 : Option AV) (s0 : AV) (a : Nat) (M : Mem) (S : Sh) : go r 105 510 [l0, l1] [aR a, s0] M S = go r 105 511 [l0, l1] [aR a, aR a, s0] M S := go_nx rfl rfl
set_option maxRecDepth 20000 in
theorem g105_511 (r : Nat) (l0 l1 : Option AV) (s0 s1 s2 : AV) (M : Mem) (S : Sh) : go r 105 511 [l0, l1] [s0, s1, s2] M S = go r 105 513 [l0, l1] [aI 18, s0, s1, s2] M S := go_nx rfl rfl
set_option maxRecDepth 20000 in
theorem g105_513 (r : Nat) (l0 l1 : Option AV) (s0 s1 s2 s3 : AV) (M : Mem) (S : Sh) : go r 105 513 [l0, l1] [s0, s1, s2, s3] M S = go r 105 515 [l0, l1] [aI 111, s0, s1, s2, s3] M S := go_nx rfl rfl
set_option maxRecDepth 20000 in
theorem g105_515 (r : Nat) (l0 l1 : Option AV) (s0 s1 : AV) (x y : Int) (a : Nat) (M : Mem) (S : Sh) (h : S.1 a = 7) (h6 : 6 ≤ a) (h0 : 0 ≤ x) (h1 : x < S.2.1 a) : go r 105 515 [l0, l1] [aI y, aI x, aR a, s0, s1] M S = go r 105 516 [l0, l1] [s0, s1] (mset M a x.toNat y) S := go_bnd rfl ⟨h, h6, h0, h1⟩ rfl
set_option maxRecDepth 20000 in
theorem g105_516 (r : Nat) (l0 l1 : Option AV) (s0 : AV) (a : Nat) (M : Mem) (S : Sh) : go r 105 516 [l0, l1] [aR a, s0] M S = go r 105 517 [l0, l1] [aR a, aR a, s0] M S := go_nx rfl rfl
set_option maxRecDepth 20000 in
theorem g105_517 (r : Nat) (l0 l1 : Option AV) (s0 s1 s2 : AV) (M : Mem) (S : Sh) : go r 105 517 [l0, l1] [s0, s1, s2] M S = go r 105 519 [l0, l1] [aI 19, s0, s1, s2] M S := go_nx rfl rfl
set_option maxRecDepth 20000 in
theorem g105_519 (r : Nat) (l0 l1 : Option AV) (s0 s1 s2 s3 : AV) (M : Mem) (S : Sh) : go r 105 519 [l0, l1] [s0, s1, s2, s3] M S = go r 105 521 [l0, l1] [aI 115, s0, s1, s2, s3] M S := go_nx rfl rfl
set_option maxRecDepth 20000 in
theorem g105_521 (r : Nat) (l0 l1 : Option AV) (s0 s1 : AV) (x y : Int) (a : Nat) (M : Mem) (S : Sh) (h : S.1 a = 7) (h6 : 6 ≤ a) (h0 : 0 ≤ x) (h1 : x < S.2.1 a) : go r 105 521 [l0, l1] [aI y, aI x, aR a, s0, s1] M S = go r 105 522 [l0, l1] [s0, s1] (mset M a x.toNat y) S := go_bnd rfl ⟨h, h6, h0, h1⟩ rfl
set_option maxRecDepth 20000 in
theorem g105_522 (r : Nat) (l0 l1 : Option AV) (s0 : AV) (a : Nat) (M : Mem) (S : Sh) : go r 105 522 [l0, l1] [aR a, s0] M S = go r 105 523 [l0, l1] [aR a, aR a, s0] M S := go_nx rfl rfl
set_option maxRecDepth 20000 in
theorem g105_523 (r : Nat) (l0 l1 : Option AV) (s0 s1 s2 : AV) (M : Mem) (S : Sh) : go r 105 523 [l0, l1] [s0, s1, s2] M S = go r 105 525 [l0, l1] [aI 20, s0, s1, s2] M S := go_nx rfl rfl
set_option maxRecDepth 20000 in
theorem g105_525 (r : Nat) (l0 l1 : Option AV) (s0 s1 s2 s3 : AV) (M : Mem) (S : Sh) : go r 105 525 [l0, l1] [s0, s1, s2, s3] M S = go r 105 527 [l0, l1] [aI 116, s0, s1, s2, s3] M S := go_nx rfl rfl
set_option maxRecDepth 20000 in
theorem g105_527 (r : Nat) (l0 l1 : Option AV) (s0 s1 : AV) (x y : Int) (a : Nat) (M : Mem) (S : Sh) (h : S.1 a = 7) (h6 : 6 ≤ a) (h0 : 0 ≤ x) (h1 : x < S.2.1 a) : go r 105 527 [l0, l1] [aI y, aI x, aR a, s0, s1] M S = go r 105 528 [l0, l1] [s0, s1] (mset M a x.toNat y) S := go_bnd rfl ⟨h, h6, h0, h1⟩ rfl
set_option maxRecDepth 20000 in
theorem g105_528 (r : Nat) (l0 l1 : Option AV) (s0 : AV) (a : Nat) (M : Mem) (S : Sh) : go r 105 528 [l0, l1] [aR a, s0] M S = go r 105 529 [l0, l1] [aR a, aR a, s0] M S := go_nx rfl rfl
set_option maxRecDepth 20000 in
theorem g105_529 (r : Nat) (l0 l1 : Option AV) (s0 s1 s2 : AV) (M : Mem) (S : Sh) : go r 105 529 [l0, l1] [s0, s1, s2] M S = go r 105 531 [l0, l1] [aI 21, s0, s1, s2] M S := go_nx rfl rfl
set_option maxRecDepth 20000 in
theorem g105_531 (r : Nat) (l0 l1 : Option AV) (s0 s1 s2 s3 : AV) (M : Mem) (S : Sh) : go r 105 531 [l0, l1] [s0, s1, s2, s3] M S = go r 105 533 [l0, l1] [aI 115, s0, s1, s2, s3] M S := go_nx rfl rfl
set_option maxRecDepth 20000 in
theorem g105_533 (r : Nat) (l0 l1 : Option AV) (s0 s1 : AV) (x y : Int) (a : Nat) (M : Mem) (S : Sh) (h : S.1 a = 7) (h6 : 6 ≤ a) (h0 : 0 ≤ x) (h1 : x < S.2.1 a) : go r 105 533 [l0, l1] [aI y, aI x, aR a, s0, s1] M S = go r 105 534 [l0, l1] [s0, s1] (mset M a x.toNat y) S := go_bnd rfl ⟨h, h6, h0, h1⟩ rfl
set_option maxRecDepth 20000 in
theorem g105_534 (r : Nat) (l0 l1 : Option AV) (s0 : AV) (a : Nat) (M : Mem) (S : Sh) : go r 105 534 [l0, l1] [aR a, s0] M S = go r 105 535 [l0, l1] [aR a, aR a, s0] M S := go_nx rfl rfl
set_option maxRecDepth 20000 in
theorem g105_535 (r : Nat) (l0 l1 : Option AV) (s0 s1 s2 : AV) (M : Mem) (S : Sh) : go r 105 535 [l0, l1] [s0, s1, s2] M S = go r 105 537 [l0, l1] [aI 22, s0, s1, s2] M S := go_nx rfl rfl
set_option maxRecDepth 20000 in
theorem g105_537 (r : Nat) (l0 l1 : Option AV) (s0 s1 s2 s3 : AV) (M : Mem) (S : Sh) : go r 105 537 [l0, l1] [s0, s1, s2, s3] M S = go r 105 539 [l0, l1] [aI 32, s0, s1, s2, s3] M S := go_nx rfl rfl
set_option maxRecDepth 20000 in
theorem g105_539 (r : Nat) (l0 l1 : Option AV) (s0 s1 : AV) (x y : Int) (a : Nat) (M : Mem) (S : Sh) (h : S.1 a = 7) (h6 : 6 ≤ a) (h0 : 0 ≤ x) (h1 : x < S.2.1 a) : go r 105 539 [l0, l1] [aI y, aI x, aR a, s0, s1] M S = go r 105 540 [l0, l1] [s0, s1] (mset M a x.toNat y) S := go_bnd rfl ⟨h, h6, h0, h1⟩ rfl
set_option maxRecDepth 20000 in
theorem g105_540 (r : Nat) (l0 l1 : Option AV) (s0 : AV) (a : Nat) (M : Mem) (S : Sh) : go r 105 540 [l0, l1] [aR a, s0] M S = go r 105 541 [l0, l1] [aR a, aR a, s0] M S := go_nx rfl rfl
set_option maxRecDepth 20000 in
theorem g105_541 (r : Nat) (l0 l1 : Option AV) (s0 s1 s2 : AV) (M : Mem) (S : Sh) : go r 105 541 [l0, l1] [s0, s1, s2] M S = go r 105 543 [l0, l1] [aI 23, s0, s1, s2] M S := go_nx rfl rfl
set_option maxRecDepth 20000 in
theorem g105_543 (r : Nat) (l0 l1 : Option AV) (s0 s1 s2 s3 : AV) (M : Mem) (S : Sh) : go r 105 543 [l0, l1] [s0, s1, s2, s3] M S = go r 105 545 [l0, l1] [aI 32, s0, s1, s2, s3] M S := go_nx rfl rfl
set_option maxRecDepth 20000 in
theorem g105_545 (r : Nat) (l0 l1 : Option AV) (s0 s1 : AV) (x y : Int) (a : Nat) (M : Mem) (S : Sh) (h : S.1 a = 7) (h6 : 6 ≤ a) (h0 : 0 ≤ x) (h1 : x < S.2.1 a) : go r 105 545 [l0, l1] [aI y, aI x, aR a, s0, s1] M S = go r 105 546 [l0, l1] [s0, s1] (mset M a x.toNat y) S := go_bnd rfl ⟨h, h6, h0, h1⟩ rfl
set_option maxRecDepth 20000 in
theorem g105_546 (r : Nat) (l0 l1 : Option AV) (s0 : AV) (a : Nat) (M : Mem) (S : Sh) : go r 105 546 [l0, l1] [aR a, s0] M S = go r 105 547 [l0, l1] [aR a, aR a, s0] M S := go_nx rfl rfl
set_option maxRecDepth 20000 in
theorem g105_547 (r : Nat) (l0 l1 : Option AV) (s0 s1 s2 : AV) (M : Mem) (S : Sh) : go r 105 547 [l0, l1] [s0, s1, s2] M S = go r 105 549 [l0, l1] [aI 24, s0, s1, s2] M S := go_nx rfl rfl
set_option maxRecDepth 20000 in
theorem g105_549 (r : Nat) (l0 l1 : Option AV) (s0 s1 s2 s3 : AV) (M : Mem) (S : Sh) : go r 105 549 [l0, l1] [s0, s1, s2, s3] M S = go r 105 551 [l0, l1] [aI 104, s0, s1, s2, s3] M S := go_nx rfl rfl
set_option maxRecDepth 20000 in
theorem g105_551 (r : Nat) (l0 l1 : Option AV) (s0 s1 : AV) (x y : Int) (a : Nat) (M : Mem) (S : Sh) (h : S.1 a = 7) (h6 : 6 ≤ a) (h0 : 0 ≤ x) (h1 : x < S.2.1 a) : go r 105 551 [l0, l1] [aI y, aI x, aR a, s0, s1] M S = go r 105 552 [l0, l1] [s0, s1] (mset M a x.toNat y) S := go_bnd rfl ⟨h, h6, h0, h1⟩ rfl
set_option maxRecDepth 20000 in
theorem g105_552 (r : Nat) (l0 l1 : Option AV) (s0 : AV) (a : Nat) (M : Mem) (S : Sh) : go r 105 552 [l0, l1] [aR a, s0] M S = go r 105 553 [l0, l1] [aR a, aR a, s0] M S := go_nx rfl rfl
set_option maxRecDepth 20000 in
theorem g105_553 (r : Nat) (l0 l1 : Option AV) (s0 s1 s2 : AV) (M : Mem) (S : Sh) : go r 105 553 [l0, l1] [s0, s1, s2] M S = go r 105 555 [l0, l1] [aI 25, s0, s1, s2] M S := go_nx rfl rfl
set_option maxRecDepth 20000 in
theorem g105_555 (r : Nat) (l0 l1 : Option AV) (s0 s1 s2 s3 : AV) (M : Mem) (S : Sh) : go r 105 555 [l0, l1] [s0, s1, s2, s3] M S = go r 105 557 [l0, l1] [aI 105, s0, s1, s2, s3] M S := go_nx rfl rfl
set_option maxRecDepth 20000 in
theorem g105_557 (r : Nat) (l0 l1 : Option AV) (s0 s1 : AV) (x y : Int) (a : Nat) (M : Mem) (S : Sh) (h : S.1 a = 7) (h6 : 6 ≤ a) (h0 : 0 ≤ x) (h1 : x < S.2.1 a) : go r 105 557 [l0, l1] [aI y, aI x, aR a, s0, s1] M S = go r 105 558 [l0, l1] [s0, s1] (mset M a x.toNat y) S := go_bnd rfl ⟨h, h6, h0, h1⟩ rfl
set_option maxRecDepth 20000 in
theorem g105_558 (r : Nat) (l0 l1 : Option AV) (s0 : AV) (a : Nat) (M : Mem) (S : Sh) : go r 105 558 [l0, l1] [aR a, s0] M S = go r 105 559 [l0, l1] [aR a, aR a, s0] M S := go_nx rfl rfl
set_option maxRecDepth 20000 in
theorem g105_559 (r : Nat) (l0 l1 : Option AV) (s0 s1 s2 : AV) (M : Mem) (S : Sh) : go r 105 559 [l0, l1] [s0, s1, s2] M S = go r 105 561 [l0, l1] [aI 26, s0, s1, s2] M S := go_nx rfl rfl
set_option maxRecDepth 20000 in
theorem g105_561 (r : Nat) (l0 l1 : Option AV) (s0 s1 s2 s3 : AV) (M : Mem) (S : Sh) : go r 105 561 [l0, l1] [s0, s1, s2, s3] M S = go r 105 563 [l0, l1] [aI 108, s0, s1, s2, s3] M S := go_nx rfl rfl
set_option maxRecDepth 20000 in
theorem g105_563 (r : Nat) (l0 l1 : Option AV) (s0 s1 : AV) (x y : Int) (a : Nat) (M : Mem) (S : Sh) (h : S.1 a = 7) (h6 : 6 ≤ a) (h0 : 0 ≤ x) (h1 : x < S.2.1 a) : go r 105 563 [l0, l1] [aI y, aI x, aR a, s0, s1] M S = go r 105 564 [l0, l1] [s0, s1] (mset M a x.toNat y) S := go_bnd rfl ⟨h, h6, h0, h1⟩ rfl
set_option maxRecDepth 20000 in
theorem g105_564 (r : Nat) (l0 l1 : Option AV) (s0 : AV) (a : Nat) (M : Mem) (S : Sh) : go r 105 564 [l0, l1] [aR a, s0] M S = go r 105 565 [l0, l1] [aR a, aR a, s0] M S := go_nx rfl rfl
set_option maxRecDepth 20000 in
theorem g105_565 (r : Nat) (l0 l1 : Option AV) (s0 s1 s2 : AV) (M : Mem) (S : Sh) : go r 105 565 [l0, l1] [s0, s1, s2] M S = go r 105 567 [l0, l1] [aI 27, s0, s1, s2] M S := go_nx rfl rfl
set_option maxRecDepth 20000 in
theorem g105_567 (r : Nat) (l0 l1 : Option AV) (s0 s1 s2 s3 : AV) (M : Mem) (S : Sh) : go r 105 567 [l0, l1] [s0, s1, s2, s3] M S = go r 105 569 [l0, l1] [aI 108, s0, s1, s2, s3] M S := go_nx rfl rfl
set_option maxRecDepth 20000 in
theorem g105_569 (r : Nat) (l0 l1 : Option AV) (s0 s1 : AV) (x y : Int) (a : Nat) (M : Mem) (S : Sh) (h : S.1 a = 7) (h6 : 6 ≤ a) (h0 : 0 ≤ x) (h1 : x < S.2.1 a) : go r 105 569 [l0, l1] [aI y, aI x, aR a, s0, s1] M S = go r 105 570 [l0, l1] [s0, s1] (mset M a x.toNat y) S := go_bnd rfl ⟨h, h6, h0, h1⟩ rfl
set_option maxRecDepth 20000 in
theorem g105_570 (r : Nat) (l0 l1 : Option AV) (s0 : AV) (a : Nat) (M : Mem) (S : Sh) : go r 105 570 [l0, l1] [aR a, s0] M S = go r 105 571 [l0, l1] [aR a, aR a, s0] M S := go_nx rfl rfl
set_option maxRecDepth 20000 in
theorem g105_571 (r : Nat) (l0 l1 : Option AV) (s0 s1 s2 : AV) (M : Mem) (S : Sh) : go r 105 571 [l0, l1] [s0, s1, s2] M S = go r 105 573 [l0, l1] [aI 28, s0, s1, s2] M S := go_nx rfl rfl
set_option maxRecDepth 20000 in
theorem g105_573 (r : Nat) (l0 l1 : Option AV) (s0 s1 s2 s3 : AV) (M : Mem) (S : Sh) : go r 105 573 [l0, l1] [s0, s1, s2, s3] M S = go r 105 575 [l0, l1] [aI 32, s0, s1, s2, s3] M S := go_nx rfl rfl
set_option maxRecDepth 20000 in
theorem g105_575 (r : Nat) (l0 l1 : Option AV) (s0 s1 : AV) (x y : Int) (a : Nat) (M : Mem) (S : Sh) (h : S.1 a = 7) (h6 : 6 ≤ a) (h0 : 0 ≤ x) (h1 : x < S.2.1 a) : go r 105 575 [l0, l1] [aI y, aI x, aR a, s0, s1] M S = go r 105 576 [l0, l1] [s0, s1] (mset M a x.toNat y) S := go_bnd rfl ⟨h, h6, h0, h1⟩ rfl
set_option maxRecDepth 20000 in
theorem g105_576 (r : Nat) (l0 l1 : Option AV) (s0 : AV) (a : Nat) (M : Mem) (S : Sh) : go r 105 576 [l0, l1] [aR a, s0] M S = go r 105 577 [l0, l1] [aR a, aR a, s0] M S := go_nx rfl rfl
set_option maxRecDepth 20000 in
theorem g105_577 (r : Nat) (l0 l1 : Option AV) (s0 s1 s2 : AV) (M : Mem) (S : Sh) : go r 105 577 [l0, l1] [s0, s1, s2] M S = go r 105 579 [l0, l1] [aI 29, s0, s1, s2] M S := go_nx rfl rfl
set_option maxRecDepth 20000 in
theorem g105_579 (r : Nat) (l0 l1 : Option AV) (s0 s1 s2 s3 : AV) (M : Mem) (S : Sh) : go r 105 579 [l0, l1] [s0, s1, s2, s3] M S = go r 105 581 [l0, l1] [aI 32, s0, s1, s2, s3] M S := go_nx rfl rfl
set_option maxRecDepth 20000 in
theorem g105_581 (r : Nat) (l0 l1 : Option AV) (s0 s1 : AV) (x y : Int) (a : Nat) (M : Mem) (S : Sh) (h : S.1 a = 7) (h6 : 6 ≤ a) (h0 : 0 ≤ x) (h1 : x < S.2.1 a) : go r 105 581 [l0, l1] [aI y, aI x, aR a, s0, s1] M S = go r 105 582 [l0, l1] [s0, s1] (mset M a x.toNat y) S := go_bnd rfl ⟨h, h6, h0, h1⟩ rfl
set_option maxRecDepth 20000 in
theorem g105_582 (r : Nat) (l0 l1 : Option AV) (s0 : AV) (a : Nat) (M : Mem) (S : Sh) : go r 105 582 [l0, l1] [aR a, s0] M S = go r 105 583 [l0, l1] [aR a, aR a, s0] M S := go_nx rfl rfl
set_option maxRecDepth 20000 in
theorem g105_583 (r : Nat) (l0 l1 : Option AV) (s0 s1 s2 : AV) (M : Mem) (S : Sh) : go r 105 583 [l0, l1] [s0, s1, s2] M S = go r 105 585 [l0, l1] [aI 30, s0, s1, s2] M S := go_nx rfl rfl
set_option maxRecDepth 20000 in
theorem g105_585 (r : Nat) (l0 l1 : Option AV) (s0 s1 s2 s3 : AV) (M : Mem) (S : Sh) : go r 105 585 [l0, l1] [s0, s1, s2, s3] M S = go r 105 587 [l0, l1] [aI 32, s0, s1, s2, s3] M S := go_nx rfl rfl
set_option maxRecDepth 20000 in
theorem g105_587 (r : Nat) (l0 l1 : Option AV) (s0 s1 : AV) (x y : Int) (a : Nat) (M : Mem) (S : Sh) (h : S.1 a = 7) (h6 : 6 ≤ a) (h0 : 0 ≤ x) (h1 : x < S.2.1 a) : go r 105 587 [l0, l1] [aI y, aI x, aR a, s0, s1] M S = go r 105 588 [l0, l1] [s0, s1] (mset M a x.toNat y) S := go_bnd rfl ⟨h, h6, h0, h1⟩ rfl
set_option maxRecDepth 20000 in
theorem g105_588 (r : Nat) (l0 l1 : Option AV) (s0 : AV) (a : Nat) (M : Mem) (S : Sh) : go r 105 588 [l0, l1] [aR a, s0] M S = go r 105 589 [l0, l1] [aR a, aR a, s0] M S := go_nx rfl rfl
set_option maxRecDepth 20000 in
theorem g105_589 (r : Nat) (l0 l1 : Option AV) (s0 s1 s2 : AV) (M : Mem) (S : Sh) : go r 105 589 [l0, l1] [s0, s1, s2] M S = go r 105 591 [l0, l1] [aI 31, s0, s1, s2] M S := go_nx rfl rfl
set_option maxRecDepth 20000 in
theorem g105_591 (r : Nat) (l0 l1 : Option AV) (s0 s1 s2 s3 : AV) (M : Mem) (S : Sh) : go r 105 591 [l0, l1] [s0, s1, s2, s3] M S = go r 105 593 [l0, l1] [aI 32, s0, s1, s2, s3] M S := go_nx rfl rfl
set_option maxRecDepth 20000 in
theorem g105_593 (r : Nat) (l0 l1 : Option AV) (s0 s1 : AV) (x y : Int) (a : Nat) (M : Mem) (S : Sh) (h : S.1 a = 7) (h6 : 6 ≤ a) (h0 : 0 ≤ x) (h1 : x < S.2.1 a) : go r 105 593 [l0, l1] [aI y, aI x, aR a, s0, s1] M S = go r 105 594 [l0, l1] [s0, s1] (mset M a x.toNat y) S := go_bnd rfl ⟨h, h6, h0, h1⟩ rfl
set_option maxRecDepth 20000 in
theorem g105_594 (r : Nat) (l0 l1 : Option AV) (s0 : AV) (a : Nat) (M : Mem) (S : Sh) : go r 105 594 [l0, l1] [aR a, s0] M S = go r 105 595 [l0, l1] [aR a, aR a, s0] M S := go_nx rfl rfl
set_option maxRecDepth 20000 in
theorem g105_595 (r : Nat) (l0 l1 : Option AV) (s0 s1 s2 : AV) (M : Mem) (S : Sh) : go r 105 595 [l0, l1] [s0, s1, s2] M S = go r 105 597 [l0, l1] [aI 32, s0, s1, s2] M S := go_nx rfl rfl
set_option maxRecDepth 20000 in
theorem g105_597 (r : Nat) (l0 l1 : Option AV) (s0 s1 s2 s3 : AV) (M : Mem) (S : Sh) : go r 105 597 [l0, l1] [s0, s1, s2, s3] M S = go r 105 599 [l0, l1] [aI 119, s0, s1, s2, s3] M S := go_nx rfl rfl
set_option maxRecDepth 20000 in
theorem g105_599 (r : Nat) (l0 l1 : Option AV) (s0 s1 : AV) (x y : Int) (a : Nat) (M : Mem) (S : Sh) (h : S.1 a = 7) (h6 : 6 ≤ a) (h0 : 0 ≤ x) (h1 : x < S.2.1 a) : go r 105 599 [l0, l1] [aI y, aI x, aR a, s0, s1] M S = go r 105 600 [l0, l1] [s0, s1] (mset M a x.toNat y) S := go_bnd rfl ⟨h, h6, h0, h1⟩ rfl
set_option maxRecDepth 20000 in
theorem g105_600 (r : Nat) (l0 l1 : Option AV) (s0 : AV) (a : Nat) (M : Mem) (S : Sh) : go r 105 600 [l0, l1] [aR a, s0] M S = go r 105 601 [l0, l1] [aR a, aR a, s0] M S := go_nx rfl rfl
set_option maxRecDepth 20000 in
theorem g105_601 (r : Nat) (l0 l1 : Option AV) (s0 s1 s2 : AV) (M : Mem) (S : Sh) : go r 105 601 [l0, l1] [s0, s1, s2] M S = go r 105 603 [l0, l1] [aI 33, s0, s1, s2] M S := go_nx rfl rfl
set_option maxRecDepth 20000 in
theorem g105_603 (r : Nat) (l0 l1 : Option AV) (s0 s1 s2 s3 : AV) (M : Mem) (S : Sh) : go r 105 603 [l0, l1] [s0, s1, s2, s3] M S = go r 105 605 [l0, l1] [aI 105, s0, s1, s2, s3] M S := go_nx rfl rfl
set_option maxRecDepth 20000 in
theorem g105_605 (r : Nat) (l0 l1 : Option AV) (s0 s1 : AV) (x y : Int) (a : Nat) (M : Mem) (S : Sh) (h : S.1 a = 7) (h6 : 6 ≤ a) (h0 : 0 ≤ x) (h1 : x < S.2.1 a) : go r 105 605 [l0, l1] [aI y, aI x, aR a, s0, s1] M S = go r 105 606 [l0, l1] [s0, s1] (mset M a x.toNat y) S := go_bnd rfl ⟨h, h6, h0, h1⟩ rfl
set_option maxRecDepth 20000 in
theorem g105_606 (r : Nat) (l0 l1 : Option AV) (s0 : AV) (a : Nat) (M : Mem) (S : Sh) : go r 105 606 [l0, l1] [aR a, s0] M S = go r 105 607 [l0, l1] [aR a, aR a, s0] M S := go_nx rfl rfl
set_option maxRecDepth 20000 in
theorem g105_607 (r : Nat) (l0 l1 : Option AV) (s0 s1 s2 : AV) (M : Mem) (S : Sh) : go r 105 607 [l0, l1] [s0, s1, s2] M S = go r 105 609 [l0, l1] [aI 34, s0, s1, s2] M S := go_nx rfl rfl
set_option maxRecDepth 20000 in
theorem g105_609 (r : Nat) (l0 l1 : Option AV) (s0 s1 s2 s3 : AV) (M : Mem) (S : Sh) : go r 105 609 [l0, l1] [s0, s1, s2, s3] M S = go r 105 611 [l0, l1] [aI 110, s0, s1, s2, s3] M S := go_nx rfl rfl
set_option maxRecDepth 20000 in
theorem g105_611 (r : Nat) (l0 l1 : Option AV) (s0 s1 : AV) (x y : Int) (a : Nat) (M : Mem) (S : Sh) (h : S.1 a = 7) (h6 : 6 ≤ a) (h0 : 0 ≤ x) (h1 : x < S.2.1 a) : go r 105 611 [l0, l1] [aI y, aI x, aR a, s0, s1] M S = go r 105 612 [l0, l1] [s0, s1] (mset M a x.toNat y) S := go_bnd rfl ⟨h, h6, h0, h1⟩ rfl
set_option maxRecDepth 20000 in
theorem g105_612 (r : Nat) (l0 l1 : Option AV) (s0 : AV) (a : Nat) (M : Mem) (S : Sh) : go r 105 612 [l0, l1] [aR a, s0] M S = go r 105 613 [l0, l1] [aR a, aR a, s0] M S := go_nx rfl rfl
set_option maxRecDepth 20000 in
theorem g105_613 (r : Nat) (l0 l1 : Option AV) (s0 s1 s2 : AV) (M : Mem) (S : Sh) : go r 105 613 [l0, l1] [s0, s1, s2] M S = go r 105 615 [l0, l1] [aI 35, s0, s1, s2] M S := go_nx rfl rfl
set_option maxRecDepth 20000 in
theorem g105_615 (r : Nat) (l0 l1 : Option AV) (s0 s1 s2 s3 : AV) (M : Mem) (S : Sh) : go r 105 615 [l0, l1] [s0, s1, s2, s3] M S = go r 105 617 [l0, l1] [aI 100, s0, s1, s2, s3] M S := go_nx rfl rfl
set_option maxRecDepth 20000 in
theorem g105_617 (r : Nat) (l0 l1 : Option AV) (s0 s1 : AV) (x y : Int) (a : Nat) (M : Mem) (S : Sh) (h : S.1 a = 7) (h6 : 6 ≤ a) (h0 : 0 ≤ x) (h1 : x < S.2.1 a) : go r 105 617 [l0, l1] [aI y, aI x, aR a, s0, s1] M S = go r 105 618 [l0, l1] [s0, s1] (mset M a x.toNat y) S := go_bnd rfl ⟨h, h6, h0, h1⟩ rfl
set_option maxRecDepth 20000 in
theorem g105_618 (r : Nat) (l0 l1 : Option AV) (s0 : AV) (a : Nat) (M : Mem) (S : Sh) : go r 105 618 [l0, l1] [aR a, s0] M S = go r 105 619 [l0, l1] [aR a, aR a, s0] M S := go_nx rfl rfl
set_option maxRecDepth 20000 in
theorem g105_619 (r : Nat) (l0 l1 : Option AV) (s0 s1 s2 : AV) (M : Mem) (S : Sh) : go r 105 619 [l0, l1] [s0, s1, s2] M S = go r 105 621 [l0, l1] [aI 36, s0, s1, s2] M S := go_nx rfl rfl
set_option maxRecDepth 20000 in
theorem g105_621 (r : Nat) (l0 l1 : Option AV) (s0 s1 s2 s3 : AV) (M : Mem) (S : Sh) : go r 105 621 [l0, l1] [s0, s1, s2, s3] M S = go r 105 623 [l0, l1] [aI 32, s0, s1, s2, s3] M S := go_nx rfl rfl
set_option maxRecDepth 20000 in
theorem g105_623 (r : Nat) (l0 l1 : Option AV) (s0 s1 : AV) (x y : Int) (a : Nat) (M : Mem) (S : Sh) (h : S.1 a = 7) (h6 : 6 ≤ a) (h0 : 0 ≤ x) (h1 : x < S.2.1 a) : go r 105 623 [l0, l1] [aI y, aI x, aR a, s0, s1] M S = go r 105 624 [l0, l1] [s0, s1] (mset M a x.toNat y) S := go_bnd rfl ⟨h, h6, h0, h1⟩ rfl
set_option maxRecDepth 20000 in
theorem g105_624 (r : Nat) (l0 l1 : Option AV) (s0 : AV) (a : Nat) (M : Mem) (S : Sh) : go r 105 624 [l0, l1] [aR a, s0] M S = go r 105 625 [l0, l1] [aR a, aR a, s0] M S := go_nx rfl rfl
set_option maxRecDepth 20000 in
theorem g105_625 (r : Nat) (l0 l1 : Option AV) (s0 s1 s2 : AV) (M : Mem) (S : Sh) : go r 105 625 [l0, l1] [s0, s1, s2] M S = go r 105 627 [l0, l1] [aI 37, s0, s1, s2] M S := go_nx rfl rfl
set_option maxRecDepth 20000 in
theorem g105_627 (r : Nat) (l0 l1 : Option AV) (s0 s1 s2 s3 : AV) (M : Mem) (S : Sh) : go r 105 627 [l0, l1] [s0, s1, s2, s3] M S = go r 105 629 [l0, l1] [aI 32, s0, s1, s2, s3] M S := go_nx rfl rfl
set_option maxRecDepth 20000 in
theorem g105_629 (r : Nat) (l0 l1 : Option AV) (s0 s1 : AV) (x y : Int) (a : Nat) (M : Mem) (S : Sh) (h : S.1 a = 7) (h6 : 6 ≤ a) (h0 : 0 ≤ x) (h1 : x < S.2.1 a) : go r 105 629 [l0, l1] [aI y, aI x, aR a, s0, s1] M S = go r 105 630 [l0, l1] [s0, s1] (mset M a x.toNat y) S := go_bnd rfl ⟨h, h6, h0, h1⟩ rfl
set_option maxRecDepth 20000 in
theorem g105_630 (r : Nat) (l0 l1 : Option AV) (s0 : AV) (a : Nat) (M : Mem) (S : Sh) : go r 105 630 [l0, l1] [aR a, s0] M S = go r 105 631 [l0, l1] [aR a, aR a, s0] M S := go_nx rfl rfl
set_option maxRecDepth 20000 in
theorem g105_631 (r : Nat) (l0 l1 : Option AV) (s0 s1 s2 : AV) (M : Mem) (S : Sh) : go r 105 631 [l0, l1] [s0, s1, s2] M S = go r 105 633 [l0, l1] [aI 38, s0, s1, s2] M S := go_nx rfl rfl
set_option maxRecDepth 20000 in
theorem g105_633 (r : Nat) (l0 l1 : Option AV) (s0 s1 s2 s3 : AV) (M : Mem) (S : Sh) : go r 105 633 [l0, l1] [s0, s1, s2, s3] M S = go r 105 635 [l0, l1] [aI 32, s0, s1, s2, s3] M S := go_nx rfl rfl
set_option maxRecDepth 20000 in
theorem g105_635 (r : Nat) (l0 l1 : Option AV) (s0 s1 : AV) (x y : Int) (a : Nat) (M : Mem) (S : Sh) (h : S.1 a = 7) (h6 : 6 ≤ a) (h0 : 0 ≤ x) (h1 : x < S.2.1 a) : go r 105 635 [l0, l1] [aI y, aI x, aR a, s0, s1] M S = go r 105 636 [l0, l1] [s0, s1] (mset M a x.toNat y) S := go_bnd rfl ⟨h, h6, h0, h1⟩ rfl
set_option maxRecDepth 20000 in
theorem g105_636 (r : Nat) (l0 l1 : Option AV) (s0 : AV) (a : Nat) (M : Mem) (S : Sh) : go r 105 636 [l0, l1] [aR a, s0] M S = go r 105 637 [l0, l1] [aR a, aR a, s0] M S := go_nx rfl rfl
set_option maxRecDepth 20000 in
theorem g105_637 (r : Nat) (l0 l1 : Option AV) (s0 s1 s2 : AV) (M : Mem) (S : Sh) : go r 105 637 [l0, l1] [s0, s1, s2] M S = go r 105 639 [l0, l1] [aI 39, s0, s1, s2] M S := go_nx rfl rfl
set_option maxRecDepth 20000 in
theorem g105_639 (r : Nat) (l0 l1 : Option AV) (s0 s1 s2 s3 : AV) (M : Mem) (S : Sh) : go r 105 639 [l0, l1] [s0, s1, s2, s3] M S = go r 105 641 [l0, l1] [aI 32, s0, s1, s2, s3] M S := go_nx rfl rfl
set_option maxRecDepth 20000 in
theorem g105_641 (r : Nat) (l0 l1 : Option AV) (s0 s1 : AV) (x y : Int) (a : Nat) (M : Mem) (S : Sh) (h : S.1 a = 7) (h6 : 6 ≤ a) (h0 : 0 ≤ x) (h1 : x < S.2.1 a) : go r 105 641 [l0, l1] [aI y, aI x, aR a, s0, s1] M S = go r 105 642 [l0, l1] [s0, s1] (mset M a x.toNat y) S := go_bnd rfl ⟨h, h6, h0, h1⟩ rfl
set_option maxRecDepth 20000 in
theorem g105_642 (r : Nat) (l0 l1 : Option AV) (s0 : AV) (a : Nat) (M : Mem) (S : Sh) : go r 105 642 [l0, l1] [aR a, s0] M S = go r 105 643 [l0, l1] [aR a, aR a, s0] M S := go_nx rfl rfl
set_option maxRecDepth 20000 in
theorem g105_643 (r : Nat) (l0 l1 : Option AV) (s0 s1 s2 : AV) (M : Mem) (S : Sh) : go r 105 643 [l0, l1] [s0, s1, s2] M S = go r 105 645 [l0, l1] [aI 40, s0, s1, s2] M S := go_nx rfl rfl
set_option maxRecDepth 20000 in
theorem g105_645 (r : Nat) (l0 l1 : Option AV) (s0 s1 s2 s3 : AV) (M : Mem) (S : Sh) : go r 105 645 [l0, l1] [s0, s1, s2, s3] M S = go r 105 647 [l0, l1] [aI 109, s0, s1, s2, s3] M S := go_nx rfl rfl
set_option maxRecDepth 20000 in
theorem g105_647 (r : Nat) (l0 l1 : Option AV) (s0 s1 : AV) (x y : Int) (a : Nat) (M : Mem) (S : Sh) (h : S.1 a = 7) (h6 : 6 ≤ a) (h0 : 0 ≤ x) (h1 : x < S.2.1 a) : go r 105 647 [l0, l1] [aI y, aI x, aR a, s0, s1] M S = go r 105 648 [l0, l1] [s0, s1] (mset M a x.toNat y) S := go_bnd rfl ⟨h, h6, h0, h1⟩ rfl
set_option maxRecDepth 20000 in
theorem g105_648 (r : Nat) (l0 l1 : Option AV) (s0 : AV) (a : Nat) (M : Mem) (S : Sh) : go r 105 648 [l0, l1] [aR a, s0] M S = go r 105 649 [l0, l1] [aR a, aR a, s0] M S := go_nx rfl rfl
set_option maxRecDepth 20000 in
theorem g105_649 (r : Nat) (l0 l1 : Option AV) (s0 s1 s2 : AV) (M : Mem) (S : Sh) : go r 105 649 [l0, l1] [s0, s1, s2] M S = go r 105 651 [l0, l1] [aI 41, s0, s1, s2] M S := go_nx rfl rfl
set_option maxRecDepth 20000 in
theorem g105_651 (r : Nat) (l0 l1 : Option AV) (s0 s1 s2 s3 : AV) (M : Mem) (S : Sh) : go r 105 651 [l0, l1] [s0, s1, s2, s3] M S = go r 105 653 [l0, l1] [aI 111, s0, s1, s2, s3] M S := go_nx rfl rfl
set_option maxRecDepth 20000 in
theorem g105_653 (r : Nat) (l0 l1 : Option AV) (s0 s1 : AV) (x y : Int) (a : Nat) (M : Mem) (S : Sh) (h : S.1 a = 7) (h6 : 6 ≤ a) (h0 : 0 ≤ x) (h1 : x < S.2.1 a) : go r 105 653 [l0, l1] [aI y, aI x, aR a, s0, s1] M S = go r 105 654 [l0, l1] [s0, s1] (mset M a x.toNat y) S := go_bnd rfl ⟨h, h6, h0, h1⟩ rfl
set_option maxRecDepth 20000 in
theorem g105_654 (r : Nat) (l0 l1 : Option AV) (s0 : AV) (a : Nat) (M : Mem) (S : Sh) : go r 105 654 [l0, l1] [aR a, s0] M S = go r 105 655 [l0, l1] [aR a, aR a, s0] M S := go_nx rfl rfl
set_option maxRecDepth 20000 in
theorem g105_655 (r : Nat) (l0 l1 : Option AV) (s0 s1 s2 : AV) (M : Mem) (S : Sh) : go r 105 655 [l0, l1] [s0, s1, s2] M S = go r 105 657 [l0, l1] [aI 42, s0, s1, s2] M S := go_nx rfl rfl
set_option maxRecDepth 20000 in
theorem g105_657 (r : Nat) (l0 l1 : Option AV) (s0 s1 s2 s3 : AV) (M : Mem) (S : Sh) : go r 105 657 [l0, l1] [s0, s1, s2, s3] M S = go r 105 659 [l0, l1] [aI 114, s0, s1, s2, s3] M S := go_nx rfl rfl
set_option maxRecDepth 20000 in
theorem g105_659 (r : Nat) (l0 l1 : Option AV) (s0 s1 : AV) (x y : Int) (a : Nat) (M : Mem) (S : Sh) (h : S.1 a = 7) (h6 : 6 ≤ a) (h0 : 0 ≤ x) (h1 : x < S.2.1 a) : go r 105 659 [l0, l1] [aI y, aI x, aR a, s0, s1] M S = go r 105 660 [l0, l1] [s0, s1] (mset M a x.toNat y) S := go_bnd rfl ⟨h, h6, h0, h1⟩ rfl
set_option maxRecDepth 20000 in
theorem g105_660 (r : Nat) (l0 l1 : Option AV) (s0 : AV) (a : Nat) (M : Mem) (S : Sh) : go r 105 660 [l0, l1] [aR a, s0] M S = go r 105 661 [l0, l1] [aR a, aR a, s0] M S := go_nx rfl rfl
set_option maxRecDepth 20000 in
theorem g105_661 (r : Nat) (l0 l1 : Option AV) (s0 s1 s2 : AV) (M : Mem) (S : Sh) : go r 105 661 [l0, l1] [s0, s1, s2] M S = go r 105 663 [l0, l1] [aI 43, s0, s1, s2] M S := go_nx rfl rfl
set_option maxRecDepth 20000 in
theorem g105_663 (r : Nat) (l0 l1 : Option AV) (s0 s1 s2 s3 : AV) (M : Mem) (S : Sh) : go r 105 663 [l0, l1] [s0, s1, s2, s3] M S = go r 105 665 [l0, l1] [aI 101, s0, s1, s2, s3] M S := go_nx rfl rfl
set_option maxRecDepth 20000 in
theorem g105_665 (r : Nat) (l0 l1 : Option AV) (s0 s1 : AV) (x y : Int) (a : Nat) (M : Mem) (S : Sh) (h : S.1 a = 7) (h6 : 6 ≤ a) (h0 : 0 ≤ x) (h1 : x < S.2.1 a) : go r 105 665 [l0, l1] [aI y, aI x, aR a, s0, s1] M S = go r 105 666 [l0, l1] [s0, s1] (mset M a x.toNat y) S := go_bnd rfl ⟨h, h6, h0, h1⟩ rfl
set_option maxRecDepth 20000 in
theorem g105_666 (r : Nat) (l0 l1 : Option AV) (s0 : AV) (a : Nat) (M : Mem) (S : Sh) : go r 105 666 [l0, l1] [aR a, s0] M S = go r 105 667 [l0, l1] [aR a, aR a, s0] M S := go_nx rfl rfl
set_option maxRecDepth 20000 in
theorem g105_667 (r : Nat) (l0 l1 : Option AV) (s0 s1 s2 : AV) (M : Mem) (S : Sh) : go r 105 667 [l0, l1] [s0, s1, s2] M S = go r 105 669 [l0, l1] [aI 44, s0, s1, s2] M S := go_nx rfl rfl
set_option maxRecDepth 20000 in
theorem g105_669 (r : Nat) (l0 l1 : Option AV) (s0 s1 s2 s3 : AV) (M : Mem) (S : Sh) : go r 105 669 [l0, l1] [s0, s1, s2, s3] M S = go r 105 671 [l0, l1] [aI 32, s0, s1, s2, s3] M S := go_nx rfl rfl
set_option maxRecDepth 20000 in
theorem g105_671 (r : Nat) (l0 l1 : Option AV) (s0 s1 : AV) (x y : Int) (a : Nat) (M : Mem) (S : Sh) (h : S.1 a = 7) (h6 : 6 ≤ a) (h0 : 0 ≤ x) (h1 : x < S.2.1 a) : go r 105 671 [l0, l1] [aI y, aI x, aR a, s0, s1] M S = go r 105 672 [l0, l1] [s0, s1] (mset M a x.toNat y) S := go_bnd rfl ⟨h, h6, h0, h1⟩ rfl
set_option maxRecDepth 20000 in
theorem g105_672 (r : Nat) (l0 l1 : Option AV) (s0 : AV) (a : Nat) (M : Mem) (S : Sh) : go r 105 672 [l0, l1] [aR a, s0] M S = go r 105 673 [l0, l1] [aR a, aR a, s0] M S := go_nx rfl rfl
set_option maxRecDepth 20000 in
theorem g105_673 (r : Nat) (l0 l1 : Option AV) (s0 s1 s2 : AV) (M : Mem) (S : Sh) : go r 105 673 [l0, l1] [s0, s1, s2] M S = go r 105 675 [l0, l1] [aI 45, s0, s1, s2] M S := go_nx rfl rfl
set_option maxRecDepth 20000 in
theorem g105_675 (r : Nat) (l0 l1 : Option AV) (s0 s1 s2 s3 : AV) (M : Mem) (S : Sh) : go r 105 675 [l0, l1] [s0, s1, s2, s3] M S = go r 105 677 [l0, l1] [aI 32, s0, s1, s2, s3] M S := go_nx rfl rfl
set_option maxRecDepth 20000 in
theorem g105_677 (r : Nat) (l0 l1 : Option AV) (s0 s1 : AV) (x y : Int) (a : Nat) (M : Mem) (S : Sh) (h : S.1 a = 7) (h6 : 6 ≤ a) (h0 : 0 ≤ x) (h1 : x < S.2.1 a) : go r 105 677 [l0, l1] [aI y, aI x, aR a, s0, s1] M S = go r 105 678 [l0, l1] [s0, s1] (mset M a x.toNat y) S := go_bnd rfl ⟨h, h6, h0, h1⟩ rfl
set_option maxRecDepth 20000 in
theorem g105_678 (r : Nat) (l0 l1 : Option AV) (s0 : AV) (a : Nat) (M : Mem) (S : Sh) : go r 105 678 [l0, l1] [aR a, s0] M S = go r 105 679 [l0, l1] [aR a, aR a, s0] M S := go_nx rfl rfl
set_option maxRecDepth 20000 in
theorem g105_679 (r : Nat) (l0 l1 : Option AV) (s0 s1 s2 : AV) (M : Mem) (S : Sh) : go r 105 679 [l0, l1] [s0, s1, s2] M S = go r 105 681 [l0, l1] [aI 46, s0, s1, s2] M S := go_nx rfl rfl
set_option maxRecDepth 20000 in
theorem g105_681 (r : Nat) (l0 l1 : Option AV) (s0 s1 s2 s3 : AV) (M : Mem) (S : Sh) : go r 105 681 [l0, l1] [s0, s1, s2, s3] M S = go r 105 683 [l0, l1] [aI 32, s0, s1, s2, s3] M S := go_nx rfl rfl
set_option maxRecDepth 20000 in
theorem g105_683 (r : Nat) (l0 l1 : Option AV) (s0 s1 : AV) (x y : Int) (a : Nat) (M : Mem) (S : Sh) (h : S.1 a = 7) (h6 : 6 ≤ a) (h0 : 0 ≤ x) (h1 : x < S.2.1 a) : go r 105 683 [l0, l1] [aI y, aI x, aR a, s0, s1] M S = go r 105 684 [l0, l1] [s0, s1] (mset M a x.toNat y) S := go_bnd rfl ⟨h, h6, h0, h1⟩ rfl
set_option maxRecDepth 20000 in
theorem g105_684 (r : Nat) (l0 l1 : Option AV) (s0 : AV) (a : Nat) (M : Mem) (S : Sh) : go r 105 684 [l0, l1] [aR a, s0] M S = go r 105 685 [l0, l1] [aR a, aR a, s0] M S := go_nx rfl rfl
set_option maxRecDepth 20000 in
theorem g105_685 (r : Nat) (l0 l1 : Option AV) (s0 s1 s2 : AV) (M : Mem) (S : Sh) : go r 105 685 [l0, l1] [s0, s1, s2] M S = go r 105 687 [l0, l1] [aI 47, s0, s1, s2] M S := go_nx rfl rfl
set_option maxRecDepth 20000 in
theorem g105_687 (r : Nat) (l0 l1 : Option AV) (s0 s1 s2 s3 : AV) (M : Mem) (S : Sh) : go r 105 687 [l0, l1] [s0, s1, s2, s3] M S = go r 105 689 [l0, l1] [aI 32, s0, s1, s2, s3] M S := go_nx rfl rfl
set_option maxRecDepth 20000 in
theorem g105_689 (r : Nat) (l0 l1 : Option AV) (s0 s1 : AV) (x y : Int) (a : Nat) (M : Mem) (S : Sh) (h : S.1 a = 7) (h6 : 6 ≤ a) (h0 : 0 ≤ x) (h1 : x < S.2.1 a) : go r 105 689 [l0, l1] [aI y, aI x, aR a, s0, s1] M S = go r 105 690 [l0, l1] [s0, s1] (mset M a x.toNat y) S := go_bnd rfl ⟨h, h6, h0, h1⟩ rfl
set_option maxRecDepth 20000 in
theorem g105_690 (r : Nat) (l0 l1 : Option AV) (s0 : AV) (a : Nat) (M : Mem) (S : Sh) : go r 105 690 [l0, l1] [aR a, s0] M S = go r 105 691 [l0, l1] [aR a, aR a, s0] M S := go_nx rfl rfl
set_option maxRecDepth 20000 in
theorem g105_691 (r : Nat) (l0 l1 : Option AV) (s0 s1 s2 : AV) (M : Mem) (S : Sh) : go r 105 691 [l0, l1] [s0, s1, s2] M S = go r 105 693 [l0, l1] [aI 48, s0, s1, s2] M S := go_nx rfl rfl
set_option maxRecDepth 20000 in
theorem g105_693 (r : Nat) (l0 l1 : Option AV) (s0 s1 s2 s3 : AV) (M : Mem) (S : Sh) : go r 105 693 [l0, l1] [s0, s1, s2, s3] M S = go r 105 695 [l0, l1] [aI 104, s0, s1, s2, s3] M S := go_nx rfl rfl
set_option maxRecDepth 20000 in
theorem g105_695 (r : Nat) (l0 l1 : Option AV) (s0 s1 : AV) (x y : Int) (a : Nat) (M : Mem) (S : Sh) (h : S.1 a = 7) (h6 : 6 ≤ a) (h0 : 0 ≤ x) (h1 : x < S.2.1 a) : go r 105 695 [l0, l1] [aI y, aI x, aR a, s0, s1] M S = go r 105 696 [l0, l1] [s0, s1] (mset M a x.toNat y) S := go_bnd rfl ⟨h, h6, h0, h1⟩ rfl
set_option maxRecDepth 20000 in
theorem g105_696 (r : Nat) (l0 l1 : Option AV) (s0 : AV) (a : Nat) (M : Mem) (S : Sh) : go r 105 696 [l0, l1] [aR a, s0] M S = go r 105 697 [l0, l1] [aR a, aR a, s0] M S := go_nx rfl rfl
set_option maxRecDepth 20000 in
theorem g105_697 (r : Nat) (l0 l1 : Option AV) (s0 s1 s2 : AV) (M : Mem) (S : Sh) : go r 105 697 [l0, l1] [s0, s1, s2] M S = go r 105 699 [l0, l1] [aI 49, s0, s1, s2] M S := go_nx rfl rfl
set_option maxRecDepth 20000 in
theorem g105_699 (r : Nat) (l0 l1 : Option AV) (s0 s1 s2 s3 : AV) (M : Mem) (S : Sh) : go r 105 699 [l0, l1] [s0, s1, s2, s3] M S = go r 105 701 [l0, l1] [aI 111, s0, s1, s2, s3] M S := go_nx rfl rfl
set_option maxRecDepth 20000 in
theorem g105_701 (r : Nat) (l0 l1 : Option AV) (s0 s1 : AV) (x y : Int) (a : Nat) (M : Mem) (S : Sh) (h : S.1 a = 7) (h6 : 6 ≤ a) (h0 : 0 ≤ x) (h1 : x < S.2.1 a) : go r 105 701 [l0, l1] [aI y, aI x, aR a, s0, s1] M S = go r 105 702 [l0, l1] [s0, s1] (mset M a x.toNat y) S := go_bnd rfl ⟨h, h6, h0, h1⟩ rfl
set_option maxRecDepth 20000 in
theorem g105_702 (r : Nat) (l0 l1 : Option AV) (s0 : AV) (a : Nat) (M : Mem) (S : Sh) : go r 105 702 [l0, l1] [aR a, s0] M S = go r 105 703 [l0, l1] [aR a, aR a, s0] M S := go_nx rfl rfl
set_option maxRecDepth 20000 in
theorem g105_703 (r : Nat) (l0 l1 : Option AV) (s0 s1 s2 : AV) (M : Mem) (S : Sh) : go r 105 703 [l0, l1] [s0, s1, s2] M S = go r 105 705 [l0, l1] [aI 50, s0, s1, s2] M S := go_nx rfl rfl
set_option maxRecDepth 20000 in
theorem g105_705 (r : Nat) (l0 l1 : Option AV) (s0 s1 s2 s3 : AV) (M : Mem) (S : Sh) : go r 105 705 [l0, l1] [s0, s1, s2, s3] M S = go r 105 707 [l0, l1] [aI 117, s0, s1, s2, s3] M S := go_nx rfl rfl
set_option maxRecDepth 20000 in
theorem g105_707 (r : Nat) (l0 l1 : Option AV) (s0 s1 : AV) (x y : Int) (a : Nat) (M : Mem) (S : Sh) (h : S.1 a = 7) (h6 : 6 ≤ a) (h0 : 0 ≤ x) (h1 : x < S.2.1 a) : go r 105 707 [l0, l1] [aI y, aI x, aR a, s0, s1] M S = go r 105 708 [l0, l1] [s0, s1] (mset M a x.toNat y) S := go_bnd rfl ⟨h, h6, h0, h1⟩ rfl
set_option maxRecDepth 20000 in
theorem g105_708 (r : Nat) (l0 l1 : Option AV) (s0 : AV) (a : Nat) (M : Mem) (S : Sh) : go r 105 708 [l0, l1] [aR a, s0] M S = go r 105 709 [l0, l1] [aR a, aR a, s0] M S := go_nx rfl rfl
set_option maxRecDepth 20000 in
theorem g105_709 (r : Nat) (l0 l1 : Option AV) (s0 s1 s2 : AV) (M : Mem) (S : Sh) : go r 105 709 [l0, l1] [s0, s1, s2] M S = go r 105 711 [l0, l1] [aI 51, s0, s1, s2] M S := go_nx rfl rfl
set_option maxRecDepth 20000 in
theorem g105_711 (r : Nat) (l0 l1 : Option AV) (s0 s1 s2 s3 : AV) (M : Mem) (S : Sh) : go r 105 711 [l0, l1] [s0, s1, s2, s3] M S = go r 105 713 [l0, l1] [aI 114, s0, s1, s2, s3] M S := go_nx rfl rfl
set_option maxRecDepth 20000 in
theorem g105_713 (r : Nat) (l0 l1 : Option AV) (s0 s1 : AV) (x y : Int) (a : Nat) (M : Mem) (S : Sh) (h : S.1 a = 7) (h6 : 6 ≤ a) (h0 : 0 ≤ x) (h1 : x < S.2.1 a) : go r 105 713 [l0, l1] [aI y, aI x, aR a, s0, s1] M S = go r 105 714 [l0, l1] [s0, s1] (mset M a x.toNat y) S := go_bnd rfl ⟨h, h6, h0, h1⟩ rfl
set_option maxRecDepth 20000 in
theorem g105_714 (r : Nat) (l0 l1 : Option AV) (s0 : AV) (a : Nat) (M : Mem) (S : Sh) : go r 105 714 [l0, l1] [aR a, s0] M S = go r 105 715 [l0, l1] [aR a, aR a, s0] M S := go_nx rfl rfl
set_option maxRecDepth 20000 in
theorem g105_715 (r : Nat) (l0 l1 : Option AV) (s0 s1 s2 : AV) (M : Mem) (S : Sh) : go r 105 715 [l0, l1] [s0, s1, s2] M S = go r 105 717 [l0, l1] [aI 52, s0, s1, s2] M S := go_nx rfl rfl
set_option maxRecDepth 20000 in
theorem g105_717 (r : Nat) (l0 l1 : Option AV) (s0 s1 s2 s3 : AV) (M : Mem) (S : Sh) : go r 105 717 [l0, l1] [s0, s1, s2, s3] M S = go r 105 719 [l0, l1] [aI 32, s0, s1, s2, s3] M S := go_nx rfl rfl
set_option maxRecDepth 20000 in
theorem g105_719 (r : Nat) (l0 l1 : Option AV) (s0 s1 : AV) (x y : Int) (a : Nat) (M : Mem) (S : Sh) (h : S.1 a = 7) (h6 : 6 ≤ a) (h0 : 0 ≤ x) (h1 : x < S.2.1 a) : go r 105 719 [l0, l1] [aI y, aI x, aR a, s0, s1] M S = go r 105 720 [l0, l1] [s0, s1] (mset M a x.toNat y) S := go_bnd rfl ⟨h, h6, h0, h1⟩ rfl
set_option maxRecDepth 20000 in
theorem g105_720 (r : Nat) (l0 l1 : Option AV) (s0 : AV) (a : Nat) (M : Mem) (S : Sh) : go r 105 720 [l0, l1] [aR a, s0] M S = go r 105 721 [l0, l1] [aR a, aR a, s0] M S := go_nx rfl rfl
set_option maxRecDepth 20000 in
theorem g105_721 (r : Nat) (l0 l1 : Option AV) (s0 s1 s2 : AV) (M : Mem) (S : Sh) : go r 105 721 [l0, l1] [s0, s1, s2] M S = go r 105 723 [l0, l1] [aI 53, s0, s1, s2] M S := go_nx rfl rfl
set_option maxRecDepth 20000 in
theorem g105_723 (r : Nat) (l0 l1 : Option AV) (s0 s1 s2 s3 : AV) (M : Mem) (S : Sh) : go r 105 723 [l0, l1] [s0, s1, s2, s3] M S = go r 105 725 [l0, l1] [aI 32, s0, s1, s2, s3] M S := go_nx rfl rfl
set_option maxRecDepth 20000 in
theorem g105_725 (r : Nat) (l0 l1 : Option AV) (s0 s1 : AV) (x y : Int) (a : Nat) (M : Mem) (S : Sh) (h : S.1 a = 7) (h6 : 6 ≤ a) (h0 : 0 ≤ x) (h1 : x < S.2.1 a) : go r 105 725 [l0, l1] [aI y, aI x, aR a, s0, s1] M S = go r 105 726 [l0, l1] [s0, s1] (mset M a x.toNat y) S := go_bnd rfl ⟨h, h6, h0, h1⟩ rfl
set_option maxRecDepth 20000 in
theorem g105_726 (r : Nat) (l0 l1 : Option AV) (s0 : AV) (a : Nat) (M : Mem) (S : Sh) : go r 105 726 [l0, l1] [aR a, s0] M S = go r 105 727 [l0, l1] [aR a, aR a, s0] M S := go_nx rfl rfl
set_option maxRecDepth 20000 in
theorem g105_727 (r : Nat) (l0 l1 : Option AV) (s0 s1 s2 : AV) (M : Mem) (S : Sh) : go r 105 727 [l0, l1] [s0, s1, s2] M S = go r 105 729 [l0, l1] [aI 54, s0, s1, s2] M S := go_nx rfl rfl
set_option maxRecDepth 20000 in
theorem g105_729 (r : Nat) (l0 l1 : Option AV) (s0 s1 s2 s3 : AV) (M : Mem) (S : Sh) : go r 105 729 [l0, l1] [s0, s1, s2, s3] M S = go r 105 731 [l0, l1] [aI 32, s0, s1, s2, s3] M S := go_nx rfl rfl
set_option maxRecDepth 20000 in
theorem g105_731 (r : Nat) (l0 l1 : Option AV) (s0 s1 : AV) (x y : Int) (a : Nat) (M : Mem) (S : Sh) (h : S.1 a = 7) (h6 : 6 ≤ a) (h0 : 0 ≤ x) (h1 : x < S.2.1 a) : go r 105 731 [l0, l1] [aI y, aI x, aR a, s0, s1] M S = go r 105 732 [l0, l1] [s0, s1] (mset M a x.toNat y) S := go_bnd rfl ⟨h, h6, h0, h1⟩ rfl
set_option maxRecDepth 20000 in
theorem g105_732 (r : Nat) (l0 l1 : Option AV) (s0 : AV) (a : Nat) (M : Mem) (S : Sh) : go r 105 732 [l0, l1] [aR a, s0] M S = go r 105 733 [l0, l1] [aR a, aR a, s0] M S := go_nx rfl rfl
set_option maxRecDepth 20000 in
theorem g105_733 (r : Nat) (l0 l1 : Option AV) (s0 s1 s2 : AV) (M : Mem) (S : Sh) : go r 105 733 [l0, l1] [s0, s1, s2] M S = go r 105 735 [l0, l1] [aI 55, s0, s1, s2] M S := go_nx rfl rfl
set_option maxRecDepth 20000 in
theorem g105_735 (r : Nat) (l0 l1 : Option AV) (s0 s1 s2 s3 : AV) (M : Mem) (S : Sh) : go r 105 735 [l0, l1] [s0, s1, s2, s3] M S = go r 105 737 [l0, l1] [aI 32, s0, s1, s2, s3] M S := go_nx rfl rfl
set_option maxRecDepth 20000 in
theorem g105_737 (r : Nat) (l0 l1 : Option AV) (s0 s1 : AV) (x y : Int) (a : Nat) (M : Mem) (S : Sh) (h : S.1 a = 7) (h6 : 6 ≤ a) (h0 : 0 ≤ x) (h1 : x < S.2.1 a) : go r 105 737 [l0, l1] [aI y, aI x, aR a, s0, s1] M S = go r 105 738 [l0, l1] [s0, s1] (mset M a x.toNat y) S := go_bnd rfl ⟨h, h6, h0, h1⟩ rfl
set_option maxRecDepth 20000 in
theorem g105_738 (r : Nat) (l0 l1 : Option AV) (s0 : AV) (a : Nat) (M : Mem) (S : Sh) : go r 105 738 [l0, l1] [aR a, s0] M S = go r 105 739 [l0, l1] [aR a, aR a, s0] M S := go_nx rfl rfl
set_option maxRecDepth 20000 in
theorem g105_739 (r : Nat) (l0 l1 : Option AV) (s0 s1 s2 : AV) (M : Mem) (S : Sh) : go r 105 739 [l0, l1] [s0, s1, s2] M S = go r 105 741 [l0, l1] [aI 56, s0, s1, s2] M S := go_nx rfl rfl
set_option maxRecDepth 20000 in
theorem g105_741 (r : Nat) (l0 l1 : Option AV) (s0 s1 s2 s3 : AV) (M : Mem) (S : Sh) : go r 105 741 [l0, l1] [s0, s1, s2, s3] M S = go r 105 743 [l0, l1] [aI 99, s0, s1, s2, s3] M S := go_nx rfl rfl
set_option maxRecDepth 20000 in
theorem g105_743 (r : Nat) (l0 l1 : Option AV) (s0 s1 : AV) (x y : Int) (a : Nat) (M : Mem) (S : Sh) (h : S.1 a = 7) (h6 : 6 ≤ a) (h0 : 0 ≤ x) (h1 : x < S.2.1 a) : go r 105 743 [l0, l1] [aI y, aI x, aR a, s0, s1] M S = go r 105 744 [l0, l1] [s0, s1] (mset M a x.toNat y) S := go_bnd rfl ⟨h, h6, h0, h1⟩ rfl
set_option maxRecDepth 20000 in
theorem g105_744 (r : Nat) (l0 l1 : Option AV) (s0 : AV) (a : Nat) (M : Mem) (S : Sh) : go r 105 744 [l0, l1] [aR a, s0] M S = go r 105 745 [l0, l1] [aR a, aR a, s0] M S := go_nx rfl rfl
set_option maxRecDepth 20000 in
theorem g105_745 (r : Nat) (l0 l1 : Option AV) (s0 s1 s2 : AV) (M : Mem) (S : Sh) : go r 105 745 [l0, l1] [s0, s1, s2] M S = go r 105 747 [l0, l1] [aI 57, s0, s1, s2] M S := go_nx rfl rfl
set_option maxRecDepth 20000 in
theorem g105_747 (r : Nat) (l0 l1 : Option AV) (s0 s1 s2 s3 : AV) (M : Mem) (S : Sh) : go r 105 747 [l0, l1] [s0, s1, s2, s3] M S = go r 105 749 [l0, l1] [aI 108, s0, s1, s2, s3] M S := go_nx rfl rfl
set_option maxRecDepth 20000 in
theorem g105_749 (r : Nat) (l0 l1 : Option AV) (s0 s1 : AV) (x y : Int) (a : Nat) (M : Mem) (S : Sh) (h : S.1 a = 7) (h6 : 6 ≤ a) (h0 : 0 ≤ x) (h1 : x < S.2.1 a) : go r 105 749 [l0, l1] [aI y, aI x, aR a, s0, s1] M S = go r 105 750 [l0, l1] [s0, s1] (mset M a x.toNat y) S := go_bnd rfl ⟨h, h6, h0, h1⟩ rfl
set_option maxRecDepth 20000 in
theorem g105_750 (r : Nat) (l0 l1 : Option AV) (s0 : AV) (a : Nat) (M : Mem) (S : Sh) : go r 105 750 [l0, l1] [aR a, s0] M S = go r 105 751 [l0, l1] [aR a, aR a, s0] M S := go_nx rfl rfl
set_option maxRecDepth 20000 in
theorem g105_751 (r : Nat) (l0 l1 : Option AV) (s0 s1 s2 : AV) (M : Mem) (S : Sh) : go r 105 751 [l0, l1] [s0, s1, s2] M S = go r 105 753 [l0, l1] [aI 58, s0, s1, s2] M S := go_nx rfl rfl
set_option maxRecDepth 20000 in
theorem g105_753 (r : Nat) (l0 l1 : Option AV) (s0 s1 s2 s3 : AV) (M : Mem) (S : Sh) : go r 105 753 [l0, l1] [s0, s1, s2, s3] M S = go r 105 755 [l0, l1] [aI 105, s0, s1, s2, s3] M S := go_nx rfl rfl
set_option maxRecDepth 20000 in
theorem g105_755 (r : Nat) (l0 l1 : Option AV) (s0 s1 : AV) (x y : Int) (a : Nat) (M : Mem) (S : Sh) (h : S.1 a = 7) (h6 : 6 ≤ a) (h0 : 0 ≤ x) (h1 : x < S.2.1 a) : go r 105 755 [l0, l1] [aI y, aI x, aR a, s0, s1] M S = go r 105 756 [l0, l1] [s0, s1] (mset M a x.toNat y) S := go_bnd rfl ⟨h, h6, h0, h1⟩ rfl
set_option maxRecDepth 20000 in
theorem g105_756 (r : Nat) (l0 l1 : Option AV) (s0 : AV) (a : Nat) (M : Mem) (S : Sh) : go r 105 756 [l0, l1] [aR a, s0] M S = go r 105 757 [l0, l1] [aR a, aR a, s0] M S := go_nx rfl rfl
set_option maxRecDepth 20000 in
theorem g105_757 (r : Nat) (l0 l1 : Option AV) (s0 s1 s2 : AV) (M : Mem) (S : Sh) : go r 105 757 [l0, l1] [s0, s1, s2] M S = go r 105 759 [l0, l1] [aI 59, s0, s1, s2] M S := go_nx rfl rfl
set_option maxRecDepth 20000 in
theorem g105_759 (r : Nat) (l0 l1 : Option AV) (s0 s1 s2 s3 : AV) (M : Mem) (S : Sh) : go r 105 759 [l0, l1] [s0, s1, s2, s3] M S = go r 105 761 [l0, l1] [aI 99, s0, s1, s2, s3] M S := go_nx rfl rfl
set_option maxRecDepth 20000 in
theorem g105_761 (r : Nat) (l0 l1 : Option AV) (s0 s1 : AV) (x y : Int) (a : Nat) (M : Mem) (S : Sh) (h : S.1 a = 7) (h6 : 6 ≤ a) (h0 : 0 ≤ x) (h1 : x < S.2.1 a) : go r 105 761 [l0, l1] [aI y, aI x, aR a, s0, s1] M S = go r 105 762 [l0, l1] [s0, s1] (mset M a x.toNat y) S := go_bnd rfl ⟨h, h6, h0, h1⟩ rfl
set_option maxRecDepth 20000 in
theorem g105_762 (r : Nat) (l0 l1 : Option AV) (s0 : AV) (a : Nat) (M : Mem) (S : Sh) : go r 105 762 [l0, l1] [aR a, s0] M S = go r 105 763 [l0, l1] [aR a, aR a, s0] M S := go_nx rfl rfl
set_option maxRecDepth 20000 in
theorem g105_763 (r : Nat) (l0 l1 : Option AV) (s0 s1 s2 : AV) (M : Mem) (S : Sh) : go r 105 763 [l0, l1] [s0, s1, s2] M S = go r 105 765 [l0, l1] [aI 60, s0, s1, s2] M S := go_nx rfl rfl
set_option maxRecDepth 20000 in
theorem g105_765 (r : Nat) (l0 l1 : Option AV) (s0 s1 s2 s3 : AV) (M : Mem) (S : Sh) : go r 105 765 [l0, l1] [s0, s1, s2, s3] M S = go r 105 767 [l0, l1] [aI 107, s0, s1, s2, s3] M S := go_nx rfl rfl
set_option maxRecDepth 20000 in
theorem g105_767 (r : Nat) (l0 l1 : Option AV) (s0 s1 : AV) (x y : Int) (a : Nat) (M : Mem) (S : Sh) (h : S.1 a = 7) (h6 : 6 ≤ a) (h0 : 0 ≤ x) (h1 : x < S.2.1 a) : go r 105 767 [l0, l1] [aI y, aI x, aR a, s0, s1] M S = go r 105 768 [l0, l1] [s0, s1] (mset M a x.toNat y) S := go_bnd rfl ⟨h, h6, h0, h1⟩ rfl
set_option maxRecDepth 20000 in
theorem g105_768 (r : Nat) (l0 l1 : Option AV) (s0 : AV) (a : Nat) (M : Mem) (S : Sh) : go r 105 768 [l0, l1] [aR a, s0] M S = go r 105 769 [l0, l1] [aR a, aR a, s0] M S := go_nx rfl rfl
set_option maxRecDepth 20000 in
theorem g105_769 (r : Nat) (l0 l1 : Option AV) (s0 s1 s2 : AV) (M : Mem) (S : Sh) : go r 105 769 [l0, l1] [s0, s1, s2] M S = go r 105 771 [l0, l1] [aI 61, s0, s1, s2] M S := go_nx rfl rfl
set_option maxRecDepth 20000 in
theorem g105_771 (r : Nat) (l0 l1 : Option AV) (s0 s1 s2 s3 : AV) (M : Mem) (S : Sh) : go r 105 771 [l0, l1] [s0, s1, s2, s3] M S = go r 105 773 [l0, l1] [aI 115, s0, s1, s2, s3] M S := go_nx rfl rfl
set_option maxRecDepth 20000 in
theorem g105_773 (r : Nat) (l0 l1 : Option AV) (s0 s1 : AV) (x y : Int) (a : Nat) (M : Mem) (S : Sh) (h : S.1 a = 7) (h6 : 6 ≤ a) (h0 : 0 ≤ x) (h1 : x < S.2.1 a) : go r 105 773 [l0, l1] [aI y, aI x, aR a, s0, s1] M S = go r 105 774 [l0, l1] [s0, s1] (mset M a x.toNat y) S := go_bnd rfl ⟨h, h6, h0, h1⟩ rfl
set_option maxRecDepth 20000 in
theorem g105_774 (r : Nat) (l0 l1 : Option AV) (s0 : AV) (a : Nat) (M : Mem) (S : Sh) : go r 105 774 [l0, l1] [aR a, s0] M S = go r 105 775 [l0, l1] [aR a, aR a, s0] M S := go_nx rfl rfl
set_option maxRecDepth 20000 in
theorem g105_775 (r : Nat) (l0 l1 : Option AV) (s0 s1 s2 : AV) (M : Mem) (S : Sh) : go r 105 775 [l0, l1] [s0, s1, s2] M S = go r 105 777 [l0, l1] [aI 62, s0, s1, s2] M S := go_nx rfl rfl
set_option maxRecDepth 20000 in
theorem g105_777 (r : Nat) (l0 l1 : Option AV) (s0 s1 s2 s3 : AV) (M : Mem) (S : Sh) : go r 105 777 [l0, l1] [s0, s1, s2, s3] M S = go r 105 779 [l0, l1] [aI 32, s0, s1, s2, s3] M S := go_nx rfl rfl
set_option maxRecDepth 20000 in
theorem g105_779 (r : Nat) (l0 l1 : Option AV) (s0 s1 : AV) (x y : Int) (a : Nat) (M : Mem) (S : Sh) (h : S.1 a = 7) (h6 : 6 ≤ a) (h0 : 0 ≤ x) (h1 : x < S.2.1 a) : go r 105 779 [l0, l1] [aI y, aI x, aR a, s0, s1] M S = go r 105 780 [l0, l1] [s0, s1] (mset M a x.toNat y) S := go_bnd rfl ⟨h, h6, h0, h1⟩ rfl
set_option maxRecDepth 20000 in
theorem g105_780 (r : Nat) (l0 l1 : Option AV) (s0 : AV) (a : Nat) (M : Mem) (S : Sh) : go r 105 780 [l0, l1] [aR a, s0] M S = go r 105 781 [l0, l1] [aR a, aR a, s0] M S := go_nx rfl rfl
set_option maxRecDepth 20000 in
theorem g105_781 (r : Nat) (l0 l1 : Option AV) (s0 s1 s2 : AV) (M : Mem) (S : Sh) : go r 105 781 [l0, l1] [s0, s1, s2] M S = go r 105 783 [l0, l1] [aI 63, s0, s1, s2] M S := go_nx rfl rfl
set_option maxRecDepth 20000 in
theorem g105_783 (r : Nat) (l0 l1 : Option AV) (s0 s1 s2 s3 : AV) (M : Mem) (S : Sh) : go r 105 783 [l0, l1] [s0, s1, s2, s3] M S = go r 105 785 [l0, l1] [aI 32, s0, s1, s2, s3] M S := go_nx rfl rfl
set_option maxRecDepth 20000 in
theorem g105_785 (r : Nat) (l0 l1 : Option AV) (s0 s1 : AV) (x y : Int) (a : Nat) (M : Mem) (S : Sh) (h : S.1 a = 7) (h6 : 6 ≤ a) (h0 : 0 ≤ x) (h1 : x < S.2.1 a) : go r 105 785 [l0, l1] [aI y, aI x, aR a, s0, s1] M S = go r 105 786 [l0, l1] [s0, s1] (mset M a x.toNat y) S := go_bnd rfl ⟨h, h6, h0, h1⟩ rfl
set_option maxRecDepth 20000 in
theorem g105_786 (r : Nat) (l0 l1 : Option AV) (s0 : AV) (a : Nat) (M : Mem) (S : Sh) : go r 105 786 [l0, l1] [aR a, s0] M S = go r 105 787 [l0, l1] [aR a, aR a, s0] M S := go_nx rfl rfl
set_option maxRecDepth 20000 in
theorem g105_787 (r : Nat) (l0 l1 : Option AV) (s0 s1 s2 : AV) (M : Mem) (S : Sh) : go r 105 787 [l0, l1] [s0, s1, s2] M S = go r 105 789 [l0, l1] [aI 64, s0, s1, s2] M S := go_nx rfl rfl
set_option maxRecDepth 20000 in
theorem g105_789 (r : Nat) (l0 l1 : Option AV) (s0 s1 s2 s3 : AV) (M : Mem) (S : Sh) : go r 105 789 [l0, l1] [s0, s1, s2, s3] M S = go r 105 791 [l0, l1] [aI 114, s0, s1, s2, s3] M S := go_nx rfl rfl
set_option maxRecDepth 20000 in
theorem g105_791 (r : Nat) (l0 l1 : Option AV) (s0 s1 : AV) (x y : Int) (a : Nat) (M : Mem) (S : Sh) (h : S.1 a = 7) (h6 : 6 ≤ a) (h0 : 0 ≤ x) (h1 : x < S.2.1 a) : go r 105 791 [l0, l1] [aI y, aI x, aR a, s0, s1] M S = go r 105 792 [l0, l1] [s0, s1] (mset M a x.toNat y) S := go_bnd rfl ⟨h, h6, h0, h1⟩ rfl
set_option maxRecDepth 20000 in
theorem g105_792 (r : Nat) (l0 l1 : Option AV) (s0 : AV) (a : Nat) (M : Mem) (S : Sh) : go r 105 792 [l0, l1] [aR a, s0] M S = go r 105 793 [l0, l1] [aR a, aR a, s0] M S := go_nx rfl rfl
set_option maxRecDepth 20000 in
theorem g105_793 (r : Nat) (l0 l1 : Option AV) (s0 s1 s2 : AV) (M : Mem) (S : Sh) : go r 105 793 [l0, l1] [s0, s1, s2] M S = go r 105 795 [l0, l1] [aI 65, s0, s1, s2] M S := go_nx rfl rfl
set_option maxRecDepth 20000 in
theorem g105_795 (r : Nat) (l0 l1 : Option AV) (s0 s1 s2 s3 : AV) (M : Mem) (S : Sh) : go r 105 795 [l0, l1] [s0, s1, s2, s3] M S = go r 105 797 [l0, l1] [aI 111, s0, s1, s2, s3] M S := go_nx rfl rfl
set_option maxRecDepth 20000 in
theorem g105_797 (r : Nat) (l0 l1 : Option AV) (s0 s1 : AV) (x y : Int) (a : Nat) (M : Mem) (S : Sh) (h : S.1 a = 7) (h6 : 6 ≤ a) (h0 : 0 ≤ x) (h1 : x < S.2.1 a) : go r 105 797 [l0, l1] [aI y, aI x, aR a, s0, s1] M S = go r 105 798 [l0, l1] [s0, s1] (mset M a x.toNat y) S := go_bnd rfl ⟨h, h6, h0, h1⟩ rfl
set_option maxRecDepth 20000 in
theorem g105_798 (r : Nat) (l0 l1 : Option AV) (s0 : AV) (a : Nat) (M : Mem) (S : Sh) : go r 105 798 [l0, l1] [aR a, s0] M S = go r 105 799 [l0, l1] [aR a, aR a, s0] M S := go_nx rfl rfl
set_option maxRecDepth 20000 in
theorem g105_799 (r : Nat) (l0 l1 : Option AV) (s0 s1 s2 : AV) (M : Mem) (S : Sh) : go r 105 799 [l0, l1] [s0, s1, s2] M S = go r 105 801 [l0, l1] [aI 66, s0, s1, s2] M S := go_nx rfl rfl
set_option maxRecDepth 20000 in
theorem g105_801 (r : Nat) (l0 l1 : Option AV) (s0 s1 s2 s3 : AV) (M : Mem) (S : Sh) : go r 105 801 [l0, l1] [s0, s1, s2, s3] M S = go r 105 803 [l0, l1] [aI 119, s0, s1, s2, s3] M S := go_nx rfl rfl
set_option maxRecDepth 20000 in
theorem g105_803 (r : Nat) (l0 l1 : Option AV) (s0 s1 : AV) (x y : Int) (a : Nat) (M : Mem) (S : Sh) (h : S.1 a = 7) (h6 : 6 ≤ a) (h0 : 0 ≤ x) (h1 : x < S.2.1 a) : go r 105 803 [l0, l1] [aI y, aI x, aR a, s0, s1] M S = go r 105 804 [l0, l1] [s0, s1] (mset M a x.toNat y) S := go_bnd rfl ⟨h, h6, h0, h1⟩ rfl
set_option maxRecDepth 20000 in
theorem g105_804 (r : Nat) (l0 l1 : Option AV) (s0 : AV) (a : Nat) (M : Mem) (S : Sh) : go r 105 804 [l0, l1] [aR a, s0] M S = go r 105 805 [l0, l1] [aR a, aR a, s0] M S := go_nx rfl rfl
set_option maxRecDepth 20000 in
theorem g105_805 (r : Nat) (l0 l1 : Option AV) (s0 s1 s2 : AV) (M : Mem) (S : Sh) : go r 105 805 [l0, l1] [s0, s1, s2] M S = go r 105 807 [l0, l1] [aI 67, s0, s1, s2] M S := go_nx rfl rfl
set_option maxRecDepth 20000 in
theorem g105_807 (r : Nat) (l0 l1 : Option AV) (s0 s1 s2 s3 : AV) (M : Mem) (S : Sh) : go r 105 807 [l0, l1] [s0, s1, s2, s3] M S = go r 105 809 [l0, l1] [aI 32, s0, s1, s2, s3] M S := go_nx rfl rfl
set_option maxRecDepth 20000 in
theorem g105_809 (r : Nat) (l0 l1 : Option AV) (s0 s1 : AV) (x y : Int) (a : Nat) (M : Mem) (S : Sh) (h : S.1 a = 7) (h6 : 6 ≤ a) (h0 : 0 ≤ x) (h1 : x < S.2.1 a) : go r 105 809 [l0, l1] [aI y, aI x, aR a, s0, s1] M S = go r 105 810 [l0, l1] [s0, s1] (mset M a x.toNat y) S := go_bnd rfl ⟨h, h6, h0, h1⟩ rfl
set_option maxRecDepth 20000 in
theorem g105_810 (r : Nat) (l0 l1 : Option AV) (s0 : AV) (a : Nat) (M : Mem) (S : Sh) : go r 105 810 [l0, l1] [aR a, s0] M S = go r 105 811 [l0, l1] [aR a, aR a, s0] M S := go_nx rfl rfl
set_option maxRecDepth 20000 in
theorem g105_811 (r : Nat) (l0 l1 : Option AV) (s0 s1 s2 : AV) (M : Mem) (S : Sh) : go r 105 811 [l0, l1] [s0, s1, s2] M S = go r 105 813 [l0, l1] [aI 68, s0, s1, s2] M S := go_nx rfl rfl
set_option maxRecDepth 20000 in
theorem g105_813 (r : Nat) (l0 l1 : Option AV) (s0 s1 s2 s3 : AV) (M : Mem) (S : Sh) : go r 105 813 [l0, l1] [s0, s1, s2, s3] M S = go r 105 815 [l0, l1] [aI 32, s0, s1, s2, s3] M S := go_nx rfl rfl
set_option maxRecDepth 20000 in
theorem g105_815 (r : Nat) (l0 l1 : Option AV) (s0 s1 : AV) (x y : Int) (a : Nat) (M : Mem) (S : Sh) (h : S.1 a = 7) (h6 : 6 ≤ a) (h0 : 0 ≤ x) (h1 : x < S.2.1 a) : go r 105 815 [l0, l1] [aI y, aI x, aR a, s0, s1] M S = go r 105 816 [l0, l1] [s0, s1] (mset M a x.toNat y) S := go_bnd rfl ⟨h, h6, h0, h1⟩ rfl
set_option maxRecDepth 20000 in
theorem g105_816 (r : Nat) (l0 l1 : Option AV) (s0 : AV) (a : Nat) (M : Mem) (S : Sh) : go r 105 816 [l0, l1] [aR a, s0] M S = go r 105 817 [l0, l1] [aR a, aR a, s0] M S := go_nx rfl rfl
set_option maxRecDepth 20000 in
theorem g105_817 (r : Nat) (l0 l1 : Option AV) (s0 s1 s2 : AV) (M : Mem) (S : Sh) : go r 105 817 [l0, l1] [s0, s1, s2] M S = go r 105 819 [l0, l1] [aI 69, s0, s1, s2] M S := go_nx rfl rfl
set_option maxRecDepth 20000 in
theorem g105_819 (r : Nat) (l0 l1 : Option AV) (s0 s1 s2 s3 : AV) (M : Mem) (S : Sh) : go r 105 819 [l0, l1] [s0, s1, s2, s3] M S = go r 105 821 [l0, l1] [aI 32, s0, s1, s2, s3] M S := go_nx rfl rfl
set_option maxRecDepth 20000 in
theorem g105_821 (r : Nat) (l0 l1 : Option AV) (s0 s1 : AV) (x y : Int) (a : Nat) (M : Mem) (S : Sh) (h : S.1 a = 7) (h6 : 6 ≤ a) (h0 : 0 ≤ x) (h1 : x < S.2.1 a) : go r 105 821 [l0, l1] [aI y, aI x, aR a, s0, s1] M S = go r 105 822 [l0, l1] [s0, s1] (mset M a x.toNat y) S := go_bnd rfl ⟨h, h6, h0, h1⟩ rfl
set_option maxRecDepth 20000 in
theorem g105_822 (r : Nat) (l0 l1 : Option AV) (s0 : AV) (a : Nat) (M : Mem) (S : Sh) : go r 105 822 [l0, l1] [aR a, s0] M S = go r 105 823 [l0, l1] [aR a, aR a, s0] M S := go_nx rfl rfl
set_option maxRecDepth 20000 in
theorem g105_823 (r : Nat) (l0 l1 : Option AV) (s0 s1 s2 : AV) (M : Mem) (S : Sh) : go r 105 823 [l0, l1] [s0, s1, s2] M S = go r 105 825 [l0, l1] [aI 70, s0, s1, s2] M S := go_nx rfl rfl
set_option maxRecDepth 20000 in
theorem g105_825 (r : Nat) (l0 l1 : Option AV) (s0 s1 s2 s3 : AV) (M : Mem) (S : Sh) : go r 105 825 [l0, l1] [s0, s1, s2, s3] M S = go r 105 827 [l0, l1] [aI 32, s0, s1, s2, s3] M S := go_nx rfl rfl
set_option maxRecDepth 20000 in
theorem g105_827 (r : Nat) (l0 l1 : Option AV) (s0 s1 : AV) (x y : Int) (a : Nat) (M : Mem) (S : Sh) (h : S.1 a = 7) (h6 : 6 ≤ a) (h0 : 0 ≤ x) (h1 : x < S.2.1 a) : go r 105 827 [l0, l1] [aI y, aI x, aR a, s0, s1] M S = go r 105 828 [l0, l1] [s0, s1] (mset M a x.toNat y) S := go_bnd rfl ⟨h, h6, h0, h1⟩ rfl
set_option maxRecDepth 20000 in
theorem g105_828 (r : Nat) (l0 l1 : Option AV) (s0 : AV) (a : Nat) (M : Mem) (S : Sh) : go r 105 828 [l0, l1] [aR a, s0] M S = go r 105 829 [l0, l1] [aR a, aR a, s0] M S := go_nx rfl rfl
set_option maxRecDepth 20000 in
theorem g105_829 (r : Nat) (l0 l1 : Option AV) (s0 s1 s2 : AV) (M : Mem) (S : Sh) : go r 105 829 [l0, l1] [s0, s1, s2] M S = go r 105 831 [l0, l1] [aI 71, s0, s1, s2] M S := go_nx rfl rfl
set_option maxRecDepth 20000 in
theorem g105_831 (r : Nat) (l0 l1 : Option AV) (s0 s1 s2 s3 : AV) (M : Mem) (S : Sh) : go r 105 831 [l0, l1] [s0, s1, s2, s3] M S = go r 105 833 [l0, l1] [aI 32, s0, s1, s2, s3] M S := go_nx rfl rfl
set_option maxRecDepth 20000 in
theorem g105_833 (r : Nat) (l0 l1 : Option AV) (s0 s1 : AV) (x y : Int) (a : Nat) (M : Mem) (S : Sh) (h : S.1 a = 7) (h6 : 6 ≤ a) (h0 : 0 ≤ x) (h1 : x < S.2.1 a) : go r 105 833 [l0, l1] [aI y, aI x, aR a, s0, s1] M S = go r 105 834 [l0, l1] [s0, s1] (mset M a x.toNat y) S := go_bnd rfl ⟨h, h6, h0, h1⟩ rfl
set_option maxRecDepth 20000 in
theorem g105_834 (r : Nat) (l0 l1 : Option AV) (s0 : AV) (a : Nat) (M : Mem) (S : Sh) : go r 105 834 [l0, l1] [aR a, s0] M S = go r 105 835 [l0, l1] [aR a, aR a, s0] M S := go_nx rfl rfl
set_option maxRecDepth 20000 in
theorem g105_835 (r : Nat) (l0 l1 : Option AV) (s0 s1 s2 : AV) (M : Mem) (S : Sh) : go r 105 835 [l0, l1] [s0, s1, s2] M S = go r 105 837 [l0, l1] [aI 72, s0, s1, s2] M S := go_nx rfl rfl
set_option maxRecDepth 20000 in
theorem g105_837 (r : Nat) (l0 l1 : Option AV) (s0 s1 s2 s3 : AV) (M : Mem) (S : Sh) : go r 105 837 [l0, l1] [s0, s1, s2, s3] M S = go r 105 839 [l0, l1] [aI 111, s0, s1, s2, s3] M S := go_nx rfl rfl
set_option maxRecDepth 20000 in
theorem g105_839 (r : Nat) (l0 l1 : Option AV) (s0 s1 : AV) (x y : Int) (a : Nat) (M : Mem) (S : Sh) (h : S.1 a = 7) (h6 : 6 ≤ a) (h0 : 0 ≤ x) (h1 : x < S.2.1 a) : go r 105 839 [l0, l1] [aI y, aI x, aR a, s0, s1] M S = go r 105 840 [l0, l1] [s0, s1] (mset M a x.toNat y) S := go_bnd rfl ⟨h, h6, h0, h1⟩ rfl
set_option maxRecDepth 20000 in
theorem g105_840 (r : Nat) (l0 l1 : Option AV) (s0 : AV) (a : Nat) (M : Mem) (S : Sh) : go r 105 840 [l0, l1] [aR a, s0] M S = go r 105 841 [l0, l1] [aR a, aR a, s0] M S := go_nx rfl rfl
set_option maxRecDepth 20000 in
theorem g105_841 (r : Nat) (l0 l1 : Option AV) (s0 s1 s2 : AV) (M : Mem) (S : Sh) : go r 105 841 [l0, l1] [s0, s1, s2] M S = go r 105 843 [l0, l1] [aI 73, s0, s1, s2] M S := go_nx rfl rfl
set_option maxRecDepth 20000 in
theorem g105_843 (r : Nat) (l0 l1 : Option AV) (s0 s1 s2 s3 : AV) (M : Mem) (S : Sh) : go r 105 843 [l0, l1] [s0, s1, s2, s3] M S = go r 105 845 [l0, l1] [aI 114, s0, s1, s2, s3] M S := go_nx rfl rfl
set_option maxRecDepth 20000 in
theorem g105_845 (r : Nat) (l0 l1 : Option AV) (s0 s1 : AV) (x y : Int) (a : Nat) (M : Mem) (S : Sh) (h : S.1 a = 7) (h6 : 6 ≤ a) (h0 : 0 ≤ x) (h1 : x < S.2.1 a) : go r 105 845 [l0, l1] [aI y, aI x, aR a, s0, s1] M S = go r 105 846 [l0, l1] [s0, s1] (mset M a x.toNat y) S := go_bnd rfl ⟨h, h6, h0, h1⟩ rfl
set_option maxRecDepth 20000 in
theorem g105_846 (r : Nat) (l0 l1 : Option AV) (s0 : AV) (a : Nat) (M : Mem) (S : Sh) : go r 105 846 [l0, l1] [aR a, s0] M S = go r 105 847 [l0, l1] [aR a, aR a, s0] M S := go_nx rfl rfl
set_option maxRecDepth 20000 in
theorem g105_847 (r : Nat) (l0 l1 : Option AV) (s0 s1 s2 : AV) (M : Mem) (S : Sh) : go r 105 847 [l0, l1] [s0, s1, s2] M S = go r 105 849 [l0, l1] [aI 74, s0, s1, s2] M S := go_nx rfl rfl
set_option maxRecDepth 20000 in
theorem g105_849 (r : Nat) (l0 l1 : Option AV) (s0 s1 s2 s3 : AV) (M : Mem) (S : Sh) : go r 105 849 [l0, l1] [s0, s1, s2, s3] M S = go r 105 851 [l0, l1] [aI 32, s0, s1, s2, s3] M S := go_nx rfl rfl
set_option maxRecDepth 20000 in
theorem g105_851 (r : Nat) (l0 l1 : Option AV) (s0 s1 : AV) (x y : Int) (a : Nat) (M : Mem) (S : Sh) (h : S.1 a = 7) (h6 : 6 ≤ a) (h0 : 0 ≤ x) (h1 : x < S.2.1 a) : go r 105 851 [l0, l1] [aI y, aI x, aR a, s0, s1] M S = go r 105 852 [l0, l1] [s0, s1] (mset M a x.toNat y) S := go_bnd rfl ⟨h, h6, h0, h1⟩ rfl
set_option maxRecDepth 20000 in
theorem g105_852 (r : Nat) (l0 l1 : Option AV) (s0 : AV) (a : Nat) (M : Mem) (S : Sh) : go r 105 852 [l0, l1] [aR a, s0] M S = go r 105 853 [l0, l1] [aR a, aR a, s0] M S := go_nx rfl rfl
set_option maxRecDepth 20000 in
theorem g105_853 (r : Nat) (l0 l1 : Option AV) (s0 s1 s2 : AV) (M : Mem) (S : Sh) : go r 105 853 [l0, l1] [s0, s1, s2] M S = go r 105 855 [l0, l1] [aI 75, s0, s1, s2] M S := go_nx rfl rfl
set_option maxRecDepth 20000 in
theorem g105_855 (r : Nat) (l0 l1 : Option AV) (s0 s1 s2 s3 : AV) (M : Mem) (S : Sh) : go r 105 855 [l0, l1] [s0, s1, s2, s3] M S = go r 105 857 [l0, l1] [aI 32, s0, s1, s2, s3] M S := go_nx rfl rfl
set_option maxRecDepth 20000 in
theorem g105_857 (r : Nat) (l0 l1 : Option AV) (s0 s1 : AV) (x y : Int) (a : Nat) (M : Mem) (S : Sh) (h : S.1 a = 7) (h6 : 6 ≤ a) (h0 : 0 ≤ x) (h1 : x < S.2.1 a) : go r 105 857 [l0, l1] [aI y, aI x, aR a, s0, s1] M S = go r 105 858 [l0, l1] [s0, s1] (mset M a x.toNat y) S := go_bnd rfl ⟨h, h6, h0, h1⟩ rfl
set_option maxRecDepth 20000 in
theorem g105_858 (r : Nat) (l0 l1 : Option AV) (s0 : AV) (a : Nat) (M : Mem) (S : Sh) : go r 105 858 [l0, l1] [aR a, s0] M S = go r 105 859 [l0, l1] [aR a, aR a, s0] M S := go_nx rfl rfl
set_option maxRecDepth 20000 in
theorem g105_859 (r : Nat) (l0 l1 : Option AV) (s0 s1 s2 : AV) (M : Mem) (S : Sh) : go r 105 859 [l0, l1] [s0, s1, s2] M S = go r 105 861 [l0, l1] [aI 76, s0, s1, s2] M S := go_nx rfl rfl
set_option maxRecDepth 20000 in
theorem g105_861 (r : Nat) (l0 l1 : Option AV) (s0 s1 s2 s3 : AV) (M : Mem) (S : Sh) : go r 105 861 [l0, l1] [s0, s1, s2, s3] M S = go r 105 863 [l0, l1] [aI 32, s0, s1, s2, s3] M S := go_nx rfl rfl
set_option maxRecDepth 20000 in
theorem g105_863 (r : Nat) (l0 l1 : Option AV) (s0 s1 : AV) (x y : Int) (a : Nat) (M : Mem) (S : Sh) (h : S.1 a = 7) (h6 : 6 ≤ a) (h0 : 0 ≤ x) (h1 : x < S.2.1 a) : go r 105 863 [l0, l1] [aI y, aI x, aR a, s0, s1] M S = go r 105 864 [l0, l1] [s0, s1] (mset M a x.toNat y) S := go_bnd rfl ⟨h, h6, h0, h1⟩ rfl
set_option maxRecDepth 20000 in
theorem g105_864 (r : Nat) (l0 l1 : Option AV) (s0 : AV) (a : Nat) (M : Mem) (S : Sh) : go r 105 864 [l0, l1] [aR a, s0] M S = go r 105 865 [l0, l1] [aR a, aR a, s0] M S := go_nx rfl rfl
set_option maxRecDepth 20000 in
theorem g105_865 (r : Nat) (l0 l1 : Option AV) (s0 s1 s2 : AV) (M : Mem) (S : Sh) : go r 105 865 [l0, l1] [s0, s1, s2] M S = go r 105 867 [l0, l1] [aI 77, s0, s1, s2] M S := go_nx rfl rfl
set_option maxRecDepth 20000 in
theorem g105_867 (r : Nat) (l0 l1 : Option AV) (s0 s1 s2 s3 : AV) (M : Mem) (S : Sh) : go r 105 867 [l0, l1] [s0, s1, s2, s3] M S = go r 105 869 [l0, l1] [aI 32, s0, s1, s2, s3] M S := go_nx rfl rfl
set_option maxRecDepth 20000 in
theorem g105_869 (r : Nat) (l0 l1 : Option AV) (s0 s1 : AV) (x y : Int) (a : Nat) (M : Mem) (S : Sh) (h : S.1 a = 7) (h6 : 6 ≤ a) (h0 : 0 ≤ x) (h1 : x < S.2.1 a) : go r 105 869 [l0, l1] [aI y, aI x, aR a, s0, s1] M S = go r 105 870 [l0, l1] [s0, s1] (mset M a x.toNat y) S := go_bnd rfl ⟨h, h6, h0, h1⟩ rfl
set_option maxRecDepth 20000 in
theorem g105_870 (r : Nat) (l0 l1 : Option AV) (s0 : AV) (a : Nat) (M : Mem) (S : Sh) : go r 105 870 [l0, l1] [aR a, s0] M S = go r 105 871 [l0, l1] [aR a, aR a, s0] M S := go_nx rfl rfl
set_option maxRecDepth 20000 in
theorem g105_871 (r : Nat) (l0 l1 : Option AV) (s0 s1 s2 : AV) (M : Mem) (S : Sh) : go r 105 871 [l0, l1] [s0, s1, s2] M S = go r 105 873 [l0, l1] [aI 78, s0, s1, s2] M S := go_nx rfl rfl
set_option maxRecDepth 20000 in
theorem g105_873 (r : Nat) (l0 l1 : Option AV) (s0 s1 s2 s3 : AV) (M : Mem) (S : Sh) : go r 105 873 [l0, l1] [s0, s1, s2, s3] M S = go r 105 875 [l0, l1] [aI 32, s0, s1, s2, s3] M S := go_nx rfl rfl
set_option maxRecDepth 20000 in
theorem g105_875 (r : Nat) (l0 l1 : Option AV) (s0 s1 : AV) (x y : Int) (a : Nat) (M : Mem) (S : Sh) (h : S.1 a = 7) (h6 : 6 ≤ a) (h0 : 0 ≤ x) (h1 : x < S.2.1 a) : go r 105 875 [l0, l1] [aI y, aI x, aR a, s0, s1] M S = go r 105 876 [l0, l1] [s0, s1] (mset M a x.toNat y) S := go_bnd rfl ⟨h, h6, h0, h1⟩ rfl
set_option maxRecDepth 20000 in
theorem g105_876 (r : Nat) (l0 l1 : Option AV) (s0 : AV) (a : Nat) (M : Mem) (S : Sh) : go r 105 876 [l0, l1] [aR a, s0] M S = go r 105 877 [l0, l1] [aR a, aR a, s0] M S := go_nx rfl rfl
set_option maxRecDepth 20000 in
theorem g105_877 (r : Nat) (l0 l1 : Option AV) (s0 s1 s2 : AV) (M : Mem) (S : Sh) : go r 105 877 [l0, l1] [s0, s1, s2] M S = go r 105 879 [l0, l1] [aI 79, s0, s1, s2] M S := go_nx rfl rfl
set_option maxRecDepth 20000 in
theorem g105_879 (r : Nat) (l0 l1 : Option AV) (s0 s1 s2 s3 : AV) (M : Mem) (S : Sh) : go r 105 879 [l0, l1] [s0, s1, s2, s3] M S = go r 105 881 [l0, l1] [aI 32, s0, s1, s2, s3] M S := go_nx rfl rfl
set_option maxRecDepth 20000 in
theorem g105_881 (r : Nat) (l0 l1 : Option AV) (s0 s1 : AV) (x y : Int) (a : Nat) (M : Mem) (S : Sh) (h : S.1 a = 7) (h6 : 6 ≤ a) (h0 : 0 ≤ x) (h1 : x < S.2.1 a) : go r 105 881 [l0, l1] [aI y, aI x, aR a, s0, s1] M S = go r 105 882 [l0, l1] [s0, s1] (mset M a x.toNat y) S := go_bnd rfl ⟨h, h6, h0, h1⟩ rfl
set_option maxRecDepth 20000 in
theorem g105_882 (r : Nat) (l0 l1 : Option AV) (s0 : AV) (a : Nat) (M : Mem) (S : Sh) : go r 105 882 [l0, l1] [aR a, s0] M S = go r 105 883 [l0, l1] [aR a, aR a, s0] M S := go_nx rfl rfl
set_option maxRecDepth 20000 in
theorem g105_883 (r : Nat) (l0 l1 : Option AV) (s0 s1 s2 : AV) (M : Mem) (S : Sh) : go r 105 883 [l0, l1] [s0, s1, s2] M S = go r 105 885 [l0, l1] [aI 80, s0, s1, s2] M S := go_nx rfl rfl
set_option maxRecDepth 20000 in
theorem g105_885 (r : Nat) (l0 l1 : Option AV) (s0 s1 s2 s3 : AV) (M : Mem) (S : Sh) : go r 105 885 [l0, l1] [s0, s1, s2, s3] M S = go r 105 887 [l0, l1] [aI 97, s0, s1, s2, s3] M S := go_nx rfl rfl
set_option maxRecDepth 20000 in
theorem g105_887 (r : Nat) (l0 l1 : Option AV) (s0 s1 : AV) (x y : Int) (a : Nat) (M : Mem) (S : Sh) (h : S.1 a = 7) (h6 : 6 ≤ a) (h0 : 0 ≤ x) (h1 : x < S.2.1 a) : go r 105 887 [l0, l1] [aI y, aI x, aR a, s0, s1] M S = go r 105 888 [l0, l1] [s0, s1] (mset M a x.toNat y) S := go_bnd rfl ⟨h, h6, h0, h1⟩ rfl
set_option maxRecDepth 20000 in
theorem g105_888 (r : Nat) (l0 l1 : Option AV) (s0 : AV) (a : Nat) (M : Mem) (S : Sh) : go r 105 888 [l0, l1] [aR a, s0] M S = go r 105 889 [l0, l1] [aR a, aR a, s0] M S := go_nx rfl rfl
set_option maxRecDepth 20000 in
theorem g105_889 (r : Nat) (l0 l1 : Option AV) (s0 s1 s2 : AV) (M : Mem) (S : Sh) : go r 105 889 [l0, l1] [s0, s1, s2] M S = go r 105 891 [l0, l1] [aI 81, s0, s1, s2] M S := go_nx rfl rfl
set_option maxRecDepth 20000 in
theorem g105_891 (r : Nat) (l0 l1 : Option AV) (s0 s1 s2 s3 : AV) (M : Mem) (S : Sh) : go r 105 891 [l0, l1] [s0, s1, s2, s3] M S = go r 105 893 [l0, l1] [aI 110, s0, s1, s2, s3] M S := go_nx rfl rfl
set_option maxRecDepth 20000 in
theorem g105_893 (r : Nat) (l0 l1 : Option AV) (s0 s1 : AV) (x y : Int) (a : Nat) (M : Mem) (S : Sh) (h : S.1 a = 7) (h6 : 6 ≤ a) (h0 : 0 ≤ x) (h1 : x < S.2.1 a) : go r 105 893 [l0, l1] [aI y, aI x, aR a, s0, s1] M S = go r 105 894 [l0, l1] [s0, s1] (mset M a x.toNat y) S := go_bnd rfl ⟨h, h6, h0, h1⟩ rfl
set_option maxRecDepth 20000 in
theorem g105_894 (r : Nat) (l0 l1 : Option AV) (s0 : AV) (a : Nat) (M : Mem) (S : Sh) : go r 105 894 [l0, l1] [aR a, s0] M S = go r 105 895 [l0, l1] [aR a, aR a, s0] M S := go_nx rfl rfl
set_option maxRecDepth 20000 in
theorem g105_895 (r : Nat) (l0 l1 : Option AV) (s0 s1 s2 : AV) (M : Mem) (S : Sh) : go r 105 895 [l0, l1] [s0, s1, s2] M S = go r 105 897 [l0, l1] [aI 82, s0, s1, s2] M S := go_nx rfl rfl
set_option maxRecDepth 20000 in
theorem g105_897 (r : Nat) (l0 l1 : Option AV) (s0 s1 s2 s3 : AV) (M : Mem) (S : Sh) : go r 105 897 [l0, l1] [s0, s1, s2, s3] M S = go r 105 899 [l0, l1] [aI 100, s0, s1, s2, s3] M S := go_nx rfl rfl
set_option maxRecDepth 20000 in
theorem g105_899 (r : Nat) (l0 l1 : Option AV) (s0 s1 : AV) (x y : Int) (a : Nat) (M : Mem) (S : Sh) (h : S.1 a = 7) (h6 : 6 ≤ a) (h0 : 0 ≤ x) (h1 : x < S.2.1 a) : go r 105 899 [l0, l1] [aI y, aI x, aR a, s0, s1] M S = go r 105 900 [l0, l1] [s0, s1] (mset M a x.toNat y) S := go_bnd rfl ⟨h, h6, h0, h1⟩ rfl
set_option maxRecDepth 20000 in
theorem g105_900 (r : Nat) (l0 l1 : Option AV) (s0 : AV) (a : Nat) (M : Mem) (S : Sh) : go r 105 900 [l0, l1] [aR a, s0] M S = go r 105 901 [l0, l1] [aR a, aR a, s0] M S := go_nx rfl rfl
set_option maxRecDepth 20000 in
theorem g105_901 (r : Nat) (l0 l1 : Option AV) (s0 s1 s2 : AV) (M : Mem) (S : Sh) : go r 105 901 [l0, l1] [s0, s1, s2] M S = go r 105 903 [l0, l1] [aI 83, s0, s1, s2] M S := go_nx rfl rfl
set_option maxRecDepth 20000 in
theorem g105_903 (r : Nat) (l0 l1 : Option AV) (s0 s1 s2 s3 : AV) (M : Mem) (S : Sh) : go r 105 903 [l0, l1] [s0, s1, s2, s3] M S = go r 105 905 [l0, l1] [aI 32, s0, s1, s2, s3] M S := go_nx rfl rfl
set_option maxRecDepth 20000 in
theorem g105_905 (r : Nat) (l0 l1 : Option AV) (s0 s1 : AV) (x y : Int) (a : Nat) (M : Mem) (S : Sh) (h : S.1 a = 7) (h6 : 6 ≤ a) (h0 : 0 ≤ x) (h1 : x < S.2.1 a) : go r 105 905 [l0, l1] [aI y, aI x, aR a, s0, s1] M S = go r 105 906 [l0, l1] [s0, s1] (mset M a x.toNat y) S := go_bnd rfl ⟨h, h6, h0, h1⟩ rfl
set_option maxRecDepth 20000 in
theorem g105_906 (r : Nat) (l0 l1 : Option AV) (s0 : AV) (a : Nat) (M : Mem) (S : Sh) : go r 105 906 [l0, l1] [aR a, s0] M S = go r 105 907 [l0, l1] [aR a, aR a, s0] M S := go_nx rfl rfl
set_option maxRecDepth 20000 in
theorem g105_907 (r : Nat) (l0 l1 : Option AV) (s0 s1 s2 : AV) (M : Mem) (S : Sh) : go r 105 907 [l0, l1] [s0, s1, s2] M S = go r 105 909 [l0, l1] [aI 84, s0, s1, s2] M S := go_nx rfl rfl
set_option maxRecDepth 20000 in
theorem g105_909 (r : Nat) (l0 l1 : Option AV) (s0 s1 s2 s3 : AV) (M : Mem) (S : Sh) : go r 105 909 [l0, l1] [s0, s1, s2, s3] M S = go r 105 911 [l0, l1] [aI 32, s0, s1, s2, s3] M S := go_nx rfl rfl
set_option maxRecDepth 20000 in
theorem g105_911 (r : Nat) (l0 l1 : Option AV) (s0 s1 : AV) (x y : Int) (a : Nat) (M : Mem) (S : Sh) (h : S.1 a = 7) (h6 : 6 ≤ a) (h0 : 0 ≤ x) (h1 : x < S.2.1 a) : go r 105 911 [l0, l1] [aI y, aI x, aR a, s0, s1] M S = go r 105 912 [l0, l1] [s0, s1] (mset M a x.toNat y) S := go_bnd rfl ⟨h, h6, h0, h1⟩ rfl
set_option maxRecDepth 20000 in
theorem g105_912 (r : Nat) (l0 l1 : Option AV) (s0 : AV) (a : Nat) (M : Mem) (S : Sh) : go r 105 912 [l0, l1] [aR a, s0] M S = go r 105 913 [l0, l1] [aR a, aR a, s0] M S := go_nx rfl rfl
set_option maxRecDepth 20000 in
theorem g105_913 (r : Nat) (l0 l1 : Option AV) (s0 s1 s2 : AV) (M : Mem) (S : Sh) : go r 105 913 [l0, l1] [s0, s1, s2] M S = go r 105 915 [l0, l1] [aI 85, s0, s1, s2] M S := go_nx rfl rfl
set_option maxRecDepth 20000 in
theorem g105_915 (r : Nat) (l0 l1 : Option AV) (s0 s1 s2 s3 : AV) (M : Mem) (S : Sh) : go r 105 915 [l0, l1] [s0, s1, s2, s3] M S = go r 105 917 [l0, l1] [aI 32, s0, s1, s2, s3] M S := go_nx rfl rfl
set_option maxRecDepth 20000 in
theorem g105_917 (r : Nat) (l0 l1 : Option AV) (s0 s1 : AV) (x y : Int) (a : Nat) (M : Mem) (S : Sh) (h : S.1 a = 7) (h6 : 6 ≤ a) (h0 : 0 ≤ x) (h1 : x < S.2.1 a) : go r 105 917 [l0, l1] [aI y, aI x, aR a, s0, s1] M S = go r 105 918 [l0, l1] [s0, s1] (mset M a x.toNat y) S := go_bnd rfl ⟨h, h6, h0, h1⟩ rfl
set_option maxRecDepth 20000 in
theorem g105_918 (r : Nat) (l0 l1 : Option AV) (s0 : AV) (a : Nat) (M : Mem) (S : Sh) : go r 105 918 [l0, l1] [aR a, s0] M S = go r 105 919 [l0, l1] [aR a, aR a, s0] M S := go_nx rfl rfl
set_option maxRecDepth 20000 in
theorem g105_919 (r : Nat) (l0 l1 : Option AV) (s0 s1 s2 : AV) (M : Mem) (S : Sh) : go r 105 919 [l0, l1] [s0, s1, s2] M S = go r 105 921 [l0, l1] [aI 86, s0, s1, s2] M S := go_nx rfl rfl
set_option maxRecDepth 20000 in
theorem g105_921 (r : Nat) (l0 l1 : Option AV) (s0 s1 s2 s3 : AV) (M : Mem) (S : Sh) : go r 105 921 [l0, l1] [s0, s1, s2, s3] M S = go r 105 923 [l0, l1] [aI 32, s0, s1, s2, s3] M S := go_nx rfl rfl
set_option maxRecDepth 20000 in
theorem g105_923 (r : Nat) (l0 l1 : Option AV) (s0 s1 : AV) (x y : Int) (a : Nat) (M : Mem) (S : Sh) (h : S.1 a = 7) (h6 : 6 ≤ a) (h0 : 0 ≤ x) (h1 : x < S.2.1 a) : go r 105 923 [l0, l1] [aI y, aI x, aR a, s0, s1] M S = go r 105 924 [l0, l1] [s0, s1] (mset M a x.toNat y) S := go_bnd rfl ⟨h, h6, h0, h1⟩ rfl
set_option maxRecDepth 20000 in
theorem g105_924 (r : Nat) (l0 l1 : Option AV) (s0 : AV) (a : Nat) (M : Mem) (S : Sh) : go r 105 924 [l0, l1] [aR a, s0] M S = go r 105 925 [l0, l1] [aR a, aR a, s0] M S := go_nx rfl rfl
set_option maxRecDepth 20000 in
theorem g105_925 (r : Nat) (l0 l1 : Option AV) (s0 s1 s2 : AV) (M : Mem) (S : Sh) : go r 105 925 [l0, l1] [s0, s1, s2] M S = go r 105 927 [l0, l1] [aI 87, s0, s1, s2] M S := go_nx rfl rfl
set_option maxRecDepth 20000 in
theorem g105_927 (r : Nat) (l0 l1 : Option AV) (s0 s1 s2 s3 : AV) (M : Mem) (S : Sh) : go r 105 927 [l0, l1] [s0, s1, s2, s3] M S = go r 105 929 [l0, l1] [aI 32, s0, s1, s2, s3] M S := go_nx rfl rfl
set_option maxRecDepth 20000 in
theorem g105_929 (r : Nat) (l0 l1 : Option AV) (s0 s1 : AV) (x y : Int) (a : Nat) (M : Mem) (S : Sh) (h : S.1 a = 7) (h6 : 6 ≤ a) (h0 : 0 ≤ x) (h1 : x < S.2.1 a) : go r 105 929 [l0, l1] [aI y, aI x, aR a, s0, s1] M S = go r 105 930 [l0, l1] [s0, s1] (mset M a x.toNat y) S := go_bnd rfl ⟨h, h6, h0, h1⟩ rfl
set_option maxRecDepth 20000 in
theorem g105_930 (r : Nat) (l0 l1 : Option AV) (s0 : AV) (a : Nat) (M : Mem) (S : Sh) : go r 105 930 [l0, l1] [aR a, s0] M S = go r 105 931 [l0, l1] [aR a, aR a, s0] M S := go_nx rfl rfl
set_option maxRecDepth 20000 in
theorem g105_931 (r : Nat) (l0 l1 : Option AV) (s0 s1 s2 : AV) (M : Mem) (S : Sh) : go r 105 931 [l0, l1] [s0, s1, s2] M S = go r 105 933 [l0, l1] [aI 88, s0, s1, s2] M S := go_nx rfl rfl
set_option maxRecDepth 20000 in
theorem g105_933 (r : Nat) (l0 l1 : Option AV) (s0 s1 s2 s3 : AV) (M : Mem) (S : Sh) : go r 105 933 [l0, l1] [s0, s1, s2, s3] M S = go r 105 935 [l0, l1] [aI 110, s0, s1, s2, s3] M S := go_nx rfl rfl
set_option maxRecDepth 20000 in
theorem g105_935 (r : Nat) (l0 l1 : Option AV) (s0 s1 : AV) (x y : Int) (a : Nat) (M : Mem) (S : Sh) (h : S.1 a = 7) (h6 : 6 ≤ a) (h0 : 0 ≤ x) (h1 : x < S.2.1 a) : go r 105 935 [l0, l1] [aI y, aI x, aR a, s0, s1] M S = go r 105 936 [l0, l1] [s0, s1] (mset M a x.toNat y) S := go_bnd rfl ⟨h, h6, h0, h1⟩ rfl
set_option maxRecDepth 20000 in
theorem g105_936 (r : Nat) (l0 l1 : Option AV) (s0 : AV) (a : Nat) (M : Mem) (S : Sh) : go r 105 936 [l0, l1] [aR a, s0] M S = go r 105 937 [l0, l1] [aR a, aR a, s0] M S := go_nx rfl rfl
set_option maxRecDepth 20000 in
theorem g105_937 (r : Nat) (l0 l1 : Option AV) (s0 s1 s2 : AV) (M : Mem) (S : Sh) : go r 105 937 [l0, l1] [s0, s1, s2] M S = go r 105 939 [l0, l1] [aI 89, s0, s1, s2] M S := go_nx rfl rfl
set_option maxRecDepth 20000 in
theorem g105_939 (r : Nat) (l0 l1 : Option AV) (s0 s1 s2 s3 : AV) (M : Mem) (S : Sh) : go r 105 939 [l0, l1] [s0, s1, s2, s3] M S = go r 105 941 [l0, l1] [aI 111, s0, s1, s2, s3] M S := go_nx rfl rfl
set_option maxRecDepth 20000 in
theorem g105_941 (r : Nat) (l0 l1 : Option AV) (s0 s1 : AV) (x y : Int) (a : Nat) (M : Mem) (S : Sh) (h : S.1 a = 7) (h6 : 6 ≤ a) (h0 : 0 ≤ x) (h1 : x < S.2.1 a) : go r 105 941 [l0, l1] [aI y, aI x, aR a, s0, s1] M S = go r 105 942 [l0, l1] [s0, s1] (mset M a x.toNat y) S := go_bnd rfl ⟨h, h6, h0, h1⟩ rfl
set_option maxRecDepth 20000 in
theorem g105_942 (r : Nat) (l0 l1 : Option AV) (s0 : AV) (a : Nat) (M : Mem) (S : Sh) : go r 105 942 [l0, l1] [aR a, s0] M S = go r 105 943 [l0, l1] [aR a, aR a, s0] M S := go_nx rfl rfl
set_option maxRecDepth 20000 in
theorem g105_943 (r : Nat) (l0 l1 : Option AV) (s0 s1 s2 : AV) (M : Mem) (S : Sh) : go r 105 943 [l0, l1] [s0, s1, s2] M S = go r 105 945 [l0, l1] [aI 90, s0, s1, s2] M S := go_nx rfl rfl
set_option maxRecDepth 20000 in
theorem g105_945 (r : Nat) (l0 l1 : Option AV) (s0 s1 s2 s3 : AV) (M : Mem) (S : Sh) : go r 105 945 [l0, l1] [s0, s1, s2, s3] M S = go r 105 947 [l0, l1] [aI 116, s0, s1, s2, s3] M S := go_nx rfl rfl
set_option maxRecDepth 20000 in
theorem g105_947 (r : Nat) (l0 l1 : Option AV) (s0 s1 : AV) (x y : Int) (a : Nat) (M : Mem) (S : Sh) (h : S.1 a = 7) (h6 : 6 ≤ a) (h0 : 0 ≤ x) (h1 : x < S.2.1 a) : go r 105 947 [l0, l1] [aI y, aI x, aR a, s0, s1] M S = go r 105 948 [l0, l1] [s0, s1] (mset M a x.toNat y) S := go_bnd rfl ⟨h, h6, h0, h1⟩ rfl
set_option maxRecDepth 20000 in
theorem g105_948 (r : Nat) (l0 l1 : Option AV) (s0 : AV) (a : Nat) (M : Mem) (S : Sh) : go r 105 948 [l0, l1] [aR a, s0] M S = go r 105 949 [l0, l1] [aR a, aR a, s0] M S := go_nx rfl rfl
set_option maxRecDepth 20000 in
theorem g105_949 (r : Nat) (l0 l1 : Option AV) (s0 s1 s2 : AV) (M : Mem) (S : Sh) : go r 105 949 [l0, l1] [s0, s1, s2] M S = go r 105 951 [l0, l1] [aI 91, s0, s1, s2] M S := go_nx rfl rfl
set_option maxRecDepth 20000 in
theorem g105_951 (r : Nat) (l0 l1 : Option AV) (s0 s1 s2 s3 : AV) (M : Mem) (S : Sh) : go r 105 951 [l0, l1] [s0, s1, s2, s3] M S = go r 105 953 [l0, l1] [aI 32, s0, s1, s2, s3] M S := go_nx rfl rfl
set_option maxRecDepth 20000 in
theorem g105_953 (r : Nat) (l0 l1 : Option AV) (s0 s1 : AV) (x y : Int) (a : Nat) (M : Mem) (S : Sh) (h : S.1 a = 7) (h6 : 6 ≤ a) (h0 : 0 ≤ x) (h1 : x < S.2.1 a) : go r 105 953 [l0, l1] [aI y, aI x, aR a, s0, s1] M S = go r 105 954 [l0, l1] [s0, s1] (mset M a x.toNat y) S := go_bnd rfl ⟨h, h6, h0, h1⟩ rfl
set_option maxRecDepth 20000 in
theorem g105_954 (r : Nat) (l0 l1 : Option AV) (s0 : AV) (a : Nat) (M : Mem) (S : Sh) : go r 105 954 [l0, l1] [aR a, s0] M S = go r 105 955 [l0, l1] [aR a, aR a, s0] M S := go_nx rfl rfl
set_option maxRecDepth 20000 in
theorem g105_955 (r : Nat) (l0 l1 : Option AV) (s0 s1 s2 : AV) (M : Mem) (S : Sh) : go r 105 955 [l0, l1] [s0, s1, s2] M S = go r 105 957 [l0, l1] [aI 92, s0, s1, s2] M S := go_nx rfl rfl
set_option maxRecDepth 20000 in
theorem g105_957 (r : Nat) (l0 l1 : Option AV) (s0 s1 s2 s3 : AV) (M : Mem) (S : Sh) : go r 105 957 [l0, l1] [s0, s1, s2, s3] M S = go r 105 959 [l0, l1] [aI 32, s0, s1, s2, s3] M S := go_nx rfl rfl
set_option maxRecDepth 20000 in
theorem g105_959 (r : Nat) (l0 l1 : Option AV) (s0 s1 : AV) (x y : Int) (a : Nat) (M : Mem) (S : Sh) (h : S.1 a = 7) (h6 : 6 ≤ a) (h0 : 0 ≤ x) (h1 : x < S.2.1 a) : go r 105 959 [l0, l1] [aI y, aI x, aR a, s0, s1] M S = go r 105 960 [l0, l1] [s0, s1] (mset M a x.toNat y) S := go_bnd rfl ⟨h, h6, h0, h1⟩ rfl
set_option maxRecDepth 20000 in
theorem g105_960 (r : Nat) (l0 l1 : Option AV) (s0 : AV) (a : Nat) (M : Mem) (S : Sh) : go r 105 960 [l0, l1] [aR a, s0] M S = go r 105 961 [l0, l1] [aR a, aR a, s0] M S := go_nx rfl rfl
set_option maxRecDepth 20000 in
theorem g105_961 (r : Nat) (l0 l1 : Option AV) (s0 s1 s2 : AV) (M : Mem) (S : Sh) : go r 105 961 [l0, l1] [s0, s1, s2] M S = go r 105 963 [l0, l1] [aI 93, s0, s1, s2] M S := go_nx rfl rfl
set_option maxRecDepth 20000 in
theorem g105_963 (r : Nat) (l0 l1 : Option AV) (s0 s1 s2 s3 : AV) (M : Mem) (S : Sh) : go r 105 963 [l0, l1] [s0, s1, s2, s3] M S = go r 105 965 [l0, l1] [aI 32, s0, s1, s2, s3] M S := go_nx rfl rfl
set_option maxRecDepth 20000 in
theorem g105_965 (r : Nat) (l0 l1 : Option AV) (s0 s1 : AV) (x y : Int) (a : Nat) (M : Mem) (S : Sh) (h : S.1 a = 7) (h6 : 6 ≤ a) (h0 : 0 ≤ x) (h1 : x < S.2.1 a) : go r 105 965 [l0, l1] [aI y, aI x, aR a, s0, s1] M S = go r 105 966 [l0, l1] [s0, s1] (mset M a x.toNat y) S := go_bnd rfl ⟨h, h6, h0, h1⟩ rfl
set_option maxRecDepth 20000 in
theorem g105_966 (r : Nat) (l0 l1 : Option AV) (s0 : AV) (a : Nat) (M : Mem) (S : Sh) : go r 105 966 [l0, l1] [aR a, s0] M S = go r 105 967 [l0, l1] [aR a, aR a, s0] M S := go_nx rfl rfl
set_option maxRecDepth 20000 in
theorem g105_967 (r : Nat) (l0 l1 : Option AV) (s0 s1 s2 : AV) (M : Mem) (S : Sh) : go r 105 967 [l0, l1] [s0, s1, s2] M S = go r 105 969 [l0, l1] [aI 94, s0, s1, s2] M S := go_nx rfl rfl
set_option maxRecDepth 20000 in
theorem g105_969 (r : Nat) (l0 l1 : Option AV) (s0 s1 s2 s3 : AV) (M : Mem) (S : Sh) : go r 105 969 [l0, l1] [s0, s1, s2, s3] M S = go r 105 971 [l0, l1] [aI 32, s0, s1, s2, s3] M S := go_nx rfl rfl
set_option maxRecDepth 20000 in
theorem g105_971 (r : Nat) (l0 l1 : Option AV) (s0 s1 : AV) (x y : Int) (a : Nat) (M : Mem) (S : Sh) (h : S.1 a = 7) (h6 : 6 ≤ a) (h0 : 0 ≤ x) (h1 : x < S.2.1 a) : go r 105 971 [l0, l1] [aI y, aI x, aR a, s0, s1] M S = go r 105 972 [l0, l1] [s0, s1] (mset M a x.toNat y) S := go_bnd rfl ⟨h, h6, h0, h1⟩ rfl
set_option maxRecDepth 20000 in
theorem g105_972 (r : Nat) (l0 l1 : Option AV) (s0 : AV) (a : Nat) (M : Mem) (S : Sh) : go r 105 972 [l0, l1] [aR a, s0] M S = go r 105 973 [l0, l1] [aR a, aR a, s0] M S := go_nx rfl rfl
set_option maxRecDepth 20000 in
theorem g105_973 (r : Nat) (l0 l1 : Option AV) (s0 s1 s2 : AV) (M : Mem) (S : Sh) : go r 105 973 [l0, l1] [s0, s1, s2] M S = go r 105 975 [l0, l1] [aI 95, s0, s1, s2] M S := go_nx rfl rfl
set_option maxRecDepth 20000 in
theorem g105_975 (r : Nat) (l0 l1 : Option AV) (s0 s1 s2 s3 : AV) (M : Mem) (S : Sh) : go r 105 975 [l0, l1] [s0, s1, s2, s3] M S = go r 105 977 [l0, l1] [aI 32, s0, s1, s2, s3] M S := go_nx rfl rfl
set_option maxRecDepth 20000 in
theorem g105_977 (r : Nat) (l0 l1 : Option AV) (s0 s1 : AV) (x y : Int) (a : Nat) (M : Mem) (S : Sh) (h : S.1 a = 7) (h6 : 6 ≤ a) (h0 : 0 ≤ x) (h1 : x < S.2.1 a) : go r 105 977 [l0, l1] [aI y, aI x, aR a, s0, s1] M S = go r 105 978 [l0, l1] [s0, s1] (mset M a x.toNat y) S := go_bnd rfl ⟨h, h6, h0, h1⟩ rfl
set_option maxRecDepth 20000 in
theorem g105_978 (r : Nat) (l0 l1 : Option AV) (a v : Nat) (M : Mem) (S : Sh) (h : S.1 a = 6) : go r 105 978 [l0, l1] [aR v, aR a] M S = go r 105 981 [l0, l1] [] M (S.1, S.2.1, pset S.2.2.1 a 30 (some v), S.2.2.2) := go_bnd rfl h rfl
set_option maxRecDepth 20000 in
theorem g105_981 (r : Nat) (l1 : Option AV) (a : Nat) (M : Mem) (S : Sh) : go r 105 981 [some (aR a), l1] [] M S = go r 105 982 [some (aR a), l1] [aR a] M S := go_nx rfl rfl
set_option maxRecDepth 20000 in
theorem g105_982 (r : Nat) (l0 l1 : Option AV) (s0 : AV) (M : Mem) (S : Sh) : go r 105 982 [l0, l1] [s0] M S = go r 105 985 [l0, l1] [aI 200, s0] M S := go_nx rfl rfl
set_option maxRecDepth 20000 in
theorem g105_985 (r : Nat) (l0 l1 : Option AV) (s0 : AV) (x : Int) (M : Mem) (S : Sh) (h : 0 ≤ x ∧ x ≤ 100000) : go r 105 985 [l0, l1] [aI x, s0] M S = go r 105 987 [l0, l1] [aR S.2.2.2.1, s0] (mrow M S.2.2.2.1 (fun _ => 0)) (fset S.1 S.2.2.2.1 7, fset S.2.1 S.2.2.2.1 x.toNat, S.2.2.1, S.2.2.2.1 + 1, S.2.2.2.2 + x.toNat) := go_bnd rfl h rfl
set_option maxRecDepth 20000 in
theorem g105_987 (r : Nat) (l0 l1 : Option AV) (a v : Nat) (M : Mem) (S : Sh) (h : S.1 a = 6) : go r 105 987 [l0, l1] [aR v, aR a] M S = go r 105 990 [l0, l1] [] M (S.1, S.2.1, pset S.2.2.1 a 31 (some v), S.2.2.2) := go_bnd rfl h rfl
set_option maxRecDepth 20000 in
theorem g105_990 (r : Nat) (l1 : Option AV) (a : Nat) (M : Mem) (S : Sh) : go r 105 990 [some (aR a), l1] [] M S = go r 105 991 [some (aR a), l1] [aR a] M S := go_nx rfl rfl
set_option maxRecDepth 20000 in
theorem g105_991 (r : Nat) (l0 l1 : Option AV) (s0 : AV) (M : Mem) (S : Sh) : go r 105 991 [l0, l1] [s0] M S = go r 105 994 [l0, l1] [aI 200, s0] M S := go_nx rfl rfl
set_option maxRecDepth 20000 in
theorem g105_994 (r : Nat) (l0 l1 : Option AV) (s0 : AV) (x : Int) (M : Mem) (S : Sh) (h : 0 ≤ x ∧ x ≤ 100000) : go r 105 994 [l0, l1] [aI x, s0] M S = go r 105 996 [l0, l1] [aR S.2.2.2.1, s0] (mrow M S.2.2.2.1 (fun _ => 0)) (fset S.1 S.2.2.2.1 7, fset S.2.1 S.2.2.2.1 x.toNat, S.2.2.1, S.2.2.2.1 + 1, S.2.2.2.2 + x.toNat) := go_bnd rfl h rfl
set_option maxRecDepth 20000 in
theorem g105_996 (r : Nat) (l0 l1 : Option AV) (a v : Nat) (M : Mem) (S : Sh) (h : S.1 a = 6) : go r 105 996 [l0, l1] [aR v, aR a] M S = go r 105 999 [l0, l1] [] M (S.1, S.2.1, pset S.2.2.1 a 35 (some v), S.2.2.2) := go_bnd rfl h rfl
set_option maxRecDepth 20000 in
theorem g105_999 (r : Nat) (l1 : Option AV) (a : Nat) (M : Mem) (S : Sh) : go r 105 999 [some (aR a), l1] [] M S = go r 105 1000 [some (aR a), l1] [aR a] M S := go_nx rfl rfl
set_option maxRecDepth 20000 in
theorem g105_1000 (r : Nat) (l0 l1 : Option AV) (s0 : AV) (M : Mem) (S : Sh) : go r 105 1000 [l0, l1] [s0] M S = go r 105 1002 [l0, l1] [aI 6, s0] M S := go_nx rfl rfl
set_option maxRecDepth 20000 in
theorem g105_1002 (r : Nat) (l0 l1 : Option AV) (s0 : AV) (x : Int) (M : Mem) (S : Sh) (h : 0 ≤ x ∧ x ≤ 100000) : go r 105 1002 [l0, l1] [aI x, s0] M S = go r 105 1004 [l0, l1] [aR S.2.2.2.1, s0] (mrow M S.2.2.2.1 (fun _ => 0)) (fset S.1 S.2.2.2.1 7, fset S.2.1 S.2.2.2.1 x.toNat, S.2.2.1, S.2.2.2.1 + 1, S.2.2.2.2 + x.toNat) := go_bnd rfl h rfl
set_option maxRecDepth 20000 in
theorem g105_1004 (r : Nat) (l0 l1 : Option AV) (a v : Nat) (M : Mem) (S : Sh) (h : S.1 a = 6) : go r 105 1004 [l0, l1] [aR v, aR a] M S = go r 105 1007 [l0, l1] [] M (S.1, S.2.1, pset S.2.2.1 a 36 (some v), S.2.2.2) := go_bnd rfl h rfl
set_option maxRecDepth 20000 in
theorem g105_1007 (r : Nat) (l1 : Option AV) (a : Nat) (M : Mem) (S : Sh) : go r 105 1007 [some (aR a), l1] [] M S = go r 105 1008 [some (aR a), l1] [aR a] M S := go_nx rfl rfl
set_option maxRecDepth 20000 in
theorem g105_1008 (r : Nat) (l0 l1 : Option AV) (s0 : AV) (M : Mem) (S : Sh) : go r 105 1008 [l0, l1] [s0] M S = go r 105 1011 [l0, l1] [aI 192, s0] M S := go_nx rfl rfl
set_option maxRecDepth 20000 in
theorem g105_1011 (r : Nat) (l0 l1 : Option AV) (s0 : AV) (x : Int) (M : Mem) (S : Sh) (h : 0 ≤ x ∧ x ≤ 100000) : go r 105 1011 [l0, l1] [aI x, s0] M S = go r 105 1013 [l0, l1] [aR S.2.2.2.1, s0] (mrow M S.2.2.2.1 (fun _ => 0)) (fset S.1 S.2.2.2.1 7, fset S.2.1 S.2.2.2.1 x.toNat, S.2.2.1, S.2.2.2.1 + 1, S.2.2.2.2 + x.toNat) := go_bnd rfl h rfl
set_option maxRecDepth 20000 in
theorem g105_1013 (r : Nat) (l0 l1 : Option AV) (a v : Nat) (M : Mem) (S : Sh) (h : S.1 a = 6) : go r 105 1013 [l0, l1] [aR v, aR a] M S = go r 105 1016 [l0, l1] [] M (S.1, S.2.1, pset S.2.2.1 a 37 (some v), S.2.2.2) := go_bnd rfl h rfl
set_option maxRecDepth 20000 in
theorem g105_1016 (r : Nat) (l1 : Option AV) (a : Nat) (M : Mem) (S : Sh) : go r 105 1016 [some (aR a), l1] [] M S = go r 105 1017 [some (aR a), l1] [aR a] M S := go_nx rfl rfl
set_option maxRecDepth 20000 in
theorem g105_1017 (r : Nat) (l0 l1 : Option AV) (s0 : AV) (M : Mem) (S : Sh) : go r 105 1017 [l0, l1] [s0] M S = go r 105 1018 [l0, l1] [aI (-1), s0] M S := go_nx rfl rfl
set_option maxRecDepth 20000 in
theorem g105_1018 (r : Nat) (l0 l1 : Option AV) (x : Int) (a : Nat) (M : Mem) (S : Sh) (h : S.1 a = 6) : go r 105 1018 [l0, l1] [aI x, aR a] M S = go r 105 1021 [l0, l1] [] (mset M a 43 x) S := go_bnd rfl ⟨h, fun z => absurd z (by decide)⟩ rfl
set_option maxRecDepth 20000 in
theorem g105_1021 (r : Nat) (l1 : Option AV) (a : Nat) (M : Mem) (S : Sh) : go r 105 1021 [some (aR a), l1] [] M S = go r 105 1022 [some (aR a), l1] [aR a] M S := go_nx rfl rfl
set_option maxRecDepth 20000 in
theorem g105_1022 (r : Nat) (l0 l1 : Option AV) (s0 : AV) (M : Mem) (S : Sh) : go r 105 1022 [l0, l1] [s0] M S = go r 105 1024 [l0, l1] [aI 12, s0] M S := go_nx rfl rfl
set_option maxRecDepth 20000 in
theorem g105_1024 (r : Nat) (l0 l1 : Option AV) (s0 : AV) (x : Int) (M : Mem) (S : Sh) (h : 0 ≤ x ∧ x ≤ 100000) : go r 105 1024 [l0, l1] [aI x, s0] M S = go r 105 1026 [l0, l1] [aR S.2.2.2.1, s0] (mrow M S.2.2.2.1 (fun _ => 0)) (fset S.1 S.2.2.2.1 7, fset S.2.1 S.2.2.2.1 x.toNat, S.2.2.1, S.2.2.2.1 + 1, S.2.2.2.2 + x.toNat) := go_bnd rfl h rfl
set_option maxRecDepth 20000 in
theorem g105_1026 (r : Nat) (l0 l1 : Option AV) (a v : Nat) (M : Mem) (S : Sh) (h : S.1 a = 6) : go r 105 1026 [l0, l1] [aR v, aR a] M S = go r 105 1029 [l0, l1] [] M (S.1, S.2.1, pset S.2.2.1 a 44 (some v), S.2.2.2) := go_bnd rfl h rfl
set_option maxRecDepth 20000 in
theorem g105_1029 (r : Nat) (l1 : Option AV) (a : Nat) (M : Mem) (S : Sh) : go r 105 1029 [some (aR a), l1] [] M S = go r 105 1030 [some (aR a), l1] [aR a] M S := go_nx rfl rfl
set_option maxRecDepth 20000 in
theorem g105_1030 (r : Nat) (l0 l1 : Option AV) (s0 : AV) (M : Mem) (S : Sh) : go r 105 1030 [l0, l1] [s0] M S = go r 105 1032 [l0, l1] [aI 12, s0] M S := go_nx rfl rfl
set_option maxRecDepth 20000 in
theorem g105_1032 (r : Nat) (l0 l1 : Option AV) (s0 : AV) (x : Int) (M : Mem) (S : Sh) (h : 0 ≤ x ∧ x ≤ 100000) : go r 105 1032 [l0, l1] [aI x, s0] M S = go r 105 1034 [l0, l1] [aR S.2.2.2.1, s0] (mrow M S.2.2.2.1 (fun _ => 0)) (fset S.1 S.2.2.2.1 7, fset S.2.1 S.2.2.2.1 x.toNat, S.2.2.1, S.2.2.2.1 + 1, S.2.2.2.2 + x.toNat) := go_bnd rfl h rfl
set_option maxRecDepth 20000 in
theorem g105_1034 (r : Nat) (l0 l1 : Option AV) (a v : Nat) (M : Mem) (S : Sh) (h : S.1 a = 6) : go r 105 1034 [l0, l1] [aR v, aR a] M S = go r 105 1037 [l0, l1] [] M (S.1, S.2.1, pset S.2.2.1 a 45 (some v), S.2.2.2) := go_bnd rfl h rfl
set_option maxRecDepth 20000 in
theorem g105_1037 (r : Nat) (l1 : Option AV) (a : Nat) (M : Mem) (S : Sh) : go r 105 1037 [some (aR a), l1] [] M S = go r 105 1038 [some (aR a), l1] [aR a] M S := go_nx rfl rfl
set_option maxRecDepth 20000 in
theorem g105_1038 (r : Nat) (l0 l1 : Option AV) (s0 : AV) (M : Mem) (S : Sh) : go r 105 1038 [l0, l1] [s0] M S = go r 105 1041 [l0, l1] [aI 192, s0] M S := go_nx rfl rfl
set_option maxRecDepth 20000 in
theorem g105_1041 (r : Nat) (l0 l1 : Option AV) (s0 : AV) (x : Int) (M : Mem) (S : Sh) (h : 0 ≤ x ∧ x ≤ 100000) : go r 105 1041 [l0, l1] [aI x, s0] M S = go r 105 1043 [l0, l1] [aR S.2.2.2.1, s0] (mrow M S.2.2.2.1 (fun _ => 0)) (fset S.1 S.2.2.2.1 7, fset S.2.1 S.2.2.2.1 x.toNat, S.2.2.1, S.2.2.2.1 + 1, S.2.2.2.2 + x.toNat) := go_bnd rfl h rfl
set_option maxRecDepth 20000 in
theorem g105_1043 (r : Nat) (l0 l1 : Option AV) (a v : Nat) (M : Mem) (S : Sh) (h : S.1 a = 6) : go r 105 1043 [l0, l1] [aR v, aR a] M S = go r 105 1046 [l0, l1] [] M (S.1, S.2.1, pset S.2.2.1 a 46 (some v), S.2.2.2) := go_bnd rfl h rfl
set_option maxRecDepth 20000 in
theorem g105_1046 (r : Nat) (l0 l1 : Option AV) (M : Mem) (S : Sh) : go r 105 1046 [l0, l1] [] M S = go r 105 1047 [l0, l1] [aI 0] M S := go_nx rfl rfl
set_option maxRecDepth 20000 in
theorem g105_1047 (r : Nat) (l0 l1 : Option AV) (x : Int) (M : Mem) (S : Sh) : go r 105 1047 [l0, l1] [aI x] M S = go r 105 1048 [l0, some (aI x)] [] M S := go_nx rfl rfl
set_option maxRecDepth 20000 in
theorem g105_1048 (r : Nat) (l0 : Option AV) (x : Int) (M : Mem) (S : Sh) : go r 105 1048 [l0, some (aI x)] [] M S = go r 105 1049 [l0, some (aI x)] [aI x] M S := go_nx rfl rfl
set_option maxRecDepth 20000 in
theorem g105_1049 (r : Nat) (l0 l1 : Option AV) (s0 : AV) (M : Mem) (S : Sh) : go r 105 1049 [l0, l1] [s0] M S = go r 105 1051 [l0, l1] [aI 40, s0] M S := go_nx rfl rfl
set_option maxRecDepth 20000 in
theorem g105_1051 (r : Nat) (l0 l1 : Option AV) (x y : Int) (M : Mem) (S : Sh) : go r 105 1051 [l0, l1] [aI y, aI x] M S = if x ≥ y then go r 105 1072 [l0, l1] [] M S else go r 105 1054 [l0, l1] [] M S := go_br rfl rfl rfl rfl rfl
set_option maxRecDepth 20000 in
theorem g105_1054 (r : Nat) (l1 : Option AV) (a : Nat) (M : Mem) (S : Sh) : go r 105 1054 [some (aR a), l1] [] M S = go r 105 1055 [some (aR a), l1] [aR a] M S := go_nx rfl rfl
set_option maxRecDepth 20000 in
theorem g105_1055 (r : Nat) (l0 l1 : Option AV) (a : Nat) (M : Mem) (S : Sh) (h : S.1 a = 6) : go r 105 1055 [l0, l1] [aR a] M S = go r 105 1058 [l0, l1] [aO (S.2.2.1 a 12)] M S := go_bnd rfl h rfl
set_option maxRecDepth 20000 in
theorem g105_1058 (r : Nat) (l0 : Option AV) (s0 : AV) (x : Int) (M : Mem) (S : Sh) : go r 105 1058 [l0, some (aI x)] [s0] M S = go r 105 1059 [l0, some (aI x)] [aI x, s0] M S := go_nx rfl rfl
set_option maxRecDepth 20000 in
theorem g105_1059 (r : Nat) (l1 : Option AV) (s0 s1 : AV) (a : Nat) (M : Mem) (S : Sh) : go r 105 1059 [some (aR a), l1] [s0, s1] M S = go r 105 1060 [some (aR a), l1] [aR a, s0, s1] M S := go_nx rfl rfl
set_option maxRecDepth 20000 in
theorem g105_1060 (r : Nat) (l0 l1 : Option AV) (s0 s1 : AV) (a : Nat) (M : Mem) (S : Sh) (h : S.1 a = 6) : go r 105 1060 [l0, l1] [aR a, s0, s1] M S = go r 105 1063 [l0, l1] [aO (S.2.2.1 a 25), s0, s1] M S := go_bnd rfl h rfl
set_option maxRecDepth 20000 in
theorem g105_1063 (r : Nat) (l0 : Option AV) (s0 s1 s2 : AV) (x : Int) (M : Mem) (S : Sh) : go r 105 1063 [l0, some (aI x)] [s0, s1, s2] M S = go r 105 1064 [l0, some (aI x)] [aI x, s0, s1, s2] M S := go_nx rfl rfl
set_option maxRecDepth 20000 in
theorem g105_1064 (r : Nat) (l0 l1 : Option AV) (s0 s1 : AV) (x : Int) (a : Nat) (M : Mem) (S : Sh) (h : S.1 a = 7) (h0 : 0 ≤ x) (h1 : x < S.2.1 a) : go r 105 1064 [l0, l1] [aI x, aR a, s0, s1] M S = go r 105 1065 [l0, l1] [aI (M a x.toNat), s0, s1] M S := go_bnd rfl ⟨h, h0, h1⟩ rfl
set_option maxRecDepth 20000 in
theorem g105_1065 (r : Nat) (l0 l1 : Option AV) (x y : Int) (a : Nat) (M : Mem) (S : Sh) (h : S.1 a = 7) (h6 : 6 ≤ a) (h0 : 0 ≤ x) (h1 : x < S.2.1 a) : go r 105 1065 [l0, l1] [aI y, aI x, aR a] M S = go r 105 1066 [l0, l1] [] (mset M a x.toNat y) S := go_bnd rfl ⟨h, h6, h0, h1⟩ rfl
set_option maxRecDepth 20000 in
theorem g105_1066 (r : Nat) (l0 : Option AV) (x : Int) (M : Mem) (S : Sh) : go r 105 1066 [l0, some (aI x)] [] M S = go r 105 1069 [l0, some (aI (w32 (x + 1)))] [] M S := go_nx rfl rfl
set_option maxRecDepth 20000 in
theorem g105_1069 (r : Nat) (l0 l1 : Option AV) (M : Mem) (S : Sh) : go r 105 1069 [l0, l1] [] M S = go r 105 1048 [l0, l1] [] M S := go_nx rfl rfl
set_option maxRecDepth 20000 in
theorem g105_1072 (r : Nat) (l1 : Option AV) (a : Nat) (M : Mem) (S : Sh) : go r 105 1072 [some (aR a), l1] [] M S = go r 105 1073 [some (aR a), l1] [aR a] M S := go_nx rfl rfl
set_option maxRecDepth 20000 in
theorem g105_1073 (r : Nat) (l0 l1 : Option AV) (s0 : AV) (M : Mem) (S : Sh) : go r 105 1073 [l0, l1] [s0] M S = go r 105 1075 [l0, l1] [aI 40, s0] M S := go_nx rfl rfl
set_option maxRecDepth 20000 in
theorem g105_1075 (r : Nat) (l0 l1 : Option AV) (x : Int) (a : Nat) (M : Mem) (S : Sh) (h : S.1 a = 6) : go r 105 1075 [l0, l1] [aI x, aR a] M S = go r 105 1078 [l0, l1] [] (mset M a 13 x) S := go_bnd rfl ⟨h, fun z => absurd z (by decide)⟩ rfl
set_option maxRecDepth 20000 in
theorem g105_1078 (r : Nat) (l1 : Option AV) (a : Nat) (M : Mem) (S : Sh) : go r 105 1078 [some (aR a), l1] [] M S = go r 105 1079 [some (aR a), l1] [aR a] M S := go_nx rfl rfl
set_option maxRecDepth 20000 in
theorem g105_1079 (r : Nat) (l0 l1 : Option AV) (a0 : Nat) (M : Mem) (S : Sh) (hk : 14 < r) (h : S.1 a0 = 6) : go r 105 1079 [l0, l1] [aR a0] M S = cont r 105 1082 [l0, l1] [] 1 (res 126 [aR a0] M S) := go_cr0 (m' := 126) (n := 1) (pc' := 1082) (hr := 1) rfl rfl rfl h rfl rfl rfl rfl hk rfl
set_option maxRecDepth 20000 in
theorem g105_1082 (r : Nat) (l0 l1 : Option AV) (x : Int) (M : Mem) (S : Sh) : go r 105 1082 [l0, l1] [aI x] M S = go r 105 1083 [l0, l1] [] M S := go_nx rfl rfl
set_option maxRecDepth 20000 in
theorem g105_1083 (r : Nat) (l0 l1 : Option AV) (M : Mem) (S : Sh) : go r 105 1083 [l0, l1] [] M S = some (none, M, S) := go_rt rfl rfl
/-- StripsFromAboveModel.in(III)Z -/
theorem g106 (x0 x1 x2 : Int) (M : Mem) (S : Sh) : res 106 [aI x0, aI x1, aI x2] M S = go 10 106 0 [some (aI x0), some (aI x1), some (aI x2)] [] M S := res_e0 rfl _ M S
theorem g106_0 (r : Nat) (l1 l2 : Option AV) (x : Int) (M : Mem) (S : Sh) : go r 106 0 [some (aI x), l1, l2] [] M S = go r 106 1 [some (aI x), l1, l2] [aI x] M S := go_nx rfl rfl
theorem g106_1 (r : Nat) (l0 l2 : Option AV) (s0 : AV) (x : Int) (M : Mem) (S : Sh) : go r 106 1 [l0, some (aI x), l2] [s0] M S = go r 106 2 [l0, some (aI x), l2] [aI x, s0] M S := go_nx rfl rfl
theorem g106_2 (r : Nat) (l0 l1 l2 : Option AV) (x y : Int) (M : Mem) (S : Sh) : go r 106 2 [l0, l1, l2] [aI y, aI x] M S = if x < y then go r 106 14 [l0, l1, l2] [] M S else go r 106 5 [l0, l1, l2] [] M S := go_br rfl rfl rfl rfl rfl
theorem g106_5 (r : Nat) (l1 l2 : Option AV) (x : Int) (M : Mem) (S : Sh) : go r 106 5 [some (aI x), l1, l2] [] M S = go r 106 6 [some (aI x), l1, l2] [aI x] M S := go_nx rfl rfl
theorem g106_6 (r : Nat) (l0 l1 : Option AV) (s0 : AV) (x : Int) (M : Mem) (S : Sh) : go r 106 6 [l0, l1, some (aI x)] [s0] M S = go r 106 7 [l0, l1, some (aI x)] [aI x, s0] M S := go_nx rfl rfl
theorem g106_7 (r : Nat) (l0 l1 l2 : Option AV) (x y : Int) (M : Mem) (S : Sh) : go r 106 7 [l0, l1, l2] [aI y, aI x] M S = if x > y then go r 106 14 [l0, l1, l2] [] M S else go r 106 10 [l0, l1, l2] [] M S := go_br rfl rfl rfl rfl rfl
theorem g106_10 (r : Nat) (l0 l1 l2 : Option AV) (M : Mem) (S : Sh) : go r 106 10 [l0, l1, l2] [] M S = go r 106 11 [l0, l1, l2] [aI 1] M S := go_nx rfl rfl
theorem g106_11 (r : Nat) (l0 l1 l2 : Option AV) (s0 : AV) (M : Mem) (S : Sh) : go r 106 11 [l0, l1, l2] [s0] M S = go r 106 15 [l0, l1, l2] [s0] M S := go_nx rfl rfl
theorem g106_14 (r : Nat) (l0 l1 l2 : Option AV) (M : Mem) (S : Sh) : go r 106 14 [l0, l1, l2] [] M S = go r 106 15 [l0, l1, l2] [aI 0] M S := go_nx rfl rfl
theorem g106_15 (r : Nat) (l0 l1 l2 : Option AV) (x : Int) (M : Mem) (S : Sh) (h : x = 0 ∨ x = 1) : go r 106 15 [l0, l1, l2] [aI x] M S = some (some (aI x), M, S) := go_rt rfl (bnd_t (Or.inr h))
/-- StripsFromAboveModel.within(III)I -/
theorem g107 (x0 x1 x2 : Int) (M : Mem) (S : Sh) : res 107 [aI x0, aI x1, aI x2] M S = go 10 107 0 [some (aI x0), some (aI x1), some (aI x2)] [] M S := res_e0 rfl _ M S
theorem g107_0 (r : Nat) (l1 l2 : Option AV) (x : Int) (M : Mem) (S : Sh) : go r 107 0 [some (aI x), l1, l2] [] M S = go r 107 1 [some (aI x), l1, l2] [aI x] M S := go_nx rfl rfl
theorem g107_1 (r : Nat) (l0 l2 : Option AV) (s0 : AV) (x : Int) (M : Mem) (S : Sh) : go r 107 1 [l0, some (aI x), l2] [s0] M S = go r 107 2 [l0, some (aI x), l2] [aI x, s0] M S := go_nx rfl rfl
theorem g107_2 (r : Nat) (l0 l1 l2 : Option AV) (x y : Int) (M : Mem) (S : Sh) : go r 107 2 [l0, l1, l2] [aI y, aI x] M S = if x ≥ y then go r 107 9 [l0, l1, l2] [] M S else go r 107 5 [l0, l1, l2] [] M S := go_br rfl rfl rfl rfl rfl
theorem g107_5 (r : Nat) (l0 l2 : Option AV) (x : Int) (M : Mem) (S : Sh) : go r 107 5 [l0, some (aI x), l2] [] M S = go r 107 6 [l0, some (aI x), l2] [aI x] M S := go_nx rfl rfl
theorem g107_6 (r : Nat) (l0 l1 l2 : Option AV) (s0 : AV) (M : Mem) (S : Sh) : go r 107 6 [l0, l1, l2] [s0] M S = go r 107 19 [l0, l1, l2] [s0] M S := go_nx rfl rfl
theorem g107_9 (r : Nat) (l1 l2 : Option AV) (x : Int) (M : Mem) (S : Sh) : go r 107 9 [some (aI x), l1, l2] [] M S = go r 107 10 [some (aI x), l1, l2] [aI x] M S := go_nx rfl rfl
theorem g107_10 (r : Nat) (l0 l1 : Option AV) (s0 : AV) (x : Int) (M : Mem) (S : Sh) : go r 107 10 [l0, l1, some (aI x)] [s0] M S = go r 107 11 [l0, l1, some (aI x)] [aI x, s0] M S := go_nx rfl rfl
theorem g107_11 (r : Nat) (l0 l1 l2 : Option AV) (x y : Int) (M : Mem) (S : Sh) : go r 107 11 [l0, l1, l2] [aI y, aI x] M S = if x ≤ y then go r 107 18 [l0, l1, l2] [] M S else go r 107 14 [l0, l1, l2] [] M S := go_br rfl rfl rfl rfl rfl
theorem g107_14 (r : Nat) (l0 l1 : Option AV) (x : Int) (M : Mem) (S : Sh) : go r 107 14 [l0, l1, some (aI x)] [] M S = go r 107 15 [l0, l1, some (aI x)] [aI x] M S := go_nx rfl rfl
theorem g107_15 (r : Nat) (l0 l1 l2 : Option AV) (s0 : AV) (M : Mem) (S : Sh) : go r 107 15 [l0, l1, l2] [s0] M S = go r 107 19 [l0, l1, l2] [s0] M S := go_nx rfl rfl
theorem g107_18 (r : Nat) (l1 l2 : Option AV) (x : Int) (M : Mem) (S : Sh) : go r 107 18 [some (aI x), l1, l2] [] M S = go r 107 19 [some (aI x), l1, l2] [aI x] M S := go_nx rfl rfl
theorem g107_19 (r : Nat) (l0 l1 l2 : Option AV) (x : Int) (M : Mem) (S : Sh) : go r 107 19 [l0, l1, l2] [aI x] M S = some (some (aI x), M, S) := go_rt rfl (bnd_t (Or.inl rfl))
/-- StripsFromAboveModel.isPlane(I)Z -/
theorem g108 (x1 : Int) (a0 : Nat) (M : Mem) (S : Sh) : res 108 [aR a0, aI x1] M S = go 11 108 0 [some (aR a0), some (aI x1)] [] M S := res_e0 rfl _ M S
theorem g108_0 (r : Nat) (l0 : Option AV) (x : Int) (M : Mem) (S : Sh) : go r 108 0 [l0, some (aI x)] [] M S = go r 108 1 [l0, some (aI x)] [aI x] M S := go_nx rfl rfl
theorem g108_1 (r : Nat) (l0 l1 : Option AV) (s0 : AV) (M : Mem) (S : Sh) : go r 108 1 [l0, l1] [s0] M S = go r 108 2 [l0, l1] [aI 0, s0] M S := go_nx rfl rfl
theorem g108_2 (r : Nat) (l1 : Option AV) (s0 s1 : AV) (a : Nat) (M : Mem) (S : Sh) : go r 108 2 [some (aR a), l1] [s0, s1] M S = go r 108 3 [some (aR a), l1] [aR a, s0, s1] M S := go_nx rfl rfl
theorem g108_3 (r : Nat) (l0 l1 : Option AV) (s0 s1 : AV) (a : Nat) (M : Mem) (S : Sh) (h : S.1 a = 6) : go r 108 3 [l0, l1] [aR a, s0, s1] M S = go r 108 6 [l0, l1] [aI (M a 5), s0, s1] M S := go_bnd rfl h rfl
theorem g108_6 (r : Nat) (l0 l1 : Option AV) (s0 s1 s2 : AV) (M : Mem) (S : Sh) : go r 108 6 [l0, l1] [s0, s1, s2] M S = go r 108 7 [l0, l1] [aI 1, s0, s1, s2] M S := go_nx rfl rfl
theorem g108_7 (r : Nat) (l0 l1 : Option AV) (s0 s1 : AV) (x y : Int) (M : Mem) (S : Sh) : go r 108 7 [l0, l1] [aI y, aI x, s0, s1] M S = go r 108 8 [l0, l1] [aI (w32 (x - y)), s0, s1] M S := go_nx rfl rfl
theorem g108_8 (r : Nat) (l0 l1 : Option AV) (x0 x1 x2 : Int) (M : Mem) (S : Sh) (hk : 10 < r) : go r 108 8 [l0, l1] [aI x2, aI x1, aI x0] M S = cont r 108 11 [l0, l1] [] 1 (res 106 [aI x0, aI x1, aI x2] M S) := go_c0 (m' := 106) (n := 3) (pc' := 11) (hr := 1) rfl rfl rfl rfl rfl rfl hk rfl
theorem g108_11 (r : Nat) (l0 l1 : Option AV) (x : Int) (M : Mem) (S : Sh) (h : x = 0 ∨ x = 1) : go r 108 11 [l0, l1] [aI x] M S = some (some (aI x), M, S) := go_rt rfl (bnd_t (Or.inr h))
/-- StripsFromAboveModel.isMile(I)Z -/
theorem g109 (x0 : Int) (M : Mem) (S : Sh) : res 109 [aI x0] M S = go 11 109 0 [some (aI x0)] [] M S := res_e0 rfl _ M S
theorem g109_0 (r : Nat) (x : Int) (M : Mem) (S : Sh) : go r 109 0 [some (aI x)] [] M S = go r 109 1 [some (aI x)] [aI x] M S := go_nx rfl rfl
theorem g109_1 (r : Nat) (l0 : Option AV) (s0 : AV) (M : Mem) (S : Sh) : go r 109 1 [l0] [s0] M S = go r 109 2 [l0] [aI 0, s0] M S := go_nx rfl rfl
theorem g109_2 (r : Nat) (l0 : Option AV) (s0 s1 : AV) (M : Mem) (S : Sh) : go r 109 2 [l0] [s0, s1] M S = go r 109 5 [l0] [aI 191, s0, s1] M S := go_nx rfl rfl
theorem g109_5 (r : Nat) (l0 : Option AV) (x0 x1 x2 : Int) (M : Mem) (S : Sh) (hk : 10 < r) : go r 109 5 [l0] [aI x2, aI x1, aI x0] M S = cont r 109 8 [l0] [] 1 (res 106 [aI x0, aI x1, aI x2] M S) := go_c0 (m' := 106) (n := 3) (pc' := 8) (hr := 1) rfl rfl rfl rfl rfl rfl hk rfl
theorem g109_8 (r : Nat) (l0 : Option AV) (x : Int) (M : Mem) (S : Sh) (h : x = 0 ∨ x = 1) : go r 109 8 [l0] [aI x] M S = some (some (aI x), M, S) := go_rt rfl (bnd_t (Or.inr h))
/-- StripsFromAboveModel.count(I)I -/
theorem g110 (x1 : Int) (a0 : Nat) (M : Mem) (S : Sh) : res 110 [aR a0, aI x1] M S = go 10 110 0 [some (aR a0), some (aI x1)] [] M S := res_e0 rfl _ M S
theorem g110_0 (r : Nat) (l0 : Option AV) (x : Int) (M : Mem) (S : Sh) : go r 110 0 [l0, some (aI x)] [] M S = go r 110 1 [l0, some (aI x)] [aI x] M S := go_nx rfl rfl
theorem g110_1c0 (r : Nat) (l0 l1 : Option AV) (M : Mem) (S : Sh) : go r 110 1 [l0, l1] [aI 0] M S = go r 110 48 [l0, l1] [] M S := go_nx rfl rfl
theorem g110_1c1 (r : Nat) (l0 l1 : Option AV) (M : Mem) (S : Sh) : go r 110 1 [l0, l1] [aI 1] M S = go r 110 53 [l0, l1] [] M S := go_nx rfl rfl
theorem g110_1c2 (r : Nat) (l0 l1 : Option AV) (M : Mem) (S : Sh) : go r 110 1 [l0, l1] [aI 2] M S = go r 110 58 [l0, l1] [] M S := go_nx rfl rfl
theorem g110_1c3 (r : Nat) (l0 l1 : Option AV) (M : Mem) (S : Sh) : go r 110 1 [l0, l1] [aI 3] M S = go r 110 63 [l0, l1] [] M S := go_nx rfl rfl
theorem g110_1c4 (r : Nat) (l0 l1 : Option AV) (M : Mem) (S : Sh) : go r 110 1 [l0, l1] [aI 4] M S = go r 110 68 [l0, l1] [] M S := go_nx rfl rfl
theorem g110_1c5 (r : Nat) (l0 l1 : Option AV) (M : Mem) (S : Sh) : go r 110 1 [l0, l1] [aI 5] M S = go r 110 73 [l0, l1] [] M S := go_nx rfl rfl
theorem g110_1c6 (r : Nat) (l0 l1 : Option AV) (M : Mem) (S : Sh) : go r 110 1 [l0, l1] [aI 6] M S = go r 110 78 [l0, l1] [] M S := go_nx rfl rfl
theorem g110_1c7 (r : Nat) (l0 l1 : Option AV) (M : Mem) (S : Sh) : go r 110 1 [l0, l1] [aI 7] M S = go r 110 83 [l0, l1] [] M S := go_nx rfl rfl
theorem g110_1d (r : Nat) (l0 l1 : Option AV) (x : Int) (M : Mem) (S : Sh) (h : x < 0 ∨ 7 < x) : go r 110 1 [l0, l1] [aI x] M S = go r 110 88 [l0, l1] [] M S := go_nx rfl (if_pos h)
theorem g110_48 (r : Nat) (l1 : Option AV) (a : Nat) (M : Mem) (S : Sh) : go r 110 48 [some (aR a), l1] [] M S = go r 110 49 [some (aR a), l1] [aR a] M S := go_nx rfl rfl
theorem g110_49 (r : Nat) (l0 l1 : Option AV) (a : Nat) (M : Mem) (S : Sh) (h : S.1 a = 6) : go r 110 49 [l0, l1] [aR a] M S = go r 110 52 [l0, l1] [aI (M a 5)] M S := go_bnd rfl h rfl
theorem g110_52 (r : Nat) (l0 l1 : Option AV) (x : Int) (M : Mem) (S : Sh) : go r 110 52 [l0, l1] [aI x] M S = some (some (aI x), M, S) := go_rt rfl (bnd_t (Or.inl rfl))
theorem g110_53 (r : Nat) (l1 : Option AV) (a : Nat) (M : Mem) (S : Sh) : go r 110 53 [some (aR a), l1] [] M S = go r 110 54 [some (aR a), l1] [aR a] M S := go_nx rfl rfl
theorem g110_54 (r : Nat) (l0 l1 : Option AV) (a : Nat) (M : Mem) (S : Sh) (h : S.1 a = 6) : go r 110 54 [l0, l1] [aR a] M S = go r 110 57 [l0, l1] [aI (M a 9)] M S := go_bnd rfl h rfl
theorem g110_57 (r : Nat) (l0 l1 : Option AV) (x : Int) (M : Mem) (S : Sh) : go r 110 57 [l0, l1] [aI x] M S = some (some (aI x), M, S) := go_rt rfl (bnd_t (Or.inl rfl))
theorem g110_58 (r : Nat) (l1 : Option AV) (a : Nat) (M : Mem) (S : Sh) : go r 110 58 [some (aR a), l1] [] M S = go r 110 59 [some (aR a), l1] [aR a] M S := go_nx rfl rfl
theorem g110_59 (r : Nat) (l0 l1 : Option AV) (a : Nat) (M : Mem) (S : Sh) (h : S.1 a = 6) : go r 110 59 [l0, l1] [aR a] M S = go r 110 62 [l0, l1] [aI (M a 2)] M S := go_bnd rfl h rfl
theorem g110_62 (r : Nat) (l0 l1 : Option AV) (x : Int) (M : Mem) (S : Sh) : go r 110 62 [l0, l1] [aI x] M S = some (some (aI x), M, S) := go_rt rfl (bnd_t (Or.inl rfl))
theorem g110_63 (r : Nat) (l1 : Option AV) (a : Nat) (M : Mem) (S : Sh) : go r 110 63 [some (aR a), l1] [] M S = go r 110 64 [some (aR a), l1] [aR a] M S := go_nx rfl rfl
theorem g110_64 (r : Nat) (l0 l1 : Option AV) (a : Nat) (M : Mem) (S : Sh) (h : S.1 a = 6) : go r 110 64 [l0, l1] [aR a] M S = go r 110 67 [l0, l1] [aI (M a 3)] M S := go_bnd rfl h rfl
theorem g110_67 (r : Nat) (l0 l1 : Option AV) (x : Int) (M : Mem) (S : Sh) : go r 110 67 [l0, l1] [aI x] M S = some (some (aI x), M, S) := go_rt rfl (bnd_t (Or.inl rfl))
theorem g110_68 (r : Nat) (l1 : Option AV) (a : Nat) (M : Mem) (S : Sh) : go r 110 68 [some (aR a), l1] [] M S = go r 110 69 [some (aR a), l1] [aR a] M S := go_nx rfl rfl
theorem g110_69 (r : Nat) (l0 l1 : Option AV) (a : Nat) (M : Mem) (S : Sh) (h : S.1 a = 6) : go r 110 69 [l0, l1] [aR a] M S = go r 110 72 [l0, l1] [aI (M a 4)] M S := go_bnd rfl h rfl
theorem g110_72 (r : Nat) (l0 l1 : Option AV) (x : Int) (M : Mem) (S : Sh) : go r 110 72 [l0, l1] [aI x] M S = some (some (aI x), M, S) := go_rt rfl (bnd_t (Or.inl rfl))
theorem g110_73 (r : Nat) (l1 : Option AV) (a : Nat) (M : Mem) (S : Sh) : go r 110 73 [some (aR a), l1] [] M S = go r 110 74 [some (aR a), l1] [aR a] M S := go_nx rfl rfl
theorem g110_74 (r : Nat) (l0 l1 : Option AV) (a : Nat) (M : Mem) (S : Sh) (h : S.1 a = 6) : go r 110 74 [l0, l1] [aR a] M S = go r 110 77 [l0, l1] [aI (M a 16)] M S := go_bnd rfl h rfl
theorem g110_77 (r : Nat) (l0 l1 : Option AV) (x : Int) (M : Mem) (S : Sh) : go r 110 77 [l0, l1] [aI x] M S = some (some (aI x), M, S) := go_rt rfl (bnd_t (Or.inl rfl))
theorem g110_78 (r : Nat) (l1 : Option AV) (a : Nat) (M : Mem) (S : Sh) : go r 110 78 [some (aR a), l1] [] M S = go r 110 79 [some (aR a), l1] [aR a] M S := go_nx rfl rfl
theorem g110_79 (r : Nat) (l0 l1 : Option AV) (a : Nat) (M : Mem) (S : Sh) (h : S.1 a = 6) : go r 110 79 [l0, l1] [aR a] M S = go r 110 82 [l0, l1] [aI (M a 17)] M S := go_bnd rfl h rfl
theorem g110_82 (r : Nat) (l0 l1 : Option AV) (x : Int) (M : Mem) (S : Sh) : go r 110 82 [l0, l1] [aI x] M S = some (some (aI x), M, S) := go_rt rfl (bnd_t (Or.inl rfl))
theorem g110_83 (r : Nat) (l1 : Option AV) (a : Nat) (M : Mem) (S : Sh) : go r 110 83 [some (aR a), l1] [] M S = go r 110 84 [some (aR a), l1] [aR a] M S := go_nx rfl rfl
theorem g110_84 (r : Nat) (l0 l1 : Option AV) (a : Nat) (M : Mem) (S : Sh) (h : S.1 a = 6) : go r 110 84 [l0, l1] [aR a] M S = go r 110 87 [l0, l1] [aI (M a 13)] M S := go_bnd rfl h rfl
theorem g110_87 (r : Nat) (l0 l1 : Option AV) (x : Int) (M : Mem) (S : Sh) : go r 110 87 [l0, l1] [aI x] M S = some (some (aI x), M, S) := go_rt rfl (bnd_t (Or.inl rfl))
theorem g110_88 (r : Nat) (l0 l1 : Option AV) (M : Mem) (S : Sh) : go r 110 88 [l0, l1] [] M S = go r 110 90 [l0, l1] [aI (-2)] M S := go_nx rfl rfl
theorem g110_90 (r : Nat) (l0 l1 : Option AV) (x : Int) (M : Mem) (S : Sh) : go r 110 90 [l0, l1] [aI x] M S = some (some (aI x), M, S) := go_rt rfl (bnd_t (Or.inl rfl))
/-- StripsFromAboveModel.set(II)I -/
theorem g111 (x1 x2 : Int) (a0 : Nat) (M : Mem) (S : Sh) : res 111 [aR a0, aI x1, aI x2] M S = go 11 111 0 [some (aR a0), some (aI x1), some (aI x2), none] [] M S := res_e0 rfl _ M S
theorem g111_0 (r : Nat) (l0 l2 l3 : Option AV) (x : Int) (M : Mem) (S : Sh) : go r 111 0 [l0, some (aI x), l2, l3] [] M S = go r 111 1 [l0, some (aI x), l2, l3] [aI x] M S := go_nx rfl rfl
theorem g111_1 (r : Nat) (l0 l1 l2 l3 : Option AV) (s0 : AV) (M : Mem) (S : Sh) : go r 111 1 [l0, l1, l2, l3] [s0] M S = go r 111 2 [l0, l1, l2, l3] [aI 0, s0] M S := go_nx rfl rfl
theorem g111_2 (r : Nat) (l0 l1 l2 l3 : Option AV) (s0 s1 : AV) (M : Mem) (S : Sh) : go r 111 2 [l0, l1, l2, l3] [s0, s1] M S = go r 111 3 [l0, l1, l2, l3] [aI 2, s0, s1] M S := go_nx rfl rfl
theorem g111_3 (r : Nat) (l0 l1 l2 l3 : Option AV) (x0 x1 x2 : Int) (M : Mem) (S : Sh) (hk : 10 < r) : go r 111 3 [l0, l1, l2, l3] [aI x2, aI x1, aI x0] M S = cont r 111 6 [l0, l1, l2, l3] [] 1 (res 106 [aI x0, aI x1, aI x2] M S) := go_c0 (m' := 106) (n := 3) (pc' := 6) (hr := 1) rfl rfl rfl rfl rfl rfl hk rfl
theorem g111_6 (r : Nat) (l0 l1 l2 l3 : Option AV) (x : Int) (M : Mem) (S : Sh) : go r 111 6 [l0, l1, l2, l3] [aI x] M S = if x ≠ 0 then go r 111 12 [l0, l1, l2, l3] [] M S else go r 111 9 [l0, l1, l2, l3] [] M S := go_br rfl rfl rfl rfl rfl
theorem g111_9 (r : Nat) (l0 l1 l2 l3 : Option AV) (M : Mem) (S : Sh) : go r 111 9 [l0, l1, l2, l3] [] M S = go r 111 11 [l0, l1, l2, l3] [aI (-105)] M S := go_nx rfl rfl
theorem g111_11 (r : Nat) (l0 l1 l2 l3 : Option AV) (x : Int) (M : Mem) (S : Sh) : go r 111 11 [l0, l1, l2, l3] [aI x] M S = some (some (aI x), M, S) := go_rt rfl (bnd_t (Or.inl rfl))
theorem g111_12 (r : Nat) (l0 l2 l3 : Option AV) (x : Int) (M : Mem) (S : Sh) : go r 111 12 [l0, some (aI x), l2, l3] [] M S = go r 111 13 [l0, some (aI x), l2, l3] [aI x] M S := go_nx rfl rfl
theorem g111_13 (r : Nat) (l0 l1 l2 l3 : Option AV) (x : Int) (M : Mem) (S : Sh) : go r 111 13 [l0, l1, l2, l3] [aI x] M S = if x ≠ 0 then go r 111 29 [l0, l1, l2, l3] [] M S else go r 111 16 [l0, l1, l2, l3] [] M S := go_br rfl rfl rfl rfl rfl
theorem g111_16 (r : Nat) (l0 l1 l3 : Option AV) (x : Int) (M : Mem) (S : Sh) : go r 111 16 [l0, l1, some (aI x), l3] [] M S = go r 111 17 [l0, l1, some (aI x), l3] [aI x] M S := go_nx rfl rfl
theorem g111_17 (r : Nat) (l0 l1 l2 l3 : Option AV) (s0 : AV) (M : Mem) (S : Sh) : go r 111 17 [l0, l1, l2, l3] [s0] M S = go r 111 19 [l0, l1, l2, l3] [aI (-5), s0] M S := go_nx rfl rfl
theorem g111_19 (r : Nat) (l0 l1 l2 l3 : Option AV) (s0 s1 : AV) (M : Mem) (S : Sh) : go r 111 19 [l0, l1, l2, l3] [s0, s1] M S = go r 111 20 [l0, l1, l2, l3] [aI 5, s0, s1] M S := go_nx rfl rfl
theorem g111_20 (r : Nat) (l0 l1 l2 l3 : Option AV) (x0 x1 x2 : Int) (M : Mem) (S : Sh) (hk : 10 < r) : go r 111 20 [l0, l1, l2, l3] [aI x2, aI x1, aI x0] M S = cont r 111 23 [l0, l1, l2, l3] [] 1 (res 106 [aI x0, aI x1, aI x2] M S) := go_c0 (m' := 106) (n := 3) (pc' := 23) (hr := 1) rfl rfl rfl rfl rfl rfl hk rfl
theorem g111_23 (r : Nat) (l0 l1 l2 l3 : Option AV) (x : Int) (M : Mem) (S : Sh) : go r 111 23 [l0, l1, l2, l3] [aI x] M S = if x ≠ 0 then go r 111 64 [l0, l1, l2, l3] [] M S else go r 111 26 [l0, l1, l2, l3] [] M S := go_br rfl rfl rfl rfl rfl
theorem g111_26 (r : Nat) (l0 l1 l2 l3 : Option AV) (M : Mem) (S : Sh) : go r 111 26 [l0, l1, l2, l3] [] M S = go r 111 61 [l0, l1, l2, l3] [] M S := go_nx rfl rfl
theorem g111_29 (r : Nat) (l0 l2 l3 : Option AV) (x : Int) (M : Mem) (S : Sh) : go r 111 29 [l0, some (aI x), l2, l3] [] M S = go r 111 30 [l0, some (aI x), l2, l3] [aI x] M S := go_nx rfl rfl
theorem g111_30 (r : Nat) (l0 l1 l2 l3 : Option AV) (s0 : AV) (M : Mem) (S : Sh) : go r 111 30 [l0, l1, l2, l3] [s0] M S = go r 111 31 [l0, l1, l2, l3] [aI 1, s0] M S := go_nx rfl rfl
theorem g111_31 (r : Nat) (l0 l1 l2 l3 : Option AV) (x y : Int) (M : Mem) (S : Sh) : go r 111 31 [l0, l1, l2, l3] [aI y, aI x] M S = if x ≠ y then go r 111 47 [l0, l1, l2, l3] [] M S else go r 111 34 [l0, l1, l2, l3] [] M S := go_br rfl rfl rfl rfl rfl
theorem g111_34 (r : Nat) (l0 l1 l3 : Option AV) (x : Int) (M : Mem) (S : Sh) : go r 111 34 [l0, l1, some (aI x), l3] [] M S = go r 111 35 [l0, l1, some (aI x), l3] [aI x] M S := go_nx rfl rfl
theorem g111_35 (r : Nat) (l0 l1 l2 l3 : Option AV) (s0 : AV) (M : Mem) (S : Sh) : go r 111 35 [l0, l1, l2, l3] [s0] M S = go r 111 36 [l0, l1, l2, l3] [aI 0, s0] M S := go_nx rfl rfl
theorem g111_36 (r : Nat) (l0 l1 l2 l3 : Option AV) (s0 s1 : AV) (M : Mem) (S : Sh) : go r 111 36 [l0, l1, l2, l3] [s0, s1] M S = go r 111 38 [l0, l1, l2, l3] [aI 23, s0, s1] M S := go_nx rfl rfl
theorem g111_38 (r : Nat) (l0 l1 l2 l3 : Option AV) (x0 x1 x2 : Int) (M : Mem) (S : Sh) (hk : 10 < r) : go r 111 38 [l0, l1, l2, l3] [aI x2, aI x1, aI x0] M S = cont r 111 41 [l0, l1, l2, l3] [] 1 (res 106 [aI x0, aI x1, aI x2] M S) := go_c0 (m' := 106) (n := 3) (pc' := 41) (hr := 1) rfl rfl rfl rfl rfl rfl hk rfl
theorem g111_41 (r : Nat) (l0 l1 l2 l3 : Option AV) (x : Int) (M : Mem) (S : Sh) : go r 111 41 [l0, l1, l2, l3] [aI x] M S = if x ≠ 0 then go r 111 64 [l0, l1, l2, l3] [] M S else go r 111 44 [l0, l1, l2, l3] [] M S := go_br rfl rfl rfl rfl rfl
theorem g111_44 (r : Nat) (l0 l1 l2 l3 : Option AV) (M : Mem) (S : Sh) : go r 111 44 [l0, l1, l2, l3] [] M S = go r 111 61 [l0, l1, l2, l3] [] M S := go_nx rfl rfl
theorem g111_47 (r : Nat) (l0 l1 l3 : Option AV) (x : Int) (M : Mem) (S : Sh) : go r 111 47 [l0, l1, some (aI x), l3] [] M S = go r 111 48 [l0, l1, some (aI x), l3] [aI x] M S := go_nx rfl rfl
theorem g111_48 (r : Nat) (l0 l1 l2 l3 : Option AV) (s0 : AV) (M : Mem) (S : Sh) : go r 111 48 [l0, l1, l2, l3] [s0] M S = go r 111 49 [l0, l1, l2, l3] [aI (-1), s0] M S := go_nx rfl rfl
theorem g111_49 (r : Nat) (l1 l2 l3 : Option AV) (s0 s1 : AV) (a : Nat) (M : Mem) (S : Sh) : go r 111 49 [some (aR a), l1, l2, l3] [s0, s1] M S = go r 111 50 [some (aR a), l1, l2, l3] [aR a, s0, s1] M S := go_nx rfl rfl
theorem g111_50 (r : Nat) (l0 l1 l2 l3 : Option AV) (s0 s1 : AV) (a : Nat) (M : Mem) (S : Sh) (h : S.1 a = 6) : go r 111 50 [l0, l1, l2, l3] [aR a, s0, s1] M S = go r 111 53 [l0, l1, l2, l3] [aI (M a 5), s0, s1] M S := go_bnd rfl h rfl
theorem g111_53 (r : Nat) (l0 l1 l2 l3 : Option AV) (s0 s1 s2 : AV) (M : Mem) (S : Sh) : go r 111 53 [l0, l1, l2, l3] [s0, s1, s2] M S = go r 111 54 [l0, l1, l2, l3] [aI 1, s0, s1, s2] M S := go_nx rfl rfl
theorem g111_54 (r : Nat) (l0 l1 l2 l3 : Option AV) (s0 s1 : AV) (x y : Int) (M : Mem) (S : Sh) : go r 111 54 [l0, l1, l2, l3] [aI y, aI x, s0, s1] M S = go r 111 55 [l0, l1, l2, l3] [aI (w32 (x - y)), s0, s1] M S := go_nx rfl rfl
theorem g111_55 (r : Nat) (l0 l1 l2 l3 : Option AV) (x0 x1 x2 : Int) (M : Mem) (S : Sh) (hk : 10 < r) : go r 111 55 [l0, l1, l2, l3] [aI x2, aI x1, aI x0] M S = cont r 111 58 [l0, l1, l2, l3] [] 1 (res 106 [aI x0, aI x1, aI x2] M S) := go_c0 (m' := 106) (n := 3) (pc' := 58) (hr := 1) rfl rfl rfl rfl rfl rfl hk rfl
theorem g111_58 (r : Nat) (l0 l1 l2 l3 : Option AV) (x : Int) (M : Mem) (S : Sh) : go r 111 58 [l0, l1, l2, l3] [aI x] M S = if x ≠ 0 then go r 111 64 [l0, l1, l2, l3] [] M S else go r 111 61 [l0, l1, l2, l3] [] M S := go_br rfl rfl rfl rfl rfl
theorem g111_61 (r : Nat) (l0 l1 l2 l3 : Option AV) (M : Mem) (S : Sh) : go r 111 61 [l0, l1, l2, l3] [] M S = go r 111 63 [l0, l1, l2, l3] [aI (-107)] M S := go_nx rfl rfl
theorem g111_63 (r : Nat) (l0 l1 l2 l3 : Option AV) (x : Int) (M : Mem) (S : Sh) : go r 111 63 [l0, l1, l2, l3] [aI x] M S = some (some (aI x), M, S) := go_rt rfl (bnd_t (Or.inl rfl))
theorem g111_64 (r : Nat) (l0 l2 l3 : Option AV) (x : Int) (M : Mem) (S : Sh) : go r 111 64 [l0, some (aI x), l2, l3] [] M S = go r 111 65 [l0, some (aI x), l2, l3] [aI x] M S := go_nx rfl rfl
theorem g111_65 (r : Nat) (l0 l1 l2 l3 : Option AV) (x : Int) (M : Mem) (S : Sh) : go r 111 65 [l0, l1, l2, l3] [aI x] M S = if x ≠ 0 then go r 111 75 [l0, l1, l2, l3] [] M S else go r 111 68 [l0, l1, l2, l3] [] M S := go_br rfl rfl rfl rfl rfl
theorem g111_68 (r : Nat) (l1 l2 l3 : Option AV) (a : Nat) (M : Mem) (S : Sh) : go r 111 68 [some (aR a), l1, l2, l3] [] M S = go r 111 69 [some (aR a), l1, l2, l3] [aR a] M S := go_nx rfl rfl
theorem g111_69 (r : Nat) (l0 l1 l2 l3 : Option AV) (a : Nat) (M : Mem) (S : Sh) (h : S.1 a = 6) : go r 111 69 [l0, l1, l2, l3] [aR a] M S = go r 111 72 [l0, l1, l2, l3] [aI (M a 2)] M S := go_bnd rfl h rfl
theorem g111_72 (r : Nat) (l0 l1 l2 l3 : Option AV) (s0 : AV) (M : Mem) (S : Sh) : go r 111 72 [l0, l1, l2, l3] [s0] M S = go r 111 91 [l0, l1, l2, l3] [s0] M S := go_nx rfl rfl
theorem g111_75 (r : Nat) (l0 l2 l3 : Option AV) (x : Int) (M : Mem) (S : Sh) : go r 111 75 [l0, some (aI x), l2, l3] [] M S = go r 111 76 [l0, some (aI x), l2, l3] [aI x] M S := go_nx rfl rfl
theorem g111_76 (r : Nat) (l0 l1 l2 l3 : Option AV) (s0 : AV) (M : Mem) (S : Sh) : go r 111 76 [l0, l1, l2, l3] [s0] M S = go r 111 77 [l0, l1, l2, l3] [aI 1, s0] M S := go_nx rfl rfl
theorem g111_77 (r : Nat) (l0 l1 l2 l3 : Option AV) (x y : Int) (M : Mem) (S : Sh) : go r 111 77 [l0, l1, l2, l3] [aI y, aI x] M S = if x ≠ y then go r 111 87 [l0, l1, l2, l3] [] M S else go r 111 80 [l0, l1, l2, l3] [] M S := go_br rfl rfl rfl rfl rfl
theorem g111_80 (r : Nat) (l1 l2 l3 : Option AV) (a : Nat) (M : Mem) (S : Sh) : go r 111 80 [some (aR a), l1, l2, l3] [] M S = go r 111 81 [some (aR a), l1, l2, l3] [aR a] M S := go_nx rfl rfl
theorem g111_81 (r : Nat) (l0 l1 l2 l3 : Option AV) (a : Nat) (M : Mem) (S : Sh) (h : S.1 a = 6) : go r 111 81 [l0, l1, l2, l3] [aR a] M S = go r 111 84 [l0, l1, l2, l3] [aI (M a 3)] M S := go_bnd rfl h rfl
theorem g111_84 (r : Nat) (l0 l1 l2 l3 : Option AV) (s0 : AV) (M : Mem) (S : Sh) : go r 111 84 [l0, l1, l2, l3] [s0] M S = go r 111 91 [l0, l1, l2, l3] [s0] M S := go_nx rfl rfl
theorem g111_87 (r : Nat) (l1 l2 l3 : Option AV) (a : Nat) (M : Mem) (S : Sh) : go r 111 87 [some (aR a), l1, l2, l3] [] M S = go r 111 88 [some (aR a), l1, l2, l3] [aR a] M S := go_nx rfl rfl
theorem g111_88 (r : Nat) (l0 l1 l2 l3 : Option AV) (a : Nat) (M : Mem) (S : Sh) (h : S.1 a = 6) : go r 111 88 [l0, l1, l2, l3] [aR a] M S = go r 111 91 [l0, l1, l2, l3] [aI (M a 4)] M S := go_bnd rfl h rfl
theorem g111_91 (r : Nat) (l0 l1 l2 l3 : Option AV) (x : Int) (M : Mem) (S : Sh) : go r 111 91 [l0, l1, l2, l3] [aI x] M S = go r 111 92 [l0, l1, l2, some (aI x)] [] M S := go_nx rfl rfl
theorem g111_92 (r : Nat) (l1 l2 l3 : Option AV) (a : Nat) (M : Mem) (S : Sh) : go r 111 92 [some (aR a), l1, l2, l3] [] M S = go r 111 93 [some (aR a), l1, l2, l3] [aR a] M S := go_nx rfl rfl
theorem g111_93 (r : Nat) (l0 l2 l3 : Option AV) (s0 : AV) (x : Int) (M : Mem) (S : Sh) : go r 111 93 [l0, some (aI x), l2, l3] [s0] M S = go r 111 94 [l0, some (aI x), l2, l3] [aI x, s0] M S := go_nx rfl rfl
theorem g111_94 (r : Nat) (l0 l1 l2 l3 : Option AV) (s0 : AV) (x : Int) (M : Mem) (S : Sh) : go r 111 94 [l0, l1, l2, l3] [aI x, s0] M S = if x ≠ 0 then go r 111 101 [l0, l1, l2, l3] [s0] M S else go r 111 97 [l0, l1, l2, l3] [s0] M S := go_br rfl rfl rfl rfl rfl
theorem g111_97 (r : Nat) (l0 l1 l3 : Option AV) (s0 : AV) (x : Int) (M : Mem) (S : Sh) : go r 111 97 [l0, l1, some (aI x), l3] [s0] M S = go r 111 98 [l0, l1, some (aI x), l3] [aI x, s0] M S := go_nx rfl rfl
theorem g111_98 (r : Nat) (l0 l1 l2 l3 : Option AV) (s0 s1 : AV) (M : Mem) (S : Sh) : go r 111 98 [l0, l1, l2, l3] [s0, s1] M S = go r 111 105 [l0, l1, l2, l3] [s0, s1] M S := go_nx rfl rfl
theorem g111_101 (r : Nat) (l1 l2 l3 : Option AV) (s0 : AV) (a : Nat) (M : Mem) (S : Sh) : go r 111 101 [some (aR a), l1, l2, l3] [s0] M S = go r 111 102 [some (aR a), l1, l2, l3] [aR a, s0] M S := go_nx rfl rfl
theorem g111_102 (r : Nat) (l0 l1 l2 l3 : Option AV) (s0 : AV) (a : Nat) (M : Mem) (S : Sh) (h : S.1 a = 6) : go r 111 102 [l0, l1, l2, l3] [aR a, s0] M S = go r 111 105 [l0, l1, l2, l3] [aI (M a 2), s0] M S := go_bnd rfl h rfl
theorem g111_105 (r : Nat) (l0 l1 l2 l3 : Option AV) (x : Int) (a : Nat) (M : Mem) (S : Sh) (h : S.1 a = 6) : go r 111 105 [l0, l1, l2, l3] [aI x, aR a] M S = go r 111 108 [l0, l1, l2, l3] [] (mset M a 2 x) S := go_bnd rfl ⟨h, fun z => absurd z (by decide)⟩ rfl
theorem g111_108 (r : Nat) (l1 l2 l3 : Option AV) (a : Nat) (M : Mem) (S : Sh) : go r 111 108 [some (aR a), l1, l2, l3] [] M S = go r 111 109 [some (aR a), l1, l2, l3] [aR a] M S := go_nx rfl rfl
theorem g111_109 (r : Nat) (l0 l2 l3 : Option AV) (s0 : AV) (x : Int) (M : Mem) (S : Sh) : go r 111 109 [l0, some (aI x), l2, l3] [s0] M S = go r 111 110 [l0, some (aI x), l2, l3] [aI x, s0] M S := go_nx rfl rfl
theorem g111_110 (r : Nat) (l0 l1 l2 l3 : Option AV) (s0 s1 : AV) (M : Mem) (S : Sh) : go r 111 110 [l0, l1, l2, l3] [s0, s1] M S = go r 111 111 [l0, l1, l2, l3] [aI 1, s0, s1] M S := go_nx rfl rfl
theorem g111_111 (r : Nat) (l0 l1 l2 l3 : Option AV) (s0 : AV) (x y : Int) (M : Mem) (S : Sh) : go r 111 111 [l0, l1, l2, l3] [aI y, aI x, s0] M S = if x ≠ y then go r 111 118 [l0, l1, l2, l3] [s0] M S else go r 111 114 [l0, l1, l2, l3] [s0] M S := go_br rfl rfl rfl rfl rfl
theorem g111_114 (r : Nat) (l0 l1 l3 : Option AV) (s0 : AV) (x : Int) (M : Mem) (S : Sh) : go r 111 114 [l0, l1, some (aI x), l3] [s0] M S = go r 111 115 [l0, l1, some (aI x), l3] [aI x, s0] M S := go_nx rfl rfl
set_option maxRecDepth 20000 in
theorem g111_115 (r : Nat) (l0 l1 l2 l3 : Option AV) (s0 s1 : AV) (M : Mem) (S : Sh) : go r 111 115 [l0, l1, l2, l3] [s0, s1] M S = go r 111 122 [l0, l1, l2, l3] [s0, s1] M S := go_nx rfl rfl
set_option maxRecDepth 20000 in
theorem g111_118 (r : Nat) (l1 l2 l3 : Option AV) (s0 : AV) (a : Nat) (M : Mem) (S : Sh) : go r 111 118 [some (aR a), l1, l2, l3] [s0] M S = go r 111 119 [some (aR a), l1, l2, l3] [aR a, s0] M S := go_nx rfl rfl
set_option maxRecDepth 20000 in
theorem g111_119 (r : Nat) (l0 l1 l2 l3 : Option AV) (s0 : AV) (a : Nat) (M : Mem) (S : Sh) (h : S.1 a = 6) : go r 111 119 [l0, l1, l2, l3] [aR a, s0] M S = go r 111 122 [l0, l1, l2, l3] [aI (M a 3), s0] M S := go_bnd rfl h rfl
set_option maxRecDepth 20000 in
theorem g111_122 (r : Nat) (l0 l1 l2 l3 : Option AV) (x : Int) (a : Nat) (M : Mem) (S : Sh) (h : S.1 a = 6) : go r 111 122 [l0, l1, l2, l3] [aI x, aR a] M S = go r 111 125 [l0, l1, l2, l3] [] (mset M a 3 x) S := go_bnd rfl ⟨h, fun z => absurd z (by decide)⟩ rfl
set_option maxRecDepth 20000 in
theorem g111_125 (r : Nat) (l1 l2 l3 : Option AV) (a : Nat) (M : Mem) (S : Sh) : go r 111 125 [some (aR a), l1, l2, l3] [] M S = go r 111 126 [some (aR a), l1, l2, l3] [aR a] M S := go_nx rfl rfl
set_option maxRecDepth 20000 in
theorem g111_126 (r : Nat) (l0 l2 l3 : Option AV) (s0 : AV) (x : Int) (M : Mem) (S : Sh) : go r 111 126 [l0, some (aI x), l2, l3] [s0] M S = go r 111 127 [l0, some (aI x), l2, l3] [aI x, s0] M S := go_nx rfl rfl
set_option maxRecDepth 20000 in
theorem g111_127 (r : Nat) (l0 l1 l2 l3 : Option AV) (s0 s1 : AV) (M : Mem) (S : Sh) : go r 111 127 [l0, l1, l2, l3] [s0, s1] M S = go r 111 128 [l0, l1, l2, l3] [aI 2, s0, s1] M S := go_nx rfl rfl
set_option maxRecDepth 20000 in
theorem g111_128 (r : Nat) (l0 l1 l2 l3 : Option AV) (s0 : AV) (x y : Int) (M : Mem) (S : Sh) : go r 111 128 [l0, l1, l2, l3] [aI y, aI x, s0] M S = if x ≠ y then go r 111 135 [l0, l1, l2, l3] [s0] M S else go r 111 131 [l0, l1, l2, l3] [s0] M S := go_br rfl rfl rfl rfl rfl
set_option maxRecDepth 20000 in
theorem g111_131 (r : Nat) (l0 l1 l3 : Option AV) (s0 : AV) (x : Int) (M : Mem) (S : Sh) : go r 111 131 [l0, l1, some (aI x), l3] [s0] M S = go r 111 132 [l0, l1, some (aI x), l3] [aI x, s0] M S := go_nx rfl rfl
set_option maxRecDepth 20000 in
theorem g111_132 (r : Nat) (l0 l1 l2 l3 : Option AV) (s0 s1 : AV) (M : Mem) (S : Sh) : go r 111 132 [l0, l1, l2, l3] [s0, s1] M S = go r 111 139 [l0, l1, l2, l3] [s0, s1] M S := go_nx rfl rfl
set_option maxRecDepth 20000 in
theorem g111_135 (r : Nat) (l1 l2 l3 : Option AV) (s0 : AV) (a : Nat) (M : Mem) (S : Sh) : go r 111 135 [some (aR a), l1, l2, l3] [s0] M S = go r 111 136 [some (aR a), l1, l2, l3] [aR a, s0] M S := go_nx rfl rfl
set_option maxRecDepth 20000 in
theorem g111_136 (r : Nat) (l0 l1 l2 l3 : Option AV) (s0 : AV) (a : Nat) (M : Mem) (S : Sh) (h : S.1 a = 6) : go r 111 136 [l0, l1, l2, l3] [aR a, s0] M S = go r 111 139 [l0, l1, l2, l3] [aI (M a 4), s0] M S := go_bnd rfl h rfl
set_option maxRecDepth 20000 in
theorem g111_139 (r : Nat) (l0 l1 l2 l3 : Option AV) (x : Int) (a : Nat) (M : Mem) (S : Sh) (h : S.1 a = 6) : go r 111 139 [l0, l1, l2, l3] [aI x, aR a] M S = go r 111 142 [l0, l1, l2, l3] [] (mset M a 4 x) S := go_bnd rfl ⟨h, fun z => absurd z (by decide)⟩ rfl
set_option maxRecDepth 20000 in
theorem g111_142 (r : Nat) (l0 l1 l2 : Option AV) (x : Int) (M : Mem) (S : Sh) : go r 111 142 [l0, l1, l2, some (aI x)] [] M S = go r 111 143 [l0, l1, l2, some (aI x)] [aI x] M S := go_nx rfl rfl
set_option maxRecDepth 20000 in
theorem g111_143 (r : Nat) (l0 l1 l2 l3 : Option AV) (x : Int) (M : Mem) (S : Sh) : go r 111 143 [l0, l1, l2, l3] [aI x] M S = some (some (aI x), M, S) := go_rt rfl (bnd_t (Or.inl rfl))
/-- StripsFromAboveModel.land(III)I -/
theorem g112 (x1 x2 x3 : Int) (a0 : Nat) (M : Mem) (S : Sh) : res 112 [aR a0, aI x1, aI x2, aI x3] M S = go 13 112 0 [some (aR a0), some (aI x1), some (aI x2), some (aI x3), none] [] M S := res_e0 rfl _ M S
theorem g112_0 (r : Nat) (l0 l2 l3 l4 : Option AV) (x : Int) (M : Mem) (S : Sh) : go r 112 0 [l0, some (aI x), l2, l3, l4] [] M S = go r 112 1 [l0, some (aI x), l2, l3, l4] [aI x] M S := go_nx rfl rfl
theorem g112_1 (r : Nat) (l0 l1 l2 l3 l4 : Option AV) (x0 : Int) (M : Mem) (S : Sh) (hk : 11 < r) : go r 112 1 [l0, l1, l2, l3, l4] [aI x0] M S = cont r 112 4 [l0, l1, l2, l3, l4] [] 1 (res 109 [aI x0] M S) := go_c0 (m' := 109) (n := 1) (pc' := 4) (hr := 1) rfl rfl rfl rfl rfl rfl hk rfl
theorem g112_4 (r : Nat) (l0 l1 l2 l3 l4 : Option AV) (x : Int) (M : Mem) (S : Sh) : go r 112 4 [l0, l1, l2, l3, l4] [aI x] M S = if x ≠ 0 then go r 112 10 [l0, l1, l2, l3, l4] [] M S else go r 112 7 [l0, l1, l2, l3, l4] [] M S := go_br rfl rfl rfl rfl rfl
theorem g112_7 (r : Nat) (l0 l1 l2 l3 l4 : Option AV) (M : Mem) (S : Sh) : go r 112 7 [l0, l1, l2, l3, l4] [] M S = go r 112 9 [l0, l1, l2, l3, l4] [aI (-5)] M S := go_nx rfl rfl
theorem g112_9 (r : Nat) (l0 l1 l2 l3 l4 : Option AV) (x : Int) (M : Mem) (S : Sh) : go r 112 9 [l0, l1, l2, l3, l4] [aI x] M S = some (some (aI x), M, S) := go_rt rfl (bnd_t (Or.inl rfl))
theorem g112_10 (r : Nat) (l0 l1 l3 l4 : Option AV) (x : Int) (M : Mem) (S : Sh) : go r 112 10 [l0, l1, some (aI x), l3, l4] [] M S = go r 112 11 [l0, l1, some (aI x), l3, l4] [aI x] M S := go_nx rfl rfl
theorem g112_11 (r : Nat) (l0 l1 l2 l3 l4 : Option AV) (s0 : AV) (M : Mem) (S : Sh) : go r 112 11 [l0, l1, l2, l3, l4] [s0] M S = go r 112 12 [l0, l1, l2, l3, l4] [aI 0, s0] M S := go_nx rfl rfl
theorem g112_12 (r : Nat) (l0 l1 l2 l3 l4 : Option AV) (s0 s1 : AV) (M : Mem) (S : Sh) : go r 112 12 [l0, l1, l2, l3, l4] [s0, s1] M S = go r 112 13 [l0, l1, l2, l3, l4] [aI 1, s0, s1] M S := go_nx rfl rfl
theorem g112_13 (r : Nat) (l0 l1 l2 l3 l4 : Option AV) (x0 x1 x2 : Int) (M : Mem) (S : Sh) (hk : 10 < r) : go r 112 13 [l0, l1, l2, l3, l4] [aI x2, aI x1, aI x0] M S = cont r 112 16 [l0, l1, l2, l3, l4] [] 1 (res 106 [aI x0, aI x1, aI x2] M S) := go_c0 (m' := 106) (n := 3) (pc' := 16) (hr := 1) rfl rfl rfl rfl rfl rfl hk rfl
theorem g112_16 (r : Nat) (l0 l1 l2 l3 l4 : Option AV) (x : Int) (M : Mem) (S : Sh) : go r 112 16 [l0, l1, l2, l3, l4] [aI x] M S = if x = 0 then go r 112 37 [l0, l1, l2, l3, l4] [] M S else go r 112 19 [l0, l1, l2, l3, l4] [] M S := go_br rfl rfl rfl rfl rfl
theorem g112_19 (r : Nat) (l0 l1 l2 l4 : Option AV) (x : Int) (M : Mem) (S : Sh) : go r 112 19 [l0, l1, l2, some (aI x), l4] [] M S = go r 112 20 [l0, l1, l2, some (aI x), l4] [aI x] M S := go_nx rfl rfl
theorem g112_20 (r : Nat) (l0 l1 l2 l3 l4 : Option AV) (s0 : AV) (M : Mem) (S : Sh) : go r 112 20 [l0, l1, l2, l3, l4] [s0] M S = go r 112 21 [l0, l1, l2, l3, l4] [aI 0, s0] M S := go_nx rfl rfl
theorem g112_21 (r : Nat) (l0 l1 l3 l4 : Option AV) (s0 s1 : AV) (x : Int) (M : Mem) (S : Sh) : go r 112 21 [l0, l1, some (aI x), l3, l4] [s0, s1] M S = go r 112 22 [l0, l1, some (aI x), l3, l4] [aI x, s0, s1] M S := go_nx rfl rfl
theorem g112_22 (r : Nat) (l0 l1 l2 l3 l4 : Option AV) (s0 s1 : AV) (x : Int) (M : Mem) (S : Sh) : go r 112 22 [l0, l1, l2, l3, l4] [aI x, s0, s1] M S = if x ≠ 0 then go r 112 30 [l0, l1, l2, l3, l4] [s0, s1] M S else go r 112 25 [l0, l1, l2, l3, l4] [s0, s1] M S := go_br rfl rfl rfl rfl rfl
theorem g112_25 (r : Nat) (l0 l1 l2 l3 l4 : Option AV) (s0 s1 : AV) (M : Mem) (S : Sh) : go r 112 25 [l0, l1, l2, l3, l4] [s0, s1] M S = go r 112 27 [l0, l1, l2, l3, l4] [aI 9, s0, s1] M S := go_nx rfl rfl
theorem g112_27 (r : Nat) (l0 l1 l2 l3 l4 : Option AV) (s0 s1 s2 : AV) (M : Mem) (S : Sh) : go r 112 27 [l0, l1, l2, l3, l4] [s0, s1, s2] M S = go r 112 31 [l0, l1, l2, l3, l4] [s0, s1, s2] M S := go_nx rfl rfl
theorem g112_30 (r : Nat) (l0 l1 l2 l3 l4 : Option AV) (s0 s1 : AV) (M : Mem) (S : Sh) : go r 112 30 [l0, l1, l2, l3, l4] [s0, s1] M S = go r 112 31 [l0, l1, l2, l3, l4] [aI 1, s0, s1] M S := go_nx rfl rfl
theorem g112_31 (r : Nat) (l0 l1 l2 l3 l4 : Option AV) (x0 x1 x2 : Int) (M : Mem) (S : Sh) (hk : 10 < r) : go r 112 31 [l0, l1, l2, l3, l4] [aI x2, aI x1, aI x0] M S = cont r 112 34 [l0, l1, l2, l3, l4] [] 1 (res 106 [aI x0, aI x1, aI x2] M S) := go_c0 (m' := 106) (n := 3) (pc' := 34) (hr := 1) rfl rfl rfl rfl rfl rfl hk rfl
theorem g112_34 (r : Nat) (l0 l1 l2 l3 l4 : Option AV) (x : Int) (M : Mem) (S : Sh) : go r 112 34 [l0, l1, l2, l3, l4] [aI x] M S = if x ≠ 0 then go r 112 40 [l0, l1, l2, l3, l4] [] M S else go r 112 37 [l0, l1, l2, l3, l4] [] M S := go_br rfl rfl rfl rfl rfl
theorem g112_37 (r : Nat) (l0 l1 l2 l3 l4 : Option AV) (M : Mem) (S : Sh) : go r 112 37 [l0, l1, l2, l3, l4] [] M S = go r 112 39 [l0, l1, l2, l3, l4] [aI (-7)] M S := go_nx rfl rfl
theorem g112_39 (r : Nat) (l0 l1 l2 l3 l4 : Option AV) (x : Int) (M : Mem) (S : Sh) : go r 112 39 [l0, l1, l2, l3, l4] [aI x] M S = some (some (aI x), M, S) := go_rt rfl (bnd_t (Or.inl rfl))
theorem g112_40 (r : Nat) (l1 l2 l3 l4 : Option AV) (a : Nat) (M : Mem) (S : Sh) : go r 112 40 [some (aR a), l1, l2, l3, l4] [] M S = go r 112 41 [some (aR a), l1, l2, l3, l4] [aR a] M S := go_nx rfl rfl
theorem g112_41 (r : Nat) (l0 l2 l3 l4 : Option AV) (s0 : AV) (x : Int) (M : Mem) (S : Sh) : go r 112 41 [l0, some (aI x), l2, l3, l4] [s0] M S = go r 112 42 [l0, some (aI x), l2, l3, l4] [aI x, s0] M S := go_nx rfl rfl
theorem g112_42 (r : Nat) (l0 l1 l3 l4 : Option AV) (s0 s1 : AV) (x : Int) (M : Mem) (S : Sh) : go r 112 42 [l0, l1, some (aI x), l3, l4] [s0, s1] M S = go r 112 43 [l0, l1, some (aI x), l3, l4] [aI x, s0, s1] M S := go_nx rfl rfl
theorem g112_43 (r : Nat) (l0 l1 l2 l3 l4 : Option AV) (x1 x2 : Int) (a0 : Nat) (M : Mem) (S : Sh) (hk : 12 < r) (h : S.1 a0 = 6) : go r 112 43 [l0, l1, l2, l3, l4] [aI x2, aI x1, aR a0] M S = cont r 112 46 [l0, l1, l2, l3, l4] [] 1 (res 113 [aR a0, aI x1, aI x2] M S) := go_cr0 (m' := 113) (n := 3) (pc' := 46) (hr := 1) rfl rfl rfl h rfl rfl rfl rfl hk rfl
theorem g112_46 (r : Nat) (l0 l1 l2 l3 l4 : Option AV) (x : Int) (M : Mem) (S : Sh) : go r 112 46 [l0, l1, l2, l3, l4] [aI x] M S = go r 112 48 [l0, l1, l2, l3, some (aI x)] [] M S := go_nx rfl rfl
theorem g112_48 (r : Nat) (l1 l2 l3 l4 : Option AV) (a : Nat) (M : Mem) (S : Sh) : go r 112 48 [some (aR a), l1, l2, l3, l4] [] M S = go r 112 49 [some (aR a), l1, l2, l3, l4] [aR a] M S := go_nx rfl rfl
theorem g112_49 (r : Nat) (l0 l1 l2 l3 l4 : Option AV) (a : Nat) (M : Mem) (S : Sh) (h : S.1 a = 6) : go r 112 49 [l0, l1, l2, l3, l4] [aR a] M S = go r 112 52 [l0, l1, l2, l3, l4] [aO (S.2.2.1 a 0)] M S := go_bnd rfl h rfl
theorem g112_52 (r : Nat) (l0 l2 l3 l4 : Option AV) (s0 : AV) (x : Int) (M : Mem) (S : Sh) : go r 112 52 [l0, some (aI x), l2, l3, l4] [s0] M S = go r 112 53 [l0, some (aI x), l2, l3, l4] [aI x, s0] M S := go_nx rfl rfl
theorem g112_53 (r : Nat) (l0 l1 l3 l4 : Option AV) (s0 s1 : AV) (x : Int) (M : Mem) (S : Sh) : go r 112 53 [l0, l1, some (aI x), l3, l4] [s0, s1] M S = go r 112 54 [l0, l1, some (aI x), l3, l4] [aI x, s0, s1] M S := go_nx rfl rfl
theorem g112_54 (r : Nat) (l0 l1 l2 l3 l4 : Option AV) (s0 s1 : AV) (x : Int) (M : Mem) (S : Sh) : go r 112 54 [l0, l1, l2, l3, l4] [aI x, s0, s1] M S = if x ≠ 0 then go r 112 61 [l0, l1, l2, l3, l4] [s0, s1] M S else go r 112 57 [l0, l1, l2, l3, l4] [s0, s1] M S := go_br rfl rfl rfl rfl rfl
theorem g112_57 (r : Nat) (l0 l1 l2 l4 : Option AV) (s0 s1 : AV) (x : Int) (M : Mem) (S : Sh) : go r 112 57 [l0, l1, l2, some (aI x), l4] [s0, s1] M S = go r 112 58 [l0, l1, l2, some (aI x), l4] [aI x, s0, s1] M S := go_nx rfl rfl
theorem g112_58 (r : Nat) (l0 l1 l2 l3 l4 : Option AV) (s0 s1 s2 : AV) (M : Mem) (S : Sh) : go r 112 58 [l0, l1, l2, l3, l4] [s0, s1, s2] M S = go r 112 67 [l0, l1, l2, l3, l4] [s0, s1, s2] M S := go_nx rfl rfl
theorem g112_61 (r : Nat) (l1 l2 l3 l4 : Option AV) (s0 s1 : AV) (a : Nat) (M : Mem) (S : Sh) : go r 112 61 [some (aR a), l1, l2, l3, l4] [s0, s1] M S = go r 112 62 [some (aR a), l1, l2, l3, l4] [aR a, s0, s1] M S := go_nx rfl rfl
theorem g112_62 (r : Nat) (l0 l1 l2 l3 l4 : Option AV) (s0 s1 : AV) (a : Nat) (M : Mem) (S : Sh) (h : S.1 a = 6) : go r 112 62 [l0, l1, l2, l3, l4] [aR a, s0, s1] M S = go r 112 65 [l0, l1, l2, l3, l4] [aO (S.2.2.1 a 0), s0, s1] M S := go_bnd rfl h rfl
theorem g112_65 (r : Nat) (l0 l2 l3 l4 : Option AV) (s0 s1 s2 : AV) (x : Int) (M : Mem) (S : Sh) : go r 112 65 [l0, some (aI x), l2, l3, l4] [s0, s1, s2] M S = go r 112 66 [l0, some (aI x), l2, l3, l4] [aI x, s0, s1, s2] M S := go_nx rfl rfl
theorem g112_66 (r : Nat) (l0 l1 l2 l3 l4 : Option AV) (s0 s1 : AV) (x : Int) (a : Nat) (M : Mem) (S : Sh) (h : S.1 a = 7) (h0 : 0 ≤ x) (h1 : x < S.2.1 a) : go r 112 66 [l0, l1, l2, l3, l4] [aI x, aR a, s0, s1] M S = go r 112 67 [l0, l1, l2, l3, l4] [aI (M a x.toNat), s0, s1] M S := go_bnd rfl ⟨h, h0, h1⟩ rfl
theorem g112_67 (r : Nat) (l0 l1 l2 l3 l4 : Option AV) (x y : Int) (a : Nat) (M : Mem) (S : Sh) (h : S.1 a = 7) (h6 : 6 ≤ a) (h0 : 0 ≤ x) (h1 : x < S.2.1 a) : go r 112 67 [l0, l1, l2, l3, l4] [aI y, aI x, aR a] M S = go r 112 68 [l0, l1, l2, l3, l4] [] (mset M a x.toNat y) S := go_bnd rfl ⟨h, h6, h0, h1⟩ rfl
theorem g112_68 (r : Nat) (l1 l2 l3 l4 : Option AV) (a : Nat) (M : Mem) (S : Sh) : go r 112 68 [some (aR a), l1, l2, l3, l4] [] M S = go r 112 69 [some (aR a), l1, l2, l3, l4] [aR a] M S := go_nx rfl rfl
theorem g112_69 (r : Nat) (l0 l1 l2 l3 l4 : Option AV) (a : Nat) (M : Mem) (S : Sh) (h : S.1 a = 6) : go r 112 69 [l0, l1, l2, l3, l4] [aR a] M S = go r 112 72 [l0, l1, l2, l3, l4] [aO (S.2.2.1 a 1)] M S := go_bnd rfl h rfl
theorem g112_72 (r : Nat) (l0 l2 l3 l4 : Option AV) (s0 : AV) (x : Int) (M : Mem) (S : Sh) : go r 112 72 [l0, some (aI x), l2, l3, l4] [s0] M S = go r 112 73 [l0, some (aI x), l2, l3, l4] [aI x, s0] M S := go_nx rfl rfl
theorem g112_73 (r : Nat) (l0 l1 l3 l4 : Option AV) (s0 s1 : AV) (x : Int) (M : Mem) (S : Sh) : go r 112 73 [l0, l1, some (aI x), l3, l4] [s0, s1] M S = go r 112 74 [l0, l1, some (aI x), l3, l4] [aI x, s0, s1] M S := go_nx rfl rfl
theorem g112_74 (r : Nat) (l0 l1 l2 l3 l4 : Option AV) (s0 s1 s2 : AV) (M : Mem) (S : Sh) : go r 112 74 [l0, l1, l2, l3, l4] [s0, s1, s2] M S = go r 112 75 [l0, l1, l2, l3, l4] [aI 1, s0, s1, s2] M S := go_nx rfl rfl
theorem g112_75 (r : Nat) (l0 l1 l2 l3 l4 : Option AV) (s0 s1 : AV) (x y : Int) (M : Mem) (S : Sh) : go r 112 75 [l0, l1, l2, l3, l4] [aI y, aI x, s0, s1] M S = if x ≠ y then go r 112 82 [l0, l1, l2, l3, l4] [s0, s1] M S else go r 112 78 [l0, l1, l2, l3, l4] [s0, s1] M S := go_br rfl rfl rfl rfl rfl
theorem g112_78 (r : Nat) (l0 l1 l2 l4 : Option AV) (s0 s1 : AV) (x : Int) (M : Mem) (S : Sh) : go r 112 78 [l0, l1, l2, some (aI x), l4] [s0, s1] M S = go r 112 79 [l0, l1, l2, some (aI x), l4] [aI x, s0, s1] M S := go_nx rfl rfl
theorem g112_79 (r : Nat) (l0 l1 l2 l3 l4 : Option AV) (s0 s1 s2 : AV) (M : Mem) (S : Sh) : go r 112 79 [l0, l1, l2, l3, l4] [s0, s1, s2] M S = go r 112 88 [l0, l1, l2, l3, l4] [s0, s1, s2] M S := go_nx rfl rfl
theorem g112_82 (r : Nat) (l1 l2 l3 l4 : Option AV) (s0 s1 : AV) (a : Nat) (M : Mem) (S : Sh) : go r 112 82 [some (aR a), l1, l2, l3, l4] [s0, s1] M S = go r 112 83 [some (aR a), l1, l2, l3, l4] [aR a, s0, s1] M S := go_nx rfl rfl
theorem g112_83 (r : Nat) (l0 l1 l2 l3 l4 : Option AV) (s0 s1 : AV) (a : Nat) (M : Mem) (S : Sh) (h : S.1 a = 6) : go r 112 83 [l0, l1, l2, l3, l4] [aR a, s0, s1] M S = go r 112 86 [l0, l1, l2, l3, l4] [aO (S.2.2.1 a 1), s0, s1] M S := go_bnd rfl h rfl
theorem g112_86 (r : Nat) (l0 l2 l3 l4 : Option AV) (s0 s1 s2 : AV) (x : Int) (M : Mem) (S : Sh) : go r 112 86 [l0, some (aI x), l2, l3, l4] [s0, s1, s2] M S = go r 112 87 [l0, some (aI x), l2, l3, l4] [aI x, s0, s1, s2] M S := go_nx rfl rfl
theorem g112_87 (r : Nat) (l0 l1 l2 l3 l4 : Option AV) (s0 s1 : AV) (x : Int) (a : Nat) (M : Mem) (S : Sh) (h : S.1 a = 7) (h0 : 0 ≤ x) (h1 : x < S.2.1 a) : go r 112 87 [l0, l1, l2, l3, l4] [aI x, aR a, s0, s1] M S = go r 112 88 [l0, l1, l2, l3, l4] [aI (M a x.toNat), s0, s1] M S := go_bnd rfl ⟨h, h0, h1⟩ rfl
theorem g112_88 (r : Nat) (l0 l1 l2 l3 l4 : Option AV) (x y : Int) (a : Nat) (M : Mem) (S : Sh) (h : S.1 a = 7) (h6 : 6 ≤ a) (h0 : 0 ≤ x) (h1 : x < S.2.1 a) : go r 112 88 [l0, l1, l2, l3, l4] [aI y, aI x, aR a] M S = go r 112 89 [l0, l1, l2, l3, l4] [] (mset M a x.toNat y) S := go_bnd rfl ⟨h, h6, h0, h1⟩ rfl
theorem g112_89 (r : Nat) (l0 l1 l2 l3 : Option AV) (x : Int) (M : Mem) (S : Sh) : go r 112 89 [l0, l1, l2, l3, some (aI x)] [] M S = go r 112 91 [l0, l1, l2, l3, some (aI x)] [aI x] M S := go_nx rfl rfl
theorem g112_91 (r : Nat) (l0 l1 l2 l3 l4 : Option AV) (x : Int) (M : Mem) (S : Sh) : go r 112 91 [l0, l1, l2, l3, l4] [aI x] M S = some (some (aI x), M, S) := go_rt rfl (bnd_t (Or.inl rfl))
/-- StripsFromAboveModel.mile(II)I -/
theorem g113 (x1 x2 : Int) (a0 : Nat) (M : Mem) (S : Sh) : res 113 [aR a0, aI x1, aI x2] M S = go 12 113 0 [some (aR a0), some (aI x1), some (aI x2)] [] M S := res_e0 rfl _ M S
theorem g113_0 (r : Nat) (l0 l2 : Option AV) (x : Int) (M : Mem) (S : Sh) : go r 113 0 [l0, some (aI x), l2] [] M S = go r 113 1 [l0, some (aI x), l2] [aI x] M S := go_nx rfl rfl
theorem g113_1 (r : Nat) (l0 l1 l2 : Option AV) (x0 : Int) (M : Mem) (S : Sh) (hk : 11 < r) : go r 113 1 [l0, l1, l2] [aI x0] M S = cont r 113 4 [l0, l1, l2] [] 1 (res 109 [aI x0] M S) := go_c0 (m' := 109) (n := 1) (pc' := 4) (hr := 1) rfl rfl rfl rfl rfl rfl hk rfl
theorem g113_4 (r : Nat) (l0 l1 l2 : Option AV) (x : Int) (M : Mem) (S : Sh) : go r 113 4 [l0, l1, l2] [aI x] M S = if x ≠ 0 then go r 113 10 [l0, l1, l2] [] M S else go r 113 7 [l0, l1, l2] [] M S := go_br rfl rfl rfl rfl rfl
theorem g113_7 (r : Nat) (l0 l1 l2 : Option AV) (M : Mem) (S : Sh) : go r 113 7 [l0, l1, l2] [] M S = go r 113 9 [l0, l1, l2] [aI (-5)] M S := go_nx rfl rfl
theorem g113_9 (r : Nat) (l0 l1 l2 : Option AV) (x : Int) (M : Mem) (S : Sh) : go r 113 9 [l0, l1, l2] [aI x] M S = some (some (aI x), M, S) := go_rt rfl (bnd_t (Or.inl rfl))
theorem g113_10 (r : Nat) (l0 l1 : Option AV) (x : Int) (M : Mem) (S : Sh) : go r 113 10 [l0, l1, some (aI x)] [] M S = go r 113 11 [l0, l1, some (aI x)] [aI x] M S := go_nx rfl rfl
theorem g113_11 (r : Nat) (l0 l1 l2 : Option AV) (x : Int) (M : Mem) (S : Sh) : go r 113 11 [l0, l1, l2] [aI x] M S = if x ≠ 0 then go r 113 23 [l0, l1, l2] [] M S else go r 113 14 [l0, l1, l2] [] M S := go_br rfl rfl rfl rfl rfl
theorem g113_14 (r : Nat) (l1 l2 : Option AV) (a : Nat) (M : Mem) (S : Sh) : go r 113 14 [some (aR a), l1, l2] [] M S = go r 113 15 [some (aR a), l1, l2] [aR a] M S := go_nx rfl rfl
theorem g113_15 (r : Nat) (l0 l1 l2 : Option AV) (a : Nat) (M : Mem) (S : Sh) (h : S.1 a = 6) : go r 113 15 [l0, l1, l2] [aR a] M S = go r 113 18 [l0, l1, l2] [aO (S.2.2.1 a 0)] M S := go_bnd rfl h rfl
theorem g113_18 (r : Nat) (l0 l2 : Option AV) (s0 : AV) (x : Int) (M : Mem) (S : Sh) : go r 113 18 [l0, some (aI x), l2] [s0] M S = go r 113 19 [l0, some (aI x), l2] [aI x, s0] M S := go_nx rfl rfl
theorem g113_19 (r : Nat) (l0 l1 l2 : Option AV) (x : Int) (a : Nat) (M : Mem) (S : Sh) (h : S.1 a = 7) (h0 : 0 ≤ x) (h1 : x < S.2.1 a) : go r 113 19 [l0, l1, l2] [aI x, aR a] M S = go r 113 20 [l0, l1, l2] [aI (M a x.toNat)] M S := go_bnd rfl ⟨h, h0, h1⟩ rfl
theorem g113_20 (r : Nat) (l0 l1 l2 : Option AV) (s0 : AV) (M : Mem) (S : Sh) : go r 113 20 [l0, l1, l2] [s0] M S = go r 113 39 [l0, l1, l2] [s0] M S := go_nx rfl rfl
theorem g113_23 (r : Nat) (l0 l1 : Option AV) (x : Int) (M : Mem) (S : Sh) : go r 113 23 [l0, l1, some (aI x)] [] M S = go r 113 24 [l0, l1, some (aI x)] [aI x] M S := go_nx rfl rfl
theorem g113_24 (r : Nat) (l0 l1 l2 : Option AV) (s0 : AV) (M : Mem) (S : Sh) : go r 113 24 [l0, l1, l2] [s0] M S = go r 113 25 [l0, l1, l2] [aI 1, s0] M S := go_nx rfl rfl
theorem g113_25 (r : Nat) (l0 l1 l2 : Option AV) (x y : Int) (M : Mem) (S : Sh) : go r 113 25 [l0, l1, l2] [aI y, aI x] M S = if x ≠ y then go r 113 37 [l0, l1, l2] [] M S else go r 113 28 [l0, l1, l2] [] M S := go_br rfl rfl rfl rfl rfl
theorem g113_28 (r : Nat) (l1 l2 : Option AV) (a : Nat) (M : Mem) (S : Sh) : go r 113 28 [some (aR a), l1, l2] [] M S = go r 113 29 [some (aR a), l1, l2] [aR a] M S := go_nx rfl rfl
theorem g113_29 (r : Nat) (l0 l1 l2 : Option AV) (a : Nat) (M : Mem) (S : Sh) (h : S.1 a = 6) : go r 113 29 [l0, l1, l2] [aR a] M S = go r 113 32 [l0, l1, l2] [aO (S.2.2.1 a 1)] M S := go_bnd rfl h rfl
theorem g113_32 (r : Nat) (l0 l2 : Option AV) (s0 : AV) (x : Int) (M : Mem) (S : Sh) : go r 113 32 [l0, some (aI x), l2] [s0] M S = go r 113 33 [l0, some (aI x), l2] [aI x, s0] M S := go_nx rfl rfl
theorem g113_33 (r : Nat) (l0 l1 l2 : Option AV) (x : Int) (a : Nat) (M : Mem) (S : Sh) (h : S.1 a = 7) (h0 : 0 ≤ x) (h1 : x < S.2.1 a) : go r 113 33 [l0, l1, l2] [aI x, aR a] M S = go r 113 34 [l0, l1, l2] [aI (M a x.toNat)] M S := go_bnd rfl ⟨h, h0, h1⟩ rfl
theorem g113_34 (r : Nat) (l0 l1 l2 : Option AV) (s0 : AV) (M : Mem) (S : Sh) : go r 113 34 [l0, l1, l2] [s0] M S = go r 113 39 [l0, l1, l2] [s0] M S := go_nx rfl rfl
theorem g113_37 (r : Nat) (l0 l1 l2 : Option AV) (M : Mem) (S : Sh) : go r 113 37 [l0, l1, l2] [] M S = go r 113 39 [l0, l1, l2] [aI (-7)] M S := go_nx rfl rfl
theorem g113_39 (r : Nat) (l0 l1 l2 : Option AV) (x : Int) (M : Mem) (S : Sh) : go r 113 39 [l0, l1, l2] [aI x] M S = some (some (aI x), M, S) := go_rt rfl (bnd_t (Or.inl rfl))
/-- StripsFromAboveModel.isByte(I)Z -/
theorem g114 (x0 : Int) (M : Mem) (S : Sh) : res 114 [aI x0] M S = go 11 114 0 [some (aI x0)] [] M S := res_e0 rfl _ M S
theorem g114_0 (r : Nat) (x : Int) (M : Mem) (S : Sh) : go r 114 0 [some (aI x)] [] M S = go r 114 1 [some (aI x)] [aI x] M S := go_nx rfl rfl
theorem g114_1 (r : Nat) (l0 : Option AV) (s0 : AV) (M : Mem) (S : Sh) : go r 114 1 [l0] [s0] M S = go r 114 2 [l0] [aI 0, s0] M S := go_nx rfl rfl
theorem g114_2 (r : Nat) (l0 : Option AV) (s0 s1 : AV) (M : Mem) (S : Sh) : go r 114 2 [l0] [s0, s1] M S = go r 114 5 [l0] [aI 255, s0, s1] M S := go_nx rfl rfl
theorem g114_5 (r : Nat) (l0 : Option AV) (x0 x1 x2 : Int) (M : Mem) (S : Sh) (hk : 10 < r) : go r 114 5 [l0] [aI x2, aI x1, aI x0] M S = cont r 114 8 [l0] [] 1 (res 106 [aI x0, aI x1, aI x2] M S) := go_c0 (m' := 106) (n := 3) (pc' := 8) (hr := 1) rfl rfl rfl rfl rfl rfl hk rfl
theorem g114_8 (r : Nat) (l0 : Option AV) (x : Int) (M : Mem) (S : Sh) (h : x = 0 ∨ x = 1) : go r 114 8 [l0] [aI x] M S = some (some (aI x), M, S) := go_rt rfl (bnd_t (Or.inr h))
/-- StripsFromAboveModel.feed(IIIIII)I -/
theorem g115 (x1 x2 x3 x4 x5 x6 : Int) (a0 : Nat) (M : Mem) (S : Sh) : res 115 [aR a0, aI x1, aI x2, aI x3, aI x4, aI x5, aI x6] M S = go 12 115 0 [some (aR a0), some (aI x1), some (aI x2), some (aI x3), some (aI x4), some (aI x5), some (aI x6), none] [] M S := res_e0 rfl _ M S
theorem g115_0 (r : Nat) (l0 l2 l3 l4 l5 l6 l7 : Option AV) (x : Int) (M : Mem) (S : Sh) : go r 115 0 [l0, some (aI x), l2, l3, l4, l5, l6, l7] [] M S = go r 115 1 [l0, some (aI x), l2, l3, l4, l5, l6, l7] [aI x] M S := go_nx rfl rfl
theorem g115_1 (r : Nat) (l0 l1 l2 l3 l4 l5 l6 l7 : Option AV) (s0 : AV) (M : Mem) (S : Sh) : go r 115 1 [l0, l1, l2, l3, l4, l5, l6, l7] [s0] M S = go r 115 2 [l0, l1, l2, l3, l4, l5, l6, l7] [aI 1, s0] M S := go_nx rfl rfl
theorem g115_2 (r : Nat) (l0 l1 l2 l3 l4 l5 l6 l7 : Option AV) (s0 s1 : AV) (M : Mem) (S : Sh) : go r 115 2 [l0, l1, l2, l3, l4, l5, l6, l7] [s0, s1] M S = go r 115 3 [l0, l1, l2, l3, l4, l5, l6, l7] [aI 5, s0, s1] M S := go_nx rfl rfl
theorem g115_3 (r : Nat) (l0 l1 l2 l3 l4 l5 l6 l7 : Option AV) (x0 x1 x2 : Int) (M : Mem) (S : Sh) (hk : 10 < r) : go r 115 3 [l0, l1, l2, l3, l4, l5, l6, l7] [aI x2, aI x1, aI x0] M S = cont r 115 6 [l0, l1, l2, l3, l4, l5, l6, l7] [] 1 (res 106 [aI x0, aI x1, aI x2] M S) := go_c0 (m' := 106) (n := 3) (pc' := 6) (hr := 1) rfl rfl rfl rfl rfl rfl hk rfl
theorem g115_6 (r : Nat) (l0 l1 l2 l3 l4 l5 l6 l7 : Option AV) (x : Int) (M : Mem) (S : Sh) : go r 115 6 [l0, l1, l2, l3, l4, l5, l6, l7] [aI x] M S = if x = 0 then go r 115 47 [l0, l1, l2, l3, l4, l5, l6, l7] [] M S else go r 115 9 [l0, l1, l2, l3, l4, l5, l6, l7] [] M S := go_br rfl rfl rfl rfl rfl
theorem g115_9 (r : Nat) (l0 l1 l3 l4 l5 l6 l7 : Option AV) (x : Int) (M : Mem) (S : Sh) : go r 115 9 [l0, l1, some (aI x), l3, l4, l5, l6, l7] [] M S = go r 115 10 [l0, l1, some (aI x), l3, l4, l5, l6, l7] [aI x] M S := go_nx rfl rfl
theorem g115_10 (r : Nat) (l0 l1 l2 l3 l4 l5 l6 l7 : Option AV) (x0 : Int) (M : Mem) (S : Sh) (hk : 11 < r) : go r 115 10 [l0, l1, l2, l3, l4, l5, l6, l7] [aI x0] M S = cont r 115 13 [l0, l1, l2, l3, l4, l5, l6, l7] [] 1 (res 114 [aI x0] M S) := go_c0 (m' := 114) (n := 1) (pc' := 13) (hr := 1) rfl rfl rfl rfl rfl rfl hk rfl
theorem g115_13 (r : Nat) (l0 l1 l2 l3 l4 l5 l6 l7 : Option AV) (x : Int) (M : Mem) (S : Sh) : go r 115 13 [l0, l1, l2, l3, l4, l5, l6, l7] [aI x] M S = if x = 0 then go r 115 47 [l0, l1, l2, l3, l4, l5, l6, l7] [] M S else go r 115 16 [l0, l1, l2, l3, l4, l5, l6, l7] [] M S := go_br rfl rfl rfl rfl rfl
theorem g115_16 (r : Nat) (l0 l1 l2 l4 l5 l6 l7 : Option AV) (x : Int) (M : Mem) (S : Sh) : go r 115 16 [l0, l1, l2, some (aI x), l4, l5, l6, l7] [] M S = go r 115 17 [l0, l1, l2, some (aI x), l4, l5, l6, l7] [aI x] M S := go_nx rfl rfl
theorem g115_17 (r : Nat) (l0 l1 l2 l3 l4 l5 l6 l7 : Option AV) (x0 : Int) (M : Mem) (S : Sh) (hk : 11 < r) : go r 115 17 [l0, l1, l2, l3, l4, l5, l6, l7] [aI x0] M S = cont r 115 20 [l0, l1, l2, l3, l4, l5, l6, l7] [] 1 (res 114 [aI x0] M S) := go_c0 (m' := 114) (n := 1) (pc' := 20) (hr := 1) rfl rfl rfl rfl rfl rfl hk rfl
theorem g115_20 (r : Nat) (l0 l1 l2 l3 l4 l5 l6 l7 : Option AV) (x : Int) (M : Mem) (S : Sh) : go r 115 20 [l0, l1, l2, l3, l4, l5, l6, l7] [aI x] M S = if x = 0 then go r 115 47 [l0, l1, l2, l3, l4, l5, l6, l7] [] M S else go r 115 23 [l0, l1, l2, l3, l4, l5, l6, l7] [] M S := go_br rfl rfl rfl rfl rfl
theorem g115_23 (r : Nat) (l0 l1 l2 l3 l5 l6 l7 : Option AV) (x : Int) (M : Mem) (S : Sh) : go r 115 23 [l0, l1, l2, l3, some (aI x), l5, l6, l7] [] M S = go r 115 25 [l0, l1, l2, l3, some (aI x), l5, l6, l7] [aI x] M S := go_nx rfl rfl
theorem g115_25 (r : Nat) (l0 l1 l2 l3 l4 l5 l6 l7 : Option AV) (x0 : Int) (M : Mem) (S : Sh) (hk : 11 < r) : go r 115 25 [l0, l1, l2, l3, l4, l5, l6, l7] [aI x0] M S = cont r 115 28 [l0, l1, l2, l3, l4, l5, l6, l7] [] 1 (res 114 [aI x0] M S) := go_c0 (m' := 114) (n := 1) (pc' := 28) (hr := 1) rfl rfl rfl rfl rfl rfl hk rfl
theorem g115_28 (r : Nat) (l0 l1 l2 l3 l4 l5 l6 l7 : Option AV) (x : Int) (M : Mem) (S : Sh) : go r 115 28 [l0, l1, l2, l3, l4, l5, l6, l7] [aI x] M S = if x = 0 then go r 115 47 [l0, l1, l2, l3, l4, l5, l6, l7] [] M S else go r 115 31 [l0, l1, l2, l3, l4, l5, l6, l7] [] M S := go_br rfl rfl rfl rfl rfl
theorem g115_31 (r : Nat) (l0 l1 l2 l3 l4 l6 l7 : Option AV) (x : Int) (M : Mem) (S : Sh) : go r 115 31 [l0, l1, l2, l3, l4, some (aI x), l6, l7] [] M S = go r 115 33 [l0, l1, l2, l3, l4, some (aI x), l6, l7] [aI x] M S := go_nx rfl rfl
theorem g115_33 (r : Nat) (l0 l1 l2 l3 l4 l5 l6 l7 : Option AV) (x0 : Int) (M : Mem) (S : Sh) (hk : 11 < r) : go r 115 33 [l0, l1, l2, l3, l4, l5, l6, l7] [aI x0] M S = cont r 115 36 [l0, l1, l2, l3, l4, l5, l6, l7] [] 1 (res 114 [aI x0] M S) := go_c0 (m' := 114) (n := 1) (pc' := 36) (hr := 1) rfl rfl rfl rfl rfl rfl hk rfl
theorem g115_36 (r : Nat) (l0 l1 l2 l3 l4 l5 l6 l7 : Option AV) (x : Int) (M : Mem) (S : Sh) : go r 115 36 [l0, l1, l2, l3, l4, l5, l6, l7] [aI x] M S = if x = 0 then go r 115 47 [l0, l1, l2, l3, l4, l5, l6, l7] [] M S else go r 115 39 [l0, l1, l2, l3, l4, l5, l6, l7] [] M S := go_br rfl rfl rfl rfl rfl
theorem g115_39 (r : Nat) (l0 l1 l2 l3 l4 l5 l7 : Option AV) (x : Int) (M : Mem) (S : Sh) : go r 115 39 [l0, l1, l2, l3, l4, l5, some (aI x), l7] [] M S = go r 115 41 [l0, l1, l2, l3, l4, l5, some (aI x), l7] [aI x] M S := go_nx rfl rfl
theorem g115_41 (r : Nat) (l0 l1 l2 l3 l4 l5 l6 l7 : Option AV) (x0 : Int) (M : Mem) (S : Sh) (hk : 11 < r) : go r 115 41 [l0, l1, l2, l3, l4, l5, l6, l7] [aI x0] M S = cont r 115 44 [l0, l1, l2, l3, l4, l5, l6, l7] [] 1 (res 114 [aI x0] M S) := go_c0 (m' := 114) (n := 1) (pc' := 44) (hr := 1) rfl rfl rfl rfl rfl rfl hk rfl
theorem g115_44 (r : Nat) (l0 l1 l2 l3 l4 l5 l6 l7 : Option AV) (x : Int) (M : Mem) (S : Sh) : go r 115 44 [l0, l1, l2, l3, l4, l5, l6, l7] [aI x] M S = if x ≠ 0 then go r 115 50 [l0, l1, l2, l3, l4, l5, l6, l7] [] M S else go r 115 47 [l0, l1, l2, l3, l4, l5, l6, l7] [] M S := go_br rfl rfl rfl rfl rfl
theorem g115_47 (r : Nat) (l0 l1 l2 l3 l4 l5 l6 l7 : Option AV) (M : Mem) (S : Sh) : go r 115 47 [l0, l1, l2, l3, l4, l5, l6, l7] [] M S = go r 115 49 [l0, l1, l2, l3, l4, l5, l6, l7] [aI (-2)] M S := go_nx rfl rfl
theorem g115_49 (r : Nat) (l0 l1 l2 l3 l4 l5 l6 l7 : Option AV) (x : Int) (M : Mem) (S : Sh) : go r 115 49 [l0, l1, l2, l3, l4, l5, l6, l7] [aI x] M S = some (some (aI x), M, S) := go_rt rfl (bnd_t (Or.inl rfl))
theorem g115_50 (r : Nat) (l1 l2 l3 l4 l5 l6 l7 : Option AV) (a : Nat) (M : Mem) (S : Sh) : go r 115 50 [some (aR a), l1, l2, l3, l4, l5, l6, l7] [] M S = go r 115 51 [some (aR a), l1, l2, l3, l4, l5, l6, l7] [aR a] M S := go_nx rfl rfl
theorem g115_51 (r : Nat) (l0 l1 l2 l3 l4 l5 l6 l7 : Option AV) (a : Nat) (M : Mem) (S : Sh) (h : S.1 a = 6) : go r 115 51 [l0, l1, l2, l3, l4, l5, l6, l7] [aR a] M S = go r 115 54 [l0, l1, l2, l3, l4, l5, l6, l7] [aI (M a 13)] M S := go_bnd rfl h rfl
theorem g115_54 (r : Nat) (l0 l2 l3 l4 l5 l6 l7 : Option AV) (s0 : AV) (x : Int) (M : Mem) (S : Sh) : go r 115 54 [l0, some (aI x), l2, l3, l4, l5, l6, l7] [s0] M S = go r 115 55 [l0, some (aI x), l2, l3, l4, l5, l6, l7] [aI x, s0] M S := go_nx rfl rfl
theorem g115_55 (r : Nat) (l0 l1 l2 l3 l4 l5 l6 l7 : Option AV) (x y : Int) (M : Mem) (S : Sh) : go r 115 55 [l0, l1, l2, l3, l4, l5, l6, l7] [aI y, aI x] M S = go r 115 56 [l0, l1, l2, l3, l4, l5, l6, l7] [aI (w32 (x + y))] M S := go_nx rfl rfl
theorem g115_56 (r : Nat) (l0 l1 l2 l3 l4 l5 l6 l7 : Option AV) (s0 : AV) (M : Mem) (S : Sh) : go r 115 56 [l0, l1, l2, l3, l4, l5, l6, l7] [s0] M S = go r 115 59 [l0, l1, l2, l3, l4, l5, l6, l7] [aI 160, s0] M S := go_nx rfl rfl
theorem g115_59 (r : Nat) (l0 l1 l2 l3 l4 l5 l6 l7 : Option AV) (x y : Int) (M : Mem) (S : Sh) : go r 115 59 [l0, l1, l2, l3, l4, l5, l6, l7] [aI y, aI x] M S = if x ≤ y then go r 115 65 [l0, l1, l2, l3, l4, l5, l6, l7] [] M S else go r 115 62 [l0, l1, l2, l3, l4, l5, l6, l7] [] M S := go_br rfl rfl rfl rfl rfl
theorem g115_62 (r : Nat) (l0 l1 l2 l3 l4 l5 l6 l7 : Option AV) (M : Mem) (S : Sh) : go r 115 62 [l0, l1, l2, l3, l4, l5, l6, l7] [] M S = go r 115 64 [l0, l1, l2, l3, l4, l5, l6, l7] [aI (-4)] M S := go_nx rfl rfl
theorem g115_64 (r : Nat) (l0 l1 l2 l3 l4 l5 l6 l7 : Option AV) (x : Int) (M : Mem) (S : Sh) : go r 115 64 [l0, l1, l2, l3, l4, l5, l6, l7] [aI x] M S = some (some (aI x), M, S) := go_rt rfl (bnd_t (Or.inl rfl))
theorem g115_65 (r : Nat) (l0 l1 l2 l3 l4 l5 l6 l7 : Option AV) (M : Mem) (S : Sh) : go r 115 65 [l0, l1, l2, l3, l4, l5, l6, l7] [] M S = go r 115 66 [l0, l1, l2, l3, l4, l5, l6, l7] [aI 0] M S := go_nx rfl rfl
theorem g115_66 (r : Nat) (l0 l1 l2 l3 l4 l5 l6 l7 : Option AV) (x : Int) (M : Mem) (S : Sh) : go r 115 66 [l0, l1, l2, l3, l4, l5, l6, l7] [aI x] M S = go r 115 68 [l0, l1, l2, l3, l4, l5, l6, some (aI x)] [] M S := go_nx rfl rfl
theorem g115_68 (r : Nat) (l0 l1 l2 l3 l4 l5 l6 : Option AV) (x : Int) (M : Mem) (S : Sh) : go r 115 68 [l0, l1, l2, l3, l4, l5, l6, some (aI x)] [] M S = go r 115 70 [l0, l1, l2, l3, l4, l5, l6, some (aI x)] [aI x] M S := go_nx rfl rfl
theorem g115_70 (r : Nat) (l0 l2 l3 l4 l5 l6 l7 : Option AV) (s0 : AV) (x : Int) (M : Mem) (S : Sh) : go r 115 70 [l0, some (aI x), l2, l3, l4, l5, l6, l7] [s0] M S = go r 115 71 [l0, some (aI x), l2, l3, l4, l5, l6, l7] [aI x, s0] M S := go_nx rfl rfl
theorem g115_71 (r : Nat) (l0 l1 l2 l3 l4 l5 l6 l7 : Option AV) (x y : Int) (M : Mem) (S : Sh) : go r 115 71 [l0, l1, l2, l3, l4, l5, l6, l7] [aI y, aI x] M S = if x ≥ y then go r 115 142 [l0, l1, l2, l3, l4, l5, l6, l7] [] M S else go r 115 74 [l0, l1, l2, l3, l4, l5, l6, l7] [] M S := go_br rfl rfl rfl rfl rfl
theorem g115_74 (r : Nat) (l1 l2 l3 l4 l5 l6 l7 : Option AV) (a : Nat) (M : Mem) (S : Sh) : go r 115 74 [some (aR a), l1, l2, l3, l4, l5, l6, l7] [] M S = go r 115 75 [some (aR a), l1, l2, l3, l4, l5, l6, l7] [aR a] M S := go_nx rfl rfl
theorem g115_75 (r : Nat) (l0 l1 l2 l3 l4 l5 l6 l7 : Option AV) (a : Nat) (M : Mem) (S : Sh) (h : S.1 a = 6) : go r 115 75 [l0, l1, l2, l3, l4, l5, l6, l7] [aR a] M S = go r 115 78 [l0, l1, l2, l3, l4, l5, l6, l7] [aO (S.2.2.1 a 12)] M S := go_bnd rfl h rfl
theorem g115_78 (r : Nat) (l1 l2 l3 l4 l5 l6 l7 : Option AV) (s0 : AV) (a : Nat) (M : Mem) (S : Sh) : go r 115 78 [some (aR a), l1, l2, l3, l4, l5, l6, l7] [s0] M S = go r 115 79 [some (aR a), l1, l2, l3, l4, l5, l6, l7] [aR a, s0] M S := go_nx rfl rfl
theorem g115_79 (r : Nat) (l0 l1 l2 l3 l4 l5 l6 l7 : Option AV) (s0 : AV) (a : Nat) (M : Mem) (S : Sh) (h : S.1 a = 6) : go r 115 79 [l0, l1, l2, l3, l4, l5, l6, l7] [aR a, s0] M S = go r 115 82 [l0, l1, l2, l3, l4, l5, l6, l7] [aI (M a 13), s0] M S := go_bnd rfl h rfl
theorem g115_82 (r : Nat) (l0 l1 l2 l3 l4 l5 l6 : Option AV) (s0 s1 : AV) (x : Int) (M : Mem) (S : Sh) : go r 115 82 [l0, l1, l2, l3, l4, l5, l6, some (aI x)] [s0, s1] M S = go r 115 84 [l0, l1, l2, l3, l4, l5, l6, some (aI x)] [aI x, s0, s1] M S := go_nx rfl rfl
theorem g115_84 (r : Nat) (l0 l1 l2 l3 l4 l5 l6 l7 : Option AV) (s0 s1 : AV) (x : Int) (M : Mem) (S : Sh) : go r 115 84 [l0, l1, l2, l3, l4, l5, l6, l7] [aI x, s0, s1] M S = if x ≠ 0 then go r 115 91 [l0, l1, l2, l3, l4, l5, l6, l7] [s0, s1] M S else go r 115 87 [l0, l1, l2, l3, l4, l5, l6, l7] [s0, s1] M S := go_br rfl rfl rfl rfl rfl
theorem g115_87 (r : Nat) (l0 l1 l3 l4 l5 l6 l7 : Option AV) (s0 s1 : AV) (x : Int) (M : Mem) (S : Sh) : go r 115 87 [l0, l1, some (aI x), l3, l4, l5, l6, l7] [s0, s1] M S = go r 115 88 [l0, l1, some (aI x), l3, l4, l5, l6, l7] [aI x, s0, s1] M S := go_nx rfl rfl
theorem g115_88 (r : Nat) (l0 l1 l2 l3 l4 l5 l6 l7 : Option AV) (s0 s1 s2 : AV) (M : Mem) (S : Sh) : go r 115 88 [l0, l1, l2, l3, l4, l5, l6, l7] [s0, s1, s2] M S = go r 115 125 [l0, l1, l2, l3, l4, l5, l6, l7] [s0, s1, s2] M S := go_nx rfl rfl
theorem g115_91 (r : Nat) (l0 l1 l2 l3 l4 l5 l6 : Option AV) (s0 s1 : AV) (x : Int) (M : Mem) (S : Sh) : go r 115 91 [l0, l1, l2, l3, l4, l5, l6, some (aI x)] [s0, s1] M S = go r 115 93 [l0, l1, l2, l3, l4, l5, l6, some (aI x)] [aI x, s0, s1] M S := go_nx rfl rfl
theorem g115_93 (r : Nat) (l0 l1 l2 l3 l4 l5 l6 l7 : Option AV) (s0 s1 s2 : AV) (M : Mem) (S : Sh) : go r 115 93 [l0, l1, l2, l3, l4, l5, l6, l7] [s0, s1, s2] M S = go r 115 94 [l0, l1, l2, l3, l4, l5, l6, l7] [aI 1, s0, s1, s2] M S := go_nx rfl rfl
theorem g115_94 (r : Nat) (l0 l1 l2 l3 l4 l5 l6 l7 : Option AV) (s0 s1 : AV) (x y : Int) (M : Mem) (S : Sh) : go r 115 94 [l0, l1, l2, l3, l4, l5, l6, l7] [aI y, aI x, s0, s1] M S = if x ≠ y then go r 115 101 [l0, l1, l2, l3, l4, l5, l6, l7] [s0, s1] M S else go r 115 97 [l0, l1, l2, l3, l4, l5, l6, l7] [s0, s1] M S := go_br rfl rfl rfl rfl rfl
theorem g115_97 (r : Nat) (l0 l1 l2 l4 l5 l6 l7 : Option AV) (s0 s1 : AV) (x : Int) (M : Mem) (S : Sh) : go r 115 97 [l0, l1, l2, some (aI x), l4, l5, l6, l7] [s0, s1] M S = go r 115 98 [l0, l1, l2, some (aI x), l4, l5, l6, l7] [aI x, s0, s1] M S := go_nx rfl rfl
theorem g115_98 (r : Nat) (l0 l1 l2 l3 l4 l5 l6 l7 : Option AV) (s0 s1 s2 : AV) (M : Mem) (S : Sh) : go r 115 98 [l0, l1, l2, l3, l4, l5, l6, l7] [s0, s1, s2] M S = go r 115 125 [l0, l1, l2, l3, l4, l5, l6, l7] [s0, s1, s2] M S := go_nx rfl rfl
theorem g115_101 (r : Nat) (l0 l1 l2 l3 l4 l5 l6 : Option AV) (s0 s1 : AV) (x : Int) (M : Mem) (S : Sh) : go r 115 101 [l0, l1, l2, l3, l4, l5, l6, some (aI x)] [s0, s1] M S = go r 115 103 [l0, l1, l2, l3, l4, l5, l6, some (aI x)] [aI x, s0, s1] M S := go_nx rfl rfl
theorem g115_103 (r : Nat) (l0 l1 l2 l3 l4 l5 l6 l7 : Option AV) (s0 s1 s2 : AV) (M : Mem) (S : Sh) : go r 115 103 [l0, l1, l2, l3, l4, l5, l6, l7] [s0, s1, s2] M S = go r 115 104 [l0, l1, l2, l3, l4, l5, l6, l7] [aI 2, s0, s1, s2] M S := go_nx rfl rfl
theorem g115_104 (r : Nat) (l0 l1 l2 l3 l4 l5 l6 l7 : Option AV) (s0 s1 : AV) (x y : Int) (M : Mem) (S : Sh) : go r 115 104 [l0, l1, l2, l3, l4, l5, l6, l7] [aI y, aI x, s0, s1] M S = if x ≠ y then go r 115 112 [l0, l1, l2, l3, l4, l5, l6, l7] [s0, s1] M S else go r 115 107 [l0, l1, l2, l3, l4, l5, l6, l7] [s0, s1] M S := go_br rfl rfl rfl rfl rfl
theorem g115_107 (r : Nat) (l0 l1 l2 l3 l5 l6 l7 : Option AV) (s0 s1 : AV) (x : Int) (M : Mem) (S : Sh) : go r 115 107 [l0, l1, l2, l3, some (aI x), l5, l6, l7] [s0, s1] M S = go r 115 109 [l0, l1, l2, l3, some (aI x), l5, l6, l7] [aI x, s0, s1] M S := go_nx rfl rfl
theorem g115_109 (r : Nat) (l0 l1 l2 l3 l4 l5 l6 l7 : Option AV) (s0 s1 s2 : AV) (M : Mem) (S : Sh) : go r 115 109 [l0, l1, l2, l3, l4, l5, l6, l7] [s0, s1, s2] M S = go r 115 125 [l0, l1, l2, l3, l4, l5, l6, l7] [s0, s1, s2] M S := go_nx rfl rfl
theorem g115_112 (r : Nat) (l0 l1 l2 l3 l4 l5 l6 : Option AV) (s0 s1 : AV) (x : Int) (M : Mem) (S : Sh) : go r 115 112 [l0, l1, l2, l3, l4, l5, l6, some (aI x)] [s0, s1] M S = go r 115 114 [l0, l1, l2, l3, l4, l5, l6, some (aI x)] [aI x, s0, s1] M S := go_nx rfl rfl
theorem g115_114 (r : Nat) (l0 l1 l2 l3 l4 l5 l6 l7 : Option AV) (s0 s1 s2 : AV) (M : Mem) (S : Sh) : go r 115 114 [l0, l1, l2, l3, l4, l5, l6, l7] [s0, s1, s2] M S = go r 115 115 [l0, l1, l2, l3, l4, l5, l6, l7] [aI 3, s0, s1, s2] M S := go_nx rfl rfl
theorem g115_115 (r : Nat) (l0 l1 l2 l3 l4 l5 l6 l7 : Option AV) (s0 s1 : AV) (x y : Int) (M : Mem) (S : Sh) : go r 115 115 [l0, l1, l2, l3, l4, l5, l6, l7] [aI y, aI x, s0, s1] M S = if x ≠ y then go r 115 123 [l0, l1, l2, l3, l4, l5, l6, l7] [s0, s1] M S else go r 115 118 [l0, l1, l2, l3, l4, l5, l6, l7] [s0, s1] M S := go_br rfl rfl rfl rfl rfl
theorem g115_118 (r : Nat) (l0 l1 l2 l3 l4 l6 l7 : Option AV) (s0 s1 : AV) (x : Int) (M : Mem) (S : Sh) : go r 115 118 [l0, l1, l2, l3, l4, some (aI x), l6, l7] [s0, s1] M S = go r 115 120 [l0, l1, l2, l3, l4, some (aI x), l6, l7] [aI x, s0, s1] M S := go_nx rfl rfl
theorem g115_120 (r : Nat) (l0 l1 l2 l3 l4 l5 l6 l7 : Option AV) (s0 s1 s2 : AV) (M : Mem) (S : Sh) : go r 115 120 [l0, l1, l2, l3, l4, l5, l6, l7] [s0, s1, s2] M S = go r 115 125 [l0, l1, l2, l3, l4, l5, l6, l7] [s0, s1, s2] M S := go_nx rfl rfl
theorem g115_123 (r : Nat) (l0 l1 l2 l3 l4 l5 l7 : Option AV) (s0 s1 : AV) (x : Int) (M : Mem) (S : Sh) : go r 115 123 [l0, l1, l2, l3, l4, l5, some (aI x), l7] [s0, s1] M S = go r 115 125 [l0, l1, l2, l3, l4, l5, some (aI x), l7] [aI x, s0, s1] M S := go_nx rfl rfl
theorem g115_125 (r : Nat) (l0 l1 l2 l3 l4 l5 l6 l7 : Option AV) (x y : Int) (a : Nat) (M : Mem) (S : Sh) (h : S.1 a = 7) (h6 : 6 ≤ a) (h0 : 0 ≤ x) (h1 : x < S.2.1 a) : go r 115 125 [l0, l1, l2, l3, l4, l5, l6, l7] [aI y, aI x, aR a] M S = go r 115 126 [l0, l1, l2, l3, l4, l5, l6, l7] [] (mset M a x.toNat y) S := go_bnd rfl ⟨h, h6, h0, h1⟩ rfl
theorem g115_126 (r : Nat) (l1 l2 l3 l4 l5 l6 l7 : Option AV) (a : Nat) (M : Mem) (S : Sh) : go r 115 126 [some (aR a), l1, l2, l3, l4, l5, l6, l7] [] M S = go r 115 127 [some (aR a), l1, l2, l3, l4, l5, l6, l7] [aR a] M S := go_nx rfl rfl
set_option maxRecDepth 20000 in
theorem g115_127 (r : Nat) (l0 l1 l2 l3 l4 l5 l6 l7 : Option AV) (a : Nat) (M : Mem) (S : Sh) : go r 115 127 [l0, l1, l2, l3, l4, l5, l6, l7] [aR a] M S = go r 115 128 [l0, l1, l2, l3, l4, l5, l6, l7] [aR a, aR a] M S := go_nx rfl rfl
set_option maxRecDepth 20000 in
theorem g115_128 (r : Nat) (l0 l1 l2 l3 l4 l5 l6 l7 : Option AV) (s0 : AV) (a : Nat) (M : Mem) (S : Sh) (h : S.1 a = 6) : go r 115 128 [l0, l1, l2, l3, l4, l5, l6, l7] [aR a, s0] M S = go r 115 131 [l0, l1, l2, l3, l4, l5, l6, l7] [aI (M a 13), s0] M S := go_bnd rfl h rfl
set_option maxRecDepth 20000 in
theorem g115_131 (r : Nat) (l0 l1 l2 l3 l4 l5 l6 l7 : Option AV) (s0 s1 : AV) (M : Mem) (S : Sh) : go r 115 131 [l0, l1, l2, l3, l4, l5, l6, l7] [s0, s1] M S = go r 115 132 [l0, l1, l2, l3, l4, l5, l6, l7] [aI 1, s0, s1] M S := go_nx rfl rfl
set_option maxRecDepth 20000 in
theorem g115_132 (r : Nat) (l0 l1 l2 l3 l4 l5 l6 l7 : Option AV) (s0 : AV) (x y : Int) (M : Mem) (S : Sh) : go r 115 132 [l0, l1, l2, l3, l4, l5, l6, l7] [aI y, aI x, s0] M S = go r 115 133 [l0, l1, l2, l3, l4, l5, l6, l7] [aI (w32 (x + y)), s0] M S := go_nx rfl rfl
set_option maxRecDepth 20000 in
theorem g115_133 (r : Nat) (l0 l1 l2 l3 l4 l5 l6 l7 : Option AV) (x : Int) (a : Nat) (M : Mem) (S : Sh) (h : S.1 a = 6) : go r 115 133 [l0, l1, l2, l3, l4, l5, l6, l7] [aI x, aR a] M S = go r 115 136 [l0, l1, l2, l3, l4, l5, l6, l7] [] (mset M a 13 x) S := go_bnd rfl ⟨h, fun z => absurd z (by decide)⟩ rfl
set_option maxRecDepth 20000 in
theorem g115_136 (r : Nat) (l0 l1 l2 l3 l4 l5 l6 : Option AV) (x : Int) (M : Mem) (S : Sh) : go r 115 136 [l0, l1, l2, l3, l4, l5, l6, some (aI x)] [] M S = go r 115 139 [l0, l1, l2, l3, l4, l5, l6, some (aI (w32 (x + 1)))] [] M S := go_nx rfl rfl
set_option maxRecDepth 20000 in
theorem g115_139 (r : Nat) (l0 l1 l2 l3 l4 l5 l6 l7 : Option AV) (M : Mem) (S : Sh) : go r 115 139 [l0, l1, l2, l3, l4, l5, l6, l7] [] M S = go r 115 68 [l0, l1, l2, l3, l4, l5, l6, l7] [] M S := go_nx rfl rfl
set_option maxRecDepth 20000 in
theorem g115_142 (r : Nat) (l1 l2 l3 l4 l5 l6 l7 : Option AV) (a : Nat) (M : Mem) (S : Sh) : go r 115 142 [some (aR a), l1, l2, l3, l4, l5, l6, l7] [] M S = go r 115 143 [some (aR a), l1, l2, l3, l4, l5, l6, l7] [aR a] M S := go_nx rfl rfl
set_option maxRecDepth 20000 in
theorem g115_143 (r : Nat) (l0 l1 l2 l3 l4 l5 l6 l7 : Option AV) (a : Nat) (M : Mem) (S : Sh) (h : S.1 a = 6) : go r 115 143 [l0, l1, l2, l3, l4, l5, l6, l7] [aR a] M S = go r 115 146 [l0, l1, l2, l3, l4, l5, l6, l7] [aI (M a 13)] M S := go_bnd rfl h rfl
set_option maxRecDepth 20000 in
theorem g115_146 (r : Nat) (l0 l1 l2 l3 l4 l5 l6 l7 : Option AV) (x : Int) (M : Mem) (S : Sh) : go r 115 146 [l0, l1, l2, l3, l4, l5, l6, l7] [aI x] M S = some (some (aI x), M, S) := go_rt rfl (bnd_t (Or.inl rfl))
/-- StripsFromAboveModel.wordFrom(II)I -/
theorem g116 (x1 x2 : Int) (a0 : Nat) (M : Mem) (S : Sh) : res 116 [aR a0, aI x1, aI x2] M S = go 10 116 0 [some (aR a0), some (aI x1), some (aI x2), none, none, none] [] M S := res_e0 rfl _ M S
theorem g116_0 (r : Nat) (l0 l1 l2 l3 l4 l5 : Option AV) (M : Mem) (S : Sh) : go r 116 0 [l0, l1, l2, l3, l4, l5] [] M S = go r 116 1 [l0, l1, l2, l3, l4, l5] [aI 0] M S := go_nx rfl rfl
theorem g116_1 (r : Nat) (l0 l1 l2 l3 l4 l5 : Option AV) (x : Int) (M : Mem) (S : Sh) : go r 116 1 [l0, l1, l2, l3, l4, l5] [aI x] M S = go r 116 2 [l0, l1, l2, some (aI x), l4, l5] [] M S := go_nx rfl rfl
theorem g116_2 (r : Nat) (l0 l1 l2 l4 l5 : Option AV) (x : Int) (M : Mem) (S : Sh) : go r 116 2 [l0, l1, l2, some (aI x), l4, l5] [] M S = go r 116 3 [l0, l1, l2, some (aI x), l4, l5] [aI x] M S := go_nx rfl rfl
theorem g116_3 (r : Nat) (l0 l1 l2 l3 l4 l5 : Option AV) (s0 : AV) (M : Mem) (S : Sh) : go r 116 3 [l0, l1, l2, l3, l4, l5] [s0] M S = go r 116 5 [l0, l1, l2, l3, l4, l5] [aI 12, s0] M S := go_nx rfl rfl
theorem g116_5 (r : Nat) (l0 l1 l2 l3 l4 l5 : Option AV) (x y : Int) (M : Mem) (S : Sh) : go r 116 5 [l0, l1, l2, l3, l4, l5] [aI y, aI x] M S = if x ≥ y then go r 116 101 [l0, l1, l2, l3, l4, l5] [] M S else go r 116 8 [l0, l1, l2, l3, l4, l5] [] M S := go_br rfl rfl rfl rfl rfl
theorem g116_8 (r : Nat) (l0 l1 l3 l4 l5 : Option AV) (x : Int) (M : Mem) (S : Sh) : go r 116 8 [l0, l1, some (aI x), l3, l4, l5] [] M S = go r 116 9 [l0, l1, some (aI x), l3, l4, l5] [aI x] M S := go_nx rfl rfl
theorem g116_9 (r : Nat) (l0 l2 l3 l4 l5 : Option AV) (s0 : AV) (x : Int) (M : Mem) (S : Sh) : go r 116 9 [l0, some (aI x), l2, l3, l4, l5] [s0] M S = go r 116 10 [l0, some (aI x), l2, l3, l4, l5] [aI x, s0] M S := go_nx rfl rfl
theorem g116_10 (r : Nat) (l0 l1 l2 l3 l4 l5 : Option AV) (x y : Int) (M : Mem) (S : Sh) : go r 116 10 [l0, l1, l2, l3, l4, l5] [aI y, aI x] M S = go r 116 11 [l0, l1, l2, l3, l4, l5] [aI (w32 (x - y))] M S := go_nx rfl rfl
theorem g116_11 (r : Nat) (l0 l1 l2 l3 l4 l5 : Option AV) (s0 : AV) (M : Mem) (S : Sh) : go r 116 11 [l0, l1, l2, l3, l4, l5] [s0] M S = go r 116 13 [l0, l1, l2, l3, l4, l5] [aI 8, s0] M S := go_nx rfl rfl
theorem g116_13 (r : Nat) (l0 l1 l2 l3 l4 l5 : Option AV) (x y : Int) (M : Mem) (S : Sh) : go r 116 13 [l0, l1, l2, l3, l4, l5] [aI y, aI x] M S = if x > y then go r 116 20 [l0, l1, l2, l3, l4, l5] [] M S else go r 116 16 [l0, l1, l2, l3, l4, l5] [] M S := go_br rfl rfl rfl rfl rfl
theorem g116_16 (r : Nat) (l0 l1 l2 l3 l4 l5 : Option AV) (M : Mem) (S : Sh) : go r 116 16 [l0, l1, l2, l3, l4, l5] [] M S = go r 116 17 [l0, l1, l2, l3, l4, l5] [aI 1] M S := go_nx rfl rfl
theorem g116_17 (r : Nat) (l0 l1 l2 l3 l4 l5 : Option AV) (s0 : AV) (M : Mem) (S : Sh) : go r 116 17 [l0, l1, l2, l3, l4, l5] [s0] M S = go r 116 21 [l0, l1, l2, l3, l4, l5] [s0] M S := go_nx rfl rfl
theorem g116_20 (r : Nat) (l0 l1 l2 l3 l4 l5 : Option AV) (M : Mem) (S : Sh) : go r 116 20 [l0, l1, l2, l3, l4, l5] [] M S = go r 116 21 [l0, l1, l2, l3, l4, l5] [aI 0] M S := go_nx rfl rfl
theorem g116_21 (r : Nat) (l0 l1 l2 l3 l4 l5 : Option AV) (x : Int) (M : Mem) (S : Sh) : go r 116 21 [l0, l1, l2, l3, l4, l5] [aI x] M S = go r 116 23 [l0, l1, l2, l3, some (aI x), l5] [] M S := go_nx rfl rfl
theorem g116_23 (r : Nat) (l0 l1 l2 l3 l4 l5 : Option AV) (M : Mem) (S : Sh) : go r 116 23 [l0, l1, l2, l3, l4, l5] [] M S = go r 116 24 [l0, l1, l2, l3, l4, l5] [aI 0] M S := go_nx rfl rfl
theorem g116_24 (r : Nat) (l0 l1 l2 l3 l4 l5 : Option AV) (x : Int) (M : Mem) (S : Sh) : go r 116 24 [l0, l1, l2, l3, l4, l5] [aI x] M S = go r 116 26 [l0, l1, l2, l3, l4, some (aI x)] [] M S := go_nx rfl rfl
theorem g116_26 (r : Nat) (l0 l1 l2 l3 l4 : Option AV) (x : Int) (M : Mem) (S : Sh) : go r 116 26 [l0, l1, l2, l3, l4, some (aI x)] [] M S = go r 116 28 [l0, l1, l2, l3, l4, some (aI x)] [aI x] M S := go_nx rfl rfl
theorem g116_28 (r : Nat) (l0 l1 l2 l3 l4 l5 : Option AV) (s0 : AV) (M : Mem) (S : Sh) : go r 116 28 [l0, l1, l2, l3, l4, l5] [s0] M S = go r 116 30 [l0, l1, l2, l3, l4, l5] [aI 8, s0] M S := go_nx rfl rfl
theorem g116_30 (r : Nat) (l0 l1 l2 l3 l4 l5 : Option AV) (x y : Int) (M : Mem) (S : Sh) : go r 116 30 [l0, l1, l2, l3, l4, l5] [aI y, aI x] M S = if x ≥ y then go r 116 88 [l0, l1, l2, l3, l4, l5] [] M S else go r 116 33 [l0, l1, l2, l3, l4, l5] [] M S := go_br rfl rfl rfl rfl rfl
theorem g116_33 (r : Nat) (l0 l1 l2 l3 l5 : Option AV) (x : Int) (M : Mem) (S : Sh) : go r 116 33 [l0, l1, l2, l3, some (aI x), l5] [] M S = go r 116 35 [l0, l1, l2, l3, some (aI x), l5] [aI x] M S := go_nx rfl rfl
theorem g116_35 (r : Nat) (l0 l1 l2 l3 l4 l5 : Option AV) (x : Int) (M : Mem) (S : Sh) : go r 116 35 [l0, l1, l2, l3, l4, l5] [aI x] M S = if x = 0 then go r 116 88 [l0, l1, l2, l3, l4, l5] [] M S else go r 116 38 [l0, l1, l2, l3, l4, l5] [] M S := go_br rfl rfl rfl rfl rfl
theorem g116_38 (r : Nat) (l1 l2 l3 l4 l5 : Option AV) (a : Nat) (M : Mem) (S : Sh) : go r 116 38 [some (aR a), l1, l2, l3, l4, l5] [] M S = go r 116 39 [some (aR a), l1, l2, l3, l4, l5] [aR a] M S := go_nx rfl rfl
theorem g116_39 (r : Nat) (l0 l1 l2 l3 l4 l5 : Option AV) (a : Nat) (M : Mem) (S : Sh) (h : S.1 a = 6) : go r 116 39 [l0, l1, l2, l3, l4, l5] [aR a] M S = go r 116 42 [l0, l1, l2, l3, l4, l5] [aO (S.2.2.1 a 30)] M S := go_bnd rfl h rfl
theorem g116_42 (r : Nat) (l0 l1 l2 l3 l4 l5 : Option AV) (s0 : AV) (M : Mem) (S : Sh) : go r 116 42 [l0, l1, l2, l3, l4, l5] [s0] M S = go r 116 44 [l0, l1, l2, l3, l4, l5] [aI 8, s0] M S := go_nx rfl rfl
theorem g116_44 (r : Nat) (l0 l1 l2 l4 l5 : Option AV) (s0 s1 : AV) (x : Int) (M : Mem) (S : Sh) : go r 116 44 [l0, l1, l2, some (aI x), l4, l5] [s0, s1] M S = go r 116 45 [l0, l1, l2, some (aI x), l4, l5] [aI x, s0, s1] M S := go_nx rfl rfl
theorem g116_45 (r : Nat) (l0 l1 l2 l3 l4 l5 : Option AV) (s0 : AV) (x y : Int) (M : Mem) (S : Sh) : go r 116 45 [l0, l1, l2, l3, l4, l5] [aI y, aI x, s0] M S = go r 116 46 [l0, l1, l2, l3, l4, l5] [aI (w32 (x * y)), s0] M S := go_nx rfl rfl
theorem g116_46 (r : Nat) (l0 l1 l2 l3 l4 : Option AV) (s0 s1 : AV) (x : Int) (M : Mem) (S : Sh) : go r 116 46 [l0, l1, l2, l3, l4, some (aI x)] [s0, s1] M S = go r 116 48 [l0, l1, l2, l3, l4, some (aI x)] [aI x, s0, s1] M S := go_nx rfl rfl
theorem g116_48 (r : Nat) (l0 l1 l2 l3 l4 l5 : Option AV) (s0 : AV) (x y : Int) (M : Mem) (S : Sh) : go r 116 48 [l0, l1, l2, l3, l4, l5] [aI y, aI x, s0] M S = go r 116 49 [l0, l1, l2, l3, l4, l5] [aI (w32 (x + y)), s0] M S := go_nx rfl rfl
theorem g116_49 (r : Nat) (l0 l1 l2 l3 l4 l5 : Option AV) (x : Int) (a : Nat) (M : Mem) (S : Sh) (h : S.1 a = 7) (h0 : 0 ≤ x) (h1 : x < S.2.1 a) : go r 116 49 [l0, l1, l2, l3, l4, l5] [aI x, aR a] M S = go r 116 50 [l0, l1, l2, l3, l4, l5] [aI (M a x.toNat)] M S := go_bnd rfl ⟨h, h0, h1⟩ rfl
theorem g116_50 (r : Nat) (l0 l2 l3 l4 l5 : Option AV) (s0 : AV) (x : Int) (M : Mem) (S : Sh) : go r 116 50 [l0, some (aI x), l2, l3, l4, l5] [s0] M S = go r 116 51 [l0, some (aI x), l2, l3, l4, l5] [aI x, s0] M S := go_nx rfl rfl
theorem g116_51 (r : Nat) (l0 l1 l2 l3 l4 : Option AV) (s0 s1 : AV) (x : Int) (M : Mem) (S : Sh) : go r 116 51 [l0, l1, l2, l3, l4, some (aI x)] [s0, s1] M S = go r 116 53 [l0, l1, l2, l3, l4, some (aI x)] [aI x, s0, s1] M S := go_nx rfl rfl
theorem g116_53 (r : Nat) (l0 l1 l2 l3 l4 l5 : Option AV) (s0 : AV) (x y : Int) (M : Mem) (S : Sh) : go r 116 53 [l0, l1, l2, l3, l4, l5] [aI y, aI x, s0] M S = go r 116 54 [l0, l1, l2, l3, l4, l5] [aI (w32 (x + y)), s0] M S := go_nx rfl rfl
theorem g116_54 (r : Nat) (l0 l1 l3 l4 l5 : Option AV) (s0 s1 : AV) (x : Int) (M : Mem) (S : Sh) : go r 116 54 [l0, l1, some (aI x), l3, l4, l5] [s0, s1] M S = go r 116 55 [l0, l1, some (aI x), l3, l4, l5] [aI x, s0, s1] M S := go_nx rfl rfl
theorem g116_55 (r : Nat) (l0 l1 l2 l3 l4 l5 : Option AV) (s0 : AV) (x y : Int) (M : Mem) (S : Sh) : go r 116 55 [l0, l1, l2, l3, l4, l5] [aI y, aI x, s0] M S = if x ≥ y then go r 116 70 [l0, l1, l2, l3, l4, l5] [s0] M S else go r 116 58 [l0, l1, l2, l3, l4, l5] [s0] M S := go_br rfl rfl rfl rfl rfl
theorem g116_58 (r : Nat) (l1 l2 l3 l4 l5 : Option AV) (s0 : AV) (a : Nat) (M : Mem) (S : Sh) : go r 116 58 [some (aR a), l1, l2, l3, l4, l5] [s0] M S = go r 116 59 [some (aR a), l1, l2, l3, l4, l5] [aR a, s0] M S := go_nx rfl rfl
theorem g116_59 (r : Nat) (l0 l1 l2 l3 l4 l5 : Option AV) (s0 : AV) (a : Nat) (M : Mem) (S : Sh) (h : S.1 a = 6) : go r 116 59 [l0, l1, l2, l3, l4, l5] [aR a, s0] M S = go r 116 62 [l0, l1, l2, l3, l4, l5] [aO (S.2.2.1 a 12), s0] M S := go_bnd rfl h rfl
theorem g116_62 (r : Nat) (l0 l2 l3 l4 l5 : Option AV) (s0 s1 : AV) (x : Int) (M : Mem) (S : Sh) : go r 116 62 [l0, some (aI x), l2, l3, l4, l5] [s0, s1] M S = go r 116 63 [l0, some (aI x), l2, l3, l4, l5] [aI x, s0, s1] M S := go_nx rfl rfl
theorem g116_63 (r : Nat) (l0 l1 l2 l3 l4 : Option AV) (s0 s1 s2 : AV) (x : Int) (M : Mem) (S : Sh) : go r 116 63 [l0, l1, l2, l3, l4, some (aI x)] [s0, s1, s2] M S = go r 116 65 [l0, l1, l2, l3, l4, some (aI x)] [aI x, s0, s1, s2] M S := go_nx rfl rfl
theorem g116_65 (r : Nat) (l0 l1 l2 l3 l4 l5 : Option AV) (s0 s1 : AV) (x y : Int) (M : Mem) (S : Sh) : go r 116 65 [l0, l1, l2, l3, l4, l5] [aI y, aI x, s0, s1] M S = go r 116 66 [l0, l1, l2, l3, l4, l5] [aI (w32 (x + y)), s0, s1] M S := go_nx rfl rfl
theorem g116_66 (r : Nat) (l0 l1 l2 l3 l4 l5 : Option AV) (s0 : AV) (x : Int) (a : Nat) (M : Mem) (S : Sh) (h : S.1 a = 7) (h0 : 0 ≤ x) (h1 : x < S.2.1 a) : go r 116 66 [l0, l1, l2, l3, l4, l5] [aI x, aR a, s0] M S = go r 116 67 [l0, l1, l2, l3, l4, l5] [aI (M a x.toNat), s0] M S := go_bnd rfl ⟨h, h0, h1⟩ rfl
theorem g116_67 (r : Nat) (l0 l1 l2 l3 l4 l5 : Option AV) (s0 s1 : AV) (M : Mem) (S : Sh) : go r 116 67 [l0, l1, l2, l3, l4, l5] [s0, s1] M S = go r 116 72 [l0, l1, l2, l3, l4, l5] [s0, s1] M S := go_nx rfl rfl
theorem g116_70 (r : Nat) (l0 l1 l2 l3 l4 l5 : Option AV) (s0 : AV) (M : Mem) (S : Sh) : go r 116 70 [l0, l1, l2, l3, l4, l5] [s0] M S = go r 116 72 [l0, l1, l2, l3, l4, l5] [aI 32, s0] M S := go_nx rfl rfl
theorem g116_72 (r : Nat) (l0 l1 l2 l3 l4 l5 : Option AV) (x y : Int) (M : Mem) (S : Sh) : go r 116 72 [l0, l1, l2, l3, l4, l5] [aI y, aI x] M S = if x ≠ y then go r 116 79 [l0, l1, l2, l3, l4, l5] [] M S else go r 116 75 [l0, l1, l2, l3, l4, l5] [] M S := go_br rfl rfl rfl rfl rfl
theorem g116_75 (r : Nat) (l0 l1 l2 l3 l4 l5 : Option AV) (M : Mem) (S : Sh) : go r 116 75 [l0, l1, l2, l3, l4, l5] [] M S = go r 116 76 [l0, l1, l2, l3, l4, l5] [aI 1] M S := go_nx rfl rfl
theorem g116_76 (r : Nat) (l0 l1 l2 l3 l4 l5 : Option AV) (s0 : AV) (M : Mem) (S : Sh) : go r 116 76 [l0, l1, l2, l3, l4, l5] [s0] M S = go r 116 80 [l0, l1, l2, l3, l4, l5] [s0] M S := go_nx rfl rfl
theorem g116_79 (r : Nat) (l0 l1 l2 l3 l4 l5 : Option AV) (M : Mem) (S : Sh) : go r 116 79 [l0, l1, l2, l3, l4, l5] [] M S = go r 116 80 [l0, l1, l2, l3, l4, l5] [aI 0] M S := go_nx rfl rfl
theorem g116_80 (r : Nat) (l0 l1 l2 l3 l4 l5 : Option AV) (x : Int) (M : Mem) (S : Sh) : go r 116 80 [l0, l1, l2, l3, l4, l5] [aI x] M S = go r 116 82 [l0, l1, l2, l3, some (aI x), l5] [] M S := go_nx rfl rfl
theorem g116_82 (r : Nat) (l0 l1 l2 l3 l4 : Option AV) (x : Int) (M : Mem) (S : Sh) : go r 116 82 [l0, l1, l2, l3, l4, some (aI x)] [] M S = go r 116 85 [l0, l1, l2, l3, l4, some (aI (w32 (x + 1)))] [] M S := go_nx rfl rfl
theorem g116_85 (r : Nat) (l0 l1 l2 l3 l4 l5 : Option AV) (M : Mem) (S : Sh) : go r 116 85 [l0, l1, l2, l3, l4, l5] [] M S = go r 116 26 [l0, l1, l2, l3, l4, l5] [] M S := go_nx rfl rfl
theorem g116_88 (r : Nat) (l0 l1 l2 l3 l5 : Option AV) (x : Int) (M : Mem) (S : Sh) : go r 116 88 [l0, l1, l2, l3, some (aI x), l5] [] M S = go r 116 90 [l0, l1, l2, l3, some (aI x), l5] [aI x] M S := go_nx rfl rfl
theorem g116_90 (r : Nat) (l0 l1 l2 l3 l4 l5 : Option AV) (x : Int) (M : Mem) (S : Sh) : go r 116 90 [l0, l1, l2, l3, l4, l5] [aI x] M S = if x = 0 then go r 116 95 [l0, l1, l2, l3, l4, l5] [] M S else go r 116 93 [l0, l1, l2, l3, l4, l5] [] M S := go_br rfl rfl rfl rfl rfl
theorem g116_93 (r : Nat) (l0 l1 l2 l4 l5 : Option AV) (x : Int) (M : Mem) (S : Sh) : go r 116 93 [l0, l1, l2, some (aI x), l4, l5] [] M S = go r 116 94 [l0, l1, l2, some (aI x), l4, l5] [aI x] M S := go_nx rfl rfl
theorem g116_94 (r : Nat) (l0 l1 l2 l3 l4 l5 : Option AV) (x : Int) (M : Mem) (S : Sh) : go r 116 94 [l0, l1, l2, l3, l4, l5] [aI x] M S = some (some (aI x), M, S) := go_rt rfl (bnd_t (Or.inl rfl))
theorem g116_95 (r : Nat) (l0 l1 l2 l4 l5 : Option AV) (x : Int) (M : Mem) (S : Sh) : go r 116 95 [l0, l1, l2, some (aI x), l4, l5] [] M S = go r 116 98 [l0, l1, l2, some (aI (w32 (x + 1))), l4, l5] [] M S := go_nx rfl rfl
theorem g116_98 (r : Nat) (l0 l1 l2 l3 l4 l5 : Option AV) (M : Mem) (S : Sh) : go r 116 98 [l0, l1, l2, l3, l4, l5] [] M S = go r 116 2 [l0, l1, l2, l3, l4, l5] [] M S := go_nx rfl rfl
theorem g116_101 (r : Nat) (l0 l1 l2 l3 l4 l5 : Option AV) (M : Mem) (S : Sh) : go r 116 101 [l0, l1, l2, l3, l4, l5] [] M S = go r 116 103 [l0, l1, l2, l3, l4, l5] [aI 12] M S := go_nx rfl rfl
theorem g116_103 (r : Nat) (l0 l1 l2 l3 l4 l5 : Option AV) (x : Int) (M : Mem) (S : Sh) : go r 116 103 [l0, l1, l2, l3, l4, l5] [aI x] M S = some (some (aI x), M, S) := go_rt rfl (bnd_t (Or.inl rfl))
/-- StripsFromAboveModel.next()V -/
theorem g117 (a0 : Nat) (M : Mem) (S : Sh) : res 117 [aR a0] M S = go 11 117 0 [some (aR a0), none, none] [] M S := res_e0 rfl _ M S
theorem g117_0 (r : Nat) (l1 l2 : Option AV) (a : Nat) (M : Mem) (S : Sh) : go r 117 0 [some (aR a), l1, l2] [] M S = go r 117 1 [some (aR a), l1, l2] [aR a] M S := go_nx rfl rfl
theorem g117_1 (r : Nat) (l0 l1 l2 : Option AV) (a : Nat) (M : Mem) (S : Sh) (h : S.1 a = 6) : go r 117 1 [l0, l1, l2] [aR a] M S = go r 117 4 [l0, l1, l2] [aI (M a 26)] M S := go_bnd rfl h rfl
theorem g117_4 (r : Nat) (l1 l2 : Option AV) (s0 : AV) (a : Nat) (M : Mem) (S : Sh) : go r 117 4 [some (aR a), l1, l2] [s0] M S = go r 117 5 [some (aR a), l1, l2] [aR a, s0] M S := go_nx rfl rfl
theorem g117_5 (r : Nat) (l0 l1 l2 : Option AV) (s0 : AV) (a : Nat) (M : Mem) (S : Sh) (h : S.1 a = 6) : go r 117 5 [l0, l1, l2] [aR a, s0] M S = go r 117 8 [l0, l1, l2] [aI (M a 13), s0] M S := go_bnd rfl h rfl
theorem g117_8 (r : Nat) (l0 l1 l2 : Option AV) (x y : Int) (M : Mem) (S : Sh) : go r 117 8 [l0, l1, l2] [aI y, aI x] M S = if x ≥ y then go r 117 52 [l0, l1, l2] [] M S else go r 117 11 [l0, l1, l2] [] M S := go_br rfl rfl rfl rfl rfl
theorem g117_11 (r : Nat) (l1 l2 : Option AV) (a : Nat) (M : Mem) (S : Sh) : go r 117 11 [some (aR a), l1, l2] [] M S = go r 117 12 [some (aR a), l1, l2] [aR a] M S := go_nx rfl rfl
theorem g117_12 (r : Nat) (l0 l1 l2 : Option AV) (a : Nat) (M : Mem) (S : Sh) (h : S.1 a = 6) : go r 117 12 [l0, l1, l2] [aR a] M S = go r 117 15 [l0, l1, l2] [aO (S.2.2.1 a 12)] M S := go_bnd rfl h rfl
theorem g117_15 (r : Nat) (l1 l2 : Option AV) (s0 : AV) (a : Nat) (M : Mem) (S : Sh) : go r 117 15 [some (aR a), l1, l2] [s0] M S = go r 117 16 [some (aR a), l1, l2] [aR a, s0] M S := go_nx rfl rfl
theorem g117_16 (r : Nat) (l0 l1 l2 : Option AV) (s0 : AV) (a : Nat) (M : Mem) (S : Sh) (h : S.1 a = 6) : go r 117 16 [l0, l1, l2] [aR a, s0] M S = go r 117 19 [l0, l1, l2] [aI (M a 26), s0] M S := go_bnd rfl h rfl
theorem g117_19 (r : Nat) (l0 l1 l2 : Option AV) (x : Int) (a : Nat) (M : Mem) (S : Sh) (h : S.1 a = 7) (h0 : 0 ≤ x) (h1 : x < S.2.1 a) : go r 117 19 [l0, l1, l2] [aI x, aR a] M S = go r 117 20 [l0, l1, l2] [aI (M a x.toNat)] M S := go_bnd rfl ⟨h, h0, h1⟩ rfl
theorem g117_20 (r : Nat) (l0 l1 l2 : Option AV) (s0 : AV) (M : Mem) (S : Sh) : go r 117 20 [l0, l1, l2] [s0] M S = go r 117 22 [l0, l1, l2] [aI 32, s0] M S := go_nx rfl rfl
theorem g117_22 (r : Nat) (l0 l1 l2 : Option AV) (x y : Int) (M : Mem) (S : Sh) : go r 117 22 [l0, l1, l2] [aI y, aI x] M S = if x = y then go r 117 39 [l0, l1, l2] [] M S else go r 117 25 [l0, l1, l2] [] M S := go_br rfl rfl rfl rfl rfl
theorem g117_25 (r : Nat) (l1 l2 : Option AV) (a : Nat) (M : Mem) (S : Sh) : go r 117 25 [some (aR a), l1, l2] [] M S = go r 117 26 [some (aR a), l1, l2] [aR a] M S := go_nx rfl rfl
theorem g117_26 (r : Nat) (l0 l1 l2 : Option AV) (a : Nat) (M : Mem) (S : Sh) (h : S.1 a = 6) : go r 117 26 [l0, l1, l2] [aR a] M S = go r 117 29 [l0, l1, l2] [aO (S.2.2.1 a 12)] M S := go_bnd rfl h rfl
theorem g117_29 (r : Nat) (l1 l2 : Option AV) (s0 : AV) (a : Nat) (M : Mem) (S : Sh) : go r 117 29 [some (aR a), l1, l2] [s0] M S = go r 117 30 [some (aR a), l1, l2] [aR a, s0] M S := go_nx rfl rfl
theorem g117_30 (r : Nat) (l0 l1 l2 : Option AV) (s0 : AV) (a : Nat) (M : Mem) (S : Sh) (h : S.1 a = 6) : go r 117 30 [l0, l1, l2] [aR a, s0] M S = go r 117 33 [l0, l1, l2] [aI (M a 26), s0] M S := go_bnd rfl h rfl
theorem g117_33 (r : Nat) (l0 l1 l2 : Option AV) (x : Int) (a : Nat) (M : Mem) (S : Sh) (h : S.1 a = 7) (h0 : 0 ≤ x) (h1 : x < S.2.1 a) : go r 117 33 [l0, l1, l2] [aI x, aR a] M S = go r 117 34 [l0, l1, l2] [aI (M a x.toNat)] M S := go_bnd rfl ⟨h, h0, h1⟩ rfl
theorem g117_34 (r : Nat) (l0 l1 l2 : Option AV) (s0 : AV) (M : Mem) (S : Sh) : go r 117 34 [l0, l1, l2] [s0] M S = go r 117 36 [l0, l1, l2] [aI 10, s0] M S := go_nx rfl rfl
theorem g117_36 (r : Nat) (l0 l1 l2 : Option AV) (x y : Int) (M : Mem) (S : Sh) : go r 117 36 [l0, l1, l2] [aI y, aI x] M S = if x ≠ y then go r 117 52 [l0, l1, l2] [] M S else go r 117 39 [l0, l1, l2] [] M S := go_br rfl rfl rfl rfl rfl
theorem g117_39 (r : Nat) (l1 l2 : Option AV) (a : Nat) (M : Mem) (S : Sh) : go r 117 39 [some (aR a), l1, l2] [] M S = go r 117 40 [some (aR a), l1, l2] [aR a] M S := go_nx rfl rfl
theorem g117_40 (r : Nat) (l0 l1 l2 : Option AV) (a : Nat) (M : Mem) (S : Sh) : go r 117 40 [l0, l1, l2] [aR a] M S = go r 117 41 [l0, l1, l2] [aR a, aR a] M S := go_nx rfl rfl
theorem g117_41 (r : Nat) (l0 l1 l2 : Option AV) (s0 : AV) (a : Nat) (M : Mem) (S : Sh) (h : S.1 a = 6) : go r 117 41 [l0, l1, l2] [aR a, s0] M S = go r 117 44 [l0, l1, l2] [aI (M a 26), s0] M S := go_bnd rfl h rfl
theorem g117_44 (r : Nat) (l0 l1 l2 : Option AV) (s0 s1 : AV) (M : Mem) (S : Sh) : go r 117 44 [l0, l1, l2] [s0, s1] M S = go r 117 45 [l0, l1, l2] [aI 1, s0, s1] M S := go_nx rfl rfl
theorem g117_45 (r : Nat) (l0 l1 l2 : Option AV) (s0 : AV) (x y : Int) (M : Mem) (S : Sh) : go r 117 45 [l0, l1, l2] [aI y, aI x, s0] M S = go r 117 46 [l0, l1, l2] [aI (w32 (x + y)), s0] M S := go_nx rfl rfl
theorem g117_46 (r : Nat) (l0 l1 l2 : Option AV) (x : Int) (a : Nat) (M : Mem) (S : Sh) (h : S.1 a = 6) : go r 117 46 [l0, l1, l2] [aI x, aR a] M S = go r 117 49 [l0, l1, l2] [] (mset M a 26 x) S := go_bnd rfl ⟨h, fun z => absurd z (by decide)⟩ rfl
theorem g117_49 (r : Nat) (l0 l1 l2 : Option AV) (M : Mem) (S : Sh) : go r 117 49 [l0, l1, l2] [] M S = go r 117 0 [l0, l1, l2] [] M S := go_nx rfl rfl
theorem g117_52 (r : Nat) (l1 l2 : Option AV) (a : Nat) (M : Mem) (S : Sh) : go r 117 52 [some (aR a), l1, l2] [] M S = go r 117 53 [some (aR a), l1, l2] [aR a] M S := go_nx rfl rfl
theorem g117_53 (r : Nat) (l1 l2 : Option AV) (s0 : AV) (a : Nat) (M : Mem) (S : Sh) : go r 117 53 [some (aR a), l1, l2] [s0] M S = go r 117 54 [some (aR a), l1, l2] [aR a, s0] M S := go_nx rfl rfl
theorem g117_54 (r : Nat) (l0 l1 l2 : Option AV) (s0 : AV) (a : Nat) (M : Mem) (S : Sh) (h : S.1 a = 6) : go r 117 54 [l0, l1, l2] [aR a, s0] M S = go r 117 57 [l0, l1, l2] [aI (M a 26), s0] M S := go_bnd rfl h rfl
theorem g117_57 (r : Nat) (l0 l1 l2 : Option AV) (x : Int) (a : Nat) (M : Mem) (S : Sh) (h : S.1 a = 6) : go r 117 57 [l0, l1, l2] [aI x, aR a] M S = go r 117 60 [l0, l1, l2] [] (mset M a 27 x) S := go_bnd rfl ⟨h, fun z => absurd z (by decide)⟩ rfl
theorem g117_60 (r : Nat) (l1 l2 : Option AV) (a : Nat) (M : Mem) (S : Sh) : go r 117 60 [some (aR a), l1, l2] [] M S = go r 117 61 [some (aR a), l1, l2] [aR a] M S := go_nx rfl rfl
theorem g117_61 (r : Nat) (l0 l1 l2 : Option AV) (s0 : AV) (M : Mem) (S : Sh) : go r 117 61 [l0, l1, l2] [s0] M S = go r 117 62 [l0, l1, l2] [aI 0, s0] M S := go_nx rfl rfl
theorem g117_62 (r : Nat) (l0 l1 l2 : Option AV) (x : Int) (a : Nat) (M : Mem) (S : Sh) (h : S.1 a = 6) : go r 117 62 [l0, l1, l2] [aI x, aR a] M S = go r 117 65 [l0, l1, l2] [] (mset M a 28 x) S := go_bnd rfl ⟨h, fun z => absurd z (by decide)⟩ rfl
theorem g117_65 (r : Nat) (l1 l2 : Option AV) (a : Nat) (M : Mem) (S : Sh) : go r 117 65 [some (aR a), l1, l2] [] M S = go r 117 66 [some (aR a), l1, l2] [aR a] M S := go_nx rfl rfl
theorem g117_66 (r : Nat) (l0 l1 l2 : Option AV) (s0 : AV) (M : Mem) (S : Sh) : go r 117 66 [l0, l1, l2] [s0] M S = go r 117 67 [l0, l1, l2] [aI 0, s0] M S := go_nx rfl rfl
theorem g117_67 (r : Nat) (l0 l1 l2 : Option AV) (x : Int) (a : Nat) (M : Mem) (S : Sh) (h : S.1 a = 6) : go r 117 67 [l0, l1, l2] [aI x, aR a] M S = go r 117 70 [l0, l1, l2] [] (mset M a 29 x) S := go_bnd rfl ⟨h, fun z => absurd z (by decide)⟩ rfl
theorem g117_70 (r : Nat) (l1 l2 : Option AV) (a : Nat) (M : Mem) (S : Sh) : go r 117 70 [some (aR a), l1, l2] [] M S = go r 117 71 [some (aR a), l1, l2] [aR a] M S := go_nx rfl rfl
theorem g117_71 (r : Nat) (l0 l1 l2 : Option AV) (a : Nat) (M : Mem) (S : Sh) (h : S.1 a = 6) : go r 117 71 [l0, l1, l2] [aR a] M S = go r 117 74 [l0, l1, l2] [aI (M a 26)] M S := go_bnd rfl h rfl
theorem g117_74 (r : Nat) (l1 l2 : Option AV) (s0 : AV) (a : Nat) (M : Mem) (S : Sh) : go r 117 74 [some (aR a), l1, l2] [s0] M S = go r 117 75 [some (aR a), l1, l2] [aR a, s0] M S := go_nx rfl rfl
theorem g117_75 (r : Nat) (l0 l1 l2 : Option AV) (s0 : AV) (a : Nat) (M : Mem) (S : Sh) (h : S.1 a = 6) : go r 117 75 [l0, l1, l2] [aR a, s0] M S = go r 117 78 [l0, l1, l2] [aI (M a 13), s0] M S := go_bnd rfl h rfl
theorem g117_78 (r : Nat) (l0 l1 l2 : Option AV) (x y : Int) (M : Mem) (S : Sh) : go r 117 78 [l0, l1, l2] [aI y, aI x] M S = if x ≠ y then go r 117 82 [l0, l1, l2] [] M S else go r 117 81 [l0, l1, l2] [] M S := go_br rfl rfl rfl rfl rfl
theorem g117_81 (r : Nat) (l0 l1 l2 : Option AV) (M : Mem) (S : Sh) : go r 117 81 [l0, l1, l2] [] M S = some (none, M, S) := go_rt rfl rfl
theorem g117_82 (r : Nat) (l1 l2 : Option AV) (a : Nat) (M : Mem) (S : Sh) : go r 117 82 [some (aR a), l1, l2] [] M S = go r 117 83 [some (aR a), l1, l2] [aR a] M S := go_nx rfl rfl
theorem g117_83 (r : Nat) (l0 l1 l2 : Option AV) (a : Nat) (M : Mem) (S : Sh) (h : S.1 a = 6) : go r 117 83 [l0, l1, l2] [aR a] M S = go r 117 86 [l0, l1, l2] [aO (S.2.2.1 a 12)] M S := go_bnd rfl h rfl
theorem g117_86 (r : Nat) (l1 l2 : Option AV) (s0 : AV) (a : Nat) (M : Mem) (S : Sh) : go r 117 86 [some (aR a), l1, l2] [s0] M S = go r 117 87 [some (aR a), l1, l2] [aR a, s0] M S := go_nx rfl rfl
theorem g117_87 (r : Nat) (l0 l1 l2 : Option AV) (s0 : AV) (a : Nat) (M : Mem) (S : Sh) (h : S.1 a = 6) : go r 117 87 [l0, l1, l2] [aR a, s0] M S = go r 117 90 [l0, l1, l2] [aI (M a 26), s0] M S := go_bnd rfl h rfl
theorem g117_90 (r : Nat) (l0 l1 l2 : Option AV) (x : Int) (a : Nat) (M : Mem) (S : Sh) (h : S.1 a = 7) (h0 : 0 ≤ x) (h1 : x < S.2.1 a) : go r 117 90 [l0, l1, l2] [aI x, aR a] M S = go r 117 91 [l0, l1, l2] [aI (M a x.toNat)] M S := go_bnd rfl ⟨h, h0, h1⟩ rfl
theorem g117_91 (r : Nat) (l0 l1 l2 : Option AV) (x : Int) (M : Mem) (S : Sh) : go r 117 91 [l0, l1, l2] [aI x] M S = go r 117 92 [l0, some (aI x), l2] [] M S := go_nx rfl rfl
theorem g117_92 (r : Nat) (l0 l2 : Option AV) (x : Int) (M : Mem) (S : Sh) : go r 117 92 [l0, some (aI x), l2] [] M S = go r 117 93 [l0, some (aI x), l2] [aI x] M S := go_nx rfl rfl
theorem g117_93 (r : Nat) (l0 l1 l2 : Option AV) (s0 : AV) (M : Mem) (S : Sh) : go r 117 93 [l0, l1, l2] [s0] M S = go r 117 95 [l0, l1, l2] [aI 97, s0] M S := go_nx rfl rfl
theorem g117_95 (r : Nat) (l0 l1 l2 : Option AV) (s0 s1 : AV) (M : Mem) (S : Sh) : go r 117 95 [l0, l1, l2] [s0, s1] M S = go r 117 97 [l0, l1, l2] [aI 122, s0, s1] M S := go_nx rfl rfl
theorem g117_97 (r : Nat) (l0 l1 l2 : Option AV) (x0 x1 x2 : Int) (M : Mem) (S : Sh) (hk : 10 < r) : go r 117 97 [l0, l1, l2] [aI x2, aI x1, aI x0] M S = cont r 117 100 [l0, l1, l2] [] 1 (res 106 [aI x0, aI x1, aI x2] M S) := go_c0 (m' := 106) (n := 3) (pc' := 100) (hr := 1) rfl rfl rfl rfl rfl rfl hk rfl
theorem g117_100 (r : Nat) (l0 l1 l2 : Option AV) (x : Int) (M : Mem) (S : Sh) : go r 117 100 [l0, l1, l2] [aI x] M S = if x = 0 then go r 117 217 [l0, l1, l2] [] M S else go r 117 103 [l0, l1, l2] [] M S := go_br rfl rfl rfl rfl rfl
theorem g117_103 (r : Nat) (l1 l2 : Option AV) (a : Nat) (M : Mem) (S : Sh) : go r 117 103 [some (aR a), l1, l2] [] M S = go r 117 104 [some (aR a), l1, l2] [aR a] M S := go_nx rfl rfl
theorem g117_104 (r : Nat) (l0 l1 l2 : Option AV) (a : Nat) (M : Mem) (S : Sh) (h : S.1 a = 6) : go r 117 104 [l0, l1, l2] [aR a] M S = go r 117 107 [l0, l1, l2] [aI (M a 26)] M S := go_bnd rfl h rfl
theorem g117_107 (r : Nat) (l1 l2 : Option AV) (s0 : AV) (a : Nat) (M : Mem) (S : Sh) : go r 117 107 [some (aR a), l1, l2] [s0] M S = go r 117 108 [some (aR a), l1, l2] [aR a, s0] M S := go_nx rfl rfl
theorem g117_108 (r : Nat) (l0 l1 l2 : Option AV) (s0 : AV) (a : Nat) (M : Mem) (S : Sh) (h : S.1 a = 6) : go r 117 108 [l0, l1, l2] [aR a, s0] M S = go r 117 111 [l0, l1, l2] [aI (M a 13), s0] M S := go_bnd rfl h rfl
theorem g117_111 (r : Nat) (l0 l1 l2 : Option AV) (x y : Int) (M : Mem) (S : Sh) : go r 117 111 [l0, l1, l2] [aI y, aI x] M S = if x ≥ y then go r 117 146 [l0, l1, l2] [] M S else go r 117 114 [l0, l1, l2] [] M S := go_br rfl rfl rfl rfl rfl
theorem g117_114 (r : Nat) (l1 l2 : Option AV) (a : Nat) (M : Mem) (S : Sh) : go r 117 114 [some (aR a), l1, l2] [] M S = go r 117 115 [some (aR a), l1, l2] [aR a] M S := go_nx rfl rfl
theorem g117_115 (r : Nat) (l0 l1 l2 : Option AV) (a : Nat) (M : Mem) (S : Sh) (h : S.1 a = 6) : go r 117 115 [l0, l1, l2] [aR a] M S = go r 117 118 [l0, l1, l2] [aO (S.2.2.1 a 12)] M S := go_bnd rfl h rfl
theorem g117_118 (r : Nat) (l1 l2 : Option AV) (s0 : AV) (a : Nat) (M : Mem) (S : Sh) : go r 117 118 [some (aR a), l1, l2] [s0] M S = go r 117 119 [some (aR a), l1, l2] [aR a, s0] M S := go_nx rfl rfl
set_option maxRecDepth 20000 in
theorem g117_119 (r : Nat) (l0 l1 l2 : Option AV) (s0 : AV) (a : Nat) (M : Mem) (S : Sh) (h : S.1 a = 6) : go r 117 119 [l0, l1, l2] [aR a, s0] M S = go r 117 122 [l0, l1, l2] [aI (M a 26), s0] M S := go_bnd rfl h rfl
set_option maxRecDepth 20000 in
theorem g117_122 (r : Nat) (l0 l1 l2 : Option AV) (x : Int) (a : Nat) (M : Mem) (S : Sh) (h : S.1 a = 7) (h0 : 0 ≤ x) (h1 : x < S.2.1 a) : go r 117 122 [l0, l1, l2] [aI x, aR a] M S = go r 117 123 [l0, l1, l2] [aI (M a x.toNat)] M S := go_bnd rfl ⟨h, h0, h1⟩ rfl
set_option maxRecDepth 20000 in
theorem g117_123 (r : Nat) (l0 l1 l2 : Option AV) (s0 : AV) (M : Mem) (S : Sh) : go r 117 123 [l0, l1, l2] [s0] M S = go r 117 125 [l0, l1, l2] [aI 97, s0] M S := go_nx rfl rfl
set_option maxRecDepth 20000 in
theorem g117_125 (r : Nat) (l0 l1 l2 : Option AV) (s0 s1 : AV) (M : Mem) (S : Sh) : go r 117 125 [l0, l1, l2] [s0, s1] M S = go r 117 127 [l0, l1, l2] [aI 122, s0, s1] M S := go_nx rfl rfl
set_option maxRecDepth 20000 in
theorem g117_127 (r : Nat) (l0 l1 l2 : Option AV) (x0 x1 x2 : Int) (M : Mem) (S : Sh) (hk : 10 < r) : go r 117 127 [l0, l1, l2] [aI x2, aI x1, aI x0] M S = cont r 117 130 [l0, l1, l2] [] 1 (res 106 [aI x0, aI x1, aI x2] M S) := go_c0 (m' := 106) (n := 3) (pc' := 130) (hr := 1) rfl rfl rfl rfl rfl rfl hk rfl
set_option maxRecDepth 20000 in
theorem g117_130 (r : Nat) (l0 l1 l2 : Option AV) (x : Int) (M : Mem) (S : Sh) : go r 117 130 [l0, l1, l2] [aI x] M S = if x = 0 then go r 117 146 [l0, l1, l2] [] M S else go r 117 133 [l0, l1, l2] [] M S := go_br rfl rfl rfl rfl rfl
set_option maxRecDepth 20000 in
theorem g117_133 (r : Nat) (l1 l2 : Option AV) (a : Nat) (M : Mem) (S : Sh) : go r 117 133 [some (aR a), l1, l2] [] M S = go r 117 134 [some (aR a), l1, l2] [aR a] M S := go_nx rfl rfl
set_option maxRecDepth 20000 in
theorem g117_134 (r : Nat) (l0 l1 l2 : Option AV) (a : Nat) (M : Mem) (S : Sh) : go r 117 134 [l0, l1, l2] [aR a] M S = go r 117 135 [l0, l1, l2] [aR a, aR a] M S := go_nx rfl rfl
set_option maxRecDepth 20000 in
theorem g117_135 (r : Nat) (l0 l1 l2 : Option AV) (s0 : AV) (a : Nat) (M : Mem) (S : Sh) (h : S.1 a = 6) : go r 117 135 [l0, l1, l2] [aR a, s0] M S = go r 117 138 [l0, l1, l2] [aI (M a 26), s0] M S := go_bnd rfl h rfl
set_option maxRecDepth 20000 in
theorem g117_138 (r : Nat) (l0 l1 l2 : Option AV) (s0 s1 : AV) (M : Mem) (S : Sh) : go r 117 138 [l0, l1, l2] [s0, s1] M S = go r 117 139 [l0, l1, l2] [aI 1, s0, s1] M S := go_nx rfl rfl
set_option maxRecDepth 20000 in
theorem g117_139 (r : Nat) (l0 l1 l2 : Option AV) (s0 : AV) (x y : Int) (M : Mem) (S : Sh) : go r 117 139 [l0, l1, l2] [aI y, aI x, s0] M S = go r 117 140 [l0, l1, l2] [aI (w32 (x + y)), s0] M S := go_nx rfl rfl
set_option maxRecDepth 20000 in
theorem g117_140 (r : Nat) (l0 l1 l2 : Option AV) (x : Int) (a : Nat) (M : Mem) (S : Sh) (h : S.1 a = 6) : go r 117 140 [l0, l1, l2] [aI x, aR a] M S = go r 117 143 [l0, l1, l2] [] (mset M a 26 x) S := go_bnd rfl ⟨h, fun z => absurd z (by decide)⟩ rfl
set_option maxRecDepth 20000 in
theorem g117_143 (r : Nat) (l0 l1 l2 : Option AV) (M : Mem) (S : Sh) : go r 117 143 [l0, l1, l2] [] M S = go r 117 103 [l0, l1, l2] [] M S := go_nx rfl rfl
set_option maxRecDepth 20000 in
theorem g117_146 (r : Nat) (l1 l2 : Option AV) (a : Nat) (M : Mem) (S : Sh) : go r 117 146 [some (aR a), l1, l2] [] M S = go r 117 147 [some (aR a), l1, l2] [aR a] M S := go_nx rfl rfl
set_option maxRecDepth 20000 in
theorem g117_147 (r : Nat) (l1 l2 : Option AV) (s0 : AV) (a : Nat) (M : Mem) (S : Sh) : go r 117 147 [some (aR a), l1, l2] [s0] M S = go r 117 148 [some (aR a), l1, l2] [aR a, s0] M S := go_nx rfl rfl
set_option maxRecDepth 20000 in
theorem g117_148 (r : Nat) (l0 l1 l2 : Option AV) (s0 : AV) (a : Nat) (M : Mem) (S : Sh) (h : S.1 a = 6) : go r 117 148 [l0, l1, l2] [aR a, s0] M S = go r 117 151 [l0, l1, l2] [aI (M a 27), s0] M S := go_bnd rfl h rfl
set_option maxRecDepth 20000 in
theorem g117_151 (r : Nat) (l1 l2 : Option AV) (s0 s1 : AV) (a : Nat) (M : Mem) (S : Sh) : go r 117 151 [some (aR a), l1, l2] [s0, s1] M S = go r 117 152 [some (aR a), l1, l2] [aR a, s0, s1] M S := go_nx rfl rfl
set_option maxRecDepth 20000 in
theorem g117_152 (r : Nat) (l0 l1 l2 : Option AV) (s0 s1 : AV) (a : Nat) (M : Mem) (S : Sh) (h : S.1 a = 6) : go r 117 152 [l0, l1, l2] [aR a, s0, s1] M S = go r 117 155 [l0, l1, l2] [aI (M a 26), s0, s1] M S := go_bnd rfl h rfl
set_option maxRecDepth 20000 in
theorem g117_155 (r : Nat) (l0 l1 l2 : Option AV) (x1 x2 : Int) (a0 : Nat) (M : Mem) (S : Sh) (hk : 10 < r) (h : S.1 a0 = 6) : go r 117 155 [l0, l1, l2] [aI x2, aI x1, aR a0] M S = cont r 117 158 [l0, l1, l2] [] 1 (res 116 [aR a0, aI x1, aI x2] M S) := go_cr0 (m' := 116) (n := 3) (pc' := 158) (hr := 1) rfl rfl rfl h rfl rfl rfl rfl hk rfl
set_option maxRecDepth 20000 in
theorem g117_158 (r : Nat) (l0 l1 l2 : Option AV) (x : Int) (M : Mem) (S : Sh) : go r 117 158 [l0, l1, l2] [aI x] M S = go r 117 159 [l0, l1, some (aI x)] [] M S := go_nx rfl rfl
set_option maxRecDepth 20000 in
theorem g117_159 (r : Nat) (l1 l2 : Option AV) (a : Nat) (M : Mem) (S : Sh) : go r 117 159 [some (aR a), l1, l2] [] M S = go r 117 160 [some (aR a), l1, l2] [aR a] M S := go_nx rfl rfl
set_option maxRecDepth 20000 in
theorem g117_160 (r : Nat) (l0 l1 : Option AV) (s0 : AV) (x : Int) (M : Mem) (S : Sh) : go r 117 160 [l0, l1, some (aI x)] [s0] M S = go r 117 161 [l0, l1, some (aI x)] [aI x, s0] M S := go_nx rfl rfl
set_option maxRecDepth 20000 in
theorem g117_161 (r : Nat) (l0 l1 l2 : Option AV) (s0 s1 : AV) (M : Mem) (S : Sh) : go r 117 161 [l0, l1, l2] [s0, s1] M S = go r 117 162 [l0, l1, l2] [aI 3, s0, s1] M S := go_nx rfl rfl
set_option maxRecDepth 20000 in
theorem g117_162 (r : Nat) (l0 l1 l2 : Option AV) (s0 : AV) (x y : Int) (M : Mem) (S : Sh) : go r 117 162 [l0, l1, l2] [aI y, aI x, s0] M S = if x ≥ y then go r 117 169 [l0, l1, l2] [s0] M S else go r 117 165 [l0, l1, l2] [s0] M S := go_br rfl rfl rfl rfl rfl
set_option maxRecDepth 20000 in
theorem g117_165 (r : Nat) (l0 l1 l2 : Option AV) (s0 : AV) (M : Mem) (S : Sh) : go r 117 165 [l0, l1, l2] [s0] M S = go r 117 166 [l0, l1, l2] [aI 3, s0] M S := go_nx rfl rfl
set_option maxRecDepth 20000 in
theorem g117_166 (r : Nat) (l0 l1 l2 : Option AV) (s0 s1 : AV) (M : Mem) (S : Sh) : go r 117 166 [l0, l1, l2] [s0, s1] M S = go r 117 195 [l0, l1, l2] [s0, s1] M S := go_nx rfl rfl
set_option maxRecDepth 20000 in
theorem g117_169 (r : Nat) (l0 l1 : Option AV) (s0 : AV) (x : Int) (M : Mem) (S : Sh) : go r 117 169 [l0, l1, some (aI x)] [s0] M S = go r 117 170 [l0, l1, some (aI x)] [aI x, s0] M S := go_nx rfl rfl
set_option maxRecDepth 20000 in
theorem g117_170 (r : Nat) (l0 l1 l2 : Option AV) (s0 s1 : AV) (M : Mem) (S : Sh) : go r 117 170 [l0, l1, l2] [s0, s1] M S = go r 117 172 [l0, l1, l2] [aI 9, s0, s1] M S := go_nx rfl rfl
set_option maxRecDepth 20000 in
theorem g117_172 (r : Nat) (l0 l1 l2 : Option AV) (s0 : AV) (x y : Int) (M : Mem) (S : Sh) : go r 117 172 [l0, l1, l2] [aI y, aI x, s0] M S = if x ≥ y then go r 117 179 [l0, l1, l2] [s0] M S else go r 117 175 [l0, l1, l2] [s0] M S := go_br rfl rfl rfl rfl rfl
set_option maxRecDepth 20000 in
theorem g117_175 (r : Nat) (l0 l1 l2 : Option AV) (s0 : AV) (M : Mem) (S : Sh) : go r 117 175 [l0, l1, l2] [s0] M S = go r 117 176 [l0, l1, l2] [aI 2, s0] M S := go_nx rfl rfl
set_option maxRecDepth 20000 in
theorem g117_176 (r : Nat) (l0 l1 l2 : Option AV) (s0 s1 : AV) (M : Mem) (S : Sh) : go r 117 176 [l0, l1, l2] [s0, s1] M S = go r 117 195 [l0, l1, l2] [s0, s1] M S := go_nx rfl rfl
set_option maxRecDepth 20000 in
theorem g117_179 (r : Nat) (l0 l1 : Option AV) (s0 : AV) (x : Int) (M : Mem) (S : Sh) : go r 117 179 [l0, l1, some (aI x)] [s0] M S = go r 117 180 [l0, l1, some (aI x)] [aI x, s0] M S := go_nx rfl rfl
set_option maxRecDepth 20000 in
theorem g117_180 (r : Nat) (l0 l1 l2 : Option AV) (s0 s1 : AV) (M : Mem) (S : Sh) : go r 117 180 [l0, l1, l2] [s0, s1] M S = go r 117 182 [l0, l1, l2] [aI 12, s0, s1] M S := go_nx rfl rfl
set_option maxRecDepth 20000 in
theorem g117_182 (r : Nat) (l0 l1 l2 : Option AV) (s0 : AV) (x y : Int) (M : Mem) (S : Sh) : go r 117 182 [l0, l1, l2] [aI y, aI x, s0] M S = if x ≠ y then go r 117 189 [l0, l1, l2] [s0] M S else go r 117 185 [l0, l1, l2] [s0] M S := go_br rfl rfl rfl rfl rfl
set_option maxRecDepth 20000 in
theorem g117_185 (r : Nat) (l0 l1 l2 : Option AV) (s0 : AV) (M : Mem) (S : Sh) : go r 117 185 [l0, l1, l2] [s0] M S = go r 117 186 [l0, l1, l2] [aI (-1), s0] M S := go_nx rfl rfl
set_option maxRecDepth 20000 in
theorem g117_186 (r : Nat) (l0 l1 l2 : Option AV) (s0 s1 : AV) (M : Mem) (S : Sh) : go r 117 186 [l0, l1, l2] [s0, s1] M S = go r 117 195 [l0, l1, l2] [s0, s1] M S := go_nx rfl rfl
set_option maxRecDepth 20000 in
theorem g117_189 (r : Nat) (l0 l1 l2 : Option AV) (s0 : AV) (M : Mem) (S : Sh) : go r 117 189 [l0, l1, l2] [s0] M S = go r 117 190 [l0, l1, l2] [aI 4, s0] M S := go_nx rfl rfl
set_option maxRecDepth 20000 in
theorem g117_190 (r : Nat) (l0 l1 : Option AV) (s0 s1 : AV) (x : Int) (M : Mem) (S : Sh) : go r 117 190 [l0, l1, some (aI x)] [s0, s1] M S = go r 117 191 [l0, l1, some (aI x)] [aI x, s0, s1] M S := go_nx rfl rfl
set_option maxRecDepth 20000 in
theorem g117_191 (r : Nat) (l0 l1 l2 : Option AV) (s0 : AV) (x y : Int) (M : Mem) (S : Sh) : go r 117 191 [l0, l1, l2] [aI y, aI x, s0] M S = go r 117 192 [l0, l1, l2] [aI (w32 (x + y)), s0] M S := go_nx rfl rfl
set_option maxRecDepth 20000 in
theorem g117_192 (r : Nat) (l0 l1 l2 : Option AV) (s0 s1 : AV) (M : Mem) (S : Sh) : go r 117 192 [l0, l1, l2] [s0, s1] M S = go r 117 194 [l0, l1, l2] [aI 9, s0, s1] M S := go_nx rfl rfl
set_option maxRecDepth 20000 in
theorem g117_194 (r : Nat) (l0 l1 l2 : Option AV) (s0 : AV) (x y : Int) (M : Mem) (S : Sh) : go r 117 194 [l0, l1, l2] [aI y, aI x, s0] M S = go r 117 195 [l0, l1, l2] [aI (w32 (x - y)), s0] M S := go_nx rfl rfl
set_option maxRecDepth 20000 in
theorem g117_195 (r : Nat) (l0 l1 l2 : Option AV) (x : Int) (a : Nat) (M : Mem) (S : Sh) (h : S.1 a = 6) : go r 117 195 [l0, l1, l2] [aI x, aR a] M S = go r 117 198 [l0, l1, l2] [] (mset M a 28 x) S := go_bnd rfl ⟨h, fun z => absurd z (by decide)⟩ rfl
set_option maxRecDepth 20000 in
theorem g117_198 (r : Nat) (l1 l2 : Option AV) (a : Nat) (M : Mem) (S : Sh) : go r 117 198 [some (aR a), l1, l2] [] M S = go r 117 199 [some (aR a), l1, l2] [aR a] M S := go_nx rfl rfl
set_option maxRecDepth 20000 in
theorem g117_199 (r : Nat) (l0 l1 : Option AV) (s0 : AV) (x : Int) (M : Mem) (S : Sh) : go r 117 199 [l0, l1, some (aI x)] [s0] M S = go r 117 200 [l0, l1, some (aI x)] [aI x, s0] M S := go_nx rfl rfl
set_option maxRecDepth 20000 in
theorem g117_200 (r : Nat) (l0 l1 l2 : Option AV) (s0 s1 : AV) (M : Mem) (S : Sh) : go r 117 200 [l0, l1, l2] [s0, s1] M S = go r 117 201 [l0, l1, l2] [aI 3, s0, s1] M S := go_nx rfl rfl
set_option maxRecDepth 20000 in
theorem g117_201 (r : Nat) (l0 l1 l2 : Option AV) (s0 : AV) (x y : Int) (M : Mem) (S : Sh) : go r 117 201 [l0, l1, l2] [aI y, aI x, s0] M S = if x ≥ y then go r 117 208 [l0, l1, l2] [s0] M S else go r 117 204 [l0, l1, l2] [s0] M S := go_br rfl rfl rfl rfl rfl
set_option maxRecDepth 20000 in
theorem g117_204 (r : Nat) (l0 l1 : Option AV) (s0 : AV) (x : Int) (M : Mem) (S : Sh) : go r 117 204 [l0, l1, some (aI x)] [s0] M S = go r 117 205 [l0, l1, some (aI x)] [aI x, s0] M S := go_nx rfl rfl
set_option maxRecDepth 20000 in
theorem g117_205 (r : Nat) (l0 l1 l2 : Option AV) (s0 s1 : AV) (M : Mem) (S : Sh) : go r 117 205 [l0, l1, l2] [s0, s1] M S = go r 117 211 [l0, l1, l2] [s0, s1] M S := go_nx rfl rfl
set_option maxRecDepth 20000 in
theorem g117_208 (r : Nat) (l0 l1 : Option AV) (s0 : AV) (x : Int) (M : Mem) (S : Sh) : go r 117 208 [l0, l1, some (aI x)] [s0] M S = go r 117 209 [l0, l1, some (aI x)] [aI x, s0] M S := go_nx rfl rfl
set_option maxRecDepth 20000 in
theorem g117_209 (r : Nat) (l0 l1 l2 : Option AV) (s0 s1 : AV) (M : Mem) (S : Sh) : go r 117 209 [l0, l1, l2] [s0, s1] M S = go r 117 210 [l0, l1, l2] [aI 3, s0, s1] M S := go_nx rfl rfl
set_option maxRecDepth 20000 in
theorem g117_210 (r : Nat) (l0 l1 l2 : Option AV) (s0 : AV) (x y : Int) (M : Mem) (S : Sh) : go r 117 210 [l0, l1, l2] [aI y, aI x, s0] M S = go r 117 211 [l0, l1, l2] [aI (w32 (x - y)), s0] M S := go_nx rfl rfl
set_option maxRecDepth 20000 in
theorem g117_211 (r : Nat) (l0 l1 l2 : Option AV) (x : Int) (a : Nat) (M : Mem) (S : Sh) (h : S.1 a = 6) : go r 117 211 [l0, l1, l2] [aI x, aR a] M S = go r 117 214 [l0, l1, l2] [] (mset M a 29 x) S := go_bnd rfl ⟨h, fun z => absurd z (by decide)⟩ rfl
set_option maxRecDepth 20000 in
theorem g117_214 (r : Nat) (l0 l1 l2 : Option AV) (M : Mem) (S : Sh) : go r 117 214 [l0, l1, l2] [] M S = go r 117 403 [l0, l1, l2] [] M S := go_nx rfl rfl
set_option maxRecDepth 20000 in
theorem g117_217 (r : Nat) (l0 l2 : Option AV) (x : Int) (M : Mem) (S : Sh) : go r 117 217 [l0, some (aI x), l2] [] M S = go r 117 218 [l0, some (aI x), l2] [aI x] M S := go_nx rfl rfl
set_option maxRecDepth 20000 in
theorem g117_218 (r : Nat) (l0 l1 l2 : Option AV) (s0 : AV) (M : Mem) (S : Sh) : go r 117 218 [l0, l1, l2] [s0] M S = go r 117 220 [l0, l1, l2] [aI 48, s0] M S := go_nx rfl rfl
set_option maxRecDepth 20000 in
theorem g117_220 (r : Nat) (l0 l1 l2 : Option AV) (s0 s1 : AV) (M : Mem) (S : Sh) : go r 117 220 [l0, l1, l2] [s0, s1] M S = go r 117 222 [l0, l1, l2] [aI 57, s0, s1] M S := go_nx rfl rfl
set_option maxRecDepth 20000 in
theorem g117_222 (r : Nat) (l0 l1 l2 : Option AV) (x0 x1 x2 : Int) (M : Mem) (S : Sh) (hk : 10 < r) : go r 117 222 [l0, l1, l2] [aI x2, aI x1, aI x0] M S = cont r 117 225 [l0, l1, l2] [] 1 (res 106 [aI x0, aI x1, aI x2] M S) := go_c0 (m' := 106) (n := 3) (pc' := 225) (hr := 1) rfl rfl rfl rfl rfl rfl hk rfl
set_option maxRecDepth 20000 in
theorem g117_225 (r : Nat) (l0 l1 l2 : Option AV) (x : Int) (M : Mem) (S : Sh) : go r 117 225 [l0, l1, l2] [aI x] M S = if x = 0 then go r 117 326 [l0, l1, l2] [] M S else go r 117 228 [l0, l1, l2] [] M S := go_br rfl rfl rfl rfl rfl
set_option maxRecDepth 20000 in
theorem g117_228 (r : Nat) (l0 l1 l2 : Option AV) (M : Mem) (S : Sh) : go r 117 228 [l0, l1, l2] [] M S = go r 117 229 [l0, l1, l2] [aI 0] M S := go_nx rfl rfl
set_option maxRecDepth 20000 in
theorem g117_229 (r : Nat) (l0 l1 l2 : Option AV) (x : Int) (M : Mem) (S : Sh) : go r 117 229 [l0, l1, l2] [aI x] M S = go r 117 230 [l0, l1, some (aI x)] [] M S := go_nx rfl rfl
set_option maxRecDepth 20000 in
theorem g117_230 (r : Nat) (l1 l2 : Option AV) (a : Nat) (M : Mem) (S : Sh) : go r 117 230 [some (aR a), l1, l2] [] M S = go r 117 231 [some (aR a), l1, l2] [aR a] M S := go_nx rfl rfl
set_option maxRecDepth 20000 in
theorem g117_231 (r : Nat) (l0 l1 l2 : Option AV) (a : Nat) (M : Mem) (S : Sh) (h : S.1 a = 6) : go r 117 231 [l0, l1, l2] [aR a] M S = go r 117 234 [l0, l1, l2] [aI (M a 26)] M S := go_bnd rfl h rfl
set_option maxRecDepth 20000 in
theorem g117_234 (r : Nat) (l1 l2 : Option AV) (s0 : AV) (a : Nat) (M : Mem) (S : Sh) : go r 117 234 [some (aR a), l1, l2] [s0] M S = go r 117 235 [some (aR a), l1, l2] [aR a, s0] M S := go_nx rfl rfl
set_option maxRecDepth 20000 in
theorem g117_235 (r : Nat) (l0 l1 l2 : Option AV) (s0 : AV) (a : Nat) (M : Mem) (S : Sh) (h : S.1 a = 6) : go r 117 235 [l0, l1, l2] [aR a, s0] M S = go r 117 238 [l0, l1, l2] [aI (M a 13), s0] M S := go_bnd rfl h rfl
set_option maxRecDepth 20000 in
theorem g117_238 (r : Nat) (l0 l1 l2 : Option AV) (x y : Int) (M : Mem) (S : Sh) : go r 117 238 [l0, l1, l2] [aI y, aI x] M S = if x ≥ y then go r 117 309 [l0, l1, l2] [] M S else go r 117 241 [l0, l1, l2] [] M S := go_br rfl rfl rfl rfl rfl
set_option maxRecDepth 20000 in
theorem g117_241 (r : Nat) (l1 l2 : Option AV) (a : Nat) (M : Mem) (S : Sh) : go r 117 241 [some (aR a), l1, l2] [] M S = go r 117 242 [some (aR a), l1, l2] [aR a] M S := go_nx rfl rfl
set_option maxRecDepth 20000 in
theorem g117_242 (r : Nat) (l0 l1 l2 : Option AV) (a : Nat) (M : Mem) (S : Sh) (h : S.1 a = 6) : go r 117 242 [l0, l1, l2] [aR a] M S = go r 117 245 [l0, l1, l2] [aO (S.2.2.1 a 12)] M S := go_bnd rfl h rfl
set_option maxRecDepth 20000 in
theorem g117_245 (r : Nat) (l1 l2 : Option AV) (s0 : AV) (a : Nat) (M : Mem) (S : Sh) : go r 117 245 [some (aR a), l1, l2] [s0] M S = go r 117 246 [some (aR a), l1, l2] [aR a, s0] M S := go_nx rfl rfl
set_option maxRecDepth 20000 in
theorem g117_246 (r : Nat) (l0 l1 l2 : Option AV) (s0 : AV) (a : Nat) (M : Mem) (S : Sh) (h : S.1 a = 6) : go r 117 246 [l0, l1, l2] [aR a, s0] M S = go r 117 249 [l0, l1, l2] [aI (M a 26), s0] M S := go_bnd rfl h rfl
set_option maxRecDepth 20000 in
theorem g117_249 (r : Nat) (l0 l1 l2 : Option AV) (x : Int) (a : Nat) (M : Mem) (S : Sh) (h : S.1 a = 7) (h0 : 0 ≤ x) (h1 : x < S.2.1 a) : go r 117 249 [l0, l1, l2] [aI x, aR a] M S = go r 117 250 [l0, l1, l2] [aI (M a x.toNat)] M S := go_bnd rfl ⟨h, h0, h1⟩ rfl
set_option maxRecDepth 20000 in
theorem g117_250 (r : Nat) (l0 l1 l2 : Option AV) (s0 : AV) (M : Mem) (S : Sh) : go r 117 250 [l0, l1, l2] [s0] M S = go r 117 252 [l0, l1, l2] [aI 48, s0] M S := go_nx rfl rfl
set_option maxRecDepth 20000 in
theorem g117_252 (r : Nat) (l0 l1 l2 : Option AV) (s0 s1 : AV) (M : Mem) (S : Sh) : go r 117 252 [l0, l1, l2] [s0, s1] M S = go r 117 254 [l0, l1, l2] [aI 57, s0, s1] M S := go_nx rfl rfl
set_option maxRecDepth 20000 in
theorem g117_254 (r : Nat) (l0 l1 l2 : Option AV) (x0 x1 x2 : Int) (M : Mem) (S : Sh) (hk : 10 < r) : go r 117 254 [l0, l1, l2] [aI x2, aI x1, aI x0] M S = cont r 117 257 [l0, l1, l2] [] 1 (res 106 [aI x0, aI x1, aI x2] M S) := go_c0 (m' := 106) (n := 3) (pc' := 257) (hr := 1) rfl rfl rfl rfl rfl rfl hk rfl
set_option maxRecDepth 20000 in
theorem g117_257 (r : Nat) (l0 l1 l2 : Option AV) (x : Int) (M : Mem) (S : Sh) : go r 117 257 [l0, l1, l2] [aI x] M S = if x = 0 then go r 117 309 [l0, l1, l2] [] M S else go r 117 260 [l0, l1, l2] [] M S := go_br rfl rfl rfl rfl rfl
set_option maxRecDepth 20000 in
theorem g117_260 (r : Nat) (l1 l2 : Option AV) (a : Nat) (M : Mem) (S : Sh) : go r 117 260 [some (aR a), l1, l2] [] M S = go r 117 261 [some (aR a), l1, l2] [aR a] M S := go_nx rfl rfl
set_option maxRecDepth 20000 in
theorem g117_261 (r : Nat) (l0 l1 : Option AV) (s0 : AV) (x : Int) (M : Mem) (S : Sh) : go r 117 261 [l0, l1, some (aI x)] [s0] M S = go r 117 262 [l0, l1, some (aI x)] [aI x, s0] M S := go_nx rfl rfl
set_option maxRecDepth 20000 in
theorem g117_262 (r : Nat) (l0 l1 l2 : Option AV) (s0 s1 : AV) (M : Mem) (S : Sh) : go r 117 262 [l0, l1, l2] [s0, s1] M S = go r 117 263 [l0, l1, l2] [aI 4, s0, s1] M S := go_nx rfl rfl
set_option maxRecDepth 20000 in
theorem g117_263 (r : Nat) (l0 l1 l2 : Option AV) (s0 : AV) (x y : Int) (M : Mem) (S : Sh) : go r 117 263 [l0, l1, l2] [aI y, aI x, s0] M S = if x ≥ y then go r 117 289 [l0, l1, l2] [s0] M S else go r 117 266 [l0, l1, l2] [s0] M S := go_br rfl rfl rfl rfl rfl
set_option maxRecDepth 20000 in
theorem g117_266 (r : Nat) (l0 l1 l2 : Option AV) (s0 : AV) (M : Mem) (S : Sh) : go r 117 266 [l0, l1, l2] [s0] M S = go r 117 268 [l0, l1, l2] [aI 10, s0] M S := go_nx rfl rfl
set_option maxRecDepth 20000 in
theorem g117_268 (r : Nat) (l1 l2 : Option AV) (s0 s1 : AV) (a : Nat) (M : Mem) (S : Sh) : go r 117 268 [some (aR a), l1, l2] [s0, s1] M S = go r 117 269 [some (aR a), l1, l2] [aR a, s0, s1] M S := go_nx rfl rfl
set_option maxRecDepth 20000 in
theorem g117_269 (r : Nat) (l0 l1 l2 : Option AV) (s0 s1 : AV) (a : Nat) (M : Mem) (S : Sh) (h : S.1 a = 6) : go r 117 269 [l0, l1, l2] [aR a, s0, s1] M S = go r 117 272 [l0, l1, l2] [aI (M a 29), s0, s1] M S := go_bnd rfl h rfl
set_option maxRecDepth 20000 in
theorem g117_272 (r : Nat) (l0 l1 l2 : Option AV) (s0 : AV) (x y : Int) (M : Mem) (S : Sh) : go r 117 272 [l0, l1, l2] [aI y, aI x, s0] M S = go r 117 273 [l0, l1, l2] [aI (w32 (x * y)), s0] M S := go_nx rfl rfl
set_option maxRecDepth 20000 in
theorem g117_273 (r : Nat) (l1 l2 : Option AV) (s0 s1 : AV) (a : Nat) (M : Mem) (S : Sh) : go r 117 273 [some (aR a), l1, l2] [s0, s1] M S = go r 117 274 [some (aR a), l1, l2] [aR a, s0, s1] M S := go_nx rfl rfl
set_option maxRecDepth 20000 in
theorem g117_274 (r : Nat) (l0 l1 l2 : Option AV) (s0 s1 : AV) (a : Nat) (M : Mem) (S : Sh) (h : S.1 a = 6) : go r 117 274 [l0, l1, l2] [aR a, s0, s1] M S = go r 117 277 [l0, l1, l2] [aO (S.2.2.1 a 12), s0, s1] M S := go_bnd rfl h rfl
set_option maxRecDepth 20000 in
theorem g117_277 (r : Nat) (l1 l2 : Option AV) (s0 s1 s2 : AV) (a : Nat) (M : Mem) (S : Sh) : go r 117 277 [some (aR a), l1, l2] [s0, s1, s2] M S = go r 117 278 [some (aR a), l1, l2] [aR a, s0, s1, s2] M S := go_nx rfl rfl
set_option maxRecDepth 20000 in
theorem g117_278 (r : Nat) (l0 l1 l2 : Option AV) (s0 s1 s2 : AV) (a : Nat) (M : Mem) (S : Sh) (h : S.1 a = 6) : go r 117 278 [l0, l1, l2] [aR a, s0, s1, s2] M S = go r 117 281 [l0, l1, l2] [aI (M a 26), s0, s1, s2] M S := go_bnd rfl h rfl
set_option maxRecDepth 20000 in
theorem g117_281 (r : Nat) (l0 l1 l2 : Option AV) (s0 s1 : AV) (x : Int) (a : Nat) (M : Mem) (S : Sh) (h : S.1 a = 7) (h0 : 0 ≤ x) (h1 : x < S.2.1 a) : go r 117 281 [l0, l1, l2] [aI x, aR a, s0, s1] M S = go r 117 282 [l0, l1, l2] [aI (M a x.toNat), s0, s1] M S := go_bnd rfl ⟨h, h0, h1⟩ rfl
set_option maxRecDepth 20000 in
theorem g117_282 (r : Nat) (l0 l1 l2 : Option AV) (s0 : AV) (x y : Int) (M : Mem) (S : Sh) : go r 117 282 [l0, l1, l2] [aI y, aI x, s0] M S = go r 117 283 [l0, l1, l2] [aI (w32 (x + y)), s0] M S := go_nx rfl rfl
set_option maxRecDepth 20000 in
theorem g117_283 (r : Nat) (l0 l1 l2 : Option AV) (s0 s1 : AV) (M : Mem) (S : Sh) : go r 117 283 [l0, l1, l2] [s0, s1] M S = go r 117 285 [l0, l1, l2] [aI 48, s0, s1] M S := go_nx rfl rfl
set_option maxRecDepth 20000 in
theorem g117_285 (r : Nat) (l0 l1 l2 : Option AV) (s0 : AV) (x y : Int) (M : Mem) (S : Sh) : go r 117 285 [l0, l1, l2] [aI y, aI x, s0] M S = go r 117 286 [l0, l1, l2] [aI (w32 (x - y)), s0] M S := go_nx rfl rfl
set_option maxRecDepth 20000 in
theorem g117_286 (r : Nat) (l0 l1 l2 : Option AV) (s0 s1 : AV) (M : Mem) (S : Sh) : go r 117 286 [l0, l1, l2] [s0, s1] M S = go r 117 290 [l0, l1, l2] [s0, s1] M S := go_nx rfl rfl
set_option maxRecDepth 20000 in
theorem g117_289 (r : Nat) (l0 l1 l2 : Option AV) (s0 : AV) (M : Mem) (S : Sh) : go r 117 289 [l0, l1, l2] [s0] M S = go r 117 290 [l0, l1, l2] [aI 0, s0] M S := go_nx rfl rfl
set_option maxRecDepth 20000 in
theorem g117_290 (r : Nat) (l0 l1 l2 : Option AV) (x : Int) (a : Nat) (M : Mem) (S : Sh) (h : S.1 a = 6) : go r 117 290 [l0, l1, l2] [aI x, aR a] M S = go r 117 293 [l0, l1, l2] [] (mset M a 29 x) S := go_bnd rfl ⟨h, fun z => absurd z (by decide)⟩ rfl
set_option maxRecDepth 20000 in
theorem g117_293 (r : Nat) (l0 l1 : Option AV) (x : Int) (M : Mem) (S : Sh) : go r 117 293 [l0, l1, some (aI x)] [] M S = go r 117 296 [l0, l1, some (aI (w32 (x + 1)))] [] M S := go_nx rfl rfl
set_option maxRecDepth 20000 in
theorem g117_296 (r : Nat) (l1 l2 : Option AV) (a : Nat) (M : Mem) (S : Sh) : go r 117 296 [some (aR a), l1, l2] [] M S = go r 117 297 [some (aR a), l1, l2] [aR a] M S := go_nx rfl rfl
set_option maxRecDepth 20000 in
theorem g117_297 (r : Nat) (l0 l1 l2 : Option AV) (a : Nat) (M : Mem) (S : Sh) : go r 117 297 [l0, l1, l2] [aR a] M S = go r 117 298 [l0, l1, l2] [aR a, aR a] M S := go_nx rfl rfl
set_option maxRecDepth 20000 in
theorem g117_298 (r : Nat) (l0 l1 l2 : Option AV) (s0 : AV) (a : Nat) (M : Mem) (S : Sh) (h : S.1 a = 6) : go r 117 298 [l0, l1, l2] [aR a, s0] M S = go r 117 301 [l0, l1, l2] [aI (M a 26), s0] M S := go_bnd rfl h rfl
set_option maxRecDepth 20000 in
theorem g117_301 (r : Nat) (l0 l1 l2 : Option AV) (s0 s1 : AV) (M : Mem) (S : Sh) : go r 117 301 [l0, l1, l2] [s0, s1] M S = go r 117 302 [l0, l1, l2] [aI 1, s0, s1] M S := go_nx rfl rfl
set_option maxRecDepth 20000 in
theorem g117_302 (r : Nat) (l0 l1 l2 : Option AV) (s0 : AV) (x y : Int) (M : Mem) (S : Sh) : go r 117 302 [l0, l1, l2] [aI y, aI x, s0] M S = go r 117 303 [l0, l1, l2] [aI (w32 (x + y)), s0] M S := go_nx rfl rfl
set_option maxRecDepth 20000 in
theorem g117_303 (r : Nat) (l0 l1 l2 : Option AV) (x : Int) (a : Nat) (M : Mem) (S : Sh) (h : S.1 a = 6) : go r 117 303 [l0, l1, l2] [aI x, aR a] M S = go r 117 306 [l0, l1, l2] [] (mset M a 26 x) S := go_bnd rfl ⟨h, fun z => absurd z (by decide)⟩ rfl
set_option maxRecDepth 20000 in
theorem g117_306 (r : Nat) (l0 l1 l2 : Option AV) (M : Mem) (S : Sh) : go r 117 306 [l0, l1, l2] [] M S = go r 117 230 [l0, l1, l2] [] M S := go_nx rfl rfl
set_option maxRecDepth 20000 in
theorem g117_309 (r : Nat) (l1 l2 : Option AV) (a : Nat) (M : Mem) (S : Sh) : go r 117 309 [some (aR a), l1, l2] [] M S = go r 117 310 [some (aR a), l1, l2] [aR a] M S := go_nx rfl rfl
set_option maxRecDepth 20000 in
theorem g117_310 (r : Nat) (l0 l1 : Option AV) (s0 : AV) (x : Int) (M : Mem) (S : Sh) : go r 117 310 [l0, l1, some (aI x)] [s0] M S = go r 117 311 [l0, l1, some (aI x)] [aI x, s0] M S := go_nx rfl rfl
set_option maxRecDepth 20000 in
theorem g117_311 (r : Nat) (l0 l1 l2 : Option AV) (s0 s1 : AV) (M : Mem) (S : Sh) : go r 117 311 [l0, l1, l2] [s0, s1] M S = go r 117 312 [l0, l1, l2] [aI 4, s0, s1] M S := go_nx rfl rfl
set_option maxRecDepth 20000 in
theorem g117_312 (r : Nat) (l0 l1 l2 : Option AV) (s0 : AV) (x y : Int) (M : Mem) (S : Sh) : go r 117 312 [l0, l1, l2] [aI y, aI x, s0] M S = if x ≤ y then go r 117 319 [l0, l1, l2] [s0] M S else go r 117 315 [l0, l1, l2] [s0] M S := go_br rfl rfl rfl rfl rfl
set_option maxRecDepth 20000 in
theorem g117_315 (r : Nat) (l0 l1 l2 : Option AV) (s0 : AV) (M : Mem) (S : Sh) : go r 117 315 [l0, l1, l2] [s0] M S = go r 117 316 [l0, l1, l2] [aI (-1), s0] M S := go_nx rfl rfl
set_option maxRecDepth 20000 in
theorem g117_316 (r : Nat) (l0 l1 l2 : Option AV) (s0 s1 : AV) (M : Mem) (S : Sh) : go r 117 316 [l0, l1, l2] [s0, s1] M S = go r 117 320 [l0, l1, l2] [s0, s1] M S := go_nx rfl rfl
set_option maxRecDepth 20000 in
theorem g117_319 (r : Nat) (l0 l1 l2 : Option AV) (s0 : AV) (M : Mem) (S : Sh) : go r 117 319 [l0, l1, l2] [s0] M S = go r 117 320 [l0, l1, l2] [aI 1, s0] M S := go_nx rfl rfl
set_option maxRecDepth 20000 in
theorem g117_320 (r : Nat) (l0 l1 l2 : Option AV) (x : Int) (a : Nat) (M : Mem) (S : Sh) (h : S.1 a = 6) : go r 117 320 [l0, l1, l2] [aI x, aR a] M S = go r 117 323 [l0, l1, l2] [] (mset M a 28 x) S := go_bnd rfl ⟨h, fun z => absurd z (by decide)⟩ rfl
set_option maxRecDepth 20000 in
theorem g117_323 (r : Nat) (l0 l1 l2 : Option AV) (M : Mem) (S : Sh) : go r 117 323 [l0, l1, l2] [] M S = go r 117 403 [l0, l1, l2] [] M S := go_nx rfl rfl
set_option maxRecDepth 20000 in
theorem g117_326 (r : Nat) (l0 l2 : Option AV) (x : Int) (M : Mem) (S : Sh) : go r 117 326 [l0, some (aI x), l2] [] M S = go r 117 327 [l0, some (aI x), l2] [aI x] M S := go_nx rfl rfl
set_option maxRecDepth 20000 in
theorem g117_327 (r : Nat) (l0 l1 l2 : Option AV) (s0 : AV) (M : Mem) (S : Sh) : go r 117 327 [l0, l1, l2] [s0] M S = go r 117 329 [l0, l1, l2] [aI 40, s0] M S := go_nx rfl rfl
set_option maxRecDepth 20000 in
theorem g117_329 (r : Nat) (l0 l1 l2 : Option AV) (x y : Int) (M : Mem) (S : Sh) : go r 117 329 [l0, l1, l2] [aI y, aI x] M S = if x = y then go r 117 374 [l0, l1, l2] [] M S else go r 117 332 [l0, l1, l2] [] M S := go_br rfl rfl rfl rfl rfl
set_option maxRecDepth 20000 in
theorem g117_332 (r : Nat) (l0 l2 : Option AV) (x : Int) (M : Mem) (S : Sh) : go r 117 332 [l0, some (aI x), l2] [] M S = go r 117 333 [l0, some (aI x), l2] [aI x] M S := go_nx rfl rfl
set_option maxRecDepth 20000 in
theorem g117_333 (r : Nat) (l0 l1 l2 : Option AV) (s0 : AV) (M : Mem) (S : Sh) : go r 117 333 [l0, l1, l2] [s0] M S = go r 117 335 [l0, l1, l2] [aI 41, s0] M S := go_nx rfl rfl
set_option maxRecDepth 20000 in
theorem g117_335 (r : Nat) (l0 l1 l2 : Option AV) (x y : Int) (M : Mem) (S : Sh) : go r 117 335 [l0, l1, l2] [aI y, aI x] M S = if x = y then go r 117 374 [l0, l1, l2] [] M S else go r 117 338 [l0, l1, l2] [] M S := go_br rfl rfl rfl rfl rfl
set_option maxRecDepth 20000 in
theorem g117_338 (r : Nat) (l0 l2 : Option AV) (x : Int) (M : Mem) (S : Sh) : go r 117 338 [l0, some (aI x), l2] [] M S = go r 117 339 [l0, some (aI x), l2] [aI x] M S := go_nx rfl rfl
set_option maxRecDepth 20000 in
theorem g117_339 (r : Nat) (l0 l1 l2 : Option AV) (s0 : AV) (M : Mem) (S : Sh) : go r 117 339 [l0, l1, l2] [s0] M S = go r 117 341 [l0, l1, l2] [aI 59, s0] M S := go_nx rfl rfl
set_option maxRecDepth 20000 in
theorem g117_341 (r : Nat) (l0 l1 l2 : Option AV) (x y : Int) (M : Mem) (S : Sh) : go r 117 341 [l0, l1, l2] [aI y, aI x] M S = if x = y then go r 117 374 [l0, l1, l2] [] M S else go r 117 344 [l0, l1, l2] [] M S := go_br rfl rfl rfl rfl rfl
set_option maxRecDepth 20000 in
theorem g117_344 (r : Nat) (l0 l2 : Option AV) (x : Int) (M : Mem) (S : Sh) : go r 117 344 [l0, some (aI x), l2] [] M S = go r 117 345 [l0, some (aI x), l2] [aI x] M S := go_nx rfl rfl
set_option maxRecDepth 20000 in
theorem g117_345 (r : Nat) (l0 l1 l2 : Option AV) (s0 : AV) (M : Mem) (S : Sh) : go r 117 345 [l0, l1, l2] [s0] M S = go r 117 347 [l0, l1, l2] [aI 43, s0] M S := go_nx rfl rfl
set_option maxRecDepth 20000 in
theorem g117_347 (r : Nat) (l0 l1 l2 : Option AV) (x y : Int) (M : Mem) (S : Sh) : go r 117 347 [l0, l1, l2] [aI y, aI x] M S = if x = y then go r 117 374 [l0, l1, l2] [] M S else go r 117 350 [l0, l1, l2] [] M S := go_br rfl rfl rfl rfl rfl
set_option maxRecDepth 20000 in
theorem g117_350 (r : Nat) (l0 l2 : Option AV) (x : Int) (M : Mem) (S : Sh) : go r 117 350 [l0, some (aI x), l2] [] M S = go r 117 351 [l0, some (aI x), l2] [aI x] M S := go_nx rfl rfl
set_option maxRecDepth 20000 in
theorem g117_351 (r : Nat) (l0 l1 l2 : Option AV) (s0 : AV) (M : Mem) (S : Sh) : go r 117 351 [l0, l1, l2] [s0] M S = go r 117 353 [l0, l1, l2] [aI 45, s0] M S := go_nx rfl rfl
set_option maxRecDepth 20000 in
theorem g117_353 (r : Nat) (l0 l1 l2 : Option AV) (x y : Int) (M : Mem) (S : Sh) : go r 117 353 [l0, l1, l2] [aI y, aI x] M S = if x = y then go r 117 374 [l0, l1, l2] [] M S else go r 117 356 [l0, l1, l2] [] M S := go_br rfl rfl rfl rfl rfl
set_option maxRecDepth 20000 in
theorem g117_356 (r : Nat) (l0 l2 : Option AV) (x : Int) (M : Mem) (S : Sh) : go r 117 356 [l0, some (aI x), l2] [] M S = go r 117 357 [l0, some (aI x), l2] [aI x] M S := go_nx rfl rfl
set_option maxRecDepth 20000 in
theorem g117_357 (r : Nat) (l0 l1 l2 : Option AV) (s0 : AV) (M : Mem) (S : Sh) : go r 117 357 [l0, l1, l2] [s0] M S = go r 117 359 [l0, l1, l2] [aI 42, s0] M S := go_nx rfl rfl
set_option maxRecDepth 20000 in
theorem g117_359 (r : Nat) (l0 l1 l2 : Option AV) (x y : Int) (M : Mem) (S : Sh) : go r 117 359 [l0, l1, l2] [aI y, aI x] M S = if x = y then go r 117 374 [l0, l1, l2] [] M S else go r 117 362 [l0, l1, l2] [] M S := go_br rfl rfl rfl rfl rfl
set_option maxRecDepth 20000 in
theorem g117_362 (r : Nat) (l0 l2 : Option AV) (x : Int) (M : Mem) (S : Sh) : go r 117 362 [l0, some (aI x), l2] [] M S = go r 117 363 [l0, some (aI x), l2] [aI x] M S := go_nx rfl rfl
set_option maxRecDepth 20000 in
theorem g117_363 (r : Nat) (l0 l1 l2 : Option AV) (s0 : AV) (M : Mem) (S : Sh) : go r 117 363 [l0, l1, l2] [s0] M S = go r 117 365 [l0, l1, l2] [aI 60, s0] M S := go_nx rfl rfl
set_option maxRecDepth 20000 in
theorem g117_365 (r : Nat) (l0 l1 l2 : Option AV) (x y : Int) (M : Mem) (S : Sh) : go r 117 365 [l0, l1, l2] [aI y, aI x] M S = if x = y then go r 117 374 [l0, l1, l2] [] M S else go r 117 368 [l0, l1, l2] [] M S := go_br rfl rfl rfl rfl rfl
set_option maxRecDepth 20000 in
theorem g117_368 (r : Nat) (l0 l2 : Option AV) (x : Int) (M : Mem) (S : Sh) : go r 117 368 [l0, some (aI x), l2] [] M S = go r 117 369 [l0, some (aI x), l2] [aI x] M S := go_nx rfl rfl
set_option maxRecDepth 20000 in
theorem g117_369 (r : Nat) (l0 l1 l2 : Option AV) (s0 : AV) (M : Mem) (S : Sh) : go r 117 369 [l0, l1, l2] [s0] M S = go r 117 371 [l0, l1, l2] [aI 61, s0] M S := go_nx rfl rfl
set_option maxRecDepth 20000 in
theorem g117_371 (r : Nat) (l0 l1 l2 : Option AV) (x y : Int) (M : Mem) (S : Sh) : go r 117 371 [l0, l1, l2] [aI y, aI x] M S = if x ≠ y then go r 117 378 [l0, l1, l2] [] M S else go r 117 374 [l0, l1, l2] [] M S := go_br rfl rfl rfl rfl rfl
set_option maxRecDepth 20000 in
theorem g117_374 (r : Nat) (l0 l1 l2 : Option AV) (M : Mem) (S : Sh) : go r 117 374 [l0, l1, l2] [] M S = go r 117 375 [l0, l1, l2] [aI 1] M S := go_nx rfl rfl
set_option maxRecDepth 20000 in
theorem g117_375 (r : Nat) (l0 l1 l2 : Option AV) (s0 : AV) (M : Mem) (S : Sh) : go r 117 375 [l0, l1, l2] [s0] M S = go r 117 379 [l0, l1, l2] [s0] M S := go_nx rfl rfl
set_option maxRecDepth 20000 in
theorem g117_378 (r : Nat) (l0 l1 l2 : Option AV) (M : Mem) (S : Sh) : go r 117 378 [l0, l1, l2] [] M S = go r 117 379 [l0, l1, l2] [aI 0] M S := go_nx rfl rfl
set_option maxRecDepth 20000 in
theorem g117_379 (r : Nat) (l0 l1 l2 : Option AV) (x : Int) (M : Mem) (S : Sh) : go r 117 379 [l0, l1, l2] [aI x] M S = go r 117 380 [l0, l1, some (aI x)] [] M S := go_nx rfl rfl
set_option maxRecDepth 20000 in
theorem g117_380 (r : Nat) (l1 l2 : Option AV) (a : Nat) (M : Mem) (S : Sh) : go r 117 380 [some (aR a), l1, l2] [] M S = go r 117 381 [some (aR a), l1, l2] [aR a] M S := go_nx rfl rfl
set_option maxRecDepth 20000 in
theorem g117_381 (r : Nat) (l0 l1 : Option AV) (s0 : AV) (x : Int) (M : Mem) (S : Sh) : go r 117 381 [l0, l1, some (aI x)] [s0] M S = go r 117 382 [l0, l1, some (aI x)] [aI x, s0] M S := go_nx rfl rfl
set_option maxRecDepth 20000 in
theorem g117_382 (r : Nat) (l0 l1 l2 : Option AV) (s0 : AV) (x : Int) (M : Mem) (S : Sh) : go r 117 382 [l0, l1, l2] [aI x, s0] M S = if x = 0 then go r 117 389 [l0, l1, l2] [s0] M S else go r 117 385 [l0, l1, l2] [s0] M S := go_br rfl rfl rfl rfl rfl
set_option maxRecDepth 20000 in
theorem g117_385 (r : Nat) (l0 l2 : Option AV) (s0 : AV) (x : Int) (M : Mem) (S : Sh) : go r 117 385 [l0, some (aI x), l2] [s0] M S = go r 117 386 [l0, some (aI x), l2] [aI x, s0] M S := go_nx rfl rfl
set_option maxRecDepth 20000 in
theorem g117_386 (r : Nat) (l0 l1 l2 : Option AV) (s0 s1 : AV) (M : Mem) (S : Sh) : go r 117 386 [l0, l1, l2] [s0, s1] M S = go r 117 390 [l0, l1, l2] [s0, s1] M S := go_nx rfl rfl
set_option maxRecDepth 20000 in
theorem g117_389 (r : Nat) (l0 l1 l2 : Option AV) (s0 : AV) (M : Mem) (S : Sh) : go r 117 389 [l0, l1, l2] [s0] M S = go r 117 390 [l0, l1, l2] [aI (-1), s0] M S := go_nx rfl rfl
set_option maxRecDepth 20000 in
theorem g117_390 (r : Nat) (l0 l1 l2 : Option AV) (x : Int) (a : Nat) (M : Mem) (S : Sh) (h : S.1 a = 6) : go r 117 390 [l0, l1, l2] [aI x, aR a] M S = go r 117 393 [l0, l1, l2] [] (mset M a 28 x) S := go_bnd rfl ⟨h, fun z => absurd z (by decide)⟩ rfl
set_option maxRecDepth 20000 in
theorem g117_393 (r : Nat) (l1 l2 : Option AV) (a : Nat) (M : Mem) (S : Sh) : go r 117 393 [some (aR a), l1, l2] [] M S = go r 117 394 [some (aR a), l1, l2] [aR a] M S := go_nx rfl rfl
set_option maxRecDepth 20000 in
theorem g117_394 (r : Nat) (l0 l1 l2 : Option AV) (a : Nat) (M : Mem) (S : Sh) : go r 117 394 [l0, l1, l2] [aR a] M S = go r 117 395 [l0, l1, l2] [aR a, aR a] M S := go_nx rfl rfl
set_option maxRecDepth 20000 in
theorem g117_395 (r : Nat) (l0 l1 l2 : Option AV) (s0 : AV) (a : Nat) (M : Mem) (S : Sh) (h : S.1 a = 6) : go r 117 395 [l0, l1, l2] [aR a, s0] M S = go r 117 398 [l0, l1, l2] [aI (M a 26), s0] M S := go_bnd rfl h rfl
set_option maxRecDepth 20000 in
theorem g117_398 (r : Nat) (l0 l1 l2 : Option AV) (s0 s1 : AV) (M : Mem) (S : Sh) : go r 117 398 [l0, l1, l2] [s0, s1] M S = go r 117 399 [l0, l1, l2] [aI 1, s0, s1] M S := go_nx rfl rfl
set_option maxRecDepth 20000 in
theorem g117_399 (r : Nat) (l0 l1 l2 : Option AV) (s0 : AV) (x y : Int) (M : Mem) (S : Sh) : go r 117 399 [l0, l1, l2] [aI y, aI x, s0] M S = go r 117 400 [l0, l1, l2] [aI (w32 (x + y)), s0] M S := go_nx rfl rfl
set_option maxRecDepth 20000 in
theorem g117_400 (r : Nat) (l0 l1 l2 : Option AV) (x : Int) (a : Nat) (M : Mem) (S : Sh) (h : S.1 a = 6) : go r 117 400 [l0, l1, l2] [aI x, aR a] M S = go r 117 403 [l0, l1, l2] [] (mset M a 26 x) S := go_bnd rfl ⟨h, fun z => absurd z (by decide)⟩ rfl
set_option maxRecDepth 20000 in
theorem g117_403 (r : Nat) (l0 l1 l2 : Option AV) (M : Mem) (S : Sh) : go r 117 403 [l0, l1, l2] [] M S = some (none, M, S) := go_rt rfl rfl
/-- StripsFromAboveModel.rank(I)I -/
theorem g118 (x0 : Int) (M : Mem) (S : Sh) : res 118 [aI x0] M S = go 10 118 0 [some (aI x0)] [] M S := res_e0 rfl _ M S
theorem g118_0 (r : Nat) (x : Int) (M : Mem) (S : Sh) : go r 118 0 [some (aI x)] [] M S = go r 118 1 [some (aI x)] [aI x] M S := go_nx rfl rfl
theorem g118_1 (r : Nat) (l0 : Option AV) (x : Int) (M : Mem) (S : Sh) : go r 118 1 [l0] [aI x] M S = if x ≠ 0 then go r 118 8 [l0] [] M S else go r 118 4 [l0] [] M S := go_br rfl rfl rfl rfl rfl
theorem g118_4 (r : Nat) (l0 : Option AV) (M : Mem) (S : Sh) : go r 118 4 [l0] [] M S = go r 118 5 [l0] [aI 0] M S := go_nx rfl rfl
theorem g118_5 (r : Nat) (l0 : Option AV) (s0 : AV) (M : Mem) (S : Sh) : go r 118 5 [l0] [s0] M S = go r 118 71 [l0] [s0] M S := go_nx rfl rfl
theorem g118_8 (r : Nat) (x : Int) (M : Mem) (S : Sh) : go r 118 8 [some (aI x)] [] M S = go r 118 9 [some (aI x)] [aI x] M S := go_nx rfl rfl
theorem g118_9 (r : Nat) (l0 : Option AV) (s0 : AV) (M : Mem) (S : Sh) : go r 118 9 [l0] [s0] M S = go r 118 11 [l0] [aI 11, s0] M S := go_nx rfl rfl
theorem g118_11 (r : Nat) (l0 : Option AV) (x y : Int) (M : Mem) (S : Sh) : go r 118 11 [l0] [aI y, aI x] M S = if x ≠ y then go r 118 18 [l0] [] M S else go r 118 14 [l0] [] M S := go_br rfl rfl rfl rfl rfl
theorem g118_14 (r : Nat) (l0 : Option AV) (M : Mem) (S : Sh) : go r 118 14 [l0] [] M S = go r 118 15 [l0] [aI 1] M S := go_nx rfl rfl
theorem g118_15 (r : Nat) (l0 : Option AV) (s0 : AV) (M : Mem) (S : Sh) : go r 118 15 [l0] [s0] M S = go r 118 71 [l0] [s0] M S := go_nx rfl rfl
theorem g118_18 (r : Nat) (x : Int) (M : Mem) (S : Sh) : go r 118 18 [some (aI x)] [] M S = go r 118 19 [some (aI x)] [aI x] M S := go_nx rfl rfl
theorem g118_19 (r : Nat) (l0 : Option AV) (s0 : AV) (M : Mem) (S : Sh) : go r 118 19 [l0] [s0] M S = go r 118 21 [l0] [aI 12, s0] M S := go_nx rfl rfl
theorem g118_21 (r : Nat) (l0 : Option AV) (x y : Int) (M : Mem) (S : Sh) : go r 118 21 [l0] [aI y, aI x] M S = if x ≠ y then go r 118 28 [l0] [] M S else go r 118 24 [l0] [] M S := go_br rfl rfl rfl rfl rfl
theorem g118_24 (r : Nat) (l0 : Option AV) (M : Mem) (S : Sh) : go r 118 24 [l0] [] M S = go r 118 25 [l0] [aI 2] M S := go_nx rfl rfl
theorem g118_25 (r : Nat) (l0 : Option AV) (s0 : AV) (M : Mem) (S : Sh) : go r 118 25 [l0] [s0] M S = go r 118 71 [l0] [s0] M S := go_nx rfl rfl
theorem g118_28 (r : Nat) (x : Int) (M : Mem) (S : Sh) : go r 118 28 [some (aI x)] [] M S = go r 118 29 [some (aI x)] [aI x] M S := go_nx rfl rfl
theorem g118_29 (r : Nat) (l0 : Option AV) (s0 : AV) (M : Mem) (S : Sh) : go r 118 29 [l0] [s0] M S = go r 118 31 [l0] [aI 13, s0] M S := go_nx rfl rfl
theorem g118_31 (r : Nat) (l0 : Option AV) (x y : Int) (M : Mem) (S : Sh) : go r 118 31 [l0] [aI y, aI x] M S = if x ≠ y then go r 118 38 [l0] [] M S else go r 118 34 [l0] [] M S := go_br rfl rfl rfl rfl rfl
theorem g118_34 (r : Nat) (l0 : Option AV) (M : Mem) (S : Sh) : go r 118 34 [l0] [] M S = go r 118 35 [l0] [aI 3] M S := go_nx rfl rfl
theorem g118_35 (r : Nat) (l0 : Option AV) (s0 : AV) (M : Mem) (S : Sh) : go r 118 35 [l0] [s0] M S = go r 118 71 [l0] [s0] M S := go_nx rfl rfl
theorem g118_38 (r : Nat) (x : Int) (M : Mem) (S : Sh) : go r 118 38 [some (aI x)] [] M S = go r 118 39 [some (aI x)] [aI x] M S := go_nx rfl rfl
theorem g118_39 (r : Nat) (l0 : Option AV) (s0 : AV) (M : Mem) (S : Sh) : go r 118 39 [l0] [s0] M S = go r 118 41 [l0] [aI 15, s0] M S := go_nx rfl rfl
theorem g118_41 (r : Nat) (l0 : Option AV) (x y : Int) (M : Mem) (S : Sh) : go r 118 41 [l0] [aI y, aI x] M S = if x > y then go r 118 48 [l0] [] M S else go r 118 44 [l0] [] M S := go_br rfl rfl rfl rfl rfl
theorem g118_44 (r : Nat) (l0 : Option AV) (M : Mem) (S : Sh) : go r 118 44 [l0] [] M S = go r 118 45 [l0] [aI 4] M S := go_nx rfl rfl
theorem g118_45 (r : Nat) (l0 : Option AV) (s0 : AV) (M : Mem) (S : Sh) : go r 118 45 [l0] [s0] M S = go r 118 71 [l0] [s0] M S := go_nx rfl rfl
theorem g118_48 (r : Nat) (x : Int) (M : Mem) (S : Sh) : go r 118 48 [some (aI x)] [] M S = go r 118 49 [some (aI x)] [aI x] M S := go_nx rfl rfl
theorem g118_49 (r : Nat) (l0 : Option AV) (s0 : AV) (M : Mem) (S : Sh) : go r 118 49 [l0] [s0] M S = go r 118 51 [l0] [aI 17, s0] M S := go_nx rfl rfl
theorem g118_51 (r : Nat) (l0 : Option AV) (x y : Int) (M : Mem) (S : Sh) : go r 118 51 [l0] [aI y, aI x] M S = if x > y then go r 118 58 [l0] [] M S else go r 118 54 [l0] [] M S := go_br rfl rfl rfl rfl rfl
theorem g118_54 (r : Nat) (l0 : Option AV) (M : Mem) (S : Sh) : go r 118 54 [l0] [] M S = go r 118 55 [l0] [aI 5] M S := go_nx rfl rfl
theorem g118_55 (r : Nat) (l0 : Option AV) (s0 : AV) (M : Mem) (S : Sh) : go r 118 55 [l0] [s0] M S = go r 118 71 [l0] [s0] M S := go_nx rfl rfl
theorem g118_58 (r : Nat) (x : Int) (M : Mem) (S : Sh) : go r 118 58 [some (aI x)] [] M S = go r 118 59 [some (aI x)] [aI x] M S := go_nx rfl rfl
theorem g118_59 (r : Nat) (l0 : Option AV) (s0 : AV) (M : Mem) (S : Sh) : go r 118 59 [l0] [s0] M S = go r 118 61 [l0] [aI 18, s0] M S := go_nx rfl rfl
theorem g118_61 (r : Nat) (l0 : Option AV) (x y : Int) (M : Mem) (S : Sh) : go r 118 61 [l0] [aI y, aI x] M S = if x ≠ y then go r 118 69 [l0] [] M S else go r 118 64 [l0] [] M S := go_br rfl rfl rfl rfl rfl
theorem g118_64 (r : Nat) (l0 : Option AV) (M : Mem) (S : Sh) : go r 118 64 [l0] [] M S = go r 118 66 [l0] [aI 6] M S := go_nx rfl rfl
theorem g118_66 (r : Nat) (l0 : Option AV) (s0 : AV) (M : Mem) (S : Sh) : go r 118 66 [l0] [s0] M S = go r 118 71 [l0] [s0] M S := go_nx rfl rfl
theorem g118_69 (r : Nat) (l0 : Option AV) (M : Mem) (S : Sh) : go r 118 69 [l0] [] M S = go r 118 71 [l0] [aI 7] M S := go_nx rfl rfl
theorem g118_71 (r : Nat) (l0 : Option AV) (x : Int) (M : Mem) (S : Sh) : go r 118 71 [l0] [aI x] M S = some (some (aI x), M, S) := go_rt rfl (bnd_t (Or.inl rfl))
/-- StripsFromAboveModel.puts(I)V -/
theorem g119 (x1 : Int) (a0 : Nat) (M : Mem) (S : Sh) : res 119 [aR a0, aI x1] M S = go 10 119 0 [some (aR a0), some (aI x1)] [] M S := res_e0 rfl _ M S
theorem g119_0 (r : Nat) (l1 : Option AV) (a : Nat) (M : Mem) (S : Sh) : go r 119 0 [some (aR a), l1] [] M S = go r 119 1 [some (aR a), l1] [aR a] M S := go_nx rfl rfl
theorem g119_1 (r : Nat) (l0 l1 : Option AV) (a : Nat) (M : Mem) (S : Sh) (h : S.1 a = 6) : go r 119 1 [l0, l1] [aR a] M S = go r 119 4 [l0, l1] [aO (S.2.2.1 a 14)] M S := go_bnd rfl h rfl
theorem g119_4 (r : Nat) (l0 l1 : Option AV) (s0 : AV) (M : Mem) (S : Sh) : go r 119 4 [l0, l1] [s0] M S = go r 119 7 [l0, l1] [aI 200, s0] M S := go_nx rfl rfl
theorem g119_7 (r : Nat) (l1 : Option AV) (s0 s1 : AV) (a : Nat) (M : Mem) (S : Sh) : go r 119 7 [some (aR a), l1] [s0, s1] M S = go r 119 8 [some (aR a), l1] [aR a, s0, s1] M S := go_nx rfl rfl
theorem g119_8 (r : Nat) (l0 l1 : Option AV) (s0 s1 : AV) (a : Nat) (M : Mem) (S : Sh) (h : S.1 a = 6) : go r 119 8 [l0, l1] [aR a, s0, s1] M S = go r 119 11 [l0, l1] [aI (M a 16), s0, s1] M S := go_bnd rfl h rfl
theorem g119_11 (r : Nat) (l0 l1 : Option AV) (s0 : AV) (x y : Int) (M : Mem) (S : Sh) : go r 119 11 [l0, l1] [aI y, aI x, s0] M S = go r 119 12 [l0, l1] [aI (w32 (x * y)), s0] M S := go_nx rfl rfl
theorem g119_12 (r : Nat) (l1 : Option AV) (s0 s1 : AV) (a : Nat) (M : Mem) (S : Sh) : go r 119 12 [some (aR a), l1] [s0, s1] M S = go r 119 13 [some (aR a), l1] [aR a, s0, s1] M S := go_nx rfl rfl
theorem g119_13 (r : Nat) (l0 l1 : Option AV) (s0 s1 : AV) (a : Nat) (M : Mem) (S : Sh) (h : S.1 a = 6) : go r 119 13 [l0, l1] [aR a, s0, s1] M S = go r 119 16 [l0, l1] [aI (M a 34), s0, s1] M S := go_bnd rfl h rfl
theorem g119_16 (r : Nat) (l0 l1 : Option AV) (s0 : AV) (x y : Int) (M : Mem) (S : Sh) : go r 119 16 [l0, l1] [aI y, aI x, s0] M S = go r 119 17 [l0, l1] [aI (w32 (x + y)), s0] M S := go_nx rfl rfl
theorem g119_17 (r : Nat) (l0 : Option AV) (s0 s1 : AV) (x : Int) (M : Mem) (S : Sh) : go r 119 17 [l0, some (aI x)] [s0, s1] M S = go r 119 18 [l0, some (aI x)] [aI x, s0, s1] M S := go_nx rfl rfl
theorem g119_18 (r : Nat) (l0 l1 : Option AV) (x y : Int) (a : Nat) (M : Mem) (S : Sh) (h : S.1 a = 7) (h6 : 6 ≤ a) (h0 : 0 ≤ x) (h1 : x < S.2.1 a) : go r 119 18 [l0, l1] [aI y, aI x, aR a] M S = go r 119 19 [l0, l1] [] (mset M a x.toNat y) S := go_bnd rfl ⟨h, h6, h0, h1⟩ rfl
theorem g119_19 (r : Nat) (l1 : Option AV) (a : Nat) (M : Mem) (S : Sh) : go r 119 19 [some (aR a), l1] [] M S = go r 119 20 [some (aR a), l1] [aR a] M S := go_nx rfl rfl
theorem g119_20 (r : Nat) (l0 l1 : Option AV) (a : Nat) (M : Mem) (S : Sh) : go r 119 20 [l0, l1] [aR a] M S = go r 119 21 [l0, l1] [aR a, aR a] M S := go_nx rfl rfl
theorem g119_21 (r : Nat) (l0 l1 : Option AV) (s0 : AV) (a : Nat) (M : Mem) (S : Sh) (h : S.1 a = 6) : go r 119 21 [l0, l1] [aR a, s0] M S = go r 119 24 [l0, l1] [aI (M a 34), s0] M S := go_bnd rfl h rfl
theorem g119_24 (r : Nat) (l0 l1 : Option AV) (s0 s1 : AV) (M : Mem) (S : Sh) : go r 119 24 [l0, l1] [s0, s1] M S = go r 119 25 [l0, l1] [aI 1, s0, s1] M S := go_nx rfl rfl
theorem g119_25 (r : Nat) (l0 l1 : Option AV) (s0 : AV) (x y : Int) (M : Mem) (S : Sh) : go r 119 25 [l0, l1] [aI y, aI x, s0] M S = go r 119 26 [l0, l1] [aI (w32 (x + y)), s0] M S := go_nx rfl rfl
theorem g119_26 (r : Nat) (l0 l1 : Option AV) (x : Int) (a : Nat) (M : Mem) (S : Sh) (h : S.1 a = 6) : go r 119 26 [l0, l1] [aI x, aR a] M S = go r 119 29 [l0, l1] [] (mset M a 34 x) S := go_bnd rfl ⟨h, fun z => absurd z (by decide)⟩ rfl
theorem g119_29 (r : Nat) (l0 l1 : Option AV) (M : Mem) (S : Sh) : go r 119 29 [l0, l1] [] M S = some (none, M, S) := go_rt rfl rfl
/-- StripsFromAboveModel.unwinds(I)V -/
theorem g120 (x1 : Int) (a0 : Nat) (M : Mem) (S : Sh) : res 120 [aR a0, aI x1] M S = go 11 120 0 [some (aR a0), some (aI x1), none] [] M S := res_e0 rfl _ M S
theorem g120_0 (r : Nat) (l1 l2 : Option AV) (a : Nat) (M : Mem) (S : Sh) : go r 120 0 [some (aR a), l1, l2] [] M S = go r 120 1 [some (aR a), l1, l2] [aR a] M S := go_nx rfl rfl
theorem g120_1 (r : Nat) (l0 l1 l2 : Option AV) (a : Nat) (M : Mem) (S : Sh) (h : S.1 a = 6) : go r 120 1 [l0, l1, l2] [aR a] M S = go r 120 4 [l0, l1, l2] [aI (M a 32)] M S := go_bnd rfl h rfl
theorem g120_4 (r : Nat) (l0 l1 l2 : Option AV) (x : Int) (M : Mem) (S : Sh) : go r 120 4 [l0, l1, l2] [aI x] M S = if x ≤ 0 then go r 120 79 [l0, l1, l2] [] M S else go r 120 7 [l0, l1, l2] [] M S := go_br rfl rfl rfl rfl rfl
theorem g120_7 (r : Nat) (l1 l2 : Option AV) (a : Nat) (M : Mem) (S : Sh) : go r 120 7 [some (aR a), l1, l2] [] M S = go r 120 8 [some (aR a), l1, l2] [aR a] M S := go_nx rfl rfl
theorem g120_8 (r : Nat) (l0 l1 l2 : Option AV) (a : Nat) (M : Mem) (S : Sh) (h : S.1 a = 6) : go r 120 8 [l0, l1, l2] [aR a] M S = go r 120 11 [l0, l1, l2] [aO (S.2.2.1 a 31)] M S := go_bnd rfl h rfl
theorem g120_11 (r : Nat) (l1 l2 : Option AV) (s0 : AV) (a : Nat) (M : Mem) (S : Sh) : go r 120 11 [some (aR a), l1, l2] [s0] M S = go r 120 12 [some (aR a), l1, l2] [aR a, s0] M S := go_nx rfl rfl
theorem g120_12 (r : Nat) (l0 l1 l2 : Option AV) (s0 : AV) (a : Nat) (M : Mem) (S : Sh) (h : S.1 a = 6) : go r 120 12 [l0, l1, l2] [aR a, s0] M S = go r 120 15 [l0, l1, l2] [aI (M a 32), s0] M S := go_bnd rfl h rfl
theorem g120_15 (r : Nat) (l0 l1 l2 : Option AV) (s0 s1 : AV) (M : Mem) (S : Sh) : go r 120 15 [l0, l1, l2] [s0, s1] M S = go r 120 16 [l0, l1, l2] [aI 1, s0, s1] M S := go_nx rfl rfl
theorem g120_16 (r : Nat) (l0 l1 l2 : Option AV) (s0 : AV) (x y : Int) (M : Mem) (S : Sh) : go r 120 16 [l0, l1, l2] [aI y, aI x, s0] M S = go r 120 17 [l0, l1, l2] [aI (w32 (x - y)), s0] M S := go_nx rfl rfl
theorem g120_17 (r : Nat) (l0 l1 l2 : Option AV) (x : Int) (a : Nat) (M : Mem) (S : Sh) (h : S.1 a = 7) (h0 : 0 ≤ x) (h1 : x < S.2.1 a) : go r 120 17 [l0, l1, l2] [aI x, aR a] M S = go r 120 18 [l0, l1, l2] [aI (M a x.toNat)] M S := go_bnd rfl ⟨h, h0, h1⟩ rfl
theorem g120_18 (r : Nat) (l0 l1 l2 : Option AV) (x0 : Int) (M : Mem) (S : Sh) (hk : 10 < r) : go r 120 18 [l0, l1, l2] [aI x0] M S = cont r 120 21 [l0, l1, l2] [] 1 (res 118 [aI x0] M S) := go_c0 (m' := 118) (n := 1) (pc' := 21) (hr := 1) rfl rfl rfl rfl rfl rfl hk rfl
theorem g120_21 (r : Nat) (l0 l2 : Option AV) (s0 : AV) (x : Int) (M : Mem) (S : Sh) : go r 120 21 [l0, some (aI x), l2] [s0] M S = go r 120 22 [l0, some (aI x), l2] [aI x, s0] M S := go_nx rfl rfl
theorem g120_22 (r : Nat) (l0 l1 l2 : Option AV) (x y : Int) (M : Mem) (S : Sh) : go r 120 22 [l0, l1, l2] [aI y, aI x] M S = if x < y then go r 120 79 [l0, l1, l2] [] M S else go r 120 25 [l0, l1, l2] [] M S := go_br rfl rfl rfl rfl rfl
theorem g120_25 (r : Nat) (l1 l2 : Option AV) (a : Nat) (M : Mem) (S : Sh) : go r 120 25 [some (aR a), l1, l2] [] M S = go r 120 26 [some (aR a), l1, l2] [aR a] M S := go_nx rfl rfl
theorem g120_26 (r : Nat) (l0 l1 l2 : Option AV) (a : Nat) (M : Mem) (S : Sh) : go r 120 26 [l0, l1, l2] [aR a] M S = go r 120 27 [l0, l1, l2] [aR a, aR a] M S := go_nx rfl rfl
theorem g120_27 (r : Nat) (l0 l1 l2 : Option AV) (s0 : AV) (a : Nat) (M : Mem) (S : Sh) (h : S.1 a = 6) : go r 120 27 [l0, l1, l2] [aR a, s0] M S = go r 120 30 [l0, l1, l2] [aI (M a 32), s0] M S := go_bnd rfl h rfl
theorem g120_30 (r : Nat) (l0 l1 l2 : Option AV) (s0 s1 : AV) (M : Mem) (S : Sh) : go r 120 30 [l0, l1, l2] [s0, s1] M S = go r 120 31 [l0, l1, l2] [aI 1, s0, s1] M S := go_nx rfl rfl
theorem g120_31 (r : Nat) (l0 l1 l2 : Option AV) (s0 : AV) (x y : Int) (M : Mem) (S : Sh) : go r 120 31 [l0, l1, l2] [aI y, aI x, s0] M S = go r 120 32 [l0, l1, l2] [aI (w32 (x - y)), s0] M S := go_nx rfl rfl
theorem g120_32 (r : Nat) (l0 l1 l2 : Option AV) (x : Int) (a : Nat) (M : Mem) (S : Sh) (h : S.1 a = 6) : go r 120 32 [l0, l1, l2] [aI x, aR a] M S = go r 120 35 [l0, l1, l2] [] (mset M a 32 x) S := go_bnd rfl ⟨h, fun z => absurd z (by decide)⟩ rfl
theorem g120_35 (r : Nat) (l1 l2 : Option AV) (a : Nat) (M : Mem) (S : Sh) : go r 120 35 [some (aR a), l1, l2] [] M S = go r 120 36 [some (aR a), l1, l2] [aR a] M S := go_nx rfl rfl
theorem g120_36 (r : Nat) (l0 l1 l2 : Option AV) (a : Nat) (M : Mem) (S : Sh) (h : S.1 a = 6) : go r 120 36 [l0, l1, l2] [aR a] M S = go r 120 39 [l0, l1, l2] [aO (S.2.2.1 a 31)] M S := go_bnd rfl h rfl
theorem g120_39 (r : Nat) (l1 l2 : Option AV) (s0 : AV) (a : Nat) (M : Mem) (S : Sh) : go r 120 39 [some (aR a), l1, l2] [s0] M S = go r 120 40 [some (aR a), l1, l2] [aR a, s0] M S := go_nx rfl rfl
theorem g120_40 (r : Nat) (l0 l1 l2 : Option AV) (s0 : AV) (a : Nat) (M : Mem) (S : Sh) (h : S.1 a = 6) : go r 120 40 [l0, l1, l2] [aR a, s0] M S = go r 120 43 [l0, l1, l2] [aI (M a 32), s0] M S := go_bnd rfl h rfl
theorem g120_43 (r : Nat) (l0 l1 l2 : Option AV) (x : Int) (a : Nat) (M : Mem) (S : Sh) (h : S.1 a = 7) (h0 : 0 ≤ x) (h1 : x < S.2.1 a) : go r 120 43 [l0, l1, l2] [aI x, aR a] M S = go r 120 44 [l0, l1, l2] [aI (M a x.toNat)] M S := go_bnd rfl ⟨h, h0, h1⟩ rfl
theorem g120_44 (r : Nat) (l0 l1 l2 : Option AV) (x : Int) (M : Mem) (S : Sh) : go r 120 44 [l0, l1, l2] [aI x] M S = go r 120 45 [l0, l1, some (aI x)] [] M S := go_nx rfl rfl
theorem g120_45 (r : Nat) (l1 l2 : Option AV) (a : Nat) (M : Mem) (S : Sh) : go r 120 45 [some (aR a), l1, l2] [] M S = go r 120 46 [some (aR a), l1, l2] [aR a] M S := go_nx rfl rfl
theorem g120_46 (r : Nat) (l0 l1 l2 : Option AV) (a : Nat) (M : Mem) (S : Sh) : go r 120 46 [l0, l1, l2] [aR a] M S = go r 120 47 [l0, l1, l2] [aR a, aR a] M S := go_nx rfl rfl
theorem g120_47 (r : Nat) (l0 l1 l2 : Option AV) (s0 : AV) (a : Nat) (M : Mem) (S : Sh) (h : S.1 a = 6) : go r 120 47 [l0, l1, l2] [aR a, s0] M S = go r 120 50 [l0, l1, l2] [aI (M a 33), s0] M S := go_bnd rfl h rfl
theorem g120_50 (r : Nat) (l0 l1 : Option AV) (s0 s1 : AV) (x : Int) (M : Mem) (S : Sh) : go r 120 50 [l0, l1, some (aI x)] [s0, s1] M S = go r 120 51 [l0, l1, some (aI x)] [aI x, s0, s1] M S := go_nx rfl rfl
theorem g120_51 (r : Nat) (l0 l1 l2 : Option AV) (s0 s1 s2 : AV) (M : Mem) (S : Sh) : go r 120 51 [l0, l1, l2] [s0, s1, s2] M S = go r 120 53 [l0, l1, l2] [aI 13, s0, s1, s2] M S := go_nx rfl rfl
theorem g120_53 (r : Nat) (l0 l1 l2 : Option AV) (s0 s1 : AV) (x y : Int) (M : Mem) (S : Sh) : go r 120 53 [l0, l1, l2] [aI y, aI x, s0, s1] M S = if x = y then go r 120 62 [l0, l1, l2] [s0, s1] M S else go r 120 56 [l0, l1, l2] [s0, s1] M S := go_br rfl rfl rfl rfl rfl
theorem g120_56 (r : Nat) (l0 l1 : Option AV) (s0 s1 : AV) (x : Int) (M : Mem) (S : Sh) : go r 120 56 [l0, l1, some (aI x)] [s0, s1] M S = go r 120 57 [l0, l1, some (aI x)] [aI x, s0, s1] M S := go_nx rfl rfl
theorem g120_57 (r : Nat) (l0 l1 l2 : Option AV) (s0 s1 s2 : AV) (M : Mem) (S : Sh) : go r 120 57 [l0, l1, l2] [s0, s1, s2] M S = go r 120 59 [l0, l1, l2] [aI 19, s0, s1, s2] M S := go_nx rfl rfl
theorem g120_59 (r : Nat) (l0 l1 l2 : Option AV) (s0 s1 : AV) (x y : Int) (M : Mem) (S : Sh) : go r 120 59 [l0, l1, l2] [aI y, aI x, s0, s1] M S = if x ≠ y then go r 120 66 [l0, l1, l2] [s0, s1] M S else go r 120 62 [l0, l1, l2] [s0, s1] M S := go_br rfl rfl rfl rfl rfl
theorem g120_62 (r : Nat) (l0 l1 l2 : Option AV) (s0 s1 : AV) (M : Mem) (S : Sh) : go r 120 62 [l0, l1, l2] [s0, s1] M S = go r 120 63 [l0, l1, l2] [aI 1, s0, s1] M S := go_nx rfl rfl
theorem g120_63 (r : Nat) (l0 l1 l2 : Option AV) (s0 s1 s2 : AV) (M : Mem) (S : Sh) : go r 120 63 [l0, l1, l2] [s0, s1, s2] M S = go r 120 67 [l0, l1, l2] [s0, s1, s2] M S := go_nx rfl rfl
theorem g120_66 (r : Nat) (l0 l1 l2 : Option AV) (s0 s1 : AV) (M : Mem) (S : Sh) : go r 120 66 [l0, l1, l2] [s0, s1] M S = go r 120 67 [l0, l1, l2] [aI 0, s0, s1] M S := go_nx rfl rfl
theorem g120_67 (r : Nat) (l0 l1 l2 : Option AV) (s0 : AV) (x y : Int) (M : Mem) (S : Sh) : go r 120 67 [l0, l1, l2] [aI y, aI x, s0] M S = go r 120 68 [l0, l1, l2] [aI (w32 (x - y)), s0] M S := go_nx rfl rfl
theorem g120_68 (r : Nat) (l0 l1 l2 : Option AV) (x : Int) (a : Nat) (M : Mem) (S : Sh) (h : S.1 a = 6) : go r 120 68 [l0, l1, l2] [aI x, aR a] M S = go r 120 71 [l0, l1, l2] [] (mset M a 33 x) S := go_bnd rfl ⟨h, fun z => absurd z (by decide)⟩ rfl
theorem g120_71 (r : Nat) (l1 l2 : Option AV) (a : Nat) (M : Mem) (S : Sh) : go r 120 71 [some (aR a), l1, l2] [] M S = go r 120 72 [some (aR a), l1, l2] [aR a] M S := go_nx rfl rfl
theorem g120_72 (r : Nat) (l0 l1 : Option AV) (s0 : AV) (x : Int) (M : Mem) (S : Sh) : go r 120 72 [l0, l1, some (aI x)] [s0] M S = go r 120 73 [l0, l1, some (aI x)] [aI x, s0] M S := go_nx rfl rfl
theorem g120_73 (r : Nat) (l0 l1 l2 : Option AV) (x1 : Int) (a0 : Nat) (M : Mem) (S : Sh) (hk : 10 < r) (h : S.1 a0 = 6) : go r 120 73 [l0, l1, l2] [aI x1, aR a0] M S = cont r 120 76 [l0, l1, l2] [] 0 (res 119 [aR a0, aI x1] M S) := go_cr0 (m' := 119) (n := 2) (pc' := 76) (hr := 0) rfl rfl rfl h rfl rfl rfl rfl hk rfl
theorem g120_76 (r : Nat) (l0 l1 l2 : Option AV) (M : Mem) (S : Sh) : go r 120 76 [l0, l1, l2] [] M S = go r 120 0 [l0, l1, l2] [] M S := go_nx rfl rfl
theorem g120_79 (r : Nat) (l0 l1 l2 : Option AV) (M : Mem) (S : Sh) : go r 120 79 [l0, l1, l2] [] M S = some (none, M, S) := go_rt rfl rfl
/-- StripsFromAboveModel.holds(I)V -/
theorem g121 (x1 : Int) (a0 : Nat) (M : Mem) (S : Sh) : res 121 [aR a0, aI x1] M S = go 10 121 0 [some (aR a0), some (aI x1)] [] M S := res_e0 rfl _ M S
theorem g121_0 (r : Nat) (l1 : Option AV) (a : Nat) (M : Mem) (S : Sh) : go r 121 0 [some (aR a), l1] [] M S = go r 121 1 [some (aR a), l1] [aR a] M S := go_nx rfl rfl
theorem g121_1 (r : Nat) (l0 l1 : Option AV) (a : Nat) (M : Mem) (S : Sh) (h : S.1 a = 6) : go r 121 1 [l0, l1] [aR a] M S = go r 121 4 [l0, l1] [aO (S.2.2.1 a 31)] M S := go_bnd rfl h rfl
theorem g121_4 (r : Nat) (l1 : Option AV) (s0 : AV) (a : Nat) (M : Mem) (S : Sh) : go r 121 4 [some (aR a), l1] [s0] M S = go r 121 5 [some (aR a), l1] [aR a, s0] M S := go_nx rfl rfl
theorem g121_5 (r : Nat) (l0 l1 : Option AV) (s0 : AV) (a : Nat) (M : Mem) (S : Sh) (h : S.1 a = 6) : go r 121 5 [l0, l1] [aR a, s0] M S = go r 121 8 [l0, l1] [aI (M a 32), s0] M S := go_bnd rfl h rfl
theorem g121_8 (r : Nat) (l0 : Option AV) (s0 s1 : AV) (x : Int) (M : Mem) (S : Sh) : go r 121 8 [l0, some (aI x)] [s0, s1] M S = go r 121 9 [l0, some (aI x)] [aI x, s0, s1] M S := go_nx rfl rfl
theorem g121_9 (r : Nat) (l0 l1 : Option AV) (x y : Int) (a : Nat) (M : Mem) (S : Sh) (h : S.1 a = 7) (h6 : 6 ≤ a) (h0 : 0 ≤ x) (h1 : x < S.2.1 a) : go r 121 9 [l0, l1] [aI y, aI x, aR a] M S = go r 121 10 [l0, l1] [] (mset M a x.toNat y) S := go_bnd rfl ⟨h, h6, h0, h1⟩ rfl
theorem g121_10 (r : Nat) (l1 : Option AV) (a : Nat) (M : Mem) (S : Sh) : go r 121 10 [some (aR a), l1] [] M S = go r 121 11 [some (aR a), l1] [aR a] M S := go_nx rfl rfl
theorem g121_11 (r : Nat) (l0 l1 : Option AV) (a : Nat) (M : Mem) (S : Sh) : go r 121 11 [l0, l1] [aR a] M S = go r 121 12 [l0, l1] [aR a, aR a] M S := go_nx rfl rfl
theorem g121_12 (r : Nat) (l0 l1 : Option AV) (s0 : AV) (a : Nat) (M : Mem) (S : Sh) (h : S.1 a = 6) : go r 121 12 [l0, l1] [aR a, s0] M S = go r 121 15 [l0, l1] [aI (M a 32), s0] M S := go_bnd rfl h rfl
theorem g121_15 (r : Nat) (l0 l1 : Option AV) (s0 s1 : AV) (M : Mem) (S : Sh) : go r 121 15 [l0, l1] [s0, s1] M S = go r 121 16 [l0, l1] [aI 1, s0, s1] M S := go_nx rfl rfl
theorem g121_16 (r : Nat) (l0 l1 : Option AV) (s0 : AV) (x y : Int) (M : Mem) (S : Sh) : go r 121 16 [l0, l1] [aI y, aI x, s0] M S = go r 121 17 [l0, l1] [aI (w32 (x + y)), s0] M S := go_nx rfl rfl
theorem g121_17 (r : Nat) (l0 l1 : Option AV) (x : Int) (a : Nat) (M : Mem) (S : Sh) (h : S.1 a = 6) : go r 121 17 [l0, l1] [aI x, aR a] M S = go r 121 20 [l0, l1] [] (mset M a 32 x) S := go_bnd rfl ⟨h, fun z => absurd z (by decide)⟩ rfl
theorem g121_20 (r : Nat) (l0 l1 : Option AV) (M : Mem) (S : Sh) : go r 121 20 [l0, l1] [] M S = some (none, M, S) := go_rt rfl rfl
/-- StripsFromAboveModel.opensOne(I)Z -/
theorem g122 (x1 : Int) (a0 : Nat) (M : Mem) (S : Sh) : res 122 [aR a0, aI x1] M S = go 11 122 0 [some (aR a0), some (aI x1)] [] M S := res_e0 rfl _ M S
theorem g122_0 (r : Nat) (l1 : Option AV) (a : Nat) (M : Mem) (S : Sh) : go r 122 0 [some (aR a), l1] [] M S = go r 122 1 [some (aR a), l1] [aR a] M S := go_nx rfl rfl
theorem g122_1 (r : Nat) (l0 l1 : Option AV) (a : Nat) (M : Mem) (S : Sh) (h : S.1 a = 6) : go r 122 1 [l0, l1] [aR a] M S = go r 122 4 [l0, l1] [aI (M a 33)] M S := go_bnd rfl h rfl
theorem g122_4 (r : Nat) (l0 l1 : Option AV) (s0 : AV) (M : Mem) (S : Sh) : go r 122 4 [l0, l1] [s0] M S = go r 122 5 [l0, l1] [aI 5, s0] M S := go_nx rfl rfl
theorem g122_5 (r : Nat) (l0 l1 : Option AV) (x y : Int) (M : Mem) (S : Sh) : go r 122 5 [l0, l1] [aI y, aI x] M S = if x ≠ y then go r 122 10 [l0, l1] [] M S else go r 122 8 [l0, l1] [] M S := go_br rfl rfl rfl rfl rfl
theorem g122_8 (r : Nat) (l0 l1 : Option AV) (M : Mem) (S : Sh) : go r 122 8 [l0, l1] [] M S = go r 122 9 [l0, l1] [aI 0] M S := go_nx rfl rfl
theorem g122_9 (r : Nat) (l0 l1 : Option AV) (x : Int) (M : Mem) (S : Sh) (h : x = 0 ∨ x = 1) : go r 122 9 [l0, l1] [aI x] M S = some (some (aI x), M, S) := go_rt rfl (bnd_t (Or.inr h))
theorem g122_10 (r : Nat) (l1 : Option AV) (a : Nat) (M : Mem) (S : Sh) : go r 122 10 [some (aR a), l1] [] M S = go r 122 11 [some (aR a), l1] [aR a] M S := go_nx rfl rfl
theorem g122_11 (r : Nat) (l0 l1 : Option AV) (a : Nat) (M : Mem) (S : Sh) : go r 122 11 [l0, l1] [aR a] M S = go r 122 12 [l0, l1] [aR a, aR a] M S := go_nx rfl rfl
theorem g122_12 (r : Nat) (l0 l1 : Option AV) (s0 : AV) (a : Nat) (M : Mem) (S : Sh) (h : S.1 a = 6) : go r 122 12 [l0, l1] [aR a, s0] M S = go r 122 15 [l0, l1] [aI (M a 33), s0] M S := go_bnd rfl h rfl
theorem g122_15 (r : Nat) (l0 l1 : Option AV) (s0 s1 : AV) (M : Mem) (S : Sh) : go r 122 15 [l0, l1] [s0, s1] M S = go r 122 16 [l0, l1] [aI 1, s0, s1] M S := go_nx rfl rfl
theorem g122_16 (r : Nat) (l0 l1 : Option AV) (s0 : AV) (x y : Int) (M : Mem) (S : Sh) : go r 122 16 [l0, l1] [aI y, aI x, s0] M S = go r 122 17 [l0, l1] [aI (w32 (x + y)), s0] M S := go_nx rfl rfl
theorem g122_17 (r : Nat) (l0 l1 : Option AV) (x : Int) (a : Nat) (M : Mem) (S : Sh) (h : S.1 a = 6) : go r 122 17 [l0, l1] [aI x, aR a] M S = go r 122 20 [l0, l1] [] (mset M a 33 x) S := go_bnd rfl ⟨h, fun z => absurd z (by decide)⟩ rfl
theorem g122_20 (r : Nat) (l1 : Option AV) (a : Nat) (M : Mem) (S : Sh) : go r 122 20 [some (aR a), l1] [] M S = go r 122 21 [some (aR a), l1] [aR a] M S := go_nx rfl rfl
theorem g122_21 (r : Nat) (l0 : Option AV) (s0 : AV) (x : Int) (M : Mem) (S : Sh) : go r 122 21 [l0, some (aI x)] [s0] M S = go r 122 22 [l0, some (aI x)] [aI x, s0] M S := go_nx rfl rfl
theorem g122_22 (r : Nat) (l0 l1 : Option AV) (x1 : Int) (a0 : Nat) (M : Mem) (S : Sh) (hk : 10 < r) (h : S.1 a0 = 6) : go r 122 22 [l0, l1] [aI x1, aR a0] M S = cont r 122 25 [l0, l1] [] 0 (res 121 [aR a0, aI x1] M S) := go_cr0 (m' := 121) (n := 2) (pc' := 25) (hr := 0) rfl rfl rfl h rfl rfl rfl rfl hk rfl
theorem g122_25 (r : Nat) (l0 l1 : Option AV) (M : Mem) (S : Sh) : go r 122 25 [l0, l1] [] M S = go r 122 26 [l0, l1] [aI 1] M S := go_nx rfl rfl
theorem g122_26 (r : Nat) (l0 l1 : Option AV) (x : Int) (M : Mem) (S : Sh) (h : x = 0 ∨ x = 1) : go r 122 26 [l0, l1] [aI x] M S = some (some (aI x), M, S) := go_rt rfl (bnd_t (Or.inr h))
/-- StripsFromAboveModel.between(I)Z -/
theorem g123 (x1 : Int) (a0 : Nat) (M : Mem) (S : Sh) : res 123 [aR a0, aI x1] M S = go 12 123 0 [some (aR a0), some (aI x1)] [] M S := res_e0 rfl _ M S
theorem g123_0 (r : Nat) (l1 : Option AV) (a : Nat) (M : Mem) (S : Sh) : go r 123 0 [some (aR a), l1] [] M S = go r 123 1 [some (aR a), l1] [aR a] M S := go_nx rfl rfl
theorem g123_1 (r : Nat) (l0 : Option AV) (s0 : AV) (x : Int) (M : Mem) (S : Sh) : go r 123 1 [l0, some (aI x)] [s0] M S = go r 123 2 [l0, some (aI x)] [aI x, s0] M S := go_nx rfl rfl
theorem g123_2 (r : Nat) (l0 l1 : Option AV) (s0 : AV) (x0 : Int) (M : Mem) (S : Sh) (hk : 10 < r) : go r 123 2 [l0, l1] [aI x0, s0] M S = cont r 123 5 [l0, l1] [s0] 1 (res 118 [aI x0] M S) := go_c0 (m' := 118) (n := 1) (pc' := 5) (hr := 1) rfl rfl rfl rfl rfl rfl hk rfl
theorem g123_5 (r : Nat) (l0 l1 : Option AV) (s0 s1 : AV) (M : Mem) (S : Sh) : go r 123 5 [l0, l1] [s0, s1] M S = go r 123 6 [l0, l1] [aI 4, s0, s1] M S := go_nx rfl rfl
theorem g123_6 (r : Nat) (l0 l1 : Option AV) (s0 : AV) (x y : Int) (M : Mem) (S : Sh) : go r 123 6 [l0, l1] [aI y, aI x, s0] M S = if x ≠ y then go r 123 13 [l0, l1] [s0] M S else go r 123 9 [l0, l1] [s0] M S := go_br rfl rfl rfl rfl rfl
theorem g123_9 (r : Nat) (l0 l1 : Option AV) (s0 : AV) (M : Mem) (S : Sh) : go r 123 9 [l0, l1] [s0] M S = go r 123 10 [l0, l1] [aI 5, s0] M S := go_nx rfl rfl
theorem g123_10 (r : Nat) (l0 l1 : Option AV) (s0 s1 : AV) (M : Mem) (S : Sh) : go r 123 10 [l0, l1] [s0, s1] M S = go r 123 17 [l0, l1] [s0, s1] M S := go_nx rfl rfl
theorem g123_13 (r : Nat) (l0 : Option AV) (s0 : AV) (x : Int) (M : Mem) (S : Sh) : go r 123 13 [l0, some (aI x)] [s0] M S = go r 123 14 [l0, some (aI x)] [aI x, s0] M S := go_nx rfl rfl
theorem g123_14 (r : Nat) (l0 l1 : Option AV) (s0 : AV) (x0 : Int) (M : Mem) (S : Sh) (hk : 10 < r) : go r 123 14 [l0, l1] [aI x0, s0] M S = cont r 123 17 [l0, l1] [s0] 1 (res 118 [aI x0] M S) := go_c0 (m' := 118) (n := 1) (pc' := 17) (hr := 1) rfl rfl rfl rfl rfl rfl hk rfl
theorem g123_17 (r : Nat) (l0 l1 : Option AV) (x1 : Int) (a0 : Nat) (M : Mem) (S : Sh) (hk : 11 < r) (h : S.1 a0 = 6) : go r 123 17 [l0, l1] [aI x1, aR a0] M S = cont r 123 20 [l0, l1] [] 0 (res 120 [aR a0, aI x1] M S) := go_cr0 (m' := 120) (n := 2) (pc' := 20) (hr := 0) rfl rfl rfl h rfl rfl rfl rfl hk rfl
theorem g123_20 (r : Nat) (l0 : Option AV) (x : Int) (M : Mem) (S : Sh) : go r 123 20 [l0, some (aI x)] [] M S = go r 123 21 [l0, some (aI x)] [aI x] M S := go_nx rfl rfl
theorem g123_21 (r : Nat) (l0 l1 : Option AV) (x0 : Int) (M : Mem) (S : Sh) (hk : 10 < r) : go r 123 21 [l0, l1] [aI x0] M S = cont r 123 24 [l0, l1] [] 1 (res 118 [aI x0] M S) := go_c0 (m' := 118) (n := 1) (pc' := 24) (hr := 1) rfl rfl rfl rfl rfl rfl hk rfl
theorem g123_24 (r : Nat) (l0 l1 : Option AV) (s0 : AV) (M : Mem) (S : Sh) : go r 123 24 [l0, l1] [s0] M S = go r 123 25 [l0, l1] [aI 4, s0] M S := go_nx rfl rfl
theorem g123_25 (r : Nat) (l0 l1 : Option AV) (x y : Int) (M : Mem) (S : Sh) : go r 123 25 [l0, l1] [aI y, aI x] M S = if x ≠ y then go r 123 55 [l0, l1] [] M S else go r 123 28 [l0, l1] [] M S := go_br rfl rfl rfl rfl rfl
theorem g123_28 (r : Nat) (l1 : Option AV) (a : Nat) (M : Mem) (S : Sh) : go r 123 28 [some (aR a), l1] [] M S = go r 123 29 [some (aR a), l1] [aR a] M S := go_nx rfl rfl
theorem g123_29 (r : Nat) (l0 l1 : Option AV) (a : Nat) (M : Mem) (S : Sh) (h : S.1 a = 6) : go r 123 29 [l0, l1] [aR a] M S = go r 123 32 [l0, l1] [aI (M a 32)] M S := go_bnd rfl h rfl
theorem g123_32 (r : Nat) (l0 l1 : Option AV) (x : Int) (M : Mem) (S : Sh) : go r 123 32 [l0, l1] [aI x] M S = if x ≤ 0 then go r 123 55 [l0, l1] [] M S else go r 123 35 [l0, l1] [] M S := go_br rfl rfl rfl rfl rfl
theorem g123_35 (r : Nat) (l1 : Option AV) (a : Nat) (M : Mem) (S : Sh) : go r 123 35 [some (aR a), l1] [] M S = go r 123 36 [some (aR a), l1] [aR a] M S := go_nx rfl rfl
theorem g123_36 (r : Nat) (l0 l1 : Option AV) (a : Nat) (M : Mem) (S : Sh) (h : S.1 a = 6) : go r 123 36 [l0, l1] [aR a] M S = go r 123 39 [l0, l1] [aO (S.2.2.1 a 31)] M S := go_bnd rfl h rfl
theorem g123_39 (r : Nat) (l1 : Option AV) (s0 : AV) (a : Nat) (M : Mem) (S : Sh) : go r 123 39 [some (aR a), l1] [s0] M S = go r 123 40 [some (aR a), l1] [aR a, s0] M S := go_nx rfl rfl
theorem g123_40 (r : Nat) (l0 l1 : Option AV) (s0 : AV) (a : Nat) (M : Mem) (S : Sh) (h : S.1 a = 6) : go r 123 40 [l0, l1] [aR a, s0] M S = go r 123 43 [l0, l1] [aI (M a 32), s0] M S := go_bnd rfl h rfl
theorem g123_43 (r : Nat) (l0 l1 : Option AV) (s0 s1 : AV) (M : Mem) (S : Sh) : go r 123 43 [l0, l1] [s0, s1] M S = go r 123 44 [l0, l1] [aI 1, s0, s1] M S := go_nx rfl rfl
theorem g123_44 (r : Nat) (l0 l1 : Option AV) (s0 : AV) (x y : Int) (M : Mem) (S : Sh) : go r 123 44 [l0, l1] [aI y, aI x, s0] M S = go r 123 45 [l0, l1] [aI (w32 (x - y)), s0] M S := go_nx rfl rfl
theorem g123_45 (r : Nat) (l0 l1 : Option AV) (x : Int) (a : Nat) (M : Mem) (S : Sh) (h : S.1 a = 7) (h0 : 0 ≤ x) (h1 : x < S.2.1 a) : go r 123 45 [l0, l1] [aI x, aR a] M S = go r 123 46 [l0, l1] [aI (M a x.toNat)] M S := go_bnd rfl ⟨h, h0, h1⟩ rfl
theorem g123_46 (r : Nat) (l0 l1 : Option AV) (x0 : Int) (M : Mem) (S : Sh) (hk : 10 < r) : go r 123 46 [l0, l1] [aI x0] M S = cont r 123 49 [l0, l1] [] 1 (res 118 [aI x0] M S) := go_c0 (m' := 118) (n := 1) (pc' := 49) (hr := 1) rfl rfl rfl rfl rfl rfl hk rfl
theorem g123_49 (r : Nat) (l0 l1 : Option AV) (s0 : AV) (M : Mem) (S : Sh) : go r 123 49 [l0, l1] [s0] M S = go r 123 50 [l0, l1] [aI 4, s0] M S := go_nx rfl rfl
theorem g123_50 (r : Nat) (l0 l1 : Option AV) (x y : Int) (M : Mem) (S : Sh) : go r 123 50 [l0, l1] [aI y, aI x] M S = if x ≠ y then go r 123 55 [l0, l1] [] M S else go r 123 53 [l0, l1] [] M S := go_br rfl rfl rfl rfl rfl
theorem g123_53 (r : Nat) (l0 l1 : Option AV) (M : Mem) (S : Sh) : go r 123 53 [l0, l1] [] M S = go r 123 54 [l0, l1] [aI 0] M S := go_nx rfl rfl
theorem g123_54 (r : Nat) (l0 l1 : Option AV) (x : Int) (M : Mem) (S : Sh) (h : x = 0 ∨ x = 1) : go r 123 54 [l0, l1] [aI x] M S = some (some (aI x), M, S) := go_rt rfl (bnd_t (Or.inr h))
theorem g123_55 (r : Nat) (l1 : Option AV) (a : Nat) (M : Mem) (S : Sh) : go r 123 55 [some (aR a), l1] [] M S = go r 123 56 [some (aR a), l1] [aR a] M S := go_nx rfl rfl
theorem g123_56 (r : Nat) (l0 : Option AV) (s0 : AV) (x : Int) (M : Mem) (S : Sh) : go r 123 56 [l0, some (aI x)] [s0] M S = go r 123 57 [l0, some (aI x)] [aI x, s0] M S := go_nx rfl rfl
theorem g123_57 (r : Nat) (l0 l1 : Option AV) (x1 : Int) (a0 : Nat) (M : Mem) (S : Sh) (hk : 10 < r) (h : S.1 a0 = 6) : go r 123 57 [l0, l1] [aI x1, aR a0] M S = cont r 123 60 [l0, l1] [] 0 (res 121 [aR a0, aI x1] M S) := go_cr0 (m' := 121) (n := 2) (pc' := 60) (hr := 0) rfl rfl rfl h rfl rfl rfl rfl hk rfl
theorem g123_60 (r : Nat) (l0 l1 : Option AV) (M : Mem) (S : Sh) : go r 123 60 [l0, l1] [] M S = go r 123 61 [l0, l1] [aI 1] M S := go_nx rfl rfl
theorem g123_61 (r : Nat) (l0 l1 : Option AV) (x : Int) (M : Mem) (S : Sh) (h : x = 0 ∨ x = 1) : go r 123 61 [l0, l1] [aI x] M S = some (some (aI x), M, S) := go_rt rfl (bnd_t (Or.inr h))
/-- StripsFromAboveModel.signOf()I -/
theorem g124 (a0 : Nat) (M : Mem) (S : Sh) : res 124 [aR a0] M S = go 10 124 0 [some (aR a0)] [] M S := res_e0 rfl _ M S
theorem g124_0 (r : Nat) (a : Nat) (M : Mem) (S : Sh) : go r 124 0 [some (aR a)] [] M S = go r 124 1 [some (aR a)] [aR a] M S := go_nx rfl rfl
theorem g124_1 (r : Nat) (l0 : Option AV) (a : Nat) (M : Mem) (S : Sh) (h : S.1 a = 6) : go r 124 1 [l0] [aR a] M S = go r 124 4 [l0] [aI (M a 28)] M S := go_bnd rfl h rfl
theorem g124_4 (r : Nat) (l0 : Option AV) (s0 : AV) (M : Mem) (S : Sh) : go r 124 4 [l0] [s0] M S = go r 124 5 [l0] [aI 4, s0] M S := go_nx rfl rfl
theorem g124_5 (r : Nat) (l0 : Option AV) (x y : Int) (M : Mem) (S : Sh) : go r 124 5 [l0] [aI y, aI x] M S = if x ≠ y then go r 124 13 [l0] [] M S else go r 124 8 [l0] [] M S := go_br rfl rfl rfl rfl rfl
theorem g124_8 (r : Nat) (l0 : Option AV) (M : Mem) (S : Sh) : go r 124 8 [l0] [] M S = go r 124 10 [l0] [aI 11] M S := go_nx rfl rfl
theorem g124_10 (r : Nat) (l0 : Option AV) (s0 : AV) (M : Mem) (S : Sh) : go r 124 10 [l0] [s0] M S = go r 124 97 [l0] [s0] M S := go_nx rfl rfl
theorem g124_13 (r : Nat) (a : Nat) (M : Mem) (S : Sh) : go r 124 13 [some (aR a)] [] M S = go r 124 14 [some (aR a)] [aR a] M S := go_nx rfl rfl
theorem g124_14 (r : Nat) (l0 : Option AV) (a : Nat) (M : Mem) (S : Sh) (h : S.1 a = 6) : go r 124 14 [l0] [aR a] M S = go r 124 17 [l0] [aI (M a 28)] M S := go_bnd rfl h rfl
theorem g124_17 (r : Nat) (l0 : Option AV) (s0 : AV) (M : Mem) (S : Sh) : go r 124 17 [l0] [s0] M S = go r 124 18 [l0] [aI 5, s0] M S := go_nx rfl rfl
theorem g124_18 (r : Nat) (l0 : Option AV) (x y : Int) (M : Mem) (S : Sh) : go r 124 18 [l0] [aI y, aI x] M S = if x ≠ y then go r 124 26 [l0] [] M S else go r 124 21 [l0] [] M S := go_br rfl rfl rfl rfl rfl
theorem g124_21 (r : Nat) (l0 : Option AV) (M : Mem) (S : Sh) : go r 124 21 [l0] [] M S = go r 124 23 [l0] [aI 12] M S := go_nx rfl rfl
theorem g124_23 (r : Nat) (l0 : Option AV) (s0 : AV) (M : Mem) (S : Sh) : go r 124 23 [l0] [s0] M S = go r 124 97 [l0] [s0] M S := go_nx rfl rfl
theorem g124_26 (r : Nat) (a : Nat) (M : Mem) (S : Sh) : go r 124 26 [some (aR a)] [] M S = go r 124 27 [some (aR a)] [aR a] M S := go_nx rfl rfl
theorem g124_27 (r : Nat) (l0 : Option AV) (a : Nat) (M : Mem) (S : Sh) (h : S.1 a = 6) : go r 124 27 [l0] [aR a] M S = go r 124 30 [l0] [aI (M a 28)] M S := go_bnd rfl h rfl
theorem g124_30 (r : Nat) (l0 : Option AV) (s0 : AV) (M : Mem) (S : Sh) : go r 124 30 [l0] [s0] M S = go r 124 32 [l0] [aI 60, s0] M S := go_nx rfl rfl
theorem g124_32 (r : Nat) (l0 : Option AV) (x y : Int) (M : Mem) (S : Sh) : go r 124 32 [l0] [aI y, aI x] M S = if x ≠ y then go r 124 40 [l0] [] M S else go r 124 35 [l0] [] M S := go_br rfl rfl rfl rfl rfl
theorem g124_35 (r : Nat) (l0 : Option AV) (M : Mem) (S : Sh) : go r 124 35 [l0] [] M S = go r 124 37 [l0] [aI 14] M S := go_nx rfl rfl
theorem g124_37 (r : Nat) (l0 : Option AV) (s0 : AV) (M : Mem) (S : Sh) : go r 124 37 [l0] [s0] M S = go r 124 97 [l0] [s0] M S := go_nx rfl rfl
theorem g124_40 (r : Nat) (a : Nat) (M : Mem) (S : Sh) : go r 124 40 [some (aR a)] [] M S = go r 124 41 [some (aR a)] [aR a] M S := go_nx rfl rfl
theorem g124_41 (r : Nat) (l0 : Option AV) (a : Nat) (M : Mem) (S : Sh) (h : S.1 a = 6) : go r 124 41 [l0] [aR a] M S = go r 124 44 [l0] [aI (M a 28)] M S := go_bnd rfl h rfl
theorem g124_44 (r : Nat) (l0 : Option AV) (s0 : AV) (M : Mem) (S : Sh) : go r 124 44 [l0] [s0] M S = go r 124 46 [l0] [aI 61, s0] M S := go_nx rfl rfl
theorem g124_46 (r : Nat) (l0 : Option AV) (x y : Int) (M : Mem) (S : Sh) : go r 124 46 [l0] [aI y, aI x] M S = if x ≠ y then go r 124 54 [l0] [] M S else go r 124 49 [l0] [] M S := go_br rfl rfl rfl rfl rfl
theorem g124_49 (r : Nat) (l0 : Option AV) (M : Mem) (S : Sh) : go r 124 49 [l0] [] M S = go r 124 51 [l0] [aI 15] M S := go_nx rfl rfl
theorem g124_51 (r : Nat) (l0 : Option AV) (s0 : AV) (M : Mem) (S : Sh) : go r 124 51 [l0] [s0] M S = go r 124 97 [l0] [s0] M S := go_nx rfl rfl
theorem g124_54 (r : Nat) (a : Nat) (M : Mem) (S : Sh) : go r 124 54 [some (aR a)] [] M S = go r 124 55 [some (aR a)] [aR a] M S := go_nx rfl rfl
theorem g124_55 (r : Nat) (l0 : Option AV) (a : Nat) (M : Mem) (S : Sh) (h : S.1 a = 6) : go r 124 55 [l0] [aR a] M S = go r 124 58 [l0] [aI (M a 28)] M S := go_bnd rfl h rfl
theorem g124_58 (r : Nat) (l0 : Option AV) (s0 : AV) (M : Mem) (S : Sh) : go r 124 58 [l0] [s0] M S = go r 124 60 [l0] [aI 43, s0] M S := go_nx rfl rfl
theorem g124_60 (r : Nat) (l0 : Option AV) (x y : Int) (M : Mem) (S : Sh) : go r 124 60 [l0] [aI y, aI x] M S = if x ≠ y then go r 124 68 [l0] [] M S else go r 124 63 [l0] [] M S := go_br rfl rfl rfl rfl rfl
theorem g124_63 (r : Nat) (l0 : Option AV) (M : Mem) (S : Sh) : go r 124 63 [l0] [] M S = go r 124 65 [l0] [aI 16] M S := go_nx rfl rfl
theorem g124_65 (r : Nat) (l0 : Option AV) (s0 : AV) (M : Mem) (S : Sh) : go r 124 65 [l0] [s0] M S = go r 124 97 [l0] [s0] M S := go_nx rfl rfl
theorem g124_68 (r : Nat) (a : Nat) (M : Mem) (S : Sh) : go r 124 68 [some (aR a)] [] M S = go r 124 69 [some (aR a)] [aR a] M S := go_nx rfl rfl
theorem g124_69 (r : Nat) (l0 : Option AV) (a : Nat) (M : Mem) (S : Sh) (h : S.1 a = 6) : go r 124 69 [l0] [aR a] M S = go r 124 72 [l0] [aI (M a 28)] M S := go_bnd rfl h rfl
theorem g124_72 (r : Nat) (l0 : Option AV) (s0 : AV) (M : Mem) (S : Sh) : go r 124 72 [l0] [s0] M S = go r 124 74 [l0] [aI 45, s0] M S := go_nx rfl rfl
theorem g124_74 (r : Nat) (l0 : Option AV) (x y : Int) (M : Mem) (S : Sh) : go r 124 74 [l0] [aI y, aI x] M S = if x ≠ y then go r 124 82 [l0] [] M S else go r 124 77 [l0] [] M S := go_br rfl rfl rfl rfl rfl
theorem g124_77 (r : Nat) (l0 : Option AV) (M : Mem) (S : Sh) : go r 124 77 [l0] [] M S = go r 124 79 [l0] [aI 17] M S := go_nx rfl rfl
theorem g124_79 (r : Nat) (l0 : Option AV) (s0 : AV) (M : Mem) (S : Sh) : go r 124 79 [l0] [s0] M S = go r 124 97 [l0] [s0] M S := go_nx rfl rfl
theorem g124_82 (r : Nat) (a : Nat) (M : Mem) (S : Sh) : go r 124 82 [some (aR a)] [] M S = go r 124 83 [some (aR a)] [aR a] M S := go_nx rfl rfl
theorem g124_83 (r : Nat) (l0 : Option AV) (a : Nat) (M : Mem) (S : Sh) (h : S.1 a = 6) : go r 124 83 [l0] [aR a] M S = go r 124 86 [l0] [aI (M a 28)] M S := go_bnd rfl h rfl
theorem g124_86 (r : Nat) (l0 : Option AV) (s0 : AV) (M : Mem) (S : Sh) : go r 124 86 [l0] [s0] M S = go r 124 88 [l0] [aI 42, s0] M S := go_nx rfl rfl
theorem g124_88 (r : Nat) (l0 : Option AV) (x y : Int) (M : Mem) (S : Sh) : go r 124 88 [l0] [aI y, aI x] M S = if x ≠ y then go r 124 96 [l0] [] M S else go r 124 91 [l0] [] M S := go_br rfl rfl rfl rfl rfl
theorem g124_91 (r : Nat) (l0 : Option AV) (M : Mem) (S : Sh) : go r 124 91 [l0] [] M S = go r 124 93 [l0] [aI 18] M S := go_nx rfl rfl
theorem g124_93 (r : Nat) (l0 : Option AV) (s0 : AV) (M : Mem) (S : Sh) : go r 124 93 [l0] [s0] M S = go r 124 97 [l0] [s0] M S := go_nx rfl rfl
theorem g124_96 (r : Nat) (l0 : Option AV) (M : Mem) (S : Sh) : go r 124 96 [l0] [] M S = go r 124 97 [l0] [aI (-1)] M S := go_nx rfl rfl
theorem g124_97 (r : Nat) (l0 : Option AV) (x : Int) (M : Mem) (S : Sh) : go r 124 97 [l0] [aI x] M S = some (some (aI x), M, S) := go_rt rfl (bnd_t (Or.inl rfl))
/-- StripsFromAboveModel.eRead()Z -/
theorem g125 (a0 : Nat) (M : Mem) (S : Sh) : res 125 [aR a0] M S = go 13 125 0 [some (aR a0), none, none, none] [] M S := res_e0 rfl _ M S
theorem g125_0 (r : Nat) (l1 l2 l3 : Option AV) (a : Nat) (M : Mem) (S : Sh) : go r 125 0 [some (aR a), l1, l2, l3] [] M S = go r 125 1 [some (aR a), l1, l2, l3] [aR a] M S := go_nx rfl rfl
theorem g125_1 (r : Nat) (l0 l1 l2 l3 : Option AV) (s0 : AV) (M : Mem) (S : Sh) : go r 125 1 [l0, l1, l2, l3] [s0] M S = go r 125 2 [l0, l1, l2, l3] [aI 0, s0] M S := go_nx rfl rfl
theorem g125_2 (r : Nat) (l0 l1 l2 l3 : Option AV) (x : Int) (a : Nat) (M : Mem) (S : Sh) (h : S.1 a = 6) : go r 125 2 [l0, l1, l2, l3] [aI x, aR a] M S = go r 125 5 [l0, l1, l2, l3] [] (mset M a 32 x) S := go_bnd rfl ⟨h, fun z => absurd z (by decide)⟩ rfl
theorem g125_5 (r : Nat) (l1 l2 l3 : Option AV) (a : Nat) (M : Mem) (S : Sh) : go r 125 5 [some (aR a), l1, l2, l3] [] M S = go r 125 6 [some (aR a), l1, l2, l3] [aR a] M S := go_nx rfl rfl
theorem g125_6 (r : Nat) (l0 l1 l2 l3 : Option AV) (s0 : AV) (M : Mem) (S : Sh) : go r 125 6 [l0, l1, l2, l3] [s0] M S = go r 125 7 [l0, l1, l2, l3] [aI 0, s0] M S := go_nx rfl rfl
theorem g125_7 (r : Nat) (l0 l1 l2 l3 : Option AV) (x : Int) (a : Nat) (M : Mem) (S : Sh) (h : S.1 a = 6) : go r 125 7 [l0, l1, l2, l3] [aI x, aR a] M S = go r 125 10 [l0, l1, l2, l3] [] (mset M a 33 x) S := go_bnd rfl ⟨h, fun z => absurd z (by decide)⟩ rfl
theorem g125_10 (r : Nat) (l0 l1 l2 l3 : Option AV) (M : Mem) (S : Sh) : go r 125 10 [l0, l1, l2, l3] [] M S = go r 125 11 [l0, l1, l2, l3] [aI 1] M S := go_nx rfl rfl
theorem g125_11 (r : Nat) (l0 l1 l2 l3 : Option AV) (x : Int) (M : Mem) (S : Sh) : go r 125 11 [l0, l1, l2, l3] [aI x] M S = go r 125 12 [l0, some (aI x), l2, l3] [] M S := go_nx rfl rfl
theorem g125_12 (r : Nat) (l0 l1 l2 l3 : Option AV) (M : Mem) (S : Sh) : go r 125 12 [l0, l1, l2, l3] [] M S = go r 125 13 [l0, l1, l2, l3] [aI 1] M S := go_nx rfl rfl
theorem g125_13 (r : Nat) (l0 l1 l2 l3 : Option AV) (x : Int) (M : Mem) (S : Sh) : go r 125 13 [l0, l1, l2, l3] [aI x] M S = go r 125 14 [l0, l1, some (aI x), l3] [] M S := go_nx rfl rfl
theorem g125_14 (r : Nat) (l1 l2 l3 : Option AV) (a : Nat) (M : Mem) (S : Sh) : go r 125 14 [some (aR a), l1, l2, l3] [] M S = go r 125 15 [some (aR a), l1, l2, l3] [aR a] M S := go_nx rfl rfl
theorem g125_15 (r : Nat) (l0 l1 l2 l3 : Option AV) (a0 : Nat) (M : Mem) (S : Sh) (hk : 11 < r) (h : S.1 a0 = 6) : go r 125 15 [l0, l1, l2, l3] [aR a0] M S = cont r 125 18 [l0, l1, l2, l3] [] 0 (res 117 [aR a0] M S) := go_cr0 (m' := 117) (n := 1) (pc' := 18) (hr := 0) rfl rfl rfl h rfl rfl rfl rfl hk rfl
