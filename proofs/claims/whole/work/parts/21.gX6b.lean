theorem g125_18 (r : Nat) (l0 l2 l3 : Option AV) (x : Int) (M : Mem) (S : Sh) : go r 125 18 [l0, some (aI x), l2, l3] [] M S = go r 125 19 [l0, some (aI x), l2, l3] [aI x] M S := go_nx rfl rfl
theorem g125_19 (r : Nat) (l0 l1 l2 l3 : Option AV) (x : Int) (M : Mem) (S : Sh) : go r 125 19 [l0, l1, l2, l3] [aI x] M S = if x = 0 then go r 125 150 [l0, l1, l2, l3] [] M S else go r 125 22 [l0, l1, l2, l3] [] M S := go_br rfl rfl rfl rfl rfl
theorem g125_22 (r : Nat) (l1 l2 l3 : Option AV) (a : Nat) (M : Mem) (S : Sh) : go r 125 22 [some (aR a), l1, l2, l3] [] M S = go r 125 23 [some (aR a), l1, l2, l3] [aR a] M S := go_nx rfl rfl
theorem g125_23 (r : Nat) (l0 l1 l2 l3 : Option AV) (a : Nat) (M : Mem) (S : Sh) (h : S.1 a = 6) : go r 125 23 [l0, l1, l2, l3] [aR a] M S = go r 125 26 [l0, l1, l2, l3] [aI (M a 28)] M S := go_bnd rfl h rfl
theorem g125_26 (r : Nat) (l0 l1 l2 l3 : Option AV) (s0 : AV) (M : Mem) (S : Sh) : go r 125 26 [l0, l1, l2, l3] [s0] M S = go r 125 27 [l0, l1, l2, l3] [aI 1, s0] M S := go_nx rfl rfl
theorem g125_27 (r : Nat) (l0 l1 l2 l3 : Option AV) (x y : Int) (M : Mem) (S : Sh) : go r 125 27 [l0, l1, l2, l3] [aI y, aI x] M S = if x = y then go r 125 38 [l0, l1, l2, l3] [] M S else go r 125 30 [l0, l1, l2, l3] [] M S := go_br rfl rfl rfl rfl rfl
theorem g125_30 (r : Nat) (l1 l2 l3 : Option AV) (a : Nat) (M : Mem) (S : Sh) : go r 125 30 [some (aR a), l1, l2, l3] [] M S = go r 125 31 [some (aR a), l1, l2, l3] [aR a] M S := go_nx rfl rfl
theorem g125_31 (r : Nat) (l0 l1 l2 l3 : Option AV) (a : Nat) (M : Mem) (S : Sh) (h : S.1 a = 6) : go r 125 31 [l0, l1, l2, l3] [aR a] M S = go r 125 34 [l0, l1, l2, l3] [aI (M a 28)] M S := go_bnd rfl h rfl
theorem g125_34 (r : Nat) (l0 l1 l2 l3 : Option AV) (s0 : AV) (M : Mem) (S : Sh) : go r 125 34 [l0, l1, l2, l3] [s0] M S = go r 125 35 [l0, l1, l2, l3] [aI 2, s0] M S := go_nx rfl rfl
theorem g125_35 (r : Nat) (l0 l1 l2 l3 : Option AV) (x y : Int) (M : Mem) (S : Sh) : go r 125 35 [l0, l1, l2, l3] [aI y, aI x] M S = if x ≠ y then go r 125 75 [l0, l1, l2, l3] [] M S else go r 125 38 [l0, l1, l2, l3] [] M S := go_br rfl rfl rfl rfl rfl
theorem g125_38 (r : Nat) (l1 l2 l3 : Option AV) (a : Nat) (M : Mem) (S : Sh) : go r 125 38 [some (aR a), l1, l2, l3] [] M S = go r 125 39 [some (aR a), l1, l2, l3] [aR a] M S := go_nx rfl rfl
theorem g125_39 (r : Nat) (l1 l2 l3 : Option AV) (s0 : AV) (a : Nat) (M : Mem) (S : Sh) : go r 125 39 [some (aR a), l1, l2, l3] [s0] M S = go r 125 40 [some (aR a), l1, l2, l3] [aR a, s0] M S := go_nx rfl rfl
theorem g125_40 (r : Nat) (l0 l1 l2 l3 : Option AV) (s0 : AV) (a : Nat) (M : Mem) (S : Sh) (h : S.1 a = 6) : go r 125 40 [l0, l1, l2, l3] [aR a, s0] M S = go r 125 43 [l0, l1, l2, l3] [aI (M a 28), s0] M S := go_bnd rfl h rfl
theorem g125_43 (r : Nat) (l0 l1 l2 l3 : Option AV) (s0 s1 : AV) (M : Mem) (S : Sh) : go r 125 43 [l0, l1, l2, l3] [s0, s1] M S = go r 125 44 [l0, l1, l2, l3] [aI 1, s0, s1] M S := go_nx rfl rfl
theorem g125_44 (r : Nat) (l0 l1 l2 l3 : Option AV) (s0 : AV) (x y : Int) (M : Mem) (S : Sh) : go r 125 44 [l0, l1, l2, l3] [aI y, aI x, s0] M S = if x ≠ y then go r 125 57 [l0, l1, l2, l3] [s0] M S else go r 125 47 [l0, l1, l2, l3] [s0] M S := go_br rfl rfl rfl rfl rfl
theorem g125_47 (r : Nat) (l0 l1 l2 l3 : Option AV) (s0 : AV) (M : Mem) (S : Sh) : go r 125 47 [l0, l1, l2, l3] [s0] M S = go r 125 49 [l0, l1, l2, l3] [aI 100000, s0] M S := go_nx rfl rfl
theorem g125_49 (r : Nat) (l1 l2 l3 : Option AV) (s0 s1 : AV) (a : Nat) (M : Mem) (S : Sh) : go r 125 49 [some (aR a), l1, l2, l3] [s0, s1] M S = go r 125 50 [some (aR a), l1, l2, l3] [aR a, s0, s1] M S := go_nx rfl rfl
theorem g125_50 (r : Nat) (l0 l1 l2 l3 : Option AV) (s0 s1 : AV) (a : Nat) (M : Mem) (S : Sh) (h : S.1 a = 6) : go r 125 50 [l0, l1, l2, l3] [aR a, s0, s1] M S = go r 125 53 [l0, l1, l2, l3] [aI (M a 29), s0, s1] M S := go_bnd rfl h rfl
theorem g125_53 (r : Nat) (l0 l1 l2 l3 : Option AV) (s0 : AV) (x y : Int) (M : Mem) (S : Sh) : go r 125 53 [l0, l1, l2, l3] [aI y, aI x, s0] M S = go r 125 54 [l0, l1, l2, l3] [aI (w32 (x + y)), s0] M S := go_nx rfl rfl
theorem g125_54 (r : Nat) (l0 l1 l2 l3 : Option AV) (s0 s1 : AV) (M : Mem) (S : Sh) : go r 125 54 [l0, l1, l2, l3] [s0, s1] M S = go r 125 61 [l0, l1, l2, l3] [s0, s1] M S := go_nx rfl rfl
theorem g125_57 (r : Nat) (l1 l2 l3 : Option AV) (s0 : AV) (a : Nat) (M : Mem) (S : Sh) : go r 125 57 [some (aR a), l1, l2, l3] [s0] M S = go r 125 58 [some (aR a), l1, l2, l3] [aR a, s0] M S := go_nx rfl rfl
theorem g125_58 (r : Nat) (l0 l1 l2 l3 : Option AV) (s0 : AV) (a : Nat) (M : Mem) (S : Sh) (h : S.1 a = 6) : go r 125 58 [l0, l1, l2, l3] [aR a, s0] M S = go r 125 61 [l0, l1, l2, l3] [aI (M a 29), s0] M S := go_bnd rfl h rfl
theorem g125_61 (r : Nat) (l0 l1 l2 l3 : Option AV) (x1 : Int) (a0 : Nat) (M : Mem) (S : Sh) (hk : 10 < r) (h : S.1 a0 = 6) : go r 125 61 [l0, l1, l2, l3] [aI x1, aR a0] M S = cont r 125 64 [l0, l1, l2, l3] [] 0 (res 119 [aR a0, aI x1] M S) := go_cr0 (m' := 119) (n := 2) (pc' := 64) (hr := 0) rfl rfl rfl h rfl rfl rfl rfl hk rfl
theorem g125_64 (r : Nat) (l1 l2 l3 : Option AV) (a : Nat) (M : Mem) (S : Sh) : go r 125 64 [some (aR a), l1, l2, l3] [] M S = go r 125 65 [some (aR a), l1, l2, l3] [aR a] M S := go_nx rfl rfl
theorem g125_65 (r : Nat) (l0 l1 l2 l3 : Option AV) (s0 : AV) (M : Mem) (S : Sh) : go r 125 65 [l0, l1, l2, l3] [s0] M S = go r 125 67 [l0, l1, l2, l3] [aI 7, s0] M S := go_nx rfl rfl
theorem g125_67 (r : Nat) (l0 l1 l2 l3 : Option AV) (x1 : Int) (a0 : Nat) (M : Mem) (S : Sh) (hk : 11 < r) (h : S.1 a0 = 6) : go r 125 67 [l0, l1, l2, l3] [aI x1, aR a0] M S = cont r 125 70 [l0, l1, l2, l3] [] 0 (res 120 [aR a0, aI x1] M S) := go_cr0 (m' := 120) (n := 2) (pc' := 70) (hr := 0) rfl rfl rfl h rfl rfl rfl rfl hk rfl
theorem g125_70 (r : Nat) (l0 l1 l2 l3 : Option AV) (M : Mem) (S : Sh) : go r 125 70 [l0, l1, l2, l3] [] M S = go r 125 71 [l0, l1, l2, l3] [aI 0] M S := go_nx rfl rfl
theorem g125_71 (r : Nat) (l0 l1 l2 l3 : Option AV) (x : Int) (M : Mem) (S : Sh) : go r 125 71 [l0, l1, l2, l3] [aI x] M S = go r 125 72 [l0, some (aI x), l2, l3] [] M S := go_nx rfl rfl
theorem g125_72 (r : Nat) (l0 l1 l2 l3 : Option AV) (M : Mem) (S : Sh) : go r 125 72 [l0, l1, l2, l3] [] M S = go r 125 14 [l0, l1, l2, l3] [] M S := go_nx rfl rfl
theorem g125_75 (r : Nat) (l1 l2 l3 : Option AV) (a : Nat) (M : Mem) (S : Sh) : go r 125 75 [some (aR a), l1, l2, l3] [] M S = go r 125 76 [some (aR a), l1, l2, l3] [aR a] M S := go_nx rfl rfl
theorem g125_76 (r : Nat) (l0 l1 l2 l3 : Option AV) (a : Nat) (M : Mem) (S : Sh) (h : S.1 a = 6) : go r 125 76 [l0, l1, l2, l3] [aR a] M S = go r 125 79 [l0, l1, l2, l3] [aI (M a 28)] M S := go_bnd rfl h rfl
theorem g125_79 (r : Nat) (l0 l1 l2 l3 : Option AV) (s0 : AV) (M : Mem) (S : Sh) : go r 125 79 [l0, l1, l2, l3] [s0] M S = go r 125 81 [l0, l1, l2, l3] [aI 6, s0] M S := go_nx rfl rfl
theorem g125_81 (r : Nat) (l0 l1 l2 l3 : Option AV) (x y : Int) (M : Mem) (S : Sh) : go r 125 81 [l0, l1, l2, l3] [aI y, aI x] M S = if x ≠ y then go r 125 99 [l0, l1, l2, l3] [] M S else go r 125 84 [l0, l1, l2, l3] [] M S := go_br rfl rfl rfl rfl rfl
theorem g125_84 (r : Nat) (l0 l1 l3 : Option AV) (x : Int) (M : Mem) (S : Sh) : go r 125 84 [l0, l1, some (aI x), l3] [] M S = go r 125 85 [l0, l1, some (aI x), l3] [aI x] M S := go_nx rfl rfl
theorem g125_85 (r : Nat) (l0 l1 l2 l3 : Option AV) (x : Int) (M : Mem) (S : Sh) : go r 125 85 [l0, l1, l2, l3] [aI x] M S = if x = 0 then go r 125 99 [l0, l1, l2, l3] [] M S else go r 125 88 [l0, l1, l2, l3] [] M S := go_br rfl rfl rfl rfl rfl
theorem g125_88 (r : Nat) (l1 l2 l3 : Option AV) (a : Nat) (M : Mem) (S : Sh) : go r 125 88 [some (aR a), l1, l2, l3] [] M S = go r 125 89 [some (aR a), l1, l2, l3] [aR a] M S := go_nx rfl rfl
theorem g125_89 (r : Nat) (l0 l1 l2 l3 : Option AV) (s0 : AV) (M : Mem) (S : Sh) : go r 125 89 [l0, l1, l2, l3] [s0] M S = go r 125 91 [l0, l1, l2, l3] [aI 13, s0] M S := go_nx rfl rfl
theorem g125_91 (r : Nat) (l0 l1 l2 l3 : Option AV) (x1 : Int) (a0 : Nat) (M : Mem) (S : Sh) (hk : 11 < r) (h : S.1 a0 = 6) : go r 125 91 [l0, l1, l2, l3] [aI x1, aR a0] M S = cont r 125 94 [l0, l1, l2, l3] [] 1 (res 122 [aR a0, aI x1] M S) := go_cr0 (m' := 122) (n := 2) (pc' := 94) (hr := 1) rfl rfl rfl h rfl rfl rfl rfl hk rfl
theorem g125_94 (r : Nat) (l0 l1 l2 l3 : Option AV) (x : Int) (M : Mem) (S : Sh) : go r 125 94 [l0, l1, l2, l3] [aI x] M S = if x ≠ 0 then go r 125 14 [l0, l1, l2, l3] [] M S else go r 125 97 [l0, l1, l2, l3] [] M S := go_br rfl rfl rfl rfl rfl
theorem g125_97 (r : Nat) (l0 l1 l2 l3 : Option AV) (M : Mem) (S : Sh) : go r 125 97 [l0, l1, l2, l3] [] M S = go r 125 98 [l0, l1, l2, l3] [aI 0] M S := go_nx rfl rfl
theorem g125_98 (r : Nat) (l0 l1 l2 l3 : Option AV) (x : Int) (M : Mem) (S : Sh) (h : x = 0 ∨ x = 1) : go r 125 98 [l0, l1, l2, l3] [aI x] M S = some (some (aI x), M, S) := go_rt rfl (bnd_t (Or.inr h))
theorem g125_99 (r : Nat) (l1 l2 l3 : Option AV) (a : Nat) (M : Mem) (S : Sh) : go r 125 99 [some (aR a), l1, l2, l3] [] M S = go r 125 100 [some (aR a), l1, l2, l3] [aR a] M S := go_nx rfl rfl
theorem g125_100 (r : Nat) (l0 l1 l2 l3 : Option AV) (a : Nat) (M : Mem) (S : Sh) (h : S.1 a = 6) : go r 125 100 [l0, l1, l2, l3] [aR a] M S = go r 125 103 [l0, l1, l2, l3] [aI (M a 28)] M S := go_bnd rfl h rfl
theorem g125_103 (r : Nat) (l0 l1 l2 l3 : Option AV) (s0 : AV) (M : Mem) (S : Sh) : go r 125 103 [l0, l1, l2, l3] [s0] M S = go r 125 105 [l0, l1, l2, l3] [aI 45, s0] M S := go_nx rfl rfl
theorem g125_105 (r : Nat) (l0 l1 l2 l3 : Option AV) (x y : Int) (M : Mem) (S : Sh) : go r 125 105 [l0, l1, l2, l3] [aI y, aI x] M S = if x ≠ y then go r 125 124 [l0, l1, l2, l3] [] M S else go r 125 108 [l0, l1, l2, l3] [] M S := go_br rfl rfl rfl rfl rfl
theorem g125_108 (r : Nat) (l1 l2 l3 : Option AV) (a : Nat) (M : Mem) (S : Sh) : go r 125 108 [some (aR a), l1, l2, l3] [] M S = go r 125 109 [some (aR a), l1, l2, l3] [aR a] M S := go_nx rfl rfl
theorem g125_109 (r : Nat) (l0 l1 l2 l3 : Option AV) (s0 : AV) (M : Mem) (S : Sh) : go r 125 109 [l0, l1, l2, l3] [s0] M S = go r 125 111 [l0, l1, l2, l3] [aI 19, s0] M S := go_nx rfl rfl
theorem g125_111 (r : Nat) (l0 l1 l2 l3 : Option AV) (x1 : Int) (a0 : Nat) (M : Mem) (S : Sh) (hk : 11 < r) (h : S.1 a0 = 6) : go r 125 111 [l0, l1, l2, l3] [aI x1, aR a0] M S = cont r 125 114 [l0, l1, l2, l3] [] 1 (res 122 [aR a0, aI x1] M S) := go_cr0 (m' := 122) (n := 2) (pc' := 114) (hr := 1) rfl rfl rfl h rfl rfl rfl rfl hk rfl
theorem g125_114 (r : Nat) (l0 l1 l2 l3 : Option AV) (x : Int) (M : Mem) (S : Sh) : go r 125 114 [l0, l1, l2, l3] [aI x] M S = if x ≠ 0 then go r 125 119 [l0, l1, l2, l3] [] M S else go r 125 117 [l0, l1, l2, l3] [] M S := go_br rfl rfl rfl rfl rfl
set_option maxRecDepth 20000 in
theorem g125_117 (r : Nat) (l0 l1 l2 l3 : Option AV) (M : Mem) (S : Sh) : go r 125 117 [l0, l1, l2, l3] [] M S = go r 125 118 [l0, l1, l2, l3] [aI 0] M S := go_nx rfl rfl
set_option maxRecDepth 20000 in
theorem g125_118 (r : Nat) (l0 l1 l2 l3 : Option AV) (x : Int) (M : Mem) (S : Sh) (h : x = 0 ∨ x = 1) : go r 125 118 [l0, l1, l2, l3] [aI x] M S = some (some (aI x), M, S) := go_rt rfl (bnd_t (Or.inr h))
set_option maxRecDepth 20000 in
theorem g125_119 (r : Nat) (l0 l1 l2 l3 : Option AV) (M : Mem) (S : Sh) : go r 125 119 [l0, l1, l2, l3] [] M S = go r 125 120 [l0, l1, l2, l3] [aI 0] M S := go_nx rfl rfl
set_option maxRecDepth 20000 in
theorem g125_120 (r : Nat) (l0 l1 l2 l3 : Option AV) (x : Int) (M : Mem) (S : Sh) : go r 125 120 [l0, l1, l2, l3] [aI x] M S = go r 125 121 [l0, l1, some (aI x), l3] [] M S := go_nx rfl rfl
set_option maxRecDepth 20000 in
theorem g125_121 (r : Nat) (l0 l1 l2 l3 : Option AV) (M : Mem) (S : Sh) : go r 125 121 [l0, l1, l2, l3] [] M S = go r 125 14 [l0, l1, l2, l3] [] M S := go_nx rfl rfl
set_option maxRecDepth 20000 in
theorem g125_124 (r : Nat) (l1 l2 l3 : Option AV) (a : Nat) (M : Mem) (S : Sh) : go r 125 124 [some (aR a), l1, l2, l3] [] M S = go r 125 125 [some (aR a), l1, l2, l3] [aR a] M S := go_nx rfl rfl
set_option maxRecDepth 20000 in
theorem g125_125 (r : Nat) (l0 l1 l2 l3 : Option AV) (a : Nat) (M : Mem) (S : Sh) (h : S.1 a = 6) : go r 125 125 [l0, l1, l2, l3] [aR a] M S = go r 125 128 [l0, l1, l2, l3] [aI (M a 28)] M S := go_bnd rfl h rfl
set_option maxRecDepth 20000 in
theorem g125_128 (r : Nat) (l0 l1 l2 l3 : Option AV) (s0 : AV) (M : Mem) (S : Sh) : go r 125 128 [l0, l1, l2, l3] [s0] M S = go r 125 130 [l0, l1, l2, l3] [aI 40, s0] M S := go_nx rfl rfl
set_option maxRecDepth 20000 in
theorem g125_130 (r : Nat) (l0 l1 l2 l3 : Option AV) (x y : Int) (M : Mem) (S : Sh) : go r 125 130 [l0, l1, l2, l3] [aI y, aI x] M S = if x ≠ y then go r 125 148 [l0, l1, l2, l3] [] M S else go r 125 133 [l0, l1, l2, l3] [] M S := go_br rfl rfl rfl rfl rfl
set_option maxRecDepth 20000 in
theorem g125_133 (r : Nat) (l1 l2 l3 : Option AV) (a : Nat) (M : Mem) (S : Sh) : go r 125 133 [some (aR a), l1, l2, l3] [] M S = go r 125 134 [some (aR a), l1, l2, l3] [aR a] M S := go_nx rfl rfl
set_option maxRecDepth 20000 in
theorem g125_134 (r : Nat) (l0 l1 l2 l3 : Option AV) (s0 : AV) (M : Mem) (S : Sh) : go r 125 134 [l0, l1, l2, l3] [s0] M S = go r 125 135 [l0, l1, l2, l3] [aI 0, s0] M S := go_nx rfl rfl
set_option maxRecDepth 20000 in
theorem g125_135 (r : Nat) (l0 l1 l2 l3 : Option AV) (x1 : Int) (a0 : Nat) (M : Mem) (S : Sh) (hk : 11 < r) (h : S.1 a0 = 6) : go r 125 135 [l0, l1, l2, l3] [aI x1, aR a0] M S = cont r 125 138 [l0, l1, l2, l3] [] 1 (res 122 [aR a0, aI x1] M S) := go_cr0 (m' := 122) (n := 2) (pc' := 138) (hr := 1) rfl rfl rfl h rfl rfl rfl rfl hk rfl
set_option maxRecDepth 20000 in
theorem g125_138 (r : Nat) (l0 l1 l2 l3 : Option AV) (x : Int) (M : Mem) (S : Sh) : go r 125 138 [l0, l1, l2, l3] [aI x] M S = if x ≠ 0 then go r 125 143 [l0, l1, l2, l3] [] M S else go r 125 141 [l0, l1, l2, l3] [] M S := go_br rfl rfl rfl rfl rfl
set_option maxRecDepth 20000 in
theorem g125_141 (r : Nat) (l0 l1 l2 l3 : Option AV) (M : Mem) (S : Sh) : go r 125 141 [l0, l1, l2, l3] [] M S = go r 125 142 [l0, l1, l2, l3] [aI 0] M S := go_nx rfl rfl
set_option maxRecDepth 20000 in
theorem g125_142 (r : Nat) (l0 l1 l2 l3 : Option AV) (x : Int) (M : Mem) (S : Sh) (h : x = 0 ∨ x = 1) : go r 125 142 [l0, l1, l2, l3] [aI x] M S = some (some (aI x), M, S) := go_rt rfl (bnd_t (Or.inr h))
set_option maxRecDepth 20000 in
theorem g125_143 (r : Nat) (l0 l1 l2 l3 : Option AV) (M : Mem) (S : Sh) : go r 125 143 [l0, l1, l2, l3] [] M S = go r 125 144 [l0, l1, l2, l3] [aI 1] M S := go_nx rfl rfl
set_option maxRecDepth 20000 in
theorem g125_144 (r : Nat) (l0 l1 l2 l3 : Option AV) (x : Int) (M : Mem) (S : Sh) : go r 125 144 [l0, l1, l2, l3] [aI x] M S = go r 125 145 [l0, l1, some (aI x), l3] [] M S := go_nx rfl rfl
set_option maxRecDepth 20000 in
theorem g125_145 (r : Nat) (l0 l1 l2 l3 : Option AV) (M : Mem) (S : Sh) : go r 125 145 [l0, l1, l2, l3] [] M S = go r 125 14 [l0, l1, l2, l3] [] M S := go_nx rfl rfl
set_option maxRecDepth 20000 in
theorem g125_148 (r : Nat) (l0 l1 l2 l3 : Option AV) (M : Mem) (S : Sh) : go r 125 148 [l0, l1, l2, l3] [] M S = go r 125 149 [l0, l1, l2, l3] [aI 0] M S := go_nx rfl rfl
set_option maxRecDepth 20000 in
theorem g125_149 (r : Nat) (l0 l1 l2 l3 : Option AV) (x : Int) (M : Mem) (S : Sh) (h : x = 0 ∨ x = 1) : go r 125 149 [l0, l1, l2, l3] [aI x] M S = some (some (aI x), M, S) := go_rt rfl (bnd_t (Or.inr h))
set_option maxRecDepth 20000 in
theorem g125_150 (r : Nat) (l1 l2 l3 : Option AV) (a : Nat) (M : Mem) (S : Sh) : go r 125 150 [some (aR a), l1, l2, l3] [] M S = go r 125 151 [some (aR a), l1, l2, l3] [aR a] M S := go_nx rfl rfl
set_option maxRecDepth 20000 in
theorem g125_151 (r : Nat) (l0 l1 l2 l3 : Option AV) (a : Nat) (M : Mem) (S : Sh) (h : S.1 a = 6) : go r 125 151 [l0, l1, l2, l3] [aR a] M S = go r 125 154 [l0, l1, l2, l3] [aI (M a 28)] M S := go_bnd rfl h rfl
set_option maxRecDepth 20000 in
theorem g125_154 (r : Nat) (l0 l1 l2 l3 : Option AV) (s0 : AV) (M : Mem) (S : Sh) : go r 125 154 [l0, l1, l2, l3] [s0] M S = go r 125 156 [l0, l1, l2, l3] [aI 59, s0] M S := go_nx rfl rfl
set_option maxRecDepth 20000 in
theorem g125_156 (r : Nat) (l0 l1 l2 l3 : Option AV) (x y : Int) (M : Mem) (S : Sh) : go r 125 156 [l0, l1, l2, l3] [aI y, aI x] M S = if x ≠ y then go r 125 177 [l0, l1, l2, l3] [] M S else go r 125 159 [l0, l1, l2, l3] [] M S := go_br rfl rfl rfl rfl rfl
set_option maxRecDepth 20000 in
theorem g125_159 (r : Nat) (l1 l2 l3 : Option AV) (a : Nat) (M : Mem) (S : Sh) : go r 125 159 [some (aR a), l1, l2, l3] [] M S = go r 125 160 [some (aR a), l1, l2, l3] [aR a] M S := go_nx rfl rfl
set_option maxRecDepth 20000 in
theorem g125_160 (r : Nat) (l0 l1 l2 l3 : Option AV) (s0 : AV) (M : Mem) (S : Sh) : go r 125 160 [l0, l1, l2, l3] [s0] M S = go r 125 161 [l0, l1, l2, l3] [aI 1, s0] M S := go_nx rfl rfl
set_option maxRecDepth 20000 in
theorem g125_161 (r : Nat) (l0 l1 l2 l3 : Option AV) (x1 : Int) (a0 : Nat) (M : Mem) (S : Sh) (hk : 11 < r) (h : S.1 a0 = 6) : go r 125 161 [l0, l1, l2, l3] [aI x1, aR a0] M S = cont r 125 164 [l0, l1, l2, l3] [] 0 (res 120 [aR a0, aI x1] M S) := go_cr0 (m' := 120) (n := 2) (pc' := 164) (hr := 0) rfl rfl rfl h rfl rfl rfl rfl hk rfl
set_option maxRecDepth 20000 in
theorem g125_164 (r : Nat) (l1 l2 l3 : Option AV) (a : Nat) (M : Mem) (S : Sh) : go r 125 164 [some (aR a), l1, l2, l3] [] M S = go r 125 165 [some (aR a), l1, l2, l3] [aR a] M S := go_nx rfl rfl
set_option maxRecDepth 20000 in
theorem g125_165 (r : Nat) (l0 l1 l2 l3 : Option AV) (a : Nat) (M : Mem) (S : Sh) (h : S.1 a = 6) : go r 125 165 [l0, l1, l2, l3] [aR a] M S = go r 125 168 [l0, l1, l2, l3] [aI (M a 32)] M S := go_bnd rfl h rfl
set_option maxRecDepth 20000 in
theorem g125_168 (r : Nat) (l0 l1 l2 l3 : Option AV) (x : Int) (M : Mem) (S : Sh) : go r 125 168 [l0, l1, l2, l3] [aI x] M S = if x ≠ 0 then go r 125 175 [l0, l1, l2, l3] [] M S else go r 125 171 [l0, l1, l2, l3] [] M S := go_br rfl rfl rfl rfl rfl
set_option maxRecDepth 20000 in
theorem g125_171 (r : Nat) (l0 l1 l2 l3 : Option AV) (M : Mem) (S : Sh) : go r 125 171 [l0, l1, l2, l3] [] M S = go r 125 172 [l0, l1, l2, l3] [aI 1] M S := go_nx rfl rfl
set_option maxRecDepth 20000 in
theorem g125_172 (r : Nat) (l0 l1 l2 l3 : Option AV) (s0 : AV) (M : Mem) (S : Sh) : go r 125 172 [l0, l1, l2, l3] [s0] M S = go r 125 176 [l0, l1, l2, l3] [s0] M S := go_nx rfl rfl
set_option maxRecDepth 20000 in
theorem g125_175 (r : Nat) (l0 l1 l2 l3 : Option AV) (M : Mem) (S : Sh) : go r 125 175 [l0, l1, l2, l3] [] M S = go r 125 176 [l0, l1, l2, l3] [aI 0] M S := go_nx rfl rfl
set_option maxRecDepth 20000 in
theorem g125_176 (r : Nat) (l0 l1 l2 l3 : Option AV) (x : Int) (M : Mem) (S : Sh) (h : x = 0 ∨ x = 1) : go r 125 176 [l0, l1, l2, l3] [aI x] M S = some (some (aI x), M, S) := go_rt rfl (bnd_t (Or.inr h))
set_option maxRecDepth 20000 in
theorem g125_177 (r : Nat) (l1 l2 l3 : Option AV) (a : Nat) (M : Mem) (S : Sh) : go r 125 177 [some (aR a), l1, l2, l3] [] M S = go r 125 178 [some (aR a), l1, l2, l3] [aR a] M S := go_nx rfl rfl
set_option maxRecDepth 20000 in
theorem g125_178 (r : Nat) (l0 l1 l2 l3 : Option AV) (a : Nat) (M : Mem) (S : Sh) (h : S.1 a = 6) : go r 125 178 [l0, l1, l2, l3] [aR a] M S = go r 125 181 [l0, l1, l2, l3] [aI (M a 28)] M S := go_bnd rfl h rfl
set_option maxRecDepth 20000 in
theorem g125_181 (r : Nat) (l0 l1 l2 l3 : Option AV) (s0 : AV) (M : Mem) (S : Sh) : go r 125 181 [l0, l1, l2, l3] [s0] M S = go r 125 183 [l0, l1, l2, l3] [aI 41, s0] M S := go_nx rfl rfl
set_option maxRecDepth 20000 in
theorem g125_183 (r : Nat) (l0 l1 l2 l3 : Option AV) (x y : Int) (M : Mem) (S : Sh) : go r 125 183 [l0, l1, l2, l3] [aI y, aI x] M S = if x ≠ y then go r 125 229 [l0, l1, l2, l3] [] M S else go r 125 186 [l0, l1, l2, l3] [] M S := go_br rfl rfl rfl rfl rfl
set_option maxRecDepth 20000 in
theorem g125_186 (r : Nat) (l1 l2 l3 : Option AV) (a : Nat) (M : Mem) (S : Sh) : go r 125 186 [some (aR a), l1, l2, l3] [] M S = go r 125 187 [some (aR a), l1, l2, l3] [aR a] M S := go_nx rfl rfl
set_option maxRecDepth 20000 in
theorem g125_187 (r : Nat) (l0 l1 l2 l3 : Option AV) (s0 : AV) (M : Mem) (S : Sh) : go r 125 187 [l0, l1, l2, l3] [s0] M S = go r 125 188 [l0, l1, l2, l3] [aI 1, s0] M S := go_nx rfl rfl
set_option maxRecDepth 20000 in
theorem g125_188 (r : Nat) (l0 l1 l2 l3 : Option AV) (x1 : Int) (a0 : Nat) (M : Mem) (S : Sh) (hk : 11 < r) (h : S.1 a0 = 6) : go r 125 188 [l0, l1, l2, l3] [aI x1, aR a0] M S = cont r 125 191 [l0, l1, l2, l3] [] 0 (res 120 [aR a0, aI x1] M S) := go_cr0 (m' := 120) (n := 2) (pc' := 191) (hr := 0) rfl rfl rfl h rfl rfl rfl rfl hk rfl
set_option maxRecDepth 20000 in
theorem g125_191 (r : Nat) (l1 l2 l3 : Option AV) (a : Nat) (M : Mem) (S : Sh) : go r 125 191 [some (aR a), l1, l2, l3] [] M S = go r 125 192 [some (aR a), l1, l2, l3] [aR a] M S := go_nx rfl rfl
set_option maxRecDepth 20000 in
theorem g125_192 (r : Nat) (l0 l1 l2 l3 : Option AV) (a : Nat) (M : Mem) (S : Sh) (h : S.1 a = 6) : go r 125 192 [l0, l1, l2, l3] [aR a] M S = go r 125 195 [l0, l1, l2, l3] [aI (M a 32)] M S := go_bnd rfl h rfl
set_option maxRecDepth 20000 in
theorem g125_195 (r : Nat) (l0 l1 l2 l3 : Option AV) (x : Int) (M : Mem) (S : Sh) : go r 125 195 [l0, l1, l2, l3] [aI x] M S = if x ≠ 0 then go r 125 200 [l0, l1, l2, l3] [] M S else go r 125 198 [l0, l1, l2, l3] [] M S := go_br rfl rfl rfl rfl rfl
set_option maxRecDepth 20000 in
theorem g125_198 (r : Nat) (l0 l1 l2 l3 : Option AV) (M : Mem) (S : Sh) : go r 125 198 [l0, l1, l2, l3] [] M S = go r 125 199 [l0, l1, l2, l3] [aI 0] M S := go_nx rfl rfl
set_option maxRecDepth 20000 in
theorem g125_199 (r : Nat) (l0 l1 l2 l3 : Option AV) (x : Int) (M : Mem) (S : Sh) (h : x = 0 ∨ x = 1) : go r 125 199 [l0, l1, l2, l3] [aI x] M S = some (some (aI x), M, S) := go_rt rfl (bnd_t (Or.inr h))
set_option maxRecDepth 20000 in
theorem g125_200 (r : Nat) (l1 l2 l3 : Option AV) (a : Nat) (M : Mem) (S : Sh) : go r 125 200 [some (aR a), l1, l2, l3] [] M S = go r 125 201 [some (aR a), l1, l2, l3] [aR a] M S := go_nx rfl rfl
set_option maxRecDepth 20000 in
theorem g125_201 (r : Nat) (l0 l1 l2 l3 : Option AV) (a : Nat) (M : Mem) (S : Sh) : go r 125 201 [l0, l1, l2, l3] [aR a] M S = go r 125 202 [l0, l1, l2, l3] [aR a, aR a] M S := go_nx rfl rfl
set_option maxRecDepth 20000 in
theorem g125_202 (r : Nat) (l0 l1 l2 l3 : Option AV) (s0 : AV) (a : Nat) (M : Mem) (S : Sh) (h : S.1 a = 6) : go r 125 202 [l0, l1, l2, l3] [aR a, s0] M S = go r 125 205 [l0, l1, l2, l3] [aI (M a 32), s0] M S := go_bnd rfl h rfl
set_option maxRecDepth 20000 in
theorem g125_205 (r : Nat) (l0 l1 l2 l3 : Option AV) (s0 s1 : AV) (M : Mem) (S : Sh) : go r 125 205 [l0, l1, l2, l3] [s0, s1] M S = go r 125 206 [l0, l1, l2, l3] [aI 1, s0, s1] M S := go_nx rfl rfl
set_option maxRecDepth 20000 in
theorem g125_206 (r : Nat) (l0 l1 l2 l3 : Option AV) (s0 : AV) (x y : Int) (M : Mem) (S : Sh) : go r 125 206 [l0, l1, l2, l3] [aI y, aI x, s0] M S = go r 125 207 [l0, l1, l2, l3] [aI (w32 (x - y)), s0] M S := go_nx rfl rfl
set_option maxRecDepth 20000 in
theorem g125_207 (r : Nat) (l0 l1 l2 l3 : Option AV) (x : Int) (a : Nat) (M : Mem) (S : Sh) (h : S.1 a = 6) : go r 125 207 [l0, l1, l2, l3] [aI x, aR a] M S = go r 125 210 [l0, l1, l2, l3] [] (mset M a 32 x) S := go_bnd rfl ⟨h, fun z => absurd z (by decide)⟩ rfl
set_option maxRecDepth 20000 in
theorem g125_210 (r : Nat) (l1 l2 l3 : Option AV) (a : Nat) (M : Mem) (S : Sh) : go r 125 210 [some (aR a), l1, l2, l3] [] M S = go r 125 211 [some (aR a), l1, l2, l3] [aR a] M S := go_nx rfl rfl
set_option maxRecDepth 20000 in
theorem g125_211 (r : Nat) (l0 l1 l2 l3 : Option AV) (a : Nat) (M : Mem) (S : Sh) : go r 125 211 [l0, l1, l2, l3] [aR a] M S = go r 125 212 [l0, l1, l2, l3] [aR a, aR a] M S := go_nx rfl rfl
set_option maxRecDepth 20000 in
theorem g125_212 (r : Nat) (l0 l1 l2 l3 : Option AV) (s0 : AV) (a : Nat) (M : Mem) (S : Sh) (h : S.1 a = 6) : go r 125 212 [l0, l1, l2, l3] [aR a, s0] M S = go r 125 215 [l0, l1, l2, l3] [aI (M a 33), s0] M S := go_bnd rfl h rfl
set_option maxRecDepth 20000 in
theorem g125_215 (r : Nat) (l0 l1 l2 l3 : Option AV) (s0 s1 : AV) (M : Mem) (S : Sh) : go r 125 215 [l0, l1, l2, l3] [s0, s1] M S = go r 125 216 [l0, l1, l2, l3] [aI 1, s0, s1] M S := go_nx rfl rfl
set_option maxRecDepth 20000 in
theorem g125_216 (r : Nat) (l0 l1 l2 l3 : Option AV) (s0 : AV) (x y : Int) (M : Mem) (S : Sh) : go r 125 216 [l0, l1, l2, l3] [aI y, aI x, s0] M S = go r 125 217 [l0, l1, l2, l3] [aI (w32 (x - y)), s0] M S := go_nx rfl rfl
set_option maxRecDepth 20000 in
theorem g125_217 (r : Nat) (l0 l1 l2 l3 : Option AV) (x : Int) (a : Nat) (M : Mem) (S : Sh) (h : S.1 a = 6) : go r 125 217 [l0, l1, l2, l3] [aI x, aR a] M S = go r 125 220 [l0, l1, l2, l3] [] (mset M a 33 x) S := go_bnd rfl ⟨h, fun z => absurd z (by decide)⟩ rfl
set_option maxRecDepth 20000 in
theorem g125_220 (r : Nat) (l1 l2 l3 : Option AV) (a : Nat) (M : Mem) (S : Sh) : go r 125 220 [some (aR a), l1, l2, l3] [] M S = go r 125 221 [some (aR a), l1, l2, l3] [aR a] M S := go_nx rfl rfl
set_option maxRecDepth 20000 in
theorem g125_221 (r : Nat) (l0 l1 l2 l3 : Option AV) (s0 : AV) (M : Mem) (S : Sh) : go r 125 221 [l0, l1, l2, l3] [s0] M S = go r 125 223 [l0, l1, l2, l3] [aI 7, s0] M S := go_nx rfl rfl
set_option maxRecDepth 20000 in
theorem g125_223 (r : Nat) (l0 l1 l2 l3 : Option AV) (x1 : Int) (a0 : Nat) (M : Mem) (S : Sh) (hk : 11 < r) (h : S.1 a0 = 6) : go r 125 223 [l0, l1, l2, l3] [aI x1, aR a0] M S = cont r 125 226 [l0, l1, l2, l3] [] 0 (res 120 [aR a0, aI x1] M S) := go_cr0 (m' := 120) (n := 2) (pc' := 226) (hr := 0) rfl rfl rfl h rfl rfl rfl rfl hk rfl
set_option maxRecDepth 20000 in
theorem g125_226 (r : Nat) (l0 l1 l2 l3 : Option AV) (M : Mem) (S : Sh) : go r 125 226 [l0, l1, l2, l3] [] M S = go r 125 14 [l0, l1, l2, l3] [] M S := go_nx rfl rfl
set_option maxRecDepth 20000 in
theorem g125_229 (r : Nat) (l1 l2 l3 : Option AV) (a : Nat) (M : Mem) (S : Sh) : go r 125 229 [some (aR a), l1, l2, l3] [] M S = go r 125 230 [some (aR a), l1, l2, l3] [aR a] M S := go_nx rfl rfl
set_option maxRecDepth 20000 in
theorem g125_230 (r : Nat) (l0 l1 l2 l3 : Option AV) (a0 : Nat) (M : Mem) (S : Sh) (hk : 10 < r) (h : S.1 a0 = 6) : go r 125 230 [l0, l1, l2, l3] [aR a0] M S = cont r 125 233 [l0, l1, l2, l3] [] 1 (res 124 [aR a0] M S) := go_cr0 (m' := 124) (n := 1) (pc' := 233) (hr := 1) rfl rfl rfl h rfl rfl rfl rfl hk rfl
set_option maxRecDepth 20000 in
theorem g125_233 (r : Nat) (l0 l1 l2 l3 : Option AV) (x : Int) (M : Mem) (S : Sh) : go r 125 233 [l0, l1, l2, l3] [aI x] M S = go r 125 234 [l0, l1, l2, some (aI x)] [] M S := go_nx rfl rfl
set_option maxRecDepth 20000 in
theorem g125_234 (r : Nat) (l0 l1 l2 : Option AV) (x : Int) (M : Mem) (S : Sh) : go r 125 234 [l0, l1, l2, some (aI x)] [] M S = go r 125 235 [l0, l1, l2, some (aI x)] [aI x] M S := go_nx rfl rfl
set_option maxRecDepth 20000 in
theorem g125_235 (r : Nat) (l0 l1 l2 l3 : Option AV) (s0 : AV) (M : Mem) (S : Sh) : go r 125 235 [l0, l1, l2, l3] [s0] M S = go r 125 236 [l0, l1, l2, l3] [aI (-1), s0] M S := go_nx rfl rfl
set_option maxRecDepth 20000 in
theorem g125_236 (r : Nat) (l0 l1 l2 l3 : Option AV) (x y : Int) (M : Mem) (S : Sh) : go r 125 236 [l0, l1, l2, l3] [aI y, aI x] M S = if x = y then go r 125 247 [l0, l1, l2, l3] [] M S else go r 125 239 [l0, l1, l2, l3] [] M S := go_br rfl rfl rfl rfl rfl
set_option maxRecDepth 20000 in
theorem g125_239 (r : Nat) (l1 l2 l3 : Option AV) (a : Nat) (M : Mem) (S : Sh) : go r 125 239 [some (aR a), l1, l2, l3] [] M S = go r 125 240 [some (aR a), l1, l2, l3] [aR a] M S := go_nx rfl rfl
set_option maxRecDepth 20000 in
theorem g125_240 (r : Nat) (l0 l1 l2 : Option AV) (s0 : AV) (x : Int) (M : Mem) (S : Sh) : go r 125 240 [l0, l1, l2, some (aI x)] [s0] M S = go r 125 241 [l0, l1, l2, some (aI x)] [aI x, s0] M S := go_nx rfl rfl
set_option maxRecDepth 20000 in
theorem g125_241 (r : Nat) (l0 l1 l2 l3 : Option AV) (x1 : Int) (a0 : Nat) (M : Mem) (S : Sh) (hk : 12 < r) (h : S.1 a0 = 6) : go r 125 241 [l0, l1, l2, l3] [aI x1, aR a0] M S = cont r 125 244 [l0, l1, l2, l3] [] 1 (res 123 [aR a0, aI x1] M S) := go_cr0 (m' := 123) (n := 2) (pc' := 244) (hr := 1) rfl rfl rfl h rfl rfl rfl rfl hk rfl
set_option maxRecDepth 20000 in
theorem g125_244 (r : Nat) (l0 l1 l2 l3 : Option AV) (x : Int) (M : Mem) (S : Sh) : go r 125 244 [l0, l1, l2, l3] [aI x] M S = if x ≠ 0 then go r 125 249 [l0, l1, l2, l3] [] M S else go r 125 247 [l0, l1, l2, l3] [] M S := go_br rfl rfl rfl rfl rfl
set_option maxRecDepth 20000 in
theorem g125_247 (r : Nat) (l0 l1 l2 l3 : Option AV) (M : Mem) (S : Sh) : go r 125 247 [l0, l1, l2, l3] [] M S = go r 125 248 [l0, l1, l2, l3] [aI 0] M S := go_nx rfl rfl
set_option maxRecDepth 20000 in
theorem g125_248 (r : Nat) (l0 l1 l2 l3 : Option AV) (x : Int) (M : Mem) (S : Sh) (h : x = 0 ∨ x = 1) : go r 125 248 [l0, l1, l2, l3] [aI x] M S = some (some (aI x), M, S) := go_rt rfl (bnd_t (Or.inr h))
set_option maxRecDepth 20000 in
theorem g125_249 (r : Nat) (l0 l1 l2 l3 : Option AV) (M : Mem) (S : Sh) : go r 125 249 [l0, l1, l2, l3] [] M S = go r 125 250 [l0, l1, l2, l3] [aI 1] M S := go_nx rfl rfl
set_option maxRecDepth 20000 in
theorem g125_250 (r : Nat) (l0 l1 l2 l3 : Option AV) (x : Int) (M : Mem) (S : Sh) : go r 125 250 [l0, l1, l2, l3] [aI x] M S = go r 125 251 [l0, some (aI x), l2, l3] [] M S := go_nx rfl rfl
set_option maxRecDepth 20000 in
theorem g125_251 (r : Nat) (l0 l1 l2 : Option AV) (x : Int) (M : Mem) (S : Sh) : go r 125 251 [l0, l1, l2, some (aI x)] [] M S = go r 125 252 [l0, l1, l2, some (aI x)] [aI x] M S := go_nx rfl rfl
set_option maxRecDepth 20000 in
theorem g125_252 (r : Nat) (l0 l1 l2 l3 : Option AV) (s0 : AV) (M : Mem) (S : Sh) : go r 125 252 [l0, l1, l2, l3] [s0] M S = go r 125 254 [l0, l1, l2, l3] [aI 12, s0] M S := go_nx rfl rfl
set_option maxRecDepth 20000 in
theorem g125_254 (r : Nat) (l0 l1 l2 l3 : Option AV) (x y : Int) (M : Mem) (S : Sh) : go r 125 254 [l0, l1, l2, l3] [aI y, aI x] M S = if x > y then go r 125 261 [l0, l1, l2, l3] [] M S else go r 125 257 [l0, l1, l2, l3] [] M S := go_br rfl rfl rfl rfl rfl
set_option maxRecDepth 20000 in
theorem g125_257 (r : Nat) (l0 l1 l2 l3 : Option AV) (M : Mem) (S : Sh) : go r 125 257 [l0, l1, l2, l3] [] M S = go r 125 258 [l0, l1, l2, l3] [aI 1] M S := go_nx rfl rfl
set_option maxRecDepth 20000 in
theorem g125_258 (r : Nat) (l0 l1 l2 l3 : Option AV) (s0 : AV) (M : Mem) (S : Sh) : go r 125 258 [l0, l1, l2, l3] [s0] M S = go r 125 262 [l0, l1, l2, l3] [s0] M S := go_nx rfl rfl
set_option maxRecDepth 20000 in
theorem g125_261 (r : Nat) (l0 l1 l2 l3 : Option AV) (M : Mem) (S : Sh) : go r 125 261 [l0, l1, l2, l3] [] M S = go r 125 262 [l0, l1, l2, l3] [aI 0] M S := go_nx rfl rfl
set_option maxRecDepth 20000 in
theorem g125_262 (r : Nat) (l0 l1 l2 l3 : Option AV) (x : Int) (M : Mem) (S : Sh) : go r 125 262 [l0, l1, l2, l3] [aI x] M S = go r 125 263 [l0, l1, some (aI x), l3] [] M S := go_nx rfl rfl
set_option maxRecDepth 20000 in
theorem g125_263 (r : Nat) (l0 l1 l2 l3 : Option AV) (M : Mem) (S : Sh) : go r 125 263 [l0, l1, l2, l3] [] M S = go r 125 14 [l0, l1, l2, l3] [] M S := go_nx rfl rfl
/-- StripsFromAboveModel.text()I -/
theorem g126 (a0 : Nat) (M : Mem) (S : Sh) : res 126 [aR a0] M S = go 14 126 0 [some (aR a0), none, none] [] M S := res_e0 rfl _ M S
theorem g126_0 (r : Nat) (l1 l2 : Option AV) (a : Nat) (M : Mem) (S : Sh) : go r 126 0 [some (aR a), l1, l2] [] M S = go r 126 1 [some (aR a), l1, l2] [aR a] M S := go_nx rfl rfl
theorem g126_1 (r : Nat) (l0 l1 l2 : Option AV) (a : Nat) (M : Mem) (S : Sh) (h : S.1 a = 6) : go r 126 1 [l0, l1, l2] [aR a] M S = go r 126 4 [l0, l1, l2] [aI (M a 16)] M S := go_bnd rfl h rfl
theorem g126_4 (r : Nat) (l0 l1 l2 : Option AV) (s0 : AV) (M : Mem) (S : Sh) : go r 126 4 [l0, l1, l2] [s0] M S = go r 126 6 [l0, l1, l2] [aI 6, s0] M S := go_nx rfl rfl
theorem g126_6 (r : Nat) (l0 l1 l2 : Option AV) (x y : Int) (M : Mem) (S : Sh) : go r 126 6 [l0, l1, l2] [aI y, aI x] M S = if x ≠ y then go r 126 12 [l0, l1, l2] [] M S else go r 126 9 [l0, l1, l2] [] M S := go_br rfl rfl rfl rfl rfl
theorem g126_9 (r : Nat) (l0 l1 l2 : Option AV) (M : Mem) (S : Sh) : go r 126 9 [l0, l1, l2] [] M S = go r 126 11 [l0, l1, l2] [aI (-4)] M S := go_nx rfl rfl
theorem g126_11 (r : Nat) (l0 l1 l2 : Option AV) (x : Int) (M : Mem) (S : Sh) : go r 126 11 [l0, l1, l2] [aI x] M S = some (some (aI x), M, S) := go_rt rfl (bnd_t (Or.inl rfl))
theorem g126_12 (r : Nat) (l1 l2 : Option AV) (a : Nat) (M : Mem) (S : Sh) : go r 126 12 [some (aR a), l1, l2] [] M S = go r 126 13 [some (aR a), l1, l2] [aR a] M S := go_nx rfl rfl
theorem g126_13 (r : Nat) (l0 l1 l2 : Option AV) (s0 : AV) (M : Mem) (S : Sh) : go r 126 13 [l0, l1, l2] [s0] M S = go r 126 14 [l0, l1, l2] [aI 0, s0] M S := go_nx rfl rfl
theorem g126_14 (r : Nat) (l0 l1 l2 : Option AV) (x : Int) (a : Nat) (M : Mem) (S : Sh) (h : S.1 a = 6) : go r 126 14 [l0, l1, l2] [aI x, aR a] M S = go r 126 17 [l0, l1, l2] [] (mset M a 26 x) S := go_bnd rfl ⟨h, fun z => absurd z (by decide)⟩ rfl
theorem g126_17 (r : Nat) (l1 l2 : Option AV) (a : Nat) (M : Mem) (S : Sh) : go r 126 17 [some (aR a), l1, l2] [] M S = go r 126 18 [some (aR a), l1, l2] [aR a] M S := go_nx rfl rfl
theorem g126_18 (r : Nat) (l0 l1 l2 : Option AV) (s0 : AV) (M : Mem) (S : Sh) : go r 126 18 [l0, l1, l2] [s0] M S = go r 126 19 [l0, l1, l2] [aI 0, s0] M S := go_nx rfl rfl
theorem g126_19 (r : Nat) (l0 l1 l2 : Option AV) (x : Int) (a : Nat) (M : Mem) (S : Sh) (h : S.1 a = 6) : go r 126 19 [l0, l1, l2] [aI x, aR a] M S = go r 126 22 [l0, l1, l2] [] (mset M a 34 x) S := go_bnd rfl ⟨h, fun z => absurd z (by decide)⟩ rfl
theorem g126_22 (r : Nat) (l0 l1 l2 : Option AV) (M : Mem) (S : Sh) : go r 126 22 [l0, l1, l2] [] M S = go r 126 23 [l0, l1, l2] [aI 1] M S := go_nx rfl rfl
theorem g126_23 (r : Nat) (l0 l1 l2 : Option AV) (x : Int) (M : Mem) (S : Sh) : go r 126 23 [l0, l1, l2] [aI x] M S = go r 126 24 [l0, some (aI x), l2] [] M S := go_nx rfl rfl
theorem g126_24 (r : Nat) (l0 l1 l2 : Option AV) (M : Mem) (S : Sh) : go r 126 24 [l0, l1, l2] [] M S = go r 126 25 [l0, l1, l2] [aI 0] M S := go_nx rfl rfl
theorem g126_25 (r : Nat) (l0 l1 l2 : Option AV) (x : Int) (M : Mem) (S : Sh) : go r 126 25 [l0, l1, l2] [aI x] M S = go r 126 26 [l0, l1, some (aI x)] [] M S := go_nx rfl rfl
theorem g126_26 (r : Nat) (l0 l1 : Option AV) (x : Int) (M : Mem) (S : Sh) : go r 126 26 [l0, l1, some (aI x)] [] M S = go r 126 27 [l0, l1, some (aI x)] [aI x] M S := go_nx rfl rfl
theorem g126_27 (r : Nat) (l0 l1 l2 : Option AV) (s0 : AV) (M : Mem) (S : Sh) : go r 126 27 [l0, l1, l2] [s0] M S = go r 126 28 [l0, l1, l2] [aI 3, s0] M S := go_nx rfl rfl
theorem g126_28 (r : Nat) (l0 l1 l2 : Option AV) (x y : Int) (M : Mem) (S : Sh) : go r 126 28 [l0, l1, l2] [aI y, aI x] M S = if x ≥ y then go r 126 101 [l0, l1, l2] [] M S else go r 126 31 [l0, l1, l2] [] M S := go_br rfl rfl rfl rfl rfl
theorem g126_31 (r : Nat) (l0 l2 : Option AV) (x : Int) (M : Mem) (S : Sh) : go r 126 31 [l0, some (aI x), l2] [] M S = go r 126 32 [l0, some (aI x), l2] [aI x] M S := go_nx rfl rfl
theorem g126_32 (r : Nat) (l0 l1 l2 : Option AV) (x : Int) (M : Mem) (S : Sh) : go r 126 32 [l0, l1, l2] [aI x] M S = if x = 0 then go r 126 101 [l0, l1, l2] [] M S else go r 126 35 [l0, l1, l2] [] M S := go_br rfl rfl rfl rfl rfl
theorem g126_35 (r : Nat) (l1 l2 : Option AV) (a : Nat) (M : Mem) (S : Sh) : go r 126 35 [some (aR a), l1, l2] [] M S = go r 126 36 [some (aR a), l1, l2] [aR a] M S := go_nx rfl rfl
theorem g126_36 (r : Nat) (l0 l1 l2 : Option AV) (a0 : Nat) (M : Mem) (S : Sh) (hk : 11 < r) (h : S.1 a0 = 6) : go r 126 36 [l0, l1, l2] [aR a0] M S = cont r 126 39 [l0, l1, l2] [] 0 (res 117 [aR a0] M S) := go_cr0 (m' := 117) (n := 1) (pc' := 39) (hr := 0) rfl rfl rfl h rfl rfl rfl rfl hk rfl
theorem g126_39 (r : Nat) (l1 l2 : Option AV) (a : Nat) (M : Mem) (S : Sh) : go r 126 39 [some (aR a), l1, l2] [] M S = go r 126 40 [some (aR a), l1, l2] [aR a] M S := go_nx rfl rfl
theorem g126_40 (r : Nat) (l0 l1 l2 : Option AV) (a : Nat) (M : Mem) (S : Sh) (h : S.1 a = 6) : go r 126 40 [l0, l1, l2] [aR a] M S = go r 126 43 [l0, l1, l2] [aI (M a 28)] M S := go_bnd rfl h rfl
theorem g126_43 (r : Nat) (l0 l1 l2 : Option AV) (s0 : AV) (M : Mem) (S : Sh) : go r 126 43 [l0, l1, l2] [s0] M S = go r 126 44 [l0, l1, l2] [aI 3, s0] M S := go_nx rfl rfl
theorem g126_44 (r : Nat) (l0 l1 l2 : Option AV) (x y : Int) (M : Mem) (S : Sh) : go r 126 44 [l0, l1, l2] [aI y, aI x] M S = if x ≠ y then go r 126 59 [l0, l1, l2] [] M S else go r 126 47 [l0, l1, l2] [] M S := go_br rfl rfl rfl rfl rfl
theorem g126_47 (r : Nat) (l1 l2 : Option AV) (a : Nat) (M : Mem) (S : Sh) : go r 126 47 [some (aR a), l1, l2] [] M S = go r 126 48 [some (aR a), l1, l2] [aR a] M S := go_nx rfl rfl
theorem g126_48 (r : Nat) (l0 l1 l2 : Option AV) (a : Nat) (M : Mem) (S : Sh) (h : S.1 a = 6) : go r 126 48 [l0, l1, l2] [aR a] M S = go r 126 51 [l0, l1, l2] [aI (M a 29)] M S := go_bnd rfl h rfl
theorem g126_51 (r : Nat) (l0 l1 : Option AV) (s0 : AV) (x : Int) (M : Mem) (S : Sh) : go r 126 51 [l0, l1, some (aI x)] [s0] M S = go r 126 52 [l0, l1, some (aI x)] [aI x, s0] M S := go_nx rfl rfl
theorem g126_52 (r : Nat) (l0 l1 l2 : Option AV) (x y : Int) (M : Mem) (S : Sh) : go r 126 52 [l0, l1, l2] [aI y, aI x] M S = if x ≠ y then go r 126 59 [l0, l1, l2] [] M S else go r 126 55 [l0, l1, l2] [] M S := go_br rfl rfl rfl rfl rfl
theorem g126_55 (r : Nat) (l0 l1 l2 : Option AV) (M : Mem) (S : Sh) : go r 126 55 [l0, l1, l2] [] M S = go r 126 56 [l0, l1, l2] [aI 1] M S := go_nx rfl rfl
theorem g126_56 (r : Nat) (l0 l1 l2 : Option AV) (s0 : AV) (M : Mem) (S : Sh) : go r 126 56 [l0, l1, l2] [s0] M S = go r 126 60 [l0, l1, l2] [s0] M S := go_nx rfl rfl
theorem g126_59 (r : Nat) (l0 l1 l2 : Option AV) (M : Mem) (S : Sh) : go r 126 59 [l0, l1, l2] [] M S = go r 126 60 [l0, l1, l2] [aI 0] M S := go_nx rfl rfl
theorem g126_60 (r : Nat) (l0 l1 l2 : Option AV) (x : Int) (M : Mem) (S : Sh) : go r 126 60 [l0, l1, l2] [aI x] M S = go r 126 61 [l0, some (aI x), l2] [] M S := go_nx rfl rfl
theorem g126_61 (r : Nat) (l1 l2 : Option AV) (a : Nat) (M : Mem) (S : Sh) : go r 126 61 [some (aR a), l1, l2] [] M S = go r 126 62 [some (aR a), l1, l2] [aR a] M S := go_nx rfl rfl
theorem g126_62 (r : Nat) (l0 l1 l2 : Option AV) (a : Nat) (M : Mem) (S : Sh) (h : S.1 a = 6) : go r 126 62 [l0, l1, l2] [aR a] M S = go r 126 65 [l0, l1, l2] [aO (S.2.2.1 a 15)] M S := go_bnd rfl h rfl
theorem g126_65 (r : Nat) (l0 l1 l2 : Option AV) (s0 : AV) (M : Mem) (S : Sh) : go r 126 65 [l0, l1, l2] [s0] M S = go r 126 66 [l0, l1, l2] [aI 4, s0] M S := go_nx rfl rfl
theorem g126_66 (r : Nat) (l1 l2 : Option AV) (s0 s1 : AV) (a : Nat) (M : Mem) (S : Sh) : go r 126 66 [some (aR a), l1, l2] [s0, s1] M S = go r 126 67 [some (aR a), l1, l2] [aR a, s0, s1] M S := go_nx rfl rfl
theorem g126_67 (r : Nat) (l0 l1 l2 : Option AV) (s0 s1 : AV) (a : Nat) (M : Mem) (S : Sh) (h : S.1 a = 6) : go r 126 67 [l0, l1, l2] [aR a, s0, s1] M S = go r 126 70 [l0, l1, l2] [aI (M a 16), s0, s1] M S := go_bnd rfl h rfl
theorem g126_70 (r : Nat) (l0 l1 l2 : Option AV) (s0 : AV) (x y : Int) (M : Mem) (S : Sh) : go r 126 70 [l0, l1, l2] [aI y, aI x, s0] M S = go r 126 71 [l0, l1, l2] [aI (w32 (x * y)), s0] M S := go_nx rfl rfl
theorem g126_71 (r : Nat) (l0 l1 : Option AV) (s0 s1 : AV) (x : Int) (M : Mem) (S : Sh) : go r 126 71 [l0, l1, some (aI x)] [s0, s1] M S = go r 126 72 [l0, l1, some (aI x)] [aI x, s0, s1] M S := go_nx rfl rfl
theorem g126_72 (r : Nat) (l0 l1 l2 : Option AV) (s0 : AV) (x y : Int) (M : Mem) (S : Sh) : go r 126 72 [l0, l1, l2] [aI y, aI x, s0] M S = go r 126 73 [l0, l1, l2] [aI (w32 (x + y)), s0] M S := go_nx rfl rfl
theorem g126_73 (r : Nat) (l1 l2 : Option AV) (s0 s1 : AV) (a : Nat) (M : Mem) (S : Sh) : go r 126 73 [some (aR a), l1, l2] [s0, s1] M S = go r 126 74 [some (aR a), l1, l2] [aR a, s0, s1] M S := go_nx rfl rfl
theorem g126_74 (r : Nat) (l0 l1 l2 : Option AV) (s0 s1 : AV) (a : Nat) (M : Mem) (S : Sh) (h : S.1 a = 6) : go r 126 74 [l0, l1, l2] [aR a, s0, s1] M S = go r 126 77 [l0, l1, l2] [aI (M a 34), s0, s1] M S := go_bnd rfl h rfl
theorem g126_77 (r : Nat) (l0 l1 l2 : Option AV) (x y : Int) (a : Nat) (M : Mem) (S : Sh) (h : S.1 a = 7) (h6 : 6 ≤ a) (h0 : 0 ≤ x) (h1 : x < S.2.1 a) : go r 126 77 [l0, l1, l2] [aI y, aI x, aR a] M S = go r 126 78 [l0, l1, l2] [] (mset M a x.toNat y) S := go_bnd rfl ⟨h, h6, h0, h1⟩ rfl
theorem g126_78 (r : Nat) (l0 l2 : Option AV) (x : Int) (M : Mem) (S : Sh) : go r 126 78 [l0, some (aI x), l2] [] M S = go r 126 79 [l0, some (aI x), l2] [aI x] M S := go_nx rfl rfl
theorem g126_79 (r : Nat) (l0 l1 l2 : Option AV) (x : Int) (M : Mem) (S : Sh) : go r 126 79 [l0, l1, l2] [aI x] M S = if x = 0 then go r 126 93 [l0, l1, l2] [] M S else go r 126 82 [l0, l1, l2] [] M S := go_br rfl rfl rfl rfl rfl
theorem g126_82 (r : Nat) (l1 l2 : Option AV) (a : Nat) (M : Mem) (S : Sh) : go r 126 82 [some (aR a), l1, l2] [] M S = go r 126 83 [some (aR a), l1, l2] [aR a] M S := go_nx rfl rfl
theorem g126_83 (r : Nat) (l0 l1 l2 : Option AV) (a0 : Nat) (M : Mem) (S : Sh) (hk : 13 < r) (h : S.1 a0 = 6) : go r 126 83 [l0, l1, l2] [aR a0] M S = cont r 126 86 [l0, l1, l2] [] 1 (res 125 [aR a0] M S) := go_cr0 (m' := 125) (n := 1) (pc' := 86) (hr := 1) rfl rfl rfl h rfl rfl rfl rfl hk rfl
theorem g126_86 (r : Nat) (l0 l1 l2 : Option AV) (x : Int) (M : Mem) (S : Sh) : go r 126 86 [l0, l1, l2] [aI x] M S = if x = 0 then go r 126 93 [l0, l1, l2] [] M S else go r 126 89 [l0, l1, l2] [] M S := go_br rfl rfl rfl rfl rfl
theorem g126_89 (r : Nat) (l0 l1 l2 : Option AV) (M : Mem) (S : Sh) : go r 126 89 [l0, l1, l2] [] M S = go r 126 90 [l0, l1, l2] [aI 1] M S := go_nx rfl rfl
theorem g126_90 (r : Nat) (l0 l1 l2 : Option AV) (s0 : AV) (M : Mem) (S : Sh) : go r 126 90 [l0, l1, l2] [s0] M S = go r 126 94 [l0, l1, l2] [s0] M S := go_nx rfl rfl
theorem g126_93 (r : Nat) (l0 l1 l2 : Option AV) (M : Mem) (S : Sh) : go r 126 93 [l0, l1, l2] [] M S = go r 126 94 [l0, l1, l2] [aI 0] M S := go_nx rfl rfl
theorem g126_94 (r : Nat) (l0 l1 l2 : Option AV) (x : Int) (M : Mem) (S : Sh) : go r 126 94 [l0, l1, l2] [aI x] M S = go r 126 95 [l0, some (aI x), l2] [] M S := go_nx rfl rfl
theorem g126_95 (r : Nat) (l0 l1 : Option AV) (x : Int) (M : Mem) (S : Sh) : go r 126 95 [l0, l1, some (aI x)] [] M S = go r 126 98 [l0, l1, some (aI (w32 (x + 1)))] [] M S := go_nx rfl rfl
theorem g126_98 (r : Nat) (l0 l1 l2 : Option AV) (M : Mem) (S : Sh) : go r 126 98 [l0, l1, l2] [] M S = go r 126 26 [l0, l1, l2] [] M S := go_nx rfl rfl
theorem g126_101 (r : Nat) (l0 l2 : Option AV) (x : Int) (M : Mem) (S : Sh) : go r 126 101 [l0, some (aI x), l2] [] M S = go r 126 102 [l0, some (aI x), l2] [aI x] M S := go_nx rfl rfl
theorem g126_102 (r : Nat) (l0 l1 l2 : Option AV) (x : Int) (M : Mem) (S : Sh) : go r 126 102 [l0, l1, l2] [aI x] M S = if x = 0 then go r 126 122 [l0, l1, l2] [] M S else go r 126 105 [l0, l1, l2] [] M S := go_br rfl rfl rfl rfl rfl
theorem g126_105 (r : Nat) (l1 l2 : Option AV) (a : Nat) (M : Mem) (S : Sh) : go r 126 105 [some (aR a), l1, l2] [] M S = go r 126 106 [some (aR a), l1, l2] [aR a] M S := go_nx rfl rfl
theorem g126_106 (r : Nat) (l0 l1 l2 : Option AV) (a0 : Nat) (M : Mem) (S : Sh) (hk : 11 < r) (h : S.1 a0 = 6) : go r 126 106 [l0, l1, l2] [aR a0] M S = cont r 126 109 [l0, l1, l2] [] 0 (res 117 [aR a0] M S) := go_cr0 (m' := 117) (n := 1) (pc' := 109) (hr := 0) rfl rfl rfl h rfl rfl rfl rfl hk rfl
set_option maxRecDepth 20000 in
theorem g126_109 (r : Nat) (l1 l2 : Option AV) (a : Nat) (M : Mem) (S : Sh) : go r 126 109 [some (aR a), l1, l2] [] M S = go r 126 110 [some (aR a), l1, l2] [aR a] M S := go_nx rfl rfl
set_option maxRecDepth 20000 in
theorem g126_110 (r : Nat) (l0 l1 l2 : Option AV) (a : Nat) (M : Mem) (S : Sh) (h : S.1 a = 6) : go r 126 110 [l0, l1, l2] [aR a] M S = go r 126 113 [l0, l1, l2] [aI (M a 28)] M S := go_bnd rfl h rfl
set_option maxRecDepth 20000 in
theorem g126_113 (r : Nat) (l0 l1 l2 : Option AV) (x : Int) (M : Mem) (S : Sh) : go r 126 113 [l0, l1, l2] [aI x] M S = if x ≠ 0 then go r 126 120 [l0, l1, l2] [] M S else go r 126 116 [l0, l1, l2] [] M S := go_br rfl rfl rfl rfl rfl
set_option maxRecDepth 20000 in
theorem g126_116 (r : Nat) (l0 l1 l2 : Option AV) (M : Mem) (S : Sh) : go r 126 116 [l0, l1, l2] [] M S = go r 126 117 [l0, l1, l2] [aI 1] M S := go_nx rfl rfl
set_option maxRecDepth 20000 in
theorem g126_117 (r : Nat) (l0 l1 l2 : Option AV) (s0 : AV) (M : Mem) (S : Sh) : go r 126 117 [l0, l1, l2] [s0] M S = go r 126 121 [l0, l1, l2] [s0] M S := go_nx rfl rfl
set_option maxRecDepth 20000 in
theorem g126_120 (r : Nat) (l0 l1 l2 : Option AV) (M : Mem) (S : Sh) : go r 126 120 [l0, l1, l2] [] M S = go r 126 121 [l0, l1, l2] [aI 0] M S := go_nx rfl rfl
set_option maxRecDepth 20000 in
theorem g126_121 (r : Nat) (l0 l1 l2 : Option AV) (x : Int) (M : Mem) (S : Sh) : go r 126 121 [l0, l1, l2] [aI x] M S = go r 126 122 [l0, some (aI x), l2] [] M S := go_nx rfl rfl
set_option maxRecDepth 20000 in
theorem g126_122 (r : Nat) (l1 l2 : Option AV) (a : Nat) (M : Mem) (S : Sh) : go r 126 122 [some (aR a), l1, l2] [] M S = go r 126 123 [some (aR a), l1, l2] [aR a] M S := go_nx rfl rfl
set_option maxRecDepth 20000 in
theorem g126_123 (r : Nat) (l0 l1 l2 : Option AV) (a : Nat) (M : Mem) (S : Sh) (h : S.1 a = 6) : go r 126 123 [l0, l1, l2] [aR a] M S = go r 126 126 [l0, l1, l2] [aO (S.2.2.1 a 15)] M S := go_bnd rfl h rfl
set_option maxRecDepth 20000 in
theorem g126_126 (r : Nat) (l0 l1 l2 : Option AV) (s0 : AV) (M : Mem) (S : Sh) : go r 126 126 [l0, l1, l2] [s0] M S = go r 126 127 [l0, l1, l2] [aI 4, s0] M S := go_nx rfl rfl
set_option maxRecDepth 20000 in
theorem g126_127 (r : Nat) (l1 l2 : Option AV) (s0 s1 : AV) (a : Nat) (M : Mem) (S : Sh) : go r 126 127 [some (aR a), l1, l2] [s0, s1] M S = go r 126 128 [some (aR a), l1, l2] [aR a, s0, s1] M S := go_nx rfl rfl
set_option maxRecDepth 20000 in
theorem g126_128 (r : Nat) (l0 l1 l2 : Option AV) (s0 s1 : AV) (a : Nat) (M : Mem) (S : Sh) (h : S.1 a = 6) : go r 126 128 [l0, l1, l2] [aR a, s0, s1] M S = go r 126 131 [l0, l1, l2] [aI (M a 16), s0, s1] M S := go_bnd rfl h rfl
set_option maxRecDepth 20000 in
theorem g126_131 (r : Nat) (l0 l1 l2 : Option AV) (s0 : AV) (x y : Int) (M : Mem) (S : Sh) : go r 126 131 [l0, l1, l2] [aI y, aI x, s0] M S = go r 126 132 [l0, l1, l2] [aI (w32 (x * y)), s0] M S := go_nx rfl rfl
set_option maxRecDepth 20000 in
theorem g126_132 (r : Nat) (l0 l1 l2 : Option AV) (s0 s1 : AV) (M : Mem) (S : Sh) : go r 126 132 [l0, l1, l2] [s0, s1] M S = go r 126 133 [l0, l1, l2] [aI 3, s0, s1] M S := go_nx rfl rfl
set_option maxRecDepth 20000 in
theorem g126_133 (r : Nat) (l0 l1 l2 : Option AV) (s0 : AV) (x y : Int) (M : Mem) (S : Sh) : go r 126 133 [l0, l1, l2] [aI y, aI x, s0] M S = go r 126 134 [l0, l1, l2] [aI (w32 (x + y)), s0] M S := go_nx rfl rfl
set_option maxRecDepth 20000 in
theorem g126_134 (r : Nat) (l1 l2 : Option AV) (s0 s1 : AV) (a : Nat) (M : Mem) (S : Sh) : go r 126 134 [some (aR a), l1, l2] [s0, s1] M S = go r 126 135 [some (aR a), l1, l2] [aR a, s0, s1] M S := go_nx rfl rfl
set_option maxRecDepth 20000 in
theorem g126_135 (r : Nat) (l0 l1 l2 : Option AV) (s0 s1 : AV) (a : Nat) (M : Mem) (S : Sh) (h : S.1 a = 6) : go r 126 135 [l0, l1, l2] [aR a, s0, s1] M S = go r 126 138 [l0, l1, l2] [aI (M a 34), s0, s1] M S := go_bnd rfl h rfl
set_option maxRecDepth 20000 in
theorem g126_138 (r : Nat) (l0 l1 l2 : Option AV) (x y : Int) (a : Nat) (M : Mem) (S : Sh) (h : S.1 a = 7) (h6 : 6 ≤ a) (h0 : 0 ≤ x) (h1 : x < S.2.1 a) : go r 126 138 [l0, l1, l2] [aI y, aI x, aR a] M S = go r 126 139 [l0, l1, l2] [] (mset M a x.toNat y) S := go_bnd rfl ⟨h, h6, h0, h1⟩ rfl
set_option maxRecDepth 20000 in
theorem g126_139 (r : Nat) (l1 l2 : Option AV) (a : Nat) (M : Mem) (S : Sh) : go r 126 139 [some (aR a), l1, l2] [] M S = go r 126 140 [some (aR a), l1, l2] [aR a] M S := go_nx rfl rfl
set_option maxRecDepth 20000 in
theorem g126_140 (r : Nat) (l0 l1 l2 : Option AV) (s0 : AV) (M : Mem) (S : Sh) : go r 126 140 [l0, l1, l2] [s0] M S = go r 126 141 [l0, l1, l2] [aI 0, s0] M S := go_nx rfl rfl
set_option maxRecDepth 20000 in
theorem g126_141 (r : Nat) (l0 l1 l2 : Option AV) (x : Int) (a : Nat) (M : Mem) (S : Sh) (h : S.1 a = 6) : go r 126 141 [l0, l1, l2] [aI x, aR a] M S = go r 126 144 [l0, l1, l2] [] (mset M a 13 x) S := go_bnd rfl ⟨h, fun z => absurd z (by decide)⟩ rfl
set_option maxRecDepth 20000 in
theorem g126_144 (r : Nat) (l0 l2 : Option AV) (x : Int) (M : Mem) (S : Sh) : go r 126 144 [l0, some (aI x), l2] [] M S = go r 126 145 [l0, some (aI x), l2] [aI x] M S := go_nx rfl rfl
set_option maxRecDepth 20000 in
theorem g126_145 (r : Nat) (l0 l1 l2 : Option AV) (x : Int) (M : Mem) (S : Sh) : go r 126 145 [l0, l1, l2] [aI x] M S = if x ≠ 0 then go r 126 156 [l0, l1, l2] [] M S else go r 126 148 [l0, l1, l2] [] M S := go_br rfl rfl rfl rfl rfl
set_option maxRecDepth 20000 in
theorem g126_148 (r : Nat) (l0 l1 l2 : Option AV) (M : Mem) (S : Sh) : go r 126 148 [l0, l1, l2] [] M S = go r 126 150 [l0, l1, l2] [aI (-100)] M S := go_nx rfl rfl
set_option maxRecDepth 20000 in
theorem g126_150 (r : Nat) (l1 l2 : Option AV) (s0 : AV) (a : Nat) (M : Mem) (S : Sh) : go r 126 150 [some (aR a), l1, l2] [s0] M S = go r 126 151 [some (aR a), l1, l2] [aR a, s0] M S := go_nx rfl rfl
set_option maxRecDepth 20000 in
theorem g126_151 (r : Nat) (l0 l1 l2 : Option AV) (s0 : AV) (a : Nat) (M : Mem) (S : Sh) (h : S.1 a = 6) : go r 126 151 [l0, l1, l2] [aR a, s0] M S = go r 126 154 [l0, l1, l2] [aI (M a 27), s0] M S := go_bnd rfl h rfl
set_option maxRecDepth 20000 in
theorem g126_154 (r : Nat) (l0 l1 l2 : Option AV) (x y : Int) (M : Mem) (S : Sh) : go r 126 154 [l0, l1, l2] [aI y, aI x] M S = go r 126 155 [l0, l1, l2] [aI (w32 (x - y))] M S := go_nx rfl rfl
set_option maxRecDepth 20000 in
theorem g126_155 (r : Nat) (l0 l1 l2 : Option AV) (x : Int) (M : Mem) (S : Sh) : go r 126 155 [l0, l1, l2] [aI x] M S = some (some (aI x), M, S) := go_rt rfl (bnd_t (Or.inl rfl))
set_option maxRecDepth 20000 in
theorem g126_156 (r : Nat) (l1 l2 : Option AV) (a : Nat) (M : Mem) (S : Sh) : go r 126 156 [some (aR a), l1, l2] [] M S = go r 126 157 [some (aR a), l1, l2] [aR a] M S := go_nx rfl rfl
set_option maxRecDepth 20000 in
theorem g126_157 (r : Nat) (l0 l1 l2 : Option AV) (a : Nat) (M : Mem) (S : Sh) : go r 126 157 [l0, l1, l2] [aR a] M S = go r 126 158 [l0, l1, l2] [aR a, aR a] M S := go_nx rfl rfl
set_option maxRecDepth 20000 in
theorem g126_158 (r : Nat) (l0 l1 l2 : Option AV) (s0 : AV) (a : Nat) (M : Mem) (S : Sh) (h : S.1 a = 6) : go r 126 158 [l0, l1, l2] [aR a, s0] M S = go r 126 161 [l0, l1, l2] [aI (M a 16), s0] M S := go_bnd rfl h rfl
set_option maxRecDepth 20000 in
theorem g126_161 (r : Nat) (l0 l1 l2 : Option AV) (s0 s1 : AV) (M : Mem) (S : Sh) : go r 126 161 [l0, l1, l2] [s0, s1] M S = go r 126 162 [l0, l1, l2] [aI 1, s0, s1] M S := go_nx rfl rfl
set_option maxRecDepth 20000 in
theorem g126_162 (r : Nat) (l0 l1 l2 : Option AV) (s0 : AV) (x y : Int) (M : Mem) (S : Sh) : go r 126 162 [l0, l1, l2] [aI y, aI x, s0] M S = go r 126 163 [l0, l1, l2] [aI (w32 (x + y)), s0] M S := go_nx rfl rfl
set_option maxRecDepth 20000 in
theorem g126_163 (r : Nat) (l0 l1 l2 : Option AV) (x : Int) (a : Nat) (M : Mem) (S : Sh) (h : S.1 a = 6) : go r 126 163 [l0, l1, l2] [aI x, aR a] M S = go r 126 166 [l0, l1, l2] [] (mset M a 16 x) S := go_bnd rfl ⟨h, fun z => absurd z (by decide)⟩ rfl
set_option maxRecDepth 20000 in
theorem g126_166 (r : Nat) (l1 l2 : Option AV) (a : Nat) (M : Mem) (S : Sh) : go r 126 166 [some (aR a), l1, l2] [] M S = go r 126 167 [some (aR a), l1, l2] [aR a] M S := go_nx rfl rfl
set_option maxRecDepth 20000 in
theorem g126_167 (r : Nat) (l0 l1 l2 : Option AV) (a : Nat) (M : Mem) (S : Sh) (h : S.1 a = 6) : go r 126 167 [l0, l1, l2] [aR a] M S = go r 126 170 [l0, l1, l2] [aI (M a 16)] M S := go_bnd rfl h rfl
set_option maxRecDepth 20000 in
theorem g126_170 (r : Nat) (l0 l1 l2 : Option AV) (s0 : AV) (M : Mem) (S : Sh) : go r 126 170 [l0, l1, l2] [s0] M S = go r 126 171 [l0, l1, l2] [aI 1, s0] M S := go_nx rfl rfl
set_option maxRecDepth 20000 in
theorem g126_171 (r : Nat) (l0 l1 l2 : Option AV) (x y : Int) (M : Mem) (S : Sh) : go r 126 171 [l0, l1, l2] [aI y, aI x] M S = go r 126 172 [l0, l1, l2] [aI (w32 (x - y))] M S := go_nx rfl rfl
set_option maxRecDepth 20000 in
theorem g126_172 (r : Nat) (l0 l1 l2 : Option AV) (x : Int) (M : Mem) (S : Sh) : go r 126 172 [l0, l1, l2] [aI x] M S = some (some (aI x), M, S) := go_rt rfl (bnd_t (Or.inl rfl))
/-- StripsFromAboveModel.two(III)I -/
theorem g127 (x0 x1 x2 : Int) (M : Mem) (S : Sh) : res 127 [aI x0, aI x1, aI x2] M S = go 10 127 0 [some (aI x0), some (aI x1), some (aI x2)] [] M S := res_e0 rfl _ M S
theorem g127_0 (r : Nat) (l1 l2 : Option AV) (x : Int) (M : Mem) (S : Sh) : go r 127 0 [some (aI x), l1, l2] [] M S = go r 127 1 [some (aI x), l1, l2] [aI x] M S := go_nx rfl rfl
theorem g127_1c11 (r : Nat) (l0 l1 l2 : Option AV) (M : Mem) (S : Sh) : go r 127 1 [l0, l1, l2] [aI 11] M S = go r 127 44 [l0, l1, l2] [] M S := go_nx rfl rfl
theorem g127_1c12 (r : Nat) (l0 l1 l2 : Option AV) (M : Mem) (S : Sh) : go r 127 1 [l0, l1, l2] [aI 12] M S = go r 127 58 [l0, l1, l2] [] M S := go_nx rfl rfl
theorem g127_1c13 (r : Nat) (l0 l1 l2 : Option AV) (M : Mem) (S : Sh) : go r 127 1 [l0, l1, l2] [aI 13] M S = go r 127 102 [l0, l1, l2] [] M S := go_nx rfl rfl
theorem g127_1c14 (r : Nat) (l0 l1 l2 : Option AV) (M : Mem) (S : Sh) : go r 127 1 [l0, l1, l2] [aI 14] M S = go r 127 72 [l0, l1, l2] [] M S := go_nx rfl rfl
theorem g127_1c15 (r : Nat) (l0 l1 l2 : Option AV) (M : Mem) (S : Sh) : go r 127 1 [l0, l1, l2] [aI 15] M S = go r 127 83 [l0, l1, l2] [] M S := go_nx rfl rfl
theorem g127_1c16 (r : Nat) (l0 l1 l2 : Option AV) (M : Mem) (S : Sh) : go r 127 1 [l0, l1, l2] [aI 16] M S = go r 127 94 [l0, l1, l2] [] M S := go_nx rfl rfl
theorem g127_1c17 (r : Nat) (l0 l1 l2 : Option AV) (M : Mem) (S : Sh) : go r 127 1 [l0, l1, l2] [aI 17] M S = go r 127 98 [l0, l1, l2] [] M S := go_nx rfl rfl
theorem g127_1d (r : Nat) (l0 l1 l2 : Option AV) (x : Int) (M : Mem) (S : Sh) (h : x < 11 ∨ 17 < x) : go r 127 1 [l0, l1, l2] [aI x] M S = go r 127 102 [l0, l1, l2] [] M S := go_nx rfl (if_pos h)
theorem g127_44 (r : Nat) (l0 l2 : Option AV) (x : Int) (M : Mem) (S : Sh) : go r 127 44 [l0, some (aI x), l2] [] M S = go r 127 45 [l0, some (aI x), l2] [aI x] M S := go_nx rfl rfl
theorem g127_45 (r : Nat) (l0 l1 l2 : Option AV) (x : Int) (M : Mem) (S : Sh) : go r 127 45 [l0, l1, l2] [aI x] M S = if x ≠ 0 then go r 127 52 [l0, l1, l2] [] M S else go r 127 48 [l0, l1, l2] [] M S := go_br rfl rfl rfl rfl rfl
theorem g127_48 (r : Nat) (l0 l1 : Option AV) (x : Int) (M : Mem) (S : Sh) : go r 127 48 [l0, l1, some (aI x)] [] M S = go r 127 49 [l0, l1, some (aI x)] [aI x] M S := go_nx rfl rfl
theorem g127_49 (r : Nat) (l0 l1 l2 : Option AV) (x : Int) (M : Mem) (S : Sh) : go r 127 49 [l0, l1, l2] [aI x] M S = if x = 0 then go r 127 56 [l0, l1, l2] [] M S else go r 127 52 [l0, l1, l2] [] M S := go_br rfl rfl rfl rfl rfl
theorem g127_52 (r : Nat) (l0 l1 l2 : Option AV) (M : Mem) (S : Sh) : go r 127 52 [l0, l1, l2] [] M S = go r 127 53 [l0, l1, l2] [aI 1] M S := go_nx rfl rfl
theorem g127_53 (r : Nat) (l0 l1 l2 : Option AV) (s0 : AV) (M : Mem) (S : Sh) : go r 127 53 [l0, l1, l2] [s0] M S = go r 127 57 [l0, l1, l2] [s0] M S := go_nx rfl rfl
theorem g127_56 (r : Nat) (l0 l1 l2 : Option AV) (M : Mem) (S : Sh) : go r 127 56 [l0, l1, l2] [] M S = go r 127 57 [l0, l1, l2] [aI 0] M S := go_nx rfl rfl
theorem g127_57 (r : Nat) (l0 l1 l2 : Option AV) (x : Int) (M : Mem) (S : Sh) : go r 127 57 [l0, l1, l2] [aI x] M S = some (some (aI x), M, S) := go_rt rfl (bnd_t (Or.inl rfl))
theorem g127_58 (r : Nat) (l0 l2 : Option AV) (x : Int) (M : Mem) (S : Sh) : go r 127 58 [l0, some (aI x), l2] [] M S = go r 127 59 [l0, some (aI x), l2] [aI x] M S := go_nx rfl rfl
theorem g127_59 (r : Nat) (l0 l1 l2 : Option AV) (x : Int) (M : Mem) (S : Sh) : go r 127 59 [l0, l1, l2] [aI x] M S = if x = 0 then go r 127 70 [l0, l1, l2] [] M S else go r 127 62 [l0, l1, l2] [] M S := go_br rfl rfl rfl rfl rfl
theorem g127_62 (r : Nat) (l0 l1 : Option AV) (x : Int) (M : Mem) (S : Sh) : go r 127 62 [l0, l1, some (aI x)] [] M S = go r 127 63 [l0, l1, some (aI x)] [aI x] M S := go_nx rfl rfl
theorem g127_63 (r : Nat) (l0 l1 l2 : Option AV) (x : Int) (M : Mem) (S : Sh) : go r 127 63 [l0, l1, l2] [aI x] M S = if x = 0 then go r 127 70 [l0, l1, l2] [] M S else go r 127 66 [l0, l1, l2] [] M S := go_br rfl rfl rfl rfl rfl
theorem g127_66 (r : Nat) (l0 l1 l2 : Option AV) (M : Mem) (S : Sh) : go r 127 66 [l0, l1, l2] [] M S = go r 127 67 [l0, l1, l2] [aI 1] M S := go_nx rfl rfl
theorem g127_67 (r : Nat) (l0 l1 l2 : Option AV) (s0 : AV) (M : Mem) (S : Sh) : go r 127 67 [l0, l1, l2] [s0] M S = go r 127 71 [l0, l1, l2] [s0] M S := go_nx rfl rfl
theorem g127_70 (r : Nat) (l0 l1 l2 : Option AV) (M : Mem) (S : Sh) : go r 127 70 [l0, l1, l2] [] M S = go r 127 71 [l0, l1, l2] [aI 0] M S := go_nx rfl rfl
theorem g127_71 (r : Nat) (l0 l1 l2 : Option AV) (x : Int) (M : Mem) (S : Sh) : go r 127 71 [l0, l1, l2] [aI x] M S = some (some (aI x), M, S) := go_rt rfl (bnd_t (Or.inl rfl))
theorem g127_72 (r : Nat) (l0 l2 : Option AV) (x : Int) (M : Mem) (S : Sh) : go r 127 72 [l0, some (aI x), l2] [] M S = go r 127 73 [l0, some (aI x), l2] [aI x] M S := go_nx rfl rfl
theorem g127_73 (r : Nat) (l0 l1 : Option AV) (s0 : AV) (x : Int) (M : Mem) (S : Sh) : go r 127 73 [l0, l1, some (aI x)] [s0] M S = go r 127 74 [l0, l1, some (aI x)] [aI x, s0] M S := go_nx rfl rfl
theorem g127_74 (r : Nat) (l0 l1 l2 : Option AV) (x y : Int) (M : Mem) (S : Sh) : go r 127 74 [l0, l1, l2] [aI y, aI x] M S = if x ≥ y then go r 127 81 [l0, l1, l2] [] M S else go r 127 77 [l0, l1, l2] [] M S := go_br rfl rfl rfl rfl rfl
theorem g127_77 (r : Nat) (l0 l1 l2 : Option AV) (M : Mem) (S : Sh) : go r 127 77 [l0, l1, l2] [] M S = go r 127 78 [l0, l1, l2] [aI 1] M S := go_nx rfl rfl
theorem g127_78 (r : Nat) (l0 l1 l2 : Option AV) (s0 : AV) (M : Mem) (S : Sh) : go r 127 78 [l0, l1, l2] [s0] M S = go r 127 82 [l0, l1, l2] [s0] M S := go_nx rfl rfl
theorem g127_81 (r : Nat) (l0 l1 l2 : Option AV) (M : Mem) (S : Sh) : go r 127 81 [l0, l1, l2] [] M S = go r 127 82 [l0, l1, l2] [aI 0] M S := go_nx rfl rfl
theorem g127_82 (r : Nat) (l0 l1 l2 : Option AV) (x : Int) (M : Mem) (S : Sh) : go r 127 82 [l0, l1, l2] [aI x] M S = some (some (aI x), M, S) := go_rt rfl (bnd_t (Or.inl rfl))
theorem g127_83 (r : Nat) (l0 l2 : Option AV) (x : Int) (M : Mem) (S : Sh) : go r 127 83 [l0, some (aI x), l2] [] M S = go r 127 84 [l0, some (aI x), l2] [aI x] M S := go_nx rfl rfl
theorem g127_84 (r : Nat) (l0 l1 : Option AV) (s0 : AV) (x : Int) (M : Mem) (S : Sh) : go r 127 84 [l0, l1, some (aI x)] [s0] M S = go r 127 85 [l0, l1, some (aI x)] [aI x, s0] M S := go_nx rfl rfl
theorem g127_85 (r : Nat) (l0 l1 l2 : Option AV) (x y : Int) (M : Mem) (S : Sh) : go r 127 85 [l0, l1, l2] [aI y, aI x] M S = if x ≠ y then go r 127 92 [l0, l1, l2] [] M S else go r 127 88 [l0, l1, l2] [] M S := go_br rfl rfl rfl rfl rfl
theorem g127_88 (r : Nat) (l0 l1 l2 : Option AV) (M : Mem) (S : Sh) : go r 127 88 [l0, l1, l2] [] M S = go r 127 89 [l0, l1, l2] [aI 1] M S := go_nx rfl rfl
theorem g127_89 (r : Nat) (l0 l1 l2 : Option AV) (s0 : AV) (M : Mem) (S : Sh) : go r 127 89 [l0, l1, l2] [s0] M S = go r 127 93 [l0, l1, l2] [s0] M S := go_nx rfl rfl
theorem g127_92 (r : Nat) (l0 l1 l2 : Option AV) (M : Mem) (S : Sh) : go r 127 92 [l0, l1, l2] [] M S = go r 127 93 [l0, l1, l2] [aI 0] M S := go_nx rfl rfl
theorem g127_93 (r : Nat) (l0 l1 l2 : Option AV) (x : Int) (M : Mem) (S : Sh) : go r 127 93 [l0, l1, l2] [aI x] M S = some (some (aI x), M, S) := go_rt rfl (bnd_t (Or.inl rfl))
theorem g127_94 (r : Nat) (l0 l2 : Option AV) (x : Int) (M : Mem) (S : Sh) : go r 127 94 [l0, some (aI x), l2] [] M S = go r 127 95 [l0, some (aI x), l2] [aI x] M S := go_nx rfl rfl
theorem g127_95 (r : Nat) (l0 l1 : Option AV) (s0 : AV) (x : Int) (M : Mem) (S : Sh) : go r 127 95 [l0, l1, some (aI x)] [s0] M S = go r 127 96 [l0, l1, some (aI x)] [aI x, s0] M S := go_nx rfl rfl
theorem g127_96 (r : Nat) (l0 l1 l2 : Option AV) (x y : Int) (M : Mem) (S : Sh) : go r 127 96 [l0, l1, l2] [aI y, aI x] M S = go r 127 97 [l0, l1, l2] [aI (w32 (x + y))] M S := go_nx rfl rfl
theorem g127_97 (r : Nat) (l0 l1 l2 : Option AV) (x : Int) (M : Mem) (S : Sh) : go r 127 97 [l0, l1, l2] [aI x] M S = some (some (aI x), M, S) := go_rt rfl (bnd_t (Or.inl rfl))
theorem g127_98 (r : Nat) (l0 l2 : Option AV) (x : Int) (M : Mem) (S : Sh) : go r 127 98 [l0, some (aI x), l2] [] M S = go r 127 99 [l0, some (aI x), l2] [aI x] M S := go_nx rfl rfl
theorem g127_99 (r : Nat) (l0 l1 : Option AV) (s0 : AV) (x : Int) (M : Mem) (S : Sh) : go r 127 99 [l0, l1, some (aI x)] [s0] M S = go r 127 100 [l0, l1, some (aI x)] [aI x, s0] M S := go_nx rfl rfl
theorem g127_100 (r : Nat) (l0 l1 l2 : Option AV) (x y : Int) (M : Mem) (S : Sh) : go r 127 100 [l0, l1, l2] [aI y, aI x] M S = go r 127 101 [l0, l1, l2] [aI (w32 (x - y))] M S := go_nx rfl rfl
theorem g127_101 (r : Nat) (l0 l1 l2 : Option AV) (x : Int) (M : Mem) (S : Sh) : go r 127 101 [l0, l1, l2] [aI x] M S = some (some (aI x), M, S) := go_rt rfl (bnd_t (Or.inl rfl))
theorem g127_102 (r : Nat) (l0 l2 : Option AV) (x : Int) (M : Mem) (S : Sh) : go r 127 102 [l0, some (aI x), l2] [] M S = go r 127 103 [l0, some (aI x), l2] [aI x] M S := go_nx rfl rfl
theorem g127_103 (r : Nat) (l0 l1 : Option AV) (s0 : AV) (x : Int) (M : Mem) (S : Sh) : go r 127 103 [l0, l1, some (aI x)] [s0] M S = go r 127 104 [l0, l1, some (aI x)] [aI x, s0] M S := go_nx rfl rfl
theorem g127_104 (r : Nat) (l0 l1 l2 : Option AV) (x y : Int) (M : Mem) (S : Sh) : go r 127 104 [l0, l1, l2] [aI y, aI x] M S = go r 127 105 [l0, l1, l2] [aI (w32 (x * y))] M S := go_nx rfl rfl
theorem g127_105 (r : Nat) (l0 l1 l2 : Option AV) (x : Int) (M : Mem) (S : Sh) : go r 127 105 [l0, l1, l2] [aI x] M S = some (some (aI x), M, S) := go_rt rfl (bnd_t (Or.inl rfl))
/-- StripsFromAboveModel.says(I)I -/
theorem g128 (x1 : Int) (a0 : Nat) (M : Mem) (S : Sh) : res 128 [aR a0, aI x1] M S = go 11 128 0 [some (aR a0), some (aI x1), none, none, none] [] M S := res_e0 rfl _ M S
theorem g128_0 (r : Nat) (l0 l1 l2 l3 l4 : Option AV) (M : Mem) (S : Sh) : go r 128 0 [l0, l1, l2, l3, l4] [] M S = go r 128 1 [l0, l1, l2, l3, l4] [aI 0] M S := go_nx rfl rfl
theorem g128_1 (r : Nat) (l0 l1 l2 l3 l4 : Option AV) (x : Int) (M : Mem) (S : Sh) : go r 128 1 [l0, l1, l2, l3, l4] [aI x] M S = go r 128 2 [l0, l1, some (aI x), l3, l4] [] M S := go_nx rfl rfl
theorem g128_2 (r : Nat) (l1 l2 l3 l4 : Option AV) (a : Nat) (M : Mem) (S : Sh) : go r 128 2 [some (aR a), l1, l2, l3, l4] [] M S = go r 128 3 [some (aR a), l1, l2, l3, l4] [aR a] M S := go_nx rfl rfl
theorem g128_3 (r : Nat) (l0 l1 l2 l3 l4 : Option AV) (a : Nat) (M : Mem) (S : Sh) (h : S.1 a = 6) : go r 128 3 [l0, l1, l2, l3, l4] [aR a] M S = go r 128 6 [l0, l1, l2, l3, l4] [aO (S.2.2.1 a 15)] M S := go_bnd rfl h rfl
theorem g128_6 (r : Nat) (l0 l1 l2 l3 l4 : Option AV) (s0 : AV) (M : Mem) (S : Sh) : go r 128 6 [l0, l1, l2, l3, l4] [s0] M S = go r 128 7 [l0, l1, l2, l3, l4] [aI 4, s0] M S := go_nx rfl rfl
theorem g128_7 (r : Nat) (l1 l2 l3 l4 : Option AV) (s0 s1 : AV) (a : Nat) (M : Mem) (S : Sh) : go r 128 7 [some (aR a), l1, l2, l3, l4] [s0, s1] M S = go r 128 8 [some (aR a), l1, l2, l3, l4] [aR a, s0, s1] M S := go_nx rfl rfl
theorem g128_8 (r : Nat) (l0 l1 l2 l3 l4 : Option AV) (s0 s1 : AV) (a : Nat) (M : Mem) (S : Sh) (h : S.1 a = 6) : go r 128 8 [l0, l1, l2, l3, l4] [aR a, s0, s1] M S = go r 128 11 [l0, l1, l2, l3, l4] [aI (M a 17), s0, s1] M S := go_bnd rfl h rfl
theorem g128_11 (r : Nat) (l0 l1 l2 l3 l4 : Option AV) (s0 : AV) (x y : Int) (M : Mem) (S : Sh) : go r 128 11 [l0, l1, l2, l3, l4] [aI y, aI x, s0] M S = go r 128 12 [l0, l1, l2, l3, l4] [aI (w32 (x * y)), s0] M S := go_nx rfl rfl
theorem g128_12 (r : Nat) (l0 l2 l3 l4 : Option AV) (s0 s1 : AV) (x : Int) (M : Mem) (S : Sh) : go r 128 12 [l0, some (aI x), l2, l3, l4] [s0, s1] M S = go r 128 13 [l0, some (aI x), l2, l3, l4] [aI x, s0, s1] M S := go_nx rfl rfl
theorem g128_13 (r : Nat) (l0 l1 l2 l3 l4 : Option AV) (s0 : AV) (x y : Int) (M : Mem) (S : Sh) : go r 128 13 [l0, l1, l2, l3, l4] [aI y, aI x, s0] M S = go r 128 14 [l0, l1, l2, l3, l4] [aI (w32 (x + y)), s0] M S := go_nx rfl rfl
theorem g128_14 (r : Nat) (l0 l1 l2 l3 l4 : Option AV) (x : Int) (a : Nat) (M : Mem) (S : Sh) (h : S.1 a = 7) (h0 : 0 ≤ x) (h1 : x < S.2.1 a) : go r 128 14 [l0, l1, l2, l3, l4] [aI x, aR a] M S = go r 128 15 [l0, l1, l2, l3, l4] [aI (M a x.toNat)] M S := go_bnd rfl ⟨h, h0, h1⟩ rfl
theorem g128_15 (r : Nat) (l0 l1 l2 l3 l4 : Option AV) (x : Int) (M : Mem) (S : Sh) : go r 128 15 [l0, l1, l2, l3, l4] [aI x] M S = go r 128 16 [l0, l1, l2, some (aI x), l4] [] M S := go_nx rfl rfl
theorem g128_16 (r : Nat) (l0 l1 l2 l4 : Option AV) (x : Int) (M : Mem) (S : Sh) : go r 128 16 [l0, l1, l2, some (aI x), l4] [] M S = go r 128 17 [l0, l1, l2, some (aI x), l4] [aI x] M S := go_nx rfl rfl
theorem g128_17 (r : Nat) (l1 l2 l3 l4 : Option AV) (s0 : AV) (a : Nat) (M : Mem) (S : Sh) : go r 128 17 [some (aR a), l1, l2, l3, l4] [s0] M S = go r 128 18 [some (aR a), l1, l2, l3, l4] [aR a, s0] M S := go_nx rfl rfl
theorem g128_18 (r : Nat) (l0 l1 l2 l3 l4 : Option AV) (s0 : AV) (a : Nat) (M : Mem) (S : Sh) (h : S.1 a = 6) : go r 128 18 [l0, l1, l2, l3, l4] [aR a, s0] M S = go r 128 21 [l0, l1, l2, l3, l4] [aO (S.2.2.1 a 15), s0] M S := go_bnd rfl h rfl
theorem g128_21 (r : Nat) (l0 l1 l2 l3 l4 : Option AV) (s0 s1 : AV) (M : Mem) (S : Sh) : go r 128 21 [l0, l1, l2, l3, l4] [s0, s1] M S = go r 128 22 [l0, l1, l2, l3, l4] [aI 4, s0, s1] M S := go_nx rfl rfl
theorem g128_22 (r : Nat) (l1 l2 l3 l4 : Option AV) (s0 s1 s2 : AV) (a : Nat) (M : Mem) (S : Sh) : go r 128 22 [some (aR a), l1, l2, l3, l4] [s0, s1, s2] M S = go r 128 23 [some (aR a), l1, l2, l3, l4] [aR a, s0, s1, s2] M S := go_nx rfl rfl
theorem g128_23 (r : Nat) (l0 l1 l2 l3 l4 : Option AV) (s0 s1 s2 : AV) (a : Nat) (M : Mem) (S : Sh) (h : S.1 a = 6) : go r 128 23 [l0, l1, l2, l3, l4] [aR a, s0, s1, s2] M S = go r 128 26 [l0, l1, l2, l3, l4] [aI (M a 17), s0, s1, s2] M S := go_bnd rfl h rfl
theorem g128_26 (r : Nat) (l0 l1 l2 l3 l4 : Option AV) (s0 s1 : AV) (x y : Int) (M : Mem) (S : Sh) : go r 128 26 [l0, l1, l2, l3, l4] [aI y, aI x, s0, s1] M S = go r 128 27 [l0, l1, l2, l3, l4] [aI (w32 (x * y)), s0, s1] M S := go_nx rfl rfl
theorem g128_27 (r : Nat) (l0 l2 l3 l4 : Option AV) (s0 s1 s2 : AV) (x : Int) (M : Mem) (S : Sh) : go r 128 27 [l0, some (aI x), l2, l3, l4] [s0, s1, s2] M S = go r 128 28 [l0, some (aI x), l2, l3, l4] [aI x, s0, s1, s2] M S := go_nx rfl rfl
theorem g128_28 (r : Nat) (l0 l1 l2 l3 l4 : Option AV) (s0 s1 : AV) (x y : Int) (M : Mem) (S : Sh) : go r 128 28 [l0, l1, l2, l3, l4] [aI y, aI x, s0, s1] M S = go r 128 29 [l0, l1, l2, l3, l4] [aI (w32 (x + y)), s0, s1] M S := go_nx rfl rfl
theorem g128_29 (r : Nat) (l0 l1 l2 l3 l4 : Option AV) (s0 s1 s2 : AV) (M : Mem) (S : Sh) : go r 128 29 [l0, l1, l2, l3, l4] [s0, s1, s2] M S = go r 128 30 [l0, l1, l2, l3, l4] [aI 1, s0, s1, s2] M S := go_nx rfl rfl
theorem g128_30 (r : Nat) (l0 l1 l2 l3 l4 : Option AV) (s0 s1 : AV) (x y : Int) (M : Mem) (S : Sh) : go r 128 30 [l0, l1, l2, l3, l4] [aI y, aI x, s0, s1] M S = go r 128 31 [l0, l1, l2, l3, l4] [aI (w32 (x + y)), s0, s1] M S := go_nx rfl rfl
theorem g128_31 (r : Nat) (l0 l1 l2 l3 l4 : Option AV) (s0 : AV) (x : Int) (a : Nat) (M : Mem) (S : Sh) (h : S.1 a = 7) (h0 : 0 ≤ x) (h1 : x < S.2.1 a) : go r 128 31 [l0, l1, l2, l3, l4] [aI x, aR a, s0] M S = go r 128 32 [l0, l1, l2, l3, l4] [aI (M a x.toNat), s0] M S := go_bnd rfl ⟨h, h0, h1⟩ rfl
theorem g128_32 (r : Nat) (l0 l1 l2 l3 l4 : Option AV) (x y : Int) (M : Mem) (S : Sh) : go r 128 32 [l0, l1, l2, l3, l4] [aI y, aI x] M S = if x ≥ y then go r 128 197 [l0, l1, l2, l3, l4] [] M S else go r 128 35 [l0, l1, l2, l3, l4] [] M S := go_br rfl rfl rfl rfl rfl
theorem g128_35 (r : Nat) (l1 l2 l3 l4 : Option AV) (a : Nat) (M : Mem) (S : Sh) : go r 128 35 [some (aR a), l1, l2, l3, l4] [] M S = go r 128 36 [some (aR a), l1, l2, l3, l4] [aR a] M S := go_nx rfl rfl
theorem g128_36 (r : Nat) (l0 l1 l2 l3 l4 : Option AV) (a : Nat) (M : Mem) (S : Sh) (h : S.1 a = 6) : go r 128 36 [l0, l1, l2, l3, l4] [aR a] M S = go r 128 39 [l0, l1, l2, l3, l4] [aO (S.2.2.1 a 14)] M S := go_bnd rfl h rfl
theorem g128_39 (r : Nat) (l0 l1 l2 l3 l4 : Option AV) (s0 : AV) (M : Mem) (S : Sh) : go r 128 39 [l0, l1, l2, l3, l4] [s0] M S = go r 128 42 [l0, l1, l2, l3, l4] [aI 200, s0] M S := go_nx rfl rfl
theorem g128_42 (r : Nat) (l1 l2 l3 l4 : Option AV) (s0 s1 : AV) (a : Nat) (M : Mem) (S : Sh) : go r 128 42 [some (aR a), l1, l2, l3, l4] [s0, s1] M S = go r 128 43 [some (aR a), l1, l2, l3, l4] [aR a, s0, s1] M S := go_nx rfl rfl
theorem g128_43 (r : Nat) (l0 l1 l2 l3 l4 : Option AV) (s0 s1 : AV) (a : Nat) (M : Mem) (S : Sh) (h : S.1 a = 6) : go r 128 43 [l0, l1, l2, l3, l4] [aR a, s0, s1] M S = go r 128 46 [l0, l1, l2, l3, l4] [aI (M a 17), s0, s1] M S := go_bnd rfl h rfl
theorem g128_46 (r : Nat) (l0 l1 l2 l3 l4 : Option AV) (s0 : AV) (x y : Int) (M : Mem) (S : Sh) : go r 128 46 [l0, l1, l2, l3, l4] [aI y, aI x, s0] M S = go r 128 47 [l0, l1, l2, l3, l4] [aI (w32 (x * y)), s0] M S := go_nx rfl rfl
theorem g128_47 (r : Nat) (l0 l1 l2 l4 : Option AV) (s0 s1 : AV) (x : Int) (M : Mem) (S : Sh) : go r 128 47 [l0, l1, l2, some (aI x), l4] [s0, s1] M S = go r 128 48 [l0, l1, l2, some (aI x), l4] [aI x, s0, s1] M S := go_nx rfl rfl
theorem g128_48 (r : Nat) (l0 l1 l2 l3 l4 : Option AV) (s0 : AV) (x y : Int) (M : Mem) (S : Sh) : go r 128 48 [l0, l1, l2, l3, l4] [aI y, aI x, s0] M S = go r 128 49 [l0, l1, l2, l3, l4] [aI (w32 (x + y)), s0] M S := go_nx rfl rfl
theorem g128_49 (r : Nat) (l0 l1 l2 l3 l4 : Option AV) (x : Int) (a : Nat) (M : Mem) (S : Sh) (h : S.1 a = 7) (h0 : 0 ≤ x) (h1 : x < S.2.1 a) : go r 128 49 [l0, l1, l2, l3, l4] [aI x, aR a] M S = go r 128 50 [l0, l1, l2, l3, l4] [aI (M a x.toNat)] M S := go_bnd rfl ⟨h, h0, h1⟩ rfl
theorem g128_50 (r : Nat) (l0 l1 l2 l3 l4 : Option AV) (x : Int) (M : Mem) (S : Sh) : go r 128 50 [l0, l1, l2, l3, l4] [aI x] M S = go r 128 52 [l0, l1, l2, l3, some (aI x)] [] M S := go_nx rfl rfl
theorem g128_52 (r : Nat) (l0 l1 l2 l3 : Option AV) (x : Int) (M : Mem) (S : Sh) : go r 128 52 [l0, l1, l2, l3, some (aI x)] [] M S = go r 128 54 [l0, l1, l2, l3, some (aI x)] [aI x] M S := go_nx rfl rfl
theorem g128_54 (r : Nat) (l0 l1 l2 l3 l4 : Option AV) (s0 : AV) (M : Mem) (S : Sh) : go r 128 54 [l0, l1, l2, l3, l4] [s0] M S = go r 128 56 [l0, l1, l2, l3, l4] [aI 100000, s0] M S := go_nx rfl rfl
theorem g128_56 (r : Nat) (l0 l1 l2 l3 l4 : Option AV) (x y : Int) (M : Mem) (S : Sh) : go r 128 56 [l0, l1, l2, l3, l4] [aI y, aI x] M S = if x ≥ y then go r 128 66 [l0, l1, l2, l3, l4] [] M S else go r 128 59 [l0, l1, l2, l3, l4] [] M S := go_br rfl rfl rfl rfl rfl
theorem g128_59 (r : Nat) (l0 l1 l2 l3 : Option AV) (x : Int) (M : Mem) (S : Sh) : go r 128 59 [l0, l1, l2, l3, some (aI x)] [] M S = go r 128 61 [l0, l1, l2, l3, some (aI x)] [aI x] M S := go_nx rfl rfl
theorem g128_61 (r : Nat) (l0 l1 l2 l3 l4 : Option AV) (s0 : AV) (M : Mem) (S : Sh) : go r 128 61 [l0, l1, l2, l3, l4] [s0] M S = go r 128 63 [l0, l1, l2, l3, l4] [aI 11, s0] M S := go_nx rfl rfl
theorem g128_63 (r : Nat) (l0 l1 l2 l3 l4 : Option AV) (x y : Int) (M : Mem) (S : Sh) : go r 128 63 [l0, l1, l2, l3, l4] [aI y, aI x] M S = if x ≥ y then go r 128 100 [l0, l1, l2, l3, l4] [] M S else go r 128 66 [l0, l1, l2, l3, l4] [] M S := go_br rfl rfl rfl rfl rfl
theorem g128_66 (r : Nat) (l1 l2 l3 l4 : Option AV) (a : Nat) (M : Mem) (S : Sh) : go r 128 66 [some (aR a), l1, l2, l3, l4] [] M S = go r 128 67 [some (aR a), l1, l2, l3, l4] [aR a] M S := go_nx rfl rfl
theorem g128_67 (r : Nat) (l0 l1 l2 l3 l4 : Option AV) (a : Nat) (M : Mem) (S : Sh) (h : S.1 a = 6) : go r 128 67 [l0, l1, l2, l3, l4] [aR a] M S = go r 128 70 [l0, l1, l2, l3, l4] [aO (S.2.2.1 a 35)] M S := go_bnd rfl h rfl
theorem g128_70 (r : Nat) (l0 l1 l3 l4 : Option AV) (s0 : AV) (x : Int) (M : Mem) (S : Sh) : go r 128 70 [l0, l1, some (aI x), l3, l4] [s0] M S = go r 128 71 [l0, l1, some (aI x), l3, l4] [aI x, s0] M S := go_nx rfl rfl
theorem g128_71 (r : Nat) (l0 l1 l2 l3 : Option AV) (s0 s1 : AV) (x : Int) (M : Mem) (S : Sh) : go r 128 71 [l0, l1, l2, l3, some (aI x)] [s0, s1] M S = go r 128 73 [l0, l1, l2, l3, some (aI x)] [aI x, s0, s1] M S := go_nx rfl rfl
theorem g128_73 (r : Nat) (l0 l1 l2 l3 l4 : Option AV) (s0 s1 s2 : AV) (M : Mem) (S : Sh) : go r 128 73 [l0, l1, l2, l3, l4] [s0, s1, s2] M S = go r 128 75 [l0, l1, l2, l3, l4] [aI 11, s0, s1, s2] M S := go_nx rfl rfl
theorem g128_75 (r : Nat) (l0 l1 l2 l3 l4 : Option AV) (s0 s1 : AV) (x y : Int) (M : Mem) (S : Sh) : go r 128 75 [l0, l1, l2, l3, l4] [aI y, aI x, s0, s1] M S = if x ≥ y then go r 128 88 [l0, l1, l2, l3, l4] [s0, s1] M S else go r 128 78 [l0, l1, l2, l3, l4] [s0, s1] M S := go_br rfl rfl rfl rfl rfl
theorem g128_78 (r : Nat) (l1 l2 l3 l4 : Option AV) (s0 s1 : AV) (a : Nat) (M : Mem) (S : Sh) : go r 128 78 [some (aR a), l1, l2, l3, l4] [s0, s1] M S = go r 128 79 [some (aR a), l1, l2, l3, l4] [aR a, s0, s1] M S := go_nx rfl rfl
theorem g128_79 (r : Nat) (l0 l1 l2 l3 l4 : Option AV) (s0 s1 : AV) (a : Nat) (M : Mem) (S : Sh) (h : S.1 a = 6) : go r 128 79 [l0, l1, l2, l3, l4] [aR a, s0, s1] M S = go r 128 82 [l0, l1, l2, l3, l4] [aO (S.2.2.1 a 36), s0, s1] M S := go_bnd rfl h rfl
theorem g128_82 (r : Nat) (l0 l1 l2 l3 : Option AV) (s0 s1 s2 : AV) (x : Int) (M : Mem) (S : Sh) : go r 128 82 [l0, l1, l2, l3, some (aI x)] [s0, s1, s2] M S = go r 128 84 [l0, l1, l2, l3, some (aI x)] [aI x, s0, s1, s2] M S := go_nx rfl rfl
theorem g128_84 (r : Nat) (l0 l1 l2 l3 l4 : Option AV) (s0 s1 : AV) (x : Int) (a : Nat) (M : Mem) (S : Sh) (h : S.1 a = 7) (h0 : 0 ≤ x) (h1 : x < S.2.1 a) : go r 128 84 [l0, l1, l2, l3, l4] [aI x, aR a, s0, s1] M S = go r 128 85 [l0, l1, l2, l3, l4] [aI (M a x.toNat), s0, s1] M S := go_bnd rfl ⟨h, h0, h1⟩ rfl
theorem g128_85 (r : Nat) (l0 l1 l2 l3 l4 : Option AV) (s0 s1 s2 : AV) (M : Mem) (S : Sh) : go r 128 85 [l0, l1, l2, l3, l4] [s0, s1, s2] M S = go r 128 93 [l0, l1, l2, l3, l4] [s0, s1, s2] M S := go_nx rfl rfl
theorem g128_88 (r : Nat) (l0 l1 l2 l3 : Option AV) (s0 s1 : AV) (x : Int) (M : Mem) (S : Sh) : go r 128 88 [l0, l1, l2, l3, some (aI x)] [s0, s1] M S = go r 128 90 [l0, l1, l2, l3, some (aI x)] [aI x, s0, s1] M S := go_nx rfl rfl
theorem g128_90 (r : Nat) (l0 l1 l2 l3 l4 : Option AV) (s0 s1 s2 : AV) (M : Mem) (S : Sh) : go r 128 90 [l0, l1, l2, l3, l4] [s0, s1, s2] M S = go r 128 92 [l0, l1, l2, l3, l4] [aI 100000, s0, s1, s2] M S := go_nx rfl rfl
theorem g128_92 (r : Nat) (l0 l1 l2 l3 l4 : Option AV) (s0 s1 : AV) (x y : Int) (M : Mem) (S : Sh) : go r 128 92 [l0, l1, l2, l3, l4] [aI y, aI x, s0, s1] M S = go r 128 93 [l0, l1, l2, l3, l4] [aI (w32 (x - y)), s0, s1] M S := go_nx rfl rfl
theorem g128_93 (r : Nat) (l0 l1 l2 l3 l4 : Option AV) (x y : Int) (a : Nat) (M : Mem) (S : Sh) (h : S.1 a = 7) (h6 : 6 ≤ a) (h0 : 0 ≤ x) (h1 : x < S.2.1 a) : go r 128 93 [l0, l1, l2, l3, l4] [aI y, aI x, aR a] M S = go r 128 94 [l0, l1, l2, l3, l4] [] (mset M a x.toNat y) S := go_bnd rfl ⟨h, h6, h0, h1⟩ rfl
theorem g128_94 (r : Nat) (l0 l1 l3 l4 : Option AV) (x : Int) (M : Mem) (S : Sh) : go r 128 94 [l0, l1, some (aI x), l3, l4] [] M S = go r 128 97 [l0, l1, some (aI (w32 (x + 1))), l3, l4] [] M S := go_nx rfl rfl
theorem g128_97 (r : Nat) (l0 l1 l2 l3 l4 : Option AV) (M : Mem) (S : Sh) : go r 128 97 [l0, l1, l2, l3, l4] [] M S = go r 128 191 [l0, l1, l2, l3, l4] [] M S := go_nx rfl rfl
theorem g128_100 (r : Nat) (l0 l1 l2 l3 : Option AV) (x : Int) (M : Mem) (S : Sh) : go r 128 100 [l0, l1, l2, l3, some (aI x)] [] M S = go r 128 102 [l0, l1, l2, l3, some (aI x)] [aI x] M S := go_nx rfl rfl
theorem g128_102 (r : Nat) (l0 l1 l2 l3 l4 : Option AV) (s0 : AV) (M : Mem) (S : Sh) : go r 128 102 [l0, l1, l2, l3, l4] [s0] M S = go r 128 104 [l0, l1, l2, l3, l4] [aI 13, s0] M S := go_nx rfl rfl
theorem g128_104 (r : Nat) (l0 l1 l2 l3 l4 : Option AV) (x y : Int) (M : Mem) (S : Sh) : go r 128 104 [l0, l1, l2, l3, l4] [aI y, aI x] M S = if x ≠ y then go r 128 134 [l0, l1, l2, l3, l4] [] M S else go r 128 107 [l0, l1, l2, l3, l4] [] M S := go_br rfl rfl rfl rfl rfl
set_option maxRecDepth 20000 in
theorem g128_107 (r : Nat) (l1 l2 l3 l4 : Option AV) (a : Nat) (M : Mem) (S : Sh) : go r 128 107 [some (aR a), l1, l2, l3, l4] [] M S = go r 128 108 [some (aR a), l1, l2, l3, l4] [aR a] M S := go_nx rfl rfl
set_option maxRecDepth 20000 in
theorem g128_108 (r : Nat) (l0 l1 l2 l3 l4 : Option AV) (a : Nat) (M : Mem) (S : Sh) (h : S.1 a = 6) : go r 128 108 [l0, l1, l2, l3, l4] [aR a] M S = go r 128 111 [l0, l1, l2, l3, l4] [aO (S.2.2.1 a 35)] M S := go_bnd rfl h rfl
set_option maxRecDepth 20000 in
theorem g128_111 (r : Nat) (l0 l1 l3 l4 : Option AV) (s0 : AV) (x : Int) (M : Mem) (S : Sh) : go r 128 111 [l0, l1, some (aI x), l3, l4] [s0] M S = go r 128 112 [l0, l1, some (aI x), l3, l4] [aI x, s0] M S := go_nx rfl rfl
set_option maxRecDepth 20000 in
theorem g128_112 (r : Nat) (l0 l1 l2 l3 l4 : Option AV) (s0 s1 : AV) (M : Mem) (S : Sh) : go r 128 112 [l0, l1, l2, l3, l4] [s0, s1] M S = go r 128 113 [l0, l1, l2, l3, l4] [aI 1, s0, s1] M S := go_nx rfl rfl
set_option maxRecDepth 20000 in
theorem g128_113 (r : Nat) (l0 l1 l2 l3 l4 : Option AV) (s0 : AV) (x y : Int) (M : Mem) (S : Sh) : go r 128 113 [l0, l1, l2, l3, l4] [aI y, aI x, s0] M S = go r 128 114 [l0, l1, l2, l3, l4] [aI (w32 (x - y)), s0] M S := go_nx rfl rfl
set_option maxRecDepth 20000 in
theorem g128_114 (r : Nat) (l1 l2 l3 l4 : Option AV) (s0 s1 : AV) (a : Nat) (M : Mem) (S : Sh) : go r 128 114 [some (aR a), l1, l2, l3, l4] [s0, s1] M S = go r 128 115 [some (aR a), l1, l2, l3, l4] [aR a, s0, s1] M S := go_nx rfl rfl
set_option maxRecDepth 20000 in
theorem g128_115 (r : Nat) (l0 l1 l2 l3 l4 : Option AV) (s0 s1 : AV) (a : Nat) (M : Mem) (S : Sh) (h : S.1 a = 6) : go r 128 115 [l0, l1, l2, l3, l4] [aR a, s0, s1] M S = go r 128 118 [l0, l1, l2, l3, l4] [aO (S.2.2.1 a 35), s0, s1] M S := go_bnd rfl h rfl
set_option maxRecDepth 20000 in
theorem g128_118 (r : Nat) (l0 l1 l3 l4 : Option AV) (s0 s1 s2 : AV) (x : Int) (M : Mem) (S : Sh) : go r 128 118 [l0, l1, some (aI x), l3, l4] [s0, s1, s2] M S = go r 128 119 [l0, l1, some (aI x), l3, l4] [aI x, s0, s1, s2] M S := go_nx rfl rfl
set_option maxRecDepth 20000 in
theorem g128_119 (r : Nat) (l0 l1 l2 l3 l4 : Option AV) (s0 s1 s2 s3 : AV) (M : Mem) (S : Sh) : go r 128 119 [l0, l1, l2, l3, l4] [s0, s1, s2, s3] M S = go r 128 120 [l0, l1, l2, l3, l4] [aI 1, s0, s1, s2, s3] M S := go_nx rfl rfl
set_option maxRecDepth 20000 in
theorem g128_120 (r : Nat) (l0 l1 l2 l3 l4 : Option AV) (s0 s1 s2 : AV) (x y : Int) (M : Mem) (S : Sh) : go r 128 120 [l0, l1, l2, l3, l4] [aI y, aI x, s0, s1, s2] M S = go r 128 121 [l0, l1, l2, l3, l4] [aI (w32 (x - y)), s0, s1, s2] M S := go_nx rfl rfl
set_option maxRecDepth 20000 in
theorem g128_121 (r : Nat) (l0 l1 l2 l3 l4 : Option AV) (s0 s1 : AV) (x : Int) (a : Nat) (M : Mem) (S : Sh) (h : S.1 a = 7) (h0 : 0 ≤ x) (h1 : x < S.2.1 a) : go r 128 121 [l0, l1, l2, l3, l4] [aI x, aR a, s0, s1] M S = go r 128 122 [l0, l1, l2, l3, l4] [aI (M a x.toNat), s0, s1] M S := go_bnd rfl ⟨h, h0, h1⟩ rfl
set_option maxRecDepth 20000 in
theorem g128_122 (r : Nat) (l0 l1 l2 l3 l4 : Option AV) (s0 s1 : AV) (x : Int) (M : Mem) (S : Sh) : go r 128 122 [l0, l1, l2, l3, l4] [aI x, s0, s1] M S = if x ≠ 0 then go r 128 129 [l0, l1, l2, l3, l4] [s0, s1] M S else go r 128 125 [l0, l1, l2, l3, l4] [s0, s1] M S := go_br rfl rfl rfl rfl rfl
set_option maxRecDepth 20000 in
theorem g128_125 (r : Nat) (l0 l1 l2 l3 l4 : Option AV) (s0 s1 : AV) (M : Mem) (S : Sh) : go r 128 125 [l0, l1, l2, l3, l4] [s0, s1] M S = go r 128 126 [l0, l1, l2, l3, l4] [aI 1, s0, s1] M S := go_nx rfl rfl
set_option maxRecDepth 20000 in
theorem g128_126 (r : Nat) (l0 l1 l2 l3 l4 : Option AV) (s0 s1 s2 : AV) (M : Mem) (S : Sh) : go r 128 126 [l0, l1, l2, l3, l4] [s0, s1, s2] M S = go r 128 130 [l0, l1, l2, l3, l4] [s0, s1, s2] M S := go_nx rfl rfl
set_option maxRecDepth 20000 in
theorem g128_129 (r : Nat) (l0 l1 l2 l3 l4 : Option AV) (s0 s1 : AV) (M : Mem) (S : Sh) : go r 128 129 [l0, l1, l2, l3, l4] [s0, s1] M S = go r 128 130 [l0, l1, l2, l3, l4] [aI 0, s0, s1] M S := go_nx rfl rfl
set_option maxRecDepth 20000 in
theorem g128_130 (r : Nat) (l0 l1 l2 l3 l4 : Option AV) (x y : Int) (a : Nat) (M : Mem) (S : Sh) (h : S.1 a = 7) (h6 : 6 ≤ a) (h0 : 0 ≤ x) (h1 : x < S.2.1 a) : go r 128 130 [l0, l1, l2, l3, l4] [aI y, aI x, aR a] M S = go r 128 131 [l0, l1, l2, l3, l4] [] (mset M a x.toNat y) S := go_bnd rfl ⟨h, h6, h0, h1⟩ rfl
set_option maxRecDepth 20000 in
theorem g128_131 (r : Nat) (l0 l1 l2 l3 l4 : Option AV) (M : Mem) (S : Sh) : go r 128 131 [l0, l1, l2, l3, l4] [] M S = go r 128 191 [l0, l1, l2, l3, l4] [] M S := go_nx rfl rfl
set_option maxRecDepth 20000 in
theorem g128_134 (r : Nat) (l0 l1 l2 l3 : Option AV) (x : Int) (M : Mem) (S : Sh) : go r 128 134 [l0, l1, l2, l3, some (aI x)] [] M S = go r 128 136 [l0, l1, l2, l3, some (aI x)] [aI x] M S := go_nx rfl rfl
set_option maxRecDepth 20000 in
theorem g128_136 (r : Nat) (l0 l1 l2 l3 l4 : Option AV) (s0 : AV) (M : Mem) (S : Sh) : go r 128 136 [l0, l1, l2, l3, l4] [s0] M S = go r 128 138 [l0, l1, l2, l3, l4] [aI 19, s0] M S := go_nx rfl rfl
set_option maxRecDepth 20000 in
theorem g128_138 (r : Nat) (l0 l1 l2 l3 l4 : Option AV) (x y : Int) (M : Mem) (S : Sh) : go r 128 138 [l0, l1, l2, l3, l4] [aI y, aI x] M S = if x ≠ y then go r 128 161 [l0, l1, l2, l3, l4] [] M S else go r 128 141 [l0, l1, l2, l3, l4] [] M S := go_br rfl rfl rfl rfl rfl
set_option maxRecDepth 20000 in
theorem g128_141 (r : Nat) (l1 l2 l3 l4 : Option AV) (a : Nat) (M : Mem) (S : Sh) : go r 128 141 [some (aR a), l1, l2, l3, l4] [] M S = go r 128 142 [some (aR a), l1, l2, l3, l4] [aR a] M S := go_nx rfl rfl
set_option maxRecDepth 20000 in
theorem g128_142 (r : Nat) (l0 l1 l2 l3 l4 : Option AV) (a : Nat) (M : Mem) (S : Sh) (h : S.1 a = 6) : go r 128 142 [l0, l1, l2, l3, l4] [aR a] M S = go r 128 145 [l0, l1, l2, l3, l4] [aO (S.2.2.1 a 35)] M S := go_bnd rfl h rfl
set_option maxRecDepth 20000 in
theorem g128_145 (r : Nat) (l0 l1 l3 l4 : Option AV) (s0 : AV) (x : Int) (M : Mem) (S : Sh) : go r 128 145 [l0, l1, some (aI x), l3, l4] [s0] M S = go r 128 146 [l0, l1, some (aI x), l3, l4] [aI x, s0] M S := go_nx rfl rfl
set_option maxRecDepth 20000 in
theorem g128_146 (r : Nat) (l0 l1 l2 l3 l4 : Option AV) (s0 s1 : AV) (M : Mem) (S : Sh) : go r 128 146 [l0, l1, l2, l3, l4] [s0, s1] M S = go r 128 147 [l0, l1, l2, l3, l4] [aI 1, s0, s1] M S := go_nx rfl rfl
set_option maxRecDepth 20000 in
theorem g128_147 (r : Nat) (l0 l1 l2 l3 l4 : Option AV) (s0 : AV) (x y : Int) (M : Mem) (S : Sh) : go r 128 147 [l0, l1, l2, l3, l4] [aI y, aI x, s0] M S = go r 128 148 [l0, l1, l2, l3, l4] [aI (w32 (x - y)), s0] M S := go_nx rfl rfl
set_option maxRecDepth 20000 in
theorem g128_148 (r : Nat) (l1 l2 l3 l4 : Option AV) (s0 s1 : AV) (a : Nat) (M : Mem) (S : Sh) : go r 128 148 [some (aR a), l1, l2, l3, l4] [s0, s1] M S = go r 128 149 [some (aR a), l1, l2, l3, l4] [aR a, s0, s1] M S := go_nx rfl rfl
set_option maxRecDepth 20000 in
theorem g128_149 (r : Nat) (l0 l1 l2 l3 l4 : Option AV) (s0 s1 : AV) (a : Nat) (M : Mem) (S : Sh) (h : S.1 a = 6) : go r 128 149 [l0, l1, l2, l3, l4] [aR a, s0, s1] M S = go r 128 152 [l0, l1, l2, l3, l4] [aO (S.2.2.1 a 35), s0, s1] M S := go_bnd rfl h rfl
set_option maxRecDepth 20000 in
theorem g128_152 (r : Nat) (l0 l1 l3 l4 : Option AV) (s0 s1 s2 : AV) (x : Int) (M : Mem) (S : Sh) : go r 128 152 [l0, l1, some (aI x), l3, l4] [s0, s1, s2] M S = go r 128 153 [l0, l1, some (aI x), l3, l4] [aI x, s0, s1, s2] M S := go_nx rfl rfl
set_option maxRecDepth 20000 in
theorem g128_153 (r : Nat) (l0 l1 l2 l3 l4 : Option AV) (s0 s1 s2 s3 : AV) (M : Mem) (S : Sh) : go r 128 153 [l0, l1, l2, l3, l4] [s0, s1, s2, s3] M S = go r 128 154 [l0, l1, l2, l3, l4] [aI 1, s0, s1, s2, s3] M S := go_nx rfl rfl
set_option maxRecDepth 20000 in
theorem g128_154 (r : Nat) (l0 l1 l2 l3 l4 : Option AV) (s0 s1 s2 : AV) (x y : Int) (M : Mem) (S : Sh) : go r 128 154 [l0, l1, l2, l3, l4] [aI y, aI x, s0, s1, s2] M S = go r 128 155 [l0, l1, l2, l3, l4] [aI (w32 (x - y)), s0, s1, s2] M S := go_nx rfl rfl
set_option maxRecDepth 20000 in
theorem g128_155 (r : Nat) (l0 l1 l2 l3 l4 : Option AV) (s0 s1 : AV) (x : Int) (a : Nat) (M : Mem) (S : Sh) (h : S.1 a = 7) (h0 : 0 ≤ x) (h1 : x < S.2.1 a) : go r 128 155 [l0, l1, l2, l3, l4] [aI x, aR a, s0, s1] M S = go r 128 156 [l0, l1, l2, l3, l4] [aI (M a x.toNat), s0, s1] M S := go_bnd rfl ⟨h, h0, h1⟩ rfl
set_option maxRecDepth 20000 in
theorem g128_156 (r : Nat) (l0 l1 l2 l3 l4 : Option AV) (s0 s1 : AV) (x : Int) (M : Mem) (S : Sh) : go r 128 156 [l0, l1, l2, l3, l4] [aI x, s0, s1] M S = go r 128 157 [l0, l1, l2, l3, l4] [aI (w32 (-x)), s0, s1] M S := go_nx rfl rfl
set_option maxRecDepth 20000 in
theorem g128_157 (r : Nat) (l0 l1 l2 l3 l4 : Option AV) (x y : Int) (a : Nat) (M : Mem) (S : Sh) (h : S.1 a = 7) (h6 : 6 ≤ a) (h0 : 0 ≤ x) (h1 : x < S.2.1 a) : go r 128 157 [l0, l1, l2, l3, l4] [aI y, aI x, aR a] M S = go r 128 158 [l0, l1, l2, l3, l4] [] (mset M a x.toNat y) S := go_bnd rfl ⟨h, h6, h0, h1⟩ rfl
set_option maxRecDepth 20000 in
theorem g128_158 (r : Nat) (l0 l1 l2 l3 l4 : Option AV) (M : Mem) (S : Sh) : go r 128 158 [l0, l1, l2, l3, l4] [] M S = go r 128 191 [l0, l1, l2, l3, l4] [] M S := go_nx rfl rfl
set_option maxRecDepth 20000 in
theorem g128_161 (r : Nat) (l0 l1 l3 l4 : Option AV) (x : Int) (M : Mem) (S : Sh) : go r 128 161 [l0, l1, some (aI x), l3, l4] [] M S = go r 128 164 [l0, l1, some (aI (w32 (x + (-1)))), l3, l4] [] M S := go_nx rfl rfl
set_option maxRecDepth 20000 in
theorem g128_164 (r : Nat) (l1 l2 l3 l4 : Option AV) (a : Nat) (M : Mem) (S : Sh) : go r 128 164 [some (aR a), l1, l2, l3, l4] [] M S = go r 128 165 [some (aR a), l1, l2, l3, l4] [aR a] M S := go_nx rfl rfl
set_option maxRecDepth 20000 in
theorem g128_165 (r : Nat) (l0 l1 l2 l3 l4 : Option AV) (a : Nat) (M : Mem) (S : Sh) (h : S.1 a = 6) : go r 128 165 [l0, l1, l2, l3, l4] [aR a] M S = go r 128 168 [l0, l1, l2, l3, l4] [aO (S.2.2.1 a 35)] M S := go_bnd rfl h rfl
set_option maxRecDepth 20000 in
theorem g128_168 (r : Nat) (l0 l1 l3 l4 : Option AV) (s0 : AV) (x : Int) (M : Mem) (S : Sh) : go r 128 168 [l0, l1, some (aI x), l3, l4] [s0] M S = go r 128 169 [l0, l1, some (aI x), l3, l4] [aI x, s0] M S := go_nx rfl rfl
set_option maxRecDepth 20000 in
theorem g128_169 (r : Nat) (l0 l1 l2 l3 l4 : Option AV) (s0 s1 : AV) (M : Mem) (S : Sh) : go r 128 169 [l0, l1, l2, l3, l4] [s0, s1] M S = go r 128 170 [l0, l1, l2, l3, l4] [aI 1, s0, s1] M S := go_nx rfl rfl
set_option maxRecDepth 20000 in
theorem g128_170 (r : Nat) (l0 l1 l2 l3 l4 : Option AV) (s0 : AV) (x y : Int) (M : Mem) (S : Sh) : go r 128 170 [l0, l1, l2, l3, l4] [aI y, aI x, s0] M S = go r 128 171 [l0, l1, l2, l3, l4] [aI (w32 (x - y)), s0] M S := go_nx rfl rfl
set_option maxRecDepth 20000 in
theorem g128_171 (r : Nat) (l0 l1 l2 l3 : Option AV) (s0 s1 : AV) (x : Int) (M : Mem) (S : Sh) : go r 128 171 [l0, l1, l2, l3, some (aI x)] [s0, s1] M S = go r 128 173 [l0, l1, l2, l3, some (aI x)] [aI x, s0, s1] M S := go_nx rfl rfl
set_option maxRecDepth 20000 in
theorem g128_173 (r : Nat) (l1 l2 l3 l4 : Option AV) (s0 s1 s2 : AV) (a : Nat) (M : Mem) (S : Sh) : go r 128 173 [some (aR a), l1, l2, l3, l4] [s0, s1, s2] M S = go r 128 174 [some (aR a), l1, l2, l3, l4] [aR a, s0, s1, s2] M S := go_nx rfl rfl
set_option maxRecDepth 20000 in
theorem g128_174 (r : Nat) (l0 l1 l2 l3 l4 : Option AV) (s0 s1 s2 : AV) (a : Nat) (M : Mem) (S : Sh) (h : S.1 a = 6) : go r 128 174 [l0, l1, l2, l3, l4] [aR a, s0, s1, s2] M S = go r 128 177 [l0, l1, l2, l3, l4] [aO (S.2.2.1 a 35), s0, s1, s2] M S := go_bnd rfl h rfl
set_option maxRecDepth 20000 in
theorem g128_177 (r : Nat) (l0 l1 l3 l4 : Option AV) (s0 s1 s2 s3 : AV) (x : Int) (M : Mem) (S : Sh) : go r 128 177 [l0, l1, some (aI x), l3, l4] [s0, s1, s2, s3] M S = go r 128 178 [l0, l1, some (aI x), l3, l4] [aI x, s0, s1, s2, s3] M S := go_nx rfl rfl
set_option maxRecDepth 20000 in
theorem g128_178 (r : Nat) (l0 l1 l2 l3 l4 : Option AV) (s0 s1 s2 s3 s4 : AV) (M : Mem) (S : Sh) : go r 128 178 [l0, l1, l2, l3, l4] [s0, s1, s2, s3, s4] M S = go r 128 179 [l0, l1, l2, l3, l4] [aI 1, s0, s1, s2, s3, s4] M S := go_nx rfl rfl
set_option maxRecDepth 20000 in
theorem g128_179 (r : Nat) (l0 l1 l2 l3 l4 : Option AV) (s0 s1 s2 s3 : AV) (x y : Int) (M : Mem) (S : Sh) : go r 128 179 [l0, l1, l2, l3, l4] [aI y, aI x, s0, s1, s2, s3] M S = go r 128 180 [l0, l1, l2, l3, l4] [aI (w32 (x - y)), s0, s1, s2, s3] M S := go_nx rfl rfl
set_option maxRecDepth 20000 in
theorem g128_180 (r : Nat) (l0 l1 l2 l3 l4 : Option AV) (s0 s1 s2 : AV) (x : Int) (a : Nat) (M : Mem) (S : Sh) (h : S.1 a = 7) (h0 : 0 ≤ x) (h1 : x < S.2.1 a) : go r 128 180 [l0, l1, l2, l3, l4] [aI x, aR a, s0, s1, s2] M S = go r 128 181 [l0, l1, l2, l3, l4] [aI (M a x.toNat), s0, s1, s2] M S := go_bnd rfl ⟨h, h0, h1⟩ rfl
set_option maxRecDepth 20000 in
theorem g128_181 (r : Nat) (l1 l2 l3 l4 : Option AV) (s0 s1 s2 s3 : AV) (a : Nat) (M : Mem) (S : Sh) : go r 128 181 [some (aR a), l1, l2, l3, l4] [s0, s1, s2, s3] M S = go r 128 182 [some (aR a), l1, l2, l3, l4] [aR a, s0, s1, s2, s3] M S := go_nx rfl rfl
set_option maxRecDepth 20000 in
theorem g128_182 (r : Nat) (l0 l1 l2 l3 l4 : Option AV) (s0 s1 s2 s3 : AV) (a : Nat) (M : Mem) (S : Sh) (h : S.1 a = 6) : go r 128 182 [l0, l1, l2, l3, l4] [aR a, s0, s1, s2, s3] M S = go r 128 185 [l0, l1, l2, l3, l4] [aO (S.2.2.1 a 35), s0, s1, s2, s3] M S := go_bnd rfl h rfl
set_option maxRecDepth 20000 in
theorem g128_185 (r : Nat) (l0 l1 l3 l4 : Option AV) (s0 s1 s2 s3 s4 : AV) (x : Int) (M : Mem) (S : Sh) : go r 128 185 [l0, l1, some (aI x), l3, l4] [s0, s1, s2, s3, s4] M S = go r 128 186 [l0, l1, some (aI x), l3, l4] [aI x, s0, s1, s2, s3, s4] M S := go_nx rfl rfl
set_option maxRecDepth 20000 in
theorem g128_186 (r : Nat) (l0 l1 l2 l3 l4 : Option AV) (s0 s1 s2 s3 : AV) (x : Int) (a : Nat) (M : Mem) (S : Sh) (h : S.1 a = 7) (h0 : 0 ≤ x) (h1 : x < S.2.1 a) : go r 128 186 [l0, l1, l2, l3, l4] [aI x, aR a, s0, s1, s2, s3] M S = go r 128 187 [l0, l1, l2, l3, l4] [aI (M a x.toNat), s0, s1, s2, s3] M S := go_bnd rfl ⟨h, h0, h1⟩ rfl
set_option maxRecDepth 20000 in
theorem g128_187 (r : Nat) (l0 l1 l2 l3 l4 : Option AV) (s0 s1 : AV) (x0 x1 x2 : Int) (M : Mem) (S : Sh) (hk : 10 < r) : go r 128 187 [l0, l1, l2, l3, l4] [aI x2, aI x1, aI x0, s0, s1] M S = cont r 128 190 [l0, l1, l2, l3, l4] [s0, s1] 1 (res 127 [aI x0, aI x1, aI x2] M S) := go_c0 (m' := 127) (n := 3) (pc' := 190) (hr := 1) rfl rfl rfl rfl rfl rfl hk rfl
set_option maxRecDepth 20000 in
theorem g128_190 (r : Nat) (l0 l1 l2 l3 l4 : Option AV) (x y : Int) (a : Nat) (M : Mem) (S : Sh) (h : S.1 a = 7) (h6 : 6 ≤ a) (h0 : 0 ≤ x) (h1 : x < S.2.1 a) : go r 128 190 [l0, l1, l2, l3, l4] [aI y, aI x, aR a] M S = go r 128 191 [l0, l1, l2, l3, l4] [] (mset M a x.toNat y) S := go_bnd rfl ⟨h, h6, h0, h1⟩ rfl
set_option maxRecDepth 20000 in
theorem g128_191 (r : Nat) (l0 l1 l2 l4 : Option AV) (x : Int) (M : Mem) (S : Sh) : go r 128 191 [l0, l1, l2, some (aI x), l4] [] M S = go r 128 194 [l0, l1, l2, some (aI (w32 (x + 1))), l4] [] M S := go_nx rfl rfl
set_option maxRecDepth 20000 in
theorem g128_194 (r : Nat) (l0 l1 l2 l3 l4 : Option AV) (M : Mem) (S : Sh) : go r 128 194 [l0, l1, l2, l3, l4] [] M S = go r 128 16 [l0, l1, l2, l3, l4] [] M S := go_nx rfl rfl
set_option maxRecDepth 20000 in
theorem g128_197 (r : Nat) (l1 l2 l3 l4 : Option AV) (a : Nat) (M : Mem) (S : Sh) : go r 128 197 [some (aR a), l1, l2, l3, l4] [] M S = go r 128 198 [some (aR a), l1, l2, l3, l4] [aR a] M S := go_nx rfl rfl
set_option maxRecDepth 20000 in
theorem g128_198 (r : Nat) (l0 l1 l2 l3 l4 : Option AV) (a : Nat) (M : Mem) (S : Sh) (h : S.1 a = 6) : go r 128 198 [l0, l1, l2, l3, l4] [aR a] M S = go r 128 201 [l0, l1, l2, l3, l4] [aO (S.2.2.1 a 35)] M S := go_bnd rfl h rfl
set_option maxRecDepth 20000 in
theorem g128_201 (r : Nat) (l0 l1 l2 l3 l4 : Option AV) (s0 : AV) (M : Mem) (S : Sh) : go r 128 201 [l0, l1, l2, l3, l4] [s0] M S = go r 128 202 [l0, l1, l2, l3, l4] [aI 0, s0] M S := go_nx rfl rfl
set_option maxRecDepth 20000 in
theorem g128_202 (r : Nat) (l0 l1 l2 l3 l4 : Option AV) (x : Int) (a : Nat) (M : Mem) (S : Sh) (h : S.1 a = 7) (h0 : 0 ≤ x) (h1 : x < S.2.1 a) : go r 128 202 [l0, l1, l2, l3, l4] [aI x, aR a] M S = go r 128 203 [l0, l1, l2, l3, l4] [aI (M a x.toNat)] M S := go_bnd rfl ⟨h, h0, h1⟩ rfl
set_option maxRecDepth 20000 in
theorem g128_203 (r : Nat) (l0 l1 l2 l3 l4 : Option AV) (x : Int) (M : Mem) (S : Sh) : go r 128 203 [l0, l1, l2, l3, l4] [aI x] M S = some (some (aI x), M, S) := go_rt rfl (bnd_t (Or.inl rfl))
/-- StripsFromAboveModel.force(I)I -/
theorem g129 (x1 : Int) (a0 : Nat) (M : Mem) (S : Sh) : res 129 [aR a0, aI x1] M S = go 11 129 0 [some (aR a0), some (aI x1), none] [] M S := res_e0 rfl _ M S
theorem g129_0 (r : Nat) (l0 l2 : Option AV) (x : Int) (M : Mem) (S : Sh) : go r 129 0 [l0, some (aI x), l2] [] M S = go r 129 1 [l0, some (aI x), l2] [aI x] M S := go_nx rfl rfl
theorem g129_1 (r : Nat) (l0 l1 l2 : Option AV) (s0 : AV) (M : Mem) (S : Sh) : go r 129 1 [l0, l1, l2] [s0] M S = go r 129 2 [l0, l1, l2] [aI 0, s0] M S := go_nx rfl rfl
theorem g129_2 (r : Nat) (l1 l2 : Option AV) (s0 s1 : AV) (a : Nat) (M : Mem) (S : Sh) : go r 129 2 [some (aR a), l1, l2] [s0, s1] M S = go r 129 3 [some (aR a), l1, l2] [aR a, s0, s1] M S := go_nx rfl rfl
theorem g129_3 (r : Nat) (l0 l1 l2 : Option AV) (s0 s1 : AV) (a : Nat) (M : Mem) (S : Sh) (h : S.1 a = 6) : go r 129 3 [l0, l1, l2] [aR a, s0, s1] M S = go r 129 6 [l0, l1, l2] [aI (M a 16), s0, s1] M S := go_bnd rfl h rfl
theorem g129_6 (r : Nat) (l0 l1 l2 : Option AV) (s0 s1 s2 : AV) (M : Mem) (S : Sh) : go r 129 6 [l0, l1, l2] [s0, s1, s2] M S = go r 129 7 [l0, l1, l2] [aI 1, s0, s1, s2] M S := go_nx rfl rfl
theorem g129_7 (r : Nat) (l0 l1 l2 : Option AV) (s0 s1 : AV) (x y : Int) (M : Mem) (S : Sh) : go r 129 7 [l0, l1, l2] [aI y, aI x, s0, s1] M S = go r 129 8 [l0, l1, l2] [aI (w32 (x - y)), s0, s1] M S := go_nx rfl rfl
theorem g129_8 (r : Nat) (l0 l1 l2 : Option AV) (x0 x1 x2 : Int) (M : Mem) (S : Sh) (hk : 10 < r) : go r 129 8 [l0, l1, l2] [aI x2, aI x1, aI x0] M S = cont r 129 11 [l0, l1, l2] [] 1 (res 106 [aI x0, aI x1, aI x2] M S) := go_c0 (m' := 106) (n := 3) (pc' := 11) (hr := 1) rfl rfl rfl rfl rfl rfl hk rfl
theorem g129_11 (r : Nat) (l0 l1 l2 : Option AV) (x : Int) (M : Mem) (S : Sh) : go r 129 11 [l0, l1, l2] [aI x] M S = if x ≠ 0 then go r 129 17 [l0, l1, l2] [] M S else go r 129 14 [l0, l1, l2] [] M S := go_br rfl rfl rfl rfl rfl
theorem g129_14 (r : Nat) (l0 l1 l2 : Option AV) (M : Mem) (S : Sh) : go r 129 14 [l0, l1, l2] [] M S = go r 129 16 [l0, l1, l2] [aI (-2)] M S := go_nx rfl rfl
theorem g129_16 (r : Nat) (l0 l1 l2 : Option AV) (x : Int) (M : Mem) (S : Sh) : go r 129 16 [l0, l1, l2] [aI x] M S = some (some (aI x), M, S) := go_rt rfl (bnd_t (Or.inl rfl))
theorem g129_17 (r : Nat) (l1 l2 : Option AV) (a : Nat) (M : Mem) (S : Sh) : go r 129 17 [some (aR a), l1, l2] [] M S = go r 129 18 [some (aR a), l1, l2] [aR a] M S := go_nx rfl rfl
theorem g129_18 (r : Nat) (l0 l1 l2 : Option AV) (a : Nat) (M : Mem) (S : Sh) (h : S.1 a = 6) : go r 129 18 [l0, l1, l2] [aR a] M S = go r 129 21 [l0, l1, l2] [aI (M a 17)] M S := go_bnd rfl h rfl
theorem g129_21 (r : Nat) (l0 l1 l2 : Option AV) (x : Int) (M : Mem) (S : Sh) : go r 129 21 [l0, l1, l2] [aI x] M S = go r 129 22 [l0, l1, some (aI x)] [] M S := go_nx rfl rfl
theorem g129_22 (r : Nat) (l1 l2 : Option AV) (a : Nat) (M : Mem) (S : Sh) : go r 129 22 [some (aR a), l1, l2] [] M S = go r 129 23 [some (aR a), l1, l2] [aR a] M S := go_nx rfl rfl
theorem g129_23 (r : Nat) (l0 l2 : Option AV) (s0 : AV) (x : Int) (M : Mem) (S : Sh) : go r 129 23 [l0, some (aI x), l2] [s0] M S = go r 129 24 [l0, some (aI x), l2] [aI x, s0] M S := go_nx rfl rfl
theorem g129_24 (r : Nat) (l0 l1 l2 : Option AV) (x : Int) (a : Nat) (M : Mem) (S : Sh) (h : S.1 a = 6) : go r 129 24 [l0, l1, l2] [aI x, aR a] M S = go r 129 27 [l0, l1, l2] [] (mset M a 17 x) S := go_bnd rfl ⟨h, fun z => absurd z (by decide)⟩ rfl
theorem g129_27 (r : Nat) (l0 l1 : Option AV) (x : Int) (M : Mem) (S : Sh) : go r 129 27 [l0, l1, some (aI x)] [] M S = go r 129 28 [l0, l1, some (aI x)] [aI x] M S := go_nx rfl rfl
theorem g129_28 (r : Nat) (l0 l1 l2 : Option AV) (x : Int) (M : Mem) (S : Sh) : go r 129 28 [l0, l1, l2] [aI x] M S = some (some (aI x), M, S) := go_rt rfl (bnd_t (Or.inl rfl))
/-- StripsFromAboveModel.asksOf(IIII)I -/
theorem g130 (x1 x2 x3 x4 : Int) (a0 : Nat) (M : Mem) (S : Sh) : res 130 [aR a0, aI x1, aI x2, aI x3, aI x4] M S = go 12 130 0 [some (aR a0), some (aI x1), some (aI x2), some (aI x3), some (aI x4)] [] M S := res_e0 rfl _ M S
theorem g130_0 (r : Nat) (l1 l2 l3 l4 : Option AV) (a : Nat) (M : Mem) (S : Sh) : go r 130 0 [some (aR a), l1, l2, l3, l4] [] M S = go r 130 1 [some (aR a), l1, l2, l3, l4] [aR a] M S := go_nx rfl rfl
theorem g130_1 (r : Nat) (l0 l1 l2 l3 l4 : Option AV) (a : Nat) (M : Mem) (S : Sh) (h : S.1 a = 6) : go r 130 1 [l0, l1, l2, l3, l4] [aR a] M S = go r 130 4 [l0, l1, l2, l3, l4] [aO (S.2.2.1 a 36)] M S := go_bnd rfl h rfl
theorem g130_4 (r : Nat) (l0 l1 l2 l3 l4 : Option AV) (s0 : AV) (M : Mem) (S : Sh) : go r 130 4 [l0, l1, l2, l3, l4] [s0] M S = go r 130 5 [l0, l1, l2, l3, l4] [aI 0, s0] M S := go_nx rfl rfl
theorem g130_5 (r : Nat) (l1 l2 l3 l4 : Option AV) (s0 s1 : AV) (a : Nat) (M : Mem) (S : Sh) : go r 130 5 [some (aR a), l1, l2, l3, l4] [s0, s1] M S = go r 130 6 [some (aR a), l1, l2, l3, l4] [aR a, s0, s1] M S := go_nx rfl rfl
theorem g130_6 (r : Nat) (l0 l1 l2 l3 l4 : Option AV) (s0 s1 : AV) (a : Nat) (M : Mem) (S : Sh) (h : S.1 a = 6) : go r 130 6 [l0, l1, l2, l3, l4] [aR a, s0, s1] M S = go r 130 9 [l0, l1, l2, l3, l4] [aO (S.2.2.1 a 0), s0, s1] M S := go_bnd rfl h rfl
theorem g130_9 (r : Nat) (l0 l1 l2 l4 : Option AV) (s0 s1 s2 : AV) (x : Int) (M : Mem) (S : Sh) : go r 130 9 [l0, l1, l2, some (aI x), l4] [s0, s1, s2] M S = go r 130 10 [l0, l1, l2, some (aI x), l4] [aI x, s0, s1, s2] M S := go_nx rfl rfl
theorem g130_10 (r : Nat) (l0 l1 l2 l3 l4 : Option AV) (s0 s1 : AV) (x : Int) (a : Nat) (M : Mem) (S : Sh) (h : S.1 a = 7) (h0 : 0 ≤ x) (h1 : x < S.2.1 a) : go r 130 10 [l0, l1, l2, l3, l4] [aI x, aR a, s0, s1] M S = go r 130 11 [l0, l1, l2, l3, l4] [aI (M a x.toNat), s0, s1] M S := go_bnd rfl ⟨h, h0, h1⟩ rfl
theorem g130_11 (r : Nat) (l0 l1 l2 l3 l4 : Option AV) (x y : Int) (a : Nat) (M : Mem) (S : Sh) (h : S.1 a = 7) (h6 : 6 ≤ a) (h0 : 0 ≤ x) (h1 : x < S.2.1 a) : go r 130 11 [l0, l1, l2, l3, l4] [aI y, aI x, aR a] M S = go r 130 12 [l0, l1, l2, l3, l4] [] (mset M a x.toNat y) S := go_bnd rfl ⟨h, h6, h0, h1⟩ rfl
theorem g130_12 (r : Nat) (l1 l2 l3 l4 : Option AV) (a : Nat) (M : Mem) (S : Sh) : go r 130 12 [some (aR a), l1, l2, l3, l4] [] M S = go r 130 13 [some (aR a), l1, l2, l3, l4] [aR a] M S := go_nx rfl rfl
theorem g130_13 (r : Nat) (l0 l1 l2 l3 l4 : Option AV) (a : Nat) (M : Mem) (S : Sh) (h : S.1 a = 6) : go r 130 13 [l0, l1, l2, l3, l4] [aR a] M S = go r 130 16 [l0, l1, l2, l3, l4] [aO (S.2.2.1 a 36)] M S := go_bnd rfl h rfl
theorem g130_16 (r : Nat) (l0 l1 l2 l3 l4 : Option AV) (s0 : AV) (M : Mem) (S : Sh) : go r 130 16 [l0, l1, l2, l3, l4] [s0] M S = go r 130 17 [l0, l1, l2, l3, l4] [aI 1, s0] M S := go_nx rfl rfl
theorem g130_17 (r : Nat) (l1 l2 l3 l4 : Option AV) (s0 s1 : AV) (a : Nat) (M : Mem) (S : Sh) : go r 130 17 [some (aR a), l1, l2, l3, l4] [s0, s1] M S = go r 130 18 [some (aR a), l1, l2, l3, l4] [aR a, s0, s1] M S := go_nx rfl rfl
theorem g130_18 (r : Nat) (l0 l1 l2 l3 l4 : Option AV) (s0 s1 : AV) (a : Nat) (M : Mem) (S : Sh) (h : S.1 a = 6) : go r 130 18 [l0, l1, l2, l3, l4] [aR a, s0, s1] M S = go r 130 21 [l0, l1, l2, l3, l4] [aI (M a 2), s0, s1] M S := go_bnd rfl h rfl
theorem g130_21 (r : Nat) (l0 l1 l2 l3 l4 : Option AV) (x y : Int) (a : Nat) (M : Mem) (S : Sh) (h : S.1 a = 7) (h6 : 6 ≤ a) (h0 : 0 ≤ x) (h1 : x < S.2.1 a) : go r 130 21 [l0, l1, l2, l3, l4] [aI y, aI x, aR a] M S = go r 130 22 [l0, l1, l2, l3, l4] [] (mset M a x.toNat y) S := go_bnd rfl ⟨h, h6, h0, h1⟩ rfl
theorem g130_22 (r : Nat) (l1 l2 l3 l4 : Option AV) (a : Nat) (M : Mem) (S : Sh) : go r 130 22 [some (aR a), l1, l2, l3, l4] [] M S = go r 130 23 [some (aR a), l1, l2, l3, l4] [aR a] M S := go_nx rfl rfl
theorem g130_23 (r : Nat) (l0 l1 l2 l3 l4 : Option AV) (a : Nat) (M : Mem) (S : Sh) (h : S.1 a = 6) : go r 130 23 [l0, l1, l2, l3, l4] [aR a] M S = go r 130 26 [l0, l1, l2, l3, l4] [aO (S.2.2.1 a 36)] M S := go_bnd rfl h rfl
theorem g130_26 (r : Nat) (l0 l1 l2 l3 l4 : Option AV) (s0 : AV) (M : Mem) (S : Sh) : go r 130 26 [l0, l1, l2, l3, l4] [s0] M S = go r 130 27 [l0, l1, l2, l3, l4] [aI 2, s0] M S := go_nx rfl rfl
theorem g130_27 (r : Nat) (l1 l2 l3 l4 : Option AV) (s0 s1 : AV) (a : Nat) (M : Mem) (S : Sh) : go r 130 27 [some (aR a), l1, l2, l3, l4] [s0, s1] M S = go r 130 28 [some (aR a), l1, l2, l3, l4] [aR a, s0, s1] M S := go_nx rfl rfl
theorem g130_28 (r : Nat) (l0 l1 l2 l3 l4 : Option AV) (s0 s1 : AV) (a : Nat) (M : Mem) (S : Sh) (h : S.1 a = 6) : go r 130 28 [l0, l1, l2, l3, l4] [aR a, s0, s1] M S = go r 130 31 [l0, l1, l2, l3, l4] [aO (S.2.2.1 a 7), s0, s1] M S := go_bnd rfl h rfl
theorem g130_31 (r : Nat) (l0 l1 l3 l4 : Option AV) (s0 s1 s2 : AV) (x : Int) (M : Mem) (S : Sh) : go r 130 31 [l0, l1, some (aI x), l3, l4] [s0, s1, s2] M S = go r 130 32 [l0, l1, some (aI x), l3, l4] [aI x, s0, s1, s2] M S := go_nx rfl rfl
theorem g130_32 (r : Nat) (l0 l1 l2 l3 l4 : Option AV) (s0 s1 : AV) (x : Int) (a : Nat) (M : Mem) (S : Sh) (h : S.1 a = 7) (h0 : 0 ≤ x) (h1 : x < S.2.1 a) : go r 130 32 [l0, l1, l2, l3, l4] [aI x, aR a, s0, s1] M S = go r 130 33 [l0, l1, l2, l3, l4] [aI (M a x.toNat), s0, s1] M S := go_bnd rfl ⟨h, h0, h1⟩ rfl
theorem g130_33 (r : Nat) (l0 l1 l2 l3 l4 : Option AV) (x y : Int) (a : Nat) (M : Mem) (S : Sh) (h : S.1 a = 7) (h6 : 6 ≤ a) (h0 : 0 ≤ x) (h1 : x < S.2.1 a) : go r 130 33 [l0, l1, l2, l3, l4] [aI y, aI x, aR a] M S = go r 130 34 [l0, l1, l2, l3, l4] [] (mset M a x.toNat y) S := go_bnd rfl ⟨h, h6, h0, h1⟩ rfl
theorem g130_34 (r : Nat) (l1 l2 l3 l4 : Option AV) (a : Nat) (M : Mem) (S : Sh) : go r 130 34 [some (aR a), l1, l2, l3, l4] [] M S = go r 130 35 [some (aR a), l1, l2, l3, l4] [aR a] M S := go_nx rfl rfl
theorem g130_35 (r : Nat) (l0 l1 l2 l3 l4 : Option AV) (a : Nat) (M : Mem) (S : Sh) (h : S.1 a = 6) : go r 130 35 [l0, l1, l2, l3, l4] [aR a] M S = go r 130 38 [l0, l1, l2, l3, l4] [aO (S.2.2.1 a 36)] M S := go_bnd rfl h rfl
theorem g130_38 (r : Nat) (l0 l1 l2 l3 l4 : Option AV) (s0 : AV) (M : Mem) (S : Sh) : go r 130 38 [l0, l1, l2, l3, l4] [s0] M S = go r 130 39 [l0, l1, l2, l3, l4] [aI 3, s0] M S := go_nx rfl rfl
theorem g130_39 (r : Nat) (l1 l2 l3 l4 : Option AV) (s0 s1 : AV) (a : Nat) (M : Mem) (S : Sh) : go r 130 39 [some (aR a), l1, l2, l3, l4] [s0, s1] M S = go r 130 40 [some (aR a), l1, l2, l3, l4] [aR a, s0, s1] M S := go_nx rfl rfl
theorem g130_40 (r : Nat) (l0 l1 l2 l3 l4 : Option AV) (s0 s1 : AV) (a : Nat) (M : Mem) (S : Sh) (h : S.1 a = 6) : go r 130 40 [l0, l1, l2, l3, l4] [aR a, s0, s1] M S = go r 130 43 [l0, l1, l2, l3, l4] [aI (M a 3), s0, s1] M S := go_bnd rfl h rfl
theorem g130_43 (r : Nat) (l0 l1 l2 l3 l4 : Option AV) (x y : Int) (a : Nat) (M : Mem) (S : Sh) (h : S.1 a = 7) (h6 : 6 ≤ a) (h0 : 0 ≤ x) (h1 : x < S.2.1 a) : go r 130 43 [l0, l1, l2, l3, l4] [aI y, aI x, aR a] M S = go r 130 44 [l0, l1, l2, l3, l4] [] (mset M a x.toNat y) S := go_bnd rfl ⟨h, h6, h0, h1⟩ rfl
theorem g130_44 (r : Nat) (l1 l2 l3 l4 : Option AV) (a : Nat) (M : Mem) (S : Sh) : go r 130 44 [some (aR a), l1, l2, l3, l4] [] M S = go r 130 45 [some (aR a), l1, l2, l3, l4] [aR a] M S := go_nx rfl rfl
theorem g130_45 (r : Nat) (l0 l1 l2 l3 l4 : Option AV) (a : Nat) (M : Mem) (S : Sh) (h : S.1 a = 6) : go r 130 45 [l0, l1, l2, l3, l4] [aR a] M S = go r 130 48 [l0, l1, l2, l3, l4] [aO (S.2.2.1 a 36)] M S := go_bnd rfl h rfl
theorem g130_48 (r : Nat) (l0 l1 l2 l3 l4 : Option AV) (s0 : AV) (M : Mem) (S : Sh) : go r 130 48 [l0, l1, l2, l3, l4] [s0] M S = go r 130 49 [l0, l1, l2, l3, l4] [aI 4, s0] M S := go_nx rfl rfl
theorem g130_49 (r : Nat) (l0 l1 l2 l3 : Option AV) (s0 s1 : AV) (x : Int) (M : Mem) (S : Sh) : go r 130 49 [l0, l1, l2, l3, some (aI x)] [s0, s1] M S = go r 130 51 [l0, l1, l2, l3, some (aI x)] [aI x, s0, s1] M S := go_nx rfl rfl
theorem g130_51 (r : Nat) (l0 l1 l2 l3 l4 : Option AV) (s0 s1 s2 : AV) (M : Mem) (S : Sh) : go r 130 51 [l0, l1, l2, l3, l4] [s0, s1, s2] M S = go r 130 54 [l0, l1, l2, l3, l4] [aI 200, s0, s1, s2] M S := go_nx rfl rfl
theorem g130_54 (r : Nat) (l0 l1 l2 l3 l4 : Option AV) (s0 s1 : AV) (x y : Int) (M : Mem) (S : Sh) : go r 130 54 [l0, l1, l2, l3, l4] [aI y, aI x, s0, s1] M S = if x ≤ y then go r 130 63 [l0, l1, l2, l3, l4] [s0, s1] M S else go r 130 57 [l0, l1, l2, l3, l4] [s0, s1] M S := go_br rfl rfl rfl rfl rfl
theorem g130_57 (r : Nat) (l0 l1 l2 l3 l4 : Option AV) (s0 s1 : AV) (M : Mem) (S : Sh) : go r 130 57 [l0, l1, l2, l3, l4] [s0, s1] M S = go r 130 60 [l0, l1, l2, l3, l4] [aI 200, s0, s1] M S := go_nx rfl rfl
theorem g130_60 (r : Nat) (l0 l1 l2 l3 l4 : Option AV) (s0 s1 s2 : AV) (M : Mem) (S : Sh) : go r 130 60 [l0, l1, l2, l3, l4] [s0, s1, s2] M S = go r 130 65 [l0, l1, l2, l3, l4] [s0, s1, s2] M S := go_nx rfl rfl
theorem g130_63 (r : Nat) (l0 l1 l2 l3 : Option AV) (s0 s1 : AV) (x : Int) (M : Mem) (S : Sh) : go r 130 63 [l0, l1, l2, l3, some (aI x)] [s0, s1] M S = go r 130 65 [l0, l1, l2, l3, some (aI x)] [aI x, s0, s1] M S := go_nx rfl rfl
theorem g130_65 (r : Nat) (l0 l1 l2 l3 l4 : Option AV) (x y : Int) (a : Nat) (M : Mem) (S : Sh) (h : S.1 a = 7) (h6 : 6 ≤ a) (h0 : 0 ≤ x) (h1 : x < S.2.1 a) : go r 130 65 [l0, l1, l2, l3, l4] [aI y, aI x, aR a] M S = go r 130 66 [l0, l1, l2, l3, l4] [] (mset M a x.toNat y) S := go_bnd rfl ⟨h, h6, h0, h1⟩ rfl
theorem g130_66 (r : Nat) (l1 l2 l3 l4 : Option AV) (a : Nat) (M : Mem) (S : Sh) : go r 130 66 [some (aR a), l1, l2, l3, l4] [] M S = go r 130 67 [some (aR a), l1, l2, l3, l4] [aR a] M S := go_nx rfl rfl
theorem g130_67 (r : Nat) (l0 l1 l2 l3 l4 : Option AV) (a : Nat) (M : Mem) (S : Sh) (h : S.1 a = 6) : go r 130 67 [l0, l1, l2, l3, l4] [aR a] M S = go r 130 70 [l0, l1, l2, l3, l4] [aO (S.2.2.1 a 36)] M S := go_bnd rfl h rfl
theorem g130_70 (r : Nat) (l0 l1 l2 l3 l4 : Option AV) (s0 : AV) (M : Mem) (S : Sh) : go r 130 70 [l0, l1, l2, l3, l4] [s0] M S = go r 130 71 [l0, l1, l2, l3, l4] [aI 5, s0] M S := go_nx rfl rfl
theorem g130_71 (r : Nat) (l0 l1 l2 l4 : Option AV) (s0 s1 : AV) (x : Int) (M : Mem) (S : Sh) : go r 130 71 [l0, l1, l2, some (aI x), l4] [s0, s1] M S = go r 130 72 [l0, l1, l2, some (aI x), l4] [aI x, s0, s1] M S := go_nx rfl rfl
theorem g130_72 (r : Nat) (l0 l1 l2 l3 l4 : Option AV) (s0 s1 s2 : AV) (M : Mem) (S : Sh) : go r 130 72 [l0, l1, l2, l3, l4] [s0, s1, s2] M S = go r 130 74 [l0, l1, l2, l3, l4] [aI 12, s0, s1, s2] M S := go_nx rfl rfl
theorem g130_74 (r : Nat) (l0 l1 l2 l3 l4 : Option AV) (s0 s1 : AV) (x y : Int) (M : Mem) (S : Sh) (h : y ≠ 0) : go r 130 74 [l0, l1, l2, l3, l4] [aI y, aI x, s0, s1] M S = go r 130 75 [l0, l1, l2, l3, l4] [aI (w32 (Int.tdiv x y)), s0, s1] M S := go_bnd rfl h rfl
theorem g130_75 (r : Nat) (l0 l1 l2 l3 l4 : Option AV) (x y : Int) (a : Nat) (M : Mem) (S : Sh) (h : S.1 a = 7) (h6 : 6 ≤ a) (h0 : 0 ≤ x) (h1 : x < S.2.1 a) : go r 130 75 [l0, l1, l2, l3, l4] [aI y, aI x, aR a] M S = go r 130 76 [l0, l1, l2, l3, l4] [] (mset M a x.toNat y) S := go_bnd rfl ⟨h, h6, h0, h1⟩ rfl
theorem g130_76 (r : Nat) (l1 l2 l3 l4 : Option AV) (a : Nat) (M : Mem) (S : Sh) : go r 130 76 [some (aR a), l1, l2, l3, l4] [] M S = go r 130 77 [some (aR a), l1, l2, l3, l4] [aR a] M S := go_nx rfl rfl
theorem g130_77 (r : Nat) (l0 l2 l3 l4 : Option AV) (s0 : AV) (x : Int) (M : Mem) (S : Sh) : go r 130 77 [l0, some (aI x), l2, l3, l4] [s0] M S = go r 130 78 [l0, some (aI x), l2, l3, l4] [aI x, s0] M S := go_nx rfl rfl
theorem g130_78 (r : Nat) (l0 l1 l2 l3 l4 : Option AV) (x1 : Int) (a0 : Nat) (M : Mem) (S : Sh) (hk : 11 < r) (h : S.1 a0 = 6) : go r 130 78 [l0, l1, l2, l3, l4] [aI x1, aR a0] M S = cont r 130 81 [l0, l1, l2, l3, l4] [] 1 (res 128 [aR a0, aI x1] M S) := go_cr0 (m' := 128) (n := 2) (pc' := 81) (hr := 1) rfl rfl rfl h rfl rfl rfl rfl hk rfl
theorem g130_81 (r : Nat) (l0 l2 l3 l4 : Option AV) (s0 : AV) (x : Int) (M : Mem) (S : Sh) : go r 130 81 [l0, some (aI x), l2, l3, l4] [s0] M S = go r 130 82 [l0, some (aI x), l2, l3, l4] [aI x, s0] M S := go_nx rfl rfl
theorem g130_82 (r : Nat) (l0 l1 l2 l3 l4 : Option AV) (s0 s1 : AV) (M : Mem) (S : Sh) : go r 130 82 [l0, l1, l2, l3, l4] [s0, s1] M S = go r 130 83 [l0, l1, l2, l3, l4] [aI 1, s0, s1] M S := go_nx rfl rfl
theorem g130_83 (r : Nat) (l0 l1 l2 l3 l4 : Option AV) (s0 : AV) (x y : Int) (M : Mem) (S : Sh) : go r 130 83 [l0, l1, l2, l3, l4] [aI y, aI x, s0] M S = if x ≠ y then go r 130 91 [l0, l1, l2, l3, l4] [s0] M S else go r 130 86 [l0, l1, l2, l3, l4] [s0] M S := go_br rfl rfl rfl rfl rfl
theorem g130_86 (r : Nat) (l0 l1 l2 l3 l4 : Option AV) (s0 : AV) (M : Mem) (S : Sh) : go r 130 86 [l0, l1, l2, l3, l4] [s0] M S = go r 130 88 [l0, l1, l2, l3, l4] [aI (-9), s0] M S := go_nx rfl rfl
theorem g130_88 (r : Nat) (l0 l1 l2 l3 l4 : Option AV) (s0 s1 : AV) (M : Mem) (S : Sh) : go r 130 88 [l0, l1, l2, l3, l4] [s0, s1] M S = go r 130 92 [l0, l1, l2, l3, l4] [s0, s1] M S := go_nx rfl rfl
theorem g130_91 (r : Nat) (l0 l1 l2 l3 l4 : Option AV) (s0 : AV) (M : Mem) (S : Sh) : go r 130 91 [l0, l1, l2, l3, l4] [s0] M S = go r 130 92 [l0, l1, l2, l3, l4] [aI 0, s0] M S := go_nx rfl rfl
theorem g130_92 (r : Nat) (l0 l2 l3 l4 : Option AV) (s0 s1 : AV) (x : Int) (M : Mem) (S : Sh) : go r 130 92 [l0, some (aI x), l2, l3, l4] [s0, s1] M S = go r 130 93 [l0, some (aI x), l2, l3, l4] [aI x, s0, s1] M S := go_nx rfl rfl
theorem g130_93 (r : Nat) (l0 l1 l2 l3 l4 : Option AV) (s0 s1 s2 : AV) (M : Mem) (S : Sh) : go r 130 93 [l0, l1, l2, l3, l4] [s0, s1, s2] M S = go r 130 94 [l0, l1, l2, l3, l4] [aI 2, s0, s1, s2] M S := go_nx rfl rfl
theorem g130_94 (r : Nat) (l0 l1 l2 l3 l4 : Option AV) (s0 s1 : AV) (x y : Int) (M : Mem) (S : Sh) : go r 130 94 [l0, l1, l2, l3, l4] [aI y, aI x, s0, s1] M S = if x ≠ y then go r 130 102 [l0, l1, l2, l3, l4] [s0, s1] M S else go r 130 97 [l0, l1, l2, l3, l4] [s0, s1] M S := go_br rfl rfl rfl rfl rfl
theorem g130_97 (r : Nat) (l0 l1 l2 l3 l4 : Option AV) (s0 s1 : AV) (M : Mem) (S : Sh) : go r 130 97 [l0, l1, l2, l3, l4] [s0, s1] M S = go r 130 99 [l0, l1, l2, l3, l4] [aI 100, s0, s1] M S := go_nx rfl rfl
theorem g130_99 (r : Nat) (l0 l1 l2 l3 l4 : Option AV) (s0 s1 s2 : AV) (M : Mem) (S : Sh) : go r 130 99 [l0, l1, l2, l3, l4] [s0, s1, s2] M S = go r 130 104 [l0, l1, l2, l3, l4] [s0, s1, s2] M S := go_nx rfl rfl
theorem g130_102 (r : Nat) (l0 l1 l2 l3 l4 : Option AV) (s0 s1 : AV) (M : Mem) (S : Sh) : go r 130 102 [l0, l1, l2, l3, l4] [s0, s1] M S = go r 130 104 [l0, l1, l2, l3, l4] [aI 9, s0, s1] M S := go_nx rfl rfl
theorem g130_104 (r : Nat) (l0 l1 l2 l3 l4 : Option AV) (x0 x1 x2 : Int) (M : Mem) (S : Sh) (hk : 10 < r) : go r 130 104 [l0, l1, l2, l3, l4] [aI x2, aI x1, aI x0] M S = cont r 130 107 [l0, l1, l2, l3, l4] [] 1 (res 107 [aI x0, aI x1, aI x2] M S) := go_c0 (m' := 107) (n := 3) (pc' := 107) (hr := 1) rfl rfl rfl rfl rfl rfl hk rfl
set_option maxRecDepth 20000 in
theorem g130_107 (r : Nat) (l0 l1 l2 l3 l4 : Option AV) (x : Int) (M : Mem) (S : Sh) : go r 130 107 [l0, l1, l2, l3, l4] [aI x] M S = some (some (aI x), M, S) := go_rt rfl (bnd_t (Or.inl rfl))
/-- StripsFromAboveModel.asks(IIII)I -/
theorem g131 (x1 x2 x3 x4 : Int) (a0 : Nat) (M : Mem) (S : Sh) : res 131 [aR a0, aI x1, aI x2, aI x3, aI x4] M S = go 13 131 0 [some (aR a0), some (aI x1), some (aI x2), some (aI x3), some (aI x4)] [] M S := res_e0 rfl _ M S
theorem g131_0 (r : Nat) (l0 l2 l3 l4 : Option AV) (x : Int) (M : Mem) (S : Sh) : go r 131 0 [l0, some (aI x), l2, l3, l4] [] M S = go r 131 1 [l0, some (aI x), l2, l3, l4] [aI x] M S := go_nx rfl rfl
theorem g131_1 (r : Nat) (l0 l1 l2 l3 l4 : Option AV) (s0 : AV) (M : Mem) (S : Sh) : go r 131 1 [l0, l1, l2, l3, l4] [s0] M S = go r 131 2 [l0, l1, l2, l3, l4] [aI 0, s0] M S := go_nx rfl rfl
theorem g131_2 (r : Nat) (l0 l1 l2 l3 l4 : Option AV) (s0 s1 : AV) (M : Mem) (S : Sh) : go r 131 2 [l0, l1, l2, l3, l4] [s0, s1] M S = go r 131 3 [l0, l1, l2, l3, l4] [aI 2, s0, s1] M S := go_nx rfl rfl
theorem g131_3 (r : Nat) (l0 l1 l2 l3 l4 : Option AV) (x0 x1 x2 : Int) (M : Mem) (S : Sh) (hk : 10 < r) : go r 131 3 [l0, l1, l2, l3, l4] [aI x2, aI x1, aI x0] M S = cont r 131 6 [l0, l1, l2, l3, l4] [] 1 (res 106 [aI x0, aI x1, aI x2] M S) := go_c0 (m' := 106) (n := 3) (pc' := 6) (hr := 1) rfl rfl rfl rfl rfl rfl hk rfl
theorem g131_6 (r : Nat) (l0 l1 l2 l3 l4 : Option AV) (x : Int) (M : Mem) (S : Sh) : go r 131 6 [l0, l1, l2, l3, l4] [aI x] M S = if x = 0 then go r 131 48 [l0, l1, l2, l3, l4] [] M S else go r 131 9 [l0, l1, l2, l3, l4] [] M S := go_br rfl rfl rfl rfl rfl
theorem g131_9 (r : Nat) (l1 l2 l3 l4 : Option AV) (a : Nat) (M : Mem) (S : Sh) : go r 131 9 [some (aR a), l1, l2, l3, l4] [] M S = go r 131 10 [some (aR a), l1, l2, l3, l4] [aR a] M S := go_nx rfl rfl
theorem g131_10 (r : Nat) (l0 l1 l3 l4 : Option AV) (s0 : AV) (x : Int) (M : Mem) (S : Sh) : go r 131 10 [l0, l1, some (aI x), l3, l4] [s0] M S = go r 131 11 [l0, l1, some (aI x), l3, l4] [aI x, s0] M S := go_nx rfl rfl
theorem g131_11 (r : Nat) (l0 l1 l2 l3 l4 : Option AV) (x1 : Int) (a0 : Nat) (M : Mem) (S : Sh) (hk : 11 < r) (h : S.1 a0 = 6) : go r 131 11 [l0, l1, l2, l3, l4] [aI x1, aR a0] M S = cont r 131 14 [l0, l1, l2, l3, l4] [] 1 (res 108 [aR a0, aI x1] M S) := go_cr0 (m' := 108) (n := 2) (pc' := 14) (hr := 1) rfl rfl rfl h rfl rfl rfl rfl hk rfl
theorem g131_14 (r : Nat) (l0 l1 l2 l3 l4 : Option AV) (x : Int) (M : Mem) (S : Sh) : go r 131 14 [l0, l1, l2, l3, l4] [aI x] M S = if x = 0 then go r 131 48 [l0, l1, l2, l3, l4] [] M S else go r 131 17 [l0, l1, l2, l3, l4] [] M S := go_br rfl rfl rfl rfl rfl
theorem g131_17 (r : Nat) (l0 l1 l2 l4 : Option AV) (x : Int) (M : Mem) (S : Sh) : go r 131 17 [l0, l1, l2, some (aI x), l4] [] M S = go r 131 18 [l0, l1, l2, some (aI x), l4] [aI x] M S := go_nx rfl rfl
theorem g131_18 (r : Nat) (l0 l1 l2 l3 l4 : Option AV) (x0 : Int) (M : Mem) (S : Sh) (hk : 11 < r) : go r 131 18 [l0, l1, l2, l3, l4] [aI x0] M S = cont r 131 21 [l0, l1, l2, l3, l4] [] 1 (res 109 [aI x0] M S) := go_c0 (m' := 109) (n := 1) (pc' := 21) (hr := 1) rfl rfl rfl rfl rfl rfl hk rfl
theorem g131_21 (r : Nat) (l0 l1 l2 l3 l4 : Option AV) (x : Int) (M : Mem) (S : Sh) : go r 131 21 [l0, l1, l2, l3, l4] [aI x] M S = if x = 0 then go r 131 48 [l0, l1, l2, l3, l4] [] M S else go r 131 24 [l0, l1, l2, l3, l4] [] M S := go_br rfl rfl rfl rfl rfl
theorem g131_24 (r : Nat) (l0 l1 l2 l3 : Option AV) (x : Int) (M : Mem) (S : Sh) : go r 131 24 [l0, l1, l2, l3, some (aI x)] [] M S = go r 131 26 [l0, l1, l2, l3, some (aI x)] [aI x] M S := go_nx rfl rfl
theorem g131_26 (r : Nat) (l0 l1 l2 l3 l4 : Option AV) (s0 : AV) (M : Mem) (S : Sh) : go r 131 26 [l0, l1, l2, l3, l4] [s0] M S = go r 131 27 [l0, l1, l2, l3, l4] [aI 0, s0] M S := go_nx rfl rfl
theorem g131_27 (r : Nat) (l0 l1 l2 l3 l4 : Option AV) (s0 s1 : AV) (M : Mem) (S : Sh) : go r 131 27 [l0, l1, l2, l3, l4] [s0, s1] M S = go r 131 30 [l0, l1, l2, l3, l4] [aI 200, s0, s1] M S := go_nx rfl rfl
theorem g131_30 (r : Nat) (l0 l1 l2 l3 l4 : Option AV) (x0 x1 x2 : Int) (M : Mem) (S : Sh) (hk : 10 < r) : go r 131 30 [l0, l1, l2, l3, l4] [aI x2, aI x1, aI x0] M S = cont r 131 33 [l0, l1, l2, l3, l4] [] 1 (res 106 [aI x0, aI x1, aI x2] M S) := go_c0 (m' := 106) (n := 3) (pc' := 33) (hr := 1) rfl rfl rfl rfl rfl rfl hk rfl
theorem g131_33 (r : Nat) (l0 l1 l2 l3 l4 : Option AV) (x : Int) (M : Mem) (S : Sh) : go r 131 33 [l0, l1, l2, l3, l4] [aI x] M S = if x = 0 then go r 131 48 [l0, l1, l2, l3, l4] [] M S else go r 131 36 [l0, l1, l2, l3, l4] [] M S := go_br rfl rfl rfl rfl rfl
theorem g131_36 (r : Nat) (l1 l2 l3 l4 : Option AV) (a : Nat) (M : Mem) (S : Sh) : go r 131 36 [some (aR a), l1, l2, l3, l4] [] M S = go r 131 37 [some (aR a), l1, l2, l3, l4] [aR a] M S := go_nx rfl rfl
theorem g131_37 (r : Nat) (l0 l2 l3 l4 : Option AV) (s0 : AV) (x : Int) (M : Mem) (S : Sh) : go r 131 37 [l0, some (aI x), l2, l3, l4] [s0] M S = go r 131 38 [l0, some (aI x), l2, l3, l4] [aI x, s0] M S := go_nx rfl rfl
theorem g131_38 (r : Nat) (l0 l1 l3 l4 : Option AV) (s0 s1 : AV) (x : Int) (M : Mem) (S : Sh) : go r 131 38 [l0, l1, some (aI x), l3, l4] [s0, s1] M S = go r 131 39 [l0, l1, some (aI x), l3, l4] [aI x, s0, s1] M S := go_nx rfl rfl
theorem g131_39 (r : Nat) (l0 l1 l2 l4 : Option AV) (s0 s1 s2 : AV) (x : Int) (M : Mem) (S : Sh) : go r 131 39 [l0, l1, l2, some (aI x), l4] [s0, s1, s2] M S = go r 131 40 [l0, l1, l2, some (aI x), l4] [aI x, s0, s1, s2] M S := go_nx rfl rfl
theorem g131_40 (r : Nat) (l0 l1 l2 l3 : Option AV) (s0 s1 s2 s3 : AV) (x : Int) (M : Mem) (S : Sh) : go r 131 40 [l0, l1, l2, l3, some (aI x)] [s0, s1, s2, s3] M S = go r 131 42 [l0, l1, l2, l3, some (aI x)] [aI x, s0, s1, s2, s3] M S := go_nx rfl rfl
theorem g131_42 (r : Nat) (l0 l1 l2 l3 l4 : Option AV) (x1 x2 x3 x4 : Int) (a0 : Nat) (M : Mem) (S : Sh) (hk : 12 < r) (h : S.1 a0 = 6) : go r 131 42 [l0, l1, l2, l3, l4] [aI x4, aI x3, aI x2, aI x1, aR a0] M S = cont r 131 45 [l0, l1, l2, l3, l4] [] 1 (res 130 [aR a0, aI x1, aI x2, aI x3, aI x4] M S) := go_cr0 (m' := 130) (n := 5) (pc' := 45) (hr := 1) rfl rfl rfl h rfl rfl rfl rfl hk rfl
theorem g131_45 (r : Nat) (l0 l1 l2 l3 l4 : Option AV) (s0 : AV) (M : Mem) (S : Sh) : go r 131 45 [l0, l1, l2, l3, l4] [s0] M S = go r 131 51 [l0, l1, l2, l3, l4] [s0] M S := go_nx rfl rfl
theorem g131_48 (r : Nat) (l0 l1 l2 l3 l4 : Option AV) (M : Mem) (S : Sh) : go r 131 48 [l0, l1, l2, l3, l4] [] M S = go r 131 51 [l0, l1, l2, l3, l4] [aI (-1000)] M S := go_nx rfl rfl
theorem g131_51 (r : Nat) (l0 l1 l2 l3 l4 : Option AV) (x : Int) (M : Mem) (S : Sh) : go r 131 51 [l0, l1, l2, l3, l4] [aI x] M S = some (some (aI x), M, S) := go_rt rfl (bnd_t (Or.inl rfl))
/-- StripsFromAboveModel.plane(II)I -/
theorem g132 (x1 x2 : Int) (a0 : Nat) (M : Mem) (S : Sh) : res 132 [aR a0, aI x1, aI x2] M S = go 11 132 0 [some (aR a0), some (aI x1), some (aI x2)] [] M S := res_e0 rfl _ M S
theorem g132_0 (r : Nat) (l0 l2 : Option AV) (x : Int) (M : Mem) (S : Sh) : go r 132 0 [l0, some (aI x), l2] [] M S = go r 132 1 [l0, some (aI x), l2] [aI x] M S := go_nx rfl rfl
theorem g132_1 (r : Nat) (l0 l1 l2 : Option AV) (s0 : AV) (M : Mem) (S : Sh) : go r 132 1 [l0, l1, l2] [s0] M S = go r 132 2 [l0, l1, l2] [aI 0, s0] M S := go_nx rfl rfl
theorem g132_2 (r : Nat) (l0 l1 l2 : Option AV) (s0 s1 : AV) (M : Mem) (S : Sh) : go r 132 2 [l0, l1, l2] [s0, s1] M S = go r 132 3 [l0, l1, l2] [aI 5, s0, s1] M S := go_nx rfl rfl
theorem g132_3 (r : Nat) (l0 l1 l2 : Option AV) (x0 x1 x2 : Int) (M : Mem) (S : Sh) (hk : 10 < r) : go r 132 3 [l0, l1, l2] [aI x2, aI x1, aI x0] M S = cont r 132 6 [l0, l1, l2] [] 1 (res 106 [aI x0, aI x1, aI x2] M S) := go_c0 (m' := 106) (n := 3) (pc' := 6) (hr := 1) rfl rfl rfl rfl rfl rfl hk rfl
theorem g132_6 (r : Nat) (l0 l1 l2 : Option AV) (x : Int) (M : Mem) (S : Sh) : go r 132 6 [l0, l1, l2] [aI x] M S = if x = 0 then go r 132 19 [l0, l1, l2] [] M S else go r 132 9 [l0, l1, l2] [] M S := go_br rfl rfl rfl rfl rfl
theorem g132_9 (r : Nat) (l0 l1 : Option AV) (x : Int) (M : Mem) (S : Sh) : go r 132 9 [l0, l1, some (aI x)] [] M S = go r 132 10 [l0, l1, some (aI x)] [aI x] M S := go_nx rfl rfl
theorem g132_10 (r : Nat) (l0 l1 l2 : Option AV) (s0 : AV) (M : Mem) (S : Sh) : go r 132 10 [l0, l1, l2] [s0] M S = go r 132 11 [l0, l1, l2] [aI 0, s0] M S := go_nx rfl rfl
theorem g132_11 (r : Nat) (l0 l1 l2 : Option AV) (s0 s1 : AV) (M : Mem) (S : Sh) : go r 132 11 [l0, l1, l2] [s0, s1] M S = go r 132 13 [l0, l1, l2] [aI 9, s0, s1] M S := go_nx rfl rfl
theorem g132_13 (r : Nat) (l0 l1 l2 : Option AV) (x0 x1 x2 : Int) (M : Mem) (S : Sh) (hk : 10 < r) : go r 132 13 [l0, l1, l2] [aI x2, aI x1, aI x0] M S = cont r 132 16 [l0, l1, l2] [] 1 (res 106 [aI x0, aI x1, aI x2] M S) := go_c0 (m' := 106) (n := 3) (pc' := 16) (hr := 1) rfl rfl rfl rfl rfl rfl hk rfl
theorem g132_16 (r : Nat) (l0 l1 l2 : Option AV) (x : Int) (M : Mem) (S : Sh) : go r 132 16 [l0, l1, l2] [aI x] M S = if x ≠ 0 then go r 132 22 [l0, l1, l2] [] M S else go r 132 19 [l0, l1, l2] [] M S := go_br rfl rfl rfl rfl rfl
theorem g132_19 (r : Nat) (l0 l1 l2 : Option AV) (M : Mem) (S : Sh) : go r 132 19 [l0, l1, l2] [] M S = go r 132 21 [l0, l1, l2] [aI (-2)] M S := go_nx rfl rfl
theorem g132_21 (r : Nat) (l0 l1 l2 : Option AV) (x : Int) (M : Mem) (S : Sh) : go r 132 21 [l0, l1, l2] [aI x] M S = some (some (aI x), M, S) := go_rt rfl (bnd_t (Or.inl rfl))
theorem g132_22 (r : Nat) (l1 l2 : Option AV) (a : Nat) (M : Mem) (S : Sh) : go r 132 22 [some (aR a), l1, l2] [] M S = go r 132 23 [some (aR a), l1, l2] [aR a] M S := go_nx rfl rfl
theorem g132_23 (r : Nat) (l0 l1 l2 : Option AV) (a : Nat) (M : Mem) (S : Sh) (h : S.1 a = 6) : go r 132 23 [l0, l1, l2] [aR a] M S = go r 132 26 [l0, l1, l2] [aI (M a 5)] M S := go_bnd rfl h rfl
theorem g132_26 (r : Nat) (l0 l1 l2 : Option AV) (s0 : AV) (M : Mem) (S : Sh) : go r 132 26 [l0, l1, l2] [s0] M S = go r 132 27 [l0, l1, l2] [aI 4, s0] M S := go_nx rfl rfl
theorem g132_27 (r : Nat) (l0 l1 l2 : Option AV) (x y : Int) (M : Mem) (S : Sh) : go r 132 27 [l0, l1, l2] [aI y, aI x] M S = if x ≠ y then go r 132 33 [l0, l1, l2] [] M S else go r 132 30 [l0, l1, l2] [] M S := go_br rfl rfl rfl rfl rfl
theorem g132_30 (r : Nat) (l0 l1 l2 : Option AV) (M : Mem) (S : Sh) : go r 132 30 [l0, l1, l2] [] M S = go r 132 32 [l0, l1, l2] [aI (-4)] M S := go_nx rfl rfl
theorem g132_32 (r : Nat) (l0 l1 l2 : Option AV) (x : Int) (M : Mem) (S : Sh) : go r 132 32 [l0, l1, l2] [aI x] M S = some (some (aI x), M, S) := go_rt rfl (bnd_t (Or.inl rfl))
theorem g132_33 (r : Nat) (l1 l2 : Option AV) (a : Nat) (M : Mem) (S : Sh) : go r 132 33 [some (aR a), l1, l2] [] M S = go r 132 34 [some (aR a), l1, l2] [aR a] M S := go_nx rfl rfl
theorem g132_34 (r : Nat) (l0 l1 l2 : Option AV) (a : Nat) (M : Mem) (S : Sh) (h : S.1 a = 6) : go r 132 34 [l0, l1, l2] [aR a] M S = go r 132 37 [l0, l1, l2] [aO (S.2.2.1 a 6)] M S := go_bnd rfl h rfl
theorem g132_37 (r : Nat) (l1 l2 : Option AV) (s0 : AV) (a : Nat) (M : Mem) (S : Sh) : go r 132 37 [some (aR a), l1, l2] [s0] M S = go r 132 38 [some (aR a), l1, l2] [aR a, s0] M S := go_nx rfl rfl
theorem g132_38 (r : Nat) (l0 l1 l2 : Option AV) (s0 : AV) (a : Nat) (M : Mem) (S : Sh) (h : S.1 a = 6) : go r 132 38 [l0, l1, l2] [aR a, s0] M S = go r 132 41 [l0, l1, l2] [aI (M a 5), s0] M S := go_bnd rfl h rfl
theorem g132_41 (r : Nat) (l0 l2 : Option AV) (s0 s1 : AV) (x : Int) (M : Mem) (S : Sh) : go r 132 41 [l0, some (aI x), l2] [s0, s1] M S = go r 132 42 [l0, some (aI x), l2] [aI x, s0, s1] M S := go_nx rfl rfl
theorem g132_42 (r : Nat) (l0 l1 l2 : Option AV) (x y : Int) (a : Nat) (M : Mem) (S : Sh) (h : S.1 a = 7) (h6 : 6 ≤ a) (h0 : 0 ≤ x) (h1 : x < S.2.1 a) : go r 132 42 [l0, l1, l2] [aI y, aI x, aR a] M S = go r 132 43 [l0, l1, l2] [] (mset M a x.toNat y) S := go_bnd rfl ⟨h, h6, h0, h1⟩ rfl
theorem g132_43 (r : Nat) (l1 l2 : Option AV) (a : Nat) (M : Mem) (S : Sh) : go r 132 43 [some (aR a), l1, l2] [] M S = go r 132 44 [some (aR a), l1, l2] [aR a] M S := go_nx rfl rfl
theorem g132_44 (r : Nat) (l0 l1 l2 : Option AV) (a : Nat) (M : Mem) (S : Sh) (h : S.1 a = 6) : go r 132 44 [l0, l1, l2] [aR a] M S = go r 132 47 [l0, l1, l2] [aO (S.2.2.1 a 7)] M S := go_bnd rfl h rfl
theorem g132_47 (r : Nat) (l1 l2 : Option AV) (s0 : AV) (a : Nat) (M : Mem) (S : Sh) : go r 132 47 [some (aR a), l1, l2] [s0] M S = go r 132 48 [some (aR a), l1, l2] [aR a, s0] M S := go_nx rfl rfl
theorem g132_48 (r : Nat) (l0 l1 l2 : Option AV) (s0 : AV) (a : Nat) (M : Mem) (S : Sh) (h : S.1 a = 6) : go r 132 48 [l0, l1, l2] [aR a, s0] M S = go r 132 51 [l0, l1, l2] [aI (M a 5), s0] M S := go_bnd rfl h rfl
theorem g132_51 (r : Nat) (l0 l1 : Option AV) (s0 s1 : AV) (x : Int) (M : Mem) (S : Sh) : go r 132 51 [l0, l1, some (aI x)] [s0, s1] M S = go r 132 52 [l0, l1, some (aI x)] [aI x, s0, s1] M S := go_nx rfl rfl
theorem g132_52 (r : Nat) (l0 l1 l2 : Option AV) (x y : Int) (a : Nat) (M : Mem) (S : Sh) (h : S.1 a = 7) (h6 : 6 ≤ a) (h0 : 0 ≤ x) (h1 : x < S.2.1 a) : go r 132 52 [l0, l1, l2] [aI y, aI x, aR a] M S = go r 132 53 [l0, l1, l2] [] (mset M a x.toNat y) S := go_bnd rfl ⟨h, h6, h0, h1⟩ rfl
theorem g132_53 (r : Nat) (l1 l2 : Option AV) (a : Nat) (M : Mem) (S : Sh) : go r 132 53 [some (aR a), l1, l2] [] M S = go r 132 54 [some (aR a), l1, l2] [aR a] M S := go_nx rfl rfl
theorem g132_54 (r : Nat) (l0 l1 l2 : Option AV) (a : Nat) (M : Mem) (S : Sh) (h : S.1 a = 6) : go r 132 54 [l0, l1, l2] [aR a] M S = go r 132 57 [l0, l1, l2] [aO (S.2.2.1 a 8)] M S := go_bnd rfl h rfl
theorem g132_57 (r : Nat) (l0 l1 l2 : Option AV) (s0 : AV) (M : Mem) (S : Sh) : go r 132 57 [l0, l1, l2] [s0] M S = go r 132 58 [l0, l1, l2] [aI 3, s0] M S := go_nx rfl rfl
theorem g132_58 (r : Nat) (l1 l2 : Option AV) (s0 s1 : AV) (a : Nat) (M : Mem) (S : Sh) : go r 132 58 [some (aR a), l1, l2] [s0, s1] M S = go r 132 59 [some (aR a), l1, l2] [aR a, s0, s1] M S := go_nx rfl rfl
theorem g132_59 (r : Nat) (l0 l1 l2 : Option AV) (s0 s1 : AV) (a : Nat) (M : Mem) (S : Sh) (h : S.1 a = 6) : go r 132 59 [l0, l1, l2] [aR a, s0, s1] M S = go r 132 62 [l0, l1, l2] [aI (M a 5), s0, s1] M S := go_bnd rfl h rfl
theorem g132_62 (r : Nat) (l0 l1 l2 : Option AV) (s0 : AV) (x y : Int) (M : Mem) (S : Sh) : go r 132 62 [l0, l1, l2] [aI y, aI x, s0] M S = go r 132 63 [l0, l1, l2] [aI (w32 (x * y)), s0] M S := go_nx rfl rfl
theorem g132_63 (r : Nat) (l0 l1 l2 : Option AV) (s0 s1 : AV) (M : Mem) (S : Sh) : go r 132 63 [l0, l1, l2] [s0, s1] M S = go r 132 66 [l0, l1, l2] [aI 300, s0, s1] M S := go_nx rfl rfl
theorem g132_66 (r : Nat) (l0 l1 l2 : Option AV) (x y : Int) (a : Nat) (M : Mem) (S : Sh) (h : S.1 a = 7) (h6 : 6 ≤ a) (h0 : 0 ≤ x) (h1 : x < S.2.1 a) : go r 132 66 [l0, l1, l2] [aI y, aI x, aR a] M S = go r 132 67 [l0, l1, l2] [] (mset M a x.toNat y) S := go_bnd rfl ⟨h, h6, h0, h1⟩ rfl
theorem g132_67 (r : Nat) (l1 l2 : Option AV) (a : Nat) (M : Mem) (S : Sh) : go r 132 67 [some (aR a), l1, l2] [] M S = go r 132 68 [some (aR a), l1, l2] [aR a] M S := go_nx rfl rfl
theorem g132_68 (r : Nat) (l0 l1 l2 : Option AV) (a : Nat) (M : Mem) (S : Sh) (h : S.1 a = 6) : go r 132 68 [l0, l1, l2] [aR a] M S = go r 132 71 [l0, l1, l2] [aO (S.2.2.1 a 8)] M S := go_bnd rfl h rfl
theorem g132_71 (r : Nat) (l0 l1 l2 : Option AV) (s0 : AV) (M : Mem) (S : Sh) : go r 132 71 [l0, l1, l2] [s0] M S = go r 132 72 [l0, l1, l2] [aI 3, s0] M S := go_nx rfl rfl
theorem g132_72 (r : Nat) (l1 l2 : Option AV) (s0 s1 : AV) (a : Nat) (M : Mem) (S : Sh) : go r 132 72 [some (aR a), l1, l2] [s0, s1] M S = go r 132 73 [some (aR a), l1, l2] [aR a, s0, s1] M S := go_nx rfl rfl
theorem g132_73 (r : Nat) (l0 l1 l2 : Option AV) (s0 s1 : AV) (a : Nat) (M : Mem) (S : Sh) (h : S.1 a = 6) : go r 132 73 [l0, l1, l2] [aR a, s0, s1] M S = go r 132 76 [l0, l1, l2] [aI (M a 5), s0, s1] M S := go_bnd rfl h rfl
theorem g132_76 (r : Nat) (l0 l1 l2 : Option AV) (s0 : AV) (x y : Int) (M : Mem) (S : Sh) : go r 132 76 [l0, l1, l2] [aI y, aI x, s0] M S = go r 132 77 [l0, l1, l2] [aI (w32 (x * y)), s0] M S := go_nx rfl rfl
theorem g132_77 (r : Nat) (l0 l1 l2 : Option AV) (s0 s1 : AV) (M : Mem) (S : Sh) : go r 132 77 [l0, l1, l2] [s0, s1] M S = go r 132 78 [l0, l1, l2] [aI 1, s0, s1] M S := go_nx rfl rfl
theorem g132_78 (r : Nat) (l0 l1 l2 : Option AV) (s0 : AV) (x y : Int) (M : Mem) (S : Sh) : go r 132 78 [l0, l1, l2] [aI y, aI x, s0] M S = go r 132 79 [l0, l1, l2] [aI (w32 (x + y)), s0] M S := go_nx rfl rfl
theorem g132_79 (r : Nat) (l0 l1 l2 : Option AV) (s0 s1 : AV) (M : Mem) (S : Sh) : go r 132 79 [l0, l1, l2] [s0, s1] M S = go r 132 82 [l0, l1, l2] [aI 200, s0, s1] M S := go_nx rfl rfl
theorem g132_82 (r : Nat) (l0 l1 l2 : Option AV) (x y : Int) (a : Nat) (M : Mem) (S : Sh) (h : S.1 a = 7) (h6 : 6 ≤ a) (h0 : 0 ≤ x) (h1 : x < S.2.1 a) : go r 132 82 [l0, l1, l2] [aI y, aI x, aR a] M S = go r 132 83 [l0, l1, l2] [] (mset M a x.toNat y) S := go_bnd rfl ⟨h, h6, h0, h1⟩ rfl
theorem g132_83 (r : Nat) (l1 l2 : Option AV) (a : Nat) (M : Mem) (S : Sh) : go r 132 83 [some (aR a), l1, l2] [] M S = go r 132 84 [some (aR a), l1, l2] [aR a] M S := go_nx rfl rfl
theorem g132_84 (r : Nat) (l0 l1 l2 : Option AV) (a : Nat) (M : Mem) (S : Sh) (h : S.1 a = 6) : go r 132 84 [l0, l1, l2] [aR a] M S = go r 132 87 [l0, l1, l2] [aO (S.2.2.1 a 8)] M S := go_bnd rfl h rfl
theorem g132_87 (r : Nat) (l0 l1 l2 : Option AV) (s0 : AV) (M : Mem) (S : Sh) : go r 132 87 [l0, l1, l2] [s0] M S = go r 132 88 [l0, l1, l2] [aI 3, s0] M S := go_nx rfl rfl
theorem g132_88 (r : Nat) (l1 l2 : Option AV) (s0 s1 : AV) (a : Nat) (M : Mem) (S : Sh) : go r 132 88 [some (aR a), l1, l2] [s0, s1] M S = go r 132 89 [some (aR a), l1, l2] [aR a, s0, s1] M S := go_nx rfl rfl
theorem g132_89 (r : Nat) (l0 l1 l2 : Option AV) (s0 s1 : AV) (a : Nat) (M : Mem) (S : Sh) (h : S.1 a = 6) : go r 132 89 [l0, l1, l2] [aR a, s0, s1] M S = go r 132 92 [l0, l1, l2] [aI (M a 5), s0, s1] M S := go_bnd rfl h rfl
theorem g132_92 (r : Nat) (l0 l1 l2 : Option AV) (s0 : AV) (x y : Int) (M : Mem) (S : Sh) : go r 132 92 [l0, l1, l2] [aI y, aI x, s0] M S = go r 132 93 [l0, l1, l2] [aI (w32 (x * y)), s0] M S := go_nx rfl rfl
theorem g132_93 (r : Nat) (l0 l1 l2 : Option AV) (s0 s1 : AV) (M : Mem) (S : Sh) : go r 132 93 [l0, l1, l2] [s0, s1] M S = go r 132 94 [l0, l1, l2] [aI 2, s0, s1] M S := go_nx rfl rfl
theorem g132_94 (r : Nat) (l0 l1 l2 : Option AV) (s0 : AV) (x y : Int) (M : Mem) (S : Sh) : go r 132 94 [l0, l1, l2] [aI y, aI x, s0] M S = go r 132 95 [l0, l1, l2] [aI (w32 (x + y)), s0] M S := go_nx rfl rfl
theorem g132_95 (r : Nat) (l0 l1 l2 : Option AV) (s0 s1 : AV) (M : Mem) (S : Sh) : go r 132 95 [l0, l1, l2] [s0, s1] M S = go r 132 96 [l0, l1, l2] [aI 2, s0, s1] M S := go_nx rfl rfl
theorem g132_96 (r : Nat) (l0 l1 l2 : Option AV) (x y : Int) (a : Nat) (M : Mem) (S : Sh) (h : S.1 a = 7) (h6 : 6 ≤ a) (h0 : 0 ≤ x) (h1 : x < S.2.1 a) : go r 132 96 [l0, l1, l2] [aI y, aI x, aR a] M S = go r 132 97 [l0, l1, l2] [] (mset M a x.toNat y) S := go_bnd rfl ⟨h, h6, h0, h1⟩ rfl
theorem g132_97 (r : Nat) (l1 l2 : Option AV) (a : Nat) (M : Mem) (S : Sh) : go r 132 97 [some (aR a), l1, l2] [] M S = go r 132 98 [some (aR a), l1, l2] [aR a] M S := go_nx rfl rfl
theorem g132_98 (r : Nat) (l1 l2 : Option AV) (s0 : AV) (a : Nat) (M : Mem) (S : Sh) : go r 132 98 [some (aR a), l1, l2] [s0] M S = go r 132 99 [some (aR a), l1, l2] [aR a, s0] M S := go_nx rfl rfl
theorem g132_99 (r : Nat) (l0 l1 l2 : Option AV) (s0 : AV) (a : Nat) (M : Mem) (S : Sh) (h : S.1 a = 6) : go r 132 99 [l0, l1, l2] [aR a, s0] M S = go r 132 102 [l0, l1, l2] [aI (M a 5), s0] M S := go_bnd rfl h rfl
set_option maxRecDepth 20000 in
theorem g132_102 (r : Nat) (l0 l1 l2 : Option AV) (s0 : AV) (x : Int) (M : Mem) (S : Sh) : go r 132 102 [l0, l1, l2] [aI x, s0] M S = if x ≠ 0 then go r 132 109 [l0, l1, l2] [s0] M S else go r 132 105 [l0, l1, l2] [s0] M S := go_br rfl rfl rfl rfl rfl
set_option maxRecDepth 20000 in
theorem g132_105 (r : Nat) (l0 l1 l2 : Option AV) (s0 : AV) (M : Mem) (S : Sh) : go r 132 105 [l0, l1, l2] [s0] M S = go r 132 106 [l0, l1, l2] [aI 0, s0] M S := go_nx rfl rfl
set_option maxRecDepth 20000 in
theorem g132_106 (r : Nat) (l0 l1 l2 : Option AV) (s0 s1 : AV) (M : Mem) (S : Sh) : go r 132 106 [l0, l1, l2] [s0, s1] M S = go r 132 113 [l0, l1, l2] [s0, s1] M S := go_nx rfl rfl
set_option maxRecDepth 20000 in
theorem g132_109 (r : Nat) (l1 l2 : Option AV) (s0 : AV) (a : Nat) (M : Mem) (S : Sh) : go r 132 109 [some (aR a), l1, l2] [s0] M S = go r 132 110 [some (aR a), l1, l2] [aR a, s0] M S := go_nx rfl rfl
set_option maxRecDepth 20000 in
theorem g132_110 (r : Nat) (l0 l1 l2 : Option AV) (s0 : AV) (a : Nat) (M : Mem) (S : Sh) (h : S.1 a = 6) : go r 132 110 [l0, l1, l2] [aR a, s0] M S = go r 132 113 [l0, l1, l2] [aI (M a 4), s0] M S := go_bnd rfl h rfl
set_option maxRecDepth 20000 in
theorem g132_113 (r : Nat) (l0 l1 l2 : Option AV) (x : Int) (a : Nat) (M : Mem) (S : Sh) (h : S.1 a = 6) : go r 132 113 [l0, l1, l2] [aI x, aR a] M S = go r 132 116 [l0, l1, l2] [] (mset M a 4 x) S := go_bnd rfl ⟨h, fun z => absurd z (by decide)⟩ rfl
set_option maxRecDepth 20000 in
theorem g132_116 (r : Nat) (l1 l2 : Option AV) (a : Nat) (M : Mem) (S : Sh) : go r 132 116 [some (aR a), l1, l2] [] M S = go r 132 117 [some (aR a), l1, l2] [aR a] M S := go_nx rfl rfl
set_option maxRecDepth 20000 in
theorem g132_117 (r : Nat) (l0 l1 l2 : Option AV) (a : Nat) (M : Mem) (S : Sh) : go r 132 117 [l0, l1, l2] [aR a] M S = go r 132 118 [l0, l1, l2] [aR a, aR a] M S := go_nx rfl rfl
set_option maxRecDepth 20000 in
theorem g132_118 (r : Nat) (l0 l1 l2 : Option AV) (s0 : AV) (a : Nat) (M : Mem) (S : Sh) (h : S.1 a = 6) : go r 132 118 [l0, l1, l2] [aR a, s0] M S = go r 132 121 [l0, l1, l2] [aI (M a 5), s0] M S := go_bnd rfl h rfl
set_option maxRecDepth 20000 in
theorem g132_121 (r : Nat) (l0 l1 l2 : Option AV) (s0 s1 : AV) (M : Mem) (S : Sh) : go r 132 121 [l0, l1, l2] [s0, s1] M S = go r 132 122 [l0, l1, l2] [aI 1, s0, s1] M S := go_nx rfl rfl
set_option maxRecDepth 20000 in
theorem g132_122 (r : Nat) (l0 l1 l2 : Option AV) (s0 : AV) (x y : Int) (M : Mem) (S : Sh) : go r 132 122 [l0, l1, l2] [aI y, aI x, s0] M S = go r 132 123 [l0, l1, l2] [aI (w32 (x + y)), s0] M S := go_nx rfl rfl
set_option maxRecDepth 20000 in
theorem g132_123 (r : Nat) (l0 l1 l2 : Option AV) (x : Int) (a : Nat) (M : Mem) (S : Sh) (h : S.1 a = 6) : go r 132 123 [l0, l1, l2] [aI x, aR a] M S = go r 132 126 [l0, l1, l2] [] (mset M a 5 x) S := go_bnd rfl ⟨h, fun z => absurd z (by decide)⟩ rfl
set_option maxRecDepth 20000 in
theorem g132_126 (r : Nat) (l1 l2 : Option AV) (a : Nat) (M : Mem) (S : Sh) : go r 132 126 [some (aR a), l1, l2] [] M S = go r 132 127 [some (aR a), l1, l2] [aR a] M S := go_nx rfl rfl
set_option maxRecDepth 20000 in
theorem g132_127 (r : Nat) (l0 l1 l2 : Option AV) (a : Nat) (M : Mem) (S : Sh) (h : S.1 a = 6) : go r 132 127 [l0, l1, l2] [aR a] M S = go r 132 130 [l0, l1, l2] [aI (M a 5)] M S := go_bnd rfl h rfl
set_option maxRecDepth 20000 in
theorem g132_130 (r : Nat) (l0 l1 l2 : Option AV) (s0 : AV) (M : Mem) (S : Sh) : go r 132 130 [l0, l1, l2] [s0] M S = go r 132 131 [l0, l1, l2] [aI 1, s0] M S := go_nx rfl rfl
set_option maxRecDepth 20000 in
theorem g132_131 (r : Nat) (l0 l1 l2 : Option AV) (x y : Int) (M : Mem) (S : Sh) : go r 132 131 [l0, l1, l2] [aI y, aI x] M S = go r 132 132 [l0, l1, l2] [aI (w32 (x - y))] M S := go_nx rfl rfl
set_option maxRecDepth 20000 in
theorem g132_132 (r : Nat) (l0 l1 l2 : Option AV) (x : Int) (M : Mem) (S : Sh) : go r 132 132 [l0, l1, l2] [aI x] M S = some (some (aI x), M, S) := go_rt rfl (bnd_t (Or.inl rfl))
/-- StripsFromAboveModel.load(III)I -/
theorem g133 (x1 x2 x3 : Int) (a0 : Nat) (M : Mem) (S : Sh) : res 133 [aR a0, aI x1, aI x2, aI x3] M S = go 12 133 0 [some (aR a0), some (aI x1), some (aI x2), some (aI x3), none] [] M S := res_e0 rfl _ M S
theorem g133_0 (r : Nat) (l1 l2 l3 l4 : Option AV) (a : Nat) (M : Mem) (S : Sh) : go r 133 0 [some (aR a), l1, l2, l3, l4] [] M S = go r 133 1 [some (aR a), l1, l2, l3, l4] [aR a] M S := go_nx rfl rfl
theorem g133_1 (r : Nat) (l0 l2 l3 l4 : Option AV) (s0 : AV) (x : Int) (M : Mem) (S : Sh) : go r 133 1 [l0, some (aI x), l2, l3, l4] [s0] M S = go r 133 2 [l0, some (aI x), l2, l3, l4] [aI x, s0] M S := go_nx rfl rfl
theorem g133_2 (r : Nat) (l0 l1 l2 l3 l4 : Option AV) (x1 : Int) (a0 : Nat) (M : Mem) (S : Sh) (hk : 11 < r) (h : S.1 a0 = 6) : go r 133 2 [l0, l1, l2, l3, l4] [aI x1, aR a0] M S = cont r 133 5 [l0, l1, l2, l3, l4] [] 1 (res 108 [aR a0, aI x1] M S) := go_cr0 (m' := 108) (n := 2) (pc' := 5) (hr := 1) rfl rfl rfl h rfl rfl rfl rfl hk rfl
theorem g133_5 (r : Nat) (l0 l1 l2 l3 l4 : Option AV) (x : Int) (M : Mem) (S : Sh) : go r 133 5 [l0, l1, l2, l3, l4] [aI x] M S = if x ≠ 0 then go r 133 11 [l0, l1, l2, l3, l4] [] M S else go r 133 8 [l0, l1, l2, l3, l4] [] M S := go_br rfl rfl rfl rfl rfl
theorem g133_8 (r : Nat) (l0 l1 l2 l3 l4 : Option AV) (M : Mem) (S : Sh) : go r 133 8 [l0, l1, l2, l3, l4] [] M S = go r 133 10 [l0, l1, l2, l3, l4] [aI (-5)] M S := go_nx rfl rfl
theorem g133_10 (r : Nat) (l0 l1 l2 l3 l4 : Option AV) (x : Int) (M : Mem) (S : Sh) : go r 133 10 [l0, l1, l2, l3, l4] [aI x] M S = some (some (aI x), M, S) := go_rt rfl (bnd_t (Or.inl rfl))
theorem g133_11 (r : Nat) (l0 l1 l3 l4 : Option AV) (x : Int) (M : Mem) (S : Sh) : go r 133 11 [l0, l1, some (aI x), l3, l4] [] M S = go r 133 12 [l0, l1, some (aI x), l3, l4] [aI x] M S := go_nx rfl rfl
theorem g133_12 (r : Nat) (l0 l1 l2 l3 l4 : Option AV) (s0 : AV) (M : Mem) (S : Sh) : go r 133 12 [l0, l1, l2, l3, l4] [s0] M S = go r 133 13 [l0, l1, l2, l3, l4] [aI 0, s0] M S := go_nx rfl rfl
theorem g133_13 (r : Nat) (l0 l1 l2 l3 l4 : Option AV) (s0 s1 : AV) (M : Mem) (S : Sh) : go r 133 13 [l0, l1, l2, l3, l4] [s0, s1] M S = go r 133 14 [l0, l1, l2, l3, l4] [aI 2, s0, s1] M S := go_nx rfl rfl
theorem g133_14 (r : Nat) (l0 l1 l2 l3 l4 : Option AV) (x0 x1 x2 : Int) (M : Mem) (S : Sh) (hk : 10 < r) : go r 133 14 [l0, l1, l2, l3, l4] [aI x2, aI x1, aI x0] M S = cont r 133 17 [l0, l1, l2, l3, l4] [] 1 (res 106 [aI x0, aI x1, aI x2] M S) := go_c0 (m' := 106) (n := 3) (pc' := 17) (hr := 1) rfl rfl rfl rfl rfl rfl hk rfl
theorem g133_17 (r : Nat) (l0 l1 l2 l3 l4 : Option AV) (x : Int) (M : Mem) (S : Sh) : go r 133 17 [l0, l1, l2, l3, l4] [aI x] M S = if x = 0 then go r 133 50 [l0, l1, l2, l3, l4] [] M S else go r 133 20 [l0, l1, l2, l3, l4] [] M S := go_br rfl rfl rfl rfl rfl
theorem g133_20 (r : Nat) (l0 l1 l2 l4 : Option AV) (x : Int) (M : Mem) (S : Sh) : go r 133 20 [l0, l1, l2, some (aI x), l4] [] M S = go r 133 21 [l0, l1, l2, some (aI x), l4] [aI x] M S := go_nx rfl rfl
theorem g133_21 (r : Nat) (l0 l1 l3 l4 : Option AV) (s0 : AV) (x : Int) (M : Mem) (S : Sh) : go r 133 21 [l0, l1, some (aI x), l3, l4] [s0] M S = go r 133 22 [l0, l1, some (aI x), l3, l4] [aI x, s0] M S := go_nx rfl rfl
theorem g133_22 (r : Nat) (l0 l1 l2 l3 l4 : Option AV) (s0 s1 : AV) (M : Mem) (S : Sh) : go r 133 22 [l0, l1, l2, l3, l4] [s0, s1] M S = go r 133 23 [l0, l1, l2, l3, l4] [aI 2, s0, s1] M S := go_nx rfl rfl
theorem g133_23 (r : Nat) (l0 l1 l2 l3 l4 : Option AV) (s0 : AV) (x y : Int) (M : Mem) (S : Sh) : go r 133 23 [l0, l1, l2, l3, l4] [aI y, aI x, s0] M S = if x ≠ y then go r 133 30 [l0, l1, l2, l3, l4] [s0] M S else go r 133 26 [l0, l1, l2, l3, l4] [s0] M S := go_br rfl rfl rfl rfl rfl
theorem g133_26 (r : Nat) (l0 l1 l2 l3 l4 : Option AV) (s0 : AV) (M : Mem) (S : Sh) : go r 133 26 [l0, l1, l2, l3, l4] [s0] M S = go r 133 27 [l0, l1, l2, l3, l4] [aI 1, s0] M S := go_nx rfl rfl
theorem g133_27 (r : Nat) (l0 l1 l2 l3 l4 : Option AV) (s0 s1 : AV) (M : Mem) (S : Sh) : go r 133 27 [l0, l1, l2, l3, l4] [s0, s1] M S = go r 133 31 [l0, l1, l2, l3, l4] [s0, s1] M S := go_nx rfl rfl
theorem g133_30 (r : Nat) (l0 l1 l2 l3 l4 : Option AV) (s0 : AV) (M : Mem) (S : Sh) : go r 133 30 [l0, l1, l2, l3, l4] [s0] M S = go r 133 31 [l0, l1, l2, l3, l4] [aI 0, s0] M S := go_nx rfl rfl
theorem g133_31 (r : Nat) (l0 l1 l3 l4 : Option AV) (s0 s1 : AV) (x : Int) (M : Mem) (S : Sh) : go r 133 31 [l0, l1, some (aI x), l3, l4] [s0, s1] M S = go r 133 32 [l0, l1, some (aI x), l3, l4] [aI x, s0, s1] M S := go_nx rfl rfl
theorem g133_32 (r : Nat) (l0 l1 l2 l3 l4 : Option AV) (s0 s1 s2 : AV) (M : Mem) (S : Sh) : go r 133 32 [l0, l1, l2, l3, l4] [s0, s1, s2] M S = go r 133 33 [l0, l1, l2, l3, l4] [aI 2, s0, s1, s2] M S := go_nx rfl rfl
theorem g133_33 (r : Nat) (l0 l1 l2 l3 l4 : Option AV) (s0 s1 : AV) (x y : Int) (M : Mem) (S : Sh) : go r 133 33 [l0, l1, l2, l3, l4] [aI y, aI x, s0, s1] M S = if x ≠ y then go r 133 41 [l0, l1, l2, l3, l4] [s0, s1] M S else go r 133 36 [l0, l1, l2, l3, l4] [s0, s1] M S := go_br rfl rfl rfl rfl rfl
theorem g133_36 (r : Nat) (l0 l1 l2 l3 l4 : Option AV) (s0 s1 : AV) (M : Mem) (S : Sh) : go r 133 36 [l0, l1, l2, l3, l4] [s0, s1] M S = go r 133 38 [l0, l1, l2, l3, l4] [aI 9, s0, s1] M S := go_nx rfl rfl
theorem g133_38 (r : Nat) (l0 l1 l2 l3 l4 : Option AV) (s0 s1 s2 : AV) (M : Mem) (S : Sh) : go r 133 38 [l0, l1, l2, l3, l4] [s0, s1, s2] M S = go r 133 44 [l0, l1, l2, l3, l4] [s0, s1, s2] M S := go_nx rfl rfl
theorem g133_41 (r : Nat) (l0 l1 l2 l3 l4 : Option AV) (s0 s1 : AV) (M : Mem) (S : Sh) : go r 133 41 [l0, l1, l2, l3, l4] [s0, s1] M S = go r 133 44 [l0, l1, l2, l3, l4] [aI 999, s0, s1] M S := go_nx rfl rfl
theorem g133_44 (r : Nat) (l0 l1 l2 l3 l4 : Option AV) (x0 x1 x2 : Int) (M : Mem) (S : Sh) (hk : 10 < r) : go r 133 44 [l0, l1, l2, l3, l4] [aI x2, aI x1, aI x0] M S = cont r 133 47 [l0, l1, l2, l3, l4] [] 1 (res 106 [aI x0, aI x1, aI x2] M S) := go_c0 (m' := 106) (n := 3) (pc' := 47) (hr := 1) rfl rfl rfl rfl rfl rfl hk rfl
theorem g133_47 (r : Nat) (l0 l1 l2 l3 l4 : Option AV) (x : Int) (M : Mem) (S : Sh) : go r 133 47 [l0, l1, l2, l3, l4] [aI x] M S = if x ≠ 0 then go r 133 53 [l0, l1, l2, l3, l4] [] M S else go r 133 50 [l0, l1, l2, l3, l4] [] M S := go_br rfl rfl rfl rfl rfl
theorem g133_50 (r : Nat) (l0 l1 l2 l3 l4 : Option AV) (M : Mem) (S : Sh) : go r 133 50 [l0, l1, l2, l3, l4] [] M S = go r 133 52 [l0, l1, l2, l3, l4] [aI (-7)] M S := go_nx rfl rfl
theorem g133_52 (r : Nat) (l0 l1 l2 l3 l4 : Option AV) (x : Int) (M : Mem) (S : Sh) : go r 133 52 [l0, l1, l2, l3, l4] [aI x] M S = some (some (aI x), M, S) := go_rt rfl (bnd_t (Or.inl rfl))
theorem g133_53 (r : Nat) (l1 l2 l3 l4 : Option AV) (a : Nat) (M : Mem) (S : Sh) : go r 133 53 [some (aR a), l1, l2, l3, l4] [] M S = go r 133 54 [some (aR a), l1, l2, l3, l4] [aR a] M S := go_nx rfl rfl
theorem g133_54 (r : Nat) (l0 l1 l2 l3 l4 : Option AV) (a : Nat) (M : Mem) (S : Sh) (h : S.1 a = 6) : go r 133 54 [l0, l1, l2, l3, l4] [aR a] M S = go r 133 57 [l0, l1, l2, l3, l4] [aO (S.2.2.1 a 8)] M S := go_bnd rfl h rfl
theorem g133_57 (r : Nat) (l0 l1 l2 l3 l4 : Option AV) (s0 : AV) (M : Mem) (S : Sh) : go r 133 57 [l0, l1, l2, l3, l4] [s0] M S = go r 133 58 [l0, l1, l2, l3, l4] [aI 3, s0] M S := go_nx rfl rfl
theorem g133_58 (r : Nat) (l0 l2 l3 l4 : Option AV) (s0 s1 : AV) (x : Int) (M : Mem) (S : Sh) : go r 133 58 [l0, some (aI x), l2, l3, l4] [s0, s1] M S = go r 133 59 [l0, some (aI x), l2, l3, l4] [aI x, s0, s1] M S := go_nx rfl rfl
theorem g133_59 (r : Nat) (l0 l1 l2 l3 l4 : Option AV) (s0 : AV) (x y : Int) (M : Mem) (S : Sh) : go r 133 59 [l0, l1, l2, l3, l4] [aI y, aI x, s0] M S = go r 133 60 [l0, l1, l2, l3, l4] [aI (w32 (x * y)), s0] M S := go_nx rfl rfl
theorem g133_60 (r : Nat) (l0 l1 l3 l4 : Option AV) (s0 s1 : AV) (x : Int) (M : Mem) (S : Sh) : go r 133 60 [l0, l1, some (aI x), l3, l4] [s0, s1] M S = go r 133 61 [l0, l1, some (aI x), l3, l4] [aI x, s0, s1] M S := go_nx rfl rfl
theorem g133_61 (r : Nat) (l0 l1 l2 l3 l4 : Option AV) (s0 : AV) (x y : Int) (M : Mem) (S : Sh) : go r 133 61 [l0, l1, l2, l3, l4] [aI y, aI x, s0] M S = go r 133 62 [l0, l1, l2, l3, l4] [aI (w32 (x + y)), s0] M S := go_nx rfl rfl
theorem g133_62 (r : Nat) (l0 l1 l2 l3 l4 : Option AV) (x : Int) (a : Nat) (M : Mem) (S : Sh) (h : S.1 a = 7) (h0 : 0 ≤ x) (h1 : x < S.2.1 a) : go r 133 62 [l0, l1, l2, l3, l4] [aI x, aR a] M S = go r 133 63 [l0, l1, l2, l3, l4] [aI (M a x.toNat)] M S := go_bnd rfl ⟨h, h0, h1⟩ rfl
theorem g133_63 (r : Nat) (l0 l1 l2 l3 l4 : Option AV) (x : Int) (M : Mem) (S : Sh) : go r 133 63 [l0, l1, l2, l3, l4] [aI x] M S = go r 133 65 [l0, l1, l2, l3, some (aI x)] [] M S := go_nx rfl rfl
theorem g133_65 (r : Nat) (l1 l2 l3 l4 : Option AV) (a : Nat) (M : Mem) (S : Sh) : go r 133 65 [some (aR a), l1, l2, l3, l4] [] M S = go r 133 66 [some (aR a), l1, l2, l3, l4] [aR a] M S := go_nx rfl rfl
theorem g133_66 (r : Nat) (l0 l1 l2 l3 l4 : Option AV) (a : Nat) (M : Mem) (S : Sh) (h : S.1 a = 6) : go r 133 66 [l0, l1, l2, l3, l4] [aR a] M S = go r 133 69 [l0, l1, l2, l3, l4] [aO (S.2.2.1 a 8)] M S := go_bnd rfl h rfl
theorem g133_69 (r : Nat) (l0 l1 l2 l3 l4 : Option AV) (s0 : AV) (M : Mem) (S : Sh) : go r 133 69 [l0, l1, l2, l3, l4] [s0] M S = go r 133 70 [l0, l1, l2, l3, l4] [aI 3, s0] M S := go_nx rfl rfl
theorem g133_70 (r : Nat) (l0 l2 l3 l4 : Option AV) (s0 s1 : AV) (x : Int) (M : Mem) (S : Sh) : go r 133 70 [l0, some (aI x), l2, l3, l4] [s0, s1] M S = go r 133 71 [l0, some (aI x), l2, l3, l4] [aI x, s0, s1] M S := go_nx rfl rfl
theorem g133_71 (r : Nat) (l0 l1 l2 l3 l4 : Option AV) (s0 : AV) (x y : Int) (M : Mem) (S : Sh) : go r 133 71 [l0, l1, l2, l3, l4] [aI y, aI x, s0] M S = go r 133 72 [l0, l1, l2, l3, l4] [aI (w32 (x * y)), s0] M S := go_nx rfl rfl
theorem g133_72 (r : Nat) (l0 l1 l3 l4 : Option AV) (s0 s1 : AV) (x : Int) (M : Mem) (S : Sh) : go r 133 72 [l0, l1, some (aI x), l3, l4] [s0, s1] M S = go r 133 73 [l0, l1, some (aI x), l3, l4] [aI x, s0, s1] M S := go_nx rfl rfl
theorem g133_73 (r : Nat) (l0 l1 l2 l3 l4 : Option AV) (s0 : AV) (x y : Int) (M : Mem) (S : Sh) : go r 133 73 [l0, l1, l2, l3, l4] [aI y, aI x, s0] M S = go r 133 74 [l0, l1, l2, l3, l4] [aI (w32 (x + y)), s0] M S := go_nx rfl rfl
theorem g133_74 (r : Nat) (l0 l1 l2 l4 : Option AV) (s0 s1 : AV) (x : Int) (M : Mem) (S : Sh) : go r 133 74 [l0, l1, l2, some (aI x), l4] [s0, s1] M S = go r 133 75 [l0, l1, l2, some (aI x), l4] [aI x, s0, s1] M S := go_nx rfl rfl
theorem g133_75 (r : Nat) (l0 l1 l2 l3 l4 : Option AV) (x y : Int) (a : Nat) (M : Mem) (S : Sh) (h : S.1 a = 7) (h6 : 6 ≤ a) (h0 : 0 ≤ x) (h1 : x < S.2.1 a) : go r 133 75 [l0, l1, l2, l3, l4] [aI y, aI x, aR a] M S = go r 133 76 [l0, l1, l2, l3, l4] [] (mset M a x.toNat y) S := go_bnd rfl ⟨h, h6, h0, h1⟩ rfl
theorem g133_76 (r : Nat) (l0 l1 l2 l3 : Option AV) (x : Int) (M : Mem) (S : Sh) : go r 133 76 [l0, l1, l2, l3, some (aI x)] [] M S = go r 133 78 [l0, l1, l2, l3, some (aI x)] [aI x] M S := go_nx rfl rfl
theorem g133_78 (r : Nat) (l0 l1 l2 l3 l4 : Option AV) (x : Int) (M : Mem) (S : Sh) : go r 133 78 [l0, l1, l2, l3, l4] [aI x] M S = some (some (aI x), M, S) := go_rt rfl (bnd_t (Or.inl rfl))
/-- StripsFromAboveModel.mileOf(I)I -/
theorem g134 (x1 : Int) (a0 : Nat) (M : Mem) (S : Sh) : res 134 [aR a0, aI x1] M S = go 10 134 0 [some (aR a0), some (aI x1)] [] M S := res_e0 rfl _ M S
theorem g134_0 (r : Nat) (l1 : Option AV) (a : Nat) (M : Mem) (S : Sh) : go r 134 0 [some (aR a), l1] [] M S = go r 134 1 [some (aR a), l1] [aR a] M S := go_nx rfl rfl
theorem g134_1 (r : Nat) (l0 l1 : Option AV) (a : Nat) (M : Mem) (S : Sh) (h : S.1 a = 6) : go r 134 1 [l0, l1] [aR a] M S = go r 134 4 [l0, l1] [aO (S.2.2.1 a 6)] M S := go_bnd rfl h rfl
theorem g134_4 (r : Nat) (l0 : Option AV) (s0 : AV) (x : Int) (M : Mem) (S : Sh) : go r 134 4 [l0, some (aI x)] [s0] M S = go r 134 5 [l0, some (aI x)] [aI x, s0] M S := go_nx rfl rfl
theorem g134_5 (r : Nat) (l0 l1 : Option AV) (x : Int) (a : Nat) (M : Mem) (S : Sh) (h : S.1 a = 7) (h0 : 0 ≤ x) (h1 : x < S.2.1 a) : go r 134 5 [l0, l1] [aI x, aR a] M S = go r 134 6 [l0, l1] [aI (M a x.toNat)] M S := go_bnd rfl ⟨h, h0, h1⟩ rfl
theorem g134_6 (r : Nat) (l0 l1 : Option AV) (s0 : AV) (M : Mem) (S : Sh) : go r 134 6 [l0, l1] [s0] M S = go r 134 7 [l0, l1] [aI 2, s0] M S := go_nx rfl rfl
theorem g134_7 (r : Nat) (l0 l1 : Option AV) (x y : Int) (M : Mem) (S : Sh) : go r 134 7 [l0, l1] [aI y, aI x] M S = if x = y then go r 134 30 [l0, l1] [] M S else go r 134 10 [l0, l1] [] M S := go_br rfl rfl rfl rfl rfl
theorem g134_10 (r : Nat) (l1 : Option AV) (a : Nat) (M : Mem) (S : Sh) : go r 134 10 [some (aR a), l1] [] M S = go r 134 11 [some (aR a), l1] [aR a] M S := go_nx rfl rfl
theorem g134_11 (r : Nat) (l0 l1 : Option AV) (a : Nat) (M : Mem) (S : Sh) (h : S.1 a = 6) : go r 134 11 [l0, l1] [aR a] M S = go r 134 14 [l0, l1] [aO (S.2.2.1 a 6)] M S := go_bnd rfl h rfl
theorem g134_14 (r : Nat) (l0 : Option AV) (s0 : AV) (x : Int) (M : Mem) (S : Sh) : go r 134 14 [l0, some (aI x)] [s0] M S = go r 134 15 [l0, some (aI x)] [aI x, s0] M S := go_nx rfl rfl
theorem g134_15 (r : Nat) (l0 l1 : Option AV) (x : Int) (a : Nat) (M : Mem) (S : Sh) (h : S.1 a = 7) (h0 : 0 ≤ x) (h1 : x < S.2.1 a) : go r 134 15 [l0, l1] [aI x, aR a] M S = go r 134 16 [l0, l1] [aI (M a x.toNat)] M S := go_bnd rfl ⟨h, h0, h1⟩ rfl
theorem g134_16 (r : Nat) (l0 l1 : Option AV) (s0 : AV) (M : Mem) (S : Sh) : go r 134 16 [l0, l1] [s0] M S = go r 134 17 [l0, l1] [aI 4, s0] M S := go_nx rfl rfl
theorem g134_17 (r : Nat) (l0 l1 : Option AV) (x y : Int) (M : Mem) (S : Sh) : go r 134 17 [l0, l1] [aI y, aI x] M S = if x = y then go r 134 30 [l0, l1] [] M S else go r 134 20 [l0, l1] [] M S := go_br rfl rfl rfl rfl rfl
theorem g134_20 (r : Nat) (l1 : Option AV) (a : Nat) (M : Mem) (S : Sh) : go r 134 20 [some (aR a), l1] [] M S = go r 134 21 [some (aR a), l1] [aR a] M S := go_nx rfl rfl
theorem g134_21 (r : Nat) (l0 l1 : Option AV) (a : Nat) (M : Mem) (S : Sh) (h : S.1 a = 6) : go r 134 21 [l0, l1] [aR a] M S = go r 134 24 [l0, l1] [aO (S.2.2.1 a 6)] M S := go_bnd rfl h rfl
theorem g134_24 (r : Nat) (l0 : Option AV) (s0 : AV) (x : Int) (M : Mem) (S : Sh) : go r 134 24 [l0, some (aI x)] [s0] M S = go r 134 25 [l0, some (aI x)] [aI x, s0] M S := go_nx rfl rfl
theorem g134_25 (r : Nat) (l0 l1 : Option AV) (x : Int) (a : Nat) (M : Mem) (S : Sh) (h : S.1 a = 7) (h0 : 0 ≤ x) (h1 : x < S.2.1 a) : go r 134 25 [l0, l1] [aI x, aR a] M S = go r 134 26 [l0, l1] [aI (M a x.toNat)] M S := go_bnd rfl ⟨h, h0, h1⟩ rfl
theorem g134_26 (r : Nat) (l0 l1 : Option AV) (s0 : AV) (M : Mem) (S : Sh) : go r 134 26 [l0, l1] [s0] M S = go r 134 27 [l0, l1] [aI 5, s0] M S := go_nx rfl rfl
theorem g134_27 (r : Nat) (l0 l1 : Option AV) (x y : Int) (M : Mem) (S : Sh) : go r 134 27 [l0, l1] [aI y, aI x] M S = if x ≠ y then go r 134 34 [l0, l1] [] M S else go r 134 30 [l0, l1] [] M S := go_br rfl rfl rfl rfl rfl
theorem g134_30 (r : Nat) (l0 l1 : Option AV) (M : Mem) (S : Sh) : go r 134 30 [l0, l1] [] M S = go r 134 31 [l0, l1] [aI 2] M S := go_nx rfl rfl
theorem g134_31 (r : Nat) (l0 l1 : Option AV) (s0 : AV) (M : Mem) (S : Sh) : go r 134 31 [l0, l1] [s0] M S = go r 134 35 [l0, l1] [s0] M S := go_nx rfl rfl
theorem g134_34 (r : Nat) (l0 l1 : Option AV) (M : Mem) (S : Sh) : go r 134 34 [l0, l1] [] M S = go r 134 35 [l0, l1] [aI 1] M S := go_nx rfl rfl
theorem g134_35 (r : Nat) (l0 l1 : Option AV) (x : Int) (M : Mem) (S : Sh) : go r 134 35 [l0, l1] [aI x] M S = some (some (aI x), M, S) := go_rt rfl (bnd_t (Or.inl rfl))
/-- StripsFromAboveModel.turnOf(I)I -/
theorem g135 (x1 : Int) (a0 : Nat) (M : Mem) (S : Sh) : res 135 [aR a0, aI x1] M S = go 10 135 0 [some (aR a0), some (aI x1)] [] M S := res_e0 rfl _ M S
theorem g135_0 (r : Nat) (l1 : Option AV) (a : Nat) (M : Mem) (S : Sh) : go r 135 0 [some (aR a), l1] [] M S = go r 135 1 [some (aR a), l1] [aR a] M S := go_nx rfl rfl
theorem g135_1 (r : Nat) (l0 l1 : Option AV) (a : Nat) (M : Mem) (S : Sh) (h : S.1 a = 6) : go r 135 1 [l0, l1] [aR a] M S = go r 135 4 [l0, l1] [aO (S.2.2.1 a 6)] M S := go_bnd rfl h rfl
theorem g135_4 (r : Nat) (l0 : Option AV) (s0 : AV) (x : Int) (M : Mem) (S : Sh) : go r 135 4 [l0, some (aI x)] [s0] M S = go r 135 5 [l0, some (aI x)] [aI x, s0] M S := go_nx rfl rfl
theorem g135_5 (r : Nat) (l0 l1 : Option AV) (x : Int) (a : Nat) (M : Mem) (S : Sh) (h : S.1 a = 7) (h0 : 0 ≤ x) (h1 : x < S.2.1 a) : go r 135 5 [l0, l1] [aI x, aR a] M S = go r 135 6 [l0, l1] [aI (M a x.toNat)] M S := go_bnd rfl ⟨h, h0, h1⟩ rfl
theorem g135_6c1 (r : Nat) (l0 l1 : Option AV) (M : Mem) (S : Sh) : go r 135 6 [l0, l1] [aI 1] M S = go r 135 40 [l0, l1] [] M S := go_nx rfl rfl
theorem g135_6c2 (r : Nat) (l0 l1 : Option AV) (M : Mem) (S : Sh) : go r 135 6 [l0, l1] [aI 2] M S = go r 135 52 [l0, l1] [] M S := go_nx rfl rfl
theorem g135_6c3 (r : Nat) (l0 l1 : Option AV) (M : Mem) (S : Sh) : go r 135 6 [l0, l1] [aI 3] M S = go r 135 40 [l0, l1] [] M S := go_nx rfl rfl
theorem g135_6c4 (r : Nat) (l0 l1 : Option AV) (M : Mem) (S : Sh) : go r 135 6 [l0, l1] [aI 4] M S = go r 135 52 [l0, l1] [] M S := go_nx rfl rfl
theorem g135_6c5 (r : Nat) (l0 l1 : Option AV) (M : Mem) (S : Sh) : go r 135 6 [l0, l1] [aI 5] M S = go r 135 55 [l0, l1] [] M S := go_nx rfl rfl
theorem g135_6d (r : Nat) (l0 l1 : Option AV) (x : Int) (M : Mem) (S : Sh) (h : x < 1 ∨ 5 < x) : go r 135 6 [l0, l1] [aI x] M S = go r 135 57 [l0, l1] [] M S := go_nx rfl (if_pos h)
theorem g135_40 (r : Nat) (l0 l1 : Option AV) (M : Mem) (S : Sh) : go r 135 40 [l0, l1] [] M S = go r 135 42 [l0, l1] [aI 6] M S := go_nx rfl rfl
theorem g135_42 (r : Nat) (l1 : Option AV) (s0 : AV) (a : Nat) (M : Mem) (S : Sh) : go r 135 42 [some (aR a), l1] [s0] M S = go r 135 43 [some (aR a), l1] [aR a, s0] M S := go_nx rfl rfl
theorem g135_43 (r : Nat) (l0 l1 : Option AV) (s0 : AV) (a : Nat) (M : Mem) (S : Sh) (h : S.1 a = 6) : go r 135 43 [l0, l1] [aR a, s0] M S = go r 135 46 [l0, l1] [aO (S.2.2.1 a 7), s0] M S := go_bnd rfl h rfl
theorem g135_46 (r : Nat) (l0 : Option AV) (s0 s1 : AV) (x : Int) (M : Mem) (S : Sh) : go r 135 46 [l0, some (aI x)] [s0, s1] M S = go r 135 47 [l0, some (aI x)] [aI x, s0, s1] M S := go_nx rfl rfl
theorem g135_47 (r : Nat) (l0 l1 : Option AV) (s0 : AV) (x : Int) (a : Nat) (M : Mem) (S : Sh) (h : S.1 a = 7) (h0 : 0 ≤ x) (h1 : x < S.2.1 a) : go r 135 47 [l0, l1] [aI x, aR a, s0] M S = go r 135 48 [l0, l1] [aI (M a x.toNat), s0] M S := go_bnd rfl ⟨h, h0, h1⟩ rfl
theorem g135_48 (r : Nat) (l0 l1 : Option AV) (s0 s1 : AV) (M : Mem) (S : Sh) : go r 135 48 [l0, l1] [s0, s1] M S = go r 135 49 [l0, l1] [aI 3, s0, s1] M S := go_nx rfl rfl
theorem g135_49 (r : Nat) (l0 l1 : Option AV) (s0 : AV) (x y : Int) (M : Mem) (S : Sh) (h : y ≠ 0) : go r 135 49 [l0, l1] [aI y, aI x, s0] M S = go r 135 50 [l0, l1] [aI (w32 (Int.tdiv x y)), s0] M S := go_bnd rfl h rfl
theorem g135_50 (r : Nat) (l0 l1 : Option AV) (x y : Int) (M : Mem) (S : Sh) : go r 135 50 [l0, l1] [aI y, aI x] M S = go r 135 51 [l0, l1] [aI (w32 (x + y))] M S := go_nx rfl rfl
theorem g135_51 (r : Nat) (l0 l1 : Option AV) (x : Int) (M : Mem) (S : Sh) : go r 135 51 [l0, l1] [aI x] M S = some (some (aI x), M, S) := go_rt rfl (bnd_t (Or.inl rfl))
theorem g135_52 (r : Nat) (l0 l1 : Option AV) (M : Mem) (S : Sh) : go r 135 52 [l0, l1] [] M S = go r 135 54 [l0, l1] [aI 8] M S := go_nx rfl rfl
theorem g135_54 (r : Nat) (l0 l1 : Option AV) (x : Int) (M : Mem) (S : Sh) : go r 135 54 [l0, l1] [aI x] M S = some (some (aI x), M, S) := go_rt rfl (bnd_t (Or.inl rfl))
theorem g135_55 (r : Nat) (l0 l1 : Option AV) (M : Mem) (S : Sh) : go r 135 55 [l0, l1] [] M S = go r 135 56 [l0, l1] [aI 5] M S := go_nx rfl rfl
theorem g135_56 (r : Nat) (l0 l1 : Option AV) (x : Int) (M : Mem) (S : Sh) : go r 135 56 [l0, l1] [aI x] M S = some (some (aI x), M, S) := go_rt rfl (bnd_t (Or.inl rfl))
theorem g135_57 (r : Nat) (l0 l1 : Option AV) (M : Mem) (S : Sh) : go r 135 57 [l0, l1] [] M S = go r 135 58 [l0, l1] [aI 4] M S := go_nx rfl rfl
theorem g135_58 (r : Nat) (l0 l1 : Option AV) (x : Int) (M : Mem) (S : Sh) : go r 135 58 [l0, l1] [aI x] M S = some (some (aI x), M, S) := go_rt rfl (bnd_t (Or.inl rfl))
/-- StripsFromAboveModel.told(II)I -/
theorem g136 (x1 x2 : Int) (a0 : Nat) (M : Mem) (S : Sh) : res 136 [aR a0, aI x1, aI x2] M S = go 12 136 0 [some (aR a0), some (aI x1), some (aI x2)] [] M S := res_e0 rfl _ M S
theorem g136_0 (r : Nat) (l1 l2 : Option AV) (a : Nat) (M : Mem) (S : Sh) : go r 136 0 [some (aR a), l1, l2] [] M S = go r 136 1 [some (aR a), l1, l2] [aR a] M S := go_nx rfl rfl
theorem g136_1 (r : Nat) (l0 l2 : Option AV) (s0 : AV) (x : Int) (M : Mem) (S : Sh) : go r 136 1 [l0, some (aI x), l2] [s0] M S = go r 136 2 [l0, some (aI x), l2] [aI x, s0] M S := go_nx rfl rfl
theorem g136_2 (r : Nat) (l0 l1 l2 : Option AV) (x1 : Int) (a0 : Nat) (M : Mem) (S : Sh) (hk : 11 < r) (h : S.1 a0 = 6) : go r 136 2 [l0, l1, l2] [aI x1, aR a0] M S = cont r 136 5 [l0, l1, l2] [] 1 (res 108 [aR a0, aI x1] M S) := go_cr0 (m' := 108) (n := 2) (pc' := 5) (hr := 1) rfl rfl rfl h rfl rfl rfl rfl hk rfl
theorem g136_5 (r : Nat) (l0 l1 l2 : Option AV) (x : Int) (M : Mem) (S : Sh) : go r 136 5 [l0, l1, l2] [aI x] M S = if x ≠ 0 then go r 136 11 [l0, l1, l2] [] M S else go r 136 8 [l0, l1, l2] [] M S := go_br rfl rfl rfl rfl rfl
theorem g136_8 (r : Nat) (l0 l1 l2 : Option AV) (M : Mem) (S : Sh) : go r 136 8 [l0, l1, l2] [] M S = go r 136 10 [l0, l1, l2] [aI (-5)] M S := go_nx rfl rfl
theorem g136_10 (r : Nat) (l0 l1 l2 : Option AV) (x : Int) (M : Mem) (S : Sh) : go r 136 10 [l0, l1, l2] [aI x] M S = some (some (aI x), M, S) := go_rt rfl (bnd_t (Or.inl rfl))
theorem g136_11 (r : Nat) (l0 l1 : Option AV) (x : Int) (M : Mem) (S : Sh) : go r 136 11 [l0, l1, some (aI x)] [] M S = go r 136 12 [l0, l1, some (aI x)] [aI x] M S := go_nx rfl rfl
theorem g136_12c0 (r : Nat) (l0 l1 l2 : Option AV) (M : Mem) (S : Sh) : go r 136 12 [l0, l1, l2] [aI 0] M S = go r 136 56 [l0, l1, l2] [] M S := go_nx rfl rfl
theorem g136_12c1 (r : Nat) (l0 l1 l2 : Option AV) (M : Mem) (S : Sh) : go r 136 12 [l0, l1, l2] [aI 1] M S = go r 136 63 [l0, l1, l2] [] M S := go_nx rfl rfl
theorem g136_12c2 (r : Nat) (l0 l1 l2 : Option AV) (M : Mem) (S : Sh) : go r 136 12 [l0, l1, l2] [aI 2] M S = go r 136 70 [l0, l1, l2] [] M S := go_nx rfl rfl
theorem g136_12c3 (r : Nat) (l0 l1 l2 : Option AV) (M : Mem) (S : Sh) : go r 136 12 [l0, l1, l2] [aI 3] M S = go r 136 70 [l0, l1, l2] [] M S := go_nx rfl rfl
theorem g136_12c4 (r : Nat) (l0 l1 l2 : Option AV) (M : Mem) (S : Sh) : go r 136 12 [l0, l1, l2] [aI 4] M S = go r 136 70 [l0, l1, l2] [] M S := go_nx rfl rfl
theorem g136_12c5 (r : Nat) (l0 l1 l2 : Option AV) (M : Mem) (S : Sh) : go r 136 12 [l0, l1, l2] [aI 5] M S = go r 136 83 [l0, l1, l2] [] M S := go_nx rfl rfl
theorem g136_12c6 (r : Nat) (l0 l1 l2 : Option AV) (M : Mem) (S : Sh) : go r 136 12 [l0, l1, l2] [aI 6] M S = go r 136 89 [l0, l1, l2] [] M S := go_nx rfl rfl
theorem g136_12d (r : Nat) (l0 l1 l2 : Option AV) (x : Int) (M : Mem) (S : Sh) (h : x < 0 ∨ 6 < x) : go r 136 12 [l0, l1, l2] [aI x] M S = go r 136 95 [l0, l1, l2] [] M S := go_nx rfl (if_pos h)
theorem g136_56 (r : Nat) (l1 l2 : Option AV) (a : Nat) (M : Mem) (S : Sh) : go r 136 56 [some (aR a), l1, l2] [] M S = go r 136 57 [some (aR a), l1, l2] [aR a] M S := go_nx rfl rfl
theorem g136_57 (r : Nat) (l0 l1 l2 : Option AV) (a : Nat) (M : Mem) (S : Sh) (h : S.1 a = 6) : go r 136 57 [l0, l1, l2] [aR a] M S = go r 136 60 [l0, l1, l2] [aO (S.2.2.1 a 6)] M S := go_bnd rfl h rfl
theorem g136_60 (r : Nat) (l0 l2 : Option AV) (s0 : AV) (x : Int) (M : Mem) (S : Sh) : go r 136 60 [l0, some (aI x), l2] [s0] M S = go r 136 61 [l0, some (aI x), l2] [aI x, s0] M S := go_nx rfl rfl
theorem g136_61 (r : Nat) (l0 l1 l2 : Option AV) (x : Int) (a : Nat) (M : Mem) (S : Sh) (h : S.1 a = 7) (h0 : 0 ≤ x) (h1 : x < S.2.1 a) : go r 136 61 [l0, l1, l2] [aI x, aR a] M S = go r 136 62 [l0, l1, l2] [aI (M a x.toNat)] M S := go_bnd rfl ⟨h, h0, h1⟩ rfl
theorem g136_62 (r : Nat) (l0 l1 l2 : Option AV) (x : Int) (M : Mem) (S : Sh) : go r 136 62 [l0, l1, l2] [aI x] M S = some (some (aI x), M, S) := go_rt rfl (bnd_t (Or.inl rfl))
theorem g136_63 (r : Nat) (l1 l2 : Option AV) (a : Nat) (M : Mem) (S : Sh) : go r 136 63 [some (aR a), l1, l2] [] M S = go r 136 64 [some (aR a), l1, l2] [aR a] M S := go_nx rfl rfl
theorem g136_64 (r : Nat) (l0 l1 l2 : Option AV) (a : Nat) (M : Mem) (S : Sh) (h : S.1 a = 6) : go r 136 64 [l0, l1, l2] [aR a] M S = go r 136 67 [l0, l1, l2] [aO (S.2.2.1 a 7)] M S := go_bnd rfl h rfl
theorem g136_67 (r : Nat) (l0 l2 : Option AV) (s0 : AV) (x : Int) (M : Mem) (S : Sh) : go r 136 67 [l0, some (aI x), l2] [s0] M S = go r 136 68 [l0, some (aI x), l2] [aI x, s0] M S := go_nx rfl rfl
theorem g136_68 (r : Nat) (l0 l1 l2 : Option AV) (x : Int) (a : Nat) (M : Mem) (S : Sh) (h : S.1 a = 7) (h0 : 0 ≤ x) (h1 : x < S.2.1 a) : go r 136 68 [l0, l1, l2] [aI x, aR a] M S = go r 136 69 [l0, l1, l2] [aI (M a x.toNat)] M S := go_bnd rfl ⟨h, h0, h1⟩ rfl
theorem g136_69 (r : Nat) (l0 l1 l2 : Option AV) (x : Int) (M : Mem) (S : Sh) : go r 136 69 [l0, l1, l2] [aI x] M S = some (some (aI x), M, S) := go_rt rfl (bnd_t (Or.inl rfl))
theorem g136_70 (r : Nat) (l1 l2 : Option AV) (a : Nat) (M : Mem) (S : Sh) : go r 136 70 [some (aR a), l1, l2] [] M S = go r 136 71 [some (aR a), l1, l2] [aR a] M S := go_nx rfl rfl
theorem g136_71 (r : Nat) (l0 l1 l2 : Option AV) (a : Nat) (M : Mem) (S : Sh) (h : S.1 a = 6) : go r 136 71 [l0, l1, l2] [aR a] M S = go r 136 74 [l0, l1, l2] [aO (S.2.2.1 a 8)] M S := go_bnd rfl h rfl
theorem g136_74 (r : Nat) (l0 l1 l2 : Option AV) (s0 : AV) (M : Mem) (S : Sh) : go r 136 74 [l0, l1, l2] [s0] M S = go r 136 75 [l0, l1, l2] [aI 3, s0] M S := go_nx rfl rfl
theorem g136_75 (r : Nat) (l0 l2 : Option AV) (s0 s1 : AV) (x : Int) (M : Mem) (S : Sh) : go r 136 75 [l0, some (aI x), l2] [s0, s1] M S = go r 136 76 [l0, some (aI x), l2] [aI x, s0, s1] M S := go_nx rfl rfl
theorem g136_76 (r : Nat) (l0 l1 l2 : Option AV) (s0 : AV) (x y : Int) (M : Mem) (S : Sh) : go r 136 76 [l0, l1, l2] [aI y, aI x, s0] M S = go r 136 77 [l0, l1, l2] [aI (w32 (x * y)), s0] M S := go_nx rfl rfl
theorem g136_77 (r : Nat) (l0 l1 : Option AV) (s0 s1 : AV) (x : Int) (M : Mem) (S : Sh) : go r 136 77 [l0, l1, some (aI x)] [s0, s1] M S = go r 136 78 [l0, l1, some (aI x)] [aI x, s0, s1] M S := go_nx rfl rfl
theorem g136_78 (r : Nat) (l0 l1 l2 : Option AV) (s0 : AV) (x y : Int) (M : Mem) (S : Sh) : go r 136 78 [l0, l1, l2] [aI y, aI x, s0] M S = go r 136 79 [l0, l1, l2] [aI (w32 (x + y)), s0] M S := go_nx rfl rfl
theorem g136_79 (r : Nat) (l0 l1 l2 : Option AV) (s0 s1 : AV) (M : Mem) (S : Sh) : go r 136 79 [l0, l1, l2] [s0, s1] M S = go r 136 80 [l0, l1, l2] [aI 2, s0, s1] M S := go_nx rfl rfl
theorem g136_80 (r : Nat) (l0 l1 l2 : Option AV) (s0 : AV) (x y : Int) (M : Mem) (S : Sh) : go r 136 80 [l0, l1, l2] [aI y, aI x, s0] M S = go r 136 81 [l0, l1, l2] [aI (w32 (x - y)), s0] M S := go_nx rfl rfl
theorem g136_81 (r : Nat) (l0 l1 l2 : Option AV) (x : Int) (a : Nat) (M : Mem) (S : Sh) (h : S.1 a = 7) (h0 : 0 ≤ x) (h1 : x < S.2.1 a) : go r 136 81 [l0, l1, l2] [aI x, aR a] M S = go r 136 82 [l0, l1, l2] [aI (M a x.toNat)] M S := go_bnd rfl ⟨h, h0, h1⟩ rfl
theorem g136_82 (r : Nat) (l0 l1 l2 : Option AV) (x : Int) (M : Mem) (S : Sh) : go r 136 82 [l0, l1, l2] [aI x] M S = some (some (aI x), M, S) := go_rt rfl (bnd_t (Or.inl rfl))
theorem g136_83 (r : Nat) (l1 l2 : Option AV) (a : Nat) (M : Mem) (S : Sh) : go r 136 83 [some (aR a), l1, l2] [] M S = go r 136 84 [some (aR a), l1, l2] [aR a] M S := go_nx rfl rfl
theorem g136_84 (r : Nat) (l0 l2 : Option AV) (s0 : AV) (x : Int) (M : Mem) (S : Sh) : go r 136 84 [l0, some (aI x), l2] [s0] M S = go r 136 85 [l0, some (aI x), l2] [aI x, s0] M S := go_nx rfl rfl
theorem g136_85 (r : Nat) (l0 l1 l2 : Option AV) (x1 : Int) (a0 : Nat) (M : Mem) (S : Sh) (hk : 10 < r) (h : S.1 a0 = 6) : go r 136 85 [l0, l1, l2] [aI x1, aR a0] M S = cont r 136 88 [l0, l1, l2] [] 1 (res 134 [aR a0, aI x1] M S) := go_cr0 (m' := 134) (n := 2) (pc' := 88) (hr := 1) rfl rfl rfl h rfl rfl rfl rfl hk rfl
theorem g136_88 (r : Nat) (l0 l1 l2 : Option AV) (x : Int) (M : Mem) (S : Sh) : go r 136 88 [l0, l1, l2] [aI x] M S = some (some (aI x), M, S) := go_rt rfl (bnd_t (Or.inl rfl))
theorem g136_89 (r : Nat) (l1 l2 : Option AV) (a : Nat) (M : Mem) (S : Sh) : go r 136 89 [some (aR a), l1, l2] [] M S = go r 136 90 [some (aR a), l1, l2] [aR a] M S := go_nx rfl rfl
theorem g136_90 (r : Nat) (l0 l2 : Option AV) (s0 : AV) (x : Int) (M : Mem) (S : Sh) : go r 136 90 [l0, some (aI x), l2] [s0] M S = go r 136 91 [l0, some (aI x), l2] [aI x, s0] M S := go_nx rfl rfl
theorem g136_91 (r : Nat) (l0 l1 l2 : Option AV) (x1 : Int) (a0 : Nat) (M : Mem) (S : Sh) (hk : 10 < r) (h : S.1 a0 = 6) : go r 136 91 [l0, l1, l2] [aI x1, aR a0] M S = cont r 136 94 [l0, l1, l2] [] 1 (res 135 [aR a0, aI x1] M S) := go_cr0 (m' := 135) (n := 2) (pc' := 94) (hr := 1) rfl rfl rfl h rfl rfl rfl rfl hk rfl
theorem g136_94 (r : Nat) (l0 l1 l2 : Option AV) (x : Int) (M : Mem) (S : Sh) : go r 136 94 [l0, l1, l2] [aI x] M S = some (some (aI x), M, S) := go_rt rfl (bnd_t (Or.inl rfl))
theorem g136_95 (r : Nat) (l0 l1 l2 : Option AV) (M : Mem) (S : Sh) : go r 136 95 [l0, l1, l2] [] M S = go r 136 97 [l0, l1, l2] [aI (-7)] M S := go_nx rfl rfl
theorem g136_97 (r : Nat) (l0 l1 l2 : Option AV) (x : Int) (M : Mem) (S : Sh) : go r 136 97 [l0, l1, l2] [aI x] M S = some (some (aI x), M, S) := go_rt rfl (bnd_t (Or.inl rfl))
/-- StripsFromAboveModel.strip(II)I -/
theorem g137 (x1 x2 : Int) (a0 : Nat) (M : Mem) (S : Sh) : res 137 [aR a0, aI x1, aI x2] M S = go 11 137 0 [some (aR a0), some (aI x1), some (aI x2)] [] M S := res_e0 rfl _ M S
theorem g137_0 (r : Nat) (l0 l2 : Option AV) (x : Int) (M : Mem) (S : Sh) : go r 137 0 [l0, some (aI x), l2] [] M S = go r 137 1 [l0, some (aI x), l2] [aI x] M S := go_nx rfl rfl
theorem g137_1 (r : Nat) (l0 l1 l2 : Option AV) (s0 : AV) (M : Mem) (S : Sh) : go r 137 1 [l0, l1, l2] [s0] M S = go r 137 2 [l0, l1, l2] [aI 0, s0] M S := go_nx rfl rfl
theorem g137_2 (r : Nat) (l0 l1 l2 : Option AV) (s0 s1 : AV) (M : Mem) (S : Sh) : go r 137 2 [l0, l1, l2] [s0, s1] M S = go r 137 3 [l0, l1, l2] [aI 3, s0, s1] M S := go_nx rfl rfl
theorem g137_3 (r : Nat) (l0 l1 l2 : Option AV) (x0 x1 x2 : Int) (M : Mem) (S : Sh) (hk : 10 < r) : go r 137 3 [l0, l1, l2] [aI x2, aI x1, aI x0] M S = cont r 137 6 [l0, l1, l2] [] 1 (res 106 [aI x0, aI x1, aI x2] M S) := go_c0 (m' := 106) (n := 3) (pc' := 6) (hr := 1) rfl rfl rfl rfl rfl rfl hk rfl
theorem g137_6 (r : Nat) (l0 l1 l2 : Option AV) (x : Int) (M : Mem) (S : Sh) : go r 137 6 [l0, l1, l2] [aI x] M S = if x = 0 then go r 137 29 [l0, l1, l2] [] M S else go r 137 9 [l0, l1, l2] [] M S := go_br rfl rfl rfl rfl rfl
theorem g137_9 (r : Nat) (l0 l1 : Option AV) (x : Int) (M : Mem) (S : Sh) : go r 137 9 [l0, l1, some (aI x)] [] M S = go r 137 10 [l0, l1, some (aI x)] [aI x] M S := go_nx rfl rfl
theorem g137_10 (r : Nat) (l0 l1 l2 : Option AV) (s0 : AV) (M : Mem) (S : Sh) : go r 137 10 [l0, l1, l2] [s0] M S = go r 137 11 [l0, l1, l2] [aI 0, s0] M S := go_nx rfl rfl
theorem g137_11 (r : Nat) (l0 l2 : Option AV) (s0 s1 : AV) (x : Int) (M : Mem) (S : Sh) : go r 137 11 [l0, some (aI x), l2] [s0, s1] M S = go r 137 12 [l0, some (aI x), l2] [aI x, s0, s1] M S := go_nx rfl rfl
theorem g137_12 (r : Nat) (l0 l1 l2 : Option AV) (s0 s1 s2 : AV) (M : Mem) (S : Sh) : go r 137 12 [l0, l1, l2] [s0, s1, s2] M S = go r 137 13 [l0, l1, l2] [aI 2, s0, s1, s2] M S := go_nx rfl rfl
theorem g137_13 (r : Nat) (l0 l1 l2 : Option AV) (s0 s1 : AV) (x y : Int) (M : Mem) (S : Sh) : go r 137 13 [l0, l1, l2] [aI y, aI x, s0, s1] M S = if x ≥ y then go r 137 21 [l0, l1, l2] [s0, s1] M S else go r 137 16 [l0, l1, l2] [s0, s1] M S := go_br rfl rfl rfl rfl rfl
theorem g137_16 (r : Nat) (l0 l1 l2 : Option AV) (s0 s1 : AV) (M : Mem) (S : Sh) : go r 137 16 [l0, l1, l2] [s0, s1] M S = go r 137 18 [l0, l1, l2] [aI 11, s0, s1] M S := go_nx rfl rfl
theorem g137_18 (r : Nat) (l0 l1 l2 : Option AV) (s0 s1 s2 : AV) (M : Mem) (S : Sh) : go r 137 18 [l0, l1, l2] [s0, s1, s2] M S = go r 137 23 [l0, l1, l2] [s0, s1, s2] M S := go_nx rfl rfl
theorem g137_21 (r : Nat) (l0 l1 l2 : Option AV) (s0 s1 : AV) (M : Mem) (S : Sh) : go r 137 21 [l0, l1, l2] [s0, s1] M S = go r 137 23 [l0, l1, l2] [aI 15, s0, s1] M S := go_nx rfl rfl
theorem g137_23 (r : Nat) (l0 l1 l2 : Option AV) (x0 x1 x2 : Int) (M : Mem) (S : Sh) (hk : 10 < r) : go r 137 23 [l0, l1, l2] [aI x2, aI x1, aI x0] M S = cont r 137 26 [l0, l1, l2] [] 1 (res 106 [aI x0, aI x1, aI x2] M S) := go_c0 (m' := 106) (n := 3) (pc' := 26) (hr := 1) rfl rfl rfl rfl rfl rfl hk rfl
theorem g137_26 (r : Nat) (l0 l1 l2 : Option AV) (x : Int) (M : Mem) (S : Sh) : go r 137 26 [l0, l1, l2] [aI x] M S = if x ≠ 0 then go r 137 32 [l0, l1, l2] [] M S else go r 137 29 [l0, l1, l2] [] M S := go_br rfl rfl rfl rfl rfl
theorem g137_29 (r : Nat) (l0 l1 l2 : Option AV) (M : Mem) (S : Sh) : go r 137 29 [l0, l1, l2] [] M S = go r 137 31 [l0, l1, l2] [aI (-2)] M S := go_nx rfl rfl
theorem g137_31 (r : Nat) (l0 l1 l2 : Option AV) (x : Int) (M : Mem) (S : Sh) : go r 137 31 [l0, l1, l2] [aI x] M S = some (some (aI x), M, S) := go_rt rfl (bnd_t (Or.inl rfl))
theorem g137_32 (r : Nat) (l1 l2 : Option AV) (a : Nat) (M : Mem) (S : Sh) : go r 137 32 [some (aR a), l1, l2] [] M S = go r 137 33 [some (aR a), l1, l2] [aR a] M S := go_nx rfl rfl
theorem g137_33 (r : Nat) (l0 l1 l2 : Option AV) (a : Nat) (M : Mem) (S : Sh) (h : S.1 a = 6) : go r 137 33 [l0, l1, l2] [aR a] M S = go r 137 36 [l0, l1, l2] [aI (M a 9)] M S := go_bnd rfl h rfl
theorem g137_36 (r : Nat) (l0 l1 l2 : Option AV) (s0 : AV) (M : Mem) (S : Sh) : go r 137 36 [l0, l1, l2] [s0] M S = go r 137 38 [l0, l1, l2] [aI 12, s0] M S := go_nx rfl rfl
theorem g137_38 (r : Nat) (l0 l1 l2 : Option AV) (x y : Int) (M : Mem) (S : Sh) : go r 137 38 [l0, l1, l2] [aI y, aI x] M S = if x ≠ y then go r 137 44 [l0, l1, l2] [] M S else go r 137 41 [l0, l1, l2] [] M S := go_br rfl rfl rfl rfl rfl
theorem g137_41 (r : Nat) (l0 l1 l2 : Option AV) (M : Mem) (S : Sh) : go r 137 41 [l0, l1, l2] [] M S = go r 137 43 [l0, l1, l2] [aI (-4)] M S := go_nx rfl rfl
theorem g137_43 (r : Nat) (l0 l1 l2 : Option AV) (x : Int) (M : Mem) (S : Sh) : go r 137 43 [l0, l1, l2] [aI x] M S = some (some (aI x), M, S) := go_rt rfl (bnd_t (Or.inl rfl))
theorem g137_44 (r : Nat) (l1 l2 : Option AV) (a : Nat) (M : Mem) (S : Sh) : go r 137 44 [some (aR a), l1, l2] [] M S = go r 137 45 [some (aR a), l1, l2] [aR a] M S := go_nx rfl rfl
theorem g137_45 (r : Nat) (l0 l1 l2 : Option AV) (a : Nat) (M : Mem) (S : Sh) (h : S.1 a = 6) : go r 137 45 [l0, l1, l2] [aR a] M S = go r 137 48 [l0, l1, l2] [aO (S.2.2.1 a 10)] M S := go_bnd rfl h rfl
theorem g137_48 (r : Nat) (l1 l2 : Option AV) (s0 : AV) (a : Nat) (M : Mem) (S : Sh) : go r 137 48 [some (aR a), l1, l2] [s0] M S = go r 137 49 [some (aR a), l1, l2] [aR a, s0] M S := go_nx rfl rfl
theorem g137_49 (r : Nat) (l0 l1 l2 : Option AV) (s0 : AV) (a : Nat) (M : Mem) (S : Sh) (h : S.1 a = 6) : go r 137 49 [l0, l1, l2] [aR a, s0] M S = go r 137 52 [l0, l1, l2] [aI (M a 9), s0] M S := go_bnd rfl h rfl
theorem g137_52 (r : Nat) (l0 l2 : Option AV) (s0 s1 : AV) (x : Int) (M : Mem) (S : Sh) : go r 137 52 [l0, some (aI x), l2] [s0, s1] M S = go r 137 53 [l0, some (aI x), l2] [aI x, s0, s1] M S := go_nx rfl rfl
theorem g137_53 (r : Nat) (l0 l1 l2 : Option AV) (x y : Int) (a : Nat) (M : Mem) (S : Sh) (h : S.1 a = 7) (h6 : 6 ≤ a) (h0 : 0 ≤ x) (h1 : x < S.2.1 a) : go r 137 53 [l0, l1, l2] [aI y, aI x, aR a] M S = go r 137 54 [l0, l1, l2] [] (mset M a x.toNat y) S := go_bnd rfl ⟨h, h6, h0, h1⟩ rfl
theorem g137_54 (r : Nat) (l1 l2 : Option AV) (a : Nat) (M : Mem) (S : Sh) : go r 137 54 [some (aR a), l1, l2] [] M S = go r 137 55 [some (aR a), l1, l2] [aR a] M S := go_nx rfl rfl
theorem g137_55 (r : Nat) (l0 l1 l2 : Option AV) (a : Nat) (M : Mem) (S : Sh) (h : S.1 a = 6) : go r 137 55 [l0, l1, l2] [aR a] M S = go r 137 58 [l0, l1, l2] [aO (S.2.2.1 a 11)] M S := go_bnd rfl h rfl
theorem g137_58 (r : Nat) (l1 l2 : Option AV) (s0 : AV) (a : Nat) (M : Mem) (S : Sh) : go r 137 58 [some (aR a), l1, l2] [s0] M S = go r 137 59 [some (aR a), l1, l2] [aR a, s0] M S := go_nx rfl rfl
theorem g137_59 (r : Nat) (l0 l1 l2 : Option AV) (s0 : AV) (a : Nat) (M : Mem) (S : Sh) (h : S.1 a = 6) : go r 137 59 [l0, l1, l2] [aR a, s0] M S = go r 137 62 [l0, l1, l2] [aI (M a 9), s0] M S := go_bnd rfl h rfl
theorem g137_62 (r : Nat) (l0 l1 : Option AV) (s0 s1 : AV) (x : Int) (M : Mem) (S : Sh) : go r 137 62 [l0, l1, some (aI x)] [s0, s1] M S = go r 137 63 [l0, l1, some (aI x)] [aI x, s0, s1] M S := go_nx rfl rfl
theorem g137_63 (r : Nat) (l0 l1 l2 : Option AV) (x y : Int) (a : Nat) (M : Mem) (S : Sh) (h : S.1 a = 7) (h6 : 6 ≤ a) (h0 : 0 ≤ x) (h1 : x < S.2.1 a) : go r 137 63 [l0, l1, l2] [aI y, aI x, aR a] M S = go r 137 64 [l0, l1, l2] [] (mset M a x.toNat y) S := go_bnd rfl ⟨h, h6, h0, h1⟩ rfl
theorem g137_64 (r : Nat) (l1 l2 : Option AV) (a : Nat) (M : Mem) (S : Sh) : go r 137 64 [some (aR a), l1, l2] [] M S = go r 137 65 [some (aR a), l1, l2] [aR a] M S := go_nx rfl rfl
theorem g137_65 (r : Nat) (l0 l1 l2 : Option AV) (a : Nat) (M : Mem) (S : Sh) : go r 137 65 [l0, l1, l2] [aR a] M S = go r 137 66 [l0, l1, l2] [aR a, aR a] M S := go_nx rfl rfl
theorem g137_66 (r : Nat) (l0 l1 l2 : Option AV) (s0 : AV) (a : Nat) (M : Mem) (S : Sh) (h : S.1 a = 6) : go r 137 66 [l0, l1, l2] [aR a, s0] M S = go r 137 69 [l0, l1, l2] [aI (M a 9), s0] M S := go_bnd rfl h rfl
theorem g137_69 (r : Nat) (l0 l1 l2 : Option AV) (s0 s1 : AV) (M : Mem) (S : Sh) : go r 137 69 [l0, l1, l2] [s0, s1] M S = go r 137 70 [l0, l1, l2] [aI 1, s0, s1] M S := go_nx rfl rfl
theorem g137_70 (r : Nat) (l0 l1 l2 : Option AV) (s0 : AV) (x y : Int) (M : Mem) (S : Sh) : go r 137 70 [l0, l1, l2] [aI y, aI x, s0] M S = go r 137 71 [l0, l1, l2] [aI (w32 (x + y)), s0] M S := go_nx rfl rfl
theorem g137_71 (r : Nat) (l0 l1 l2 : Option AV) (x : Int) (a : Nat) (M : Mem) (S : Sh) (h : S.1 a = 6) : go r 137 71 [l0, l1, l2] [aI x, aR a] M S = go r 137 74 [l0, l1, l2] [] (mset M a 9 x) S := go_bnd rfl ⟨h, fun z => absurd z (by decide)⟩ rfl
theorem g137_74 (r : Nat) (l1 l2 : Option AV) (a : Nat) (M : Mem) (S : Sh) : go r 137 74 [some (aR a), l1, l2] [] M S = go r 137 75 [some (aR a), l1, l2] [aR a] M S := go_nx rfl rfl
theorem g137_75 (r : Nat) (l0 l1 l2 : Option AV) (a : Nat) (M : Mem) (S : Sh) (h : S.1 a = 6) : go r 137 75 [l0, l1, l2] [aR a] M S = go r 137 78 [l0, l1, l2] [aI (M a 9)] M S := go_bnd rfl h rfl
theorem g137_78 (r : Nat) (l0 l1 l2 : Option AV) (x : Int) (M : Mem) (S : Sh) : go r 137 78 [l0, l1, l2] [aI x] M S = some (some (aI x), M, S) := go_rt rfl (bnd_t (Or.inl rfl))
/-- StripsFromAboveModel.isStrip(I)Z -/
theorem g138 (x1 : Int) (a0 : Nat) (M : Mem) (S : Sh) : res 138 [aR a0, aI x1] M S = go 11 138 0 [some (aR a0), some (aI x1)] [] M S := res_e0 rfl _ M S
theorem g138_0 (r : Nat) (l0 : Option AV) (x : Int) (M : Mem) (S : Sh) : go r 138 0 [l0, some (aI x)] [] M S = go r 138 1 [l0, some (aI x)] [aI x] M S := go_nx rfl rfl
theorem g138_1 (r : Nat) (l0 l1 : Option AV) (s0 : AV) (M : Mem) (S : Sh) : go r 138 1 [l0, l1] [s0] M S = go r 138 2 [l0, l1] [aI 0, s0] M S := go_nx rfl rfl
theorem g138_2 (r : Nat) (l1 : Option AV) (s0 s1 : AV) (a : Nat) (M : Mem) (S : Sh) : go r 138 2 [some (aR a), l1] [s0, s1] M S = go r 138 3 [some (aR a), l1] [aR a, s0, s1] M S := go_nx rfl rfl
theorem g138_3 (r : Nat) (l0 l1 : Option AV) (s0 s1 : AV) (a : Nat) (M : Mem) (S : Sh) (h : S.1 a = 6) : go r 138 3 [l0, l1] [aR a, s0, s1] M S = go r 138 6 [l0, l1] [aI (M a 9), s0, s1] M S := go_bnd rfl h rfl
theorem g138_6 (r : Nat) (l0 l1 : Option AV) (s0 s1 s2 : AV) (M : Mem) (S : Sh) : go r 138 6 [l0, l1] [s0, s1, s2] M S = go r 138 7 [l0, l1] [aI 1, s0, s1, s2] M S := go_nx rfl rfl
theorem g138_7 (r : Nat) (l0 l1 : Option AV) (s0 s1 : AV) (x y : Int) (M : Mem) (S : Sh) : go r 138 7 [l0, l1] [aI y, aI x, s0, s1] M S = go r 138 8 [l0, l1] [aI (w32 (x - y)), s0, s1] M S := go_nx rfl rfl
theorem g138_8 (r : Nat) (l0 l1 : Option AV) (x0 x1 x2 : Int) (M : Mem) (S : Sh) (hk : 10 < r) : go r 138 8 [l0, l1] [aI x2, aI x1, aI x0] M S = cont r 138 11 [l0, l1] [] 1 (res 106 [aI x0, aI x1, aI x2] M S) := go_c0 (m' := 106) (n := 3) (pc' := 11) (hr := 1) rfl rfl rfl rfl rfl rfl hk rfl
theorem g138_11 (r : Nat) (l0 l1 : Option AV) (x : Int) (M : Mem) (S : Sh) (h : x = 0 ∨ x = 1) : go r 138 11 [l0, l1] [aI x] M S = some (some (aI x), M, S) := go_rt rfl (bnd_t (Or.inr h))
/-- StripsFromAboveModel.drop(I)I -/
theorem g139 (x1 : Int) (a0 : Nat) (M : Mem) (S : Sh) : res 139 [aR a0, aI x1] M S = go 12 139 0 [some (aR a0), some (aI x1), none, none] [] M S := res_e0 rfl _ M S
theorem g139_0 (r : Nat) (l1 l2 l3 : Option AV) (a : Nat) (M : Mem) (S : Sh) : go r 139 0 [some (aR a), l1, l2, l3] [] M S = go r 139 1 [some (aR a), l1, l2, l3] [aR a] M S := go_nx rfl rfl
theorem g139_1 (r : Nat) (l0 l2 l3 : Option AV) (s0 : AV) (x : Int) (M : Mem) (S : Sh) : go r 139 1 [l0, some (aI x), l2, l3] [s0] M S = go r 139 2 [l0, some (aI x), l2, l3] [aI x, s0] M S := go_nx rfl rfl
theorem g139_2 (r : Nat) (l0 l1 l2 l3 : Option AV) (x1 : Int) (a0 : Nat) (M : Mem) (S : Sh) (hk : 11 < r) (h : S.1 a0 = 6) : go r 139 2 [l0, l1, l2, l3] [aI x1, aR a0] M S = cont r 139 5 [l0, l1, l2, l3] [] 1 (res 138 [aR a0, aI x1] M S) := go_cr0 (m' := 138) (n := 2) (pc' := 5) (hr := 1) rfl rfl rfl h rfl rfl rfl rfl hk rfl
theorem g139_5 (r : Nat) (l0 l1 l2 l3 : Option AV) (x : Int) (M : Mem) (S : Sh) : go r 139 5 [l0, l1, l2, l3] [aI x] M S = if x ≠ 0 then go r 139 11 [l0, l1, l2, l3] [] M S else go r 139 8 [l0, l1, l2, l3] [] M S := go_br rfl rfl rfl rfl rfl
theorem g139_8 (r : Nat) (l0 l1 l2 l3 : Option AV) (M : Mem) (S : Sh) : go r 139 8 [l0, l1, l2, l3] [] M S = go r 139 10 [l0, l1, l2, l3] [aI (-6)] M S := go_nx rfl rfl
theorem g139_10 (r : Nat) (l0 l1 l2 l3 : Option AV) (x : Int) (M : Mem) (S : Sh) : go r 139 10 [l0, l1, l2, l3] [aI x] M S = some (some (aI x), M, S) := go_rt rfl (bnd_t (Or.inl rfl))
theorem g139_11 (r : Nat) (l0 l1 l2 l3 : Option AV) (M : Mem) (S : Sh) : go r 139 11 [l0, l1, l2, l3] [] M S = go r 139 13 [l0, l1, l2, l3] [aI 100] M S := go_nx rfl rfl
theorem g139_13 (r : Nat) (l1 l2 l3 : Option AV) (s0 : AV) (a : Nat) (M : Mem) (S : Sh) : go r 139 13 [some (aR a), l1, l2, l3] [s0] M S = go r 139 14 [some (aR a), l1, l2, l3] [aR a, s0] M S := go_nx rfl rfl
theorem g139_14 (r : Nat) (l0 l1 l2 l3 : Option AV) (s0 : AV) (a : Nat) (M : Mem) (S : Sh) (h : S.1 a = 6) : go r 139 14 [l0, l1, l2, l3] [aR a, s0] M S = go r 139 17 [l0, l1, l2, l3] [aO (S.2.2.1 a 10), s0] M S := go_bnd rfl h rfl
theorem g139_17 (r : Nat) (l0 l2 l3 : Option AV) (s0 s1 : AV) (x : Int) (M : Mem) (S : Sh) : go r 139 17 [l0, some (aI x), l2, l3] [s0, s1] M S = go r 139 18 [l0, some (aI x), l2, l3] [aI x, s0, s1] M S := go_nx rfl rfl
theorem g139_18 (r : Nat) (l0 l1 l2 l3 : Option AV) (s0 : AV) (x : Int) (a : Nat) (M : Mem) (S : Sh) (h : S.1 a = 7) (h0 : 0 ≤ x) (h1 : x < S.2.1 a) : go r 139 18 [l0, l1, l2, l3] [aI x, aR a, s0] M S = go r 139 19 [l0, l1, l2, l3] [aI (M a x.toNat), s0] M S := go_bnd rfl ⟨h, h0, h1⟩ rfl
theorem g139_19 (r : Nat) (l0 l1 l2 l3 : Option AV) (x y : Int) (M : Mem) (S : Sh) : go r 139 19 [l0, l1, l2, l3] [aI y, aI x] M S = go r 139 20 [l0, l1, l2, l3] [aI (w32 (x * y))] M S := go_nx rfl rfl
theorem g139_20 (r : Nat) (l1 l2 l3 : Option AV) (s0 : AV) (a : Nat) (M : Mem) (S : Sh) : go r 139 20 [some (aR a), l1, l2, l3] [s0] M S = go r 139 21 [some (aR a), l1, l2, l3] [aR a, s0] M S := go_nx rfl rfl
theorem g139_21 (r : Nat) (l0 l1 l2 l3 : Option AV) (s0 : AV) (a : Nat) (M : Mem) (S : Sh) (h : S.1 a = 6) : go r 139 21 [l0, l1, l2, l3] [aR a, s0] M S = go r 139 24 [l0, l1, l2, l3] [aO (S.2.2.1 a 11), s0] M S := go_bnd rfl h rfl
theorem g139_24 (r : Nat) (l0 l2 l3 : Option AV) (s0 s1 : AV) (x : Int) (M : Mem) (S : Sh) : go r 139 24 [l0, some (aI x), l2, l3] [s0, s1] M S = go r 139 25 [l0, some (aI x), l2, l3] [aI x, s0, s1] M S := go_nx rfl rfl
theorem g139_25 (r : Nat) (l0 l1 l2 l3 : Option AV) (s0 : AV) (x : Int) (a : Nat) (M : Mem) (S : Sh) (h : S.1 a = 7) (h0 : 0 ≤ x) (h1 : x < S.2.1 a) : go r 139 25 [l0, l1, l2, l3] [aI x, aR a, s0] M S = go r 139 26 [l0, l1, l2, l3] [aI (M a x.toNat), s0] M S := go_bnd rfl ⟨h, h0, h1⟩ rfl
theorem g139_26 (r : Nat) (l0 l1 l2 l3 : Option AV) (x y : Int) (M : Mem) (S : Sh) : go r 139 26 [l0, l1, l2, l3] [aI y, aI x] M S = go r 139 27 [l0, l1, l2, l3] [aI (w32 (x + y))] M S := go_nx rfl rfl
theorem g139_27 (r : Nat) (l0 l1 l2 l3 : Option AV) (x : Int) (M : Mem) (S : Sh) : go r 139 27 [l0, l1, l2, l3] [aI x] M S = go r 139 28 [l0, l1, some (aI x), l3] [] M S := go_nx rfl rfl
theorem g139_28 (r : Nat) (l0 l2 l3 : Option AV) (x : Int) (M : Mem) (S : Sh) : go r 139 28 [l0, some (aI x), l2, l3] [] M S = go r 139 29 [l0, some (aI x), l2, l3] [aI x] M S := go_nx rfl rfl
theorem g139_29 (r : Nat) (l0 l1 l2 l3 : Option AV) (x : Int) (M : Mem) (S : Sh) : go r 139 29 [l0, l1, l2, l3] [aI x] M S = go r 139 30 [l0, l1, l2, some (aI x)] [] M S := go_nx rfl rfl
theorem g139_30 (r : Nat) (l0 l1 l2 : Option AV) (x : Int) (M : Mem) (S : Sh) : go r 139 30 [l0, l1, l2, some (aI x)] [] M S = go r 139 31 [l0, l1, l2, some (aI x)] [aI x] M S := go_nx rfl rfl
theorem g139_31 (r : Nat) (l0 l1 l2 l3 : Option AV) (s0 : AV) (M : Mem) (S : Sh) : go r 139 31 [l0, l1, l2, l3] [s0] M S = go r 139 32 [l0, l1, l2, l3] [aI 1, s0] M S := go_nx rfl rfl
theorem g139_32 (r : Nat) (l0 l1 l2 l3 : Option AV) (x y : Int) (M : Mem) (S : Sh) : go r 139 32 [l0, l1, l2, l3] [aI y, aI x] M S = go r 139 33 [l0, l1, l2, l3] [aI (w32 (x + y))] M S := go_nx rfl rfl
theorem g139_33 (r : Nat) (l1 l2 l3 : Option AV) (s0 : AV) (a : Nat) (M : Mem) (S : Sh) : go r 139 33 [some (aR a), l1, l2, l3] [s0] M S = go r 139 34 [some (aR a), l1, l2, l3] [aR a, s0] M S := go_nx rfl rfl
theorem g139_34 (r : Nat) (l0 l1 l2 l3 : Option AV) (s0 : AV) (a : Nat) (M : Mem) (S : Sh) (h : S.1 a = 6) : go r 139 34 [l0, l1, l2, l3] [aR a, s0] M S = go r 139 37 [l0, l1, l2, l3] [aI (M a 9), s0] M S := go_bnd rfl h rfl
theorem g139_37 (r : Nat) (l0 l1 l2 l3 : Option AV) (x y : Int) (M : Mem) (S : Sh) : go r 139 37 [l0, l1, l2, l3] [aI y, aI x] M S = if x ≥ y then go r 139 74 [l0, l1, l2, l3] [] M S else go r 139 40 [l0, l1, l2, l3] [] M S := go_br rfl rfl rfl rfl rfl
theorem g139_40 (r : Nat) (l1 l2 l3 : Option AV) (a : Nat) (M : Mem) (S : Sh) : go r 139 40 [some (aR a), l1, l2, l3] [] M S = go r 139 41 [some (aR a), l1, l2, l3] [aR a] M S := go_nx rfl rfl
theorem g139_41 (r : Nat) (l0 l1 l2 l3 : Option AV) (a : Nat) (M : Mem) (S : Sh) (h : S.1 a = 6) : go r 139 41 [l0, l1, l2, l3] [aR a] M S = go r 139 44 [l0, l1, l2, l3] [aO (S.2.2.1 a 10)] M S := go_bnd rfl h rfl
theorem g139_44 (r : Nat) (l0 l1 l2 : Option AV) (s0 : AV) (x : Int) (M : Mem) (S : Sh) : go r 139 44 [l0, l1, l2, some (aI x)] [s0] M S = go r 139 45 [l0, l1, l2, some (aI x)] [aI x, s0] M S := go_nx rfl rfl
theorem g139_45 (r : Nat) (l1 l2 l3 : Option AV) (s0 s1 : AV) (a : Nat) (M : Mem) (S : Sh) : go r 139 45 [some (aR a), l1, l2, l3] [s0, s1] M S = go r 139 46 [some (aR a), l1, l2, l3] [aR a, s0, s1] M S := go_nx rfl rfl
theorem g139_46 (r : Nat) (l0 l1 l2 l3 : Option AV) (s0 s1 : AV) (a : Nat) (M : Mem) (S : Sh) (h : S.1 a = 6) : go r 139 46 [l0, l1, l2, l3] [aR a, s0, s1] M S = go r 139 49 [l0, l1, l2, l3] [aO (S.2.2.1 a 10), s0, s1] M S := go_bnd rfl h rfl
theorem g139_49 (r : Nat) (l0 l1 l2 : Option AV) (s0 s1 s2 : AV) (x : Int) (M : Mem) (S : Sh) : go r 139 49 [l0, l1, l2, some (aI x)] [s0, s1, s2] M S = go r 139 50 [l0, l1, l2, some (aI x)] [aI x, s0, s1, s2] M S := go_nx rfl rfl
theorem g139_50 (r : Nat) (l0 l1 l2 l3 : Option AV) (s0 s1 s2 s3 : AV) (M : Mem) (S : Sh) : go r 139 50 [l0, l1, l2, l3] [s0, s1, s2, s3] M S = go r 139 51 [l0, l1, l2, l3] [aI 1, s0, s1, s2, s3] M S := go_nx rfl rfl
theorem g139_51 (r : Nat) (l0 l1 l2 l3 : Option AV) (s0 s1 s2 : AV) (x y : Int) (M : Mem) (S : Sh) : go r 139 51 [l0, l1, l2, l3] [aI y, aI x, s0, s1, s2] M S = go r 139 52 [l0, l1, l2, l3] [aI (w32 (x + y)), s0, s1, s2] M S := go_nx rfl rfl
theorem g139_52 (r : Nat) (l0 l1 l2 l3 : Option AV) (s0 s1 : AV) (x : Int) (a : Nat) (M : Mem) (S : Sh) (h : S.1 a = 7) (h0 : 0 ≤ x) (h1 : x < S.2.1 a) : go r 139 52 [l0, l1, l2, l3] [aI x, aR a, s0, s1] M S = go r 139 53 [l0, l1, l2, l3] [aI (M a x.toNat), s0, s1] M S := go_bnd rfl ⟨h, h0, h1⟩ rfl
theorem g139_53 (r : Nat) (l0 l1 l2 l3 : Option AV) (x y : Int) (a : Nat) (M : Mem) (S : Sh) (h : S.1 a = 7) (h6 : 6 ≤ a) (h0 : 0 ≤ x) (h1 : x < S.2.1 a) : go r 139 53 [l0, l1, l2, l3] [aI y, aI x, aR a] M S = go r 139 54 [l0, l1, l2, l3] [] (mset M a x.toNat y) S := go_bnd rfl ⟨h, h6, h0, h1⟩ rfl
theorem g139_54 (r : Nat) (l1 l2 l3 : Option AV) (a : Nat) (M : Mem) (S : Sh) : go r 139 54 [some (aR a), l1, l2, l3] [] M S = go r 139 55 [some (aR a), l1, l2, l3] [aR a] M S := go_nx rfl rfl
theorem g139_55 (r : Nat) (l0 l1 l2 l3 : Option AV) (a : Nat) (M : Mem) (S : Sh) (h : S.1 a = 6) : go r 139 55 [l0, l1, l2, l3] [aR a] M S = go r 139 58 [l0, l1, l2, l3] [aO (S.2.2.1 a 11)] M S := go_bnd rfl h rfl
theorem g139_58 (r : Nat) (l0 l1 l2 : Option AV) (s0 : AV) (x : Int) (M : Mem) (S : Sh) : go r 139 58 [l0, l1, l2, some (aI x)] [s0] M S = go r 139 59 [l0, l1, l2, some (aI x)] [aI x, s0] M S := go_nx rfl rfl
theorem g139_59 (r : Nat) (l1 l2 l3 : Option AV) (s0 s1 : AV) (a : Nat) (M : Mem) (S : Sh) : go r 139 59 [some (aR a), l1, l2, l3] [s0, s1] M S = go r 139 60 [some (aR a), l1, l2, l3] [aR a, s0, s1] M S := go_nx rfl rfl
theorem g139_60 (r : Nat) (l0 l1 l2 l3 : Option AV) (s0 s1 : AV) (a : Nat) (M : Mem) (S : Sh) (h : S.1 a = 6) : go r 139 60 [l0, l1, l2, l3] [aR a, s0, s1] M S = go r 139 63 [l0, l1, l2, l3] [aO (S.2.2.1 a 11), s0, s1] M S := go_bnd rfl h rfl
theorem g139_63 (r : Nat) (l0 l1 l2 : Option AV) (s0 s1 s2 : AV) (x : Int) (M : Mem) (S : Sh) : go r 139 63 [l0, l1, l2, some (aI x)] [s0, s1, s2] M S = go r 139 64 [l0, l1, l2, some (aI x)] [aI x, s0, s1, s2] M S := go_nx rfl rfl
theorem g139_64 (r : Nat) (l0 l1 l2 l3 : Option AV) (s0 s1 s2 s3 : AV) (M : Mem) (S : Sh) : go r 139 64 [l0, l1, l2, l3] [s0, s1, s2, s3] M S = go r 139 65 [l0, l1, l2, l3] [aI 1, s0, s1, s2, s3] M S := go_nx rfl rfl
theorem g139_65 (r : Nat) (l0 l1 l2 l3 : Option AV) (s0 s1 s2 : AV) (x y : Int) (M : Mem) (S : Sh) : go r 139 65 [l0, l1, l2, l3] [aI y, aI x, s0, s1, s2] M S = go r 139 66 [l0, l1, l2, l3] [aI (w32 (x + y)), s0, s1, s2] M S := go_nx rfl rfl
theorem g139_66 (r : Nat) (l0 l1 l2 l3 : Option AV) (s0 s1 : AV) (x : Int) (a : Nat) (M : Mem) (S : Sh) (h : S.1 a = 7) (h0 : 0 ≤ x) (h1 : x < S.2.1 a) : go r 139 66 [l0, l1, l2, l3] [aI x, aR a, s0, s1] M S = go r 139 67 [l0, l1, l2, l3] [aI (M a x.toNat), s0, s1] M S := go_bnd rfl ⟨h, h0, h1⟩ rfl
theorem g139_67 (r : Nat) (l0 l1 l2 l3 : Option AV) (x y : Int) (a : Nat) (M : Mem) (S : Sh) (h : S.1 a = 7) (h6 : 6 ≤ a) (h0 : 0 ≤ x) (h1 : x < S.2.1 a) : go r 139 67 [l0, l1, l2, l3] [aI y, aI x, aR a] M S = go r 139 68 [l0, l1, l2, l3] [] (mset M a x.toNat y) S := go_bnd rfl ⟨h, h6, h0, h1⟩ rfl
theorem g139_68 (r : Nat) (l0 l1 l2 : Option AV) (x : Int) (M : Mem) (S : Sh) : go r 139 68 [l0, l1, l2, some (aI x)] [] M S = go r 139 71 [l0, l1, l2, some (aI (w32 (x + 1)))] [] M S := go_nx rfl rfl
theorem g139_71 (r : Nat) (l0 l1 l2 l3 : Option AV) (M : Mem) (S : Sh) : go r 139 71 [l0, l1, l2, l3] [] M S = go r 139 30 [l0, l1, l2, l3] [] M S := go_nx rfl rfl
theorem g139_74 (r : Nat) (l1 l2 l3 : Option AV) (a : Nat) (M : Mem) (S : Sh) : go r 139 74 [some (aR a), l1, l2, l3] [] M S = go r 139 75 [some (aR a), l1, l2, l3] [aR a] M S := go_nx rfl rfl
theorem g139_75 (r : Nat) (l0 l1 l2 l3 : Option AV) (a : Nat) (M : Mem) (S : Sh) : go r 139 75 [l0, l1, l2, l3] [aR a] M S = go r 139 76 [l0, l1, l2, l3] [aR a, aR a] M S := go_nx rfl rfl
theorem g139_76 (r : Nat) (l0 l1 l2 l3 : Option AV) (s0 : AV) (a : Nat) (M : Mem) (S : Sh) (h : S.1 a = 6) : go r 139 76 [l0, l1, l2, l3] [aR a, s0] M S = go r 139 79 [l0, l1, l2, l3] [aI (M a 9), s0] M S := go_bnd rfl h rfl
theorem g139_79 (r : Nat) (l0 l1 l2 l3 : Option AV) (s0 s1 : AV) (M : Mem) (S : Sh) : go r 139 79 [l0, l1, l2, l3] [s0, s1] M S = go r 139 80 [l0, l1, l2, l3] [aI 1, s0, s1] M S := go_nx rfl rfl
theorem g139_80 (r : Nat) (l0 l1 l2 l3 : Option AV) (s0 : AV) (x y : Int) (M : Mem) (S : Sh) : go r 139 80 [l0, l1, l2, l3] [aI y, aI x, s0] M S = go r 139 81 [l0, l1, l2, l3] [aI (w32 (x - y)), s0] M S := go_nx rfl rfl
theorem g139_81 (r : Nat) (l0 l1 l2 l3 : Option AV) (x : Int) (a : Nat) (M : Mem) (S : Sh) (h : S.1 a = 6) : go r 139 81 [l0, l1, l2, l3] [aI x, aR a] M S = go r 139 84 [l0, l1, l2, l3] [] (mset M a 9 x) S := go_bnd rfl ⟨h, fun z => absurd z (by decide)⟩ rfl
theorem g139_84 (r : Nat) (l0 l1 l3 : Option AV) (x : Int) (M : Mem) (S : Sh) : go r 139 84 [l0, l1, some (aI x), l3] [] M S = go r 139 85 [l0, l1, some (aI x), l3] [aI x] M S := go_nx rfl rfl
theorem g139_85 (r : Nat) (l0 l1 l2 l3 : Option AV) (x : Int) (M : Mem) (S : Sh) : go r 139 85 [l0, l1, l2, l3] [aI x] M S = some (some (aI x), M, S) := go_rt rfl (bnd_t (Or.inl rfl))
/-- StripsFromAboveModel.planned(I)I -/
theorem g140 (x1 : Int) (a0 : Nat) (M : Mem) (S : Sh) : res 140 [aR a0, aI x1] M S = go 12 140 0 [some (aR a0), some (aI x1)] [] M S := res_e0 rfl _ M S
theorem g140_0 (r : Nat) (l1 : Option AV) (a : Nat) (M : Mem) (S : Sh) : go r 140 0 [some (aR a), l1] [] M S = go r 140 1 [some (aR a), l1] [aR a] M S := go_nx rfl rfl
theorem g140_1 (r : Nat) (l0 : Option AV) (s0 : AV) (x : Int) (M : Mem) (S : Sh) : go r 140 1 [l0, some (aI x)] [s0] M S = go r 140 2 [l0, some (aI x)] [aI x, s0] M S := go_nx rfl rfl
theorem g140_2 (r : Nat) (l0 l1 : Option AV) (x1 : Int) (a0 : Nat) (M : Mem) (S : Sh) (hk : 11 < r) (h : S.1 a0 = 6) : go r 140 2 [l0, l1] [aI x1, aR a0] M S = cont r 140 5 [l0, l1] [] 1 (res 138 [aR a0, aI x1] M S) := go_cr0 (m' := 138) (n := 2) (pc' := 5) (hr := 1) rfl rfl rfl h rfl rfl rfl rfl hk rfl
theorem g140_5 (r : Nat) (l0 l1 : Option AV) (x : Int) (M : Mem) (S : Sh) : go r 140 5 [l0, l1] [aI x] M S = if x = 0 then go r 140 27 [l0, l1] [] M S else go r 140 8 [l0, l1] [] M S := go_br rfl rfl rfl rfl rfl
theorem g140_8 (r : Nat) (l0 l1 : Option AV) (M : Mem) (S : Sh) : go r 140 8 [l0, l1] [] M S = go r 140 10 [l0, l1] [aI 100] M S := go_nx rfl rfl
theorem g140_10 (r : Nat) (l1 : Option AV) (s0 : AV) (a : Nat) (M : Mem) (S : Sh) : go r 140 10 [some (aR a), l1] [s0] M S = go r 140 11 [some (aR a), l1] [aR a, s0] M S := go_nx rfl rfl
theorem g140_11 (r : Nat) (l0 l1 : Option AV) (s0 : AV) (a : Nat) (M : Mem) (S : Sh) (h : S.1 a = 6) : go r 140 11 [l0, l1] [aR a, s0] M S = go r 140 14 [l0, l1] [aO (S.2.2.1 a 10), s0] M S := go_bnd rfl h rfl
theorem g140_14 (r : Nat) (l0 : Option AV) (s0 s1 : AV) (x : Int) (M : Mem) (S : Sh) : go r 140 14 [l0, some (aI x)] [s0, s1] M S = go r 140 15 [l0, some (aI x)] [aI x, s0, s1] M S := go_nx rfl rfl
theorem g140_15 (r : Nat) (l0 l1 : Option AV) (s0 : AV) (x : Int) (a : Nat) (M : Mem) (S : Sh) (h : S.1 a = 7) (h0 : 0 ≤ x) (h1 : x < S.2.1 a) : go r 140 15 [l0, l1] [aI x, aR a, s0] M S = go r 140 16 [l0, l1] [aI (M a x.toNat), s0] M S := go_bnd rfl ⟨h, h0, h1⟩ rfl
theorem g140_16 (r : Nat) (l0 l1 : Option AV) (x y : Int) (M : Mem) (S : Sh) : go r 140 16 [l0, l1] [aI y, aI x] M S = go r 140 17 [l0, l1] [aI (w32 (x * y))] M S := go_nx rfl rfl
theorem g140_17 (r : Nat) (l1 : Option AV) (s0 : AV) (a : Nat) (M : Mem) (S : Sh) : go r 140 17 [some (aR a), l1] [s0] M S = go r 140 18 [some (aR a), l1] [aR a, s0] M S := go_nx rfl rfl
theorem g140_18 (r : Nat) (l0 l1 : Option AV) (s0 : AV) (a : Nat) (M : Mem) (S : Sh) (h : S.1 a = 6) : go r 140 18 [l0, l1] [aR a, s0] M S = go r 140 21 [l0, l1] [aO (S.2.2.1 a 11), s0] M S := go_bnd rfl h rfl
theorem g140_21 (r : Nat) (l0 : Option AV) (s0 s1 : AV) (x : Int) (M : Mem) (S : Sh) : go r 140 21 [l0, some (aI x)] [s0, s1] M S = go r 140 22 [l0, some (aI x)] [aI x, s0, s1] M S := go_nx rfl rfl
theorem g140_22 (r : Nat) (l0 l1 : Option AV) (s0 : AV) (x : Int) (a : Nat) (M : Mem) (S : Sh) (h : S.1 a = 7) (h0 : 0 ≤ x) (h1 : x < S.2.1 a) : go r 140 22 [l0, l1] [aI x, aR a, s0] M S = go r 140 23 [l0, l1] [aI (M a x.toNat), s0] M S := go_bnd rfl ⟨h, h0, h1⟩ rfl
theorem g140_23 (r : Nat) (l0 l1 : Option AV) (x y : Int) (M : Mem) (S : Sh) : go r 140 23 [l0, l1] [aI y, aI x] M S = go r 140 24 [l0, l1] [aI (w32 (x + y))] M S := go_nx rfl rfl
theorem g140_24 (r : Nat) (l0 l1 : Option AV) (s0 : AV) (M : Mem) (S : Sh) : go r 140 24 [l0, l1] [s0] M S = go r 140 29 [l0, l1] [s0] M S := go_nx rfl rfl
theorem g140_27 (r : Nat) (l0 l1 : Option AV) (M : Mem) (S : Sh) : go r 140 27 [l0, l1] [] M S = go r 140 29 [l0, l1] [aI (-6)] M S := go_nx rfl rfl
theorem g140_29 (r : Nat) (l0 l1 : Option AV) (x : Int) (M : Mem) (S : Sh) : go r 140 29 [l0, l1] [aI x] M S = some (some (aI x), M, S) := go_rt rfl (bnd_t (Or.inl rfl))
/-- StripsFromAboveModel.seesOver(II)I -/
theorem g141 (x1 x2 : Int) (a0 : Nat) (M : Mem) (S : Sh) : res 141 [aR a0, aI x1, aI x2] M S = go 13 141 0 [some (aR a0), some (aI x1), some (aI x2), none, none] [] M S := res_e0 rfl _ M S
theorem g141_0 (r : Nat) (l1 l2 l3 l4 : Option AV) (a : Nat) (M : Mem) (S : Sh) : go r 141 0 [some (aR a), l1, l2, l3, l4] [] M S = go r 141 1 [some (aR a), l1, l2, l3, l4] [aR a] M S := go_nx rfl rfl
theorem g141_1 (r : Nat) (l0 l1 l2 l3 l4 : Option AV) (s0 : AV) (M : Mem) (S : Sh) : go r 141 1 [l0, l1, l2, l3, l4] [s0] M S = go r 141 2 [l0, l1, l2, l3, l4] [aI 0, s0] M S := go_nx rfl rfl
theorem g141_2 (r : Nat) (l0 l2 l3 l4 : Option AV) (s0 s1 : AV) (x : Int) (M : Mem) (S : Sh) : go r 141 2 [l0, some (aI x), l2, l3, l4] [s0, s1] M S = go r 141 3 [l0, some (aI x), l2, l3, l4] [aI x, s0, s1] M S := go_nx rfl rfl
theorem g141_3 (r : Nat) (l0 l1 l3 l4 : Option AV) (s0 s1 s2 : AV) (x : Int) (M : Mem) (S : Sh) : go r 141 3 [l0, l1, some (aI x), l3, l4] [s0, s1, s2] M S = go r 141 4 [l0, l1, some (aI x), l3, l4] [aI x, s0, s1, s2] M S := go_nx rfl rfl
theorem g141_4 (r : Nat) (l1 l2 l3 l4 : Option AV) (s0 s1 s2 s3 : AV) (a : Nat) (M : Mem) (S : Sh) : go r 141 4 [some (aR a), l1, l2, l3, l4] [s0, s1, s2, s3] M S = go r 141 5 [some (aR a), l1, l2, l3, l4] [aR a, s0, s1, s2, s3] M S := go_nx rfl rfl
theorem g141_5 (r : Nat) (l0 l1 l2 l3 l4 : Option AV) (s0 s1 s2 s3 : AV) (a : Nat) (M : Mem) (S : Sh) (h : S.1 a = 6) : go r 141 5 [l0, l1, l2, l3, l4] [aR a, s0, s1, s2, s3] M S = go r 141 8 [l0, l1, l2, l3, l4] [aI (M a 38), s0, s1, s2, s3] M S := go_bnd rfl h rfl
theorem g141_8 (r : Nat) (l0 l1 l2 l3 l4 : Option AV) (x1 x2 x3 x4 : Int) (a0 : Nat) (M : Mem) (S : Sh) (hk : 12 < r) (h : S.1 a0 = 6) : go r 141 8 [l0, l1, l2, l3, l4] [aI x4, aI x3, aI x2, aI x1, aR a0] M S = cont r 141 11 [l0, l1, l2, l3, l4] [] 1 (res 130 [aR a0, aI x1, aI x2, aI x3, aI x4] M S) := go_cr0 (m' := 130) (n := 5) (pc' := 11) (hr := 1) rfl rfl rfl h rfl rfl rfl rfl hk rfl
theorem g141_11 (r : Nat) (l0 l1 l2 l3 l4 : Option AV) (x : Int) (M : Mem) (S : Sh) : go r 141 11 [l0, l1, l2, l3, l4] [aI x] M S = go r 141 12 [l0, l1, l2, some (aI x), l4] [] M S := go_nx rfl rfl
theorem g141_12 (r : Nat) (l1 l2 l3 l4 : Option AV) (a : Nat) (M : Mem) (S : Sh) : go r 141 12 [some (aR a), l1, l2, l3, l4] [] M S = go r 141 13 [some (aR a), l1, l2, l3, l4] [aR a] M S := go_nx rfl rfl
theorem g141_13 (r : Nat) (l0 l1 l2 l3 l4 : Option AV) (a : Nat) (M : Mem) (S : Sh) (h : S.1 a = 6) : go r 141 13 [l0, l1, l2, l3, l4] [aR a] M S = go r 141 16 [l0, l1, l2, l3, l4] [aO (S.2.2.1 a 6)] M S := go_bnd rfl h rfl
theorem g141_16 (r : Nat) (l0 l2 l3 l4 : Option AV) (s0 : AV) (x : Int) (M : Mem) (S : Sh) : go r 141 16 [l0, some (aI x), l2, l3, l4] [s0] M S = go r 141 17 [l0, some (aI x), l2, l3, l4] [aI x, s0] M S := go_nx rfl rfl
theorem g141_17 (r : Nat) (l0 l1 l2 l3 l4 : Option AV) (x : Int) (a : Nat) (M : Mem) (S : Sh) (h : S.1 a = 7) (h0 : 0 ≤ x) (h1 : x < S.2.1 a) : go r 141 17 [l0, l1, l2, l3, l4] [aI x, aR a] M S = go r 141 18 [l0, l1, l2, l3, l4] [aI (M a x.toNat)] M S := go_bnd rfl ⟨h, h0, h1⟩ rfl
theorem g141_18 (r : Nat) (l0 l1 l2 l3 l4 : Option AV) (s0 : AV) (M : Mem) (S : Sh) : go r 141 18 [l0, l1, l2, l3, l4] [s0] M S = go r 141 19 [l0, l1, l2, l3, l4] [aI 2, s0] M S := go_nx rfl rfl
theorem g141_19 (r : Nat) (l0 l1 l2 l3 l4 : Option AV) (x y : Int) (M : Mem) (S : Sh) : go r 141 19 [l0, l1, l2, l3, l4] [aI y, aI x] M S = if x ≠ y then go r 141 28 [l0, l1, l2, l3, l4] [] M S else go r 141 22 [l0, l1, l2, l3, l4] [] M S := go_br rfl rfl rfl rfl rfl
theorem g141_22 (r : Nat) (l0 l1 l2 l4 : Option AV) (x : Int) (M : Mem) (S : Sh) : go r 141 22 [l0, l1, l2, some (aI x), l4] [] M S = go r 141 23 [l0, l1, l2, some (aI x), l4] [aI x] M S := go_nx rfl rfl
theorem g141_23 (r : Nat) (l0 l1 l2 l3 l4 : Option AV) (s0 : AV) (M : Mem) (S : Sh) : go r 141 23 [l0, l1, l2, l3, l4] [s0] M S = go r 141 24 [l0, l1, l2, l3, l4] [aI 1, s0] M S := go_nx rfl rfl
theorem g141_24 (r : Nat) (l0 l1 l2 l3 l4 : Option AV) (x y : Int) (M : Mem) (S : Sh) : go r 141 24 [l0, l1, l2, l3, l4] [aI y, aI x] M S = go r 141 25 [l0, l1, l2, l3, l4] [aI (w32 (x + y))] M S := go_nx rfl rfl
theorem g141_25 (r : Nat) (l0 l1 l2 l3 l4 : Option AV) (s0 : AV) (M : Mem) (S : Sh) : go r 141 25 [l0, l1, l2, l3, l4] [s0] M S = go r 141 62 [l0, l1, l2, l3, l4] [s0] M S := go_nx rfl rfl
theorem g141_28 (r : Nat) (l1 l2 l3 l4 : Option AV) (a : Nat) (M : Mem) (S : Sh) : go r 141 28 [some (aR a), l1, l2, l3, l4] [] M S = go r 141 29 [some (aR a), l1, l2, l3, l4] [aR a] M S := go_nx rfl rfl
theorem g141_29 (r : Nat) (l0 l1 l2 l3 l4 : Option AV) (a : Nat) (M : Mem) (S : Sh) (h : S.1 a = 6) : go r 141 29 [l0, l1, l2, l3, l4] [aR a] M S = go r 141 32 [l0, l1, l2, l3, l4] [aO (S.2.2.1 a 6)] M S := go_bnd rfl h rfl
theorem g141_32 (r : Nat) (l0 l2 l3 l4 : Option AV) (s0 : AV) (x : Int) (M : Mem) (S : Sh) : go r 141 32 [l0, some (aI x), l2, l3, l4] [s0] M S = go r 141 33 [l0, some (aI x), l2, l3, l4] [aI x, s0] M S := go_nx rfl rfl
theorem g141_33 (r : Nat) (l0 l1 l2 l3 l4 : Option AV) (x : Int) (a : Nat) (M : Mem) (S : Sh) (h : S.1 a = 7) (h0 : 0 ≤ x) (h1 : x < S.2.1 a) : go r 141 33 [l0, l1, l2, l3, l4] [aI x, aR a] M S = go r 141 34 [l0, l1, l2, l3, l4] [aI (M a x.toNat)] M S := go_bnd rfl ⟨h, h0, h1⟩ rfl
theorem g141_34 (r : Nat) (l0 l1 l2 l3 l4 : Option AV) (s0 : AV) (M : Mem) (S : Sh) : go r 141 34 [l0, l1, l2, l3, l4] [s0] M S = go r 141 35 [l0, l1, l2, l3, l4] [aI 4, s0] M S := go_nx rfl rfl
theorem g141_35 (r : Nat) (l0 l1 l2 l3 l4 : Option AV) (x y : Int) (M : Mem) (S : Sh) : go r 141 35 [l0, l1, l2, l3, l4] [aI y, aI x] M S = if x ≠ y then go r 141 61 [l0, l1, l2, l3, l4] [] M S else go r 141 38 [l0, l1, l2, l3, l4] [] M S := go_br rfl rfl rfl rfl rfl
theorem g141_38 (r : Nat) (l0 l1 l2 l4 : Option AV) (x : Int) (M : Mem) (S : Sh) : go r 141 38 [l0, l1, l2, some (aI x), l4] [] M S = go r 141 39 [l0, l1, l2, some (aI x), l4] [aI x] M S := go_nx rfl rfl
theorem g141_39 (r : Nat) (l0 l1 l2 l3 l4 : Option AV) (x : Int) (M : Mem) (S : Sh) : go r 141 39 [l0, l1, l2, l3, l4] [aI x] M S = if x ≠ 0 then go r 141 46 [l0, l1, l2, l3, l4] [] M S else go r 141 42 [l0, l1, l2, l3, l4] [] M S := go_br rfl rfl rfl rfl rfl
theorem g141_42 (r : Nat) (l0 l1 l2 l3 l4 : Option AV) (M : Mem) (S : Sh) : go r 141 42 [l0, l1, l2, l3, l4] [] M S = go r 141 43 [l0, l1, l2, l3, l4] [aI 0] M S := go_nx rfl rfl
theorem g141_43 (r : Nat) (l0 l1 l2 l3 l4 : Option AV) (s0 : AV) (M : Mem) (S : Sh) : go r 141 43 [l0, l1, l2, l3, l4] [s0] M S = go r 141 62 [l0, l1, l2, l3, l4] [s0] M S := go_nx rfl rfl
theorem g141_46 (r : Nat) (l0 l1 l2 l4 : Option AV) (x : Int) (M : Mem) (S : Sh) : go r 141 46 [l0, l1, l2, some (aI x), l4] [] M S = go r 141 47 [l0, l1, l2, some (aI x), l4] [aI x] M S := go_nx rfl rfl
theorem g141_47 (r : Nat) (l0 l1 l2 l3 l4 : Option AV) (s0 : AV) (M : Mem) (S : Sh) : go r 141 47 [l0, l1, l2, l3, l4] [s0] M S = go r 141 48 [l0, l1, l2, l3, l4] [aI 1, s0] M S := go_nx rfl rfl
theorem g141_48 (r : Nat) (l0 l1 l2 l3 l4 : Option AV) (x y : Int) (M : Mem) (S : Sh) : go r 141 48 [l0, l1, l2, l3, l4] [aI y, aI x] M S = go r 141 49 [l0, l1, l2, l3, l4] [aI (w32 (x + y))] M S := go_nx rfl rfl
theorem g141_49 (r : Nat) (l1 l2 l3 l4 : Option AV) (s0 : AV) (a : Nat) (M : Mem) (S : Sh) : go r 141 49 [some (aR a), l1, l2, l3, l4] [s0] M S = go r 141 50 [some (aR a), l1, l2, l3, l4] [aR a, s0] M S := go_nx rfl rfl
theorem g141_50 (r : Nat) (l0 l1 l2 l3 l4 : Option AV) (s0 : AV) (a : Nat) (M : Mem) (S : Sh) (h : S.1 a = 6) : go r 141 50 [l0, l1, l2, l3, l4] [aR a, s0] M S = go r 141 53 [l0, l1, l2, l3, l4] [aO (S.2.2.1 a 7), s0] M S := go_bnd rfl h rfl
theorem g141_53 (r : Nat) (l0 l2 l3 l4 : Option AV) (s0 s1 : AV) (x : Int) (M : Mem) (S : Sh) : go r 141 53 [l0, some (aI x), l2, l3, l4] [s0, s1] M S = go r 141 54 [l0, some (aI x), l2, l3, l4] [aI x, s0, s1] M S := go_nx rfl rfl
theorem g141_54 (r : Nat) (l0 l1 l2 l3 l4 : Option AV) (s0 : AV) (x : Int) (a : Nat) (M : Mem) (S : Sh) (h : S.1 a = 7) (h0 : 0 ≤ x) (h1 : x < S.2.1 a) : go r 141 54 [l0, l1, l2, l3, l4] [aI x, aR a, s0] M S = go r 141 55 [l0, l1, l2, l3, l4] [aI (M a x.toNat), s0] M S := go_bnd rfl ⟨h, h0, h1⟩ rfl
theorem g141_55 (r : Nat) (l0 l1 l2 l3 l4 : Option AV) (s0 s1 : AV) (M : Mem) (S : Sh) : go r 141 55 [l0, l1, l2, l3, l4] [s0, s1] M S = go r 141 56 [l0, l1, l2, l3, l4] [aI 4, s0, s1] M S := go_nx rfl rfl
theorem g141_56 (r : Nat) (l0 l1 l2 l3 l4 : Option AV) (s0 : AV) (x y : Int) (M : Mem) (S : Sh) (h : y ≠ 0) : go r 141 56 [l0, l1, l2, l3, l4] [aI y, aI x, s0] M S = go r 141 57 [l0, l1, l2, l3, l4] [aI (w32 (Int.tdiv x y)), s0] M S := go_bnd rfl h rfl
theorem g141_57 (r : Nat) (l0 l1 l2 l3 l4 : Option AV) (x y : Int) (M : Mem) (S : Sh) : go r 141 57 [l0, l1, l2, l3, l4] [aI y, aI x] M S = go r 141 58 [l0, l1, l2, l3, l4] [aI (w32 (x + y))] M S := go_nx rfl rfl
theorem g141_58 (r : Nat) (l0 l1 l2 l3 l4 : Option AV) (s0 : AV) (M : Mem) (S : Sh) : go r 141 58 [l0, l1, l2, l3, l4] [s0] M S = go r 141 62 [l0, l1, l2, l3, l4] [s0] M S := go_nx rfl rfl
theorem g141_61 (r : Nat) (l0 l1 l2 l4 : Option AV) (x : Int) (M : Mem) (S : Sh) : go r 141 61 [l0, l1, l2, some (aI x), l4] [] M S = go r 141 62 [l0, l1, l2, some (aI x), l4] [aI x] M S := go_nx rfl rfl
theorem g141_62 (r : Nat) (l0 l1 l2 l3 l4 : Option AV) (x : Int) (M : Mem) (S : Sh) : go r 141 62 [l0, l1, l2, l3, l4] [aI x] M S = go r 141 64 [l0, l1, l2, l3, some (aI x)] [] M S := go_nx rfl rfl
theorem g141_64 (r : Nat) (l0 l1 l2 l3 : Option AV) (x : Int) (M : Mem) (S : Sh) : go r 141 64 [l0, l1, l2, l3, some (aI x)] [] M S = go r 141 66 [l0, l1, l2, l3, some (aI x)] [aI x] M S := go_nx rfl rfl
theorem g141_66 (r : Nat) (l0 l1 l2 l3 l4 : Option AV) (s0 : AV) (M : Mem) (S : Sh) : go r 141 66 [l0, l1, l2, l3, l4] [s0] M S = go r 141 67 [l0, l1, l2, l3, l4] [aI 0, s0] M S := go_nx rfl rfl
theorem g141_67 (r : Nat) (l0 l1 l2 l3 l4 : Option AV) (s0 s1 : AV) (M : Mem) (S : Sh) : go r 141 67 [l0, l1, l2, l3, l4] [s0, s1] M S = go r 141 69 [l0, l1, l2, l3, l4] [aI 15, s0, s1] M S := go_nx rfl rfl
theorem g141_69 (r : Nat) (l0 l1 l2 l3 l4 : Option AV) (x0 x1 x2 : Int) (M : Mem) (S : Sh) (hk : 10 < r) : go r 141 69 [l0, l1, l2, l3, l4] [aI x2, aI x1, aI x0] M S = cont r 141 72 [l0, l1, l2, l3, l4] [] 1 (res 107 [aI x0, aI x1, aI x2] M S) := go_c0 (m' := 107) (n := 3) (pc' := 72) (hr := 1) rfl rfl rfl rfl rfl rfl hk rfl
theorem g141_72 (r : Nat) (l0 l1 l2 l3 l4 : Option AV) (x : Int) (M : Mem) (S : Sh) : go r 141 72 [l0, l1, l2, l3, l4] [aI x] M S = some (some (aI x), M, S) := go_rt rfl (bnd_t (Or.inl rfl))
/-- StripsFromAboveModel.driftsOver(II)I -/
theorem g142 (x1 x2 : Int) (a0 : Nat) (M : Mem) (S : Sh) : res 142 [aR a0, aI x1, aI x2] M S = go 13 142 0 [some (aR a0), some (aI x1), some (aI x2), none, none] [] M S := res_e0 rfl _ M S
theorem g142_0 (r : Nat) (l1 l2 l3 l4 : Option AV) (a : Nat) (M : Mem) (S : Sh) : go r 142 0 [some (aR a), l1, l2, l3, l4] [] M S = go r 142 1 [some (aR a), l1, l2, l3, l4] [aR a] M S := go_nx rfl rfl
theorem g142_1 (r : Nat) (l0 l1 l2 l3 l4 : Option AV) (s0 : AV) (M : Mem) (S : Sh) : go r 142 1 [l0, l1, l2, l3, l4] [s0] M S = go r 142 2 [l0, l1, l2, l3, l4] [aI 1, s0] M S := go_nx rfl rfl
theorem g142_2 (r : Nat) (l0 l2 l3 l4 : Option AV) (s0 s1 : AV) (x : Int) (M : Mem) (S : Sh) : go r 142 2 [l0, some (aI x), l2, l3, l4] [s0, s1] M S = go r 142 3 [l0, some (aI x), l2, l3, l4] [aI x, s0, s1] M S := go_nx rfl rfl
theorem g142_3 (r : Nat) (l0 l1 l3 l4 : Option AV) (s0 s1 s2 : AV) (x : Int) (M : Mem) (S : Sh) : go r 142 3 [l0, l1, some (aI x), l3, l4] [s0, s1, s2] M S = go r 142 4 [l0, l1, some (aI x), l3, l4] [aI x, s0, s1, s2] M S := go_nx rfl rfl
theorem g142_4 (r : Nat) (l1 l2 l3 l4 : Option AV) (s0 s1 s2 s3 : AV) (a : Nat) (M : Mem) (S : Sh) : go r 142 4 [some (aR a), l1, l2, l3, l4] [s0, s1, s2, s3] M S = go r 142 5 [some (aR a), l1, l2, l3, l4] [aR a, s0, s1, s2, s3] M S := go_nx rfl rfl
theorem g142_5 (r : Nat) (l0 l1 l2 l3 l4 : Option AV) (s0 s1 s2 s3 : AV) (a : Nat) (M : Mem) (S : Sh) (h : S.1 a = 6) : go r 142 5 [l0, l1, l2, l3, l4] [aR a, s0, s1, s2, s3] M S = go r 142 8 [l0, l1, l2, l3, l4] [aI (M a 38), s0, s1, s2, s3] M S := go_bnd rfl h rfl
theorem g142_8 (r : Nat) (l0 l1 l2 l3 l4 : Option AV) (x1 x2 x3 x4 : Int) (a0 : Nat) (M : Mem) (S : Sh) (hk : 12 < r) (h : S.1 a0 = 6) : go r 142 8 [l0, l1, l2, l3, l4] [aI x4, aI x3, aI x2, aI x1, aR a0] M S = cont r 142 11 [l0, l1, l2, l3, l4] [] 1 (res 130 [aR a0, aI x1, aI x2, aI x3, aI x4] M S) := go_cr0 (m' := 130) (n := 5) (pc' := 11) (hr := 1) rfl rfl rfl h rfl rfl rfl rfl hk rfl
theorem g142_11 (r : Nat) (l0 l1 l2 l3 l4 : Option AV) (x : Int) (M : Mem) (S : Sh) : go r 142 11 [l0, l1, l2, l3, l4] [aI x] M S = go r 142 12 [l0, l1, l2, some (aI x), l4] [] M S := go_nx rfl rfl
theorem g142_12 (r : Nat) (l0 l1 l2 l4 : Option AV) (x : Int) (M : Mem) (S : Sh) : go r 142 12 [l0, l1, l2, some (aI x), l4] [] M S = go r 142 13 [l0, l1, l2, some (aI x), l4] [aI x] M S := go_nx rfl rfl
theorem g142_13 (r : Nat) (l0 l1 l2 l3 l4 : Option AV) (x : Int) (M : Mem) (S : Sh) : go r 142 13 [l0, l1, l2, l3, l4] [aI x] M S = go r 142 15 [l0, l1, l2, l3, some (aI x)] [] M S := go_nx rfl rfl
theorem g142_15 (r : Nat) (l1 l2 l3 l4 : Option AV) (a : Nat) (M : Mem) (S : Sh) : go r 142 15 [some (aR a), l1, l2, l3, l4] [] M S = go r 142 16 [some (aR a), l1, l2, l3, l4] [aR a] M S := go_nx rfl rfl
theorem g142_16 (r : Nat) (l0 l1 l2 l3 l4 : Option AV) (a : Nat) (M : Mem) (S : Sh) (h : S.1 a = 6) : go r 142 16 [l0, l1, l2, l3, l4] [aR a] M S = go r 142 19 [l0, l1, l2, l3, l4] [aO (S.2.2.1 a 6)] M S := go_bnd rfl h rfl
theorem g142_19 (r : Nat) (l0 l2 l3 l4 : Option AV) (s0 : AV) (x : Int) (M : Mem) (S : Sh) : go r 142 19 [l0, some (aI x), l2, l3, l4] [s0] M S = go r 142 20 [l0, some (aI x), l2, l3, l4] [aI x, s0] M S := go_nx rfl rfl
theorem g142_20 (r : Nat) (l0 l1 l2 l3 l4 : Option AV) (x : Int) (a : Nat) (M : Mem) (S : Sh) (h : S.1 a = 7) (h0 : 0 ≤ x) (h1 : x < S.2.1 a) : go r 142 20 [l0, l1, l2, l3, l4] [aI x, aR a] M S = go r 142 21 [l0, l1, l2, l3, l4] [aI (M a x.toNat)] M S := go_bnd rfl ⟨h, h0, h1⟩ rfl
theorem g142_21c1 (r : Nat) (l0 l1 l2 l3 l4 : Option AV) (M : Mem) (S : Sh) : go r 142 21 [l0, l1, l2, l3, l4] [aI 1] M S = go r 142 56 [l0, l1, l2, l3, l4] [] M S := go_nx rfl rfl
theorem g142_21c2 (r : Nat) (l0 l1 l2 l3 l4 : Option AV) (M : Mem) (S : Sh) : go r 142 21 [l0, l1, l2, l3, l4] [aI 2] M S = go r 142 130 [l0, l1, l2, l3, l4] [] M S := go_nx rfl rfl
theorem g142_21c3 (r : Nat) (l0 l1 l2 l3 l4 : Option AV) (M : Mem) (S : Sh) : go r 142 21 [l0, l1, l2, l3, l4] [aI 3] M S = go r 142 64 [l0, l1, l2, l3, l4] [] M S := go_nx rfl rfl
theorem g142_21c4 (r : Nat) (l0 l1 l2 l3 l4 : Option AV) (M : Mem) (S : Sh) : go r 142 21 [l0, l1, l2, l3, l4] [aI 4] M S = go r 142 130 [l0, l1, l2, l3, l4] [] M S := go_nx rfl rfl
theorem g142_21c5 (r : Nat) (l0 l1 l2 l3 l4 : Option AV) (M : Mem) (S : Sh) : go r 142 21 [l0, l1, l2, l3, l4] [aI 5] M S = go r 142 112 [l0, l1, l2, l3, l4] [] M S := go_nx rfl rfl
theorem g142_21d (r : Nat) (l0 l1 l2 l3 l4 : Option AV) (x : Int) (M : Mem) (S : Sh) (h : x < 1 ∨ 5 < x) : go r 142 21 [l0, l1, l2, l3, l4] [aI x] M S = go r 142 130 [l0, l1, l2, l3, l4] [] M S := go_nx rfl (if_pos h)
theorem g142_56 (r : Nat) (l0 l1 l2 l4 : Option AV) (x : Int) (M : Mem) (S : Sh) : go r 142 56 [l0, l1, l2, some (aI x), l4] [] M S = go r 142 57 [l0, l1, l2, some (aI x), l4] [aI x] M S := go_nx rfl rfl
theorem g142_57 (r : Nat) (l0 l1 l2 l3 l4 : Option AV) (s0 : AV) (M : Mem) (S : Sh) : go r 142 57 [l0, l1, l2, l3, l4] [s0] M S = go r 142 58 [l0, l1, l2, l3, l4] [aI 2, s0] M S := go_nx rfl rfl
theorem g142_58 (r : Nat) (l0 l1 l2 l3 l4 : Option AV) (x y : Int) (M : Mem) (S : Sh) (h : y ≠ 0) : go r 142 58 [l0, l1, l2, l3, l4] [aI y, aI x] M S = go r 142 59 [l0, l1, l2, l3, l4] [aI (w32 (Int.tdiv x y))] M S := go_bnd rfl h rfl
theorem g142_59 (r : Nat) (l0 l1 l2 l3 l4 : Option AV) (x : Int) (M : Mem) (S : Sh) : go r 142 59 [l0, l1, l2, l3, l4] [aI x] M S = go r 142 61 [l0, l1, l2, l3, some (aI x)] [] M S := go_nx rfl rfl
theorem g142_61 (r : Nat) (l0 l1 l2 l3 l4 : Option AV) (M : Mem) (S : Sh) : go r 142 61 [l0, l1, l2, l3, l4] [] M S = go r 142 130 [l0, l1, l2, l3, l4] [] M S := go_nx rfl rfl
theorem g142_64 (r : Nat) (l0 l1 l2 l4 : Option AV) (x : Int) (M : Mem) (S : Sh) : go r 142 64 [l0, l1, l2, some (aI x), l4] [] M S = go r 142 65 [l0, l1, l2, some (aI x), l4] [aI x] M S := go_nx rfl rfl
theorem g142_65 (r : Nat) (l0 l1 l2 l3 l4 : Option AV) (x : Int) (M : Mem) (S : Sh) : go r 142 65 [l0, l1, l2, l3, l4] [aI x] M S = if x ≤ 0 then go r 142 89 [l0, l1, l2, l3, l4] [] M S else go r 142 68 [l0, l1, l2, l3, l4] [] M S := go_br rfl rfl rfl rfl rfl
theorem g142_68 (r : Nat) (l0 l1 l2 l4 : Option AV) (x : Int) (M : Mem) (S : Sh) : go r 142 68 [l0, l1, l2, some (aI x), l4] [] M S = go r 142 69 [l0, l1, l2, some (aI x), l4] [aI x] M S := go_nx rfl rfl
theorem g142_69 (r : Nat) (l0 l1 l2 l3 l4 : Option AV) (s0 : AV) (M : Mem) (S : Sh) : go r 142 69 [l0, l1, l2, l3, l4] [s0] M S = go r 142 70 [l0, l1, l2, l3, l4] [aI 2, s0] M S := go_nx rfl rfl
theorem g142_70 (r : Nat) (l0 l1 l2 l3 l4 : Option AV) (x y : Int) (M : Mem) (S : Sh) (h : y ≠ 0) : go r 142 70 [l0, l1, l2, l3, l4] [aI y, aI x] M S = go r 142 71 [l0, l1, l2, l3, l4] [aI (w32 (Int.tdiv x y))] M S := go_bnd rfl h rfl
theorem g142_71 (r : Nat) (l1 l2 l3 l4 : Option AV) (s0 : AV) (a : Nat) (M : Mem) (S : Sh) : go r 142 71 [some (aR a), l1, l2, l3, l4] [s0] M S = go r 142 72 [some (aR a), l1, l2, l3, l4] [aR a, s0] M S := go_nx rfl rfl
theorem g142_72 (r : Nat) (l0 l1 l2 l3 l4 : Option AV) (s0 : AV) (a : Nat) (M : Mem) (S : Sh) (h : S.1 a = 6) : go r 142 72 [l0, l1, l2, l3, l4] [aR a, s0] M S = go r 142 75 [l0, l1, l2, l3, l4] [aO (S.2.2.1 a 7), s0] M S := go_bnd rfl h rfl
theorem g142_75 (r : Nat) (l0 l2 l3 l4 : Option AV) (s0 s1 : AV) (x : Int) (M : Mem) (S : Sh) : go r 142 75 [l0, some (aI x), l2, l3, l4] [s0, s1] M S = go r 142 76 [l0, some (aI x), l2, l3, l4] [aI x, s0, s1] M S := go_nx rfl rfl
theorem g142_76 (r : Nat) (l0 l1 l2 l3 l4 : Option AV) (s0 : AV) (x : Int) (a : Nat) (M : Mem) (S : Sh) (h : S.1 a = 7) (h0 : 0 ≤ x) (h1 : x < S.2.1 a) : go r 142 76 [l0, l1, l2, l3, l4] [aI x, aR a, s0] M S = go r 142 77 [l0, l1, l2, l3, l4] [aI (M a x.toNat), s0] M S := go_bnd rfl ⟨h, h0, h1⟩ rfl
theorem g142_77 (r : Nat) (l0 l1 l2 l3 l4 : Option AV) (s0 s1 : AV) (M : Mem) (S : Sh) : go r 142 77 [l0, l1, l2, l3, l4] [s0, s1] M S = go r 142 78 [l0, l1, l2, l3, l4] [aI 2, s0, s1] M S := go_nx rfl rfl
theorem g142_78 (r : Nat) (l0 l1 l2 l3 l4 : Option AV) (s0 : AV) (x y : Int) (M : Mem) (S : Sh) (h : y ≠ 0) : go r 142 78 [l0, l1, l2, l3, l4] [aI y, aI x, s0] M S = go r 142 79 [l0, l1, l2, l3, l4] [aI (w32 (Int.tdiv x y)), s0] M S := go_bnd rfl h rfl
theorem g142_79 (r : Nat) (l0 l1 l2 l3 l4 : Option AV) (x y : Int) (M : Mem) (S : Sh) : go r 142 79 [l0, l1, l2, l3, l4] [aI y, aI x] M S = go r 142 80 [l0, l1, l2, l3, l4] [aI (w32 (x - y))] M S := go_nx rfl rfl
theorem g142_80 (r : Nat) (l0 l1 l2 l3 l4 : Option AV) (s0 : AV) (M : Mem) (S : Sh) : go r 142 80 [l0, l1, l2, l3, l4] [s0] M S = go r 142 81 [l0, l1, l2, l3, l4] [aI 0, s0] M S := go_nx rfl rfl
theorem g142_81 (r : Nat) (l0 l1 l2 l3 l4 : Option AV) (s0 s1 : AV) (M : Mem) (S : Sh) : go r 142 81 [l0, l1, l2, l3, l4] [s0, s1] M S = go r 142 83 [l0, l1, l2, l3, l4] [aI 20, s0, s1] M S := go_nx rfl rfl
theorem g142_83 (r : Nat) (l0 l1 l2 l3 l4 : Option AV) (x0 x1 x2 : Int) (M : Mem) (S : Sh) (hk : 10 < r) : go r 142 83 [l0, l1, l2, l3, l4] [aI x2, aI x1, aI x0] M S = cont r 142 86 [l0, l1, l2, l3, l4] [] 1 (res 107 [aI x0, aI x1, aI x2] M S) := go_c0 (m' := 107) (n := 3) (pc' := 86) (hr := 1) rfl rfl rfl rfl rfl rfl hk rfl
theorem g142_86 (r : Nat) (l0 l1 l2 l3 l4 : Option AV) (s0 : AV) (M : Mem) (S : Sh) : go r 142 86 [l0, l1, l2, l3, l4] [s0] M S = go r 142 107 [l0, l1, l2, l3, l4] [s0] M S := go_nx rfl rfl
theorem g142_89 (r : Nat) (l0 l1 l2 l4 : Option AV) (x : Int) (M : Mem) (S : Sh) : go r 142 89 [l0, l1, l2, some (aI x), l4] [] M S = go r 142 90 [l0, l1, l2, some (aI x), l4] [aI x] M S := go_nx rfl rfl
theorem g142_90 (r : Nat) (l0 l1 l2 l3 l4 : Option AV) (s0 : AV) (M : Mem) (S : Sh) : go r 142 90 [l0, l1, l2, l3, l4] [s0] M S = go r 142 91 [l0, l1, l2, l3, l4] [aI 2, s0] M S := go_nx rfl rfl
theorem g142_91 (r : Nat) (l0 l1 l2 l3 l4 : Option AV) (x y : Int) (M : Mem) (S : Sh) (h : y ≠ 0) : go r 142 91 [l0, l1, l2, l3, l4] [aI y, aI x] M S = go r 142 92 [l0, l1, l2, l3, l4] [aI (w32 (Int.tdiv x y))] M S := go_bnd rfl h rfl
theorem g142_92 (r : Nat) (l1 l2 l3 l4 : Option AV) (s0 : AV) (a : Nat) (M : Mem) (S : Sh) : go r 142 92 [some (aR a), l1, l2, l3, l4] [s0] M S = go r 142 93 [some (aR a), l1, l2, l3, l4] [aR a, s0] M S := go_nx rfl rfl
theorem g142_93 (r : Nat) (l0 l1 l2 l3 l4 : Option AV) (s0 : AV) (a : Nat) (M : Mem) (S : Sh) (h : S.1 a = 6) : go r 142 93 [l0, l1, l2, l3, l4] [aR a, s0] M S = go r 142 96 [l0, l1, l2, l3, l4] [aO (S.2.2.1 a 7), s0] M S := go_bnd rfl h rfl
theorem g142_96 (r : Nat) (l0 l2 l3 l4 : Option AV) (s0 s1 : AV) (x : Int) (M : Mem) (S : Sh) : go r 142 96 [l0, some (aI x), l2, l3, l4] [s0, s1] M S = go r 142 97 [l0, some (aI x), l2, l3, l4] [aI x, s0, s1] M S := go_nx rfl rfl
theorem g142_97 (r : Nat) (l0 l1 l2 l3 l4 : Option AV) (s0 : AV) (x : Int) (a : Nat) (M : Mem) (S : Sh) (h : S.1 a = 7) (h0 : 0 ≤ x) (h1 : x < S.2.1 a) : go r 142 97 [l0, l1, l2, l3, l4] [aI x, aR a, s0] M S = go r 142 98 [l0, l1, l2, l3, l4] [aI (M a x.toNat), s0] M S := go_bnd rfl ⟨h, h0, h1⟩ rfl
theorem g142_98 (r : Nat) (l0 l1 l2 l3 l4 : Option AV) (s0 s1 : AV) (M : Mem) (S : Sh) : go r 142 98 [l0, l1, l2, l3, l4] [s0, s1] M S = go r 142 99 [l0, l1, l2, l3, l4] [aI 2, s0, s1] M S := go_nx rfl rfl
theorem g142_99 (r : Nat) (l0 l1 l2 l3 l4 : Option AV) (s0 : AV) (x y : Int) (M : Mem) (S : Sh) (h : y ≠ 0) : go r 142 99 [l0, l1, l2, l3, l4] [aI y, aI x, s0] M S = go r 142 100 [l0, l1, l2, l3, l4] [aI (w32 (Int.tdiv x y)), s0] M S := go_bnd rfl h rfl
theorem g142_100 (r : Nat) (l0 l1 l2 l3 l4 : Option AV) (x y : Int) (M : Mem) (S : Sh) : go r 142 100 [l0, l1, l2, l3, l4] [aI y, aI x] M S = go r 142 101 [l0, l1, l2, l3, l4] [aI (w32 (x + y))] M S := go_nx rfl rfl
theorem g142_101 (r : Nat) (l0 l1 l2 l3 l4 : Option AV) (s0 : AV) (M : Mem) (S : Sh) : go r 142 101 [l0, l1, l2, l3, l4] [s0] M S = go r 142 103 [l0, l1, l2, l3, l4] [aI (-20), s0] M S := go_nx rfl rfl
theorem g142_103 (r : Nat) (l0 l1 l2 l3 l4 : Option AV) (s0 s1 : AV) (M : Mem) (S : Sh) : go r 142 103 [l0, l1, l2, l3, l4] [s0, s1] M S = go r 142 104 [l0, l1, l2, l3, l4] [aI 0, s0, s1] M S := go_nx rfl rfl
theorem g142_104 (r : Nat) (l0 l1 l2 l3 l4 : Option AV) (x0 x1 x2 : Int) (M : Mem) (S : Sh) (hk : 10 < r) : go r 142 104 [l0, l1, l2, l3, l4] [aI x2, aI x1, aI x0] M S = cont r 142 107 [l0, l1, l2, l3, l4] [] 1 (res 107 [aI x0, aI x1, aI x2] M S) := go_c0 (m' := 107) (n := 3) (pc' := 107) (hr := 1) rfl rfl rfl rfl rfl rfl hk rfl
theorem g142_107 (r : Nat) (l0 l1 l2 l3 l4 : Option AV) (x : Int) (M : Mem) (S : Sh) : go r 142 107 [l0, l1, l2, l3, l4] [aI x] M S = go r 142 109 [l0, l1, l2, l3, some (aI x)] [] M S := go_nx rfl rfl
theorem g142_109 (r : Nat) (l0 l1 l2 l3 l4 : Option AV) (M : Mem) (S : Sh) : go r 142 109 [l0, l1, l2, l3, l4] [] M S = go r 142 130 [l0, l1, l2, l3, l4] [] M S := go_nx rfl rfl
theorem g142_112 (r : Nat) (l0 l1 l2 l4 : Option AV) (x : Int) (M : Mem) (S : Sh) : go r 142 112 [l0, l1, l2, some (aI x), l4] [] M S = go r 142 113 [l0, l1, l2, some (aI x), l4] [aI x] M S := go_nx rfl rfl
theorem g142_113 (r : Nat) (l0 l1 l2 l4 : Option AV) (s0 : AV) (x : Int) (M : Mem) (S : Sh) : go r 142 113 [l0, l1, l2, some (aI x), l4] [s0] M S = go r 142 114 [l0, l1, l2, some (aI x), l4] [aI x, s0] M S := go_nx rfl rfl
theorem g142_114 (r : Nat) (l1 l2 l3 l4 : Option AV) (s0 s1 : AV) (a : Nat) (M : Mem) (S : Sh) : go r 142 114 [some (aR a), l1, l2, l3, l4] [s0, s1] M S = go r 142 115 [some (aR a), l1, l2, l3, l4] [aR a, s0, s1] M S := go_nx rfl rfl
theorem g142_115 (r : Nat) (l0 l1 l2 l3 l4 : Option AV) (s0 s1 : AV) (a : Nat) (M : Mem) (S : Sh) (h : S.1 a = 6) : go r 142 115 [l0, l1, l2, l3, l4] [aR a, s0, s1] M S = go r 142 118 [l0, l1, l2, l3, l4] [aO (S.2.2.1 a 7), s0, s1] M S := go_bnd rfl h rfl
theorem g142_118 (r : Nat) (l0 l2 l3 l4 : Option AV) (s0 s1 s2 : AV) (x : Int) (M : Mem) (S : Sh) : go r 142 118 [l0, some (aI x), l2, l3, l4] [s0, s1, s2] M S = go r 142 119 [l0, some (aI x), l2, l3, l4] [aI x, s0, s1, s2] M S := go_nx rfl rfl
theorem g142_119 (r : Nat) (l0 l1 l2 l3 l4 : Option AV) (s0 s1 : AV) (x : Int) (a : Nat) (M : Mem) (S : Sh) (h : S.1 a = 7) (h0 : 0 ≤ x) (h1 : x < S.2.1 a) : go r 142 119 [l0, l1, l2, l3, l4] [aI x, aR a, s0, s1] M S = go r 142 120 [l0, l1, l2, l3, l4] [aI (M a x.toNat), s0, s1] M S := go_bnd rfl ⟨h, h0, h1⟩ rfl
theorem g142_120 (r : Nat) (l0 l1 l2 l3 l4 : Option AV) (s0 : AV) (x y : Int) (M : Mem) (S : Sh) : go r 142 120 [l0, l1, l2, l3, l4] [aI y, aI x, s0] M S = go r 142 121 [l0, l1, l2, l3, l4] [aI (w32 (x * y)), s0] M S := go_nx rfl rfl
theorem g142_121 (r : Nat) (l0 l1 l2 l3 l4 : Option AV) (s0 s1 : AV) (M : Mem) (S : Sh) : go r 142 121 [l0, l1, l2, l3, l4] [s0, s1] M S = go r 142 123 [l0, l1, l2, l3, l4] [aI 9, s0, s1] M S := go_nx rfl rfl
theorem g142_123 (r : Nat) (l0 l1 l2 l3 l4 : Option AV) (s0 : AV) (x y : Int) (M : Mem) (S : Sh) (h : y ≠ 0) : go r 142 123 [l0, l1, l2, l3, l4] [aI y, aI x, s0] M S = go r 142 124 [l0, l1, l2, l3, l4] [aI (w32 (Int.tdiv x y)), s0] M S := go_bnd rfl h rfl
theorem g142_124 (r : Nat) (l0 l1 l2 l3 l4 : Option AV) (x y : Int) (M : Mem) (S : Sh) : go r 142 124 [l0, l1, l2, l3, l4] [aI y, aI x] M S = go r 142 125 [l0, l1, l2, l3, l4] [aI (w32 (x + y))] M S := go_nx rfl rfl
set_option maxRecDepth 20000 in
theorem g142_125 (r : Nat) (l0 l1 l2 l3 l4 : Option AV) (x : Int) (M : Mem) (S : Sh) : go r 142 125 [l0, l1, l2, l3, l4] [aI x] M S = go r 142 127 [l0, l1, l2, l3, some (aI x)] [] M S := go_nx rfl rfl
set_option maxRecDepth 20000 in
theorem g142_127 (r : Nat) (l0 l1 l2 l3 l4 : Option AV) (M : Mem) (S : Sh) : go r 142 127 [l0, l1, l2, l3, l4] [] M S = go r 142 130 [l0, l1, l2, l3, l4] [] M S := go_nx rfl rfl
set_option maxRecDepth 20000 in
theorem g142_130 (r : Nat) (l0 l1 l2 l3 : Option AV) (x : Int) (M : Mem) (S : Sh) : go r 142 130 [l0, l1, l2, l3, some (aI x)] [] M S = go r 142 132 [l0, l1, l2, l3, some (aI x)] [aI x] M S := go_nx rfl rfl
set_option maxRecDepth 20000 in
theorem g142_132 (r : Nat) (l0 l1 l2 l3 l4 : Option AV) (s0 : AV) (M : Mem) (S : Sh) : go r 142 132 [l0, l1, l2, l3, l4] [s0] M S = go r 142 134 [l0, l1, l2, l3, l4] [aI (-20), s0] M S := go_nx rfl rfl
set_option maxRecDepth 20000 in
theorem g142_134 (r : Nat) (l0 l1 l2 l3 l4 : Option AV) (s0 s1 : AV) (M : Mem) (S : Sh) : go r 142 134 [l0, l1, l2, l3, l4] [s0, s1] M S = go r 142 136 [l0, l1, l2, l3, l4] [aI 20, s0, s1] M S := go_nx rfl rfl
set_option maxRecDepth 20000 in
theorem g142_136 (r : Nat) (l0 l1 l2 l3 l4 : Option AV) (x0 x1 x2 : Int) (M : Mem) (S : Sh) (hk : 10 < r) : go r 142 136 [l0, l1, l2, l3, l4] [aI x2, aI x1, aI x0] M S = cont r 142 139 [l0, l1, l2, l3, l4] [] 1 (res 107 [aI x0, aI x1, aI x2] M S) := go_c0 (m' := 107) (n := 3) (pc' := 139) (hr := 1) rfl rfl rfl rfl rfl rfl hk rfl
set_option maxRecDepth 20000 in
theorem g142_139 (r : Nat) (l0 l1 l2 l3 l4 : Option AV) (x : Int) (M : Mem) (S : Sh) : go r 142 139 [l0, l1, l2, l3, l4] [aI x] M S = some (some (aI x), M, S) := go_rt rfl (bnd_t (Or.inl rfl))
/-- StripsFromAboveModel.coversOver(IIIZ)V -/
theorem g143 (x1 x2 x3 x4 : Int) (a0 : Nat) (M : Mem) (S : Sh) : res 143 [aR a0, aI x1, aI x2, aI x3, aI x4] M S = go 14 143 0 [some (aR a0), some (aI x1), some (aI x2), some (aI x3), some (aI x4), none, none, none, none, none] [] M S := res_e0 rfl _ M S
theorem g143_0 (r : Nat) (l1 l2 l3 l4 l5 l6 l7 l8 l9 : Option AV) (a : Nat) (M : Mem) (S : Sh) : go r 143 0 [some (aR a), l1, l2, l3, l4, l5, l6, l7, l8, l9] [] M S = go r 143 1 [some (aR a), l1, l2, l3, l4, l5, l6, l7, l8, l9] [aR a] M S := go_nx rfl rfl
theorem g143_1 (r : Nat) (l0 l2 l3 l4 l5 l6 l7 l8 l9 : Option AV) (s0 : AV) (x : Int) (M : Mem) (S : Sh) : go r 143 1 [l0, some (aI x), l2, l3, l4, l5, l6, l7, l8, l9] [s0] M S = go r 143 2 [l0, some (aI x), l2, l3, l4, l5, l6, l7, l8, l9] [aI x, s0] M S := go_nx rfl rfl
theorem g143_2 (r : Nat) (l0 l1 l2 l3 l4 l5 l6 l7 l8 l9 : Option AV) (s0 s1 : AV) (M : Mem) (S : Sh) : go r 143 2 [l0, l1, l2, l3, l4, l5, l6, l7, l8, l9] [s0, s1] M S = go r 143 4 [l0, l1, l2, l3, l4, l5, l6, l7, l8, l9] [aI 12, s0, s1] M S := go_nx rfl rfl
theorem g143_4 (r : Nat) (l0 l1 l2 l4 l5 l6 l7 l8 l9 : Option AV) (s0 s1 s2 : AV) (x : Int) (M : Mem) (S : Sh) : go r 143 4 [l0, l1, l2, some (aI x), l4, l5, l6, l7, l8, l9] [s0, s1, s2] M S = go r 143 5 [l0, l1, l2, some (aI x), l4, l5, l6, l7, l8, l9] [aI x, s0, s1, s2] M S := go_nx rfl rfl
theorem g143_5 (r : Nat) (l0 l1 l2 l3 l4 l5 l6 l7 l8 l9 : Option AV) (s0 s1 : AV) (x y : Int) (M : Mem) (S : Sh) : go r 143 5 [l0, l1, l2, l3, l4, l5, l6, l7, l8, l9] [aI y, aI x, s0, s1] M S = go r 143 6 [l0, l1, l2, l3, l4, l5, l6, l7, l8, l9] [aI (w32 (x * y)), s0, s1] M S := go_nx rfl rfl
theorem g143_6 (r : Nat) (l0 l1 l3 l4 l5 l6 l7 l8 l9 : Option AV) (s0 s1 s2 : AV) (x : Int) (M : Mem) (S : Sh) : go r 143 6 [l0, l1, some (aI x), l3, l4, l5, l6, l7, l8, l9] [s0, s1, s2] M S = go r 143 7 [l0, l1, some (aI x), l3, l4, l5, l6, l7, l8, l9] [aI x, s0, s1, s2] M S := go_nx rfl rfl
theorem g143_7 (r : Nat) (l0 l1 l2 l3 l4 l5 l6 l7 l8 l9 : Option AV) (s0 s1 : AV) (x y : Int) (M : Mem) (S : Sh) : go r 143 7 [l0, l1, l2, l3, l4, l5, l6, l7, l8, l9] [aI y, aI x, s0, s1] M S = go r 143 8 [l0, l1, l2, l3, l4, l5, l6, l7, l8, l9] [aI (w32 (x + y)), s0, s1] M S := go_nx rfl rfl
theorem g143_8 (r : Nat) (l0 l1 l2 l3 l4 l5 l6 l7 l8 l9 : Option AV) (x1 x2 : Int) (a0 : Nat) (M : Mem) (S : Sh) (hk : 13 < r) (h : S.1 a0 = 6) : go r 143 8 [l0, l1, l2, l3, l4, l5, l6, l7, l8, l9] [aI x2, aI x1, aR a0] M S = cont r 143 11 [l0, l1, l2, l3, l4, l5, l6, l7, l8, l9] [] 1 (res 141 [aR a0, aI x1, aI x2] M S) := go_cr0 (m' := 141) (n := 3) (pc' := 11) (hr := 1) rfl rfl rfl h rfl rfl rfl rfl hk rfl
theorem g143_11 (r : Nat) (l0 l1 l2 l3 l4 l5 l6 l7 l8 l9 : Option AV) (x : Int) (M : Mem) (S : Sh) : go r 143 11 [l0, l1, l2, l3, l4, l5, l6, l7, l8, l9] [aI x] M S = go r 143 13 [l0, l1, l2, l3, l4, some (aI x), l6, l7, l8, l9] [] M S := go_nx rfl rfl
theorem g143_13 (r : Nat) (l0 l1 l2 l3 l5 l6 l7 l8 l9 : Option AV) (x : Int) (M : Mem) (S : Sh) : go r 143 13 [l0, l1, l2, l3, some (aI x), l5, l6, l7, l8, l9] [] M S = go r 143 15 [l0, l1, l2, l3, some (aI x), l5, l6, l7, l8, l9] [aI x] M S := go_nx rfl rfl
theorem g143_15 (r : Nat) (l0 l1 l2 l3 l4 l5 l6 l7 l8 l9 : Option AV) (x : Int) (M : Mem) (S : Sh) : go r 143 15 [l0, l1, l2, l3, l4, l5, l6, l7, l8, l9] [aI x] M S = if x = 0 then go r 143 23 [l0, l1, l2, l3, l4, l5, l6, l7, l8, l9] [] M S else go r 143 18 [l0, l1, l2, l3, l4, l5, l6, l7, l8, l9] [] M S := go_br rfl rfl rfl rfl rfl
theorem g143_18 (r : Nat) (l0 l1 l2 l3 l4 l6 l7 l8 l9 : Option AV) (x : Int) (M : Mem) (S : Sh) : go r 143 18 [l0, l1, l2, l3, l4, some (aI x), l6, l7, l8, l9] [] M S = go r 143 20 [l0, l1, l2, l3, l4, some (aI x), l6, l7, l8, l9] [aI x] M S := go_nx rfl rfl
theorem g143_20 (r : Nat) (l0 l1 l2 l3 l4 l5 l6 l7 l8 l9 : Option AV) (s0 : AV) (M : Mem) (S : Sh) : go r 143 20 [l0, l1, l2, l3, l4, l5, l6, l7, l8, l9] [s0] M S = go r 143 24 [l0, l1, l2, l3, l4, l5, l6, l7, l8, l9] [s0] M S := go_nx rfl rfl
theorem g143_23 (r : Nat) (l0 l1 l2 l3 l4 l5 l6 l7 l8 l9 : Option AV) (M : Mem) (S : Sh) : go r 143 23 [l0, l1, l2, l3, l4, l5, l6, l7, l8, l9] [] M S = go r 143 24 [l0, l1, l2, l3, l4, l5, l6, l7, l8, l9] [aI 1] M S := go_nx rfl rfl
theorem g143_24 (r : Nat) (l0 l1 l2 l3 l4 l5 l6 l7 l8 l9 : Option AV) (x : Int) (M : Mem) (S : Sh) : go r 143 24 [l0, l1, l2, l3, l4, l5, l6, l7, l8, l9] [aI x] M S = go r 143 26 [l0, l1, l2, l3, l4, l5, some (aI x), l7, l8, l9] [] M S := go_nx rfl rfl
theorem g143_26 (r : Nat) (l0 l1 l2 l3 l5 l6 l7 l8 l9 : Option AV) (x : Int) (M : Mem) (S : Sh) : go r 143 26 [l0, l1, l2, l3, some (aI x), l5, l6, l7, l8, l9] [] M S = go r 143 28 [l0, l1, l2, l3, some (aI x), l5, l6, l7, l8, l9] [aI x] M S := go_nx rfl rfl
theorem g143_28 (r : Nat) (l0 l1 l2 l3 l4 l5 l6 l7 l8 l9 : Option AV) (x : Int) (M : Mem) (S : Sh) : go r 143 28 [l0, l1, l2, l3, l4, l5, l6, l7, l8, l9] [aI x] M S = if x = 0 then go r 143 35 [l0, l1, l2, l3, l4, l5, l6, l7, l8, l9] [] M S else go r 143 31 [l0, l1, l2, l3, l4, l5, l6, l7, l8, l9] [] M S := go_br rfl rfl rfl rfl rfl
theorem g143_31 (r : Nat) (l0 l1 l2 l3 l4 l5 l6 l7 l8 l9 : Option AV) (M : Mem) (S : Sh) : go r 143 31 [l0, l1, l2, l3, l4, l5, l6, l7, l8, l9] [] M S = go r 143 32 [l0, l1, l2, l3, l4, l5, l6, l7, l8, l9] [aI 1] M S := go_nx rfl rfl
theorem g143_32 (r : Nat) (l0 l1 l2 l3 l4 l5 l6 l7 l8 l9 : Option AV) (s0 : AV) (M : Mem) (S : Sh) : go r 143 32 [l0, l1, l2, l3, l4, l5, l6, l7, l8, l9] [s0] M S = go r 143 37 [l0, l1, l2, l3, l4, l5, l6, l7, l8, l9] [s0] M S := go_nx rfl rfl
theorem g143_35 (r : Nat) (l0 l1 l2 l3 l4 l6 l7 l8 l9 : Option AV) (x : Int) (M : Mem) (S : Sh) : go r 143 35 [l0, l1, l2, l3, l4, some (aI x), l6, l7, l8, l9] [] M S = go r 143 37 [l0, l1, l2, l3, l4, some (aI x), l6, l7, l8, l9] [aI x] M S := go_nx rfl rfl
theorem g143_37 (r : Nat) (l0 l1 l2 l3 l4 l5 l6 l7 l8 l9 : Option AV) (x : Int) (M : Mem) (S : Sh) : go r 143 37 [l0, l1, l2, l3, l4, l5, l6, l7, l8, l9] [aI x] M S = go r 143 39 [l0, l1, l2, l3, l4, l5, l6, some (aI x), l8, l9] [] M S := go_nx rfl rfl
theorem g143_39 (r : Nat) (l0 l1 l2 l4 l5 l6 l7 l8 l9 : Option AV) (x : Int) (M : Mem) (S : Sh) : go r 143 39 [l0, l1, l2, some (aI x), l4, l5, l6, l7, l8, l9] [] M S = go r 143 40 [l0, l1, l2, some (aI x), l4, l5, l6, l7, l8, l9] [aI x] M S := go_nx rfl rfl
theorem g143_40 (r : Nat) (l0 l1 l2 l3 l4 l5 l6 l8 l9 : Option AV) (s0 : AV) (x : Int) (M : Mem) (S : Sh) : go r 143 40 [l0, l1, l2, l3, l4, l5, l6, some (aI x), l8, l9] [s0] M S = go r 143 42 [l0, l1, l2, l3, l4, l5, l6, some (aI x), l8, l9] [aI x, s0] M S := go_nx rfl rfl
theorem g143_42 (r : Nat) (l0 l1 l2 l3 l4 l5 l6 l7 l8 l9 : Option AV) (x y : Int) (M : Mem) (S : Sh) : go r 143 42 [l0, l1, l2, l3, l4, l5, l6, l7, l8, l9] [aI y, aI x] M S = go r 143 43 [l0, l1, l2, l3, l4, l5, l6, l7, l8, l9] [aI (w32 (x - y))] M S := go_nx rfl rfl
theorem g143_43 (r : Nat) (l0 l1 l2 l3 l4 l5 l6 l7 l8 l9 : Option AV) (s0 : AV) (M : Mem) (S : Sh) : go r 143 43 [l0, l1, l2, l3, l4, l5, l6, l7, l8, l9] [s0] M S = go r 143 44 [l0, l1, l2, l3, l4, l5, l6, l7, l8, l9] [aI 0, s0] M S := go_nx rfl rfl
theorem g143_44 (r : Nat) (l0 l1 l2 l3 l4 l5 l6 l7 l8 l9 : Option AV) (s0 s1 : AV) (M : Mem) (S : Sh) : go r 143 44 [l0, l1, l2, l3, l4, l5, l6, l7, l8, l9] [s0, s1] M S = go r 143 46 [l0, l1, l2, l3, l4, l5, l6, l7, l8, l9] [aI 15, s0, s1] M S := go_nx rfl rfl
theorem g143_46 (r : Nat) (l0 l1 l2 l3 l4 l5 l6 l7 l8 l9 : Option AV) (x0 x1 x2 : Int) (M : Mem) (S : Sh) (hk : 10 < r) : go r 143 46 [l0, l1, l2, l3, l4, l5, l6, l7, l8, l9] [aI x2, aI x1, aI x0] M S = cont r 143 49 [l0, l1, l2, l3, l4, l5, l6, l7, l8, l9] [] 1 (res 107 [aI x0, aI x1, aI x2] M S) := go_c0 (m' := 107) (n := 3) (pc' := 49) (hr := 1) rfl rfl rfl rfl rfl rfl hk rfl
theorem g143_49 (r : Nat) (l0 l1 l2 l3 l4 l5 l6 l7 l8 l9 : Option AV) (x : Int) (M : Mem) (S : Sh) : go r 143 49 [l0, l1, l2, l3, l4, l5, l6, l7, l8, l9] [aI x] M S = go r 143 51 [l0, l1, l2, l3, l4, l5, l6, l7, some (aI x), l9] [] M S := go_nx rfl rfl
theorem g143_51 (r : Nat) (l0 l1 l2 l3 l4 l5 l6 l7 l9 : Option AV) (x : Int) (M : Mem) (S : Sh) : go r 143 51 [l0, l1, l2, l3, l4, l5, l6, l7, some (aI x), l9] [] M S = go r 143 53 [l0, l1, l2, l3, l4, l5, l6, l7, some (aI x), l9] [aI x] M S := go_nx rfl rfl
theorem g143_53 (r : Nat) (l0 l1 l2 l4 l5 l6 l7 l8 l9 : Option AV) (s0 : AV) (x : Int) (M : Mem) (S : Sh) : go r 143 53 [l0, l1, l2, some (aI x), l4, l5, l6, l7, l8, l9] [s0] M S = go r 143 54 [l0, l1, l2, some (aI x), l4, l5, l6, l7, l8, l9] [aI x, s0] M S := go_nx rfl rfl
theorem g143_54 (r : Nat) (l0 l1 l2 l3 l4 l5 l6 l8 l9 : Option AV) (s0 s1 : AV) (x : Int) (M : Mem) (S : Sh) : go r 143 54 [l0, l1, l2, l3, l4, l5, l6, some (aI x), l8, l9] [s0, s1] M S = go r 143 56 [l0, l1, l2, l3, l4, l5, l6, some (aI x), l8, l9] [aI x, s0, s1] M S := go_nx rfl rfl
theorem g143_56 (r : Nat) (l0 l1 l2 l3 l4 l5 l6 l7 l8 l9 : Option AV) (s0 : AV) (x y : Int) (M : Mem) (S : Sh) : go r 143 56 [l0, l1, l2, l3, l4, l5, l6, l7, l8, l9] [aI y, aI x, s0] M S = go r 143 57 [l0, l1, l2, l3, l4, l5, l6, l7, l8, l9] [aI (w32 (x + y)), s0] M S := go_nx rfl rfl
theorem g143_57 (r : Nat) (l0 l1 l2 l3 l4 l5 l6 l7 l8 l9 : Option AV) (s0 s1 : AV) (M : Mem) (S : Sh) : go r 143 57 [l0, l1, l2, l3, l4, l5, l6, l7, l8, l9] [s0, s1] M S = go r 143 58 [l0, l1, l2, l3, l4, l5, l6, l7, l8, l9] [aI 0, s0, s1] M S := go_nx rfl rfl
theorem g143_58 (r : Nat) (l0 l1 l2 l3 l4 l5 l6 l7 l8 l9 : Option AV) (s0 s1 s2 : AV) (M : Mem) (S : Sh) : go r 143 58 [l0, l1, l2, l3, l4, l5, l6, l7, l8, l9] [s0, s1, s2] M S = go r 143 60 [l0, l1, l2, l3, l4, l5, l6, l7, l8, l9] [aI 15, s0, s1, s2] M S := go_nx rfl rfl
theorem g143_60 (r : Nat) (l0 l1 l2 l3 l4 l5 l6 l7 l8 l9 : Option AV) (s0 : AV) (x0 x1 x2 : Int) (M : Mem) (S : Sh) (hk : 10 < r) : go r 143 60 [l0, l1, l2, l3, l4, l5, l6, l7, l8, l9] [aI x2, aI x1, aI x0, s0] M S = cont r 143 63 [l0, l1, l2, l3, l4, l5, l6, l7, l8, l9] [s0] 1 (res 107 [aI x0, aI x1, aI x2] M S) := go_c0 (m' := 107) (n := 3) (pc' := 63) (hr := 1) rfl rfl rfl rfl rfl rfl hk rfl
theorem g143_63 (r : Nat) (l0 l1 l2 l3 l4 l5 l6 l7 l8 l9 : Option AV) (x y : Int) (M : Mem) (S : Sh) : go r 143 63 [l0, l1, l2, l3, l4, l5, l6, l7, l8, l9] [aI y, aI x] M S = if x > y then go r 143 143 [l0, l1, l2, l3, l4, l5, l6, l7, l8, l9] [] M S else go r 143 66 [l0, l1, l2, l3, l4, l5, l6, l7, l8, l9] [] M S := go_br rfl rfl rfl rfl rfl
theorem g143_66 (r : Nat) (l0 l1 l3 l4 l5 l6 l7 l8 l9 : Option AV) (x : Int) (M : Mem) (S : Sh) : go r 143 66 [l0, l1, some (aI x), l3, l4, l5, l6, l7, l8, l9] [] M S = go r 143 67 [l0, l1, some (aI x), l3, l4, l5, l6, l7, l8, l9] [aI x] M S := go_nx rfl rfl
theorem g143_67 (r : Nat) (l0 l1 l2 l3 l4 l5 l7 l8 l9 : Option AV) (s0 : AV) (x : Int) (M : Mem) (S : Sh) : go r 143 67 [l0, l1, l2, l3, l4, l5, some (aI x), l7, l8, l9] [s0] M S = go r 143 69 [l0, l1, l2, l3, l4, l5, some (aI x), l7, l8, l9] [aI x, s0] M S := go_nx rfl rfl
theorem g143_69 (r : Nat) (l0 l1 l2 l3 l4 l5 l6 l7 l8 l9 : Option AV) (x y : Int) (M : Mem) (S : Sh) : go r 143 69 [l0, l1, l2, l3, l4, l5, l6, l7, l8, l9] [aI y, aI x] M S = go r 143 70 [l0, l1, l2, l3, l4, l5, l6, l7, l8, l9] [aI (w32 (x - y))] M S := go_nx rfl rfl
theorem g143_70 (r : Nat) (l0 l1 l2 l3 l4 l5 l6 l7 l8 l9 : Option AV) (s0 : AV) (M : Mem) (S : Sh) : go r 143 70 [l0, l1, l2, l3, l4, l5, l6, l7, l8, l9] [s0] M S = go r 143 71 [l0, l1, l2, l3, l4, l5, l6, l7, l8, l9] [aI 0, s0] M S := go_nx rfl rfl
theorem g143_71 (r : Nat) (l0 l1 l2 l3 l4 l5 l6 l7 l8 l9 : Option AV) (s0 s1 : AV) (M : Mem) (S : Sh) : go r 143 71 [l0, l1, l2, l3, l4, l5, l6, l7, l8, l9] [s0, s1] M S = go r 143 73 [l0, l1, l2, l3, l4, l5, l6, l7, l8, l9] [aI 11, s0, s1] M S := go_nx rfl rfl
theorem g143_73 (r : Nat) (l0 l1 l2 l3 l4 l5 l6 l7 l8 l9 : Option AV) (x0 x1 x2 : Int) (M : Mem) (S : Sh) (hk : 10 < r) : go r 143 73 [l0, l1, l2, l3, l4, l5, l6, l7, l8, l9] [aI x2, aI x1, aI x0] M S = cont r 143 76 [l0, l1, l2, l3, l4, l5, l6, l7, l8, l9] [] 1 (res 107 [aI x0, aI x1, aI x2] M S) := go_c0 (m' := 107) (n := 3) (pc' := 76) (hr := 1) rfl rfl rfl rfl rfl rfl hk rfl
theorem g143_76 (r : Nat) (l0 l1 l2 l3 l4 l5 l6 l7 l8 l9 : Option AV) (x : Int) (M : Mem) (S : Sh) : go r 143 76 [l0, l1, l2, l3, l4, l5, l6, l7, l8, l9] [aI x] M S = go r 143 78 [l0, l1, l2, l3, l4, l5, l6, l7, l8, some (aI x)] [] M S := go_nx rfl rfl
theorem g143_78 (r : Nat) (l0 l1 l2 l3 l4 l5 l6 l7 l8 : Option AV) (x : Int) (M : Mem) (S : Sh) : go r 143 78 [l0, l1, l2, l3, l4, l5, l6, l7, l8, some (aI x)] [] M S = go r 143 80 [l0, l1, l2, l3, l4, l5, l6, l7, l8, some (aI x)] [aI x] M S := go_nx rfl rfl
theorem g143_80 (r : Nat) (l0 l1 l3 l4 l5 l6 l7 l8 l9 : Option AV) (s0 : AV) (x : Int) (M : Mem) (S : Sh) : go r 143 80 [l0, l1, some (aI x), l3, l4, l5, l6, l7, l8, l9] [s0] M S = go r 143 81 [l0, l1, some (aI x), l3, l4, l5, l6, l7, l8, l9] [aI x, s0] M S := go_nx rfl rfl
theorem g143_81 (r : Nat) (l0 l1 l2 l3 l4 l5 l7 l8 l9 : Option AV) (s0 s1 : AV) (x : Int) (M : Mem) (S : Sh) : go r 143 81 [l0, l1, l2, l3, l4, l5, some (aI x), l7, l8, l9] [s0, s1] M S = go r 143 83 [l0, l1, l2, l3, l4, l5, some (aI x), l7, l8, l9] [aI x, s0, s1] M S := go_nx rfl rfl
theorem g143_83 (r : Nat) (l0 l1 l2 l3 l4 l5 l6 l7 l8 l9 : Option AV) (s0 : AV) (x y : Int) (M : Mem) (S : Sh) : go r 143 83 [l0, l1, l2, l3, l4, l5, l6, l7, l8, l9] [aI y, aI x, s0] M S = go r 143 84 [l0, l1, l2, l3, l4, l5, l6, l7, l8, l9] [aI (w32 (x + y)), s0] M S := go_nx rfl rfl
theorem g143_84 (r : Nat) (l0 l1 l2 l3 l4 l5 l6 l7 l8 l9 : Option AV) (s0 s1 : AV) (M : Mem) (S : Sh) : go r 143 84 [l0, l1, l2, l3, l4, l5, l6, l7, l8, l9] [s0, s1] M S = go r 143 85 [l0, l1, l2, l3, l4, l5, l6, l7, l8, l9] [aI 0, s0, s1] M S := go_nx rfl rfl
theorem g143_85 (r : Nat) (l0 l1 l2 l3 l4 l5 l6 l7 l8 l9 : Option AV) (s0 s1 s2 : AV) (M : Mem) (S : Sh) : go r 143 85 [l0, l1, l2, l3, l4, l5, l6, l7, l8, l9] [s0, s1, s2] M S = go r 143 87 [l0, l1, l2, l3, l4, l5, l6, l7, l8, l9] [aI 11, s0, s1, s2] M S := go_nx rfl rfl
theorem g143_87 (r : Nat) (l0 l1 l2 l3 l4 l5 l6 l7 l8 l9 : Option AV) (s0 : AV) (x0 x1 x2 : Int) (M : Mem) (S : Sh) (hk : 10 < r) : go r 143 87 [l0, l1, l2, l3, l4, l5, l6, l7, l8, l9] [aI x2, aI x1, aI x0, s0] M S = cont r 143 90 [l0, l1, l2, l3, l4, l5, l6, l7, l8, l9] [s0] 1 (res 107 [aI x0, aI x1, aI x2] M S) := go_c0 (m' := 107) (n := 3) (pc' := 90) (hr := 1) rfl rfl rfl rfl rfl rfl hk rfl
theorem g143_90 (r : Nat) (l0 l1 l2 l3 l4 l5 l6 l7 l8 l9 : Option AV) (x y : Int) (M : Mem) (S : Sh) : go r 143 90 [l0, l1, l2, l3, l4, l5, l6, l7, l8, l9] [aI y, aI x] M S = if x > y then go r 143 137 [l0, l1, l2, l3, l4, l5, l6, l7, l8, l9] [] M S else go r 143 93 [l0, l1, l2, l3, l4, l5, l6, l7, l8, l9] [] M S := go_br rfl rfl rfl rfl rfl
theorem g143_93 (r : Nat) (l1 l2 l3 l4 l5 l6 l7 l8 l9 : Option AV) (a : Nat) (M : Mem) (S : Sh) : go r 143 93 [some (aR a), l1, l2, l3, l4, l5, l6, l7, l8, l9] [] M S = go r 143 94 [some (aR a), l1, l2, l3, l4, l5, l6, l7, l8, l9] [aR a] M S := go_nx rfl rfl
theorem g143_94 (r : Nat) (l0 l1 l2 l3 l4 l5 l6 l7 l8 l9 : Option AV) (a : Nat) (M : Mem) (S : Sh) (h : S.1 a = 6) : go r 143 94 [l0, l1, l2, l3, l4, l5, l6, l7, l8, l9] [aR a] M S = go r 143 97 [l0, l1, l2, l3, l4, l5, l6, l7, l8, l9] [aO (S.2.2.1 a 37)] M S := go_bnd rfl h rfl
theorem g143_97 (r : Nat) (l0 l1 l2 l3 l4 l5 l6 l7 l8 l9 : Option AV) (s0 : AV) (M : Mem) (S : Sh) : go r 143 97 [l0, l1, l2, l3, l4, l5, l6, l7, l8, l9] [s0] M S = go r 143 99 [l0, l1, l2, l3, l4, l5, l6, l7, l8, l9] [aI 12, s0] M S := go_nx rfl rfl
theorem g143_99 (r : Nat) (l0 l1 l2 l3 l4 l5 l6 l7 l9 : Option AV) (s0 s1 : AV) (x : Int) (M : Mem) (S : Sh) : go r 143 99 [l0, l1, l2, l3, l4, l5, l6, l7, some (aI x), l9] [s0, s1] M S = go r 143 101 [l0, l1, l2, l3, l4, l5, l6, l7, some (aI x), l9] [aI x, s0, s1] M S := go_nx rfl rfl
theorem g143_101 (r : Nat) (l0 l1 l2 l3 l4 l5 l6 l7 l8 l9 : Option AV) (s0 : AV) (x y : Int) (M : Mem) (S : Sh) : go r 143 101 [l0, l1, l2, l3, l4, l5, l6, l7, l8, l9] [aI y, aI x, s0] M S = go r 143 102 [l0, l1, l2, l3, l4, l5, l6, l7, l8, l9] [aI (w32 (x * y)), s0] M S := go_nx rfl rfl
theorem g143_102 (r : Nat) (l0 l1 l2 l3 l4 l5 l6 l7 l8 : Option AV) (s0 s1 : AV) (x : Int) (M : Mem) (S : Sh) : go r 143 102 [l0, l1, l2, l3, l4, l5, l6, l7, l8, some (aI x)] [s0, s1] M S = go r 143 104 [l0, l1, l2, l3, l4, l5, l6, l7, l8, some (aI x)] [aI x, s0, s1] M S := go_nx rfl rfl
theorem g143_104 (r : Nat) (l0 l1 l2 l3 l4 l5 l6 l7 l8 l9 : Option AV) (s0 : AV) (x y : Int) (M : Mem) (S : Sh) : go r 143 104 [l0, l1, l2, l3, l4, l5, l6, l7, l8, l9] [aI y, aI x, s0] M S = go r 143 105 [l0, l1, l2, l3, l4, l5, l6, l7, l8, l9] [aI (w32 (x + y)), s0] M S := go_nx rfl rfl
theorem g143_105 (r : Nat) (l0 l1 l2 l3 l4 l5 l6 l7 l8 l9 : Option AV) (x : Int) (a : Nat) (M : Mem) (S : Sh) : go r 143 105 [l0, l1, l2, l3, l4, l5, l6, l7, l8, l9] [aI x, aR a] M S = go r 143 106 [l0, l1, l2, l3, l4, l5, l6, l7, l8, l9] [aI x, aR a, aI x, aR a] M S := go_nx rfl rfl
theorem g143_106 (r : Nat) (l0 l1 l2 l3 l4 l5 l6 l7 l8 l9 : Option AV) (s0 s1 : AV) (x : Int) (a : Nat) (M : Mem) (S : Sh) (h : S.1 a = 7) (h0 : 0 ≤ x) (h1 : x < S.2.1 a) : go r 143 106 [l0, l1, l2, l3, l4, l5, l6, l7, l8, l9] [aI x, aR a, s0, s1] M S = go r 143 107 [l0, l1, l2, l3, l4, l5, l6, l7, l8, l9] [aI (M a x.toNat), s0, s1] M S := go_bnd rfl ⟨h, h0, h1⟩ rfl
theorem g143_107 (r : Nat) (l1 l2 l3 l4 l5 l6 l7 l8 l9 : Option AV) (s0 s1 s2 : AV) (a : Nat) (M : Mem) (S : Sh) : go r 143 107 [some (aR a), l1, l2, l3, l4, l5, l6, l7, l8, l9] [s0, s1, s2] M S = go r 143 108 [some (aR a), l1, l2, l3, l4, l5, l6, l7, l8, l9] [aR a, s0, s1, s2] M S := go_nx rfl rfl
set_option maxRecDepth 20000 in
theorem g143_108 (r : Nat) (l0 l1 l2 l3 l4 l5 l6 l7 l8 l9 : Option AV) (s0 s1 s2 : AV) (a : Nat) (M : Mem) (S : Sh) (h : S.1 a = 6) : go r 143 108 [l0, l1, l2, l3, l4, l5, l6, l7, l8, l9] [aR a, s0, s1, s2] M S = go r 143 111 [l0, l1, l2, l3, l4, l5, l6, l7, l8, l9] [aO (S.2.2.1 a 1), s0, s1, s2] M S := go_bnd rfl h rfl
set_option maxRecDepth 20000 in
theorem g143_111 (r : Nat) (l0 l1 l2 l3 l4 l5 l6 l7 l8 l9 : Option AV) (s0 s1 s2 s3 : AV) (M : Mem) (S : Sh) : go r 143 111 [l0, l1, l2, l3, l4, l5, l6, l7, l8, l9] [s0, s1, s2, s3] M S = go r 143 113 [l0, l1, l2, l3, l4, l5, l6, l7, l8, l9] [aI 12, s0, s1, s2, s3] M S := go_nx rfl rfl
set_option maxRecDepth 20000 in
theorem g143_113 (r : Nat) (l0 l1 l2 l3 l4 l5 l6 l7 l9 : Option AV) (s0 s1 s2 s3 s4 : AV) (x : Int) (M : Mem) (S : Sh) : go r 143 113 [l0, l1, l2, l3, l4, l5, l6, l7, some (aI x), l9] [s0, s1, s2, s3, s4] M S = go r 143 115 [l0, l1, l2, l3, l4, l5, l6, l7, some (aI x), l9] [aI x, s0, s1, s2, s3, s4] M S := go_nx rfl rfl
set_option maxRecDepth 20000 in
theorem g143_115 (r : Nat) (l0 l1 l2 l3 l4 l5 l6 l7 l8 l9 : Option AV) (s0 s1 s2 s3 : AV) (x y : Int) (M : Mem) (S : Sh) : go r 143 115 [l0, l1, l2, l3, l4, l5, l6, l7, l8, l9] [aI y, aI x, s0, s1, s2, s3] M S = go r 143 116 [l0, l1, l2, l3, l4, l5, l6, l7, l8, l9] [aI (w32 (x * y)), s0, s1, s2, s3] M S := go_nx rfl rfl
set_option maxRecDepth 20000 in
theorem g143_116 (r : Nat) (l0 l1 l2 l3 l4 l5 l6 l7 l8 : Option AV) (s0 s1 s2 s3 s4 : AV) (x : Int) (M : Mem) (S : Sh) : go r 143 116 [l0, l1, l2, l3, l4, l5, l6, l7, l8, some (aI x)] [s0, s1, s2, s3, s4] M S = go r 143 118 [l0, l1, l2, l3, l4, l5, l6, l7, l8, some (aI x)] [aI x, s0, s1, s2, s3, s4] M S := go_nx rfl rfl
set_option maxRecDepth 20000 in
theorem g143_118 (r : Nat) (l0 l1 l2 l3 l4 l5 l6 l7 l8 l9 : Option AV) (s0 s1 s2 s3 : AV) (x y : Int) (M : Mem) (S : Sh) : go r 143 118 [l0, l1, l2, l3, l4, l5, l6, l7, l8, l9] [aI y, aI x, s0, s1, s2, s3] M S = go r 143 119 [l0, l1, l2, l3, l4, l5, l6, l7, l8, l9] [aI (w32 (x + y)), s0, s1, s2, s3] M S := go_nx rfl rfl
set_option maxRecDepth 20000 in
theorem g143_119 (r : Nat) (l0 l1 l2 l3 l4 l5 l6 l7 l8 l9 : Option AV) (s0 s1 s2 : AV) (x : Int) (a : Nat) (M : Mem) (S : Sh) (h : S.1 a = 7) (h0 : 0 ≤ x) (h1 : x < S.2.1 a) : go r 143 119 [l0, l1, l2, l3, l4, l5, l6, l7, l8, l9] [aI x, aR a, s0, s1, s2] M S = go r 143 120 [l0, l1, l2, l3, l4, l5, l6, l7, l8, l9] [aI (M a x.toNat), s0, s1, s2] M S := go_bnd rfl ⟨h, h0, h1⟩ rfl
set_option maxRecDepth 20000 in
theorem g143_120 (r : Nat) (l0 l1 l2 l3 l4 l5 l6 l7 l8 l9 : Option AV) (s0 s1 s2 s3 : AV) (M : Mem) (S : Sh) : go r 143 120 [l0, l1, l2, l3, l4, l5, l6, l7, l8, l9] [s0, s1, s2, s3] M S = go r 143 121 [l0, l1, l2, l3, l4, l5, l6, l7, l8, l9] [aI 1, s0, s1, s2, s3] M S := go_nx rfl rfl
set_option maxRecDepth 20000 in
theorem g143_121 (r : Nat) (l0 l1 l2 l3 l4 l5 l6 l7 l8 l9 : Option AV) (s0 s1 s2 : AV) (x y : Int) (M : Mem) (S : Sh) : go r 143 121 [l0, l1, l2, l3, l4, l5, l6, l7, l8, l9] [aI y, aI x, s0, s1, s2] M S = if x ≠ y then go r 143 128 [l0, l1, l2, l3, l4, l5, l6, l7, l8, l9] [s0, s1, s2] M S else go r 143 124 [l0, l1, l2, l3, l4, l5, l6, l7, l8, l9] [s0, s1, s2] M S := go_br rfl rfl rfl rfl rfl
set_option maxRecDepth 20000 in
theorem g143_124 (r : Nat) (l0 l1 l2 l3 l4 l5 l6 l7 l8 l9 : Option AV) (s0 s1 s2 : AV) (M : Mem) (S : Sh) : go r 143 124 [l0, l1, l2, l3, l4, l5, l6, l7, l8, l9] [s0, s1, s2] M S = go r 143 125 [l0, l1, l2, l3, l4, l5, l6, l7, l8, l9] [aI 0, s0, s1, s2] M S := go_nx rfl rfl
set_option maxRecDepth 20000 in
theorem g143_125 (r : Nat) (l0 l1 l2 l3 l4 l5 l6 l7 l8 l9 : Option AV) (s0 s1 s2 s3 : AV) (M : Mem) (S : Sh) : go r 143 125 [l0, l1, l2, l3, l4, l5, l6, l7, l8, l9] [s0, s1, s2, s3] M S = go r 143 129 [l0, l1, l2, l3, l4, l5, l6, l7, l8, l9] [s0, s1, s2, s3] M S := go_nx rfl rfl
set_option maxRecDepth 20000 in
theorem g143_128 (r : Nat) (l0 l1 l2 l3 l4 l5 l6 l7 l8 l9 : Option AV) (s0 s1 s2 : AV) (M : Mem) (S : Sh) : go r 143 128 [l0, l1, l2, l3, l4, l5, l6, l7, l8, l9] [s0, s1, s2] M S = go r 143 129 [l0, l1, l2, l3, l4, l5, l6, l7, l8, l9] [aI 1, s0, s1, s2] M S := go_nx rfl rfl
set_option maxRecDepth 20000 in
theorem g143_129 (r : Nat) (l0 l1 l2 l3 l4 l5 l6 l7 l8 l9 : Option AV) (s0 s1 : AV) (x y : Int) (M : Mem) (S : Sh) : go r 143 129 [l0, l1, l2, l3, l4, l5, l6, l7, l8, l9] [aI y, aI x, s0, s1] M S = go r 143 130 [l0, l1, l2, l3, l4, l5, l6, l7, l8, l9] [aI (w32 (x + y)), s0, s1] M S := go_nx rfl rfl
set_option maxRecDepth 20000 in
theorem g143_130 (r : Nat) (l0 l1 l2 l3 l4 l5 l6 l7 l8 l9 : Option AV) (x y : Int) (a : Nat) (M : Mem) (S : Sh) (h : S.1 a = 7) (h6 : 6 ≤ a) (h0 : 0 ≤ x) (h1 : x < S.2.1 a) : go r 143 130 [l0, l1, l2, l3, l4, l5, l6, l7, l8, l9] [aI y, aI x, aR a] M S = go r 143 131 [l0, l1, l2, l3, l4, l5, l6, l7, l8, l9] [] (mset M a x.toNat y) S := go_bnd rfl ⟨h, h6, h0, h1⟩ rfl
set_option maxRecDepth 20000 in
theorem g143_131 (r : Nat) (l0 l1 l2 l3 l4 l5 l6 l7 l8 : Option AV) (x : Int) (M : Mem) (S : Sh) : go r 143 131 [l0, l1, l2, l3, l4, l5, l6, l7, l8, some (aI x)] [] M S = go r 143 134 [l0, l1, l2, l3, l4, l5, l6, l7, l8, some (aI (w32 (x + 1)))] [] M S := go_nx rfl rfl
set_option maxRecDepth 20000 in
theorem g143_134 (r : Nat) (l0 l1 l2 l3 l4 l5 l6 l7 l8 l9 : Option AV) (M : Mem) (S : Sh) : go r 143 134 [l0, l1, l2, l3, l4, l5, l6, l7, l8, l9] [] M S = go r 143 78 [l0, l1, l2, l3, l4, l5, l6, l7, l8, l9] [] M S := go_nx rfl rfl
set_option maxRecDepth 20000 in
theorem g143_137 (r : Nat) (l0 l1 l2 l3 l4 l5 l6 l7 l9 : Option AV) (x : Int) (M : Mem) (S : Sh) : go r 143 137 [l0, l1, l2, l3, l4, l5, l6, l7, some (aI x), l9] [] M S = go r 143 140 [l0, l1, l2, l3, l4, l5, l6, l7, some (aI (w32 (x + 1))), l9] [] M S := go_nx rfl rfl
set_option maxRecDepth 20000 in
theorem g143_140 (r : Nat) (l0 l1 l2 l3 l4 l5 l6 l7 l8 l9 : Option AV) (M : Mem) (S : Sh) : go r 143 140 [l0, l1, l2, l3, l4, l5, l6, l7, l8, l9] [] M S = go r 143 51 [l0, l1, l2, l3, l4, l5, l6, l7, l8, l9] [] M S := go_nx rfl rfl
set_option maxRecDepth 20000 in
theorem g143_143 (r : Nat) (l0 l1 l2 l3 l4 l5 l6 l7 l8 l9 : Option AV) (M : Mem) (S : Sh) : go r 143 143 [l0, l1, l2, l3, l4, l5, l6, l7, l8, l9] [] M S = some (none, M, S) := go_rt rfl rfl
/-- StripsFromAboveModel.click(IIIZ)V -/
theorem g144 (x1 x2 x3 x4 : Int) (a0 : Nat) (M : Mem) (S : Sh) : res 144 [aR a0, aI x1, aI x2, aI x3, aI x4] M S = go 15 144 0 [some (aR a0), some (aI x1), some (aI x2), some (aI x3), some (aI x4), none, none, none] [] M S := res_e0 rfl _ M S
theorem g144_0 (r : Nat) (l1 l2 l3 l4 l5 l6 l7 : Option AV) (a : Nat) (M : Mem) (S : Sh) : go r 144 0 [some (aR a), l1, l2, l3, l4, l5, l6, l7] [] M S = go r 144 1 [some (aR a), l1, l2, l3, l4, l5, l6, l7] [aR a] M S := go_nx rfl rfl
theorem g144_1 (r : Nat) (l0 l1 l2 l3 l4 l5 l6 l7 : Option AV) (a : Nat) (M : Mem) (S : Sh) (h : S.1 a = 6) : go r 144 1 [l0, l1, l2, l3, l4, l5, l6, l7] [aR a] M S = go r 144 4 [l0, l1, l2, l3, l4, l5, l6, l7] [aI (M a 38)] M S := go_bnd rfl h rfl
theorem g144_4 (r : Nat) (l0 l1 l2 l3 l4 l5 l6 l7 : Option AV) (x : Int) (M : Mem) (S : Sh) : go r 144 4 [l0, l1, l2, l3, l4, l5, l6, l7] [aI x] M S = go r 144 6 [l0, l1, l2, l3, l4, some (aI x), l6, l7] [] M S := go_nx rfl rfl
theorem g144_6 (r : Nat) (l1 l2 l3 l4 l5 l6 l7 : Option AV) (a : Nat) (M : Mem) (S : Sh) : go r 144 6 [some (aR a), l1, l2, l3, l4, l5, l6, l7] [] M S = go r 144 7 [some (aR a), l1, l2, l3, l4, l5, l6, l7] [aR a] M S := go_nx rfl rfl
theorem g144_7 (r : Nat) (l0 l1 l2 l3 l4 l5 l6 l7 : Option AV) (a : Nat) (M : Mem) (S : Sh) (h : S.1 a = 6) : go r 144 7 [l0, l1, l2, l3, l4, l5, l6, l7] [aR a] M S = go r 144 10 [l0, l1, l2, l3, l4, l5, l6, l7] [aI (M a 3)] M S := go_bnd rfl h rfl
theorem g144_10 (r : Nat) (l1 l2 l3 l4 l5 l6 l7 : Option AV) (s0 : AV) (a : Nat) (M : Mem) (S : Sh) : go r 144 10 [some (aR a), l1, l2, l3, l4, l5, l6, l7] [s0] M S = go r 144 11 [some (aR a), l1, l2, l3, l4, l5, l6, l7] [aR a, s0] M S := go_nx rfl rfl
theorem g144_11 (r : Nat) (l0 l1 l2 l3 l4 l5 l6 l7 : Option AV) (s0 : AV) (a : Nat) (M : Mem) (S : Sh) (h : S.1 a = 6) : go r 144 11 [l0, l1, l2, l3, l4, l5, l6, l7] [aR a, s0] M S = go r 144 14 [l0, l1, l2, l3, l4, l5, l6, l7] [aI (M a 40), s0] M S := go_bnd rfl h rfl
theorem g144_14 (r : Nat) (l0 l1 l2 l3 l4 l5 l6 l7 : Option AV) (s0 s1 : AV) (M : Mem) (S : Sh) : go r 144 14 [l0, l1, l2, l3, l4, l5, l6, l7] [s0, s1] M S = go r 144 16 [l0, l1, l2, l3, l4, l5, l6, l7] [aI 60, s0, s1] M S := go_nx rfl rfl
theorem g144_16 (r : Nat) (l0 l1 l2 l3 l4 l5 l6 l7 : Option AV) (s0 : AV) (x y : Int) (M : Mem) (S : Sh) (h : y ≠ 0) : go r 144 16 [l0, l1, l2, l3, l4, l5, l6, l7] [aI y, aI x, s0] M S = go r 144 17 [l0, l1, l2, l3, l4, l5, l6, l7] [aI (w32 (Int.tdiv x y)), s0] M S := go_bnd rfl h rfl
theorem g144_17 (r : Nat) (l0 l1 l2 l3 l4 l5 l6 l7 : Option AV) (x y : Int) (M : Mem) (S : Sh) : go r 144 17 [l0, l1, l2, l3, l4, l5, l6, l7] [aI y, aI x] M S = go r 144 18 [l0, l1, l2, l3, l4, l5, l6, l7] [aI (w32 (x + y))] M S := go_nx rfl rfl
theorem g144_18 (r : Nat) (l0 l1 l2 l3 l4 l5 l6 l7 : Option AV) (x : Int) (M : Mem) (S : Sh) : go r 144 18 [l0, l1, l2, l3, l4, l5, l6, l7] [aI x] M S = go r 144 20 [l0, l1, l2, l3, l4, l5, some (aI x), l7] [] M S := go_nx rfl rfl
theorem g144_20 (r : Nat) (l0 l1 l3 l4 l5 l6 l7 : Option AV) (x : Int) (M : Mem) (S : Sh) : go r 144 20 [l0, l1, some (aI x), l3, l4, l5, l6, l7] [] M S = go r 144 21 [l0, l1, some (aI x), l3, l4, l5, l6, l7] [aI x] M S := go_nx rfl rfl
theorem g144_21 (r : Nat) (l0 l1 l2 l3 l4 l5 l6 l7 : Option AV) (s0 : AV) (M : Mem) (S : Sh) : go r 144 21 [l0, l1, l2, l3, l4, l5, l6, l7] [s0] M S = go r 144 22 [l0, l1, l2, l3, l4, l5, l6, l7] [aI 0, s0] M S := go_nx rfl rfl
theorem g144_22 (r : Nat) (l0 l1 l2 l3 l4 l5 l6 l7 : Option AV) (s0 s1 : AV) (M : Mem) (S : Sh) : go r 144 22 [l0, l1, l2, l3, l4, l5, l6, l7] [s0, s1] M S = go r 144 24 [l0, l1, l2, l3, l4, l5, l6, l7] [aI 11, s0, s1] M S := go_nx rfl rfl
theorem g144_24 (r : Nat) (l0 l1 l2 l3 l4 l5 l6 l7 : Option AV) (x0 x1 x2 : Int) (M : Mem) (S : Sh) (hk : 10 < r) : go r 144 24 [l0, l1, l2, l3, l4, l5, l6, l7] [aI x2, aI x1, aI x0] M S = cont r 144 27 [l0, l1, l2, l3, l4, l5, l6, l7] [] 1 (res 106 [aI x0, aI x1, aI x2] M S) := go_c0 (m' := 106) (n := 3) (pc' := 27) (hr := 1) rfl rfl rfl rfl rfl rfl hk rfl
theorem g144_27 (r : Nat) (l0 l1 l2 l3 l4 l5 l6 l7 : Option AV) (x : Int) (M : Mem) (S : Sh) : go r 144 27 [l0, l1, l2, l3, l4, l5, l6, l7] [aI x] M S = if x = 0 then go r 144 40 [l0, l1, l2, l3, l4, l5, l6, l7] [] M S else go r 144 30 [l0, l1, l2, l3, l4, l5, l6, l7] [] M S := go_br rfl rfl rfl rfl rfl
theorem g144_30 (r : Nat) (l0 l1 l2 l4 l5 l6 l7 : Option AV) (x : Int) (M : Mem) (S : Sh) : go r 144 30 [l0, l1, l2, some (aI x), l4, l5, l6, l7] [] M S = go r 144 31 [l0, l1, l2, some (aI x), l4, l5, l6, l7] [aI x] M S := go_nx rfl rfl
theorem g144_31 (r : Nat) (l0 l1 l2 l3 l4 l5 l6 l7 : Option AV) (s0 : AV) (M : Mem) (S : Sh) : go r 144 31 [l0, l1, l2, l3, l4, l5, l6, l7] [s0] M S = go r 144 32 [l0, l1, l2, l3, l4, l5, l6, l7] [aI 0, s0] M S := go_nx rfl rfl
theorem g144_32 (r : Nat) (l0 l1 l2 l3 l4 l5 l6 l7 : Option AV) (s0 s1 : AV) (M : Mem) (S : Sh) : go r 144 32 [l0, l1, l2, l3, l4, l5, l6, l7] [s0, s1] M S = go r 144 34 [l0, l1, l2, l3, l4, l5, l6, l7] [aI 15, s0, s1] M S := go_nx rfl rfl
theorem g144_34 (r : Nat) (l0 l1 l2 l3 l4 l5 l6 l7 : Option AV) (x0 x1 x2 : Int) (M : Mem) (S : Sh) (hk : 10 < r) : go r 144 34 [l0, l1, l2, l3, l4, l5, l6, l7] [aI x2, aI x1, aI x0] M S = cont r 144 37 [l0, l1, l2, l3, l4, l5, l6, l7] [] 1 (res 106 [aI x0, aI x1, aI x2] M S) := go_c0 (m' := 106) (n := 3) (pc' := 37) (hr := 1) rfl rfl rfl rfl rfl rfl hk rfl
theorem g144_37 (r : Nat) (l0 l1 l2 l3 l4 l5 l6 l7 : Option AV) (x : Int) (M : Mem) (S : Sh) : go r 144 37 [l0, l1, l2, l3, l4, l5, l6, l7] [aI x] M S = if x ≠ 0 then go r 144 44 [l0, l1, l2, l3, l4, l5, l6, l7] [] M S else go r 144 40 [l0, l1, l2, l3, l4, l5, l6, l7] [] M S := go_br rfl rfl rfl rfl rfl
theorem g144_40 (r : Nat) (l0 l1 l2 l3 l4 l5 l6 l7 : Option AV) (M : Mem) (S : Sh) : go r 144 40 [l0, l1, l2, l3, l4, l5, l6, l7] [] M S = go r 144 41 [l0, l1, l2, l3, l4, l5, l6, l7] [aI 1] M S := go_nx rfl rfl
theorem g144_41 (r : Nat) (l0 l1 l2 l3 l4 l5 l6 l7 : Option AV) (s0 : AV) (M : Mem) (S : Sh) : go r 144 41 [l0, l1, l2, l3, l4, l5, l6, l7] [s0] M S = go r 144 45 [l0, l1, l2, l3, l4, l5, l6, l7] [s0] M S := go_nx rfl rfl
theorem g144_44 (r : Nat) (l0 l1 l2 l3 l4 l5 l6 l7 : Option AV) (M : Mem) (S : Sh) : go r 144 44 [l0, l1, l2, l3, l4, l5, l6, l7] [] M S = go r 144 45 [l0, l1, l2, l3, l4, l5, l6, l7] [aI 0] M S := go_nx rfl rfl
theorem g144_45 (r : Nat) (l0 l1 l2 l3 l4 l5 l6 l7 : Option AV) (x : Int) (M : Mem) (S : Sh) : go r 144 45 [l0, l1, l2, l3, l4, l5, l6, l7] [aI x] M S = go r 144 47 [l0, l1, l2, l3, l4, l5, l6, some (aI x)] [] M S := go_nx rfl rfl
theorem g144_47 (r : Nat) (l1 l2 l3 l4 l5 l6 l7 : Option AV) (a : Nat) (M : Mem) (S : Sh) : go r 144 47 [some (aR a), l1, l2, l3, l4, l5, l6, l7] [] M S = go r 144 48 [some (aR a), l1, l2, l3, l4, l5, l6, l7] [aR a] M S := go_nx rfl rfl
theorem g144_48 (r : Nat) (l0 l1 l2 l3 l4 l5 l6 l7 : Option AV) (a : Nat) (M : Mem) (S : Sh) : go r 144 48 [l0, l1, l2, l3, l4, l5, l6, l7] [aR a] M S = go r 144 49 [l0, l1, l2, l3, l4, l5, l6, l7] [aR a, aR a] M S := go_nx rfl rfl
theorem g144_49 (r : Nat) (l0 l1 l2 l3 l4 l5 l6 l7 : Option AV) (s0 : AV) (a : Nat) (M : Mem) (S : Sh) (h : S.1 a = 6) : go r 144 49 [l0, l1, l2, l3, l4, l5, l6, l7] [aR a, s0] M S = go r 144 52 [l0, l1, l2, l3, l4, l5, l6, l7] [aI (M a 38), s0] M S := go_bnd rfl h rfl
theorem g144_52 (r : Nat) (l0 l1 l2 l3 l4 l5 l6 l7 : Option AV) (s0 s1 : AV) (M : Mem) (S : Sh) : go r 144 52 [l0, l1, l2, l3, l4, l5, l6, l7] [s0, s1] M S = go r 144 53 [l0, l1, l2, l3, l4, l5, l6, l7] [aI 1, s0, s1] M S := go_nx rfl rfl
theorem g144_53 (r : Nat) (l0 l1 l2 l3 l4 l5 l6 l7 : Option AV) (s0 : AV) (x y : Int) (M : Mem) (S : Sh) : go r 144 53 [l0, l1, l2, l3, l4, l5, l6, l7] [aI y, aI x, s0] M S = go r 144 54 [l0, l1, l2, l3, l4, l5, l6, l7] [aI (w32 (x + y)), s0] M S := go_nx rfl rfl
theorem g144_54 (r : Nat) (l0 l1 l2 l3 l4 l5 l6 l7 : Option AV) (x : Int) (a : Nat) (M : Mem) (S : Sh) (h : S.1 a = 6) : go r 144 54 [l0, l1, l2, l3, l4, l5, l6, l7] [aI x, aR a] M S = go r 144 57 [l0, l1, l2, l3, l4, l5, l6, l7] [] (mset M a 38 x) S := go_bnd rfl ⟨h, fun z => absurd z (by decide)⟩ rfl
theorem g144_57 (r : Nat) (l0 l1 l2 l3 l4 l5 l6 : Option AV) (x : Int) (M : Mem) (S : Sh) : go r 144 57 [l0, l1, l2, l3, l4, l5, l6, some (aI x)] [] M S = go r 144 59 [l0, l1, l2, l3, l4, l5, l6, some (aI x)] [aI x] M S := go_nx rfl rfl
theorem g144_59 (r : Nat) (l0 l1 l2 l3 l4 l5 l6 l7 : Option AV) (x : Int) (M : Mem) (S : Sh) : go r 144 59 [l0, l1, l2, l3, l4, l5, l6, l7] [aI x] M S = if x ≠ 0 then go r 144 76 [l0, l1, l2, l3, l4, l5, l6, l7] [] M S else go r 144 62 [l0, l1, l2, l3, l4, l5, l6, l7] [] M S := go_br rfl rfl rfl rfl rfl
theorem g144_62 (r : Nat) (l0 l1 l2 l3 l4 l5 l7 : Option AV) (x : Int) (M : Mem) (S : Sh) : go r 144 62 [l0, l1, l2, l3, l4, l5, some (aI x), l7] [] M S = go r 144 64 [l0, l1, l2, l3, l4, l5, some (aI x), l7] [aI x] M S := go_nx rfl rfl
theorem g144_64 (r : Nat) (l0 l1 l2 l3 l4 l5 l6 l7 : Option AV) (s0 : AV) (M : Mem) (S : Sh) : go r 144 64 [l0, l1, l2, l3, l4, l5, l6, l7] [s0] M S = go r 144 66 [l0, l1, l2, l3, l4, l5, l6, l7] [aI 10, s0] M S := go_nx rfl rfl
theorem g144_66 (r : Nat) (l0 l1 l2 l3 l4 l5 l6 l7 : Option AV) (x y : Int) (M : Mem) (S : Sh) : go r 144 66 [l0, l1, l2, l3, l4, l5, l6, l7] [aI y, aI x] M S = if x < y then go r 144 76 [l0, l1, l2, l3, l4, l5, l6, l7] [] M S else go r 144 69 [l0, l1, l2, l3, l4, l5, l6, l7] [] M S := go_br rfl rfl rfl rfl rfl
theorem g144_69 (r : Nat) (l0 l1 l2 l3 l4 l5 l7 : Option AV) (x : Int) (M : Mem) (S : Sh) : go r 144 69 [l0, l1, l2, l3, l4, l5, some (aI x), l7] [] M S = go r 144 71 [l0, l1, l2, l3, l4, l5, some (aI x), l7] [aI x] M S := go_nx rfl rfl
theorem g144_71 (r : Nat) (l0 l1 l2 l3 l4 l5 l6 l7 : Option AV) (s0 : AV) (M : Mem) (S : Sh) : go r 144 71 [l0, l1, l2, l3, l4, l5, l6, l7] [s0] M S = go r 144 73 [l0, l1, l2, l3, l4, l5, l6, l7] [aI 14, s0] M S := go_nx rfl rfl
theorem g144_73 (r : Nat) (l0 l1 l2 l3 l4 l5 l6 l7 : Option AV) (x y : Int) (M : Mem) (S : Sh) : go r 144 73 [l0, l1, l2, l3, l4, l5, l6, l7] [aI y, aI x] M S = if x < y then go r 144 89 [l0, l1, l2, l3, l4, l5, l6, l7] [] M S else go r 144 76 [l0, l1, l2, l3, l4, l5, l6, l7] [] M S := go_br rfl rfl rfl rfl rfl
theorem g144_76 (r : Nat) (l1 l2 l3 l4 l5 l6 l7 : Option AV) (a : Nat) (M : Mem) (S : Sh) : go r 144 76 [some (aR a), l1, l2, l3, l4, l5, l6, l7] [] M S = go r 144 77 [some (aR a), l1, l2, l3, l4, l5, l6, l7] [aR a] M S := go_nx rfl rfl
theorem g144_77 (r : Nat) (l0 l1 l2 l3 l4 l5 l6 l7 : Option AV) (a : Nat) (M : Mem) (S : Sh) : go r 144 77 [l0, l1, l2, l3, l4, l5, l6, l7] [aR a] M S = go r 144 78 [l0, l1, l2, l3, l4, l5, l6, l7] [aR a, aR a] M S := go_nx rfl rfl
theorem g144_78 (r : Nat) (l0 l1 l2 l3 l4 l5 l6 l7 : Option AV) (s0 : AV) (a : Nat) (M : Mem) (S : Sh) (h : S.1 a = 6) : go r 144 78 [l0, l1, l2, l3, l4, l5, l6, l7] [aR a, s0] M S = go r 144 81 [l0, l1, l2, l3, l4, l5, l6, l7] [aI (M a 39), s0] M S := go_bnd rfl h rfl
theorem g144_81 (r : Nat) (l0 l1 l2 l3 l4 l5 l6 l7 : Option AV) (s0 s1 : AV) (M : Mem) (S : Sh) : go r 144 81 [l0, l1, l2, l3, l4, l5, l6, l7] [s0, s1] M S = go r 144 82 [l0, l1, l2, l3, l4, l5, l6, l7] [aI 1, s0, s1] M S := go_nx rfl rfl
theorem g144_82 (r : Nat) (l0 l1 l2 l3 l4 l5 l6 l7 : Option AV) (s0 : AV) (x y : Int) (M : Mem) (S : Sh) : go r 144 82 [l0, l1, l2, l3, l4, l5, l6, l7] [aI y, aI x, s0] M S = go r 144 83 [l0, l1, l2, l3, l4, l5, l6, l7] [aI (w32 (x + y)), s0] M S := go_nx rfl rfl
theorem g144_83 (r : Nat) (l0 l1 l2 l3 l4 l5 l6 l7 : Option AV) (x : Int) (a : Nat) (M : Mem) (S : Sh) (h : S.1 a = 6) : go r 144 83 [l0, l1, l2, l3, l4, l5, l6, l7] [aI x, aR a] M S = go r 144 86 [l0, l1, l2, l3, l4, l5, l6, l7] [] (mset M a 39 x) S := go_bnd rfl ⟨h, fun z => absurd z (by decide)⟩ rfl
theorem g144_86 (r : Nat) (l0 l1 l2 l3 l4 l5 l6 l7 : Option AV) (M : Mem) (S : Sh) : go r 144 86 [l0, l1, l2, l3, l4, l5, l6, l7] [] M S = go r 144 135 [l0, l1, l2, l3, l4, l5, l6, l7] [] M S := go_nx rfl rfl
theorem g144_89 (r : Nat) (l0 l1 l2 l3 l4 l6 l7 : Option AV) (x : Int) (M : Mem) (S : Sh) : go r 144 89 [l0, l1, l2, l3, l4, some (aI x), l6, l7] [] M S = go r 144 91 [l0, l1, l2, l3, l4, some (aI x), l6, l7] [aI x] M S := go_nx rfl rfl
theorem g144_91 (r : Nat) (l0 l1 l2 l3 l4 l5 l6 l7 : Option AV) (s0 : AV) (M : Mem) (S : Sh) : go r 144 91 [l0, l1, l2, l3, l4, l5, l6, l7] [s0] M S = go r 144 93 [l0, l1, l2, l3, l4, l5, l6, l7] [aI 100, s0] M S := go_nx rfl rfl
theorem g144_93 (r : Nat) (l0 l1 l2 l3 l4 l5 l6 l7 : Option AV) (x y : Int) (M : Mem) (S : Sh) (h : y ≠ 0) : go r 144 93 [l0, l1, l2, l3, l4, l5, l6, l7] [aI y, aI x] M S = go r 144 94 [l0, l1, l2, l3, l4, l5, l6, l7] [aI (w32 (Int.tmod x y))] M S := go_bnd rfl h rfl
theorem g144_94 (r : Nat) (l1 l2 l3 l4 l5 l6 l7 : Option AV) (s0 : AV) (a : Nat) (M : Mem) (S : Sh) : go r 144 94 [some (aR a), l1, l2, l3, l4, l5, l6, l7] [s0] M S = go r 144 95 [some (aR a), l1, l2, l3, l4, l5, l6, l7] [aR a, s0] M S := go_nx rfl rfl
theorem g144_95 (r : Nat) (l0 l1 l2 l3 l4 l5 l6 l7 : Option AV) (s0 s1 : AV) (M : Mem) (S : Sh) : go r 144 95 [l0, l1, l2, l3, l4, l5, l6, l7] [s0, s1] M S = go r 144 96 [l0, l1, l2, l3, l4, l5, l6, l7] [aI 2, s0, s1] M S := go_nx rfl rfl
theorem g144_96 (r : Nat) (l0 l2 l3 l4 l5 l6 l7 : Option AV) (s0 s1 s2 : AV) (x : Int) (M : Mem) (S : Sh) : go r 144 96 [l0, some (aI x), l2, l3, l4, l5, l6, l7] [s0, s1, s2] M S = go r 144 97 [l0, some (aI x), l2, l3, l4, l5, l6, l7] [aI x, s0, s1, s2] M S := go_nx rfl rfl
theorem g144_97 (r : Nat) (l0 l1 l2 l3 l4 l5 l6 l7 : Option AV) (s0 s1 s2 s3 : AV) (M : Mem) (S : Sh) : go r 144 97 [l0, l1, l2, l3, l4, l5, l6, l7] [s0, s1, s2, s3] M S = go r 144 99 [l0, l1, l2, l3, l4, l5, l6, l7] [aI 12, s0, s1, s2, s3] M S := go_nx rfl rfl
theorem g144_99 (r : Nat) (l0 l1 l2 l4 l5 l6 l7 : Option AV) (s0 s1 s2 s3 s4 : AV) (x : Int) (M : Mem) (S : Sh) : go r 144 99 [l0, l1, l2, some (aI x), l4, l5, l6, l7] [s0, s1, s2, s3, s4] M S = go r 144 100 [l0, l1, l2, some (aI x), l4, l5, l6, l7] [aI x, s0, s1, s2, s3, s4] M S := go_nx rfl rfl
theorem g144_100 (r : Nat) (l0 l1 l2 l3 l4 l5 l6 l7 : Option AV) (s0 s1 s2 s3 : AV) (x y : Int) (M : Mem) (S : Sh) : go r 144 100 [l0, l1, l2, l3, l4, l5, l6, l7] [aI y, aI x, s0, s1, s2, s3] M S = go r 144 101 [l0, l1, l2, l3, l4, l5, l6, l7] [aI (w32 (x * y)), s0, s1, s2, s3] M S := go_nx rfl rfl
theorem g144_101 (r : Nat) (l0 l1 l3 l4 l5 l6 l7 : Option AV) (s0 s1 s2 s3 s4 : AV) (x : Int) (M : Mem) (S : Sh) : go r 144 101 [l0, l1, some (aI x), l3, l4, l5, l6, l7] [s0, s1, s2, s3, s4] M S = go r 144 102 [l0, l1, some (aI x), l3, l4, l5, l6, l7] [aI x, s0, s1, s2, s3, s4] M S := go_nx rfl rfl
theorem g144_102 (r : Nat) (l0 l1 l2 l3 l4 l5 l6 l7 : Option AV) (s0 s1 s2 s3 : AV) (x y : Int) (M : Mem) (S : Sh) : go r 144 102 [l0, l1, l2, l3, l4, l5, l6, l7] [aI y, aI x, s0, s1, s2, s3] M S = go r 144 103 [l0, l1, l2, l3, l4, l5, l6, l7] [aI (w32 (x + y)), s0, s1, s2, s3] M S := go_nx rfl rfl
theorem g144_103 (r : Nat) (l1 l2 l3 l4 l5 l6 l7 : Option AV) (s0 s1 s2 s3 s4 : AV) (a : Nat) (M : Mem) (S : Sh) : go r 144 103 [some (aR a), l1, l2, l3, l4, l5, l6, l7] [s0, s1, s2, s3, s4] M S = go r 144 104 [some (aR a), l1, l2, l3, l4, l5, l6, l7] [aR a, s0, s1, s2, s3, s4] M S := go_nx rfl rfl
theorem g144_104 (r : Nat) (l0 l1 l2 l3 l4 l5 l6 l7 : Option AV) (s0 s1 s2 s3 s4 : AV) (a : Nat) (M : Mem) (S : Sh) (h : S.1 a = 6) : go r 144 104 [l0, l1, l2, l3, l4, l5, l6, l7] [aR a, s0, s1, s2, s3, s4] M S = go r 144 107 [l0, l1, l2, l3, l4, l5, l6, l7] [aI (M a 38), s0, s1, s2, s3, s4] M S := go_bnd rfl h rfl
theorem g144_107 (r : Nat) (l0 l1 l2 l3 l4 l5 l6 l7 : Option AV) (s0 : AV) (x1 x2 x3 x4 : Int) (a0 : Nat) (M : Mem) (S : Sh) (hk : 12 < r) (h : S.1 a0 = 6) : go r 144 107 [l0, l1, l2, l3, l4, l5, l6, l7] [aI x4, aI x3, aI x2, aI x1, aR a0, s0] M S = cont r 144 110 [l0, l1, l2, l3, l4, l5, l6, l7] [s0] 1 (res 130 [aR a0, aI x1, aI x2, aI x3, aI x4] M S) := go_cr0 (m' := 130) (n := 5) (pc' := 110) (hr := 1) rfl rfl rfl h rfl rfl rfl rfl hk rfl
theorem g144_110 (r : Nat) (l0 l1 l2 l3 l4 l5 l6 l7 : Option AV) (x y : Int) (M : Mem) (S : Sh) : go r 144 110 [l0, l1, l2, l3, l4, l5, l6, l7] [aI y, aI x] M S = if x ≥ y then go r 144 126 [l0, l1, l2, l3, l4, l5, l6, l7] [] M S else go r 144 113 [l0, l1, l2, l3, l4, l5, l6, l7] [] M S := go_br rfl rfl rfl rfl rfl
set_option maxRecDepth 20000 in
theorem g144_113 (r : Nat) (l1 l2 l3 l4 l5 l6 l7 : Option AV) (a : Nat) (M : Mem) (S : Sh) : go r 144 113 [some (aR a), l1, l2, l3, l4, l5, l6, l7] [] M S = go r 144 114 [some (aR a), l1, l2, l3, l4, l5, l6, l7] [aR a] M S := go_nx rfl rfl
set_option maxRecDepth 20000 in
theorem g144_114 (r : Nat) (l0 l1 l2 l3 l4 l5 l6 l7 : Option AV) (a : Nat) (M : Mem) (S : Sh) : go r 144 114 [l0, l1, l2, l3, l4, l5, l6, l7] [aR a] M S = go r 144 115 [l0, l1, l2, l3, l4, l5, l6, l7] [aR a, aR a] M S := go_nx rfl rfl
set_option maxRecDepth 20000 in
theorem g144_115 (r : Nat) (l0 l1 l2 l3 l4 l5 l6 l7 : Option AV) (s0 : AV) (a : Nat) (M : Mem) (S : Sh) (h : S.1 a = 6) : go r 144 115 [l0, l1, l2, l3, l4, l5, l6, l7] [aR a, s0] M S = go r 144 118 [l0, l1, l2, l3, l4, l5, l6, l7] [aI (M a 39), s0] M S := go_bnd rfl h rfl
set_option maxRecDepth 20000 in
theorem g144_118 (r : Nat) (l0 l1 l2 l3 l4 l5 l6 l7 : Option AV) (s0 s1 : AV) (M : Mem) (S : Sh) : go r 144 118 [l0, l1, l2, l3, l4, l5, l6, l7] [s0, s1] M S = go r 144 119 [l0, l1, l2, l3, l4, l5, l6, l7] [aI 1, s0, s1] M S := go_nx rfl rfl
set_option maxRecDepth 20000 in
theorem g144_119 (r : Nat) (l0 l1 l2 l3 l4 l5 l6 l7 : Option AV) (s0 : AV) (x y : Int) (M : Mem) (S : Sh) : go r 144 119 [l0, l1, l2, l3, l4, l5, l6, l7] [aI y, aI x, s0] M S = go r 144 120 [l0, l1, l2, l3, l4, l5, l6, l7] [aI (w32 (x + y)), s0] M S := go_nx rfl rfl
set_option maxRecDepth 20000 in
theorem g144_120 (r : Nat) (l0 l1 l2 l3 l4 l5 l6 l7 : Option AV) (x : Int) (a : Nat) (M : Mem) (S : Sh) (h : S.1 a = 6) : go r 144 120 [l0, l1, l2, l3, l4, l5, l6, l7] [aI x, aR a] M S = go r 144 123 [l0, l1, l2, l3, l4, l5, l6, l7] [] (mset M a 39 x) S := go_bnd rfl ⟨h, fun z => absurd z (by decide)⟩ rfl
set_option maxRecDepth 20000 in
theorem g144_123 (r : Nat) (l0 l1 l2 l3 l4 l5 l6 l7 : Option AV) (M : Mem) (S : Sh) : go r 144 123 [l0, l1, l2, l3, l4, l5, l6, l7] [] M S = go r 144 135 [l0, l1, l2, l3, l4, l5, l6, l7] [] M S := go_nx rfl rfl
set_option maxRecDepth 20000 in
theorem g144_126 (r : Nat) (l1 l2 l3 l4 l5 l6 l7 : Option AV) (a : Nat) (M : Mem) (S : Sh) : go r 144 126 [some (aR a), l1, l2, l3, l4, l5, l6, l7] [] M S = go r 144 127 [some (aR a), l1, l2, l3, l4, l5, l6, l7] [aR a] M S := go_nx rfl rfl
set_option maxRecDepth 20000 in
theorem g144_127 (r : Nat) (l0 l2 l3 l4 l5 l6 l7 : Option AV) (s0 : AV) (x : Int) (M : Mem) (S : Sh) : go r 144 127 [l0, some (aI x), l2, l3, l4, l5, l6, l7] [s0] M S = go r 144 128 [l0, some (aI x), l2, l3, l4, l5, l6, l7] [aI x, s0] M S := go_nx rfl rfl
set_option maxRecDepth 20000 in
theorem g144_128 (r : Nat) (l0 l1 l3 l4 l5 l6 l7 : Option AV) (s0 s1 : AV) (x : Int) (M : Mem) (S : Sh) : go r 144 128 [l0, l1, some (aI x), l3, l4, l5, l6, l7] [s0, s1] M S = go r 144 129 [l0, l1, some (aI x), l3, l4, l5, l6, l7] [aI x, s0, s1] M S := go_nx rfl rfl
set_option maxRecDepth 20000 in
theorem g144_129 (r : Nat) (l0 l1 l2 l4 l5 l6 l7 : Option AV) (s0 s1 s2 : AV) (x : Int) (M : Mem) (S : Sh) : go r 144 129 [l0, l1, l2, some (aI x), l4, l5, l6, l7] [s0, s1, s2] M S = go r 144 130 [l0, l1, l2, some (aI x), l4, l5, l6, l7] [aI x, s0, s1, s2] M S := go_nx rfl rfl
set_option maxRecDepth 20000 in
theorem g144_130 (r : Nat) (l0 l1 l2 l3 l5 l6 l7 : Option AV) (s0 s1 s2 s3 : AV) (x : Int) (M : Mem) (S : Sh) : go r 144 130 [l0, l1, l2, l3, some (aI x), l5, l6, l7] [s0, s1, s2, s3] M S = go r 144 132 [l0, l1, l2, l3, some (aI x), l5, l6, l7] [aI x, s0, s1, s2, s3] M S := go_nx rfl rfl
set_option maxRecDepth 20000 in
theorem g144_132 (r : Nat) (l0 l1 l2 l3 l4 l5 l6 l7 : Option AV) (x1 x2 x3 x4 : Int) (a0 : Nat) (M : Mem) (S : Sh) (hk : 14 < r) (h : S.1 a0 = 6) : go r 144 132 [l0, l1, l2, l3, l4, l5, l6, l7] [aI x4, aI x3, aI x2, aI x1, aR a0] M S = cont r 144 135 [l0, l1, l2, l3, l4, l5, l6, l7] [] 0 (res 143 [aR a0, aI x1, aI x2, aI x3, aI x4] M S) := go_cr0 (m' := 143) (n := 5) (pc' := 135) (hr := 0) rfl rfl rfl h rfl rfl rfl rfl hk rfl
set_option maxRecDepth 20000 in
theorem g144_135 (r : Nat) (l0 l1 l2 l3 l4 l5 l6 l7 : Option AV) (M : Mem) (S : Sh) : go r 144 135 [l0, l1, l2, l3, l4, l5, l6, l7] [] M S = some (none, M, S) := go_rt rfl rfl
/-- StripsFromAboveModel.stripOf(III)V -/
theorem g145 (x1 x2 x3 : Int) (a0 : Nat) (M : Mem) (S : Sh) : res 145 [aR a0, aI x1, aI x2, aI x3] M S = go 16 145 0 [some (aR a0), some (aI x1), some (aI x2), some (aI x3), none, none, none, none, none, none, none] [] M S := res_e0 rfl _ M S
theorem g145_0 (r : Nat) (l0 l1 l3 l4 l5 l6 l7 l8 l9 l10 : Option AV) (x : Int) (M : Mem) (S : Sh) : go r 145 0 [l0, l1, some (aI x), l3, l4, l5, l6, l7, l8, l9, l10] [] M S = go r 145 1 [l0, l1, some (aI x), l3, l4, l5, l6, l7, l8, l9, l10] [aI x] M S := go_nx rfl rfl
theorem g145_1 (r : Nat) (l0 l1 l2 l3 l4 l5 l6 l7 l8 l9 l10 : Option AV) (s0 : AV) (M : Mem) (S : Sh) : go r 145 1 [l0, l1, l2, l3, l4, l5, l6, l7, l8, l9, l10] [s0] M S = go r 145 2 [l0, l1, l2, l3, l4, l5, l6, l7, l8, l9, l10] [aI 2, s0] M S := go_nx rfl rfl
theorem g145_2 (r : Nat) (l0 l1 l2 l3 l4 l5 l6 l7 l8 l9 l10 : Option AV) (x y : Int) (M : Mem) (S : Sh) : go r 145 2 [l0, l1, l2, l3, l4, l5, l6, l7, l8, l9, l10] [aI y, aI x] M S = if x ≥ y then go r 145 9 [l0, l1, l2, l3, l4, l5, l6, l7, l8, l9, l10] [] M S else go r 145 5 [l0, l1, l2, l3, l4, l5, l6, l7, l8, l9, l10] [] M S := go_br rfl rfl rfl rfl rfl
theorem g145_5 (r : Nat) (l0 l1 l2 l3 l4 l5 l6 l7 l8 l9 l10 : Option AV) (M : Mem) (S : Sh) : go r 145 5 [l0, l1, l2, l3, l4, l5, l6, l7, l8, l9, l10] [] M S = go r 145 6 [l0, l1, l2, l3, l4, l5, l6, l7, l8, l9, l10] [aI 1] M S := go_nx rfl rfl
theorem g145_6 (r : Nat) (l0 l1 l2 l3 l4 l5 l6 l7 l8 l9 l10 : Option AV) (s0 : AV) (M : Mem) (S : Sh) : go r 145 6 [l0, l1, l2, l3, l4, l5, l6, l7, l8, l9, l10] [s0] M S = go r 145 10 [l0, l1, l2, l3, l4, l5, l6, l7, l8, l9, l10] [s0] M S := go_nx rfl rfl
theorem g145_9 (r : Nat) (l0 l1 l2 l3 l4 l5 l6 l7 l8 l9 l10 : Option AV) (M : Mem) (S : Sh) : go r 145 9 [l0, l1, l2, l3, l4, l5, l6, l7, l8, l9, l10] [] M S = go r 145 10 [l0, l1, l2, l3, l4, l5, l6, l7, l8, l9, l10] [aI 0] M S := go_nx rfl rfl
theorem g145_10 (r : Nat) (l0 l1 l2 l3 l4 l5 l6 l7 l8 l9 l10 : Option AV) (x : Int) (M : Mem) (S : Sh) : go r 145 10 [l0, l1, l2, l3, l4, l5, l6, l7, l8, l9, l10] [aI x] M S = go r 145 12 [l0, l1, l2, l3, some (aI x), l5, l6, l7, l8, l9, l10] [] M S := go_nx rfl rfl
theorem g145_12 (r : Nat) (l0 l1 l2 l3 l5 l6 l7 l8 l9 l10 : Option AV) (x : Int) (M : Mem) (S : Sh) : go r 145 12 [l0, l1, l2, l3, some (aI x), l5, l6, l7, l8, l9, l10] [] M S = go r 145 14 [l0, l1, l2, l3, some (aI x), l5, l6, l7, l8, l9, l10] [aI x] M S := go_nx rfl rfl
theorem g145_14 (r : Nat) (l0 l1 l2 l3 l4 l5 l6 l7 l8 l9 l10 : Option AV) (x : Int) (M : Mem) (S : Sh) : go r 145 14 [l0, l1, l2, l3, l4, l5, l6, l7, l8, l9, l10] [aI x] M S = if x = 0 then go r 145 22 [l0, l1, l2, l3, l4, l5, l6, l7, l8, l9, l10] [] M S else go r 145 17 [l0, l1, l2, l3, l4, l5, l6, l7, l8, l9, l10] [] M S := go_br rfl rfl rfl rfl rfl
theorem g145_17 (r : Nat) (l0 l1 l2 l3 l4 l5 l6 l7 l8 l9 l10 : Option AV) (M : Mem) (S : Sh) : go r 145 17 [l0, l1, l2, l3, l4, l5, l6, l7, l8, l9, l10] [] M S = go r 145 19 [l0, l1, l2, l3, l4, l5, l6, l7, l8, l9, l10] [aI 16] M S := go_nx rfl rfl
theorem g145_19 (r : Nat) (l0 l1 l2 l3 l4 l5 l6 l7 l8 l9 l10 : Option AV) (s0 : AV) (M : Mem) (S : Sh) : go r 145 19 [l0, l1, l2, l3, l4, l5, l6, l7, l8, l9, l10] [s0] M S = go r 145 24 [l0, l1, l2, l3, l4, l5, l6, l7, l8, l9, l10] [s0] M S := go_nx rfl rfl
theorem g145_22 (r : Nat) (l0 l1 l2 l3 l4 l5 l6 l7 l8 l9 l10 : Option AV) (M : Mem) (S : Sh) : go r 145 22 [l0, l1, l2, l3, l4, l5, l6, l7, l8, l9, l10] [] M S = go r 145 24 [l0, l1, l2, l3, l4, l5, l6, l7, l8, l9, l10] [aI 12] M S := go_nx rfl rfl
theorem g145_24 (r : Nat) (l0 l1 l2 l3 l4 l5 l6 l7 l8 l9 l10 : Option AV) (x : Int) (M : Mem) (S : Sh) : go r 145 24 [l0, l1, l2, l3, l4, l5, l6, l7, l8, l9, l10] [aI x] M S = go r 145 26 [l0, l1, l2, l3, l4, some (aI x), l6, l7, l8, l9, l10] [] M S := go_nx rfl rfl
theorem g145_26 (r : Nat) (l0 l1 l3 l4 l5 l6 l7 l8 l9 l10 : Option AV) (x : Int) (M : Mem) (S : Sh) : go r 145 26 [l0, l1, some (aI x), l3, l4, l5, l6, l7, l8, l9, l10] [] M S = go r 145 27 [l0, l1, some (aI x), l3, l4, l5, l6, l7, l8, l9, l10] [aI x] M S := go_nx rfl rfl
theorem g145_27 (r : Nat) (l0 l1 l2 l3 l4 l5 l6 l7 l8 l9 l10 : Option AV) (s0 : AV) (M : Mem) (S : Sh) : go r 145 27 [l0, l1, l2, l3, l4, l5, l6, l7, l8, l9, l10] [s0] M S = go r 145 28 [l0, l1, l2, l3, l4, l5, l6, l7, l8, l9, l10] [aI 2, s0] M S := go_nx rfl rfl
theorem g145_28 (r : Nat) (l0 l1 l2 l3 l4 l5 l6 l7 l8 l9 l10 : Option AV) (x y : Int) (M : Mem) (S : Sh) (h : y ≠ 0) : go r 145 28 [l0, l1, l2, l3, l4, l5, l6, l7, l8, l9, l10] [aI y, aI x] M S = go r 145 29 [l0, l1, l2, l3, l4, l5, l6, l7, l8, l9, l10] [aI (w32 (Int.tmod x y))] M S := go_bnd rfl h rfl
theorem g145_29 (r : Nat) (l0 l1 l2 l3 l4 l5 l6 l7 l8 l9 l10 : Option AV) (x : Int) (M : Mem) (S : Sh) : go r 145 29 [l0, l1, l2, l3, l4, l5, l6, l7, l8, l9, l10] [aI x] M S = if x ≠ 0 then go r 145 36 [l0, l1, l2, l3, l4, l5, l6, l7, l8, l9, l10] [] M S else go r 145 32 [l0, l1, l2, l3, l4, l5, l6, l7, l8, l9, l10] [] M S := go_br rfl rfl rfl rfl rfl
theorem g145_32 (r : Nat) (l0 l1 l2 l3 l4 l5 l6 l7 l8 l9 l10 : Option AV) (M : Mem) (S : Sh) : go r 145 32 [l0, l1, l2, l3, l4, l5, l6, l7, l8, l9, l10] [] M S = go r 145 33 [l0, l1, l2, l3, l4, l5, l6, l7, l8, l9, l10] [aI 0] M S := go_nx rfl rfl
theorem g145_33 (r : Nat) (l0 l1 l2 l3 l4 l5 l6 l7 l8 l9 l10 : Option AV) (s0 : AV) (M : Mem) (S : Sh) : go r 145 33 [l0, l1, l2, l3, l4, l5, l6, l7, l8, l9, l10] [s0] M S = go r 145 40 [l0, l1, l2, l3, l4, l5, l6, l7, l8, l9, l10] [s0] M S := go_nx rfl rfl
theorem g145_36 (r : Nat) (l0 l1 l2 l3 l4 l6 l7 l8 l9 l10 : Option AV) (x : Int) (M : Mem) (S : Sh) : go r 145 36 [l0, l1, l2, l3, l4, some (aI x), l6, l7, l8, l9, l10] [] M S = go r 145 38 [l0, l1, l2, l3, l4, some (aI x), l6, l7, l8, l9, l10] [aI x] M S := go_nx rfl rfl
theorem g145_38 (r : Nat) (l0 l1 l2 l3 l4 l5 l6 l7 l8 l9 l10 : Option AV) (s0 : AV) (M : Mem) (S : Sh) : go r 145 38 [l0, l1, l2, l3, l4, l5, l6, l7, l8, l9, l10] [s0] M S = go r 145 39 [l0, l1, l2, l3, l4, l5, l6, l7, l8, l9, l10] [aI 1, s0] M S := go_nx rfl rfl
theorem g145_39 (r : Nat) (l0 l1 l2 l3 l4 l5 l6 l7 l8 l9 l10 : Option AV) (x y : Int) (M : Mem) (S : Sh) : go r 145 39 [l0, l1, l2, l3, l4, l5, l6, l7, l8, l9, l10] [aI y, aI x] M S = go r 145 40 [l0, l1, l2, l3, l4, l5, l6, l7, l8, l9, l10] [aI (w32 (x - y))] M S := go_nx rfl rfl
theorem g145_40 (r : Nat) (l0 l1 l2 l3 l4 l5 l6 l7 l8 l9 l10 : Option AV) (x : Int) (M : Mem) (S : Sh) : go r 145 40 [l0, l1, l2, l3, l4, l5, l6, l7, l8, l9, l10] [aI x] M S = go r 145 42 [l0, l1, l2, l3, l4, l5, some (aI x), l7, l8, l9, l10] [] M S := go_nx rfl rfl
theorem g145_42 (r : Nat) (l1 l2 l3 l4 l5 l6 l7 l8 l9 l10 : Option AV) (a : Nat) (M : Mem) (S : Sh) : go r 145 42 [some (aR a), l1, l2, l3, l4, l5, l6, l7, l8, l9, l10] [] M S = go r 145 43 [some (aR a), l1, l2, l3, l4, l5, l6, l7, l8, l9, l10] [aR a] M S := go_nx rfl rfl
theorem g145_43 (r : Nat) (l0 l2 l3 l4 l5 l6 l7 l8 l9 l10 : Option AV) (s0 : AV) (x : Int) (M : Mem) (S : Sh) : go r 145 43 [l0, some (aI x), l2, l3, l4, l5, l6, l7, l8, l9, l10] [s0] M S = go r 145 44 [l0, some (aI x), l2, l3, l4, l5, l6, l7, l8, l9, l10] [aI x, s0] M S := go_nx rfl rfl
theorem g145_44 (r : Nat) (l0 l1 l2 l3 l5 l6 l7 l8 l9 l10 : Option AV) (s0 s1 : AV) (x : Int) (M : Mem) (S : Sh) : go r 145 44 [l0, l1, l2, l3, some (aI x), l5, l6, l7, l8, l9, l10] [s0, s1] M S = go r 145 46 [l0, l1, l2, l3, some (aI x), l5, l6, l7, l8, l9, l10] [aI x, s0, s1] M S := go_nx rfl rfl
theorem g145_46 (r : Nat) (l0 l1 l2 l3 l4 l5 l6 l7 l8 l9 l10 : Option AV) (s0 s1 : AV) (x : Int) (M : Mem) (S : Sh) : go r 145 46 [l0, l1, l2, l3, l4, l5, l6, l7, l8, l9, l10] [aI x, s0, s1] M S = if x = 0 then go r 145 59 [l0, l1, l2, l3, l4, l5, l6, l7, l8, l9, l10] [s0, s1] M S else go r 145 49 [l0, l1, l2, l3, l4, l5, l6, l7, l8, l9, l10] [s0, s1] M S := go_br rfl rfl rfl rfl rfl
theorem g145_49 (r : Nat) (l0 l1 l2 l3 l4 l5 l6 l7 l8 l9 l10 : Option AV) (s0 s1 : AV) (M : Mem) (S : Sh) : go r 145 49 [l0, l1, l2, l3, l4, l5, l6, l7, l8, l9, l10] [s0, s1] M S = go r 145 51 [l0, l1, l2, l3, l4, l5, l6, l7, l8, l9, l10] [aI 12, s0, s1] M S := go_nx rfl rfl
theorem g145_51 (r : Nat) (l0 l1 l2 l3 l4 l5 l7 l8 l9 l10 : Option AV) (s0 s1 s2 : AV) (x : Int) (M : Mem) (S : Sh) : go r 145 51 [l0, l1, l2, l3, l4, l5, some (aI x), l7, l8, l9, l10] [s0, s1, s2] M S = go r 145 53 [l0, l1, l2, l3, l4, l5, some (aI x), l7, l8, l9, l10] [aI x, s0, s1, s2] M S := go_nx rfl rfl
theorem g145_53 (r : Nat) (l0 l1 l2 l3 l4 l5 l6 l7 l8 l9 l10 : Option AV) (s0 s1 : AV) (x y : Int) (M : Mem) (S : Sh) : go r 145 53 [l0, l1, l2, l3, l4, l5, l6, l7, l8, l9, l10] [aI y, aI x, s0, s1] M S = go r 145 54 [l0, l1, l2, l3, l4, l5, l6, l7, l8, l9, l10] [aI (w32 (x * y)), s0, s1] M S := go_nx rfl rfl
theorem g145_54 (r : Nat) (l0 l1 l2 l4 l5 l6 l7 l8 l9 l10 : Option AV) (s0 s1 s2 : AV) (x : Int) (M : Mem) (S : Sh) : go r 145 54 [l0, l1, l2, some (aI x), l4, l5, l6, l7, l8, l9, l10] [s0, s1, s2] M S = go r 145 55 [l0, l1, l2, some (aI x), l4, l5, l6, l7, l8, l9, l10] [aI x, s0, s1, s2] M S := go_nx rfl rfl
theorem g145_55 (r : Nat) (l0 l1 l2 l3 l4 l5 l6 l7 l8 l9 l10 : Option AV) (s0 s1 : AV) (x y : Int) (M : Mem) (S : Sh) : go r 145 55 [l0, l1, l2, l3, l4, l5, l6, l7, l8, l9, l10] [aI y, aI x, s0, s1] M S = go r 145 56 [l0, l1, l2, l3, l4, l5, l6, l7, l8, l9, l10] [aI (w32 (x + y)), s0, s1] M S := go_nx rfl rfl
theorem g145_56 (r : Nat) (l0 l1 l2 l3 l4 l5 l6 l7 l8 l9 l10 : Option AV) (s0 s1 s2 : AV) (M : Mem) (S : Sh) : go r 145 56 [l0, l1, l2, l3, l4, l5, l6, l7, l8, l9, l10] [s0, s1, s2] M S = go r 145 66 [l0, l1, l2, l3, l4, l5, l6, l7, l8, l9, l10] [s0, s1, s2] M S := go_nx rfl rfl
theorem g145_59 (r : Nat) (l0 l1 l2 l3 l4 l5 l6 l7 l8 l9 l10 : Option AV) (s0 s1 : AV) (M : Mem) (S : Sh) : go r 145 59 [l0, l1, l2, l3, l4, l5, l6, l7, l8, l9, l10] [s0, s1] M S = go r 145 61 [l0, l1, l2, l3, l4, l5, l6, l7, l8, l9, l10] [aI 12, s0, s1] M S := go_nx rfl rfl
theorem g145_61 (r : Nat) (l0 l1 l2 l4 l5 l6 l7 l8 l9 l10 : Option AV) (s0 s1 s2 : AV) (x : Int) (M : Mem) (S : Sh) : go r 145 61 [l0, l1, l2, some (aI x), l4, l5, l6, l7, l8, l9, l10] [s0, s1, s2] M S = go r 145 62 [l0, l1, l2, some (aI x), l4, l5, l6, l7, l8, l9, l10] [aI x, s0, s1, s2] M S := go_nx rfl rfl
theorem g145_62 (r : Nat) (l0 l1 l2 l3 l4 l5 l6 l7 l8 l9 l10 : Option AV) (s0 s1 : AV) (x y : Int) (M : Mem) (S : Sh) : go r 145 62 [l0, l1, l2, l3, l4, l5, l6, l7, l8, l9, l10] [aI y, aI x, s0, s1] M S = go r 145 63 [l0, l1, l2, l3, l4, l5, l6, l7, l8, l9, l10] [aI (w32 (x * y)), s0, s1] M S := go_nx rfl rfl
theorem g145_63 (r : Nat) (l0 l1 l2 l3 l4 l5 l7 l8 l9 l10 : Option AV) (s0 s1 s2 : AV) (x : Int) (M : Mem) (S : Sh) : go r 145 63 [l0, l1, l2, l3, l4, l5, some (aI x), l7, l8, l9, l10] [s0, s1, s2] M S = go r 145 65 [l0, l1, l2, l3, l4, l5, some (aI x), l7, l8, l9, l10] [aI x, s0, s1, s2] M S := go_nx rfl rfl
theorem g145_65 (r : Nat) (l0 l1 l2 l3 l4 l5 l6 l7 l8 l9 l10 : Option AV) (s0 s1 : AV) (x y : Int) (M : Mem) (S : Sh) : go r 145 65 [l0, l1, l2, l3, l4, l5, l6, l7, l8, l9, l10] [aI y, aI x, s0, s1] M S = go r 145 66 [l0, l1, l2, l3, l4, l5, l6, l7, l8, l9, l10] [aI (w32 (x + y)), s0, s1] M S := go_nx rfl rfl
theorem g145_66 (r : Nat) (l0 l1 l2 l3 l4 l5 l6 l7 l8 l9 l10 : Option AV) (x1 x2 : Int) (a0 : Nat) (M : Mem) (S : Sh) (hk : 13 < r) (h : S.1 a0 = 6) : go r 145 66 [l0, l1, l2, l3, l4, l5, l6, l7, l8, l9, l10] [aI x2, aI x1, aR a0] M S = cont r 145 69 [l0, l1, l2, l3, l4, l5, l6, l7, l8, l9, l10] [] 1 (res 142 [aR a0, aI x1, aI x2] M S) := go_cr0 (m' := 142) (n := 3) (pc' := 69) (hr := 1) rfl rfl rfl h rfl rfl rfl rfl hk rfl
theorem g145_69 (r : Nat) (l0 l1 l2 l3 l4 l5 l6 l7 l8 l9 l10 : Option AV) (x : Int) (M : Mem) (S : Sh) : go r 145 69 [l0, l1, l2, l3, l4, l5, l6, l7, l8, l9, l10] [aI x] M S = go r 145 71 [l0, l1, l2, l3, l4, l5, l6, some (aI x), l8, l9, l10] [] M S := go_nx rfl rfl
theorem g145_71 (r : Nat) (l0 l1 l2 l3 l4 l5 l6 l7 l8 l9 l10 : Option AV) (M : Mem) (S : Sh) : go r 145 71 [l0, l1, l2, l3, l4, l5, l6, l7, l8, l9, l10] [] M S = go r 145 72 [l0, l1, l2, l3, l4, l5, l6, l7, l8, l9, l10] [aI 0] M S := go_nx rfl rfl
theorem g145_72 (r : Nat) (l0 l1 l2 l3 l4 l5 l6 l7 l8 l9 l10 : Option AV) (x : Int) (M : Mem) (S : Sh) : go r 145 72 [l0, l1, l2, l3, l4, l5, l6, l7, l8, l9, l10] [aI x] M S = go r 145 74 [l0, l1, l2, l3, l4, l5, l6, l7, some (aI x), l9, l10] [] M S := go_nx rfl rfl
theorem g145_74 (r : Nat) (l0 l1 l2 l3 l4 l5 l6 l7 l9 l10 : Option AV) (x : Int) (M : Mem) (S : Sh) : go r 145 74 [l0, l1, l2, l3, l4, l5, l6, l7, some (aI x), l9, l10] [] M S = go r 145 76 [l0, l1, l2, l3, l4, l5, l6, l7, some (aI x), l9, l10] [aI x] M S := go_nx rfl rfl
theorem g145_76 (r : Nat) (l0 l1 l2 l3 l4 l6 l7 l8 l9 l10 : Option AV) (s0 : AV) (x : Int) (M : Mem) (S : Sh) : go r 145 76 [l0, l1, l2, l3, l4, some (aI x), l6, l7, l8, l9, l10] [s0] M S = go r 145 78 [l0, l1, l2, l3, l4, some (aI x), l6, l7, l8, l9, l10] [aI x, s0] M S := go_nx rfl rfl
theorem g145_78 (r : Nat) (l0 l1 l2 l3 l4 l5 l6 l7 l8 l9 l10 : Option AV) (x y : Int) (M : Mem) (S : Sh) : go r 145 78 [l0, l1, l2, l3, l4, l5, l6, l7, l8, l9, l10] [aI y, aI x] M S = if x ≥ y then go r 145 233 [l0, l1, l2, l3, l4, l5, l6, l7, l8, l9, l10] [] M S else go r 145 81 [l0, l1, l2, l3, l4, l5, l6, l7, l8, l9, l10] [] M S := go_br rfl rfl rfl rfl rfl
theorem g145_81 (r : Nat) (l1 l2 l3 l4 l5 l6 l7 l8 l9 l10 : Option AV) (a : Nat) (M : Mem) (S : Sh) : go r 145 81 [some (aR a), l1, l2, l3, l4, l5, l6, l7, l8, l9, l10] [] M S = go r 145 82 [some (aR a), l1, l2, l3, l4, l5, l6, l7, l8, l9, l10] [aR a] M S := go_nx rfl rfl
theorem g145_82 (r : Nat) (l0 l1 l2 l3 l4 l5 l6 l7 l8 l9 l10 : Option AV) (a : Nat) (M : Mem) (S : Sh) (h : S.1 a = 6) : go r 145 82 [l0, l1, l2, l3, l4, l5, l6, l7, l8, l9, l10] [aR a] M S = go r 145 85 [l0, l1, l2, l3, l4, l5, l6, l7, l8, l9, l10] [aI (M a 42)] M S := go_bnd rfl h rfl
theorem g145_85 (r : Nat) (l0 l1 l2 l3 l4 l5 l6 l7 l8 l9 l10 : Option AV) (x : Int) (M : Mem) (S : Sh) : go r 145 85 [l0, l1, l2, l3, l4, l5, l6, l7, l8, l9, l10] [aI x] M S = if x ≠ 0 then go r 145 233 [l0, l1, l2, l3, l4, l5, l6, l7, l8, l9, l10] [] M S else go r 145 88 [l0, l1, l2, l3, l4, l5, l6, l7, l8, l9, l10] [] M S := go_br rfl rfl rfl rfl rfl
theorem g145_88 (r : Nat) (l1 l2 l3 l4 l5 l6 l7 l8 l9 l10 : Option AV) (a : Nat) (M : Mem) (S : Sh) : go r 145 88 [some (aR a), l1, l2, l3, l4, l5, l6, l7, l8, l9, l10] [] M S = go r 145 89 [some (aR a), l1, l2, l3, l4, l5, l6, l7, l8, l9, l10] [aR a] M S := go_nx rfl rfl
theorem g145_89 (r : Nat) (l0 l1 l2 l3 l4 l5 l6 l7 l8 l9 l10 : Option AV) (a : Nat) (M : Mem) (S : Sh) (h : S.1 a = 6) : go r 145 89 [l0, l1, l2, l3, l4, l5, l6, l7, l8, l9, l10] [aR a] M S = go r 145 92 [l0, l1, l2, l3, l4, l5, l6, l7, l8, l9, l10] [aI (M a 40)] M S := go_bnd rfl h rfl
theorem g145_92 (r : Nat) (l1 l2 l3 l4 l5 l6 l7 l8 l9 l10 : Option AV) (s0 : AV) (a : Nat) (M : Mem) (S : Sh) : go r 145 92 [some (aR a), l1, l2, l3, l4, l5, l6, l7, l8, l9, l10] [s0] M S = go r 145 93 [some (aR a), l1, l2, l3, l4, l5, l6, l7, l8, l9, l10] [aR a, s0] M S := go_nx rfl rfl
theorem g145_93 (r : Nat) (l0 l2 l3 l4 l5 l6 l7 l8 l9 l10 : Option AV) (s0 s1 : AV) (x : Int) (M : Mem) (S : Sh) : go r 145 93 [l0, some (aI x), l2, l3, l4, l5, l6, l7, l8, l9, l10] [s0, s1] M S = go r 145 94 [l0, some (aI x), l2, l3, l4, l5, l6, l7, l8, l9, l10] [aI x, s0, s1] M S := go_nx rfl rfl
theorem g145_94 (r : Nat) (l0 l1 l2 l3 l4 l5 l6 l7 l8 l9 l10 : Option AV) (s0 : AV) (x1 : Int) (a0 : Nat) (M : Mem) (S : Sh) (hk : 10 < r) (h : S.1 a0 = 6) : go r 145 94 [l0, l1, l2, l3, l4, l5, l6, l7, l8, l9, l10] [aI x1, aR a0, s0] M S = cont r 145 97 [l0, l1, l2, l3, l4, l5, l6, l7, l8, l9, l10] [s0] 1 (res 134 [aR a0, aI x1] M S) := go_cr0 (m' := 134) (n := 2) (pc' := 97) (hr := 1) rfl rfl rfl h rfl rfl rfl rfl hk rfl
theorem g145_97 (r : Nat) (l0 l1 l2 l3 l4 l5 l6 l7 l8 l9 l10 : Option AV) (x y : Int) (M : Mem) (S : Sh) : go r 145 97 [l0, l1, l2, l3, l4, l5, l6, l7, l8, l9, l10] [aI y, aI x] M S = go r 145 98 [l0, l1, l2, l3, l4, l5, l6, l7, l8, l9, l10] [aI (w32 (x + y))] M S := go_nx rfl rfl
theorem g145_98 (r : Nat) (l1 l2 l3 l4 l5 l6 l7 l8 l9 l10 : Option AV) (s0 : AV) (a : Nat) (M : Mem) (S : Sh) : go r 145 98 [some (aR a), l1, l2, l3, l4, l5, l6, l7, l8, l9, l10] [s0] M S = go r 145 99 [some (aR a), l1, l2, l3, l4, l5, l6, l7, l8, l9, l10] [aR a, s0] M S := go_nx rfl rfl
theorem g145_99 (r : Nat) (l0 l1 l2 l3 l4 l5 l6 l7 l8 l9 l10 : Option AV) (s0 : AV) (a : Nat) (M : Mem) (S : Sh) (h : S.1 a = 6) : go r 145 99 [l0, l1, l2, l3, l4, l5, l6, l7, l8, l9, l10] [aR a, s0] M S = go r 145 102 [l0, l1, l2, l3, l4, l5, l6, l7, l8, l9, l10] [aO (S.2.2.1 a 8), s0] M S := go_bnd rfl h rfl
theorem g145_102 (r : Nat) (l0 l1 l2 l3 l4 l5 l6 l7 l8 l9 l10 : Option AV) (s0 s1 : AV) (M : Mem) (S : Sh) : go r 145 102 [l0, l1, l2, l3, l4, l5, l6, l7, l8, l9, l10] [s0, s1] M S = go r 145 103 [l0, l1, l2, l3, l4, l5, l6, l7, l8, l9, l10] [aI 3, s0, s1] M S := go_nx rfl rfl
theorem g145_103 (r : Nat) (l0 l2 l3 l4 l5 l6 l7 l8 l9 l10 : Option AV) (s0 s1 s2 : AV) (x : Int) (M : Mem) (S : Sh) : go r 145 103 [l0, some (aI x), l2, l3, l4, l5, l6, l7, l8, l9, l10] [s0, s1, s2] M S = go r 145 104 [l0, some (aI x), l2, l3, l4, l5, l6, l7, l8, l9, l10] [aI x, s0, s1, s2] M S := go_nx rfl rfl
theorem g145_104 (r : Nat) (l0 l1 l2 l3 l4 l5 l6 l7 l8 l9 l10 : Option AV) (s0 s1 : AV) (x y : Int) (M : Mem) (S : Sh) : go r 145 104 [l0, l1, l2, l3, l4, l5, l6, l7, l8, l9, l10] [aI y, aI x, s0, s1] M S = go r 145 105 [l0, l1, l2, l3, l4, l5, l6, l7, l8, l9, l10] [aI (w32 (x * y)), s0, s1] M S := go_nx rfl rfl
theorem g145_105 (r : Nat) (l0 l1 l2 l3 l4 l5 l6 l7 l8 l9 l10 : Option AV) (s0 : AV) (x : Int) (a : Nat) (M : Mem) (S : Sh) (h : S.1 a = 7) (h0 : 0 ≤ x) (h1 : x < S.2.1 a) : go r 145 105 [l0, l1, l2, l3, l4, l5, l6, l7, l8, l9, l10] [aI x, aR a, s0] M S = go r 145 106 [l0, l1, l2, l3, l4, l5, l6, l7, l8, l9, l10] [aI (M a x.toNat), s0] M S := go_bnd rfl ⟨h, h0, h1⟩ rfl
theorem g145_106 (r : Nat) (l0 l1 l2 l3 l4 l5 l6 l7 l8 l9 l10 : Option AV) (x y : Int) (M : Mem) (S : Sh) : go r 145 106 [l0, l1, l2, l3, l4, l5, l6, l7, l8, l9, l10] [aI y, aI x] M S = if x ≤ y then go r 145 117 [l0, l1, l2, l3, l4, l5, l6, l7, l8, l9, l10] [] M S else go r 145 109 [l0, l1, l2, l3, l4, l5, l6, l7, l8, l9, l10] [] M S := go_br rfl rfl rfl rfl rfl
set_option maxRecDepth 20000 in
theorem g145_109 (r : Nat) (l1 l2 l3 l4 l5 l6 l7 l8 l9 l10 : Option AV) (a : Nat) (M : Mem) (S : Sh) : go r 145 109 [some (aR a), l1, l2, l3, l4, l5, l6, l7, l8, l9, l10] [] M S = go r 145 110 [some (aR a), l1, l2, l3, l4, l5, l6, l7, l8, l9, l10] [aR a] M S := go_nx rfl rfl
set_option maxRecDepth 20000 in
theorem g145_110 (r : Nat) (l0 l1 l2 l3 l4 l5 l6 l7 l8 l9 l10 : Option AV) (s0 : AV) (M : Mem) (S : Sh) : go r 145 110 [l0, l1, l2, l3, l4, l5, l6, l7, l8, l9, l10] [s0] M S = go r 145 111 [l0, l1, l2, l3, l4, l5, l6, l7, l8, l9, l10] [aI 1, s0] M S := go_nx rfl rfl
set_option maxRecDepth 20000 in
theorem g145_111 (r : Nat) (l0 l1 l2 l3 l4 l5 l6 l7 l8 l9 l10 : Option AV) (x : Int) (a : Nat) (M : Mem) (S : Sh) (h : S.1 a = 6) (h2 : x = 0 ∨ x = 1) : go r 145 111 [l0, l1, l2, l3, l4, l5, l6, l7, l8, l9, l10] [aI x, aR a] M S = go r 145 114 [l0, l1, l2, l3, l4, l5, l6, l7, l8, l9, l10] [] (mset M a 42 x) S := go_bnd rfl ⟨h, fun _ => h2⟩ rfl
set_option maxRecDepth 20000 in
theorem g145_114 (r : Nat) (l0 l1 l2 l3 l4 l5 l6 l7 l8 l9 l10 : Option AV) (M : Mem) (S : Sh) : go r 145 114 [l0, l1, l2, l3, l4, l5, l6, l7, l8, l9, l10] [] M S = go r 145 227 [l0, l1, l2, l3, l4, l5, l6, l7, l8, l9, l10] [] M S := go_nx rfl rfl
set_option maxRecDepth 20000 in
theorem g145_117 (r : Nat) (l0 l1 l3 l4 l5 l6 l7 l8 l9 l10 : Option AV) (x : Int) (M : Mem) (S : Sh) : go r 145 117 [l0, l1, some (aI x), l3, l4, l5, l6, l7, l8, l9, l10] [] M S = go r 145 118 [l0, l1, some (aI x), l3, l4, l5, l6, l7, l8, l9, l10] [aI x] M S := go_nx rfl rfl
set_option maxRecDepth 20000 in
theorem g145_118 (r : Nat) (l0 l1 l2 l3 l4 l5 l6 l7 l8 l9 l10 : Option AV) (s0 : AV) (M : Mem) (S : Sh) : go r 145 118 [l0, l1, l2, l3, l4, l5, l6, l7, l8, l9, l10] [s0] M S = go r 145 119 [l0, l1, l2, l3, l4, l5, l6, l7, l8, l9, l10] [aI 2, s0] M S := go_nx rfl rfl
set_option maxRecDepth 20000 in
theorem g145_119 (r : Nat) (l0 l1 l2 l3 l4 l5 l6 l7 l8 l9 l10 : Option AV) (x y : Int) (M : Mem) (S : Sh) (h : y ≠ 0) : go r 145 119 [l0, l1, l2, l3, l4, l5, l6, l7, l8, l9, l10] [aI y, aI x] M S = go r 145 120 [l0, l1, l2, l3, l4, l5, l6, l7, l8, l9, l10] [aI (w32 (Int.tmod x y))] M S := go_bnd rfl h rfl
set_option maxRecDepth 20000 in
theorem g145_120 (r : Nat) (l0 l1 l2 l3 l4 l5 l6 l7 l8 l9 l10 : Option AV) (x : Int) (M : Mem) (S : Sh) : go r 145 120 [l0, l1, l2, l3, l4, l5, l6, l7, l8, l9, l10] [aI x] M S = if x ≠ 0 then go r 145 128 [l0, l1, l2, l3, l4, l5, l6, l7, l8, l9, l10] [] M S else go r 145 123 [l0, l1, l2, l3, l4, l5, l6, l7, l8, l9, l10] [] M S := go_br rfl rfl rfl rfl rfl
set_option maxRecDepth 20000 in
theorem g145_123 (r : Nat) (l0 l1 l2 l3 l4 l5 l6 l7 l9 l10 : Option AV) (x : Int) (M : Mem) (S : Sh) : go r 145 123 [l0, l1, l2, l3, l4, l5, l6, l7, some (aI x), l9, l10] [] M S = go r 145 125 [l0, l1, l2, l3, l4, l5, l6, l7, some (aI x), l9, l10] [aI x] M S := go_nx rfl rfl
set_option maxRecDepth 20000 in
theorem g145_125 (r : Nat) (l0 l1 l2 l3 l4 l5 l6 l7 l8 l9 l10 : Option AV) (s0 : AV) (M : Mem) (S : Sh) : go r 145 125 [l0, l1, l2, l3, l4, l5, l6, l7, l8, l9, l10] [s0] M S = go r 145 135 [l0, l1, l2, l3, l4, l5, l6, l7, l8, l9, l10] [s0] M S := go_nx rfl rfl
set_option maxRecDepth 20000 in
theorem g145_128 (r : Nat) (l0 l1 l2 l3 l4 l6 l7 l8 l9 l10 : Option AV) (x : Int) (M : Mem) (S : Sh) : go r 145 128 [l0, l1, l2, l3, l4, some (aI x), l6, l7, l8, l9, l10] [] M S = go r 145 130 [l0, l1, l2, l3, l4, some (aI x), l6, l7, l8, l9, l10] [aI x] M S := go_nx rfl rfl
set_option maxRecDepth 20000 in
theorem g145_130 (r : Nat) (l0 l1 l2 l3 l4 l5 l6 l7 l8 l9 l10 : Option AV) (s0 : AV) (M : Mem) (S : Sh) : go r 145 130 [l0, l1, l2, l3, l4, l5, l6, l7, l8, l9, l10] [s0] M S = go r 145 131 [l0, l1, l2, l3, l4, l5, l6, l7, l8, l9, l10] [aI 1, s0] M S := go_nx rfl rfl
set_option maxRecDepth 20000 in
theorem g145_131 (r : Nat) (l0 l1 l2 l3 l4 l5 l6 l7 l8 l9 l10 : Option AV) (x y : Int) (M : Mem) (S : Sh) : go r 145 131 [l0, l1, l2, l3, l4, l5, l6, l7, l8, l9, l10] [aI y, aI x] M S = go r 145 132 [l0, l1, l2, l3, l4, l5, l6, l7, l8, l9, l10] [aI (w32 (x - y))] M S := go_nx rfl rfl
set_option maxRecDepth 20000 in
theorem g145_132 (r : Nat) (l0 l1 l2 l3 l4 l5 l6 l7 l9 l10 : Option AV) (s0 : AV) (x : Int) (M : Mem) (S : Sh) : go r 145 132 [l0, l1, l2, l3, l4, l5, l6, l7, some (aI x), l9, l10] [s0] M S = go r 145 134 [l0, l1, l2, l3, l4, l5, l6, l7, some (aI x), l9, l10] [aI x, s0] M S := go_nx rfl rfl
set_option maxRecDepth 20000 in
theorem g145_134 (r : Nat) (l0 l1 l2 l3 l4 l5 l6 l7 l8 l9 l10 : Option AV) (x y : Int) (M : Mem) (S : Sh) : go r 145 134 [l0, l1, l2, l3, l4, l5, l6, l7, l8, l9, l10] [aI y, aI x] M S = go r 145 135 [l0, l1, l2, l3, l4, l5, l6, l7, l8, l9, l10] [aI (w32 (x - y))] M S := go_nx rfl rfl
set_option maxRecDepth 20000 in
theorem g145_135 (r : Nat) (l0 l1 l2 l3 l4 l5 l6 l7 l8 l9 l10 : Option AV) (x : Int) (M : Mem) (S : Sh) : go r 145 135 [l0, l1, l2, l3, l4, l5, l6, l7, l8, l9, l10] [aI x] M S = go r 145 137 [l0, l1, l2, l3, l4, l5, l6, l7, l8, some (aI x), l10] [] M S := go_nx rfl rfl
set_option maxRecDepth 20000 in
theorem g145_137 (r : Nat) (l0 l1 l2 l4 l5 l6 l7 l8 l9 l10 : Option AV) (x : Int) (M : Mem) (S : Sh) : go r 145 137 [l0, l1, l2, some (aI x), l4, l5, l6, l7, l8, l9, l10] [] M S = go r 145 138 [l0, l1, l2, some (aI x), l4, l5, l6, l7, l8, l9, l10] [aI x] M S := go_nx rfl rfl
set_option maxRecDepth 20000 in
theorem g145_138 (r : Nat) (l0 l1 l2 l3 l4 l5 l6 l8 l9 l10 : Option AV) (s0 : AV) (x : Int) (M : Mem) (S : Sh) : go r 145 138 [l0, l1, l2, l3, l4, l5, l6, some (aI x), l8, l9, l10] [s0] M S = go r 145 140 [l0, l1, l2, l3, l4, l5, l6, some (aI x), l8, l9, l10] [aI x, s0] M S := go_nx rfl rfl
set_option maxRecDepth 20000 in
theorem g145_140 (r : Nat) (l0 l1 l2 l3 l4 l5 l6 l7 l9 l10 : Option AV) (s0 s1 : AV) (x : Int) (M : Mem) (S : Sh) : go r 145 140 [l0, l1, l2, l3, l4, l5, l6, l7, some (aI x), l9, l10] [s0, s1] M S = go r 145 142 [l0, l1, l2, l3, l4, l5, l6, l7, some (aI x), l9, l10] [aI x, s0, s1] M S := go_nx rfl rfl
set_option maxRecDepth 20000 in
theorem g145_142 (r : Nat) (l0 l1 l2 l3 l4 l5 l6 l7 l8 l9 l10 : Option AV) (s0 : AV) (x y : Int) (M : Mem) (S : Sh) : go r 145 142 [l0, l1, l2, l3, l4, l5, l6, l7, l8, l9, l10] [aI y, aI x, s0] M S = go r 145 143 [l0, l1, l2, l3, l4, l5, l6, l7, l8, l9, l10] [aI (w32 (x * y)), s0] M S := go_nx rfl rfl
set_option maxRecDepth 20000 in
theorem g145_143 (r : Nat) (l0 l1 l2 l3 l4 l6 l7 l8 l9 l10 : Option AV) (s0 s1 : AV) (x : Int) (M : Mem) (S : Sh) : go r 145 143 [l0, l1, l2, l3, l4, some (aI x), l6, l7, l8, l9, l10] [s0, s1] M S = go r 145 145 [l0, l1, l2, l3, l4, some (aI x), l6, l7, l8, l9, l10] [aI x, s0, s1] M S := go_nx rfl rfl
set_option maxRecDepth 20000 in
theorem g145_145 (r : Nat) (l0 l1 l2 l3 l4 l5 l6 l7 l8 l9 l10 : Option AV) (s0 : AV) (x y : Int) (M : Mem) (S : Sh) (h : y ≠ 0) : go r 145 145 [l0, l1, l2, l3, l4, l5, l6, l7, l8, l9, l10] [aI y, aI x, s0] M S = go r 145 146 [l0, l1, l2, l3, l4, l5, l6, l7, l8, l9, l10] [aI (w32 (Int.tdiv x y)), s0] M S := go_bnd rfl h rfl
set_option maxRecDepth 20000 in
theorem g145_146 (r : Nat) (l0 l1 l2 l3 l4 l5 l6 l7 l8 l9 l10 : Option AV) (x y : Int) (M : Mem) (S : Sh) : go r 145 146 [l0, l1, l2, l3, l4, l5, l6, l7, l8, l9, l10] [aI y, aI x] M S = go r 145 147 [l0, l1, l2, l3, l4, l5, l6, l7, l8, l9, l10] [aI (w32 (x + y))] M S := go_nx rfl rfl
set_option maxRecDepth 20000 in
theorem g145_147 (r : Nat) (l0 l1 l2 l3 l4 l5 l6 l7 l8 l9 l10 : Option AV) (x : Int) (M : Mem) (S : Sh) : go r 145 147 [l0, l1, l2, l3, l4, l5, l6, l7, l8, l9, l10] [aI x] M S = go r 145 149 [l0, l1, l2, l3, l4, l5, l6, l7, l8, l9, some (aI x)] [] M S := go_nx rfl rfl
set_option maxRecDepth 20000 in
theorem g145_149 (r : Nat) (l1 l2 l3 l4 l5 l6 l7 l8 l9 l10 : Option AV) (a : Nat) (M : Mem) (S : Sh) : go r 145 149 [some (aR a), l1, l2, l3, l4, l5, l6, l7, l8, l9, l10] [] M S = go r 145 150 [some (aR a), l1, l2, l3, l4, l5, l6, l7, l8, l9, l10] [aR a] M S := go_nx rfl rfl
set_option maxRecDepth 20000 in
theorem g145_150 (r : Nat) (l0 l1 l2 l3 l4 l5 l6 l7 l8 l9 l10 : Option AV) (a : Nat) (M : Mem) (S : Sh) : go r 145 150 [l0, l1, l2, l3, l4, l5, l6, l7, l8, l9, l10] [aR a] M S = go r 145 151 [l0, l1, l2, l3, l4, l5, l6, l7, l8, l9, l10] [aR a, aR a] M S := go_nx rfl rfl
set_option maxRecDepth 20000 in
theorem g145_151 (r : Nat) (l0 l1 l2 l3 l4 l5 l6 l7 l8 l9 l10 : Option AV) (s0 : AV) (a : Nat) (M : Mem) (S : Sh) (h : S.1 a = 6) : go r 145 151 [l0, l1, l2, l3, l4, l5, l6, l7, l8, l9, l10] [aR a, s0] M S = go r 145 154 [l0, l1, l2, l3, l4, l5, l6, l7, l8, l9, l10] [aI (M a 40), s0] M S := go_bnd rfl h rfl
set_option maxRecDepth 20000 in
theorem g145_154 (r : Nat) (l1 l2 l3 l4 l5 l6 l7 l8 l9 l10 : Option AV) (s0 s1 : AV) (a : Nat) (M : Mem) (S : Sh) : go r 145 154 [some (aR a), l1, l2, l3, l4, l5, l6, l7, l8, l9, l10] [s0, s1] M S = go r 145 155 [some (aR a), l1, l2, l3, l4, l5, l6, l7, l8, l9, l10] [aR a, s0, s1] M S := go_nx rfl rfl
set_option maxRecDepth 20000 in
theorem g145_155 (r : Nat) (l0 l2 l3 l4 l5 l6 l7 l8 l9 l10 : Option AV) (s0 s1 s2 : AV) (x : Int) (M : Mem) (S : Sh) : go r 145 155 [l0, some (aI x), l2, l3, l4, l5, l6, l7, l8, l9, l10] [s0, s1, s2] M S = go r 145 156 [l0, some (aI x), l2, l3, l4, l5, l6, l7, l8, l9, l10] [aI x, s0, s1, s2] M S := go_nx rfl rfl
set_option maxRecDepth 20000 in
theorem g145_156 (r : Nat) (l0 l1 l2 l3 l4 l5 l6 l7 l8 l9 l10 : Option AV) (s0 s1 : AV) (x1 : Int) (a0 : Nat) (M : Mem) (S : Sh) (hk : 10 < r) (h : S.1 a0 = 6) : go r 145 156 [l0, l1, l2, l3, l4, l5, l6, l7, l8, l9, l10] [aI x1, aR a0, s0, s1] M S = cont r 145 159 [l0, l1, l2, l3, l4, l5, l6, l7, l8, l9, l10] [s0, s1] 1 (res 134 [aR a0, aI x1] M S) := go_cr0 (m' := 134) (n := 2) (pc' := 159) (hr := 1) rfl rfl rfl h rfl rfl rfl rfl hk rfl
set_option maxRecDepth 20000 in
theorem g145_159 (r : Nat) (l0 l1 l2 l3 l4 l5 l6 l7 l8 l9 l10 : Option AV) (s0 : AV) (x y : Int) (M : Mem) (S : Sh) : go r 145 159 [l0, l1, l2, l3, l4, l5, l6, l7, l8, l9, l10] [aI y, aI x, s0] M S = go r 145 160 [l0, l1, l2, l3, l4, l5, l6, l7, l8, l9, l10] [aI (w32 (x + y)), s0] M S := go_nx rfl rfl
set_option maxRecDepth 20000 in
theorem g145_160 (r : Nat) (l0 l1 l2 l3 l4 l5 l6 l7 l8 l9 l10 : Option AV) (x : Int) (a : Nat) (M : Mem) (S : Sh) (h : S.1 a = 6) : go r 145 160 [l0, l1, l2, l3, l4, l5, l6, l7, l8, l9, l10] [aI x, aR a] M S = go r 145 163 [l0, l1, l2, l3, l4, l5, l6, l7, l8, l9, l10] [] (mset M a 40 x) S := go_bnd rfl ⟨h, fun z => absurd z (by decide)⟩ rfl
set_option maxRecDepth 20000 in
theorem g145_163 (r : Nat) (l0 l1 l2 l3 l4 l5 l6 l7 l9 l10 : Option AV) (x : Int) (M : Mem) (S : Sh) : go r 145 163 [l0, l1, l2, l3, l4, l5, l6, l7, some (aI x), l9, l10] [] M S = go r 145 165 [l0, l1, l2, l3, l4, l5, l6, l7, some (aI x), l9, l10] [aI x] M S := go_nx rfl rfl
set_option maxRecDepth 20000 in
theorem g145_165 (r : Nat) (l1 l2 l3 l4 l5 l6 l7 l8 l9 l10 : Option AV) (s0 : AV) (a : Nat) (M : Mem) (S : Sh) : go r 145 165 [some (aR a), l1, l2, l3, l4, l5, l6, l7, l8, l9, l10] [s0] M S = go r 145 166 [some (aR a), l1, l2, l3, l4, l5, l6, l7, l8, l9, l10] [aR a, s0] M S := go_nx rfl rfl
set_option maxRecDepth 20000 in
theorem g145_166 (r : Nat) (l0 l1 l2 l3 l4 l5 l6 l7 l8 l9 l10 : Option AV) (s0 : AV) (a : Nat) (M : Mem) (S : Sh) (h : S.1 a = 6) : go r 145 166 [l0, l1, l2, l3, l4, l5, l6, l7, l8, l9, l10] [aR a, s0] M S = go r 145 169 [l0, l1, l2, l3, l4, l5, l6, l7, l8, l9, l10] [aO (S.2.2.1 a 8), s0] M S := go_bnd rfl h rfl
set_option maxRecDepth 20000 in
theorem g145_169 (r : Nat) (l0 l1 l2 l3 l4 l5 l6 l7 l8 l9 l10 : Option AV) (s0 s1 : AV) (M : Mem) (S : Sh) : go r 145 169 [l0, l1, l2, l3, l4, l5, l6, l7, l8, l9, l10] [s0, s1] M S = go r 145 170 [l0, l1, l2, l3, l4, l5, l6, l7, l8, l9, l10] [aI 3, s0, s1] M S := go_nx rfl rfl
set_option maxRecDepth 20000 in
theorem g145_170 (r : Nat) (l0 l2 l3 l4 l5 l6 l7 l8 l9 l10 : Option AV) (s0 s1 s2 : AV) (x : Int) (M : Mem) (S : Sh) : go r 145 170 [l0, some (aI x), l2, l3, l4, l5, l6, l7, l8, l9, l10] [s0, s1, s2] M S = go r 145 171 [l0, some (aI x), l2, l3, l4, l5, l6, l7, l8, l9, l10] [aI x, s0, s1, s2] M S := go_nx rfl rfl
set_option maxRecDepth 20000 in
theorem g145_171 (r : Nat) (l0 l1 l2 l3 l4 l5 l6 l7 l8 l9 l10 : Option AV) (s0 s1 : AV) (x y : Int) (M : Mem) (S : Sh) : go r 145 171 [l0, l1, l2, l3, l4, l5, l6, l7, l8, l9, l10] [aI y, aI x, s0, s1] M S = go r 145 172 [l0, l1, l2, l3, l4, l5, l6, l7, l8, l9, l10] [aI (w32 (x * y)), s0, s1] M S := go_nx rfl rfl
set_option maxRecDepth 20000 in
theorem g145_172 (r : Nat) (l0 l1 l2 l3 l4 l5 l6 l7 l8 l9 l10 : Option AV) (s0 s1 s2 : AV) (M : Mem) (S : Sh) : go r 145 172 [l0, l1, l2, l3, l4, l5, l6, l7, l8, l9, l10] [s0, s1, s2] M S = go r 145 173 [l0, l1, l2, l3, l4, l5, l6, l7, l8, l9, l10] [aI 2, s0, s1, s2] M S := go_nx rfl rfl
set_option maxRecDepth 20000 in
theorem g145_173 (r : Nat) (l0 l1 l2 l3 l4 l5 l6 l7 l8 l9 l10 : Option AV) (s0 s1 : AV) (x y : Int) (M : Mem) (S : Sh) : go r 145 173 [l0, l1, l2, l3, l4, l5, l6, l7, l8, l9, l10] [aI y, aI x, s0, s1] M S = go r 145 174 [l0, l1, l2, l3, l4, l5, l6, l7, l8, l9, l10] [aI (w32 (x + y)), s0, s1] M S := go_nx rfl rfl
set_option maxRecDepth 20000 in
theorem g145_174 (r : Nat) (l0 l1 l2 l3 l4 l5 l6 l7 l8 l9 l10 : Option AV) (s0 : AV) (x : Int) (a : Nat) (M : Mem) (S : Sh) (h : S.1 a = 7) (h0 : 0 ≤ x) (h1 : x < S.2.1 a) : go r 145 174 [l0, l1, l2, l3, l4, l5, l6, l7, l8, l9, l10] [aI x, aR a, s0] M S = go r 145 175 [l0, l1, l2, l3, l4, l5, l6, l7, l8, l9, l10] [aI (M a x.toNat), s0] M S := go_bnd rfl ⟨h, h0, h1⟩ rfl
set_option maxRecDepth 20000 in
theorem g145_175 (r : Nat) (l0 l1 l2 l3 l4 l5 l6 l7 l8 l9 l10 : Option AV) (x y : Int) (M : Mem) (S : Sh) (h : y ≠ 0) : go r 145 175 [l0, l1, l2, l3, l4, l5, l6, l7, l8, l9, l10] [aI y, aI x] M S = go r 145 176 [l0, l1, l2, l3, l4, l5, l6, l7, l8, l9, l10] [aI (w32 (Int.tmod x y))] M S := go_bnd rfl h rfl
set_option maxRecDepth 20000 in
theorem g145_176 (r : Nat) (l0 l1 l2 l3 l4 l5 l6 l7 l8 l9 l10 : Option AV) (x : Int) (M : Mem) (S : Sh) : go r 145 176 [l0, l1, l2, l3, l4, l5, l6, l7, l8, l9, l10] [aI x] M S = if x ≠ 0 then go r 145 227 [l0, l1, l2, l3, l4, l5, l6, l7, l8, l9, l10] [] M S else go r 145 179 [l0, l1, l2, l3, l4, l5, l6, l7, l8, l9, l10] [] M S := go_br rfl rfl rfl rfl rfl
set_option maxRecDepth 20000 in
theorem g145_179 (r : Nat) (l1 l2 l3 l4 l5 l6 l7 l8 l9 l10 : Option AV) (a : Nat) (M : Mem) (S : Sh) : go r 145 179 [some (aR a), l1, l2, l3, l4, l5, l6, l7, l8, l9, l10] [] M S = go r 145 180 [some (aR a), l1, l2, l3, l4, l5, l6, l7, l8, l9, l10] [aR a] M S := go_nx rfl rfl
set_option maxRecDepth 20000 in
theorem g145_180 (r : Nat) (l0 l1 l2 l3 l4 l5 l6 l7 l8 l9 l10 : Option AV) (a : Nat) (M : Mem) (S : Sh) (h : S.1 a = 6) : go r 145 180 [l0, l1, l2, l3, l4, l5, l6, l7, l8, l9, l10] [aR a] M S = go r 145 183 [l0, l1, l2, l3, l4, l5, l6, l7, l8, l9, l10] [aI (M a 38)] M S := go_bnd rfl h rfl
set_option maxRecDepth 20000 in
theorem g145_183 (r : Nat) (l1 l2 l3 l4 l5 l6 l7 l8 l9 l10 : Option AV) (s0 : AV) (a : Nat) (M : Mem) (S : Sh) : go r 145 183 [some (aR a), l1, l2, l3, l4, l5, l6, l7, l8, l9, l10] [s0] M S = go r 145 184 [some (aR a), l1, l2, l3, l4, l5, l6, l7, l8, l9, l10] [aR a, s0] M S := go_nx rfl rfl
set_option maxRecDepth 20000 in
theorem g145_184 (r : Nat) (l0 l1 l2 l3 l4 l5 l6 l7 l8 l9 l10 : Option AV) (s0 : AV) (a : Nat) (M : Mem) (S : Sh) (h : S.1 a = 6) : go r 145 184 [l0, l1, l2, l3, l4, l5, l6, l7, l8, l9, l10] [aR a, s0] M S = go r 145 187 [l0, l1, l2, l3, l4, l5, l6, l7, l8, l9, l10] [aO (S.2.2.1 a 8), s0] M S := go_bnd rfl h rfl
set_option maxRecDepth 20000 in
theorem g145_187 (r : Nat) (l0 l1 l2 l3 l4 l5 l6 l7 l8 l9 l10 : Option AV) (s0 s1 : AV) (M : Mem) (S : Sh) : go r 145 187 [l0, l1, l2, l3, l4, l5, l6, l7, l8, l9, l10] [s0, s1] M S = go r 145 188 [l0, l1, l2, l3, l4, l5, l6, l7, l8, l9, l10] [aI 3, s0, s1] M S := go_nx rfl rfl
set_option maxRecDepth 20000 in
theorem g145_188 (r : Nat) (l0 l2 l3 l4 l5 l6 l7 l8 l9 l10 : Option AV) (s0 s1 s2 : AV) (x : Int) (M : Mem) (S : Sh) : go r 145 188 [l0, some (aI x), l2, l3, l4, l5, l6, l7, l8, l9, l10] [s0, s1, s2] M S = go r 145 189 [l0, some (aI x), l2, l3, l4, l5, l6, l7, l8, l9, l10] [aI x, s0, s1, s2] M S := go_nx rfl rfl
set_option maxRecDepth 20000 in
theorem g145_189 (r : Nat) (l0 l1 l2 l3 l4 l5 l6 l7 l8 l9 l10 : Option AV) (s0 s1 : AV) (x y : Int) (M : Mem) (S : Sh) : go r 145 189 [l0, l1, l2, l3, l4, l5, l6, l7, l8, l9, l10] [aI y, aI x, s0, s1] M S = go r 145 190 [l0, l1, l2, l3, l4, l5, l6, l7, l8, l9, l10] [aI (w32 (x * y)), s0, s1] M S := go_nx rfl rfl
set_option maxRecDepth 20000 in
theorem g145_190 (r : Nat) (l0 l1 l2 l3 l4 l5 l6 l7 l8 l9 l10 : Option AV) (s0 s1 s2 : AV) (M : Mem) (S : Sh) : go r 145 190 [l0, l1, l2, l3, l4, l5, l6, l7, l8, l9, l10] [s0, s1, s2] M S = go r 145 191 [l0, l1, l2, l3, l4, l5, l6, l7, l8, l9, l10] [aI 1, s0, s1, s2] M S := go_nx rfl rfl
set_option maxRecDepth 20000 in
theorem g145_191 (r : Nat) (l0 l1 l2 l3 l4 l5 l6 l7 l8 l9 l10 : Option AV) (s0 s1 : AV) (x y : Int) (M : Mem) (S : Sh) : go r 145 191 [l0, l1, l2, l3, l4, l5, l6, l7, l8, l9, l10] [aI y, aI x, s0, s1] M S = go r 145 192 [l0, l1, l2, l3, l4, l5, l6, l7, l8, l9, l10] [aI (w32 (x + y)), s0, s1] M S := go_nx rfl rfl
set_option maxRecDepth 20000 in
theorem g145_192 (r : Nat) (l0 l1 l2 l3 l4 l5 l6 l7 l8 l9 l10 : Option AV) (s0 : AV) (x : Int) (a : Nat) (M : Mem) (S : Sh) (h : S.1 a = 7) (h0 : 0 ≤ x) (h1 : x < S.2.1 a) : go r 145 192 [l0, l1, l2, l3, l4, l5, l6, l7, l8, l9, l10] [aI x, aR a, s0] M S = go r 145 193 [l0, l1, l2, l3, l4, l5, l6, l7, l8, l9, l10] [aI (M a x.toNat), s0] M S := go_bnd rfl ⟨h, h0, h1⟩ rfl
set_option maxRecDepth 20000 in
theorem g145_193 (r : Nat) (l0 l1 l2 l3 l4 l5 l6 l7 l8 l9 l10 : Option AV) (x y : Int) (M : Mem) (S : Sh) : go r 145 193 [l0, l1, l2, l3, l4, l5, l6, l7, l8, l9, l10] [aI y, aI x] M S = if x ≥ y then go r 145 227 [l0, l1, l2, l3, l4, l5, l6, l7, l8, l9, l10] [] M S else go r 145 196 [l0, l1, l2, l3, l4, l5, l6, l7, l8, l9, l10] [] M S := go_br rfl rfl rfl rfl rfl
set_option maxRecDepth 20000 in
theorem g145_196 (r : Nat) (l1 l2 l3 l4 l5 l6 l7 l8 l9 l10 : Option AV) (a : Nat) (M : Mem) (S : Sh) : go r 145 196 [some (aR a), l1, l2, l3, l4, l5, l6, l7, l8, l9, l10] [] M S = go r 145 197 [some (aR a), l1, l2, l3, l4, l5, l6, l7, l8, l9, l10] [aR a] M S := go_nx rfl rfl
set_option maxRecDepth 20000 in
theorem g145_197 (r : Nat) (l0 l2 l3 l4 l5 l6 l7 l8 l9 l10 : Option AV) (s0 : AV) (x : Int) (M : Mem) (S : Sh) : go r 145 197 [l0, some (aI x), l2, l3, l4, l5, l6, l7, l8, l9, l10] [s0] M S = go r 145 198 [l0, some (aI x), l2, l3, l4, l5, l6, l7, l8, l9, l10] [aI x, s0] M S := go_nx rfl rfl
set_option maxRecDepth 20000 in
theorem g145_198 (r : Nat) (l0 l1 l2 l3 l5 l6 l7 l8 l9 l10 : Option AV) (s0 s1 : AV) (x : Int) (M : Mem) (S : Sh) : go r 145 198 [l0, l1, l2, l3, some (aI x), l5, l6, l7, l8, l9, l10] [s0, s1] M S = go r 145 200 [l0, l1, l2, l3, some (aI x), l5, l6, l7, l8, l9, l10] [aI x, s0, s1] M S := go_nx rfl rfl
set_option maxRecDepth 20000 in
theorem g145_200 (r : Nat) (l0 l1 l2 l3 l4 l5 l6 l7 l8 l9 l10 : Option AV) (s0 s1 : AV) (x : Int) (M : Mem) (S : Sh) : go r 145 200 [l0, l1, l2, l3, l4, l5, l6, l7, l8, l9, l10] [aI x, s0, s1] M S = if x = 0 then go r 145 208 [l0, l1, l2, l3, l4, l5, l6, l7, l8, l9, l10] [s0, s1] M S else go r 145 203 [l0, l1, l2, l3, l4, l5, l6, l7, l8, l9, l10] [s0, s1] M S := go_br rfl rfl rfl rfl rfl
set_option maxRecDepth 20000 in
theorem g145_203 (r : Nat) (l0 l1 l2 l3 l4 l5 l6 l7 l8 l9 : Option AV) (s0 s1 : AV) (x : Int) (M : Mem) (S : Sh) : go r 145 203 [l0, l1, l2, l3, l4, l5, l6, l7, l8, l9, some (aI x)] [s0, s1] M S = go r 145 205 [l0, l1, l2, l3, l4, l5, l6, l7, l8, l9, some (aI x)] [aI x, s0, s1] M S := go_nx rfl rfl
set_option maxRecDepth 20000 in
theorem g145_205 (r : Nat) (l0 l1 l2 l3 l4 l5 l6 l7 l8 l9 l10 : Option AV) (s0 s1 s2 : AV) (M : Mem) (S : Sh) : go r 145 205 [l0, l1, l2, l3, l4, l5, l6, l7, l8, l9, l10] [s0, s1, s2] M S = go r 145 210 [l0, l1, l2, l3, l4, l5, l6, l7, l8, l9, l10] [s0, s1, s2] M S := go_nx rfl rfl
set_option maxRecDepth 20000 in
theorem g145_208 (r : Nat) (l0 l1 l2 l3 l4 l5 l6 l7 l8 l10 : Option AV) (s0 s1 : AV) (x : Int) (M : Mem) (S : Sh) : go r 145 208 [l0, l1, l2, l3, l4, l5, l6, l7, l8, some (aI x), l10] [s0, s1] M S = go r 145 210 [l0, l1, l2, l3, l4, l5, l6, l7, l8, some (aI x), l10] [aI x, s0, s1] M S := go_nx rfl rfl
set_option maxRecDepth 20000 in
theorem g145_210 (r : Nat) (l0 l1 l2 l3 l5 l6 l7 l8 l9 l10 : Option AV) (s0 s1 s2 : AV) (x : Int) (M : Mem) (S : Sh) : go r 145 210 [l0, l1, l2, l3, some (aI x), l5, l6, l7, l8, l9, l10] [s0, s1, s2] M S = go r 145 212 [l0, l1, l2, l3, some (aI x), l5, l6, l7, l8, l9, l10] [aI x, s0, s1, s2] M S := go_nx rfl rfl
set_option maxRecDepth 20000 in
theorem g145_212 (r : Nat) (l0 l1 l2 l3 l4 l5 l6 l7 l8 l9 l10 : Option AV) (s0 s1 s2 : AV) (x : Int) (M : Mem) (S : Sh) : go r 145 212 [l0, l1, l2, l3, l4, l5, l6, l7, l8, l9, l10] [aI x, s0, s1, s2] M S = if x = 0 then go r 145 220 [l0, l1, l2, l3, l4, l5, l6, l7, l8, l9, l10] [s0, s1, s2] M S else go r 145 215 [l0, l1, l2, l3, l4, l5, l6, l7, l8, l9, l10] [s0, s1, s2] M S := go_br rfl rfl rfl rfl rfl
set_option maxRecDepth 20000 in
theorem g145_215 (r : Nat) (l0 l1 l2 l3 l4 l5 l6 l7 l8 l10 : Option AV) (s0 s1 s2 : AV) (x : Int) (M : Mem) (S : Sh) : go r 145 215 [l0, l1, l2, l3, l4, l5, l6, l7, l8, some (aI x), l10] [s0, s1, s2] M S = go r 145 217 [l0, l1, l2, l3, l4, l5, l6, l7, l8, some (aI x), l10] [aI x, s0, s1, s2] M S := go_nx rfl rfl
set_option maxRecDepth 20000 in
theorem g145_217 (r : Nat) (l0 l1 l2 l3 l4 l5 l6 l7 l8 l9 l10 : Option AV) (s0 s1 s2 s3 : AV) (M : Mem) (S : Sh) : go r 145 217 [l0, l1, l2, l3, l4, l5, l6, l7, l8, l9, l10] [s0, s1, s2, s3] M S = go r 145 222 [l0, l1, l2, l3, l4, l5, l6, l7, l8, l9, l10] [s0, s1, s2, s3] M S := go_nx rfl rfl
set_option maxRecDepth 20000 in
theorem g145_220 (r : Nat) (l0 l1 l2 l3 l4 l5 l6 l7 l8 l9 : Option AV) (s0 s1 s2 : AV) (x : Int) (M : Mem) (S : Sh) : go r 145 220 [l0, l1, l2, l3, l4, l5, l6, l7, l8, l9, some (aI x)] [s0, s1, s2] M S = go r 145 222 [l0, l1, l2, l3, l4, l5, l6, l7, l8, l9, some (aI x)] [aI x, s0, s1, s2] M S := go_nx rfl rfl
set_option maxRecDepth 20000 in
theorem g145_222 (r : Nat) (l0 l1 l2 l3 l5 l6 l7 l8 l9 l10 : Option AV) (s0 s1 s2 s3 : AV) (x : Int) (M : Mem) (S : Sh) : go r 145 222 [l0, l1, l2, l3, some (aI x), l5, l6, l7, l8, l9, l10] [s0, s1, s2, s3] M S = go r 145 224 [l0, l1, l2, l3, some (aI x), l5, l6, l7, l8, l9, l10] [aI x, s0, s1, s2, s3] M S := go_nx rfl rfl
set_option maxRecDepth 20000 in
theorem g145_224 (r : Nat) (l0 l1 l2 l3 l4 l5 l6 l7 l8 l9 l10 : Option AV) (x1 x2 x3 x4 : Int) (a0 : Nat) (M : Mem) (S : Sh) (hk : 15 < r) (h : S.1 a0 = 6) : go r 145 224 [l0, l1, l2, l3, l4, l5, l6, l7, l8, l9, l10] [aI x4, aI x3, aI x2, aI x1, aR a0] M S = cont r 145 227 [l0, l1, l2, l3, l4, l5, l6, l7, l8, l9, l10] [] 0 (res 144 [aR a0, aI x1, aI x2, aI x3, aI x4] M S) := go_cr0 (m' := 144) (n := 5) (pc' := 227) (hr := 0) rfl rfl rfl h rfl rfl rfl rfl hk rfl
set_option maxRecDepth 20000 in
theorem g145_227 (r : Nat) (l0 l1 l2 l3 l4 l5 l6 l7 l9 l10 : Option AV) (x : Int) (M : Mem) (S : Sh) : go r 145 227 [l0, l1, l2, l3, l4, l5, l6, l7, some (aI x), l9, l10] [] M S = go r 145 230 [l0, l1, l2, l3, l4, l5, l6, l7, some (aI (w32 (x + 1))), l9, l10] [] M S := go_nx rfl rfl
set_option maxRecDepth 20000 in
theorem g145_230 (r : Nat) (l0 l1 l2 l3 l4 l5 l6 l7 l8 l9 l10 : Option AV) (M : Mem) (S : Sh) : go r 145 230 [l0, l1, l2, l3, l4, l5, l6, l7, l8, l9, l10] [] M S = go r 145 74 [l0, l1, l2, l3, l4, l5, l6, l7, l8, l9, l10] [] M S := go_nx rfl rfl
set_option maxRecDepth 20000 in
theorem g145_233 (r : Nat) (l1 l2 l3 l4 l5 l6 l7 l8 l9 l10 : Option AV) (a : Nat) (M : Mem) (S : Sh) : go r 145 233 [some (aR a), l1, l2, l3, l4, l5, l6, l7, l8, l9, l10] [] M S = go r 145 234 [some (aR a), l1, l2, l3, l4, l5, l6, l7, l8, l9, l10] [aR a] M S := go_nx rfl rfl
set_option maxRecDepth 20000 in
theorem g145_234 (r : Nat) (l0 l1 l2 l3 l4 l5 l6 l7 l8 l9 l10 : Option AV) (a : Nat) (M : Mem) (S : Sh) : go r 145 234 [l0, l1, l2, l3, l4, l5, l6, l7, l8, l9, l10] [aR a] M S = go r 145 235 [l0, l1, l2, l3, l4, l5, l6, l7, l8, l9, l10] [aR a, aR a] M S := go_nx rfl rfl
set_option maxRecDepth 20000 in
theorem g145_235 (r : Nat) (l0 l1 l2 l3 l4 l5 l6 l7 l8 l9 l10 : Option AV) (s0 : AV) (a : Nat) (M : Mem) (S : Sh) (h : S.1 a = 6) : go r 145 235 [l0, l1, l2, l3, l4, l5, l6, l7, l8, l9, l10] [aR a, s0] M S = go r 145 238 [l0, l1, l2, l3, l4, l5, l6, l7, l8, l9, l10] [aI (M a 41), s0] M S := go_bnd rfl h rfl
set_option maxRecDepth 20000 in
theorem g145_238 (r : Nat) (l1 l2 l3 l4 l5 l6 l7 l8 l9 l10 : Option AV) (s0 s1 : AV) (a : Nat) (M : Mem) (S : Sh) : go r 145 238 [some (aR a), l1, l2, l3, l4, l5, l6, l7, l8, l9, l10] [s0, s1] M S = go r 145 239 [some (aR a), l1, l2, l3, l4, l5, l6, l7, l8, l9, l10] [aR a, s0, s1] M S := go_nx rfl rfl
set_option maxRecDepth 20000 in
theorem g145_239 (r : Nat) (l0 l1 l2 l3 l4 l5 l6 l7 l8 l9 l10 : Option AV) (s0 s1 : AV) (a : Nat) (M : Mem) (S : Sh) (h : S.1 a = 6) : go r 145 239 [l0, l1, l2, l3, l4, l5, l6, l7, l8, l9, l10] [aR a, s0, s1] M S = go r 145 242 [l0, l1, l2, l3, l4, l5, l6, l7, l8, l9, l10] [aI (M a 42), s0, s1] M S := go_bnd rfl h rfl
set_option maxRecDepth 20000 in
theorem g145_242 (r : Nat) (l0 l1 l2 l3 l4 l5 l6 l7 l8 l9 l10 : Option AV) (s0 s1 : AV) (x : Int) (M : Mem) (S : Sh) : go r 145 242 [l0, l1, l2, l3, l4, l5, l6, l7, l8, l9, l10] [aI x, s0, s1] M S = if x = 0 then go r 145 249 [l0, l1, l2, l3, l4, l5, l6, l7, l8, l9, l10] [s0, s1] M S else go r 145 245 [l0, l1, l2, l3, l4, l5, l6, l7, l8, l9, l10] [s0, s1] M S := go_br rfl rfl rfl rfl rfl
set_option maxRecDepth 20000 in
theorem g145_245 (r : Nat) (l0 l1 l2 l3 l4 l5 l6 l7 l8 l9 l10 : Option AV) (s0 s1 : AV) (M : Mem) (S : Sh) : go r 145 245 [l0, l1, l2, l3, l4, l5, l6, l7, l8, l9, l10] [s0, s1] M S = go r 145 246 [l0, l1, l2, l3, l4, l5, l6, l7, l8, l9, l10] [aI 0, s0, s1] M S := go_nx rfl rfl
set_option maxRecDepth 20000 in
theorem g145_246 (r : Nat) (l0 l1 l2 l3 l4 l5 l6 l7 l8 l9 l10 : Option AV) (s0 s1 s2 : AV) (M : Mem) (S : Sh) : go r 145 246 [l0, l1, l2, l3, l4, l5, l6, l7, l8, l9, l10] [s0, s1, s2] M S = go r 145 250 [l0, l1, l2, l3, l4, l5, l6, l7, l8, l9, l10] [s0, s1, s2] M S := go_nx rfl rfl
set_option maxRecDepth 20000 in
theorem g145_249 (r : Nat) (l0 l1 l2 l3 l4 l5 l6 l7 l8 l9 l10 : Option AV) (s0 s1 : AV) (M : Mem) (S : Sh) : go r 145 249 [l0, l1, l2, l3, l4, l5, l6, l7, l8, l9, l10] [s0, s1] M S = go r 145 250 [l0, l1, l2, l3, l4, l5, l6, l7, l8, l9, l10] [aI 1, s0, s1] M S := go_nx rfl rfl
set_option maxRecDepth 20000 in
theorem g145_250 (r : Nat) (l0 l1 l2 l3 l4 l5 l6 l7 l8 l9 l10 : Option AV) (s0 : AV) (x y : Int) (M : Mem) (S : Sh) : go r 145 250 [l0, l1, l2, l3, l4, l5, l6, l7, l8, l9, l10] [aI y, aI x, s0] M S = go r 145 251 [l0, l1, l2, l3, l4, l5, l6, l7, l8, l9, l10] [aI (w32 (x + y)), s0] M S := go_nx rfl rfl
set_option maxRecDepth 20000 in
theorem g145_251 (r : Nat) (l0 l1 l2 l3 l4 l5 l6 l7 l8 l9 l10 : Option AV) (x : Int) (a : Nat) (M : Mem) (S : Sh) (h : S.1 a = 6) : go r 145 251 [l0, l1, l2, l3, l4, l5, l6, l7, l8, l9, l10] [aI x, aR a] M S = go r 145 254 [l0, l1, l2, l3, l4, l5, l6, l7, l8, l9, l10] [] (mset M a 41 x) S := go_bnd rfl ⟨h, fun z => absurd z (by decide)⟩ rfl
set_option maxRecDepth 20000 in
theorem g145_254 (r : Nat) (l0 l1 l2 l3 l4 l5 l6 l7 l8 l9 l10 : Option AV) (M : Mem) (S : Sh) : go r 145 254 [l0, l1, l2, l3, l4, l5, l6, l7, l8, l9, l10] [] M S = some (none, M, S) := go_rt rfl rfl
/-- StripsFromAboveModel.flown()I -/
theorem g146 (a0 : Nat) (M : Mem) (S : Sh) : res 146 [aR a0] M S = go 17 146 0 [some (aR a0), none, none] [] M S := res_e0 rfl _ M S
theorem g146_0 (r : Nat) (l0 l1 l2 : Option AV) (M : Mem) (S : Sh) : go r 146 0 [l0, l1, l2] [] M S = go r 146 1 [l0, l1, l2] [aI 0] M S := go_nx rfl rfl
theorem g146_1 (r : Nat) (l0 l1 l2 : Option AV) (x : Int) (M : Mem) (S : Sh) : go r 146 1 [l0, l1, l2] [aI x] M S = go r 146 2 [l0, some (aI x), l2] [] M S := go_nx rfl rfl
theorem g146_2 (r : Nat) (l0 l2 : Option AV) (x : Int) (M : Mem) (S : Sh) : go r 146 2 [l0, some (aI x), l2] [] M S = go r 146 3 [l0, some (aI x), l2] [aI x] M S := go_nx rfl rfl
theorem g146_3 (r : Nat) (l0 l1 l2 : Option AV) (s0 : AV) (M : Mem) (S : Sh) : go r 146 3 [l0, l1, l2] [s0] M S = go r 146 6 [l0, l1, l2] [aI 192, s0] M S := go_nx rfl rfl
theorem g146_6 (r : Nat) (l0 l1 l2 : Option AV) (x y : Int) (M : Mem) (S : Sh) : go r 146 6 [l0, l1, l2] [aI y, aI x] M S = if x ≥ y then go r 146 22 [l0, l1, l2] [] M S else go r 146 9 [l0, l1, l2] [] M S := go_br rfl rfl rfl rfl rfl
theorem g146_9 (r : Nat) (l1 l2 : Option AV) (a : Nat) (M : Mem) (S : Sh) : go r 146 9 [some (aR a), l1, l2] [] M S = go r 146 10 [some (aR a), l1, l2] [aR a] M S := go_nx rfl rfl
theorem g146_10 (r : Nat) (l0 l1 l2 : Option AV) (a : Nat) (M : Mem) (S : Sh) (h : S.1 a = 6) : go r 146 10 [l0, l1, l2] [aR a] M S = go r 146 13 [l0, l1, l2] [aO (S.2.2.1 a 37)] M S := go_bnd rfl h rfl
theorem g146_13 (r : Nat) (l0 l2 : Option AV) (s0 : AV) (x : Int) (M : Mem) (S : Sh) : go r 146 13 [l0, some (aI x), l2] [s0] M S = go r 146 14 [l0, some (aI x), l2] [aI x, s0] M S := go_nx rfl rfl
theorem g146_14 (r : Nat) (l0 l1 l2 : Option AV) (s0 s1 : AV) (M : Mem) (S : Sh) : go r 146 14 [l0, l1, l2] [s0, s1] M S = go r 146 15 [l0, l1, l2] [aI 0, s0, s1] M S := go_nx rfl rfl
theorem g146_15 (r : Nat) (l0 l1 l2 : Option AV) (x y : Int) (a : Nat) (M : Mem) (S : Sh) (h : S.1 a = 7) (h6 : 6 ≤ a) (h0 : 0 ≤ x) (h1 : x < S.2.1 a) : go r 146 15 [l0, l1, l2] [aI y, aI x, aR a] M S = go r 146 16 [l0, l1, l2] [] (mset M a x.toNat y) S := go_bnd rfl ⟨h, h6, h0, h1⟩ rfl
theorem g146_16 (r : Nat) (l0 l2 : Option AV) (x : Int) (M : Mem) (S : Sh) : go r 146 16 [l0, some (aI x), l2] [] M S = go r 146 19 [l0, some (aI (w32 (x + 1))), l2] [] M S := go_nx rfl rfl
theorem g146_19 (r : Nat) (l0 l1 l2 : Option AV) (M : Mem) (S : Sh) : go r 146 19 [l0, l1, l2] [] M S = go r 146 2 [l0, l1, l2] [] M S := go_nx rfl rfl
theorem g146_22 (r : Nat) (l1 l2 : Option AV) (a : Nat) (M : Mem) (S : Sh) : go r 146 22 [some (aR a), l1, l2] [] M S = go r 146 23 [some (aR a), l1, l2] [aR a] M S := go_nx rfl rfl
theorem g146_23 (r : Nat) (l0 l1 l2 : Option AV) (s0 : AV) (M : Mem) (S : Sh) : go r 146 23 [l0, l1, l2] [s0] M S = go r 146 24 [l0, l1, l2] [aI 0, s0] M S := go_nx rfl rfl
theorem g146_24 (r : Nat) (l0 l1 l2 : Option AV) (x : Int) (a : Nat) (M : Mem) (S : Sh) (h : S.1 a = 6) : go r 146 24 [l0, l1, l2] [aI x, aR a] M S = go r 146 27 [l0, l1, l2] [] (mset M a 38 x) S := go_bnd rfl ⟨h, fun z => absurd z (by decide)⟩ rfl
theorem g146_27 (r : Nat) (l1 l2 : Option AV) (a : Nat) (M : Mem) (S : Sh) : go r 146 27 [some (aR a), l1, l2] [] M S = go r 146 28 [some (aR a), l1, l2] [aR a] M S := go_nx rfl rfl
theorem g146_28 (r : Nat) (l0 l1 l2 : Option AV) (s0 : AV) (M : Mem) (S : Sh) : go r 146 28 [l0, l1, l2] [s0] M S = go r 146 29 [l0, l1, l2] [aI 0, s0] M S := go_nx rfl rfl
theorem g146_29 (r : Nat) (l0 l1 l2 : Option AV) (x : Int) (a : Nat) (M : Mem) (S : Sh) (h : S.1 a = 6) : go r 146 29 [l0, l1, l2] [aI x, aR a] M S = go r 146 32 [l0, l1, l2] [] (mset M a 39 x) S := go_bnd rfl ⟨h, fun z => absurd z (by decide)⟩ rfl
theorem g146_32 (r : Nat) (l1 l2 : Option AV) (a : Nat) (M : Mem) (S : Sh) : go r 146 32 [some (aR a), l1, l2] [] M S = go r 146 33 [some (aR a), l1, l2] [aR a] M S := go_nx rfl rfl
theorem g146_33 (r : Nat) (l0 l1 l2 : Option AV) (s0 : AV) (M : Mem) (S : Sh) : go r 146 33 [l0, l1, l2] [s0] M S = go r 146 34 [l0, l1, l2] [aI 0, s0] M S := go_nx rfl rfl
theorem g146_34 (r : Nat) (l0 l1 l2 : Option AV) (x : Int) (a : Nat) (M : Mem) (S : Sh) (h : S.1 a = 6) : go r 146 34 [l0, l1, l2] [aI x, aR a] M S = go r 146 37 [l0, l1, l2] [] (mset M a 40 x) S := go_bnd rfl ⟨h, fun z => absurd z (by decide)⟩ rfl
theorem g146_37 (r : Nat) (l1 l2 : Option AV) (a : Nat) (M : Mem) (S : Sh) : go r 146 37 [some (aR a), l1, l2] [] M S = go r 146 38 [some (aR a), l1, l2] [aR a] M S := go_nx rfl rfl
theorem g146_38 (r : Nat) (l0 l1 l2 : Option AV) (s0 : AV) (M : Mem) (S : Sh) : go r 146 38 [l0, l1, l2] [s0] M S = go r 146 39 [l0, l1, l2] [aI 0, s0] M S := go_nx rfl rfl
theorem g146_39 (r : Nat) (l0 l1 l2 : Option AV) (x : Int) (a : Nat) (M : Mem) (S : Sh) (h : S.1 a = 6) : go r 146 39 [l0, l1, l2] [aI x, aR a] M S = go r 146 42 [l0, l1, l2] [] (mset M a 41 x) S := go_bnd rfl ⟨h, fun z => absurd z (by decide)⟩ rfl
theorem g146_42 (r : Nat) (l1 l2 : Option AV) (a : Nat) (M : Mem) (S : Sh) : go r 146 42 [some (aR a), l1, l2] [] M S = go r 146 43 [some (aR a), l1, l2] [aR a] M S := go_nx rfl rfl
theorem g146_43 (r : Nat) (l0 l1 l2 : Option AV) (s0 : AV) (M : Mem) (S : Sh) : go r 146 43 [l0, l1, l2] [s0] M S = go r 146 44 [l0, l1, l2] [aI 0, s0] M S := go_nx rfl rfl
theorem g146_44 (r : Nat) (l0 l1 l2 : Option AV) (x : Int) (a : Nat) (M : Mem) (S : Sh) (h : S.1 a = 6) (h2 : x = 0 ∨ x = 1) : go r 146 44 [l0, l1, l2] [aI x, aR a] M S = go r 146 47 [l0, l1, l2] [] (mset M a 42 x) S := go_bnd rfl ⟨h, fun _ => h2⟩ rfl
theorem g146_47 (r : Nat) (l0 l1 l2 : Option AV) (M : Mem) (S : Sh) : go r 146 47 [l0, l1, l2] [] M S = go r 146 48 [l0, l1, l2] [aI 1] M S := go_nx rfl rfl
theorem g146_48 (r : Nat) (l0 l1 l2 : Option AV) (x : Int) (M : Mem) (S : Sh) : go r 146 48 [l0, l1, l2] [aI x] M S = go r 146 49 [l0, some (aI x), l2] [] M S := go_nx rfl rfl
theorem g146_49 (r : Nat) (l0 l1 l2 : Option AV) (M : Mem) (S : Sh) : go r 146 49 [l0, l1, l2] [] M S = go r 146 50 [l0, l1, l2] [aI 0] M S := go_nx rfl rfl
theorem g146_50 (r : Nat) (l0 l1 l2 : Option AV) (x : Int) (M : Mem) (S : Sh) : go r 146 50 [l0, l1, l2] [aI x] M S = go r 146 51 [l0, l1, some (aI x)] [] M S := go_nx rfl rfl
theorem g146_51 (r : Nat) (l0 l1 : Option AV) (x : Int) (M : Mem) (S : Sh) : go r 146 51 [l0, l1, some (aI x)] [] M S = go r 146 52 [l0, l1, some (aI x)] [aI x] M S := go_nx rfl rfl
theorem g146_52 (r : Nat) (l1 l2 : Option AV) (s0 : AV) (a : Nat) (M : Mem) (S : Sh) : go r 146 52 [some (aR a), l1, l2] [s0] M S = go r 146 53 [some (aR a), l1, l2] [aR a, s0] M S := go_nx rfl rfl
theorem g146_53 (r : Nat) (l0 l1 l2 : Option AV) (s0 : AV) (a : Nat) (M : Mem) (S : Sh) (h : S.1 a = 6) : go r 146 53 [l0, l1, l2] [aR a, s0] M S = go r 146 56 [l0, l1, l2] [aI (M a 9), s0] M S := go_bnd rfl h rfl
theorem g146_56 (r : Nat) (l0 l1 l2 : Option AV) (x y : Int) (M : Mem) (S : Sh) : go r 146 56 [l0, l1, l2] [aI y, aI x] M S = if x ≥ y then go r 146 135 [l0, l1, l2] [] M S else go r 146 59 [l0, l1, l2] [] M S := go_br rfl rfl rfl rfl rfl
theorem g146_59 (r : Nat) (l1 l2 : Option AV) (a : Nat) (M : Mem) (S : Sh) : go r 146 59 [some (aR a), l1, l2] [] M S = go r 146 60 [some (aR a), l1, l2] [aR a] M S := go_nx rfl rfl
theorem g146_60 (r : Nat) (l0 l1 l2 : Option AV) (a : Nat) (M : Mem) (S : Sh) (h : S.1 a = 6) : go r 146 60 [l0, l1, l2] [aR a] M S = go r 146 63 [l0, l1, l2] [aI (M a 4)] M S := go_bnd rfl h rfl
theorem g146_63 (r : Nat) (l0 l1 l2 : Option AV) (s0 : AV) (M : Mem) (S : Sh) : go r 146 63 [l0, l1, l2] [s0] M S = go r 146 64 [l0, l1, l2] [aI (-1), s0] M S := go_nx rfl rfl
theorem g146_64 (r : Nat) (l0 l1 l2 : Option AV) (x y : Int) (M : Mem) (S : Sh) : go r 146 64 [l0, l1, l2] [aI y, aI x] M S = if x = y then go r 146 135 [l0, l1, l2] [] M S else go r 146 67 [l0, l1, l2] [] M S := go_br rfl rfl rfl rfl rfl
theorem g146_67 (r : Nat) (l0 l1 : Option AV) (x : Int) (M : Mem) (S : Sh) : go r 146 67 [l0, l1, some (aI x)] [] M S = go r 146 68 [l0, l1, some (aI x)] [aI x] M S := go_nx rfl rfl
theorem g146_68 (r : Nat) (l1 l2 : Option AV) (s0 : AV) (a : Nat) (M : Mem) (S : Sh) : go r 146 68 [some (aR a), l1, l2] [s0] M S = go r 146 69 [some (aR a), l1, l2] [aR a, s0] M S := go_nx rfl rfl
theorem g146_69 (r : Nat) (l0 l1 l2 : Option AV) (s0 : AV) (a : Nat) (M : Mem) (S : Sh) (h : S.1 a = 6) : go r 146 69 [l0, l1, l2] [aR a, s0] M S = go r 146 72 [l0, l1, l2] [aI (M a 43), s0] M S := go_bnd rfl h rfl
theorem g146_72 (r : Nat) (l0 l1 l2 : Option AV) (x y : Int) (M : Mem) (S : Sh) : go r 146 72 [l0, l1, l2] [aI y, aI x] M S = if x = y then go r 146 129 [l0, l1, l2] [] M S else go r 146 75 [l0, l1, l2] [] M S := go_br rfl rfl rfl rfl rfl
theorem g146_75 (r : Nat) (l1 l2 : Option AV) (a : Nat) (M : Mem) (S : Sh) : go r 146 75 [some (aR a), l1, l2] [] M S = go r 146 76 [some (aR a), l1, l2] [aR a] M S := go_nx rfl rfl
theorem g146_76 (r : Nat) (l0 l1 l2 : Option AV) (a : Nat) (M : Mem) (S : Sh) (h : S.1 a = 6) : go r 146 76 [l0, l1, l2] [aR a] M S = go r 146 79 [l0, l1, l2] [aI (M a 42)] M S := go_bnd rfl h rfl
theorem g146_79 (r : Nat) (l0 l1 l2 : Option AV) (x : Int) (M : Mem) (S : Sh) : go r 146 79 [l0, l1, l2] [aI x] M S = if x ≠ 0 then go r 146 129 [l0, l1, l2] [] M S else go r 146 82 [l0, l1, l2] [] M S := go_br rfl rfl rfl rfl rfl
theorem g146_82 (r : Nat) (l1 l2 : Option AV) (a : Nat) (M : Mem) (S : Sh) : go r 146 82 [some (aR a), l1, l2] [] M S = go r 146 83 [some (aR a), l1, l2] [aR a] M S := go_nx rfl rfl
theorem g146_83 (r : Nat) (l0 l1 l2 : Option AV) (a : Nat) (M : Mem) (S : Sh) : go r 146 83 [l0, l1, l2] [aR a] M S = go r 146 84 [l0, l1, l2] [aR a, aR a] M S := go_nx rfl rfl
theorem g146_84 (r : Nat) (l0 l1 l2 : Option AV) (s0 : AV) (a : Nat) (M : Mem) (S : Sh) (h : S.1 a = 6) : go r 146 84 [l0, l1, l2] [aR a, s0] M S = go r 146 87 [l0, l1, l2] [aI (M a 40), s0] M S := go_bnd rfl h rfl
theorem g146_87 (r : Nat) (l0 l2 : Option AV) (s0 s1 : AV) (x : Int) (M : Mem) (S : Sh) : go r 146 87 [l0, some (aI x), l2] [s0, s1] M S = go r 146 88 [l0, some (aI x), l2] [aI x, s0, s1] M S := go_nx rfl rfl
theorem g146_88 (r : Nat) (l0 l1 l2 : Option AV) (s0 s1 : AV) (x : Int) (M : Mem) (S : Sh) : go r 146 88 [l0, l1, l2] [aI x, s0, s1] M S = if x = 0 then go r 146 95 [l0, l1, l2] [s0, s1] M S else go r 146 91 [l0, l1, l2] [s0, s1] M S := go_br rfl rfl rfl rfl rfl
theorem g146_91 (r : Nat) (l0 l1 l2 : Option AV) (s0 s1 : AV) (M : Mem) (S : Sh) : go r 146 91 [l0, l1, l2] [s0, s1] M S = go r 146 92 [l0, l1, l2] [aI 0, s0, s1] M S := go_nx rfl rfl
theorem g146_92 (r : Nat) (l0 l1 l2 : Option AV) (s0 s1 s2 : AV) (M : Mem) (S : Sh) : go r 146 92 [l0, l1, l2] [s0, s1, s2] M S = go r 146 103 [l0, l1, l2] [s0, s1, s2] M S := go_nx rfl rfl
theorem g146_95 (r : Nat) (l1 l2 : Option AV) (s0 s1 : AV) (a : Nat) (M : Mem) (S : Sh) : go r 146 95 [some (aR a), l1, l2] [s0, s1] M S = go r 146 96 [some (aR a), l1, l2] [aR a, s0, s1] M S := go_nx rfl rfl
theorem g146_96 (r : Nat) (l1 l2 : Option AV) (s0 s1 s2 : AV) (a : Nat) (M : Mem) (S : Sh) : go r 146 96 [some (aR a), l1, l2] [s0, s1, s2] M S = go r 146 97 [some (aR a), l1, l2] [aR a, s0, s1, s2] M S := go_nx rfl rfl
theorem g146_97 (r : Nat) (l0 l1 l2 : Option AV) (s0 s1 s2 : AV) (a : Nat) (M : Mem) (S : Sh) (h : S.1 a = 6) : go r 146 97 [l0, l1, l2] [aR a, s0, s1, s2] M S = go r 146 100 [l0, l1, l2] [aI (M a 4), s0, s1, s2] M S := go_bnd rfl h rfl
theorem g146_100 (r : Nat) (l0 l1 l2 : Option AV) (s0 s1 : AV) (x1 : Int) (a0 : Nat) (M : Mem) (S : Sh) (hk : 10 < r) (h : S.1 a0 = 6) : go r 146 100 [l0, l1, l2] [aI x1, aR a0, s0, s1] M S = cont r 146 103 [l0, l1, l2] [s0, s1] 1 (res 135 [aR a0, aI x1] M S) := go_cr0 (m' := 135) (n := 2) (pc' := 103) (hr := 1) rfl rfl rfl h rfl rfl rfl rfl hk rfl
theorem g146_103 (r : Nat) (l0 l1 l2 : Option AV) (s0 : AV) (x y : Int) (M : Mem) (S : Sh) : go r 146 103 [l0, l1, l2] [aI y, aI x, s0] M S = go r 146 104 [l0, l1, l2] [aI (w32 (x + y)), s0] M S := go_nx rfl rfl
theorem g146_104 (r : Nat) (l0 l1 l2 : Option AV) (x : Int) (a : Nat) (M : Mem) (S : Sh) (h : S.1 a = 6) : go r 146 104 [l0, l1, l2] [aI x, aR a] M S = go r 146 107 [l0, l1, l2] [] (mset M a 40 x) S := go_bnd rfl ⟨h, fun z => absurd z (by decide)⟩ rfl
theorem g146_107 (r : Nat) (l0 l1 l2 : Option AV) (M : Mem) (S : Sh) : go r 146 107 [l0, l1, l2] [] M S = go r 146 108 [l0, l1, l2] [aI 0] M S := go_nx rfl rfl
theorem g146_108 (r : Nat) (l0 l1 l2 : Option AV) (x : Int) (M : Mem) (S : Sh) : go r 146 108 [l0, l1, l2] [aI x] M S = go r 146 109 [l0, some (aI x), l2] [] M S := go_nx rfl rfl
set_option maxRecDepth 20000 in
theorem g146_109 (r : Nat) (l1 l2 : Option AV) (a : Nat) (M : Mem) (S : Sh) : go r 146 109 [some (aR a), l1, l2] [] M S = go r 146 110 [some (aR a), l1, l2] [aR a] M S := go_nx rfl rfl
set_option maxRecDepth 20000 in
theorem g146_110 (r : Nat) (l1 l2 : Option AV) (s0 : AV) (a : Nat) (M : Mem) (S : Sh) : go r 146 110 [some (aR a), l1, l2] [s0] M S = go r 146 111 [some (aR a), l1, l2] [aR a, s0] M S := go_nx rfl rfl
set_option maxRecDepth 20000 in
theorem g146_111 (r : Nat) (l0 l1 l2 : Option AV) (s0 : AV) (a : Nat) (M : Mem) (S : Sh) (h : S.1 a = 6) : go r 146 111 [l0, l1, l2] [aR a, s0] M S = go r 146 114 [l0, l1, l2] [aI (M a 4), s0] M S := go_bnd rfl h rfl
set_option maxRecDepth 20000 in
theorem g146_114 (r : Nat) (l1 l2 : Option AV) (s0 s1 : AV) (a : Nat) (M : Mem) (S : Sh) : go r 146 114 [some (aR a), l1, l2] [s0, s1] M S = go r 146 115 [some (aR a), l1, l2] [aR a, s0, s1] M S := go_nx rfl rfl
set_option maxRecDepth 20000 in
theorem g146_115 (r : Nat) (l0 l1 l2 : Option AV) (s0 s1 : AV) (a : Nat) (M : Mem) (S : Sh) (h : S.1 a = 6) : go r 146 115 [l0, l1, l2] [aR a, s0, s1] M S = go r 146 118 [l0, l1, l2] [aO (S.2.2.1 a 10), s0, s1] M S := go_bnd rfl h rfl
set_option maxRecDepth 20000 in
theorem g146_118 (r : Nat) (l0 l1 : Option AV) (s0 s1 s2 : AV) (x : Int) (M : Mem) (S : Sh) : go r 146 118 [l0, l1, some (aI x)] [s0, s1, s2] M S = go r 146 119 [l0, l1, some (aI x)] [aI x, s0, s1, s2] M S := go_nx rfl rfl
set_option maxRecDepth 20000 in
theorem g146_119 (r : Nat) (l0 l1 l2 : Option AV) (s0 s1 : AV) (x : Int) (a : Nat) (M : Mem) (S : Sh) (h : S.1 a = 7) (h0 : 0 ≤ x) (h1 : x < S.2.1 a) : go r 146 119 [l0, l1, l2] [aI x, aR a, s0, s1] M S = go r 146 120 [l0, l1, l2] [aI (M a x.toNat), s0, s1] M S := go_bnd rfl ⟨h, h0, h1⟩ rfl
set_option maxRecDepth 20000 in
theorem g146_120 (r : Nat) (l1 l2 : Option AV) (s0 s1 s2 : AV) (a : Nat) (M : Mem) (S : Sh) : go r 146 120 [some (aR a), l1, l2] [s0, s1, s2] M S = go r 146 121 [some (aR a), l1, l2] [aR a, s0, s1, s2] M S := go_nx rfl rfl
set_option maxRecDepth 20000 in
theorem g146_121 (r : Nat) (l0 l1 l2 : Option AV) (s0 s1 s2 : AV) (a : Nat) (M : Mem) (S : Sh) (h : S.1 a = 6) : go r 146 121 [l0, l1, l2] [aR a, s0, s1, s2] M S = go r 146 124 [l0, l1, l2] [aO (S.2.2.1 a 11), s0, s1, s2] M S := go_bnd rfl h rfl
set_option maxRecDepth 20000 in
theorem g146_124 (r : Nat) (l0 l1 : Option AV) (s0 s1 s2 s3 : AV) (x : Int) (M : Mem) (S : Sh) : go r 146 124 [l0, l1, some (aI x)] [s0, s1, s2, s3] M S = go r 146 125 [l0, l1, some (aI x)] [aI x, s0, s1, s2, s3] M S := go_nx rfl rfl
set_option maxRecDepth 20000 in
theorem g146_125 (r : Nat) (l0 l1 l2 : Option AV) (s0 s1 s2 : AV) (x : Int) (a : Nat) (M : Mem) (S : Sh) (h : S.1 a = 7) (h0 : 0 ≤ x) (h1 : x < S.2.1 a) : go r 146 125 [l0, l1, l2] [aI x, aR a, s0, s1, s2] M S = go r 146 126 [l0, l1, l2] [aI (M a x.toNat), s0, s1, s2] M S := go_bnd rfl ⟨h, h0, h1⟩ rfl
set_option maxRecDepth 20000 in
theorem g146_126 (r : Nat) (l0 l1 l2 : Option AV) (x1 x2 x3 : Int) (a0 : Nat) (M : Mem) (S : Sh) (hk : 16 < r) (h : S.1 a0 = 6) : go r 146 126 [l0, l1, l2] [aI x3, aI x2, aI x1, aR a0] M S = cont r 146 129 [l0, l1, l2] [] 0 (res 145 [aR a0, aI x1, aI x2, aI x3] M S) := go_cr0 (m' := 145) (n := 4) (pc' := 129) (hr := 0) rfl rfl rfl h rfl rfl rfl rfl hk rfl
set_option maxRecDepth 20000 in
theorem g146_129 (r : Nat) (l0 l1 : Option AV) (x : Int) (M : Mem) (S : Sh) : go r 146 129 [l0, l1, some (aI x)] [] M S = go r 146 132 [l0, l1, some (aI (w32 (x + 1)))] [] M S := go_nx rfl rfl
set_option maxRecDepth 20000 in
theorem g146_132 (r : Nat) (l0 l1 l2 : Option AV) (M : Mem) (S : Sh) : go r 146 132 [l0, l1, l2] [] M S = go r 146 51 [l0, l1, l2] [] M S := go_nx rfl rfl
set_option maxRecDepth 20000 in
theorem g146_135 (r : Nat) (l1 l2 : Option AV) (a : Nat) (M : Mem) (S : Sh) : go r 146 135 [some (aR a), l1, l2] [] M S = go r 146 136 [some (aR a), l1, l2] [aR a] M S := go_nx rfl rfl
set_option maxRecDepth 20000 in
theorem g146_136 (r : Nat) (l0 l1 l2 : Option AV) (s0 : AV) (M : Mem) (S : Sh) : go r 146 136 [l0, l1, l2] [s0] M S = go r 146 137 [l0, l1, l2] [aI 1, s0] M S := go_nx rfl rfl
set_option maxRecDepth 20000 in
theorem g146_137 (r : Nat) (l0 l1 l2 : Option AV) (x1 : Int) (a0 : Nat) (M : Mem) (S : Sh) (hk : 10 < r) (h : S.1 a0 = 6) : go r 146 137 [l0, l1, l2] [aI x1, aR a0] M S = cont r 146 140 [l0, l1, l2] [] 1 (res 147 [aR a0, aI x1] M S) := go_cr0 (m' := 147) (n := 2) (pc' := 140) (hr := 1) rfl rfl rfl h rfl rfl rfl rfl hk rfl
set_option maxRecDepth 20000 in
theorem g146_140 (r : Nat) (l0 l1 l2 : Option AV) (x : Int) (M : Mem) (S : Sh) : go r 146 140 [l0, l1, l2] [aI x] M S = some (some (aI x), M, S) := go_rt rfl (bnd_t (Or.inl rfl))
/-- StripsFromAboveModel.atLeast(I)I -/
theorem g147 (x1 : Int) (a0 : Nat) (M : Mem) (S : Sh) : res 147 [aR a0, aI x1] M S = go 10 147 0 [some (aR a0), some (aI x1), none, none] [] M S := res_e0 rfl _ M S
theorem g147_0 (r : Nat) (l0 l1 l2 l3 : Option AV) (M : Mem) (S : Sh) : go r 147 0 [l0, l1, l2, l3] [] M S = go r 147 1 [l0, l1, l2, l3] [aI 0] M S := go_nx rfl rfl
theorem g147_1 (r : Nat) (l0 l1 l2 l3 : Option AV) (x : Int) (M : Mem) (S : Sh) : go r 147 1 [l0, l1, l2, l3] [aI x] M S = go r 147 2 [l0, l1, some (aI x), l3] [] M S := go_nx rfl rfl
theorem g147_2 (r : Nat) (l0 l1 l2 l3 : Option AV) (M : Mem) (S : Sh) : go r 147 2 [l0, l1, l2, l3] [] M S = go r 147 3 [l0, l1, l2, l3] [aI 0] M S := go_nx rfl rfl
theorem g147_3 (r : Nat) (l0 l1 l2 l3 : Option AV) (x : Int) (M : Mem) (S : Sh) : go r 147 3 [l0, l1, l2, l3] [aI x] M S = go r 147 4 [l0, l1, l2, some (aI x)] [] M S := go_nx rfl rfl
theorem g147_4 (r : Nat) (l0 l1 l2 : Option AV) (x : Int) (M : Mem) (S : Sh) : go r 147 4 [l0, l1, l2, some (aI x)] [] M S = go r 147 5 [l0, l1, l2, some (aI x)] [aI x] M S := go_nx rfl rfl
theorem g147_5 (r : Nat) (l0 l1 l2 l3 : Option AV) (s0 : AV) (M : Mem) (S : Sh) : go r 147 5 [l0, l1, l2, l3] [s0] M S = go r 147 8 [l0, l1, l2, l3] [aI 192, s0] M S := go_nx rfl rfl
theorem g147_8 (r : Nat) (l0 l1 l2 l3 : Option AV) (x y : Int) (M : Mem) (S : Sh) : go r 147 8 [l0, l1, l2, l3] [aI y, aI x] M S = if x ≥ y then go r 147 35 [l0, l1, l2, l3] [] M S else go r 147 11 [l0, l1, l2, l3] [] M S := go_br rfl rfl rfl rfl rfl
theorem g147_11 (r : Nat) (l0 l1 l3 : Option AV) (x : Int) (M : Mem) (S : Sh) : go r 147 11 [l0, l1, some (aI x), l3] [] M S = go r 147 12 [l0, l1, some (aI x), l3] [aI x] M S := go_nx rfl rfl
theorem g147_12 (r : Nat) (l1 l2 l3 : Option AV) (s0 : AV) (a : Nat) (M : Mem) (S : Sh) : go r 147 12 [some (aR a), l1, l2, l3] [s0] M S = go r 147 13 [some (aR a), l1, l2, l3] [aR a, s0] M S := go_nx rfl rfl
theorem g147_13 (r : Nat) (l0 l1 l2 l3 : Option AV) (s0 : AV) (a : Nat) (M : Mem) (S : Sh) (h : S.1 a = 6) : go r 147 13 [l0, l1, l2, l3] [aR a, s0] M S = go r 147 16 [l0, l1, l2, l3] [aO (S.2.2.1 a 37), s0] M S := go_bnd rfl h rfl
theorem g147_16 (r : Nat) (l0 l1 l2 : Option AV) (s0 s1 : AV) (x : Int) (M : Mem) (S : Sh) : go r 147 16 [l0, l1, l2, some (aI x)] [s0, s1] M S = go r 147 17 [l0, l1, l2, some (aI x)] [aI x, s0, s1] M S := go_nx rfl rfl
theorem g147_17 (r : Nat) (l0 l1 l2 l3 : Option AV) (s0 : AV) (x : Int) (a : Nat) (M : Mem) (S : Sh) (h : S.1 a = 7) (h0 : 0 ≤ x) (h1 : x < S.2.1 a) : go r 147 17 [l0, l1, l2, l3] [aI x, aR a, s0] M S = go r 147 18 [l0, l1, l2, l3] [aI (M a x.toNat), s0] M S := go_bnd rfl ⟨h, h0, h1⟩ rfl
theorem g147_18 (r : Nat) (l0 l2 l3 : Option AV) (s0 s1 : AV) (x : Int) (M : Mem) (S : Sh) : go r 147 18 [l0, some (aI x), l2, l3] [s0, s1] M S = go r 147 19 [l0, some (aI x), l2, l3] [aI x, s0, s1] M S := go_nx rfl rfl
theorem g147_19 (r : Nat) (l0 l1 l2 l3 : Option AV) (s0 : AV) (x y : Int) (M : Mem) (S : Sh) : go r 147 19 [l0, l1, l2, l3] [aI y, aI x, s0] M S = if x < y then go r 147 26 [l0, l1, l2, l3] [s0] M S else go r 147 22 [l0, l1, l2, l3] [s0] M S := go_br rfl rfl rfl rfl rfl
theorem g147_22 (r : Nat) (l0 l1 l2 l3 : Option AV) (s0 : AV) (M : Mem) (S : Sh) : go r 147 22 [l0, l1, l2, l3] [s0] M S = go r 147 23 [l0, l1, l2, l3] [aI 1, s0] M S := go_nx rfl rfl
theorem g147_23 (r : Nat) (l0 l1 l2 l3 : Option AV) (s0 s1 : AV) (M : Mem) (S : Sh) : go r 147 23 [l0, l1, l2, l3] [s0, s1] M S = go r 147 27 [l0, l1, l2, l3] [s0, s1] M S := go_nx rfl rfl
theorem g147_26 (r : Nat) (l0 l1 l2 l3 : Option AV) (s0 : AV) (M : Mem) (S : Sh) : go r 147 26 [l0, l1, l2, l3] [s0] M S = go r 147 27 [l0, l1, l2, l3] [aI 0, s0] M S := go_nx rfl rfl
theorem g147_27 (r : Nat) (l0 l1 l2 l3 : Option AV) (x y : Int) (M : Mem) (S : Sh) : go r 147 27 [l0, l1, l2, l3] [aI y, aI x] M S = go r 147 28 [l0, l1, l2, l3] [aI (w32 (x + y))] M S := go_nx rfl rfl
theorem g147_28 (r : Nat) (l0 l1 l2 l3 : Option AV) (x : Int) (M : Mem) (S : Sh) : go r 147 28 [l0, l1, l2, l3] [aI x] M S = go r 147 29 [l0, l1, some (aI x), l3] [] M S := go_nx rfl rfl
theorem g147_29 (r : Nat) (l0 l1 l2 : Option AV) (x : Int) (M : Mem) (S : Sh) : go r 147 29 [l0, l1, l2, some (aI x)] [] M S = go r 147 32 [l0, l1, l2, some (aI (w32 (x + 1)))] [] M S := go_nx rfl rfl
theorem g147_32 (r : Nat) (l0 l1 l2 l3 : Option AV) (M : Mem) (S : Sh) : go r 147 32 [l0, l1, l2, l3] [] M S = go r 147 4 [l0, l1, l2, l3] [] M S := go_nx rfl rfl
theorem g147_35 (r : Nat) (l0 l1 l3 : Option AV) (x : Int) (M : Mem) (S : Sh) : go r 147 35 [l0, l1, some (aI x), l3] [] M S = go r 147 36 [l0, l1, some (aI x), l3] [aI x] M S := go_nx rfl rfl
theorem g147_36 (r : Nat) (l0 l1 l2 l3 : Option AV) (x : Int) (M : Mem) (S : Sh) : go r 147 36 [l0, l1, l2, l3] [aI x] M S = some (some (aI x), M, S) := go_rt rfl (bnd_t (Or.inl rfl))
/-- StripsFromAboveModel.flight(I)I -/
theorem g148 (x1 : Int) (a0 : Nat) (M : Mem) (S : Sh) : res 148 [aR a0, aI x1] M S = go 18 148 0 [some (aR a0), some (aI x1), none] [] M S := res_e0 rfl _ M S
theorem g148_0 (r : Nat) (l0 l2 : Option AV) (x : Int) (M : Mem) (S : Sh) : go r 148 0 [l0, some (aI x), l2] [] M S = go r 148 1 [l0, some (aI x), l2] [aI x] M S := go_nx rfl rfl
theorem g148_1 (r : Nat) (l0 l1 l2 : Option AV) (s0 : AV) (M : Mem) (S : Sh) : go r 148 1 [l0, l1, l2] [s0] M S = go r 148 2 [l0, l1, l2] [aI 0, s0] M S := go_nx rfl rfl
theorem g148_2 (r : Nat) (l0 l1 l2 : Option AV) (s0 s1 : AV) (M : Mem) (S : Sh) : go r 148 2 [l0, l1, l2] [s0, s1] M S = go r 148 4 [l0, l1, l2] [aI 6, s0, s1] M S := go_nx rfl rfl
theorem g148_4 (r : Nat) (l0 l1 l2 : Option AV) (x0 x1 x2 : Int) (M : Mem) (S : Sh) (hk : 10 < r) : go r 148 4 [l0, l1, l2] [aI x2, aI x1, aI x0] M S = cont r 148 7 [l0, l1, l2] [] 1 (res 106 [aI x0, aI x1, aI x2] M S) := go_c0 (m' := 106) (n := 3) (pc' := 7) (hr := 1) rfl rfl rfl rfl rfl rfl hk rfl
theorem g148_7 (r : Nat) (l0 l1 l2 : Option AV) (x : Int) (M : Mem) (S : Sh) : go r 148 7 [l0, l1, l2] [aI x] M S = if x ≠ 0 then go r 148 13 [l0, l1, l2] [] M S else go r 148 10 [l0, l1, l2] [] M S := go_br rfl rfl rfl rfl rfl
theorem g148_10 (r : Nat) (l0 l1 l2 : Option AV) (M : Mem) (S : Sh) : go r 148 10 [l0, l1, l2] [] M S = go r 148 12 [l0, l1, l2] [aI (-2)] M S := go_nx rfl rfl
theorem g148_12 (r : Nat) (l0 l1 l2 : Option AV) (x : Int) (M : Mem) (S : Sh) : go r 148 12 [l0, l1, l2] [aI x] M S = some (some (aI x), M, S) := go_rt rfl (bnd_t (Or.inl rfl))
theorem g148_13 (r : Nat) (l1 l2 : Option AV) (a : Nat) (M : Mem) (S : Sh) : go r 148 13 [some (aR a), l1, l2] [] M S = go r 148 14 [some (aR a), l1, l2] [aR a] M S := go_nx rfl rfl
theorem g148_14 (r : Nat) (l0 l1 l2 : Option AV) (a0 : Nat) (M : Mem) (S : Sh) (hk : 17 < r) (h : S.1 a0 = 6) : go r 148 14 [l0, l1, l2] [aR a0] M S = cont r 148 17 [l0, l1, l2] [] 1 (res 146 [aR a0] M S) := go_cr0 (m' := 146) (n := 1) (pc' := 17) (hr := 1) rfl rfl rfl h rfl rfl rfl rfl hk rfl
theorem g148_17 (r : Nat) (l0 l1 l2 : Option AV) (x : Int) (M : Mem) (S : Sh) : go r 148 17 [l0, l1, l2] [aI x] M S = go r 148 18 [l0, l1, some (aI x)] [] M S := go_nx rfl rfl
theorem g148_18 (r : Nat) (l0 l2 : Option AV) (x : Int) (M : Mem) (S : Sh) : go r 148 18 [l0, some (aI x), l2] [] M S = go r 148 19 [l0, some (aI x), l2] [aI x] M S := go_nx rfl rfl
theorem g148_19c0 (r : Nat) (l0 l1 l2 : Option AV) (M : Mem) (S : Sh) : go r 148 19 [l0, l1, l2] [aI 0] M S = go r 148 56 [l0, l1, l2] [] M S := go_nx rfl rfl
theorem g148_19c1 (r : Nat) (l0 l1 l2 : Option AV) (M : Mem) (S : Sh) : go r 148 19 [l0, l1, l2] [aI 1] M S = go r 148 58 [l0, l1, l2] [] M S := go_nx rfl rfl
theorem g148_19c2 (r : Nat) (l0 l1 l2 : Option AV) (M : Mem) (S : Sh) : go r 148 19 [l0, l1, l2] [aI 2] M S = go r 148 64 [l0, l1, l2] [] M S := go_nx rfl rfl
theorem g148_19c3 (r : Nat) (l0 l1 l2 : Option AV) (M : Mem) (S : Sh) : go r 148 19 [l0, l1, l2] [aI 3] M S = go r 148 70 [l0, l1, l2] [] M S := go_nx rfl rfl
theorem g148_19c4 (r : Nat) (l0 l1 l2 : Option AV) (M : Mem) (S : Sh) : go r 148 19 [l0, l1, l2] [aI 4] M S = go r 148 75 [l0, l1, l2] [] M S := go_nx rfl rfl
theorem g148_19c5 (r : Nat) (l0 l1 l2 : Option AV) (M : Mem) (S : Sh) : go r 148 19 [l0, l1, l2] [aI 5] M S = go r 148 80 [l0, l1, l2] [] M S := go_nx rfl rfl
theorem g148_19d (r : Nat) (l0 l1 l2 : Option AV) (x : Int) (M : Mem) (S : Sh) (h : x < 0 ∨ 5 < x) : go r 148 19 [l0, l1, l2] [aI x] M S = go r 148 85 [l0, l1, l2] [] M S := go_nx rfl (if_pos h)
theorem g148_56 (r : Nat) (l0 l1 : Option AV) (x : Int) (M : Mem) (S : Sh) : go r 148 56 [l0, l1, some (aI x)] [] M S = go r 148 57 [l0, l1, some (aI x)] [aI x] M S := go_nx rfl rfl
theorem g148_57 (r : Nat) (l0 l1 l2 : Option AV) (x : Int) (M : Mem) (S : Sh) : go r 148 57 [l0, l1, l2] [aI x] M S = some (some (aI x), M, S) := go_rt rfl (bnd_t (Or.inl rfl))
theorem g148_58 (r : Nat) (l1 l2 : Option AV) (a : Nat) (M : Mem) (S : Sh) : go r 148 58 [some (aR a), l1, l2] [] M S = go r 148 59 [some (aR a), l1, l2] [aR a] M S := go_nx rfl rfl
theorem g148_59 (r : Nat) (l0 l1 l2 : Option AV) (s0 : AV) (M : Mem) (S : Sh) : go r 148 59 [l0, l1, l2] [s0] M S = go r 148 60 [l0, l1, l2] [aI 2, s0] M S := go_nx rfl rfl
theorem g148_60 (r : Nat) (l0 l1 l2 : Option AV) (x1 : Int) (a0 : Nat) (M : Mem) (S : Sh) (hk : 10 < r) (h : S.1 a0 = 6) : go r 148 60 [l0, l1, l2] [aI x1, aR a0] M S = cont r 148 63 [l0, l1, l2] [] 1 (res 147 [aR a0, aI x1] M S) := go_cr0 (m' := 147) (n := 2) (pc' := 63) (hr := 1) rfl rfl rfl h rfl rfl rfl rfl hk rfl
theorem g148_63 (r : Nat) (l0 l1 l2 : Option AV) (x : Int) (M : Mem) (S : Sh) : go r 148 63 [l0, l1, l2] [aI x] M S = some (some (aI x), M, S) := go_rt rfl (bnd_t (Or.inl rfl))
theorem g148_64 (r : Nat) (l0 l1 l2 : Option AV) (M : Mem) (S : Sh) : go r 148 64 [l0, l1, l2] [] M S = go r 148 67 [l0, l1, l2] [aI 192] M S := go_nx rfl rfl
theorem g148_67 (r : Nat) (l0 l1 : Option AV) (s0 : AV) (x : Int) (M : Mem) (S : Sh) : go r 148 67 [l0, l1, some (aI x)] [s0] M S = go r 148 68 [l0, l1, some (aI x)] [aI x, s0] M S := go_nx rfl rfl
theorem g148_68 (r : Nat) (l0 l1 l2 : Option AV) (x y : Int) (M : Mem) (S : Sh) : go r 148 68 [l0, l1, l2] [aI y, aI x] M S = go r 148 69 [l0, l1, l2] [aI (w32 (x - y))] M S := go_nx rfl rfl
theorem g148_69 (r : Nat) (l0 l1 l2 : Option AV) (x : Int) (M : Mem) (S : Sh) : go r 148 69 [l0, l1, l2] [aI x] M S = some (some (aI x), M, S) := go_rt rfl (bnd_t (Or.inl rfl))
theorem g148_70 (r : Nat) (l1 l2 : Option AV) (a : Nat) (M : Mem) (S : Sh) : go r 148 70 [some (aR a), l1, l2] [] M S = go r 148 71 [some (aR a), l1, l2] [aR a] M S := go_nx rfl rfl
theorem g148_71 (r : Nat) (l0 l1 l2 : Option AV) (a : Nat) (M : Mem) (S : Sh) (h : S.1 a = 6) : go r 148 71 [l0, l1, l2] [aR a] M S = go r 148 74 [l0, l1, l2] [aI (M a 38)] M S := go_bnd rfl h rfl
theorem g148_74 (r : Nat) (l0 l1 l2 : Option AV) (x : Int) (M : Mem) (S : Sh) : go r 148 74 [l0, l1, l2] [aI x] M S = some (some (aI x), M, S) := go_rt rfl (bnd_t (Or.inl rfl))
theorem g148_75 (r : Nat) (l1 l2 : Option AV) (a : Nat) (M : Mem) (S : Sh) : go r 148 75 [some (aR a), l1, l2] [] M S = go r 148 76 [some (aR a), l1, l2] [aR a] M S := go_nx rfl rfl
theorem g148_76 (r : Nat) (l0 l1 l2 : Option AV) (a : Nat) (M : Mem) (S : Sh) (h : S.1 a = 6) : go r 148 76 [l0, l1, l2] [aR a] M S = go r 148 79 [l0, l1, l2] [aI (M a 39)] M S := go_bnd rfl h rfl
theorem g148_79 (r : Nat) (l0 l1 l2 : Option AV) (x : Int) (M : Mem) (S : Sh) : go r 148 79 [l0, l1, l2] [aI x] M S = some (some (aI x), M, S) := go_rt rfl (bnd_t (Or.inl rfl))
theorem g148_80 (r : Nat) (l1 l2 : Option AV) (a : Nat) (M : Mem) (S : Sh) : go r 148 80 [some (aR a), l1, l2] [] M S = go r 148 81 [some (aR a), l1, l2] [aR a] M S := go_nx rfl rfl
theorem g148_81 (r : Nat) (l0 l1 l2 : Option AV) (a : Nat) (M : Mem) (S : Sh) (h : S.1 a = 6) : go r 148 81 [l0, l1, l2] [aR a] M S = go r 148 84 [l0, l1, l2] [aI (M a 40)] M S := go_bnd rfl h rfl
theorem g148_84 (r : Nat) (l0 l1 l2 : Option AV) (x : Int) (M : Mem) (S : Sh) : go r 148 84 [l0, l1, l2] [aI x] M S = some (some (aI x), M, S) := go_rt rfl (bnd_t (Or.inl rfl))
theorem g148_85 (r : Nat) (l1 l2 : Option AV) (a : Nat) (M : Mem) (S : Sh) : go r 148 85 [some (aR a), l1, l2] [] M S = go r 148 86 [some (aR a), l1, l2] [aR a] M S := go_nx rfl rfl
theorem g148_86 (r : Nat) (l0 l1 l2 : Option AV) (a : Nat) (M : Mem) (S : Sh) (h : S.1 a = 6) : go r 148 86 [l0, l1, l2] [aR a] M S = go r 148 89 [l0, l1, l2] [aI (M a 41)] M S := go_bnd rfl h rfl
theorem g148_89 (r : Nat) (l0 l1 l2 : Option AV) (x : Int) (M : Mem) (S : Sh) : go r 148 89 [l0, l1, l2] [aI x] M S = some (some (aI x), M, S) := go_rt rfl (bnd_t (Or.inl rfl))
/-- StripsFromAboveModel.seen(I)I -/
theorem g149 (x1 : Int) (a0 : Nat) (M : Mem) (S : Sh) : res 149 [aR a0, aI x1] M S = go 18 149 0 [some (aR a0), some (aI x1)] [] M S := res_e0 rfl _ M S
theorem g149_0 (r : Nat) (l0 : Option AV) (x : Int) (M : Mem) (S : Sh) : go r 149 0 [l0, some (aI x)] [] M S = go r 149 1 [l0, some (aI x)] [aI x] M S := go_nx rfl rfl
theorem g149_1 (r : Nat) (l0 l1 : Option AV) (x0 : Int) (M : Mem) (S : Sh) (hk : 11 < r) : go r 149 1 [l0, l1] [aI x0] M S = cont r 149 4 [l0, l1] [] 1 (res 109 [aI x0] M S) := go_c0 (m' := 109) (n := 1) (pc' := 4) (hr := 1) rfl rfl rfl rfl rfl rfl hk rfl
theorem g149_4 (r : Nat) (l0 l1 : Option AV) (x : Int) (M : Mem) (S : Sh) : go r 149 4 [l0, l1] [aI x] M S = if x ≠ 0 then go r 149 10 [l0, l1] [] M S else go r 149 7 [l0, l1] [] M S := go_br rfl rfl rfl rfl rfl
theorem g149_7 (r : Nat) (l0 l1 : Option AV) (M : Mem) (S : Sh) : go r 149 7 [l0, l1] [] M S = go r 149 9 [l0, l1] [aI (-5)] M S := go_nx rfl rfl
theorem g149_9 (r : Nat) (l0 l1 : Option AV) (x : Int) (M : Mem) (S : Sh) : go r 149 9 [l0, l1] [aI x] M S = some (some (aI x), M, S) := go_rt rfl (bnd_t (Or.inl rfl))
theorem g149_10 (r : Nat) (l1 : Option AV) (a : Nat) (M : Mem) (S : Sh) : go r 149 10 [some (aR a), l1] [] M S = go r 149 11 [some (aR a), l1] [aR a] M S := go_nx rfl rfl
theorem g149_11 (r : Nat) (l0 l1 : Option AV) (a0 : Nat) (M : Mem) (S : Sh) (hk : 17 < r) (h : S.1 a0 = 6) : go r 149 11 [l0, l1] [aR a0] M S = cont r 149 14 [l0, l1] [] 1 (res 146 [aR a0] M S) := go_cr0 (m' := 146) (n := 1) (pc' := 14) (hr := 1) rfl rfl rfl h rfl rfl rfl rfl hk rfl
theorem g149_14 (r : Nat) (l0 l1 : Option AV) (x : Int) (M : Mem) (S : Sh) : go r 149 14 [l0, l1] [aI x] M S = go r 149 15 [l0, l1] [] M S := go_nx rfl rfl
theorem g149_15 (r : Nat) (l1 : Option AV) (a : Nat) (M : Mem) (S : Sh) : go r 149 15 [some (aR a), l1] [] M S = go r 149 16 [some (aR a), l1] [aR a] M S := go_nx rfl rfl
theorem g149_16 (r : Nat) (l0 l1 : Option AV) (a : Nat) (M : Mem) (S : Sh) (h : S.1 a = 6) : go r 149 16 [l0, l1] [aR a] M S = go r 149 19 [l0, l1] [aO (S.2.2.1 a 37)] M S := go_bnd rfl h rfl
theorem g149_19 (r : Nat) (l0 : Option AV) (s0 : AV) (x : Int) (M : Mem) (S : Sh) : go r 149 19 [l0, some (aI x)] [s0] M S = go r 149 20 [l0, some (aI x)] [aI x, s0] M S := go_nx rfl rfl
theorem g149_20 (r : Nat) (l0 l1 : Option AV) (x : Int) (a : Nat) (M : Mem) (S : Sh) (h : S.1 a = 7) (h0 : 0 ≤ x) (h1 : x < S.2.1 a) : go r 149 20 [l0, l1] [aI x, aR a] M S = go r 149 21 [l0, l1] [aI (M a x.toNat)] M S := go_bnd rfl ⟨h, h0, h1⟩ rfl
theorem g149_21 (r : Nat) (l0 l1 : Option AV) (x : Int) (M : Mem) (S : Sh) : go r 149 21 [l0, l1] [aI x] M S = some (some (aI x), M, S) := go_rt rfl (bnd_t (Or.inl rfl))
/-- StripsFromAboveModel.gap(I)I -/
theorem g150 (x1 : Int) (a0 : Nat) (M : Mem) (S : Sh) : res 150 [aR a0, aI x1] M S = go 18 150 0 [some (aR a0), some (aI x1), none, none] [] M S := res_e0 rfl _ M S
theorem g150_0 (r : Nat) (l0 l2 l3 : Option AV) (x : Int) (M : Mem) (S : Sh) : go r 150 0 [l0, some (aI x), l2, l3] [] M S = go r 150 1 [l0, some (aI x), l2, l3] [aI x] M S := go_nx rfl rfl
theorem g150_1 (r : Nat) (l0 l1 l2 l3 : Option AV) (s0 : AV) (M : Mem) (S : Sh) : go r 150 1 [l0, l1, l2, l3] [s0] M S = go r 150 2 [l0, l1, l2, l3] [aI 0, s0] M S := go_nx rfl rfl
theorem g150_2 (r : Nat) (l0 l1 l2 l3 : Option AV) (s0 s1 : AV) (M : Mem) (S : Sh) : go r 150 2 [l0, l1, l2, l3] [s0, s1] M S = go r 150 5 [l0, l1, l2, l3] [aI 191, s0, s1] M S := go_nx rfl rfl
theorem g150_5 (r : Nat) (l0 l1 l2 l3 : Option AV) (x0 x1 x2 : Int) (M : Mem) (S : Sh) (hk : 10 < r) : go r 150 5 [l0, l1, l2, l3] [aI x2, aI x1, aI x0] M S = cont r 150 8 [l0, l1, l2, l3] [] 1 (res 106 [aI x0, aI x1, aI x2] M S) := go_c0 (m' := 106) (n := 3) (pc' := 8) (hr := 1) rfl rfl rfl rfl rfl rfl hk rfl
theorem g150_8 (r : Nat) (l0 l1 l2 l3 : Option AV) (x : Int) (M : Mem) (S : Sh) : go r 150 8 [l0, l1, l2, l3] [aI x] M S = if x ≠ 0 then go r 150 14 [l0, l1, l2, l3] [] M S else go r 150 11 [l0, l1, l2, l3] [] M S := go_br rfl rfl rfl rfl rfl
theorem g150_11 (r : Nat) (l0 l1 l2 l3 : Option AV) (M : Mem) (S : Sh) : go r 150 11 [l0, l1, l2, l3] [] M S = go r 150 13 [l0, l1, l2, l3] [aI (-7)] M S := go_nx rfl rfl
theorem g150_13 (r : Nat) (l0 l1 l2 l3 : Option AV) (x : Int) (M : Mem) (S : Sh) : go r 150 13 [l0, l1, l2, l3] [aI x] M S = some (some (aI x), M, S) := go_rt rfl (bnd_t (Or.inl rfl))
theorem g150_14 (r : Nat) (l1 l2 l3 : Option AV) (a : Nat) (M : Mem) (S : Sh) : go r 150 14 [some (aR a), l1, l2, l3] [] M S = go r 150 15 [some (aR a), l1, l2, l3] [aR a] M S := go_nx rfl rfl
theorem g150_15 (r : Nat) (l0 l1 l2 l3 : Option AV) (a0 : Nat) (M : Mem) (S : Sh) (hk : 17 < r) (h : S.1 a0 = 6) : go r 150 15 [l0, l1, l2, l3] [aR a0] M S = cont r 150 18 [l0, l1, l2, l3] [] 1 (res 146 [aR a0] M S) := go_cr0 (m' := 146) (n := 1) (pc' := 18) (hr := 1) rfl rfl rfl h rfl rfl rfl rfl hk rfl
theorem g150_18 (r : Nat) (l0 l1 l2 l3 : Option AV) (x : Int) (M : Mem) (S : Sh) : go r 150 18 [l0, l1, l2, l3] [aI x] M S = go r 150 19 [l0, l1, l2, l3] [] M S := go_nx rfl rfl
theorem g150_19 (r : Nat) (l0 l2 l3 : Option AV) (x : Int) (M : Mem) (S : Sh) : go r 150 19 [l0, some (aI x), l2, l3] [] M S = go r 150 20 [l0, some (aI x), l2, l3] [aI x] M S := go_nx rfl rfl
theorem g150_20 (r : Nat) (l0 l1 l2 l3 : Option AV) (x : Int) (M : Mem) (S : Sh) : go r 150 20 [l0, l1, l2, l3] [aI x] M S = go r 150 21 [l0, l1, some (aI x), l3] [] M S := go_nx rfl rfl
theorem g150_21 (r : Nat) (l0 l1 l2 l3 : Option AV) (M : Mem) (S : Sh) : go r 150 21 [l0, l1, l2, l3] [] M S = go r 150 22 [l0, l1, l2, l3] [aI 0] M S := go_nx rfl rfl
theorem g150_22 (r : Nat) (l0 l1 l2 l3 : Option AV) (x : Int) (M : Mem) (S : Sh) : go r 150 22 [l0, l1, l2, l3] [aI x] M S = go r 150 23 [l0, l1, l2, some (aI x)] [] M S := go_nx rfl rfl
theorem g150_23 (r : Nat) (l0 l1 l2 : Option AV) (x : Int) (M : Mem) (S : Sh) : go r 150 23 [l0, l1, l2, some (aI x)] [] M S = go r 150 24 [l0, l1, l2, some (aI x)] [aI x] M S := go_nx rfl rfl
theorem g150_24 (r : Nat) (l0 l1 l2 l3 : Option AV) (s0 : AV) (M : Mem) (S : Sh) : go r 150 24 [l0, l1, l2, l3] [s0] M S = go r 150 27 [l0, l1, l2, l3] [aI 192, s0] M S := go_nx rfl rfl
theorem g150_27 (r : Nat) (l0 l1 l2 l3 : Option AV) (x y : Int) (M : Mem) (S : Sh) : go r 150 27 [l0, l1, l2, l3] [aI y, aI x] M S = if x ≥ y then go r 150 54 [l0, l1, l2, l3] [] M S else go r 150 30 [l0, l1, l2, l3] [] M S := go_br rfl rfl rfl rfl rfl
theorem g150_30 (r : Nat) (l1 l2 l3 : Option AV) (a : Nat) (M : Mem) (S : Sh) : go r 150 30 [some (aR a), l1, l2, l3] [] M S = go r 150 31 [some (aR a), l1, l2, l3] [aR a] M S := go_nx rfl rfl
theorem g150_31 (r : Nat) (l0 l1 l2 l3 : Option AV) (a : Nat) (M : Mem) (S : Sh) (h : S.1 a = 6) : go r 150 31 [l0, l1, l2, l3] [aR a] M S = go r 150 34 [l0, l1, l2, l3] [aO (S.2.2.1 a 37)] M S := go_bnd rfl h rfl
theorem g150_34 (r : Nat) (l0 l1 l2 : Option AV) (s0 : AV) (x : Int) (M : Mem) (S : Sh) : go r 150 34 [l0, l1, l2, some (aI x)] [s0] M S = go r 150 35 [l0, l1, l2, some (aI x)] [aI x, s0] M S := go_nx rfl rfl
theorem g150_35 (r : Nat) (l0 l1 l2 l3 : Option AV) (x : Int) (a : Nat) (M : Mem) (S : Sh) (h : S.1 a = 7) (h0 : 0 ≤ x) (h1 : x < S.2.1 a) : go r 150 35 [l0, l1, l2, l3] [aI x, aR a] M S = go r 150 36 [l0, l1, l2, l3] [aI (M a x.toNat)] M S := go_bnd rfl ⟨h, h0, h1⟩ rfl
theorem g150_36 (r : Nat) (l0 l1 l2 l3 : Option AV) (x : Int) (M : Mem) (S : Sh) : go r 150 36 [l0, l1, l2, l3] [aI x] M S = if x ≠ 0 then go r 150 48 [l0, l1, l2, l3] [] M S else go r 150 39 [l0, l1, l2, l3] [] M S := go_br rfl rfl rfl rfl rfl
theorem g150_39 (r : Nat) (l0 l1 l3 : Option AV) (x : Int) (M : Mem) (S : Sh) : go r 150 39 [l0, l1, some (aI x), l3] [] M S = go r 150 40 [l0, l1, some (aI x), l3] [aI x] M S := go_nx rfl rfl
theorem g150_40 (r : Nat) (l0 l1 l2 l3 : Option AV) (x : Int) (M : Mem) (S : Sh) : go r 150 40 [l0, l1, l2, l3] [aI x] M S = if x ≠ 0 then go r 150 45 [l0, l1, l2, l3] [] M S else go r 150 43 [l0, l1, l2, l3] [] M S := go_br rfl rfl rfl rfl rfl
theorem g150_43 (r : Nat) (l0 l1 l2 : Option AV) (x : Int) (M : Mem) (S : Sh) : go r 150 43 [l0, l1, l2, some (aI x)] [] M S = go r 150 44 [l0, l1, l2, some (aI x)] [aI x] M S := go_nx rfl rfl
theorem g150_44 (r : Nat) (l0 l1 l2 l3 : Option AV) (x : Int) (M : Mem) (S : Sh) : go r 150 44 [l0, l1, l2, l3] [aI x] M S = some (some (aI x), M, S) := go_rt rfl (bnd_t (Or.inl rfl))
theorem g150_45 (r : Nat) (l0 l1 l3 : Option AV) (x : Int) (M : Mem) (S : Sh) : go r 150 45 [l0, l1, some (aI x), l3] [] M S = go r 150 48 [l0, l1, some (aI (w32 (x + (-1)))), l3] [] M S := go_nx rfl rfl
theorem g150_48 (r : Nat) (l0 l1 l2 : Option AV) (x : Int) (M : Mem) (S : Sh) : go r 150 48 [l0, l1, l2, some (aI x)] [] M S = go r 150 51 [l0, l1, l2, some (aI (w32 (x + 1)))] [] M S := go_nx rfl rfl
theorem g150_51 (r : Nat) (l0 l1 l2 l3 : Option AV) (M : Mem) (S : Sh) : go r 150 51 [l0, l1, l2, l3] [] M S = go r 150 23 [l0, l1, l2, l3] [] M S := go_nx rfl rfl
theorem g150_54 (r : Nat) (l0 l1 l2 l3 : Option AV) (M : Mem) (S : Sh) : go r 150 54 [l0, l1, l2, l3] [] M S = go r 150 55 [l0, l1, l2, l3] [aI (-1)] M S := go_nx rfl rfl
theorem g150_55 (r : Nat) (l0 l1 l2 l3 : Option AV) (x : Int) (M : Mem) (S : Sh) : go r 150 55 [l0, l1, l2, l3] [aI x] M S = some (some (aI x), M, S) := go_rt rfl (bnd_t (Or.inl rfl))
/-- StripsFromAboveModel.spare(I)I -/
theorem g151 (x1 : Int) (a0 : Nat) (M : Mem) (S : Sh) : res 151 [aR a0, aI x1] M S = go 18 151 0 [some (aR a0), some (aI x1), none, none, none, none] [] M S := res_e0 rfl _ M S
theorem g151_0 (r : Nat) (l0 l2 l3 l4 l5 : Option AV) (x : Int) (M : Mem) (S : Sh) : go r 151 0 [l0, some (aI x), l2, l3, l4, l5] [] M S = go r 151 1 [l0, some (aI x), l2, l3, l4, l5] [aI x] M S := go_nx rfl rfl
theorem g151_1 (r : Nat) (l0 l1 l2 l3 l4 l5 : Option AV) (s0 : AV) (M : Mem) (S : Sh) : go r 151 1 [l0, l1, l2, l3, l4, l5] [s0] M S = go r 151 2 [l0, l1, l2, l3, l4, l5] [aI 0, s0] M S := go_nx rfl rfl
theorem g151_2 (r : Nat) (l0 l1 l2 l3 l4 l5 : Option AV) (s0 s1 : AV) (M : Mem) (S : Sh) : go r 151 2 [l0, l1, l2, l3, l4, l5] [s0, s1] M S = go r 151 3 [l0, l1, l2, l3, l4, l5] [aI 1, s0, s1] M S := go_nx rfl rfl
theorem g151_3 (r : Nat) (l0 l1 l2 l3 l4 l5 : Option AV) (x0 x1 x2 : Int) (M : Mem) (S : Sh) (hk : 10 < r) : go r 151 3 [l0, l1, l2, l3, l4, l5] [aI x2, aI x1, aI x0] M S = cont r 151 6 [l0, l1, l2, l3, l4, l5] [] 1 (res 106 [aI x0, aI x1, aI x2] M S) := go_c0 (m' := 106) (n := 3) (pc' := 6) (hr := 1) rfl rfl rfl rfl rfl rfl hk rfl
theorem g151_6 (r : Nat) (l0 l1 l2 l3 l4 l5 : Option AV) (x : Int) (M : Mem) (S : Sh) : go r 151 6 [l0, l1, l2, l3, l4, l5] [aI x] M S = if x ≠ 0 then go r 151 12 [l0, l1, l2, l3, l4, l5] [] M S else go r 151 9 [l0, l1, l2, l3, l4, l5] [] M S := go_br rfl rfl rfl rfl rfl
theorem g151_9 (r : Nat) (l0 l1 l2 l3 l4 l5 : Option AV) (M : Mem) (S : Sh) : go r 151 9 [l0, l1, l2, l3, l4, l5] [] M S = go r 151 11 [l0, l1, l2, l3, l4, l5] [aI (-2)] M S := go_nx rfl rfl
theorem g151_11 (r : Nat) (l0 l1 l2 l3 l4 l5 : Option AV) (x : Int) (M : Mem) (S : Sh) : go r 151 11 [l0, l1, l2, l3, l4, l5] [aI x] M S = some (some (aI x), M, S) := go_rt rfl (bnd_t (Or.inl rfl))
theorem g151_12 (r : Nat) (l1 l2 l3 l4 l5 : Option AV) (a : Nat) (M : Mem) (S : Sh) : go r 151 12 [some (aR a), l1, l2, l3, l4, l5] [] M S = go r 151 13 [some (aR a), l1, l2, l3, l4, l5] [aR a] M S := go_nx rfl rfl
theorem g151_13 (r : Nat) (l0 l1 l2 l3 l4 l5 : Option AV) (a0 : Nat) (M : Mem) (S : Sh) (hk : 17 < r) (h : S.1 a0 = 6) : go r 151 13 [l0, l1, l2, l3, l4, l5] [aR a0] M S = cont r 151 16 [l0, l1, l2, l3, l4, l5] [] 1 (res 146 [aR a0] M S) := go_cr0 (m' := 146) (n := 1) (pc' := 16) (hr := 1) rfl rfl rfl h rfl rfl rfl rfl hk rfl
theorem g151_16 (r : Nat) (l0 l1 l2 l3 l4 l5 : Option AV) (x : Int) (M : Mem) (S : Sh) : go r 151 16 [l0, l1, l2, l3, l4, l5] [aI x] M S = go r 151 17 [l0, l1, some (aI x), l3, l4, l5] [] M S := go_nx rfl rfl
theorem g151_17 (r : Nat) (l0 l1 l2 l3 l4 l5 : Option AV) (M : Mem) (S : Sh) : go r 151 17 [l0, l1, l2, l3, l4, l5] [] M S = go r 151 18 [l0, l1, l2, l3, l4, l5] [aI (-1)] M S := go_nx rfl rfl
theorem g151_18 (r : Nat) (l0 l1 l2 l3 l4 l5 : Option AV) (x : Int) (M : Mem) (S : Sh) : go r 151 18 [l0, l1, l2, l3, l4, l5] [aI x] M S = go r 151 19 [l0, l1, l2, some (aI x), l4, l5] [] M S := go_nx rfl rfl
theorem g151_19 (r : Nat) (l0 l1 l2 l3 l4 l5 : Option AV) (M : Mem) (S : Sh) : go r 151 19 [l0, l1, l2, l3, l4, l5] [] M S = go r 151 20 [l0, l1, l2, l3, l4, l5] [aI (-1)] M S := go_nx rfl rfl
theorem g151_20 (r : Nat) (l0 l1 l2 l3 l4 l5 : Option AV) (x : Int) (M : Mem) (S : Sh) : go r 151 20 [l0, l1, l2, l3, l4, l5] [aI x] M S = go r 151 22 [l0, l1, l2, l3, some (aI x), l5] [] M S := go_nx rfl rfl
theorem g151_22 (r : Nat) (l0 l1 l2 l3 l4 l5 : Option AV) (M : Mem) (S : Sh) : go r 151 22 [l0, l1, l2, l3, l4, l5] [] M S = go r 151 23 [l0, l1, l2, l3, l4, l5] [aI 0] M S := go_nx rfl rfl
