set_option maxRecDepth 20000 in
theorem g175_106 (r : Nat) (l0 l1 l2 l3 l4 l5 l6 l7 l8 l9 : Option AV) (s0 : AV) (x y : Int) (M : Mem) (S : Sh) : go r 175 106 [l0, l1, l2, l3, l4, l5, l6, l7, l8, l9] [aI y, aI x, s0] M S = go r 175 107 [l0, l1, l2, l3, l4, l5, l6, l7, l8, l9] [aI (w32 (x - y)), s0] M S := go_nx rfl rfl
set_option maxRecDepth 20000 in
theorem g175_107 (r : Nat) (l0 l1 l2 l3 l4 l5 l6 l7 l8 l9 : Option AV) (x y : Int) (M : Mem) (S : Sh) : go r 175 107 [l0, l1, l2, l3, l4, l5, l6, l7, l8, l9] [aI y, aI x] M S = if x > y then go r 175 124 [l0, l1, l2, l3, l4, l5, l6, l7, l8, l9] [] M S else go r 175 110 [l0, l1, l2, l3, l4, l5, l6, l7, l8, l9] [] M S := go_br rfl rfl rfl rfl rfl
set_option maxRecDepth 20000 in
theorem g175_110 (r : Nat) (l0 l1 l2 l3 l4 l6 l7 l8 l9 : Option AV) (x : Int) (M : Mem) (S : Sh) : go r 175 110 [l0, l1, l2, l3, l4, some (aI x), l6, l7, l8, l9] [] M S = go r 175 112 [l0, l1, l2, l3, l4, some (aI x), l6, l7, l8, l9] [aI x] M S := go_nx rfl rfl
set_option maxRecDepth 20000 in
theorem g175_112 (r : Nat) (l1 l2 l3 l4 l5 l6 l7 l8 l9 : Option AV) (s0 : AV) (a : Nat) (M : Mem) (S : Sh) : go r 175 112 [some (aR a), l1, l2, l3, l4, l5, l6, l7, l8, l9] [s0] M S = go r 175 113 [some (aR a), l1, l2, l3, l4, l5, l6, l7, l8, l9] [aR a, s0] M S := go_nx rfl rfl
set_option maxRecDepth 20000 in
theorem g175_113 (r : Nat) (l0 l1 l2 l3 l4 l5 l6 l7 l8 l9 : Option AV) (s0 : AV) (a : Nat) (M : Mem) (S : Sh) (h : S.1 a = 6) : go r 175 113 [l0, l1, l2, l3, l4, l5, l6, l7, l8, l9] [aR a, s0] M S = go r 175 116 [l0, l1, l2, l3, l4, l5, l6, l7, l8, l9] [aO (S.2.2.1 a 23), s0] M S := go_bnd rfl h rfl
set_option maxRecDepth 20000 in
theorem g175_116 (r : Nat) (l0 l1 l2 l4 l5 l6 l7 l8 l9 : Option AV) (s0 s1 : AV) (x : Int) (M : Mem) (S : Sh) : go r 175 116 [l0, l1, l2, some (aI x), l4, l5, l6, l7, l8, l9] [s0, s1] M S = go r 175 117 [l0, l1, l2, some (aI x), l4, l5, l6, l7, l8, l9] [aI x, s0, s1] M S := go_nx rfl rfl
set_option maxRecDepth 20000 in
theorem g175_117 (r : Nat) (l0 l1 l2 l3 l4 l5 l6 l7 l8 l9 : Option AV) (s0 : AV) (x : Int) (a : Nat) (M : Mem) (S : Sh) (h : S.1 a = 7) (h0 : 0 ≤ x) (h1 : x < S.2.1 a) : go r 175 117 [l0, l1, l2, l3, l4, l5, l6, l7, l8, l9] [aI x, aR a, s0] M S = go r 175 118 [l0, l1, l2, l3, l4, l5, l6, l7, l8, l9] [aI (M a x.toNat), s0] M S := go_bnd rfl ⟨h, h0, h1⟩ rfl
set_option maxRecDepth 20000 in
theorem g175_118 (r : Nat) (l0 l1 l2 l3 l5 l6 l7 l8 l9 : Option AV) (s0 s1 : AV) (x : Int) (M : Mem) (S : Sh) : go r 175 118 [l0, l1, l2, l3, some (aI x), l5, l6, l7, l8, l9] [s0, s1] M S = go r 175 120 [l0, l1, l2, l3, some (aI x), l5, l6, l7, l8, l9] [aI x, s0, s1] M S := go_nx rfl rfl
set_option maxRecDepth 20000 in
theorem g175_120 (r : Nat) (l0 l1 l2 l3 l4 l5 l6 l7 l8 l9 : Option AV) (s0 : AV) (x y : Int) (M : Mem) (S : Sh) : go r 175 120 [l0, l1, l2, l3, l4, l5, l6, l7, l8, l9] [aI y, aI x, s0] M S = go r 175 121 [l0, l1, l2, l3, l4, l5, l6, l7, l8, l9] [aI (w32 (x - y)), s0] M S := go_nx rfl rfl
set_option maxRecDepth 20000 in
theorem g175_121 (r : Nat) (l0 l1 l2 l3 l4 l5 l6 l7 l8 l9 : Option AV) (x y : Int) (M : Mem) (S : Sh) : go r 175 121 [l0, l1, l2, l3, l4, l5, l6, l7, l8, l9] [aI y, aI x] M S = if x ≤ y then go r 175 127 [l0, l1, l2, l3, l4, l5, l6, l7, l8, l9] [] M S else go r 175 124 [l0, l1, l2, l3, l4, l5, l6, l7, l8, l9] [] M S := go_br rfl rfl rfl rfl rfl
set_option maxRecDepth 20000 in
theorem g175_124 (r : Nat) (l0 l1 l2 l3 l4 l5 l6 l7 l8 l9 : Option AV) (M : Mem) (S : Sh) : go r 175 124 [l0, l1, l2, l3, l4, l5, l6, l7, l8, l9] [] M S = go r 175 126 [l0, l1, l2, l3, l4, l5, l6, l7, l8, l9] [aI (-12)] M S := go_nx rfl rfl
set_option maxRecDepth 20000 in
theorem g175_126 (r : Nat) (l0 l1 l2 l3 l4 l5 l6 l7 l8 l9 : Option AV) (x : Int) (M : Mem) (S : Sh) : go r 175 126 [l0, l1, l2, l3, l4, l5, l6, l7, l8, l9] [aI x] M S = some (some (aI x), M, S) := go_rt rfl (bnd_t (Or.inl rfl))
set_option maxRecDepth 20000 in
theorem g175_127 (r : Nat) (l0 l1 l2 l3 l4 l5 l6 l7 l8 l9 : Option AV) (M : Mem) (S : Sh) : go r 175 127 [l0, l1, l2, l3, l4, l5, l6, l7, l8, l9] [] M S = go r 175 129 [l0, l1, l2, l3, l4, l5, l6, l7, l8, l9] [aI 40] M S := go_nx rfl rfl
set_option maxRecDepth 20000 in
theorem g175_129 (r : Nat) (l0 l2 l3 l4 l5 l6 l7 l8 l9 : Option AV) (s0 : AV) (x : Int) (M : Mem) (S : Sh) : go r 175 129 [l0, some (aI x), l2, l3, l4, l5, l6, l7, l8, l9] [s0] M S = go r 175 130 [l0, some (aI x), l2, l3, l4, l5, l6, l7, l8, l9] [aI x, s0] M S := go_nx rfl rfl
set_option maxRecDepth 20000 in
theorem g175_130 (r : Nat) (l0 l1 l2 l3 l4 l5 l6 l7 l8 l9 : Option AV) (x y : Int) (M : Mem) (S : Sh) : go r 175 130 [l0, l1, l2, l3, l4, l5, l6, l7, l8, l9] [aI y, aI x] M S = go r 175 131 [l0, l1, l2, l3, l4, l5, l6, l7, l8, l9] [aI (w32 (x * y))] M S := go_nx rfl rfl
set_option maxRecDepth 20000 in
theorem g175_131 (r : Nat) (l0 l1 l3 l4 l5 l6 l7 l8 l9 : Option AV) (s0 : AV) (x : Int) (M : Mem) (S : Sh) : go r 175 131 [l0, l1, some (aI x), l3, l4, l5, l6, l7, l8, l9] [s0] M S = go r 175 132 [l0, l1, some (aI x), l3, l4, l5, l6, l7, l8, l9] [aI x, s0] M S := go_nx rfl rfl
set_option maxRecDepth 20000 in
theorem g175_132 (r : Nat) (l0 l1 l2 l3 l4 l5 l6 l7 l8 l9 : Option AV) (x y : Int) (M : Mem) (S : Sh) : go r 175 132 [l0, l1, l2, l3, l4, l5, l6, l7, l8, l9] [aI y, aI x] M S = go r 175 133 [l0, l1, l2, l3, l4, l5, l6, l7, l8, l9] [aI (w32 (x + y))] M S := go_nx rfl rfl
set_option maxRecDepth 20000 in
theorem g175_133 (r : Nat) (l0 l1 l2 l3 l4 l5 l6 l7 l8 l9 : Option AV) (x : Int) (M : Mem) (S : Sh) : go r 175 133 [l0, l1, l2, l3, l4, l5, l6, l7, l8, l9] [aI x] M S = go r 175 135 [l0, l1, l2, l3, l4, l5, some (aI x), l7, l8, l9] [] M S := go_nx rfl rfl
set_option maxRecDepth 20000 in
theorem g175_135 (r : Nat) (l0 l1 l2 l3 l4 l5 l6 l7 l8 l9 : Option AV) (M : Mem) (S : Sh) : go r 175 135 [l0, l1, l2, l3, l4, l5, l6, l7, l8, l9] [] M S = go r 175 137 [l0, l1, l2, l3, l4, l5, l6, l7, l8, l9] [aI 40] M S := go_nx rfl rfl
set_option maxRecDepth 20000 in
theorem g175_137 (r : Nat) (l0 l1 l2 l4 l5 l6 l7 l8 l9 : Option AV) (s0 : AV) (x : Int) (M : Mem) (S : Sh) : go r 175 137 [l0, l1, l2, some (aI x), l4, l5, l6, l7, l8, l9] [s0] M S = go r 175 138 [l0, l1, l2, some (aI x), l4, l5, l6, l7, l8, l9] [aI x, s0] M S := go_nx rfl rfl
set_option maxRecDepth 20000 in
theorem g175_138 (r : Nat) (l0 l1 l2 l3 l4 l5 l6 l7 l8 l9 : Option AV) (x y : Int) (M : Mem) (S : Sh) : go r 175 138 [l0, l1, l2, l3, l4, l5, l6, l7, l8, l9] [aI y, aI x] M S = go r 175 139 [l0, l1, l2, l3, l4, l5, l6, l7, l8, l9] [aI (w32 (x * y))] M S := go_nx rfl rfl
set_option maxRecDepth 20000 in
theorem g175_139 (r : Nat) (l0 l1 l2 l3 l5 l6 l7 l8 l9 : Option AV) (s0 : AV) (x : Int) (M : Mem) (S : Sh) : go r 175 139 [l0, l1, l2, l3, some (aI x), l5, l6, l7, l8, l9] [s0] M S = go r 175 141 [l0, l1, l2, l3, some (aI x), l5, l6, l7, l8, l9] [aI x, s0] M S := go_nx rfl rfl
set_option maxRecDepth 20000 in
theorem g175_141 (r : Nat) (l0 l1 l2 l3 l4 l5 l6 l7 l8 l9 : Option AV) (x y : Int) (M : Mem) (S : Sh) : go r 175 141 [l0, l1, l2, l3, l4, l5, l6, l7, l8, l9] [aI y, aI x] M S = go r 175 142 [l0, l1, l2, l3, l4, l5, l6, l7, l8, l9] [aI (w32 (x + y))] M S := go_nx rfl rfl
set_option maxRecDepth 20000 in
theorem g175_142 (r : Nat) (l0 l1 l2 l3 l4 l5 l6 l7 l8 l9 : Option AV) (x : Int) (M : Mem) (S : Sh) : go r 175 142 [l0, l1, l2, l3, l4, l5, l6, l7, l8, l9] [aI x] M S = go r 175 144 [l0, l1, l2, l3, l4, l5, l6, some (aI x), l8, l9] [] M S := go_nx rfl rfl
set_option maxRecDepth 20000 in
theorem g175_144 (r : Nat) (l0 l1 l2 l3 l4 l5 l6 l7 l8 l9 : Option AV) (M : Mem) (S : Sh) : go r 175 144 [l0, l1, l2, l3, l4, l5, l6, l7, l8, l9] [] M S = go r 175 145 [l0, l1, l2, l3, l4, l5, l6, l7, l8, l9] [aI 0] M S := go_nx rfl rfl
set_option maxRecDepth 20000 in
theorem g175_145 (r : Nat) (l0 l1 l2 l3 l4 l5 l6 l7 l8 l9 : Option AV) (x : Int) (M : Mem) (S : Sh) : go r 175 145 [l0, l1, l2, l3, l4, l5, l6, l7, l8, l9] [aI x] M S = go r 175 147 [l0, l1, l2, l3, l4, l5, l6, l7, some (aI x), l9] [] M S := go_nx rfl rfl
set_option maxRecDepth 20000 in
theorem g175_147 (r : Nat) (l0 l1 l2 l3 l4 l5 l6 l7 l9 : Option AV) (x : Int) (M : Mem) (S : Sh) : go r 175 147 [l0, l1, l2, l3, l4, l5, l6, l7, some (aI x), l9] [] M S = go r 175 149 [l0, l1, l2, l3, l4, l5, l6, l7, some (aI x), l9] [aI x] M S := go_nx rfl rfl
set_option maxRecDepth 20000 in
theorem g175_149 (r : Nat) (l0 l1 l2 l3 l4 l6 l7 l8 l9 : Option AV) (s0 : AV) (x : Int) (M : Mem) (S : Sh) : go r 175 149 [l0, l1, l2, l3, l4, some (aI x), l6, l7, l8, l9] [s0] M S = go r 175 151 [l0, l1, l2, l3, l4, some (aI x), l6, l7, l8, l9] [aI x, s0] M S := go_nx rfl rfl
set_option maxRecDepth 20000 in
theorem g175_151 (r : Nat) (l0 l1 l2 l3 l4 l5 l6 l7 l8 l9 : Option AV) (x y : Int) (M : Mem) (S : Sh) : go r 175 151 [l0, l1, l2, l3, l4, l5, l6, l7, l8, l9] [aI y, aI x] M S = if x ≥ y then go r 175 201 [l0, l1, l2, l3, l4, l5, l6, l7, l8, l9] [] M S else go r 175 154 [l0, l1, l2, l3, l4, l5, l6, l7, l8, l9] [] M S := go_br rfl rfl rfl rfl rfl
set_option maxRecDepth 20000 in
theorem g175_154 (r : Nat) (l0 l1 l2 l3 l4 l5 l7 l8 l9 : Option AV) (x : Int) (M : Mem) (S : Sh) : go r 175 154 [l0, l1, l2, l3, l4, l5, some (aI x), l7, l8, l9] [] M S = go r 175 156 [l0, l1, l2, l3, l4, l5, some (aI x), l7, l8, l9] [aI x] M S := go_nx rfl rfl
set_option maxRecDepth 20000 in
theorem g175_156 (r : Nat) (l0 l1 l2 l3 l4 l5 l6 l8 l9 : Option AV) (s0 : AV) (x : Int) (M : Mem) (S : Sh) : go r 175 156 [l0, l1, l2, l3, l4, l5, l6, some (aI x), l8, l9] [s0] M S = go r 175 158 [l0, l1, l2, l3, l4, l5, l6, some (aI x), l8, l9] [aI x, s0] M S := go_nx rfl rfl
set_option maxRecDepth 20000 in
theorem g175_158 (r : Nat) (l0 l1 l2 l3 l4 l5 l6 l7 l8 l9 : Option AV) (x y : Int) (M : Mem) (S : Sh) : go r 175 158 [l0, l1, l2, l3, l4, l5, l6, l7, l8, l9] [aI y, aI x] M S = if x ≥ y then go r 175 171 [l0, l1, l2, l3, l4, l5, l6, l7, l8, l9] [] M S else go r 175 161 [l0, l1, l2, l3, l4, l5, l6, l7, l8, l9] [] M S := go_br rfl rfl rfl rfl rfl
set_option maxRecDepth 20000 in
theorem g175_161 (r : Nat) (l0 l1 l2 l3 l4 l6 l7 l8 l9 : Option AV) (x : Int) (M : Mem) (S : Sh) : go r 175 161 [l0, l1, l2, l3, l4, some (aI x), l6, l7, l8, l9] [] M S = go r 175 163 [l0, l1, l2, l3, l4, some (aI x), l6, l7, l8, l9] [aI x] M S := go_nx rfl rfl
set_option maxRecDepth 20000 in
theorem g175_163 (r : Nat) (l0 l1 l2 l3 l4 l5 l6 l7 l8 l9 : Option AV) (s0 : AV) (M : Mem) (S : Sh) : go r 175 163 [l0, l1, l2, l3, l4, l5, l6, l7, l8, l9] [s0] M S = go r 175 164 [l0, l1, l2, l3, l4, l5, l6, l7, l8, l9] [aI 1, s0] M S := go_nx rfl rfl
set_option maxRecDepth 20000 in
theorem g175_164 (r : Nat) (l0 l1 l2 l3 l4 l5 l6 l7 l8 l9 : Option AV) (x y : Int) (M : Mem) (S : Sh) : go r 175 164 [l0, l1, l2, l3, l4, l5, l6, l7, l8, l9] [aI y, aI x] M S = go r 175 165 [l0, l1, l2, l3, l4, l5, l6, l7, l8, l9] [aI (w32 (x - y))] M S := go_nx rfl rfl
set_option maxRecDepth 20000 in
theorem g175_165 (r : Nat) (l0 l1 l2 l3 l4 l5 l6 l7 l9 : Option AV) (s0 : AV) (x : Int) (M : Mem) (S : Sh) : go r 175 165 [l0, l1, l2, l3, l4, l5, l6, l7, some (aI x), l9] [s0] M S = go r 175 167 [l0, l1, l2, l3, l4, l5, l6, l7, some (aI x), l9] [aI x, s0] M S := go_nx rfl rfl
set_option maxRecDepth 20000 in
theorem g175_167 (r : Nat) (l0 l1 l2 l3 l4 l5 l6 l7 l8 l9 : Option AV) (x y : Int) (M : Mem) (S : Sh) : go r 175 167 [l0, l1, l2, l3, l4, l5, l6, l7, l8, l9] [aI y, aI x] M S = go r 175 168 [l0, l1, l2, l3, l4, l5, l6, l7, l8, l9] [aI (w32 (x - y))] M S := go_nx rfl rfl
set_option maxRecDepth 20000 in
theorem g175_168 (r : Nat) (l0 l1 l2 l3 l4 l5 l6 l7 l8 l9 : Option AV) (s0 : AV) (M : Mem) (S : Sh) : go r 175 168 [l0, l1, l2, l3, l4, l5, l6, l7, l8, l9] [s0] M S = go r 175 173 [l0, l1, l2, l3, l4, l5, l6, l7, l8, l9] [s0] M S := go_nx rfl rfl
set_option maxRecDepth 20000 in
theorem g175_171 (r : Nat) (l0 l1 l2 l3 l4 l5 l6 l7 l9 : Option AV) (x : Int) (M : Mem) (S : Sh) : go r 175 171 [l0, l1, l2, l3, l4, l5, l6, l7, some (aI x), l9] [] M S = go r 175 173 [l0, l1, l2, l3, l4, l5, l6, l7, some (aI x), l9] [aI x] M S := go_nx rfl rfl
set_option maxRecDepth 20000 in
theorem g175_173 (r : Nat) (l0 l1 l2 l3 l4 l5 l6 l7 l8 l9 : Option AV) (x : Int) (M : Mem) (S : Sh) : go r 175 173 [l0, l1, l2, l3, l4, l5, l6, l7, l8, l9] [aI x] M S = go r 175 175 [l0, l1, l2, l3, l4, l5, l6, l7, l8, some (aI x)] [] M S := go_nx rfl rfl
set_option maxRecDepth 20000 in
theorem g175_175 (r : Nat) (l1 l2 l3 l4 l5 l6 l7 l8 l9 : Option AV) (a : Nat) (M : Mem) (S : Sh) : go r 175 175 [some (aR a), l1, l2, l3, l4, l5, l6, l7, l8, l9] [] M S = go r 175 176 [some (aR a), l1, l2, l3, l4, l5, l6, l7, l8, l9] [aR a] M S := go_nx rfl rfl
set_option maxRecDepth 20000 in
theorem g175_176 (r : Nat) (l0 l1 l2 l3 l4 l5 l6 l7 l8 l9 : Option AV) (a : Nat) (M : Mem) (S : Sh) (h : S.1 a = 6) : go r 175 176 [l0, l1, l2, l3, l4, l5, l6, l7, l8, l9] [aR a] M S = go r 175 179 [l0, l1, l2, l3, l4, l5, l6, l7, l8, l9] [aO (S.2.2.1 a 24)] M S := go_bnd rfl h rfl
set_option maxRecDepth 20000 in
theorem g175_179 (r : Nat) (l0 l1 l2 l3 l4 l5 l6 l8 l9 : Option AV) (s0 : AV) (x : Int) (M : Mem) (S : Sh) : go r 175 179 [l0, l1, l2, l3, l4, l5, l6, some (aI x), l8, l9] [s0] M S = go r 175 181 [l0, l1, l2, l3, l4, l5, l6, some (aI x), l8, l9] [aI x, s0] M S := go_nx rfl rfl
set_option maxRecDepth 20000 in
theorem g175_181 (r : Nat) (l0 l1 l2 l3 l4 l5 l6 l7 l8 : Option AV) (s0 s1 : AV) (x : Int) (M : Mem) (S : Sh) : go r 175 181 [l0, l1, l2, l3, l4, l5, l6, l7, l8, some (aI x)] [s0, s1] M S = go r 175 183 [l0, l1, l2, l3, l4, l5, l6, l7, l8, some (aI x)] [aI x, s0, s1] M S := go_nx rfl rfl
set_option maxRecDepth 20000 in
theorem g175_183 (r : Nat) (l0 l1 l2 l3 l4 l5 l6 l7 l8 l9 : Option AV) (s0 : AV) (x y : Int) (M : Mem) (S : Sh) : go r 175 183 [l0, l1, l2, l3, l4, l5, l6, l7, l8, l9] [aI y, aI x, s0] M S = go r 175 184 [l0, l1, l2, l3, l4, l5, l6, l7, l8, l9] [aI (w32 (x + y)), s0] M S := go_nx rfl rfl
set_option maxRecDepth 20000 in
theorem g175_184 (r : Nat) (l1 l2 l3 l4 l5 l6 l7 l8 l9 : Option AV) (s0 s1 : AV) (a : Nat) (M : Mem) (S : Sh) : go r 175 184 [some (aR a), l1, l2, l3, l4, l5, l6, l7, l8, l9] [s0, s1] M S = go r 175 185 [some (aR a), l1, l2, l3, l4, l5, l6, l7, l8, l9] [aR a, s0, s1] M S := go_nx rfl rfl
set_option maxRecDepth 20000 in
theorem g175_185 (r : Nat) (l0 l1 l2 l3 l4 l5 l6 l7 l8 l9 : Option AV) (s0 s1 : AV) (a : Nat) (M : Mem) (S : Sh) (h : S.1 a = 6) : go r 175 185 [l0, l1, l2, l3, l4, l5, l6, l7, l8, l9] [aR a, s0, s1] M S = go r 175 188 [l0, l1, l2, l3, l4, l5, l6, l7, l8, l9] [aO (S.2.2.1 a 24), s0, s1] M S := go_bnd rfl h rfl
set_option maxRecDepth 20000 in
theorem g175_188 (r : Nat) (l0 l1 l2 l3 l4 l5 l7 l8 l9 : Option AV) (s0 s1 s2 : AV) (x : Int) (M : Mem) (S : Sh) : go r 175 188 [l0, l1, l2, l3, l4, l5, some (aI x), l7, l8, l9] [s0, s1, s2] M S = go r 175 190 [l0, l1, l2, l3, l4, l5, some (aI x), l7, l8, l9] [aI x, s0, s1, s2] M S := go_nx rfl rfl
set_option maxRecDepth 20000 in
theorem g175_190 (r : Nat) (l0 l1 l2 l3 l4 l5 l6 l7 l8 : Option AV) (s0 s1 s2 s3 : AV) (x : Int) (M : Mem) (S : Sh) : go r 175 190 [l0, l1, l2, l3, l4, l5, l6, l7, l8, some (aI x)] [s0, s1, s2, s3] M S = go r 175 192 [l0, l1, l2, l3, l4, l5, l6, l7, l8, some (aI x)] [aI x, s0, s1, s2, s3] M S := go_nx rfl rfl
set_option maxRecDepth 20000 in
theorem g175_192 (r : Nat) (l0 l1 l2 l3 l4 l5 l6 l7 l8 l9 : Option AV) (s0 s1 s2 : AV) (x y : Int) (M : Mem) (S : Sh) : go r 175 192 [l0, l1, l2, l3, l4, l5, l6, l7, l8, l9] [aI y, aI x, s0, s1, s2] M S = go r 175 193 [l0, l1, l2, l3, l4, l5, l6, l7, l8, l9] [aI (w32 (x + y)), s0, s1, s2] M S := go_nx rfl rfl
set_option maxRecDepth 20000 in
theorem g175_193 (r : Nat) (l0 l1 l2 l3 l4 l5 l6 l7 l8 l9 : Option AV) (s0 s1 : AV) (x : Int) (a : Nat) (M : Mem) (S : Sh) (h : S.1 a = 7) (h0 : 0 ≤ x) (h1 : x < S.2.1 a) : go r 175 193 [l0, l1, l2, l3, l4, l5, l6, l7, l8, l9] [aI x, aR a, s0, s1] M S = go r 175 194 [l0, l1, l2, l3, l4, l5, l6, l7, l8, l9] [aI (M a x.toNat), s0, s1] M S := go_bnd rfl ⟨h, h0, h1⟩ rfl
set_option maxRecDepth 20000 in
theorem g175_194 (r : Nat) (l0 l1 l2 l3 l4 l5 l6 l7 l8 l9 : Option AV) (x y : Int) (a : Nat) (M : Mem) (S : Sh) (h : S.1 a = 7) (h6 : 6 ≤ a) (h0 : 0 ≤ x) (h1 : x < S.2.1 a) : go r 175 194 [l0, l1, l2, l3, l4, l5, l6, l7, l8, l9] [aI y, aI x, aR a] M S = go r 175 195 [l0, l1, l2, l3, l4, l5, l6, l7, l8, l9] [] (mset M a x.toNat y) S := go_bnd rfl ⟨h, h6, h0, h1⟩ rfl
set_option maxRecDepth 20000 in
theorem g175_195 (r : Nat) (l0 l1 l2 l3 l4 l5 l6 l7 l9 : Option AV) (x : Int) (M : Mem) (S : Sh) : go r 175 195 [l0, l1, l2, l3, l4, l5, l6, l7, some (aI x), l9] [] M S = go r 175 198 [l0, l1, l2, l3, l4, l5, l6, l7, some (aI (w32 (x + 1))), l9] [] M S := go_nx rfl rfl
set_option maxRecDepth 20000 in
theorem g175_198 (r : Nat) (l0 l1 l2 l3 l4 l5 l6 l7 l8 l9 : Option AV) (M : Mem) (S : Sh) : go r 175 198 [l0, l1, l2, l3, l4, l5, l6, l7, l8, l9] [] M S = go r 175 147 [l0, l1, l2, l3, l4, l5, l6, l7, l8, l9] [] M S := go_nx rfl rfl
set_option maxRecDepth 20000 in
theorem g175_201 (r : Nat) (l0 l1 l2 l3 l4 l6 l7 l8 l9 : Option AV) (x : Int) (M : Mem) (S : Sh) : go r 175 201 [l0, l1, l2, l3, l4, some (aI x), l6, l7, l8, l9] [] M S = go r 175 203 [l0, l1, l2, l3, l4, some (aI x), l6, l7, l8, l9] [aI x] M S := go_nx rfl rfl
set_option maxRecDepth 20000 in
theorem g175_203 (r : Nat) (l0 l1 l2 l3 l4 l5 l6 l7 l8 l9 : Option AV) (x : Int) (M : Mem) (S : Sh) : go r 175 203 [l0, l1, l2, l3, l4, l5, l6, l7, l8, l9] [aI x] M S = some (some (aI x), M, S) := go_rt rfl (bnd_t (Or.inl rfl))
/-- StripsFromAboveModel.landBy(IIII)I -/
theorem g176 (x1 x2 x3 x4 : Int) (a0 : Nat) (M : Mem) (S : Sh) : res 176 [aR a0, aI x1, aI x2, aI x3, aI x4] M S = go 14 176 0 [some (aR a0), some (aI x1), some (aI x2), some (aI x3), some (aI x4), none, none, none, none] [] M S := res_e0 rfl _ M S
theorem g176_0 (r : Nat) (l0 l2 l3 l4 l5 l6 l7 l8 : Option AV) (x : Int) (M : Mem) (S : Sh) : go r 176 0 [l0, some (aI x), l2, l3, l4, l5, l6, l7, l8] [] M S = go r 176 1 [l0, some (aI x), l2, l3, l4, l5, l6, l7, l8] [aI x] M S := go_nx rfl rfl
theorem g176_1 (r : Nat) (l0 l1 l2 l3 l4 l5 l6 l7 l8 : Option AV) (s0 : AV) (M : Mem) (S : Sh) : go r 176 1 [l0, l1, l2, l3, l4, l5, l6, l7, l8] [s0] M S = go r 176 2 [l0, l1, l2, l3, l4, l5, l6, l7, l8] [aI 0, s0] M S := go_nx rfl rfl
theorem g176_2 (r : Nat) (l0 l1 l2 l3 l4 l5 l6 l7 l8 : Option AV) (s0 s1 : AV) (M : Mem) (S : Sh) : go r 176 2 [l0, l1, l2, l3, l4, l5, l6, l7, l8] [s0, s1] M S = go r 176 3 [l0, l1, l2, l3, l4, l5, l6, l7, l8] [aI 3, s0, s1] M S := go_nx rfl rfl
theorem g176_3 (r : Nat) (l0 l1 l2 l3 l4 l5 l6 l7 l8 : Option AV) (x0 x1 x2 : Int) (M : Mem) (S : Sh) (hk : 10 < r) : go r 176 3 [l0, l1, l2, l3, l4, l5, l6, l7, l8] [aI x2, aI x1, aI x0] M S = cont r 176 6 [l0, l1, l2, l3, l4, l5, l6, l7, l8] [] 1 (res 106 [aI x0, aI x1, aI x2] M S) := go_c0 (m' := 106) (n := 3) (pc' := 6) (hr := 1) rfl rfl rfl rfl rfl rfl hk rfl
theorem g176_6 (r : Nat) (l0 l1 l2 l3 l4 l5 l6 l7 l8 : Option AV) (x : Int) (M : Mem) (S : Sh) : go r 176 6 [l0, l1, l2, l3, l4, l5, l6, l7, l8] [aI x] M S = if x = 0 then go r 176 29 [l0, l1, l2, l3, l4, l5, l6, l7, l8] [] M S else go r 176 9 [l0, l1, l2, l3, l4, l5, l6, l7, l8] [] M S := go_br rfl rfl rfl rfl rfl
theorem g176_9 (r : Nat) (l0 l1 l3 l4 l5 l6 l7 l8 : Option AV) (x : Int) (M : Mem) (S : Sh) : go r 176 9 [l0, l1, some (aI x), l3, l4, l5, l6, l7, l8] [] M S = go r 176 10 [l0, l1, some (aI x), l3, l4, l5, l6, l7, l8] [aI x] M S := go_nx rfl rfl
theorem g176_10 (r : Nat) (l0 l1 l2 l3 l4 l5 l6 l7 l8 : Option AV) (s0 : AV) (M : Mem) (S : Sh) : go r 176 10 [l0, l1, l2, l3, l4, l5, l6, l7, l8] [s0] M S = go r 176 11 [l0, l1, l2, l3, l4, l5, l6, l7, l8] [aI 0, s0] M S := go_nx rfl rfl
theorem g176_11 (r : Nat) (l0 l1 l2 l3 l4 l5 l6 l7 l8 : Option AV) (s0 s1 : AV) (M : Mem) (S : Sh) : go r 176 11 [l0, l1, l2, l3, l4, l5, l6, l7, l8] [s0, s1] M S = go r 176 12 [l0, l1, l2, l3, l4, l5, l6, l7, l8] [aI 2, s0, s1] M S := go_nx rfl rfl
theorem g176_12 (r : Nat) (l0 l1 l2 l3 l4 l5 l6 l7 l8 : Option AV) (x0 x1 x2 : Int) (M : Mem) (S : Sh) (hk : 10 < r) : go r 176 12 [l0, l1, l2, l3, l4, l5, l6, l7, l8] [aI x2, aI x1, aI x0] M S = cont r 176 15 [l0, l1, l2, l3, l4, l5, l6, l7, l8] [] 1 (res 106 [aI x0, aI x1, aI x2] M S) := go_c0 (m' := 106) (n := 3) (pc' := 15) (hr := 1) rfl rfl rfl rfl rfl rfl hk rfl
theorem g176_15 (r : Nat) (l0 l1 l2 l3 l4 l5 l6 l7 l8 : Option AV) (x : Int) (M : Mem) (S : Sh) : go r 176 15 [l0, l1, l2, l3, l4, l5, l6, l7, l8] [aI x] M S = if x = 0 then go r 176 29 [l0, l1, l2, l3, l4, l5, l6, l7, l8] [] M S else go r 176 18 [l0, l1, l2, l3, l4, l5, l6, l7, l8] [] M S := go_br rfl rfl rfl rfl rfl
theorem g176_18 (r : Nat) (l0 l1 l2 l3 l5 l6 l7 l8 : Option AV) (x : Int) (M : Mem) (S : Sh) : go r 176 18 [l0, l1, l2, l3, some (aI x), l5, l6, l7, l8] [] M S = go r 176 20 [l0, l1, l2, l3, some (aI x), l5, l6, l7, l8] [aI x] M S := go_nx rfl rfl
theorem g176_20 (r : Nat) (l0 l1 l2 l3 l4 l5 l6 l7 l8 : Option AV) (s0 : AV) (M : Mem) (S : Sh) : go r 176 20 [l0, l1, l2, l3, l4, l5, l6, l7, l8] [s0] M S = go r 176 21 [l0, l1, l2, l3, l4, l5, l6, l7, l8] [aI 0, s0] M S := go_nx rfl rfl
theorem g176_21 (r : Nat) (l0 l1 l2 l3 l4 l5 l6 l7 l8 : Option AV) (s0 s1 : AV) (M : Mem) (S : Sh) : go r 176 21 [l0, l1, l2, l3, l4, l5, l6, l7, l8] [s0, s1] M S = go r 176 23 [l0, l1, l2, l3, l4, l5, l6, l7, l8] [aI 20, s0, s1] M S := go_nx rfl rfl
theorem g176_23 (r : Nat) (l0 l1 l2 l3 l4 l5 l6 l7 l8 : Option AV) (x0 x1 x2 : Int) (M : Mem) (S : Sh) (hk : 10 < r) : go r 176 23 [l0, l1, l2, l3, l4, l5, l6, l7, l8] [aI x2, aI x1, aI x0] M S = cont r 176 26 [l0, l1, l2, l3, l4, l5, l6, l7, l8] [] 1 (res 106 [aI x0, aI x1, aI x2] M S) := go_c0 (m' := 106) (n := 3) (pc' := 26) (hr := 1) rfl rfl rfl rfl rfl rfl hk rfl
theorem g176_26 (r : Nat) (l0 l1 l2 l3 l4 l5 l6 l7 l8 : Option AV) (x : Int) (M : Mem) (S : Sh) : go r 176 26 [l0, l1, l2, l3, l4, l5, l6, l7, l8] [aI x] M S = if x ≠ 0 then go r 176 32 [l0, l1, l2, l3, l4, l5, l6, l7, l8] [] M S else go r 176 29 [l0, l1, l2, l3, l4, l5, l6, l7, l8] [] M S := go_br rfl rfl rfl rfl rfl
theorem g176_29 (r : Nat) (l0 l1 l2 l3 l4 l5 l6 l7 l8 : Option AV) (M : Mem) (S : Sh) : go r 176 29 [l0, l1, l2, l3, l4, l5, l6, l7, l8] [] M S = go r 176 31 [l0, l1, l2, l3, l4, l5, l6, l7, l8] [aI (-2)] M S := go_nx rfl rfl
theorem g176_31 (r : Nat) (l0 l1 l2 l3 l4 l5 l6 l7 l8 : Option AV) (x : Int) (M : Mem) (S : Sh) : go r 176 31 [l0, l1, l2, l3, l4, l5, l6, l7, l8] [aI x] M S = some (some (aI x), M, S) := go_rt rfl (bnd_t (Or.inl rfl))
theorem g176_32 (r : Nat) (l1 l2 l3 l4 l5 l6 l7 l8 : Option AV) (a : Nat) (M : Mem) (S : Sh) : go r 176 32 [some (aR a), l1, l2, l3, l4, l5, l6, l7, l8] [] M S = go r 176 33 [some (aR a), l1, l2, l3, l4, l5, l6, l7, l8] [aR a] M S := go_nx rfl rfl
theorem g176_33 (r : Nat) (l0 l1 l2 l3 l4 l5 l6 l7 l8 : Option AV) (a : Nat) (M : Mem) (S : Sh) (h : S.1 a = 6) : go r 176 33 [l0, l1, l2, l3, l4, l5, l6, l7, l8] [aR a] M S = go r 176 36 [l0, l1, l2, l3, l4, l5, l6, l7, l8] [aO (S.2.2.1 a 22)] M S := go_bnd rfl h rfl
theorem g176_36 (r : Nat) (l0 l2 l3 l4 l5 l6 l7 l8 : Option AV) (s0 : AV) (x : Int) (M : Mem) (S : Sh) : go r 176 36 [l0, some (aI x), l2, l3, l4, l5, l6, l7, l8] [s0] M S = go r 176 37 [l0, some (aI x), l2, l3, l4, l5, l6, l7, l8] [aI x, s0] M S := go_nx rfl rfl
theorem g176_37 (r : Nat) (l0 l1 l2 l3 l4 l5 l6 l7 l8 : Option AV) (x : Int) (a : Nat) (M : Mem) (S : Sh) (h : S.1 a = 7) (h0 : 0 ≤ x) (h1 : x < S.2.1 a) : go r 176 37 [l0, l1, l2, l3, l4, l5, l6, l7, l8] [aI x, aR a] M S = go r 176 38 [l0, l1, l2, l3, l4, l5, l6, l7, l8] [aI (M a x.toNat)] M S := go_bnd rfl ⟨h, h0, h1⟩ rfl
theorem g176_38 (r : Nat) (l0 l1 l2 l3 l4 l5 l6 l7 l8 : Option AV) (s0 : AV) (M : Mem) (S : Sh) : go r 176 38 [l0, l1, l2, l3, l4, l5, l6, l7, l8] [s0] M S = go r 176 39 [l0, l1, l2, l3, l4, l5, l6, l7, l8] [aI (-1), s0] M S := go_nx rfl rfl
theorem g176_39 (r : Nat) (l0 l1 l2 l3 l4 l5 l6 l7 l8 : Option AV) (x y : Int) (M : Mem) (S : Sh) : go r 176 39 [l0, l1, l2, l3, l4, l5, l6, l7, l8] [aI y, aI x] M S = if x ≠ y then go r 176 45 [l0, l1, l2, l3, l4, l5, l6, l7, l8] [] M S else go r 176 42 [l0, l1, l2, l3, l4, l5, l6, l7, l8] [] M S := go_br rfl rfl rfl rfl rfl
theorem g176_42 (r : Nat) (l0 l1 l2 l3 l4 l5 l6 l7 l8 : Option AV) (M : Mem) (S : Sh) : go r 176 42 [l0, l1, l2, l3, l4, l5, l6, l7, l8] [] M S = go r 176 44 [l0, l1, l2, l3, l4, l5, l6, l7, l8] [aI (-11)] M S := go_nx rfl rfl
theorem g176_44 (r : Nat) (l0 l1 l2 l3 l4 l5 l6 l7 l8 : Option AV) (x : Int) (M : Mem) (S : Sh) : go r 176 44 [l0, l1, l2, l3, l4, l5, l6, l7, l8] [aI x] M S = some (some (aI x), M, S) := go_rt rfl (bnd_t (Or.inl rfl))
theorem g176_45 (r : Nat) (l1 l2 l3 l4 l5 l6 l7 l8 : Option AV) (a : Nat) (M : Mem) (S : Sh) : go r 176 45 [some (aR a), l1, l2, l3, l4, l5, l6, l7, l8] [] M S = go r 176 46 [some (aR a), l1, l2, l3, l4, l5, l6, l7, l8] [aR a] M S := go_nx rfl rfl
theorem g176_46 (r : Nat) (l0 l1 l2 l3 l4 l5 l6 l7 l8 : Option AV) (a : Nat) (M : Mem) (S : Sh) (h : S.1 a = 6) : go r 176 46 [l0, l1, l2, l3, l4, l5, l6, l7, l8] [aR a] M S = go r 176 49 [l0, l1, l2, l3, l4, l5, l6, l7, l8] [aO (S.2.2.1 a 22)] M S := go_bnd rfl h rfl
theorem g176_49 (r : Nat) (l0 l2 l3 l4 l5 l6 l7 l8 : Option AV) (s0 : AV) (x : Int) (M : Mem) (S : Sh) : go r 176 49 [l0, some (aI x), l2, l3, l4, l5, l6, l7, l8] [s0] M S = go r 176 50 [l0, some (aI x), l2, l3, l4, l5, l6, l7, l8] [aI x, s0] M S := go_nx rfl rfl
theorem g176_50 (r : Nat) (l0 l1 l2 l3 l4 l5 l6 l7 l8 : Option AV) (x : Int) (a : Nat) (M : Mem) (S : Sh) (h : S.1 a = 7) (h0 : 0 ≤ x) (h1 : x < S.2.1 a) : go r 176 50 [l0, l1, l2, l3, l4, l5, l6, l7, l8] [aI x, aR a] M S = go r 176 51 [l0, l1, l2, l3, l4, l5, l6, l7, l8] [aI (M a x.toNat)] M S := go_bnd rfl ⟨h, h0, h1⟩ rfl
theorem g176_51 (r : Nat) (l0 l1 l3 l4 l5 l6 l7 l8 : Option AV) (s0 : AV) (x : Int) (M : Mem) (S : Sh) : go r 176 51 [l0, l1, some (aI x), l3, l4, l5, l6, l7, l8] [s0] M S = go r 176 52 [l0, l1, some (aI x), l3, l4, l5, l6, l7, l8] [aI x, s0] M S := go_nx rfl rfl
theorem g176_52 (r : Nat) (l0 l1 l2 l3 l4 l5 l6 l7 l8 : Option AV) (x y : Int) (M : Mem) (S : Sh) : go r 176 52 [l0, l1, l2, l3, l4, l5, l6, l7, l8] [aI y, aI x] M S = if x = y then go r 176 58 [l0, l1, l2, l3, l4, l5, l6, l7, l8] [] M S else go r 176 55 [l0, l1, l2, l3, l4, l5, l6, l7, l8] [] M S := go_br rfl rfl rfl rfl rfl
theorem g176_55 (r : Nat) (l0 l1 l2 l3 l4 l5 l6 l7 l8 : Option AV) (M : Mem) (S : Sh) : go r 176 55 [l0, l1, l2, l3, l4, l5, l6, l7, l8] [] M S = go r 176 57 [l0, l1, l2, l3, l4, l5, l6, l7, l8] [aI (-13)] M S := go_nx rfl rfl
theorem g176_57 (r : Nat) (l0 l1 l2 l3 l4 l5 l6 l7 l8 : Option AV) (x : Int) (M : Mem) (S : Sh) : go r 176 57 [l0, l1, l2, l3, l4, l5, l6, l7, l8] [aI x] M S = some (some (aI x), M, S) := go_rt rfl (bnd_t (Or.inl rfl))
theorem g176_58 (r : Nat) (l0 l1 l2 l3 l4 l5 l6 l7 l8 : Option AV) (M : Mem) (S : Sh) : go r 176 58 [l0, l1, l2, l3, l4, l5, l6, l7, l8] [] M S = go r 176 59 [l0, l1, l2, l3, l4, l5, l6, l7, l8] [aI 0] M S := go_nx rfl rfl
theorem g176_59 (r : Nat) (l0 l1 l2 l3 l4 l5 l6 l7 l8 : Option AV) (x : Int) (M : Mem) (S : Sh) : go r 176 59 [l0, l1, l2, l3, l4, l5, l6, l7, l8] [aI x] M S = go r 176 61 [l0, l1, l2, l3, l4, some (aI x), l6, l7, l8] [] M S := go_nx rfl rfl
theorem g176_61 (r : Nat) (l0 l1 l2 l3 l4 l5 l6 l7 l8 : Option AV) (M : Mem) (S : Sh) : go r 176 61 [l0, l1, l2, l3, l4, l5, l6, l7, l8] [] M S = go r 176 62 [l0, l1, l2, l3, l4, l5, l6, l7, l8] [aI 0] M S := go_nx rfl rfl
theorem g176_62 (r : Nat) (l0 l1 l2 l3 l4 l5 l6 l7 l8 : Option AV) (x : Int) (M : Mem) (S : Sh) : go r 176 62 [l0, l1, l2, l3, l4, l5, l6, l7, l8] [aI x] M S = go r 176 64 [l0, l1, l2, l3, l4, l5, some (aI x), l7, l8] [] M S := go_nx rfl rfl
theorem g176_64 (r : Nat) (l0 l1 l2 l3 l4 l5 l7 l8 : Option AV) (x : Int) (M : Mem) (S : Sh) : go r 176 64 [l0, l1, l2, l3, l4, l5, some (aI x), l7, l8] [] M S = go r 176 66 [l0, l1, l2, l3, l4, l5, some (aI x), l7, l8] [aI x] M S := go_nx rfl rfl
theorem g176_66 (r : Nat) (l0 l1 l2 l3 l5 l6 l7 l8 : Option AV) (s0 : AV) (x : Int) (M : Mem) (S : Sh) : go r 176 66 [l0, l1, l2, l3, some (aI x), l5, l6, l7, l8] [s0] M S = go r 176 68 [l0, l1, l2, l3, some (aI x), l5, l6, l7, l8] [aI x, s0] M S := go_nx rfl rfl
theorem g176_68 (r : Nat) (l0 l1 l2 l3 l4 l5 l6 l7 l8 : Option AV) (x y : Int) (M : Mem) (S : Sh) : go r 176 68 [l0, l1, l2, l3, l4, l5, l6, l7, l8] [aI y, aI x] M S = if x ≥ y then go r 176 154 [l0, l1, l2, l3, l4, l5, l6, l7, l8] [] M S else go r 176 71 [l0, l1, l2, l3, l4, l5, l6, l7, l8] [] M S := go_br rfl rfl rfl rfl rfl
theorem g176_71 (r : Nat) (l0 l1 l2 l4 l5 l6 l7 l8 : Option AV) (x : Int) (M : Mem) (S : Sh) : go r 176 71 [l0, l1, l2, some (aI x), l4, l5, l6, l7, l8] [] M S = go r 176 72 [l0, l1, l2, some (aI x), l4, l5, l6, l7, l8] [aI x] M S := go_nx rfl rfl
theorem g176_72 (r : Nat) (l0 l1 l2 l3 l4 l5 l6 l7 l8 : Option AV) (s0 : AV) (M : Mem) (S : Sh) : go r 176 72 [l0, l1, l2, l3, l4, l5, l6, l7, l8] [s0] M S = go r 176 73 [l0, l1, l2, l3, l4, l5, l6, l7, l8] [aI 2, s0] M S := go_nx rfl rfl
theorem g176_73 (r : Nat) (l0 l1 l2 l3 l4 l5 l7 l8 : Option AV) (s0 s1 : AV) (x : Int) (M : Mem) (S : Sh) : go r 176 73 [l0, l1, l2, l3, l4, l5, some (aI x), l7, l8] [s0, s1] M S = go r 176 75 [l0, l1, l2, l3, l4, l5, some (aI x), l7, l8] [aI x, s0, s1] M S := go_nx rfl rfl
theorem g176_75 (r : Nat) (l0 l1 l2 l3 l4 l5 l6 l7 l8 : Option AV) (s0 : AV) (x y : Int) (M : Mem) (S : Sh) : go r 176 75 [l0, l1, l2, l3, l4, l5, l6, l7, l8] [aI y, aI x, s0] M S = go r 176 76 [l0, l1, l2, l3, l4, l5, l6, l7, l8] [aI (w32 (x * y)), s0] M S := go_nx rfl rfl
theorem g176_76 (r : Nat) (l0 l1 l2 l3 l4 l5 l6 l7 l8 : Option AV) (x y : Int) (M : Mem) (S : Sh) : go r 176 76 [l0, l1, l2, l3, l4, l5, l6, l7, l8] [aI y, aI x] M S = go r 176 77 [l0, l1, l2, l3, l4, l5, l6, l7, l8] [aI (w32 (x + y))] M S := go_nx rfl rfl
theorem g176_77 (r : Nat) (l0 l1 l2 l3 l4 l5 l6 l7 l8 : Option AV) (x : Int) (M : Mem) (S : Sh) : go r 176 77 [l0, l1, l2, l3, l4, l5, l6, l7, l8] [aI x] M S = go r 176 79 [l0, l1, l2, l3, l4, l5, l6, some (aI x), l8] [] M S := go_nx rfl rfl
theorem g176_79 (r : Nat) (l0 l1 l2 l4 l5 l6 l7 l8 : Option AV) (x : Int) (M : Mem) (S : Sh) : go r 176 79 [l0, l1, l2, some (aI x), l4, l5, l6, l7, l8] [] M S = go r 176 80 [l0, l1, l2, some (aI x), l4, l5, l6, l7, l8] [aI x] M S := go_nx rfl rfl
theorem g176_80 (r : Nat) (l0 l1 l2 l3 l4 l5 l6 l7 l8 : Option AV) (x : Int) (M : Mem) (S : Sh) : go r 176 80 [l0, l1, l2, l3, l4, l5, l6, l7, l8] [aI x] M S = if x < 0 then go r 176 102 [l0, l1, l2, l3, l4, l5, l6, l7, l8] [] M S else go r 176 83 [l0, l1, l2, l3, l4, l5, l6, l7, l8] [] M S := go_br rfl rfl rfl rfl rfl
theorem g176_83 (r : Nat) (l0 l1 l2 l3 l4 l5 l6 l8 : Option AV) (x : Int) (M : Mem) (S : Sh) : go r 176 83 [l0, l1, l2, l3, l4, l5, l6, some (aI x), l8] [] M S = go r 176 85 [l0, l1, l2, l3, l4, l5, l6, some (aI x), l8] [aI x] M S := go_nx rfl rfl
theorem g176_85 (r : Nat) (l0 l1 l2 l4 l5 l6 l7 l8 : Option AV) (s0 : AV) (x : Int) (M : Mem) (S : Sh) : go r 176 85 [l0, l1, l2, some (aI x), l4, l5, l6, l7, l8] [s0] M S = go r 176 86 [l0, l1, l2, some (aI x), l4, l5, l6, l7, l8] [aI x, s0] M S := go_nx rfl rfl
theorem g176_86 (r : Nat) (l0 l1 l2 l3 l4 l5 l6 l7 l8 : Option AV) (x y : Int) (M : Mem) (S : Sh) : go r 176 86 [l0, l1, l2, l3, l4, l5, l6, l7, l8] [aI y, aI x] M S = if x < y then go r 176 102 [l0, l1, l2, l3, l4, l5, l6, l7, l8] [] M S else go r 176 89 [l0, l1, l2, l3, l4, l5, l6, l7, l8] [] M S := go_br rfl rfl rfl rfl rfl
theorem g176_89 (r : Nat) (l0 l1 l2 l3 l4 l5 l6 l8 : Option AV) (x : Int) (M : Mem) (S : Sh) : go r 176 89 [l0, l1, l2, l3, l4, l5, l6, some (aI x), l8] [] M S = go r 176 91 [l0, l1, l2, l3, l4, l5, l6, some (aI x), l8] [aI x] M S := go_nx rfl rfl
theorem g176_91 (r : Nat) (l1 l2 l3 l4 l5 l6 l7 l8 : Option AV) (s0 : AV) (a : Nat) (M : Mem) (S : Sh) : go r 176 91 [some (aR a), l1, l2, l3, l4, l5, l6, l7, l8] [s0] M S = go r 176 92 [some (aR a), l1, l2, l3, l4, l5, l6, l7, l8] [aR a, s0] M S := go_nx rfl rfl
theorem g176_92 (r : Nat) (l0 l1 l2 l3 l4 l5 l6 l7 l8 : Option AV) (s0 : AV) (a : Nat) (M : Mem) (S : Sh) (h : S.1 a = 6) : go r 176 92 [l0, l1, l2, l3, l4, l5, l6, l7, l8] [aR a, s0] M S = go r 176 95 [l0, l1, l2, l3, l4, l5, l6, l7, l8] [aO (S.2.2.1 a 23), s0] M S := go_bnd rfl h rfl
theorem g176_95 (r : Nat) (l0 l2 l3 l4 l5 l6 l7 l8 : Option AV) (s0 s1 : AV) (x : Int) (M : Mem) (S : Sh) : go r 176 95 [l0, some (aI x), l2, l3, l4, l5, l6, l7, l8] [s0, s1] M S = go r 176 96 [l0, some (aI x), l2, l3, l4, l5, l6, l7, l8] [aI x, s0, s1] M S := go_nx rfl rfl
theorem g176_96 (r : Nat) (l0 l1 l2 l3 l4 l5 l6 l7 l8 : Option AV) (s0 : AV) (x : Int) (a : Nat) (M : Mem) (S : Sh) (h : S.1 a = 7) (h0 : 0 ≤ x) (h1 : x < S.2.1 a) : go r 176 96 [l0, l1, l2, l3, l4, l5, l6, l7, l8] [aI x, aR a, s0] M S = go r 176 97 [l0, l1, l2, l3, l4, l5, l6, l7, l8] [aI (M a x.toNat), s0] M S := go_bnd rfl ⟨h, h0, h1⟩ rfl
theorem g176_97 (r : Nat) (l0 l1 l2 l3 l4 l5 l6 l7 l8 : Option AV) (s0 s1 : AV) (M : Mem) (S : Sh) : go r 176 97 [l0, l1, l2, l3, l4, l5, l6, l7, l8] [s0, s1] M S = go r 176 98 [l0, l1, l2, l3, l4, l5, l6, l7, l8] [aI 2, s0, s1] M S := go_nx rfl rfl
theorem g176_98 (r : Nat) (l0 l1 l2 l3 l4 l5 l6 l7 l8 : Option AV) (s0 : AV) (x y : Int) (M : Mem) (S : Sh) : go r 176 98 [l0, l1, l2, l3, l4, l5, l6, l7, l8] [aI y, aI x, s0] M S = go r 176 99 [l0, l1, l2, l3, l4, l5, l6, l7, l8] [aI (w32 (x - y)), s0] M S := go_nx rfl rfl
theorem g176_99 (r : Nat) (l0 l1 l2 l3 l4 l5 l6 l7 l8 : Option AV) (x y : Int) (M : Mem) (S : Sh) : go r 176 99 [l0, l1, l2, l3, l4, l5, l6, l7, l8] [aI y, aI x] M S = if x ≤ y then go r 176 105 [l0, l1, l2, l3, l4, l5, l6, l7, l8] [] M S else go r 176 102 [l0, l1, l2, l3, l4, l5, l6, l7, l8] [] M S := go_br rfl rfl rfl rfl rfl
theorem g176_102 (r : Nat) (l0 l1 l2 l3 l4 l5 l6 l7 l8 : Option AV) (M : Mem) (S : Sh) : go r 176 102 [l0, l1, l2, l3, l4, l5, l6, l7, l8] [] M S = go r 176 104 [l0, l1, l2, l3, l4, l5, l6, l7, l8] [aI (-12)] M S := go_nx rfl rfl
theorem g176_104 (r : Nat) (l0 l1 l2 l3 l4 l5 l6 l7 l8 : Option AV) (x : Int) (M : Mem) (S : Sh) : go r 176 104 [l0, l1, l2, l3, l4, l5, l6, l7, l8] [aI x] M S = some (some (aI x), M, S) := go_rt rfl (bnd_t (Or.inl rfl))
set_option maxRecDepth 20000 in
theorem g176_105 (r : Nat) (l0 l1 l2 l3 l4 l5 l6 l7 l8 : Option AV) (M : Mem) (S : Sh) : go r 176 105 [l0, l1, l2, l3, l4, l5, l6, l7, l8] [] M S = go r 176 107 [l0, l1, l2, l3, l4, l5, l6, l7, l8] [aI 40] M S := go_nx rfl rfl
set_option maxRecDepth 20000 in
theorem g176_107 (r : Nat) (l0 l2 l3 l4 l5 l6 l7 l8 : Option AV) (s0 : AV) (x : Int) (M : Mem) (S : Sh) : go r 176 107 [l0, some (aI x), l2, l3, l4, l5, l6, l7, l8] [s0] M S = go r 176 108 [l0, some (aI x), l2, l3, l4, l5, l6, l7, l8] [aI x, s0] M S := go_nx rfl rfl
set_option maxRecDepth 20000 in
theorem g176_108 (r : Nat) (l0 l1 l2 l3 l4 l5 l6 l7 l8 : Option AV) (x y : Int) (M : Mem) (S : Sh) : go r 176 108 [l0, l1, l2, l3, l4, l5, l6, l7, l8] [aI y, aI x] M S = go r 176 109 [l0, l1, l2, l3, l4, l5, l6, l7, l8] [aI (w32 (x * y))] M S := go_nx rfl rfl
set_option maxRecDepth 20000 in
theorem g176_109 (r : Nat) (l0 l1 l2 l3 l4 l5 l6 l8 : Option AV) (s0 : AV) (x : Int) (M : Mem) (S : Sh) : go r 176 109 [l0, l1, l2, l3, l4, l5, l6, some (aI x), l8] [s0] M S = go r 176 111 [l0, l1, l2, l3, l4, l5, l6, some (aI x), l8] [aI x, s0] M S := go_nx rfl rfl
set_option maxRecDepth 20000 in
theorem g176_111 (r : Nat) (l0 l1 l2 l3 l4 l5 l6 l7 l8 : Option AV) (x y : Int) (M : Mem) (S : Sh) : go r 176 111 [l0, l1, l2, l3, l4, l5, l6, l7, l8] [aI y, aI x] M S = go r 176 112 [l0, l1, l2, l3, l4, l5, l6, l7, l8] [aI (w32 (x + y))] M S := go_nx rfl rfl
set_option maxRecDepth 20000 in
theorem g176_112 (r : Nat) (l0 l1 l2 l3 l4 l5 l6 l7 l8 : Option AV) (x : Int) (M : Mem) (S : Sh) : go r 176 112 [l0, l1, l2, l3, l4, l5, l6, l7, l8] [aI x] M S = go r 176 114 [l0, l1, l2, l3, l4, l5, l6, l7, some (aI x)] [] M S := go_nx rfl rfl
set_option maxRecDepth 20000 in
theorem g176_114 (r : Nat) (l0 l1 l2 l3 l4 l6 l7 l8 : Option AV) (x : Int) (M : Mem) (S : Sh) : go r 176 114 [l0, l1, l2, l3, l4, some (aI x), l6, l7, l8] [] M S = go r 176 116 [l0, l1, l2, l3, l4, some (aI x), l6, l7, l8] [aI x] M S := go_nx rfl rfl
set_option maxRecDepth 20000 in
theorem g176_116 (r : Nat) (l1 l2 l3 l4 l5 l6 l7 l8 : Option AV) (s0 : AV) (a : Nat) (M : Mem) (S : Sh) : go r 176 116 [some (aR a), l1, l2, l3, l4, l5, l6, l7, l8] [s0] M S = go r 176 117 [some (aR a), l1, l2, l3, l4, l5, l6, l7, l8] [aR a, s0] M S := go_nx rfl rfl
set_option maxRecDepth 20000 in
theorem g176_117 (r : Nat) (l1 l2 l3 l4 l5 l6 l7 l8 : Option AV) (s0 s1 : AV) (a : Nat) (M : Mem) (S : Sh) : go r 176 117 [some (aR a), l1, l2, l3, l4, l5, l6, l7, l8] [s0, s1] M S = go r 176 118 [some (aR a), l1, l2, l3, l4, l5, l6, l7, l8] [aR a, s0, s1] M S := go_nx rfl rfl
set_option maxRecDepth 20000 in
theorem g176_118 (r : Nat) (l0 l1 l2 l3 l4 l5 l6 l7 l8 : Option AV) (s0 s1 : AV) (a : Nat) (M : Mem) (S : Sh) (h : S.1 a = 6) : go r 176 118 [l0, l1, l2, l3, l4, l5, l6, l7, l8] [aR a, s0, s1] M S = go r 176 121 [l0, l1, l2, l3, l4, l5, l6, l7, l8] [aO (S.2.2.1 a 24), s0, s1] M S := go_bnd rfl h rfl
set_option maxRecDepth 20000 in
theorem g176_121 (r : Nat) (l0 l1 l2 l3 l4 l5 l6 l7 : Option AV) (s0 s1 s2 : AV) (x : Int) (M : Mem) (S : Sh) : go r 176 121 [l0, l1, l2, l3, l4, l5, l6, l7, some (aI x)] [s0, s1, s2] M S = go r 176 123 [l0, l1, l2, l3, l4, l5, l6, l7, some (aI x)] [aI x, s0, s1, s2] M S := go_nx rfl rfl
set_option maxRecDepth 20000 in
theorem g176_123 (r : Nat) (l0 l1 l2 l3 l4 l5 l6 l7 l8 : Option AV) (s0 s1 : AV) (x : Int) (a : Nat) (M : Mem) (S : Sh) (h : S.1 a = 7) (h0 : 0 ≤ x) (h1 : x < S.2.1 a) : go r 176 123 [l0, l1, l2, l3, l4, l5, l6, l7, l8] [aI x, aR a, s0, s1] M S = go r 176 124 [l0, l1, l2, l3, l4, l5, l6, l7, l8] [aI (M a x.toNat), s0, s1] M S := go_bnd rfl ⟨h, h0, h1⟩ rfl
set_option maxRecDepth 20000 in
theorem g176_124 (r : Nat) (l0 l1 l2 l3 l4 l5 l6 l7 l8 : Option AV) (s0 s1 s2 : AV) (M : Mem) (S : Sh) : go r 176 124 [l0, l1, l2, l3, l4, l5, l6, l7, l8] [s0, s1, s2] M S = go r 176 125 [l0, l1, l2, l3, l4, l5, l6, l7, l8] [aI 0, s0, s1, s2] M S := go_nx rfl rfl
set_option maxRecDepth 20000 in
theorem g176_125 (r : Nat) (l1 l2 l3 l4 l5 l6 l7 l8 : Option AV) (s0 s1 s2 s3 : AV) (a : Nat) (M : Mem) (S : Sh) : go r 176 125 [some (aR a), l1, l2, l3, l4, l5, l6, l7, l8] [s0, s1, s2, s3] M S = go r 176 126 [some (aR a), l1, l2, l3, l4, l5, l6, l7, l8] [aR a, s0, s1, s2, s3] M S := go_nx rfl rfl
set_option maxRecDepth 20000 in
theorem g176_126 (r : Nat) (l0 l1 l2 l3 l4 l5 l6 l7 l8 : Option AV) (s0 s1 s2 s3 : AV) (a : Nat) (M : Mem) (S : Sh) (h : S.1 a = 6) : go r 176 126 [l0, l1, l2, l3, l4, l5, l6, l7, l8] [aR a, s0, s1, s2, s3] M S = go r 176 129 [l0, l1, l2, l3, l4, l5, l6, l7, l8] [aO (S.2.2.1 a 24), s0, s1, s2, s3] M S := go_bnd rfl h rfl
set_option maxRecDepth 20000 in
theorem g176_129 (r : Nat) (l0 l1 l2 l3 l4 l5 l6 l7 : Option AV) (s0 s1 s2 s3 s4 : AV) (x : Int) (M : Mem) (S : Sh) : go r 176 129 [l0, l1, l2, l3, l4, l5, l6, l7, some (aI x)] [s0, s1, s2, s3, s4] M S = go r 176 131 [l0, l1, l2, l3, l4, l5, l6, l7, some (aI x)] [aI x, s0, s1, s2, s3, s4] M S := go_nx rfl rfl
set_option maxRecDepth 20000 in
theorem g176_131 (r : Nat) (l0 l1 l2 l3 l4 l5 l6 l7 l8 : Option AV) (s0 s1 s2 s3 s4 s5 : AV) (M : Mem) (S : Sh) : go r 176 131 [l0, l1, l2, l3, l4, l5, l6, l7, l8] [s0, s1, s2, s3, s4, s5] M S = go r 176 132 [l0, l1, l2, l3, l4, l5, l6, l7, l8] [aI 1, s0, s1, s2, s3, s4, s5] M S := go_nx rfl rfl
set_option maxRecDepth 20000 in
theorem g176_132 (r : Nat) (l0 l1 l2 l3 l4 l5 l6 l7 l8 : Option AV) (s0 s1 s2 s3 s4 : AV) (x y : Int) (M : Mem) (S : Sh) : go r 176 132 [l0, l1, l2, l3, l4, l5, l6, l7, l8] [aI y, aI x, s0, s1, s2, s3, s4] M S = go r 176 133 [l0, l1, l2, l3, l4, l5, l6, l7, l8] [aI (w32 (x + y)), s0, s1, s2, s3, s4] M S := go_nx rfl rfl
set_option maxRecDepth 20000 in
theorem g176_133 (r : Nat) (l0 l1 l2 l3 l4 l5 l6 l7 l8 : Option AV) (s0 s1 s2 s3 : AV) (x : Int) (a : Nat) (M : Mem) (S : Sh) (h : S.1 a = 7) (h0 : 0 ≤ x) (h1 : x < S.2.1 a) : go r 176 133 [l0, l1, l2, l3, l4, l5, l6, l7, l8] [aI x, aR a, s0, s1, s2, s3] M S = go r 176 134 [l0, l1, l2, l3, l4, l5, l6, l7, l8] [aI (M a x.toNat), s0, s1, s2, s3] M S := go_bnd rfl ⟨h, h0, h1⟩ rfl
set_option maxRecDepth 20000 in
theorem g176_134 (r : Nat) (l0 l1 l2 l3 l4 l5 l6 l7 l8 : Option AV) (s0 : AV) (x1 x2 x3 : Int) (a0 : Nat) (M : Mem) (S : Sh) (hk : 13 < r) (h : S.1 a0 = 6) : go r 176 134 [l0, l1, l2, l3, l4, l5, l6, l7, l8] [aI x3, aI x2, aI x1, aR a0, s0] M S = cont r 176 137 [l0, l1, l2, l3, l4, l5, l6, l7, l8] [s0] 1 (res 112 [aR a0, aI x1, aI x2, aI x3] M S) := go_cr0 (m' := 112) (n := 4) (pc' := 137) (hr := 1) rfl rfl rfl h rfl rfl rfl rfl hk rfl
set_option maxRecDepth 20000 in
theorem g176_137 (r : Nat) (l0 l1 l2 l3 l4 l5 l6 l7 l8 : Option AV) (s0 : AV) (x : Int) (M : Mem) (S : Sh) : go r 176 137 [l0, l1, l2, l3, l4, l5, l6, l7, l8] [aI x, s0] M S = if x < 0 then go r 176 144 [l0, l1, l2, l3, l4, l5, l6, l7, l8] [s0] M S else go r 176 140 [l0, l1, l2, l3, l4, l5, l6, l7, l8] [s0] M S := go_br rfl rfl rfl rfl rfl
set_option maxRecDepth 20000 in
theorem g176_140 (r : Nat) (l0 l1 l2 l3 l4 l5 l6 l7 l8 : Option AV) (s0 : AV) (M : Mem) (S : Sh) : go r 176 140 [l0, l1, l2, l3, l4, l5, l6, l7, l8] [s0] M S = go r 176 141 [l0, l1, l2, l3, l4, l5, l6, l7, l8] [aI 1, s0] M S := go_nx rfl rfl
set_option maxRecDepth 20000 in
theorem g176_141 (r : Nat) (l0 l1 l2 l3 l4 l5 l6 l7 l8 : Option AV) (s0 s1 : AV) (M : Mem) (S : Sh) : go r 176 141 [l0, l1, l2, l3, l4, l5, l6, l7, l8] [s0, s1] M S = go r 176 145 [l0, l1, l2, l3, l4, l5, l6, l7, l8] [s0, s1] M S := go_nx rfl rfl
set_option maxRecDepth 20000 in
theorem g176_144 (r : Nat) (l0 l1 l2 l3 l4 l5 l6 l7 l8 : Option AV) (s0 : AV) (M : Mem) (S : Sh) : go r 176 144 [l0, l1, l2, l3, l4, l5, l6, l7, l8] [s0] M S = go r 176 145 [l0, l1, l2, l3, l4, l5, l6, l7, l8] [aI 0, s0] M S := go_nx rfl rfl
set_option maxRecDepth 20000 in
theorem g176_145 (r : Nat) (l0 l1 l2 l3 l4 l5 l6 l7 l8 : Option AV) (x y : Int) (M : Mem) (S : Sh) : go r 176 145 [l0, l1, l2, l3, l4, l5, l6, l7, l8] [aI y, aI x] M S = go r 176 146 [l0, l1, l2, l3, l4, l5, l6, l7, l8] [aI (w32 (x + y))] M S := go_nx rfl rfl
set_option maxRecDepth 20000 in
theorem g176_146 (r : Nat) (l0 l1 l2 l3 l4 l5 l6 l7 l8 : Option AV) (x : Int) (M : Mem) (S : Sh) : go r 176 146 [l0, l1, l2, l3, l4, l5, l6, l7, l8] [aI x] M S = go r 176 148 [l0, l1, l2, l3, l4, some (aI x), l6, l7, l8] [] M S := go_nx rfl rfl
set_option maxRecDepth 20000 in
theorem g176_148 (r : Nat) (l0 l1 l2 l3 l4 l5 l7 l8 : Option AV) (x : Int) (M : Mem) (S : Sh) : go r 176 148 [l0, l1, l2, l3, l4, l5, some (aI x), l7, l8] [] M S = go r 176 151 [l0, l1, l2, l3, l4, l5, some (aI (w32 (x + 1))), l7, l8] [] M S := go_nx rfl rfl
set_option maxRecDepth 20000 in
theorem g176_151 (r : Nat) (l0 l1 l2 l3 l4 l5 l6 l7 l8 : Option AV) (M : Mem) (S : Sh) : go r 176 151 [l0, l1, l2, l3, l4, l5, l6, l7, l8] [] M S = go r 176 64 [l0, l1, l2, l3, l4, l5, l6, l7, l8] [] M S := go_nx rfl rfl
set_option maxRecDepth 20000 in
theorem g176_154 (r : Nat) (l0 l1 l2 l3 l4 l6 l7 l8 : Option AV) (x : Int) (M : Mem) (S : Sh) : go r 176 154 [l0, l1, l2, l3, l4, some (aI x), l6, l7, l8] [] M S = go r 176 156 [l0, l1, l2, l3, l4, some (aI x), l6, l7, l8] [aI x] M S := go_nx rfl rfl
set_option maxRecDepth 20000 in
theorem g176_156 (r : Nat) (l0 l1 l2 l3 l4 l5 l6 l7 l8 : Option AV) (x : Int) (M : Mem) (S : Sh) : go r 176 156 [l0, l1, l2, l3, l4, l5, l6, l7, l8] [aI x] M S = some (some (aI x), M, S) := go_rt rfl (bnd_t (Or.inl rfl))
/-- StripsFromAboveModel.isUnder(II)Z -/
theorem g177 (x0 x1 : Int) (M : Mem) (S : Sh) : res 177 [aI x0, aI x1] M S = go 10 177 0 [some (aI x0), some (aI x1)] [] M S := res_e0 rfl _ M S
theorem g177_0 (r : Nat) (l0 : Option AV) (x : Int) (M : Mem) (S : Sh) : go r 177 0 [l0, some (aI x)] [] M S = go r 177 1 [l0, some (aI x)] [aI x] M S := go_nx rfl rfl
theorem g177_1 (r : Nat) (l0 l1 : Option AV) (x : Int) (M : Mem) (S : Sh) : go r 177 1 [l0, l1] [aI x] M S = if x = 0 then go r 177 29 [l0, l1] [] M S else go r 177 4 [l0, l1] [] M S := go_br rfl rfl rfl rfl rfl
theorem g177_4 (r : Nat) (l1 : Option AV) (x : Int) (M : Mem) (S : Sh) : go r 177 4 [some (aI x), l1] [] M S = go r 177 5 [some (aI x), l1] [aI x] M S := go_nx rfl rfl
theorem g177_5 (r : Nat) (l0 : Option AV) (s0 : AV) (x : Int) (M : Mem) (S : Sh) : go r 177 5 [l0, some (aI x)] [s0] M S = go r 177 6 [l0, some (aI x)] [aI x, s0] M S := go_nx rfl rfl
theorem g177_6 (r : Nat) (l0 l1 : Option AV) (x y : Int) (M : Mem) (S : Sh) : go r 177 6 [l0, l1] [aI y, aI x] M S = if x = y then go r 177 29 [l0, l1] [] M S else go r 177 9 [l0, l1] [] M S := go_br rfl rfl rfl rfl rfl
theorem g177_9 (r : Nat) (l0 : Option AV) (x : Int) (M : Mem) (S : Sh) : go r 177 9 [l0, some (aI x)] [] M S = go r 177 10 [l0, some (aI x)] [aI x] M S := go_nx rfl rfl
theorem g177_10 (r : Nat) (l0 l1 : Option AV) (s0 : AV) (M : Mem) (S : Sh) : go r 177 10 [l0, l1] [s0] M S = go r 177 11 [l0, l1] [aI 1, s0] M S := go_nx rfl rfl
theorem g177_11 (r : Nat) (l0 l1 : Option AV) (x y : Int) (M : Mem) (S : Sh) : go r 177 11 [l0, l1] [aI y, aI x] M S = if x ≠ y then go r 177 19 [l0, l1] [] M S else go r 177 14 [l0, l1] [] M S := go_br rfl rfl rfl rfl rfl
theorem g177_14 (r : Nat) (l1 : Option AV) (x : Int) (M : Mem) (S : Sh) : go r 177 14 [some (aI x), l1] [] M S = go r 177 15 [some (aI x), l1] [aI x] M S := go_nx rfl rfl
theorem g177_15 (r : Nat) (l0 l1 : Option AV) (s0 : AV) (M : Mem) (S : Sh) : go r 177 15 [l0, l1] [s0] M S = go r 177 16 [l0, l1] [aI 3, s0] M S := go_nx rfl rfl
theorem g177_16 (r : Nat) (l0 l1 : Option AV) (x y : Int) (M : Mem) (S : Sh) : go r 177 16 [l0, l1] [aI y, aI x] M S = if x = y then go r 177 29 [l0, l1] [] M S else go r 177 19 [l0, l1] [] M S := go_br rfl rfl rfl rfl rfl
theorem g177_19 (r : Nat) (l0 : Option AV) (x : Int) (M : Mem) (S : Sh) : go r 177 19 [l0, some (aI x)] [] M S = go r 177 20 [l0, some (aI x)] [aI x] M S := go_nx rfl rfl
theorem g177_20 (r : Nat) (l0 l1 : Option AV) (s0 : AV) (M : Mem) (S : Sh) : go r 177 20 [l0, l1] [s0] M S = go r 177 21 [l0, l1] [aI 2, s0] M S := go_nx rfl rfl
theorem g177_21 (r : Nat) (l0 l1 : Option AV) (x y : Int) (M : Mem) (S : Sh) : go r 177 21 [l0, l1] [aI y, aI x] M S = if x ≠ y then go r 177 33 [l0, l1] [] M S else go r 177 24 [l0, l1] [] M S := go_br rfl rfl rfl rfl rfl
theorem g177_24 (r : Nat) (l1 : Option AV) (x : Int) (M : Mem) (S : Sh) : go r 177 24 [some (aI x), l1] [] M S = go r 177 25 [some (aI x), l1] [aI x] M S := go_nx rfl rfl
theorem g177_25 (r : Nat) (l0 l1 : Option AV) (s0 : AV) (M : Mem) (S : Sh) : go r 177 25 [l0, l1] [s0] M S = go r 177 26 [l0, l1] [aI 4, s0] M S := go_nx rfl rfl
theorem g177_26 (r : Nat) (l0 l1 : Option AV) (x y : Int) (M : Mem) (S : Sh) : go r 177 26 [l0, l1] [aI y, aI x] M S = if x ≠ y then go r 177 33 [l0, l1] [] M S else go r 177 29 [l0, l1] [] M S := go_br rfl rfl rfl rfl rfl
theorem g177_29 (r : Nat) (l0 l1 : Option AV) (M : Mem) (S : Sh) : go r 177 29 [l0, l1] [] M S = go r 177 30 [l0, l1] [aI 1] M S := go_nx rfl rfl
theorem g177_30 (r : Nat) (l0 l1 : Option AV) (s0 : AV) (M : Mem) (S : Sh) : go r 177 30 [l0, l1] [s0] M S = go r 177 34 [l0, l1] [s0] M S := go_nx rfl rfl
theorem g177_33 (r : Nat) (l0 l1 : Option AV) (M : Mem) (S : Sh) : go r 177 33 [l0, l1] [] M S = go r 177 34 [l0, l1] [aI 0] M S := go_nx rfl rfl
theorem g177_34 (r : Nat) (l0 l1 : Option AV) (x : Int) (M : Mem) (S : Sh) (h : x = 0 ∨ x = 1) : go r 177 34 [l0, l1] [aI x] M S = some (some (aI x), M, S) := go_rt rfl (bnd_t (Or.inr h))
/-- StripsFromAboveModel.taken(II)I -/
theorem g178 (x1 x2 : Int) (a0 : Nat) (M : Mem) (S : Sh) : res 178 [aR a0, aI x1, aI x2] M S = go 11 178 0 [some (aR a0), some (aI x1), some (aI x2)] [] M S := res_e0 rfl _ M S
theorem g178_0 (r : Nat) (l0 l1 : Option AV) (x : Int) (M : Mem) (S : Sh) : go r 178 0 [l0, l1, some (aI x)] [] M S = go r 178 1 [l0, l1, some (aI x)] [aI x] M S := go_nx rfl rfl
theorem g178_1 (r : Nat) (l0 l1 l2 : Option AV) (s0 : AV) (M : Mem) (S : Sh) : go r 178 1 [l0, l1, l2] [s0] M S = go r 178 2 [l0, l1, l2] [aI 0, s0] M S := go_nx rfl rfl
theorem g178_2 (r : Nat) (l0 l1 l2 : Option AV) (s0 s1 : AV) (M : Mem) (S : Sh) : go r 178 2 [l0, l1, l2] [s0, s1] M S = go r 178 4 [l0, l1, l2] [aI 6, s0, s1] M S := go_nx rfl rfl
theorem g178_4 (r : Nat) (l0 l1 l2 : Option AV) (x0 x1 x2 : Int) (M : Mem) (S : Sh) (hk : 10 < r) : go r 178 4 [l0, l1, l2] [aI x2, aI x1, aI x0] M S = cont r 178 7 [l0, l1, l2] [] 1 (res 106 [aI x0, aI x1, aI x2] M S) := go_c0 (m' := 106) (n := 3) (pc' := 7) (hr := 1) rfl rfl rfl rfl rfl rfl hk rfl
theorem g178_7 (r : Nat) (l0 l1 l2 : Option AV) (x : Int) (M : Mem) (S : Sh) : go r 178 7 [l0, l1, l2] [aI x] M S = if x ≠ 0 then go r 178 13 [l0, l1, l2] [] M S else go r 178 10 [l0, l1, l2] [] M S := go_br rfl rfl rfl rfl rfl
theorem g178_10 (r : Nat) (l0 l1 l2 : Option AV) (M : Mem) (S : Sh) : go r 178 10 [l0, l1, l2] [] M S = go r 178 12 [l0, l1, l2] [aI (-2)] M S := go_nx rfl rfl
theorem g178_12 (r : Nat) (l0 l1 l2 : Option AV) (x : Int) (M : Mem) (S : Sh) : go r 178 12 [l0, l1, l2] [aI x] M S = some (some (aI x), M, S) := go_rt rfl (bnd_t (Or.inl rfl))
theorem g178_13 (r : Nat) (l0 l2 : Option AV) (x : Int) (M : Mem) (S : Sh) : go r 178 13 [l0, some (aI x), l2] [] M S = go r 178 14 [l0, some (aI x), l2] [aI x] M S := go_nx rfl rfl
theorem g178_14 (r : Nat) (l0 l1 l2 : Option AV) (s0 : AV) (M : Mem) (S : Sh) : go r 178 14 [l0, l1, l2] [s0] M S = go r 178 15 [l0, l1, l2] [aI 0, s0] M S := go_nx rfl rfl
theorem g178_15 (r : Nat) (l0 l1 l2 : Option AV) (s0 s1 : AV) (M : Mem) (S : Sh) : go r 178 15 [l0, l1, l2] [s0, s1] M S = go r 178 17 [l0, l1, l2] [aI 15, s0, s1] M S := go_nx rfl rfl
theorem g178_17 (r : Nat) (l0 l1 l2 : Option AV) (x0 x1 x2 : Int) (M : Mem) (S : Sh) (hk : 10 < r) : go r 178 17 [l0, l1, l2] [aI x2, aI x1, aI x0] M S = cont r 178 20 [l0, l1, l2] [] 1 (res 106 [aI x0, aI x1, aI x2] M S) := go_c0 (m' := 106) (n := 3) (pc' := 20) (hr := 1) rfl rfl rfl rfl rfl rfl hk rfl
theorem g178_20 (r : Nat) (l0 l1 l2 : Option AV) (x : Int) (M : Mem) (S : Sh) : go r 178 20 [l0, l1, l2] [aI x] M S = if x ≠ 0 then go r 178 26 [l0, l1, l2] [] M S else go r 178 23 [l0, l1, l2] [] M S := go_br rfl rfl rfl rfl rfl
theorem g178_23 (r : Nat) (l0 l1 l2 : Option AV) (M : Mem) (S : Sh) : go r 178 23 [l0, l1, l2] [] M S = go r 178 25 [l0, l1, l2] [aI (-12)] M S := go_nx rfl rfl
theorem g178_25 (r : Nat) (l0 l1 l2 : Option AV) (x : Int) (M : Mem) (S : Sh) : go r 178 25 [l0, l1, l2] [aI x] M S = some (some (aI x), M, S) := go_rt rfl (bnd_t (Or.inl rfl))
theorem g178_26 (r : Nat) (l0 l2 : Option AV) (x : Int) (M : Mem) (S : Sh) : go r 178 26 [l0, some (aI x), l2] [] M S = go r 178 27 [l0, some (aI x), l2] [aI x] M S := go_nx rfl rfl
theorem g178_27 (r : Nat) (l0 l1 l2 : Option AV) (s0 : AV) (M : Mem) (S : Sh) : go r 178 27 [l0, l1, l2] [s0] M S = go r 178 28 [l0, l1, l2] [aI 4, s0] M S := go_nx rfl rfl
theorem g178_28 (r : Nat) (l0 l1 l2 : Option AV) (x y : Int) (M : Mem) (S : Sh) : go r 178 28 [l0, l1, l2] [aI y, aI x] M S = if x < y then go r 178 78 [l0, l1, l2] [] M S else go r 178 31 [l0, l1, l2] [] M S := go_br rfl rfl rfl rfl rfl
theorem g178_31 (r : Nat) (l0 l2 : Option AV) (x : Int) (M : Mem) (S : Sh) : go r 178 31 [l0, some (aI x), l2] [] M S = go r 178 32 [l0, some (aI x), l2] [aI x] M S := go_nx rfl rfl
theorem g178_32 (r : Nat) (l0 l1 l2 : Option AV) (s0 : AV) (M : Mem) (S : Sh) : go r 178 32 [l0, l1, l2] [s0] M S = go r 178 33 [l0, l1, l2] [aI 4, s0] M S := go_nx rfl rfl
theorem g178_33 (r : Nat) (l0 l1 l2 : Option AV) (x y : Int) (M : Mem) (S : Sh) : go r 178 33 [l0, l1, l2] [aI y, aI x] M S = go r 178 34 [l0, l1, l2] [aI (w32 (x - y))] M S := go_nx rfl rfl
theorem g178_34 (r : Nat) (l1 l2 : Option AV) (s0 : AV) (a : Nat) (M : Mem) (S : Sh) : go r 178 34 [some (aR a), l1, l2] [s0] M S = go r 178 35 [some (aR a), l1, l2] [aR a, s0] M S := go_nx rfl rfl
theorem g178_35 (r : Nat) (l0 l1 l2 : Option AV) (s0 : AV) (a : Nat) (M : Mem) (S : Sh) (h : S.1 a = 6) : go r 178 35 [l0, l1, l2] [aR a, s0] M S = go r 178 38 [l0, l1, l2] [aI (M a 9), s0] M S := go_bnd rfl h rfl
theorem g178_38 (r : Nat) (l0 l1 l2 : Option AV) (x y : Int) (M : Mem) (S : Sh) : go r 178 38 [l0, l1, l2] [aI y, aI x] M S = if x < y then go r 178 46 [l0, l1, l2] [] M S else go r 178 41 [l0, l1, l2] [] M S := go_br rfl rfl rfl rfl rfl
theorem g178_41 (r : Nat) (l0 l1 l2 : Option AV) (M : Mem) (S : Sh) : go r 178 41 [l0, l1, l2] [] M S = go r 178 43 [l0, l1, l2] [aI (-11)] M S := go_nx rfl rfl
theorem g178_43 (r : Nat) (l0 l1 l2 : Option AV) (s0 : AV) (M : Mem) (S : Sh) : go r 178 43 [l0, l1, l2] [s0] M S = go r 178 77 [l0, l1, l2] [s0] M S := go_nx rfl rfl
theorem g178_46 (r : Nat) (l0 l1 : Option AV) (x : Int) (M : Mem) (S : Sh) : go r 178 46 [l0, l1, some (aI x)] [] M S = go r 178 47 [l0, l1, some (aI x)] [aI x] M S := go_nx rfl rfl
theorem g178_47 (r : Nat) (l0 l1 l2 : Option AV) (s0 : AV) (M : Mem) (S : Sh) : go r 178 47 [l0, l1, l2] [s0] M S = go r 178 49 [l0, l1, l2] [aI 6, s0] M S := go_nx rfl rfl
theorem g178_49 (r : Nat) (l0 l1 l2 : Option AV) (x y : Int) (M : Mem) (S : Sh) : go r 178 49 [l0, l1, l2] [aI y, aI x] M S = if x ≠ y then go r 178 75 [l0, l1, l2] [] M S else go r 178 52 [l0, l1, l2] [] M S := go_br rfl rfl rfl rfl rfl
theorem g178_52 (r : Nat) (l0 l1 l2 : Option AV) (M : Mem) (S : Sh) : go r 178 52 [l0, l1, l2] [] M S = go r 178 54 [l0, l1, l2] [aI 100] M S := go_nx rfl rfl
theorem g178_54 (r : Nat) (l1 l2 : Option AV) (s0 : AV) (a : Nat) (M : Mem) (S : Sh) : go r 178 54 [some (aR a), l1, l2] [s0] M S = go r 178 55 [some (aR a), l1, l2] [aR a, s0] M S := go_nx rfl rfl
theorem g178_55 (r : Nat) (l0 l1 l2 : Option AV) (s0 : AV) (a : Nat) (M : Mem) (S : Sh) (h : S.1 a = 6) : go r 178 55 [l0, l1, l2] [aR a, s0] M S = go r 178 58 [l0, l1, l2] [aO (S.2.2.1 a 10), s0] M S := go_bnd rfl h rfl
theorem g178_58 (r : Nat) (l0 l2 : Option AV) (s0 s1 : AV) (x : Int) (M : Mem) (S : Sh) : go r 178 58 [l0, some (aI x), l2] [s0, s1] M S = go r 178 59 [l0, some (aI x), l2] [aI x, s0, s1] M S := go_nx rfl rfl
theorem g178_59 (r : Nat) (l0 l1 l2 : Option AV) (s0 s1 s2 : AV) (M : Mem) (S : Sh) : go r 178 59 [l0, l1, l2] [s0, s1, s2] M S = go r 178 60 [l0, l1, l2] [aI 4, s0, s1, s2] M S := go_nx rfl rfl
theorem g178_60 (r : Nat) (l0 l1 l2 : Option AV) (s0 s1 : AV) (x y : Int) (M : Mem) (S : Sh) : go r 178 60 [l0, l1, l2] [aI y, aI x, s0, s1] M S = go r 178 61 [l0, l1, l2] [aI (w32 (x - y)), s0, s1] M S := go_nx rfl rfl
theorem g178_61 (r : Nat) (l0 l1 l2 : Option AV) (s0 : AV) (x : Int) (a : Nat) (M : Mem) (S : Sh) (h : S.1 a = 7) (h0 : 0 ≤ x) (h1 : x < S.2.1 a) : go r 178 61 [l0, l1, l2] [aI x, aR a, s0] M S = go r 178 62 [l0, l1, l2] [aI (M a x.toNat), s0] M S := go_bnd rfl ⟨h, h0, h1⟩ rfl
theorem g178_62 (r : Nat) (l0 l1 l2 : Option AV) (x y : Int) (M : Mem) (S : Sh) : go r 178 62 [l0, l1, l2] [aI y, aI x] M S = go r 178 63 [l0, l1, l2] [aI (w32 (x * y))] M S := go_nx rfl rfl
theorem g178_63 (r : Nat) (l1 l2 : Option AV) (s0 : AV) (a : Nat) (M : Mem) (S : Sh) : go r 178 63 [some (aR a), l1, l2] [s0] M S = go r 178 64 [some (aR a), l1, l2] [aR a, s0] M S := go_nx rfl rfl
theorem g178_64 (r : Nat) (l0 l1 l2 : Option AV) (s0 : AV) (a : Nat) (M : Mem) (S : Sh) (h : S.1 a = 6) : go r 178 64 [l0, l1, l2] [aR a, s0] M S = go r 178 67 [l0, l1, l2] [aO (S.2.2.1 a 11), s0] M S := go_bnd rfl h rfl
theorem g178_67 (r : Nat) (l0 l2 : Option AV) (s0 s1 : AV) (x : Int) (M : Mem) (S : Sh) : go r 178 67 [l0, some (aI x), l2] [s0, s1] M S = go r 178 68 [l0, some (aI x), l2] [aI x, s0, s1] M S := go_nx rfl rfl
theorem g178_68 (r : Nat) (l0 l1 l2 : Option AV) (s0 s1 s2 : AV) (M : Mem) (S : Sh) : go r 178 68 [l0, l1, l2] [s0, s1, s2] M S = go r 178 69 [l0, l1, l2] [aI 4, s0, s1, s2] M S := go_nx rfl rfl
theorem g178_69 (r : Nat) (l0 l1 l2 : Option AV) (s0 s1 : AV) (x y : Int) (M : Mem) (S : Sh) : go r 178 69 [l0, l1, l2] [aI y, aI x, s0, s1] M S = go r 178 70 [l0, l1, l2] [aI (w32 (x - y)), s0, s1] M S := go_nx rfl rfl
theorem g178_70 (r : Nat) (l0 l1 l2 : Option AV) (s0 : AV) (x : Int) (a : Nat) (M : Mem) (S : Sh) (h : S.1 a = 7) (h0 : 0 ≤ x) (h1 : x < S.2.1 a) : go r 178 70 [l0, l1, l2] [aI x, aR a, s0] M S = go r 178 71 [l0, l1, l2] [aI (M a x.toNat), s0] M S := go_bnd rfl ⟨h, h0, h1⟩ rfl
theorem g178_71 (r : Nat) (l0 l1 l2 : Option AV) (x y : Int) (M : Mem) (S : Sh) : go r 178 71 [l0, l1, l2] [aI y, aI x] M S = go r 178 72 [l0, l1, l2] [aI (w32 (x + y))] M S := go_nx rfl rfl
theorem g178_72 (r : Nat) (l0 l1 l2 : Option AV) (s0 : AV) (M : Mem) (S : Sh) : go r 178 72 [l0, l1, l2] [s0] M S = go r 178 77 [l0, l1, l2] [s0] M S := go_nx rfl rfl
theorem g178_75 (r : Nat) (l0 l1 l2 : Option AV) (M : Mem) (S : Sh) : go r 178 75 [l0, l1, l2] [] M S = go r 178 77 [l0, l1, l2] [aI (-13)] M S := go_nx rfl rfl
theorem g178_77 (r : Nat) (l0 l1 l2 : Option AV) (x : Int) (M : Mem) (S : Sh) : go r 178 77 [l0, l1, l2] [aI x] M S = some (some (aI x), M, S) := go_rt rfl (bnd_t (Or.inl rfl))
theorem g178_78 (r : Nat) (l0 l2 : Option AV) (x : Int) (M : Mem) (S : Sh) : go r 178 78 [l0, some (aI x), l2] [] M S = go r 178 79 [l0, some (aI x), l2] [aI x] M S := go_nx rfl rfl
theorem g178_79 (r : Nat) (l1 l2 : Option AV) (s0 : AV) (a : Nat) (M : Mem) (S : Sh) : go r 178 79 [some (aR a), l1, l2] [s0] M S = go r 178 80 [some (aR a), l1, l2] [aR a, s0] M S := go_nx rfl rfl
theorem g178_80 (r : Nat) (l0 l1 l2 : Option AV) (s0 : AV) (a : Nat) (M : Mem) (S : Sh) (h : S.1 a = 6) : go r 178 80 [l0, l1, l2] [aR a, s0] M S = go r 178 83 [l0, l1, l2] [aI (M a 5), s0] M S := go_bnd rfl h rfl
theorem g178_83 (r : Nat) (l0 l1 l2 : Option AV) (x y : Int) (M : Mem) (S : Sh) : go r 178 83 [l0, l1, l2] [aI y, aI x] M S = if x < y then go r 178 91 [l0, l1, l2] [] M S else go r 178 86 [l0, l1, l2] [] M S := go_br rfl rfl rfl rfl rfl
theorem g178_86 (r : Nat) (l0 l1 l2 : Option AV) (M : Mem) (S : Sh) : go r 178 86 [l0, l1, l2] [] M S = go r 178 88 [l0, l1, l2] [aI (-11)] M S := go_nx rfl rfl
theorem g178_88 (r : Nat) (l0 l1 l2 : Option AV) (s0 : AV) (M : Mem) (S : Sh) : go r 178 88 [l0, l1, l2] [s0] M S = go r 178 116 [l0, l1, l2] [s0] M S := go_nx rfl rfl
theorem g178_91 (r : Nat) (l0 l1 : Option AV) (x : Int) (M : Mem) (S : Sh) : go r 178 91 [l0, l1, some (aI x)] [] M S = go r 178 92 [l0, l1, some (aI x)] [aI x] M S := go_nx rfl rfl
theorem g178_92 (r : Nat) (l0 l1 l2 : Option AV) (s0 : AV) (M : Mem) (S : Sh) : go r 178 92 [l0, l1, l2] [s0] M S = go r 178 94 [l0, l1, l2] [aI 6, s0] M S := go_nx rfl rfl
theorem g178_94 (r : Nat) (l0 l1 l2 : Option AV) (x y : Int) (M : Mem) (S : Sh) : go r 178 94 [l0, l1, l2] [aI y, aI x] M S = if x ≥ y then go r 178 114 [l0, l1, l2] [] M S else go r 178 97 [l0, l1, l2] [] M S := go_br rfl rfl rfl rfl rfl
theorem g178_97 (r : Nat) (l1 l2 : Option AV) (a : Nat) (M : Mem) (S : Sh) : go r 178 97 [some (aR a), l1, l2] [] M S = go r 178 98 [some (aR a), l1, l2] [aR a] M S := go_nx rfl rfl
theorem g178_98 (r : Nat) (l0 l1 l2 : Option AV) (a : Nat) (M : Mem) (S : Sh) (h : S.1 a = 6) : go r 178 98 [l0, l1, l2] [aR a] M S = go r 178 101 [l0, l1, l2] [aO (S.2.2.1 a 6)] M S := go_bnd rfl h rfl
theorem g178_101 (r : Nat) (l0 l2 : Option AV) (s0 : AV) (x : Int) (M : Mem) (S : Sh) : go r 178 101 [l0, some (aI x), l2] [s0] M S = go r 178 102 [l0, some (aI x), l2] [aI x, s0] M S := go_nx rfl rfl
theorem g178_102 (r : Nat) (l0 l1 l2 : Option AV) (x : Int) (a : Nat) (M : Mem) (S : Sh) (h : S.1 a = 7) (h0 : 0 ≤ x) (h1 : x < S.2.1 a) : go r 178 102 [l0, l1, l2] [aI x, aR a] M S = go r 178 103 [l0, l1, l2] [aI (M a x.toNat)] M S := go_bnd rfl ⟨h, h0, h1⟩ rfl
theorem g178_103 (r : Nat) (l0 l1 : Option AV) (s0 : AV) (x : Int) (M : Mem) (S : Sh) : go r 178 103 [l0, l1, some (aI x)] [s0] M S = go r 178 104 [l0, l1, some (aI x)] [aI x, s0] M S := go_nx rfl rfl
theorem g178_104 (r : Nat) (l0 l1 l2 : Option AV) (x0 x1 : Int) (M : Mem) (S : Sh) (hk : 10 < r) : go r 178 104 [l0, l1, l2] [aI x1, aI x0] M S = cont r 178 107 [l0, l1, l2] [] 1 (res 177 [aI x0, aI x1] M S) := go_c0 (m' := 177) (n := 2) (pc' := 107) (hr := 1) rfl rfl rfl rfl rfl rfl hk rfl
set_option maxRecDepth 20000 in
theorem g178_107 (r : Nat) (l0 l1 l2 : Option AV) (x : Int) (M : Mem) (S : Sh) : go r 178 107 [l0, l1, l2] [aI x] M S = if x = 0 then go r 178 114 [l0, l1, l2] [] M S else go r 178 110 [l0, l1, l2] [] M S := go_br rfl rfl rfl rfl rfl
set_option maxRecDepth 20000 in
theorem g178_110 (r : Nat) (l0 l2 : Option AV) (x : Int) (M : Mem) (S : Sh) : go r 178 110 [l0, some (aI x), l2] [] M S = go r 178 111 [l0, some (aI x), l2] [aI x] M S := go_nx rfl rfl
set_option maxRecDepth 20000 in
theorem g178_111 (r : Nat) (l0 l1 l2 : Option AV) (s0 : AV) (M : Mem) (S : Sh) : go r 178 111 [l0, l1, l2] [s0] M S = go r 178 116 [l0, l1, l2] [s0] M S := go_nx rfl rfl
set_option maxRecDepth 20000 in
theorem g178_114 (r : Nat) (l0 l1 l2 : Option AV) (M : Mem) (S : Sh) : go r 178 114 [l0, l1, l2] [] M S = go r 178 116 [l0, l1, l2] [aI (-13)] M S := go_nx rfl rfl
set_option maxRecDepth 20000 in
theorem g178_116 (r : Nat) (l0 l1 l2 : Option AV) (x : Int) (M : Mem) (S : Sh) : go r 178 116 [l0, l1, l2] [aI x] M S = some (some (aI x), M, S) := go_rt rfl (bnd_t (Or.inl rfl))
