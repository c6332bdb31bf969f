def isOf (k w : Int) : Int := if w = k ∨ w = 0 ∨ (w = 1 ∧ k = 3) ∨ (w = 2 ∧ k = 4) then 1 else 0
theorem n0 : (0 : Int).toNat = 0 := rfl
theorem n1 : (1 : Int).toNat = 1 := rfl
theorem n2 : (2 : Int).toNat = 2 := rfl
theorem n3 : (3 : Int).toNat = 3 := rfl
theorem n4 : (4 : Int).toNat = 4 := rfl
theorem n5 : (5 : Int).toNat = 5 := rfl
theorem isOfKind_ {n : Nat} {sc : Nat → Int} {k w : Int} {M : Mem} {S : Sh} (hS : Std n S) (hC : iCst sc M) (k0 : 0 ≤ k) (k1 : k < 6) (w0 : 0 ≤ w) (w1 : w < 7) : res 100 [aI k, aI w] M S = some (some (aI (isOf k w)), M, S) := by
  obtain ⟨z0, z1, z2, z3, z4, z5⟩ := hC.2.2.1
  have kk := K0 hS
  have ll := L0 hS
  rcases (by omega : k = 0 ∨ k = 1 ∨ k = 2 ∨ k = 3 ∨ k = 4 ∨ k = 5) with rfl | rfl | rfl | rfl | rfl | rfl
  all_goals rcases (by omega : w = 0 ∨ w = 1 ∨ w = 2 ∨ w = 3 ∨ w = 4 ∨ w = 5 ∨ w = 6) with rfl | rfl | rfl | rfl | rfl | rfl | rfl
  all_goals rw [g100]
  all_goals simp (disch := omega) only [g100_0, g100_1, g100_2, g100_3, g100_4, g100_5, g100_8, g100_9t, g100_9f, g100_12, g100_13t, g100_13f, g100_16, g100_17, g100_20, g100_21t, g100_21f, g100_24, g100_25, g100_26t, g100_26f, g100_29, g100_30, g100_31, g100_34, g100_35, g100_36, g100_37, g100_40, g100_43, g100_44, ll, z0, z1, z2, z3, z4, z5, n0, n1, n2, n3, n4, n5, w32_o]
  all_goals rfl
