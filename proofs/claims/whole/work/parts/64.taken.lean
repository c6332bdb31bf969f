theorem isUnder_ {k w : Int} {M : Mem} {S : Sh} (k0 : 0 ≤ k) (k1 : k < 6) (w0 : 0 ≤ w) (w1 : w < 6) : res 177 [aI k, aI w] M S = some (some (aI (isOf k w)), M, S) := by
  rcases (by omega : k = 0 ∨ k = 1 ∨ k = 2 ∨ k = 3 ∨ k = 4 ∨ k = 5) with rfl | rfl | rfl | rfl | rfl | rfl
  all_goals rcases (by omega : w = 0 ∨ w = 1 ∨ w = 2 ∨ w = 3 ∨ w = 4 ∨ w = 5) with rfl | rfl | rfl | rfl | rfl | rfl
  all_goals rw [g177]
  all_goals simp (disch := omega) only [g177_0, g177_1t, g177_1f, g177_4, g177_5, g177_6t, g177_6f, g177_9, g177_10, g177_11t, g177_11f, g177_14, g177_15, g177_16t, g177_16f, g177_19, g177_20, g177_21t, g177_21f, g177_24, g177_25, g177_26t, g177_26f, g177_29, g177_30, g177_33, g177_34]
  all_goals rfl
