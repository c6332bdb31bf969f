theorem mileOf_ {n : Nat} {p : Int} {M : Mem} {S : Sh} (hS : Std n S) (p0 : 0 ≤ p) (p1 : p < 4) (k0 : 0 ≤ M 87 p.toNat) (k1 : M 87 p.toNat ≤ 5) : res 134 [aR 84, aI p] M S = some (some (aI (mileMin (M 87 p.toNat))), M, S) := by
  have k84 := K84 hS
  have k87 := K87 hS
  have l87 := L87 hS
  rcases (by omega : M 87 p.toNat = 0 ∨ M 87 p.toNat = 1 ∨ M 87 p.toNat = 2 ∨ M 87 p.toNat = 3 ∨ M 87 p.toNat = 4 ∨ M 87 p.toNat = 5) with e | e | e | e | e | e
  all_goals rw [g134]
  all_goals simp (disch := omega) only [g134_0, g134_1, g134_4, g134_5, g134_6, g134_7t, g134_7f, g134_10, g134_11, g134_14, g134_15, g134_16, g134_17t, g134_17f, g134_20, g134_21, g134_24, g134_25, g134_26, g134_27t, g134_27f, g134_30, g134_31, g134_34, g134_35, cont_1, cont_0, P84_6 hS, e]
  all_goals rfl
theorem turnOf_ {n : Nat} {p : Int} {M : Mem} {S : Sh} (hS : Std n S) (p0 : 0 ≤ p) (p1 : p < 4) (k0 : 0 ≤ M 87 p.toNat) (k1 : M 87 p.toNat ≤ 5) (m0 : 0 ≤ M 88 p.toNat) (m1 : M 88 p.toNat ≤ 9) : res 135 [aR 84, aI p] M S = some (some (aI (turnMin (M 87 p.toNat) (M 88 p.toNat))), M, S) := by
  have k84 := K84 hS
  have k87 := K87 hS
  have k88 := K88 hS
  have l87 := L87 hS
  have l88 := L88 hS
  have t : 0 ≤ Int.tdiv (M 88 p.toNat) 3 ∧ Int.tdiv (M 88 p.toNat) 3 ≤ 3 := by rw [Int.tdiv_eq_ediv_of_nonneg m0]; omega
  have w : w32 (Int.tdiv (M 88 p.toNat) 3) = Int.tdiv (M 88 p.toNat) 3 := w32_o (by omega) (by omega)
  have w2 : w32 (6 + Int.tdiv (M 88 p.toNat) 3) = 6 + Int.tdiv (M 88 p.toNat) 3 := w32_o (by omega) (by omega)
  rcases (by omega : M 87 p.toNat = 0 ∨ M 87 p.toNat = 1 ∨ M 87 p.toNat = 2 ∨ M 87 p.toNat = 3 ∨ M 87 p.toNat = 4 ∨ M 87 p.toNat = 5) with e | e | e | e | e | e
  all_goals rw [g135]
  all_goals simp (disch := omega) only [g135_0, g135_1, g135_4, g135_5, g135_6c1, g135_6c2, g135_6c3, g135_6c4, g135_6c5, g135_6d, g135_40, g135_42, g135_43, g135_46, g135_47, g135_48, g135_49, g135_50, g135_51, g135_52, g135_54, g135_55, g135_56, g135_57, g135_58, cont_1, cont_0, P84_6 hS, P84_7 hS, e, w, w2]
  all_goals rfl
