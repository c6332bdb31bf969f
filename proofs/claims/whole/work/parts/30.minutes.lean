def mileMin (k : Int) : Int := if k = 2 ∨ k = 4 ∨ k = 5 then 2 else 1
def turnMin (k m : Int) : Int := if k = 1 ∨ k = 3 then 6 + Int.tdiv m 3 else if k = 2 ∨ k = 4 then 8 else if k = 5 then 5 else 4
theorem of_0_1 : isOf 0 1 = 0 := rfl
theorem of_0_2 : isOf 0 2 = 0 := rfl
theorem of_1_1 : isOf 1 1 = 1 := rfl
theorem of_1_2 : isOf 1 2 = 0 := rfl
theorem of_2_1 : isOf 2 1 = 0 := rfl
theorem of_2_2 : isOf 2 2 = 1 := rfl
theorem of_3_1 : isOf 3 1 = 1 := rfl
theorem of_3_2 : isOf 3 2 = 0 := rfl
theorem of_4_1 : isOf 4 1 = 0 := rfl
theorem of_4_2 : isOf 4 2 = 1 := rfl
theorem of_5_1 : isOf 5 1 = 0 := rfl
theorem of_5_2 : isOf 5 2 = 0 := rfl
theorem mileMinutes_ {n : Nat} {sc : Nat → Int} {k : Int} {M : Mem} {S : Sh} (hS : Std n S) (hC : iCst sc M) (k0 : 0 ≤ k) (k1 : k < 6) : res 103 [aI k] M S = some (some (aI (mileMin k)), M, S) := by
  rcases (by omega : k = 0 ∨ k = 1 ∨ k = 2 ∨ k = 3 ∨ k = 4 ∨ k = 5) with rfl | rfl | rfl | rfl | rfl | rfl
  all_goals rw [g103]
  all_goals simp (disch := omega) only [g103_0, g103_1, g103_2, g103_5t, g103_5f, g103_8, g103_9, g103_10t, g103_10f, g103_13, g103_14, g103_17, g103_18, cont_1, cont_0, Pr_some, w32_o, isMile_t, isMile_f, isByte_t, isByte_f, isHalf_t, isHalf_f, in_t, in_f, mMile_t, mMile_f, mByte_t, mByte_f, at_in, at_out, put_in, put_out, isOfKind_ hS hC, of_0_1, of_0_2, of_1_1, of_1_2, of_2_1, of_2_2, of_3_1, of_3_2, of_4_1, of_4_2, of_5_1, of_5_2]
  all_goals rfl
theorem turnMinutes_ {n : Nat} {sc : Nat → Int} {k : Int} {M : Mem} {S : Sh} (hS : Std n S) (hC : iCst sc M) (k0 : 0 ≤ k) (k1 : k < 6) {m : Int} (m0 : 0 ≤ m) (m1 : m ≤ 9) : res 104 [aI k, aI m] M S = some (some (aI (turnMin k m)), M, S) := by
  have t : 0 ≤ Int.tdiv m 3 ∧ Int.tdiv m 3 ≤ 3 := by rw [Int.tdiv_eq_ediv_of_nonneg m0]; omega
  have w : w32 (Int.tdiv m 3) = Int.tdiv m 3 := w32_o (by omega) (by omega)
  have w2 : w32 (6 + Int.tdiv m 3) = 6 + Int.tdiv m 3 := w32_o (by omega) (by omega)
  rcases (by omega : k = 0 ∨ k = 1 ∨ k = 2 ∨ k = 3 ∨ k = 4 ∨ k = 5) with rfl | rfl | rfl | rfl | rfl | rfl
  all_goals rw [g104]
  all_goals simp (disch := omega) only [g104_0, g104_1, g104_2, g104_5t, g104_5f, g104_8, g104_10, g104_11, g104_12, g104_13, g104_14, g104_15, g104_16, g104_17, g104_20t, g104_20f, g104_23, g104_25, g104_26, g104_27, g104_28t, g104_28f, g104_31, g104_32, g104_35, g104_36, cont_1, cont_0, isOfKind_ hS hC, of_0_1, of_0_2, of_1_1, of_1_2, of_2_1, of_2_2, of_3_1, of_3_2, of_4_1, of_4_2, of_5_1, of_5_2, w, w2]
  all_goals rfl
