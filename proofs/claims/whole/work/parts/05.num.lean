/-! ints of the machine and wrapped Int -/
def r32 (x : Int) : Prop := -2147483648 ≤ x ∧ x < 2147483648
def r64 (x : Int) : Prop := -9223372036854775808 ≤ x ∧ x < 9223372036854775808
theorem w32_r (x : Int) : r32 (w32 x) := by unfold w32 r32; omega
theorem w64_r (x : Int) : r64 (w64 x) := by unfold w64 r64; omega
theorem w32_id {x : Int} (h : r32 x) : w32 x = x := by unfold r32 at h; unfold w32; omega
theorem w64_id {x : Int} (h : r64 x) : w64 x = x := by unfold r64 at h; unfold w64; omega
theorem r32_64 {x : Int} (h : r32 x) : r64 x := by unfold r32 at h; unfold r64; omega
theorem w32_bm (x : Int) : x.bmod 4294967296 = w32 x := by
  unfold Int.bmod w32
  dsimp only
  split <;> omega
theorem w64_bm (x : Int) : x.bmod 18446744073709551616 = w64 x := by
  unfold Int.bmod w64
  dsimp only
  split <;> omega
theorem tI (x : Int) : (Int32.ofInt x).toInt = w32 x := by
  rw [Int32.toInt_ofInt]
  exact w32_bm x
theorem tL (x : Int) : (Int64.ofInt x).toInt = w64 x := by
  rw [Int64.toInt_ofInt]
  exact w64_bm x
theorem tIr {x : Int} (h : r32 x) : (Int32.ofInt x).toInt = x := by rw [tI, w32_id h]
theorem tLr {x : Int} (h : r64 x) : (Int64.ofInt x).toInt = x := by rw [tL, w64_id h]
theorem i32_r (x : Int32) : r32 x.toInt := ⟨x.le_toInt, x.toInt_lt⟩
theorem i64_r (x : Int64) : r64 x.toInt := ⟨x.le_toInt, x.toInt_lt⟩
theorem oI_w (x : Int) : Int32.ofInt (w32 x) = Int32.ofInt x := Int32.toInt_inj.mp (by rw [tI, tI, w32_id (w32_r x)])
theorem oL_w (x : Int) : Int64.ofInt (w64 x) = Int64.ofInt x := Int64.toInt_inj.mp (by rw [tL, tL, w64_id (w64_r x)])
theorem oI_ti (x : Int32) : Int32.ofInt x.toInt = x := Int32.ofInt_toInt x
theorem oI_div {x y : Int} (hx : r32 x) (hy : r32 y) : Int32.ofInt x / Int32.ofInt y = Int32.ofInt (w32 (Int.tdiv x y)) := Int32.toInt_inj.mp (by
  rw [Int32.toInt_div, tIr hx, tIr hy, tI, w32_id (w32_r _)]
  exact w32_bm _)
theorem oL_div {x y : Int} (hx : r64 x) (hy : r64 y) : Int64.ofInt x / Int64.ofInt y = Int64.ofInt (w64 (Int.tdiv x y)) := Int64.toInt_inj.mp (by
  rw [Int64.toInt_div, tLr hx, tLr hy, tL, w64_id (w64_r _)]
  exact w64_bm _)
theorem oI_rem {x y : Int} (hx : r32 x) (hy : r32 y) : Int32.ofInt x - Int32.ofInt x / Int32.ofInt y * Int32.ofInt y = Int32.ofInt (w32 (Int.tmod x y)) := by
  rw [oI_div hx hy, oI_w, oI_w, ← Int32.ofInt_mul, ← Int32.ofInt_sub]
  congr 1
  rw [Int.tmod_def, Int.mul_comm]
theorem oL_rem {x y : Int} (hx : r64 x) (hy : r64 y) : Int64.ofInt x - Int64.ofInt x / Int64.ofInt y * Int64.ofInt y = Int64.ofInt (w64 (Int.tmod x y)) := by
  rw [oL_div hx hy, oL_w, oL_w, ← Int64.ofInt_mul, ← Int64.ofInt_sub]
  congr 1
  rw [Int.tmod_def, Int.mul_comm]
theorem oI_lt {x y : Int} (hx : r32 x) (hy : r32 y) : Int32.ofInt x < Int32.ofInt y ↔ x < y := by rw [Int32.lt_iff_toInt_lt, tIr hx, tIr hy]
theorem oI_le {x y : Int} (hx : r32 x) (hy : r32 y) : Int32.ofInt x ≤ Int32.ofInt y ↔ x ≤ y := by rw [Int32.le_iff_toInt_le, tIr hx, tIr hy]
theorem oI_eq {x y : Int} (hx : r32 x) (hy : r32 y) : Int32.ofInt x = Int32.ofInt y ↔ x = y := by rw [← Int32.toInt_inj, tIr hx, tIr hy]
theorem oL_lt {x y : Int} (hx : r64 x) (hy : r64 y) : Int64.ofInt x < Int64.ofInt y ↔ x < y := by rw [Int64.lt_iff_toInt_lt, tLr hx, tLr hy]
theorem oL_eq {x y : Int} (hx : r64 x) (hy : r64 y) : Int64.ofInt x = Int64.ofInt y ↔ x = y := by rw [← Int64.toInt_inj, tLr hx, tLr hy]
theorem oI_8 (x : Int) : (Int32.ofInt x).toInt8.toInt32 = Int32.ofInt (w8 x) := Int32.toInt_inj.mp (by
  rw [Int8.toInt_toInt32, Int32.toInt_toInt8, tI, tI]
  unfold Int.bmod w8 w32
  dsimp only
  split <;> omega)
theorem oI_16 (x : Int) : (Int32.ofInt x).toInt16.toInt32 = Int32.ofInt (w16 x) := Int32.toInt_inj.mp (by
  rw [Int16.toInt_toInt32, Int32.toInt_toInt16, tI, tI]
  unfold Int.bmod w16 w32
  dsimp only
  split <;> omega)
theorem oI_64 {x : Int} (hx : r32 x) : (Int32.ofInt x).toInt64 = Int64.ofInt x := Int64.toInt_inj.mp (by rw [Int32.toInt_toInt64, tIr hx, tLr (r32_64 hx)])
theorem oI_b8 {n : Int} (h : -128 ≤ n ∧ n < 128) : (Int8.ofInt n).toInt32 = Int32.ofInt n := by rw [← oI_w n, ← Int32.toInt8_ofInt, oI_8, oI_w]; congr 1; unfold w8; omega
theorem oI_b16 {n : Int} (h : -32768 ≤ n ∧ n < 32768) : (Int16.ofInt n).toInt32 = Int32.ofInt n := by rw [← oI_w n, ← Int32.toInt16_ofInt, oI_16, oI_w]; congr 1; unfold w16; omega
theorem oI_nat (n : Nat) : Int32.ofNat n = Int32.ofInt (n : Int) := Int32.ofInt_eq_ofNat.symm
theorem oI_cl {x : Int} (hx : r32 x) (h0 : 0 ≤ x) : (Int32.ofInt x).toNatClampNeg = x.toNat := by
  show (Int32.ofInt x).toInt.toNat = _
  rw [tIr hx]
theorem oI_in {x : Int} {n : Nat} (hx : r32 x) (h0 : 0 ≤ x) (h1 : x < n) : vp_in (Int32.ofInt x) n := vp_in_iff.mpr (by rw [tIr hx]; exact ⟨h0, h1⟩)
theorem oI_0 : (0 : Int32) = Int32.ofInt 0 := by decide
theorem oL_0 : (0 : Int64) = Int64.ofInt 0 := by decide
theorem oI_neg {x : Int} (hx : r32 x) (h0 : 0 ≤ x) : ¬ Int32.ofInt x < 0 := by rw [oI_0, oI_lt hx (by unfold r32; omega)]; omega
theorem r32_0 : r32 0 := by unfold r32; omega
theorem sh32_r (x y : Int) : r32 (sh32 x y) := i32_r _
theorem or32_r (x y : Int) : r32 (or32 x y) := i32_r _
theorem and32_r (x y : Int) : r32 (and32 x y) := i32_r _
theorem w8_r (x : Int) : r32 (w8 x) := by unfold w8 r32; omega
theorem w16_r (x : Int) : r32 (w16 x) := by unfold w16 r32; omega
