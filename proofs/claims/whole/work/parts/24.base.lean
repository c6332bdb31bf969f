theorem at_in {a : Nat} {i : Int} {M : Mem} {S : Sh} (hK : S.1 a = 7) (h0 : 0 ≤ i) (h1 : i < S.2.1 a) : res 96 [aR a, aI i] M S = some (some (aI (M a i.toNat)), M, S) := by
  rw [g96]
  simp (disch := omega) only [g96_0, g96_1t, g96_1f, g96_4, g96_5, g96_5n, g96_6, g96_7t, g96_7f, g96_10, g96_10n, g96_11, g96_12, g96_13, g96_16, g96_17]
theorem at_out {a : Nat} {i : Int} {M : Mem} {S : Sh} (hK : S.1 a = 7) (h : i < 0 ∨ S.2.1 a ≤ i) : res 96 [aR a, aI i] M S = some (some (aI 0), M, S) := by
  rw [g96]
  rcases Int.lt_or_le i 0 with h0 | h0
  · simp (disch := omega) only [g96_0, g96_1t, g96_1f, g96_4, g96_5, g96_5n, g96_6, g96_7t, g96_7f, g96_10, g96_10n, g96_11, g96_12, g96_13, g96_16, g96_17]
  · simp (disch := omega) only [g96_0, g96_1t, g96_1f, g96_4, g96_5, g96_5n, g96_6, g96_7t, g96_7f, g96_10, g96_10n, g96_11, g96_12, g96_13, g96_16, g96_17]
theorem put_in {a : Nat} {i v : Int} {M : Mem} {S : Sh} (hK : S.1 a = 7) (h6 : 6 ≤ a) (h0 : 0 ≤ i) (h1 : i < S.2.1 a) : res 97 [aR a, aI i, aI v] M S = some (none, mset M a i.toNat v, S) := by
  rw [g97]
  simp (disch := omega) only [g97_0, g97_1t, g97_1f, g97_4, g97_5, g97_5n, g97_6, g97_7t, g97_7f, g97_10, g97_10n, g97_11, g97_12, g97_13, g97_14]
theorem put_out {a : Nat} {i v : Int} {M : Mem} {S : Sh} (hK : S.1 a = 7) (h : i < 0 ∨ S.2.1 a ≤ i) : res 97 [aR a, aI i, aI v] M S = some (none, M, S) := by
  rw [g97]
  rcases Int.lt_or_le i 0 with h0 | h0
  · simp (disch := omega) only [g97_0, g97_1t, g97_1f, g97_4, g97_5, g97_5n, g97_6, g97_7t, g97_7f, g97_10, g97_10n, g97_11, g97_12, g97_13, g97_14]
  · simp (disch := omega) only [g97_0, g97_1t, g97_1f, g97_4, g97_5, g97_5n, g97_6, g97_7t, g97_7f, g97_10, g97_10n, g97_11, g97_12, g97_13, g97_14]
theorem bounded_ {v a b : Int} {M : Mem} {S : Sh} : res 98 [aI v, aI a, aI b] M S = some (some (aI (if v < a then a else if b < v then b else v)), M, S) := by
  rw [g98]
  rcases Int.lt_or_le v a with h | h
  · rw [if_pos h]
    simp (disch := omega) only [g98_0, g98_1, g98_2t, g98_2f, g98_5, g98_6, g98_9, g98_10, g98_11t, g98_11f, g98_14, g98_15, g98_18, g98_19]
  · rw [if_neg (Int.not_lt.mpr h)]
    rcases Int.lt_or_le b v with h2 | h2
    · rw [if_pos h2]
      simp (disch := omega) only [g98_0, g98_1, g98_2t, g98_2f, g98_5, g98_6, g98_9, g98_10, g98_11t, g98_11f, g98_14, g98_15, g98_18, g98_19]
    · rw [if_neg (Int.not_lt.mpr h2)]
      simp (disch := omega) only [g98_0, g98_1, g98_2t, g98_2f, g98_5, g98_6, g98_9, g98_10, g98_11t, g98_11f, g98_14, g98_15, g98_18, g98_19]
theorem linesOf_lt {way : Int} {M : Mem} {S : Sh} (h : way < 2) : res 99 [aI way] M S = some (some (aI 12), M, S) := by
  rw [g99]
  simp (disch := omega) only [g99_0, g99_1, g99_2t, g99_2f, g99_5, g99_7, g99_10, g99_12]
theorem linesOf_ge {way : Int} {M : Mem} {S : Sh} (h : 2 ≤ way) : res 99 [aI way] M S = some (some (aI 16), M, S) := by
  rw [g99]
  simp (disch := omega) only [g99_0, g99_1, g99_2t, g99_2f, g99_5, g99_7, g99_10, g99_12]
theorem isMile_t {m : Int} {M : Mem} {S : Sh} (h0 : 0 ≤ m) (h1 : m < 192) : res 85 [aI m] M S = some (some (aI 1), M, S) := by
  rw [g85]
  simp (disch := omega) only [g85_0, g85_1t, g85_1f, g85_4, g85_5, g85_8t, g85_8f, g85_11, g85_12, g85_15, g85_16, cont_1, cont_0]
theorem isMile_f {m : Int} {M : Mem} {S : Sh} (h : m < 0 ∨ 192 ≤ m) : res 85 [aI m] M S = some (some (aI 0), M, S) := by
  rw [g85]
  by_cases h0 : m < 0
  · simp (disch := omega) only [g85_0, g85_1t, g85_1f, g85_4, g85_5, g85_8t, g85_8f, g85_11, g85_12, g85_15, g85_16, cont_1, cont_0]
  · skip
    simp (disch := omega) only [g85_0, g85_1t, g85_1f, g85_4, g85_5, g85_8t, g85_8f, g85_11, g85_12, g85_15, g85_16, cont_1, cont_0]
theorem isByte_t {m : Int} {M : Mem} {S : Sh} (h0 : 0 ≤ m) (h1 : m < 256) : res 86 [aI m] M S = some (some (aI 1), M, S) := by
  rw [g86]
  simp (disch := omega) only [g86_0, g86_1t, g86_1f, g86_4, g86_5, g86_8t, g86_8f, g86_11, g86_12, g86_15, g86_16, cont_1, cont_0]
theorem isByte_f {m : Int} {M : Mem} {S : Sh} (h : m < 0 ∨ 256 ≤ m) : res 86 [aI m] M S = some (some (aI 0), M, S) := by
  rw [g86]
  by_cases h0 : m < 0
  · simp (disch := omega) only [g86_0, g86_1t, g86_1f, g86_4, g86_5, g86_8t, g86_8f, g86_11, g86_12, g86_15, g86_16, cont_1, cont_0]
  · skip
    simp (disch := omega) only [g86_0, g86_1t, g86_1f, g86_4, g86_5, g86_8t, g86_8f, g86_11, g86_12, g86_15, g86_16, cont_1, cont_0]
theorem isHalf_t {m : Int} {M : Mem} {S : Sh} (h : m = 0 ∨ m = 1) : res 87 [aI m] M S = some (some (aI 1), M, S) := by
  rw [g87]
  rcases h with rfl | rfl
  · simp (disch := omega) only [g87_0, g87_1t, g87_1f, g87_4, g87_5, g87_6t, g87_6f, g87_9, g87_10, g87_13, g87_14]
  · simp (disch := omega) only [g87_0, g87_1t, g87_1f, g87_4, g87_5, g87_6t, g87_6f, g87_9, g87_10, g87_13, g87_14]
theorem isHalf_f {m : Int} {M : Mem} {S : Sh} (h0 : m ≠ 0) (h1 : m ≠ 1) : res 87 [aI m] M S = some (some (aI 0), M, S) := by
  rw [g87]
  simp (disch := omega) only [g87_0, g87_1t, g87_1f, g87_4, g87_5, g87_6t, g87_6f, g87_9, g87_10, g87_13, g87_14]
theorem in_t {v a b : Int} {M : Mem} {S : Sh} (h0 : a ≤ v) (h1 : v ≤ b) : res 106 [aI v, aI a, aI b] M S = some (some (aI 1), M, S) := by
  rw [g106]
  simp (disch := omega) only [g106_0, g106_1, g106_2t, g106_2f, g106_5, g106_6, g106_7t, g106_7f, g106_10, g106_11, g106_14, g106_15, cont_1, cont_0]
theorem in_f {v a b : Int} {M : Mem} {S : Sh} (h : v < a ∨ b < v) : res 106 [aI v, aI a, aI b] M S = some (some (aI 0), M, S) := by
  rw [g106]
  by_cases h0 : v < a
  · simp (disch := omega) only [g106_0, g106_1, g106_2t, g106_2f, g106_5, g106_6, g106_7t, g106_7f, g106_10, g106_11, g106_14, g106_15, cont_1, cont_0]
  · skip
    simp (disch := omega) only [g106_0, g106_1, g106_2t, g106_2f, g106_5, g106_6, g106_7t, g106_7f, g106_10, g106_11, g106_14, g106_15, cont_1, cont_0]
theorem within_ {v a b : Int} {M : Mem} {S : Sh} : res 107 [aI v, aI a, aI b] M S = some (some (aI (if v < a then a else if b < v then b else v)), M, S) := by
  rw [g107]
  rcases Int.lt_or_le v a with h | h
  · rw [if_pos h]
    simp (disch := omega) only [g107_0, g107_1, g107_2t, g107_2f, g107_5, g107_6, g107_9, g107_10, g107_11t, g107_11f, g107_14, g107_15, g107_18, g107_19]
  · rw [if_neg (Int.not_lt.mpr h)]
    rcases Int.lt_or_le b v with h2 | h2
    · rw [if_pos h2]
      simp (disch := omega) only [g107_0, g107_1, g107_2t, g107_2f, g107_5, g107_6, g107_9, g107_10, g107_11t, g107_11f, g107_14, g107_15, g107_18, g107_19]
    · rw [if_neg (Int.not_lt.mpr h2)]
      simp (disch := omega) only [g107_0, g107_1, g107_2t, g107_2f, g107_5, g107_6, g107_9, g107_10, g107_11t, g107_11f, g107_14, g107_15, g107_18, g107_19]
theorem isPlane_t {n : Nat} {p : Int} {M : Mem} {S : Sh} (hS : Std n S) (h0 : 0 ≤ p) (h1 : p < M 7 10) : res 84 [aR 6, aI p] M S = some (some (aI 1), M, S) := by
  have k6 := K6 hS
  have k7 := K7 hS
  rw [g84]
  simp (disch := omega) only [g84_0, g84_1t, g84_1f, g84_4, g84_5, g84_6, g84_9, g84_12t, g84_12f, g84_15, g84_16, g84_19, g84_20, P6_0 hS]
theorem isPlane_f {n : Nat} {p : Int} {M : Mem} {S : Sh} (hS : Std n S) (h : p < 0 ∨ M 7 10 ≤ p) : res 84 [aR 6, aI p] M S = some (some (aI 0), M, S) := by
  have k6 := K6 hS
  have k7 := K7 hS
  rw [g84]
  by_cases h0 : p < 0
  · simp (disch := omega) only [g84_0, g84_1t, g84_1f, g84_4, g84_5, g84_6, g84_9, g84_12t, g84_12f, g84_15, g84_16, g84_19, g84_20, P6_0 hS]
  · simp (disch := omega) only [g84_0, g84_1t, g84_1f, g84_4, g84_5, g84_6, g84_9, g84_12t, g84_12f, g84_15, g84_16, g84_19, g84_20, P6_0 hS]
theorem mPlane_t {n : Nat} {p : Int} {M : Mem} {S : Sh} (hS : Std n S) (h0 : 0 ≤ p) (h1 : p < M 84 5) (h2 : M 84 5 ≤ 4) : res 108 [aR 84, aI p] M S = some (some (aI 1), M, S) := by
  have k84 := K84 hS
  have hw : w32 (M 84 5 - 1) = M 84 5 - 1 := w32_id (by unfold r32; omega)
  rw [g108]
  simp (disch := omega) only [g108_0, g108_1, g108_2, g108_3, g108_6, g108_7, g108_8, g108_11, cont_1, cont_0, hw, in_t]
theorem mPlane_f {n : Nat} {p : Int} {M : Mem} {S : Sh} (hS : Std n S) (h : p < 0 ∨ M 84 5 ≤ p) (h2 : M 84 5 ≤ 4) (h3 : 0 ≤ M 84 5) : res 108 [aR 84, aI p] M S = some (some (aI 0), M, S) := by
  have k84 := K84 hS
  have hw : w32 (M 84 5 - 1) = M 84 5 - 1 := w32_id (by unfold r32; omega)
  rw [g108]
  simp (disch := omega) only [g108_0, g108_1, g108_2, g108_3, g108_6, g108_7, g108_8, g108_11, cont_1, cont_0, hw, in_f]
theorem mStrip_t {n : Nat} {p : Int} {M : Mem} {S : Sh} (hS : Std n S) (h0 : 0 ≤ p) (h1 : p < M 84 9) (h2 : M 84 9 ≤ 12) : res 138 [aR 84, aI p] M S = some (some (aI 1), M, S) := by
  have k84 := K84 hS
  have hw : w32 (M 84 9 - 1) = M 84 9 - 1 := w32_id (by unfold r32; omega)
  rw [g138]
  simp (disch := omega) only [g138_0, g138_1, g138_2, g138_3, g138_6, g138_7, g138_8, g138_11, cont_1, cont_0, hw, in_t]
theorem mStrip_f {n : Nat} {p : Int} {M : Mem} {S : Sh} (hS : Std n S) (h : p < 0 ∨ M 84 9 ≤ p) (h2 : M 84 9 ≤ 12) (h3 : 0 ≤ M 84 9) : res 138 [aR 84, aI p] M S = some (some (aI 0), M, S) := by
  have k84 := K84 hS
  have hw : w32 (M 84 9 - 1) = M 84 9 - 1 := w32_id (by unfold r32; omega)
  rw [g138]
  simp (disch := omega) only [g138_0, g138_1, g138_2, g138_3, g138_6, g138_7, g138_8, g138_11, cont_1, cont_0, hw, in_f]
theorem mMile_t {p : Int} {M : Mem} {S : Sh} (h0 : 0 ≤ p) (h1 : p < 192) : res 109 [aI p] M S = some (some (aI 1), M, S) := by
  rw [g109]
  simp (disch := omega) only [g109_0, g109_1, g109_2, g109_5, g109_8, cont_1, cont_0, in_t]
theorem mMile_f {p : Int} {M : Mem} {S : Sh} (h : p < 0 ∨ 192 ≤ p) : res 109 [aI p] M S = some (some (aI 0), M, S) := by
  rw [g109]
  simp (disch := omega) only [g109_0, g109_1, g109_2, g109_5, g109_8, cont_1, cont_0, in_f]
theorem mByte_t {p : Int} {M : Mem} {S : Sh} (h0 : 0 ≤ p) (h1 : p < 256) : res 114 [aI p] M S = some (some (aI 1), M, S) := by
  rw [g114]
  simp (disch := omega) only [g114_0, g114_1, g114_2, g114_5, g114_8, cont_1, cont_0, in_t]
theorem mByte_f {p : Int} {M : Mem} {S : Sh} (h : p < 0 ∨ 256 ≤ p) : res 114 [aI p] M S = some (some (aI 0), M, S) := by
  rw [g114]
  simp (disch := omega) only [g114_0, g114_1, g114_2, g114_5, g114_8, cont_1, cont_0, in_f]
theorem isPlane_i {n : Nat} {p : Int} {M : Mem} {S : Sh} (hS : Std n S) : res 84 [aR 6, aI p] M S = if 0 ≤ p ∧ p < M 7 10 then some (some (aI 1), M, S) else some (some (aI 0), M, S) := by
  split
  · exact isPlane_t hS (by omega) (by omega)
  · exact isPlane_f hS (by omega)
theorem isMile_i {m : Int} {M : Mem} {S : Sh} : res 85 [aI m] M S = if 0 ≤ m ∧ m < 192 then some (some (aI 1), M, S) else some (some (aI 0), M, S) := by
  split
  · exact isMile_t (by omega) (by omega)
  · exact isMile_f (by omega)
theorem isByte_i {m : Int} {M : Mem} {S : Sh} : res 86 [aI m] M S = if 0 ≤ m ∧ m < 256 then some (some (aI 1), M, S) else some (some (aI 0), M, S) := by
  split
  · exact isByte_t (by omega) (by omega)
  · exact isByte_f (by omega)
theorem isHalf_i {m : Int} {M : Mem} {S : Sh} : res 87 [aI m] M S = if m = 0 ∨ m = 1 then some (some (aI 1), M, S) else some (some (aI 0), M, S) := by
  split
  · exact isHalf_t (by omega)
  · exact isHalf_f (by omega) (by omega)
theorem in_i {v a b : Int} {M : Mem} {S : Sh} : res 106 [aI v, aI a, aI b] M S = if a ≤ v ∧ v ≤ b then some (some (aI 1), M, S) else some (some (aI 0), M, S) := by
  split
  · exact in_t (by omega) (by omega)
  · exact in_f (by omega)
theorem mPlane_i {n : Nat} {p : Int} {M : Mem} {S : Sh} (hS : Std n S) (h2 : M 84 5 ≤ 4) (h3 : 0 ≤ M 84 5) : res 108 [aR 84, aI p] M S = if 0 ≤ p ∧ p < M 84 5 then some (some (aI 1), M, S) else some (some (aI 0), M, S) := by
  split
  · exact mPlane_t hS (by omega) (by omega) h2
  · exact mPlane_f hS (by omega) h2 h3
theorem mStrip_i {n : Nat} {p : Int} {M : Mem} {S : Sh} (hS : Std n S) (h2 : M 84 9 ≤ 12) (h3 : 0 ≤ M 84 9) : res 138 [aR 84, aI p] M S = if 0 ≤ p ∧ p < M 84 9 then some (some (aI 1), M, S) else some (some (aI 0), M, S) := by
  split
  · exact mStrip_t hS (by omega) (by omega) h2
  · exact mStrip_f hS (by omega) h2 h3
theorem mMile_i {m : Int} {M : Mem} {S : Sh} : res 109 [aI m] M S = if 0 ≤ m ∧ m < 192 then some (some (aI 1), M, S) else some (some (aI 0), M, S) := by
  split
  · exact mMile_t (by omega) (by omega)
  · exact mMile_f (by omega)
theorem mByte_i {m : Int} {M : Mem} {S : Sh} : res 114 [aI m] M S = if 0 ≤ m ∧ m < 256 then some (some (aI 1), M, S) else some (some (aI 0), M, S) := by
  split
  · exact mByte_t (by omega) (by omega)
  · exact mByte_f (by omega)
theorem linesOf_i {way : Int} {M : Mem} {S : Sh} : res 99 [aI way] M S = some (some (aI (if way < 2 then 12 else 16)), M, S) := by
  split
  · exact linesOf_lt (by omega)
  · exact linesOf_ge (by omega)
theorem at_i {a : Nat} {i : Int} {M : Mem} {S : Sh} (hK : S.1 a = 7) : res 96 [aR a, aI i] M S = if 0 ≤ i ∧ i < S.2.1 a then some (some (aI (M a i.toNat)), M, S) else some (some (aI 0), M, S) := by
  split
  · exact at_in hK (by omega) (by omega)
  · exact at_out hK (by omega)
theorem put_i {a : Nat} {i v : Int} {M : Mem} {S : Sh} (hK : S.1 a = 7) (h6 : 6 ≤ a) : res 97 [aR a, aI i, aI v] M S = if 0 ≤ i ∧ i < S.2.1 a then some (none, mset M a i.toNat v, S) else some (none, M, S) := by
  split
  · exact put_in hK h6 (by omega) (by omega)
  · exact put_out hK (by omega)
