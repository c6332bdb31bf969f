theorem at_in {a : Nat} {i : Int} {M : Mem} {S : Sh} (hK : S.1 a = 7) (h0 : 0 ≤ i) (h1 : i < S.2.1 a) : res 96 [aR a, aI i] M S = some (some (aI (M a i.toNat)), M, S) := by
  rw [g96]
  simp (disch := omega) only [g96_0, g96_1t, g96_1f, g96_4, g96_5, g96_5n, g96_6, g96_7t, g96_7f, g96_10, g96_10n, g96_11, g96_12, g96_13, g96_16, g96_17]
theorem at_out {a : Nat} {i : Int} {M : Mem} {S : Sh} (hK : S.1 a = 7) (h : i < 0 ∨ S.2.1 a ≤ i) : res 96 [aR a, aI i] M S = some (some (aI 0), M, S) := by
  rw [g96]
  rcases Int.lt_or_le i 0 with h0 | h0
  · simp (disch := omega) only [g96_0, g96_1t, g96_1f, g96_4, g96_5, g96_5n, g96_6, g96_7t, g96_7f, g96_10, g96_10n, g96_11, g96_12, g96_13, g96_16, g96_17]
  · simp (disch := omega) only [g96_0, g96_1t, g96_1f, g96_4, g96_5, g96_5n, g96_6, g96_7t, g96_7f, g96_10, g96_10n, g96_11, g96_12, g96_13, g96_16, g96_17]
theorem put_in {a : Nat} {i v : Int} {M : Mem} {S : Sh} (hK : S.1 a = 7) (h6 : 6 ≤ a) (h0 : 0 ≤ i) (h1 : i < S.2.1 a) : res 97 [aR a, aI i, aI v] M S = some (none, mset M a i.toNat v, S) := by
  rw [g97]
  simp (disch := omega) only [g97_0, g97_1t, g97_1f, g97_4, g97_5, g97_5n, g97_6, g97_7t, g97_7f, g97_10, g97_10n, g97_11, g97_12, g97_13, g97_14]
theorem put_out {a : Nat} {i v : Int} {M : Mem} {S : Sh} (hK : S.1 a = 7) (h : i < 0 ∨ S.2.1 a ≤ i) : res 97 [aR a, aI i, aI v] M S = some (none, M, S) := by
  rw [g97]
  rcases Int.lt_or_le i 0 with h0 | h0
  · simp (disch := omega) only [g97_0, g97_1t, g97_1f, g97_4, g97_5, g97_5n, g97_6, g97_7t, g97_7f, g97_10, g97_10n, g97_11, g97_12, g97_13, g97_14]
  · simp (disch := omega) only [g97_0, g97_1t, g97_1f, g97_4, g97_5, g97_5n, g97_6, g97_7t, g97_7f, g97_10, g97_10n, g97_11, g97_12, g97_13, g97_14]
theorem bounded_ {v a b : Int} {M : Mem} {S : Sh} : res 98 [aI v, aI a, aI b] M S = some (some (aI (if v < a then a else if b < v then b else v)), M, S) := by
  rw [g98]
  rcases Int.lt_or_le v a with h | h
  · rw [if_pos h]
    simp (disch := omega) only [g98_0, g98_1, g98_2t, g98_2f, g98_5, g98_6, g98_9, g98_10, g98_11t, g98_11f, g98_14, g98_15, g98_18, g98_19]
  · rw [if_neg (Int.not_lt.mpr h)]
    rcases Int.lt_or_le b v with h2 | h2
    · rw [if_pos h2]
      simp (disch := omega) only [g98_0, g98_1, g98_2t, g98_2f, g98_5, g98_6, g98_9, g98_10, g98_11t, g98_11f, g98_14, g98_15, g98_18, g98_19]
    · rw [if_neg (Int.not_lt.mpr h2)]
      simp (disch := omega) only [g98_0, g98_1, g98_2t, g98_2f, g98_5, g98_6, g98_9, g98_10, g98_11t, g98_11f, g98_14, g98_15, g98_18, g98_19]
