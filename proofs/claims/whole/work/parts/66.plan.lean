/-! planned strips -/
def plN (lim fr ap : Int) : Nat → Nat → Nat
  | 0, k => k
  | rem + 1, k => if fr + (k : Int) * ap < lim then plN lim fr ap rem (k + 1) else k
def wsP (ac : Int) : Nat → Int := fun k => 2 * ac + ((k % 2 : Nat) : Int)
def lsP (fr ap : Int) : Nat → Int := fun k => fr + (k : Int) * ap
def limP (ac : Int) : Int := if ac = 0 then 12 else 16
theorem plN_le {lim fr ap : Int} : ∀ rem k, plN lim fr ap rem k ≤ k + rem := by
  intro rem
  induction rem with
  | zero => intro k; exact Nat.le_refl _
  | succ rem ih =>
    intro k
    rw [plN]
    split
    · have := ih (k + 1); omega
    · omega
theorem plN_lt {lim fr ap : Int} : ∀ rem k j, k ≤ j → j < plN lim fr ap rem k → fr + (j : Int) * ap < lim := by
  intro rem
  induction rem with
  | zero => intro k j h0 h1; rw [plN] at h1; omega
  | succ rem ih =>
    intro k j h0 h1
    rw [plN] at h1
    by_cases h : fr + (k : Int) * ap < lim
    · rw [if_pos h] at h1
      by_cases e : j = k
      · rw [e]; exact h
      · exact ih (k + 1) j (by omega) h1
    · rw [if_neg h] at h1
      omega
theorem mul_b {k : Nat} {ap : Int} (h0 : k ≤ 12) (h1 : 0 ≤ ap) (h2 : ap ≤ 9) : 0 ≤ (k : Int) * ap ∧ (k : Int) * ap ≤ 108 := by
  refine ⟨Int.mul_nonneg (by omega) h1, ?_⟩
  have := Int.mul_le_mul (show (k : Int) ≤ 12 by omega) h2 h1 (show (0 : Int) ≤ 12 by omega)
  omega
theorem tm2n (k : Nat) : Int.tmod (k : Int) 2 = ((k % 2 : Nat) : Int) := by
  rw [Int.tmod_eq_emod_of_nonneg (by omega)]
  omega
def flP (M : Mem) (ac fr ap : Int) : FS × Int := flT M (plN (limP ac) fr ap 12 0) (wsP ac) (lsP fr ap)
theorem flP_fr {M M' : Mem} (h : FrC M M') : flP M' = flP M := by
  funext ac fr ap
  unfold flP
  rw [flT_fr h]
theorem plan_v {ac fr ap : Int} (hac : ac = 0 ∨ ac = 1) (f0 : 0 ≤ fr) (a0 : 0 ≤ ap) (a1 : ap ≤ 9) : ∀ j, j < plN (limP ac) fr ap 12 0 → 0 ≤ wsP ac j ∧ wsP ac j ≤ 3 ∧ 0 ≤ lsP fr ap j ∧ lsP fr ap j < 16 ∧ (wsP ac j < 2 → lsP fr ap j < 12) := by
  intro j hj
  have h1 := plN_lt 12 0 j (by omega) hj
  have h2 := plN_le (lim := limP ac) (fr := fr) (ap := ap) 12 0
  have h3 := mul_b (k := j) (ap := ap) (by omega) a0 a1
  unfold wsP lsP
  rcases hac with rfl | rfl
  · rw [show limP 0 = 12 from rfl] at h1
    omega
  · rw [show limP 1 = 16 from rfl] at h1
    omega
/-- thought with k planned strips -/
def PiC (M X : Mem) (ac fr ap : Int) (k : Nat) : Prop := ThkS M X ∧ X 17 4 = (k : Int) ∧ ∀ j, j < k → X 20 j = wsP ac j ∧ X 21 j = lsP fr ap j
theorem pi_step {M X : Mem} {ac fr ap : Int} {k : Nat} (h : PiC M X ac fr ap k) : PiC M (mset (mset (mset X 20 k (wsP ac k)) 21 k (lsP fr ap k)) 17 4 ((k : Int) + 1)) ac fr ap (k + 1) := by
  obtain ⟨hS2, h4, hs⟩ := h
  refine ⟨ThkS_x hS2 (fun a h1 h2 h3 => by
    rw [mset_ne _ _ _ h1, mset_ne _ _ _ h3, mset_ne _ _ _ h2]) (fun j h1 h2 => by
    simp (disch := omega) only [mset_ne, mset_nk]), by rw [mset_eq]; rfl, fun j hj => ?_⟩
  by_cases e : j = k
  · subst e
    simp (disch := omega) only [mset_ne, mset_eq, and_self]
  · simp (disch := omega) only [mset_ne, mset_nk]
    exact hs j (by omega)
theorem plan_loop {n r : Nat} {ac fr ap : Int} {M : Mem} {S : Sh} (hr : 11 < r) (hS : Std n S) (hac : ac = 0 ∨ ac = 1) (f0 : 0 ≤ fr) (f1 : fr ≤ 9) (a0 : 0 ≤ ap) (a1 : ap ≤ 9) : ∀ (rem k : Nat) (X : Mem), k + rem = 12 → PiC M X ac fr ap k → ∃ X', go r 92 40 [some (aR 6), some (aI ac), some (aI fr), some (aI ap), some (aI (2 * ac)), some (aI (limP ac)), some (aI (k : Int))] [] X S = some (none, X', S) ∧ PiC M X' ac fr ap (plN (limP ac) fr ap rem k) := by
  have k6 := K6 hS
  have k17 := K17 hS
  intro rem
  induction rem with
  | zero =>
    intro k X hk hX
    refine ⟨X, ?_, hX⟩
    rw [g92_40]
    simp (disch := omega) only [g92_0, g92_1, g92_4, g92_5, g92_8, g92_11, g92_12, g92_15, g92_16, g92_19, g92_20t, g92_20f, g92_23, g92_24, g92_27, g92_28, g92_30, g92_32, g92_35, g92_37, g92_38, g92_42, g92_44t, g92_44f, g92_47, g92_48, g92_50, g92_51, g92_52, g92_53, g92_55t, g92_55f, g92_58, g92_59, g92_62, g92_64, g92_66, g92_67, g92_68, g92_69, g92_70, g92_72, g92_73, g92_74, g92_75, g92_78, g92_81, g92_84, cont_1, cont_0, w32_k]
  | succ rem ih =>
    intro k X hk hX
    have kb := mul_b (k := k) (ap := ap) (by omega) a0 a1
    rw [plN, g92_40]
    by_cases hc : fr + (k : Int) * ap < limP ac
    · rw [if_pos hc]
      obtain ⟨X', z, hX'⟩ := ih (k + 1) _ (by omega) (pi_step hX)
      refine ⟨X', ?_, hX'⟩
      rw [← z, nc_1]
      have f2 := addT_ (w := wsP ac k) (l := lsP fr ap k) hS hX.2.1 (show k < 12 by omega)
      have ew : wsP ac k = 2 * ac + ((k % 2 : Nat) : Int) := rfl
      have el : lsP fr ap k = fr + (k : Int) * ap := rfl
      rw [ew, el] at f2 ⊢
      have hm2 : k % 2 < 2 := Nat.mod_lt _ (by omega)
      simp (disch := omega) only [g92_0, g92_1, g92_4, g92_5, g92_8, g92_11, g92_12, g92_15, g92_16, g92_19, g92_20t, g92_20f, g92_23, g92_24, g92_27, g92_28, g92_30, g92_32, g92_35, g92_37, g92_38, g92_42, g92_44t, g92_44f, g92_47, g92_48, g92_50, g92_51, g92_52, g92_53, g92_55t, g92_55f, g92_58, g92_59, g92_62, g92_64, g92_66, g92_67, g92_68, g92_69, g92_70, g92_72, g92_73, g92_74, g92_75, g92_78, g92_81, g92_84, cont_1, cont_0, w32_k, P6_1 hS, w32_o, tm2n, f2]
    · rw [if_neg hc]
      refine ⟨X, ?_, hX⟩
      simp (disch := omega) only [g92_0, g92_1, g92_4, g92_5, g92_8, g92_11, g92_12, g92_15, g92_16, g92_19, g92_20t, g92_20f, g92_23, g92_24, g92_27, g92_28, g92_30, g92_32, g92_35, g92_37, g92_38, g92_42, g92_44t, g92_44f, g92_47, g92_48, g92_50, g92_51, g92_52, g92_53, g92_55t, g92_55f, g92_58, g92_59, g92_62, g92_64, g92_66, g92_67, g92_68, g92_69, g92_70, g92_72, g92_73, g92_74, g92_75, g92_78, g92_81, g92_84, cont_1, cont_0, w32_k, w32_o]
