/-! the model's reading of an E -/
def hP (M : Mem) : List Int → Prop
  | [] => True
  | s :: H => M 103 H.length = s ∧ hP M H
def cP (t : Nat) (M : Mem) : List Int → Prop
  | [] => True
  | c :: o => M 93 (200 * t + o.length) = c ∧ cP t M o
theorem hP_fr {M M' : Mem} : ∀ {H : List Int}, (∀ k, k < H.length → M' 103 k = M 103 k) → hP M H → hP M' H := by
  intro H
  induction H with
  | nil => intro _ _; exact trivial
  | cons s H ih =>
    intro h1 h2
    exact ⟨(h1 H.length (by rw [List.length_cons]; omega)).trans h2.1, ih (fun k hk => h1 k (by rw [List.length_cons]; omega)) h2.2⟩
theorem cP_fr {t : Nat} {M M' : Mem} : ∀ {o : List Int}, (∀ k, k < o.length → M' 93 (200 * t + k) = M 93 (200 * t + k)) → cP t M o → cP t M' o := by
  intro o
  induction o with
  | nil => intro _ _; exact trivial
  | cons c o ih =>
    intro h1 h2
    exact ⟨(h1 o.length (by rw [List.length_cons]; omega)).trans h2.1, ih (fun k hk => h1 k (by rw [List.length_cons]; omega)) h2.2⟩
def MyS (t : Nat) (M : Mem) (H o : List Int) : Prop := M 84 32 = ((H.length : Nat) : Int) ∧ M 84 33 = ((opn H : Nat) : Int) ∧ M 84 34 = ((o.length : Nat) : Int) ∧ hP M H ∧ cP t M o ∧ M 84 16 = (t : Int) ∧ t < 6
/-- signs and codes alone -/
def FrU (t : Nat) (M M' : Mem) : Prop := (∀ a, a ≠ 84 → a ≠ 93 → a ≠ 103 → M' a = M a) ∧ (∀ j, j < 32 ∨ 34 < j → M' 84 j = M 84 j) ∧ ∀ k, k < 200 * t ∨ 200 * t + 200 ≤ k → M' 93 k = M 93 k
def FrY (t : Nat) (M M' : Mem) : Prop := (∀ a, a ≠ 84 → a ≠ 93 → a ≠ 103 → M' a = M a) ∧ (∀ j, j < 26 ∨ 34 < j → M' 84 j = M 84 j) ∧ ∀ k, k < 200 * t ∨ 200 * t + 200 ≤ k → M' 93 k = M 93 k
theorem FrU_t {t : Nat} {M M1 M2 : Mem} (h1 : FrU t M M1) (h2 : FrU t M1 M2) : FrU t M M2 := ⟨fun a x y z => (h2.1 a x y z).trans (h1.1 a x y z), fun j hj => (h2.2.1 j hj).trans (h1.2.1 j hj), fun k hk => (h2.2.2 k hk).trans (h1.2.2 k hk)⟩
theorem FrU_r {t : Nat} (M : Mem) : FrU t M M := ⟨fun _ _ _ _ => rfl, fun _ _ => rfl, fun _ _ => rfl⟩
theorem FrY_t {t : Nat} {M M1 M2 : Mem} (h1 : FrY t M M1) (h2 : FrY t M1 M2) : FrY t M M2 := ⟨fun a x y z => (h2.1 a x y z).trans (h1.1 a x y z), fun j hj => (h2.2.1 j hj).trans (h1.2.1 j hj), fun k hk => (h2.2.2 k hk).trans (h1.2.2 k hk)⟩
theorem FrY_r {t : Nat} (M : Mem) : FrY t M M := ⟨fun _ _ _ _ => rfl, fun _ _ => rfl, fun _ _ => rfl⟩
theorem FrU_Y {t : Nat} {M M' : Mem} (h : FrU t M M') : FrY t M M' := ⟨h.1, fun j hj => h.2.1 j (by omega), h.2.2⟩
theorem rank_ {s : Int} {M : Mem} {S : Sh} : res 118 [aI s] M S = some (some (aI ((rkS s : Nat) : Int)), M, S) := by
  rw [g118]
  unfold rkS
  by_cases h0 : s = 0
  · rw [if_pos h0]
    simp (disch := omega) only [g118_0, g118_1t, g118_1f, g118_4, g118_5, g118_8, g118_9, g118_11t, g118_11f, g118_14, g118_15, g118_18, g118_19, g118_21t, g118_21f, g118_24, g118_25, g118_28, g118_29, g118_31t, g118_31f, g118_34, g118_35, g118_38, g118_39, g118_41t, g118_41f, g118_44, g118_45, g118_48, g118_49, g118_51t, g118_51f, g118_54, g118_55, g118_58, g118_59, g118_61t, g118_61f, g118_64, g118_66, g118_69, g118_71, cont_1, cont_0, w32_o]
    all_goals rfl
  rw [if_neg h0]
  by_cases h1 : s = 11
  · rw [if_pos h1]
    simp (disch := omega) only [g118_0, g118_1t, g118_1f, g118_4, g118_5, g118_8, g118_9, g118_11t, g118_11f, g118_14, g118_15, g118_18, g118_19, g118_21t, g118_21f, g118_24, g118_25, g118_28, g118_29, g118_31t, g118_31f, g118_34, g118_35, g118_38, g118_39, g118_41t, g118_41f, g118_44, g118_45, g118_48, g118_49, g118_51t, g118_51f, g118_54, g118_55, g118_58, g118_59, g118_61t, g118_61f, g118_64, g118_66, g118_69, g118_71, cont_1, cont_0, w32_o]
    all_goals rfl
  rw [if_neg h1]
  by_cases h2 : s = 12
  · rw [if_pos h2]
    simp (disch := omega) only [g118_0, g118_1t, g118_1f, g118_4, g118_5, g118_8, g118_9, g118_11t, g118_11f, g118_14, g118_15, g118_18, g118_19, g118_21t, g118_21f, g118_24, g118_25, g118_28, g118_29, g118_31t, g118_31f, g118_34, g118_35, g118_38, g118_39, g118_41t, g118_41f, g118_44, g118_45, g118_48, g118_49, g118_51t, g118_51f, g118_54, g118_55, g118_58, g118_59, g118_61t, g118_61f, g118_64, g118_66, g118_69, g118_71, cont_1, cont_0, w32_o]
    all_goals rfl
  rw [if_neg h2]
  by_cases h3 : s = 13
  · rw [if_pos h3]
    simp (disch := omega) only [g118_0, g118_1t, g118_1f, g118_4, g118_5, g118_8, g118_9, g118_11t, g118_11f, g118_14, g118_15, g118_18, g118_19, g118_21t, g118_21f, g118_24, g118_25, g118_28, g118_29, g118_31t, g118_31f, g118_34, g118_35, g118_38, g118_39, g118_41t, g118_41f, g118_44, g118_45, g118_48, g118_49, g118_51t, g118_51f, g118_54, g118_55, g118_58, g118_59, g118_61t, g118_61f, g118_64, g118_66, g118_69, g118_71, cont_1, cont_0, w32_o]
    all_goals rfl
  rw [if_neg h3]
  by_cases h4 : s ≤ 15
  · rw [if_pos h4]
    simp (disch := omega) only [g118_0, g118_1t, g118_1f, g118_4, g118_5, g118_8, g118_9, g118_11t, g118_11f, g118_14, g118_15, g118_18, g118_19, g118_21t, g118_21f, g118_24, g118_25, g118_28, g118_29, g118_31t, g118_31f, g118_34, g118_35, g118_38, g118_39, g118_41t, g118_41f, g118_44, g118_45, g118_48, g118_49, g118_51t, g118_51f, g118_54, g118_55, g118_58, g118_59, g118_61t, g118_61f, g118_64, g118_66, g118_69, g118_71, cont_1, cont_0, w32_o]
    all_goals rfl
  rw [if_neg h4]
  by_cases h5 : s ≤ 17
  · rw [if_pos h5]
    simp (disch := omega) only [g118_0, g118_1t, g118_1f, g118_4, g118_5, g118_8, g118_9, g118_11t, g118_11f, g118_14, g118_15, g118_18, g118_19, g118_21t, g118_21f, g118_24, g118_25, g118_28, g118_29, g118_31t, g118_31f, g118_34, g118_35, g118_38, g118_39, g118_41t, g118_41f, g118_44, g118_45, g118_48, g118_49, g118_51t, g118_51f, g118_54, g118_55, g118_58, g118_59, g118_61t, g118_61f, g118_64, g118_66, g118_69, g118_71, cont_1, cont_0, w32_o]
    all_goals rfl
  rw [if_neg h5]
  by_cases h6 : s = 18
  · rw [if_pos h6]
    simp (disch := omega) only [g118_0, g118_1t, g118_1f, g118_4, g118_5, g118_8, g118_9, g118_11t, g118_11f, g118_14, g118_15, g118_18, g118_19, g118_21t, g118_21f, g118_24, g118_25, g118_28, g118_29, g118_31t, g118_31f, g118_34, g118_35, g118_38, g118_39, g118_41t, g118_41f, g118_44, g118_45, g118_48, g118_49, g118_51t, g118_51f, g118_54, g118_55, g118_58, g118_59, g118_61t, g118_61f, g118_64, g118_66, g118_69, g118_71, cont_1, cont_0, w32_o]
    all_goals rfl
  rw [if_neg h6]
  simp (disch := omega) only [g118_0, g118_1t, g118_1f, g118_4, g118_5, g118_8, g118_9, g118_11t, g118_11f, g118_14, g118_15, g118_18, g118_19, g118_21t, g118_21f, g118_24, g118_25, g118_28, g118_29, g118_31t, g118_31f, g118_34, g118_35, g118_38, g118_39, g118_41t, g118_41f, g118_44, g118_45, g118_48, g118_49, g118_51t, g118_51f, g118_54, g118_55, g118_58, g118_59, g118_61t, g118_61f, g118_64, g118_66, g118_69, g118_71, cont_1, cont_0, w32_o]
  all_goals rfl
theorem signOf_ {n0 : Nat} {k : Int} {M : Mem} {S : Sh} (hS : Std n0 S) (h : M 84 28 = k) : res 124 [aR 84] M S = some (some (aI (sgn k)), M, S) := by
  have k84 := K84 hS
  rw [g124]
  unfold sgn
  by_cases h0 : k = 4
  · rw [if_pos h0]
    simp (disch := omega) only [g124_0, g124_1, g124_4, g124_5t, g124_5f, g124_8, g124_10, g124_13, g124_14, g124_17, g124_18t, g124_18f, g124_21, g124_23, g124_26, g124_27, g124_30, g124_32t, g124_32f, g124_35, g124_37, g124_40, g124_41, g124_44, g124_46t, g124_46f, g124_49, g124_51, g124_54, g124_55, g124_58, g124_60t, g124_60f, g124_63, g124_65, g124_68, g124_69, g124_72, g124_74t, g124_74f, g124_77, g124_79, g124_82, g124_83, g124_86, g124_88t, g124_88f, g124_91, g124_93, g124_96, g124_97, cont_1, cont_0, w32_o, h]
  rw [if_neg h0]
  by_cases h1 : k = 5
  · rw [if_pos h1]
    simp (disch := omega) only [g124_0, g124_1, g124_4, g124_5t, g124_5f, g124_8, g124_10, g124_13, g124_14, g124_17, g124_18t, g124_18f, g124_21, g124_23, g124_26, g124_27, g124_30, g124_32t, g124_32f, g124_35, g124_37, g124_40, g124_41, g124_44, g124_46t, g124_46f, g124_49, g124_51, g124_54, g124_55, g124_58, g124_60t, g124_60f, g124_63, g124_65, g124_68, g124_69, g124_72, g124_74t, g124_74f, g124_77, g124_79, g124_82, g124_83, g124_86, g124_88t, g124_88f, g124_91, g124_93, g124_96, g124_97, cont_1, cont_0, w32_o, h]
  rw [if_neg h1]
  by_cases h2 : k = 60
  · rw [if_pos h2]
    simp (disch := omega) only [g124_0, g124_1, g124_4, g124_5t, g124_5f, g124_8, g124_10, g124_13, g124_14, g124_17, g124_18t, g124_18f, g124_21, g124_23, g124_26, g124_27, g124_30, g124_32t, g124_32f, g124_35, g124_37, g124_40, g124_41, g124_44, g124_46t, g124_46f, g124_49, g124_51, g124_54, g124_55, g124_58, g124_60t, g124_60f, g124_63, g124_65, g124_68, g124_69, g124_72, g124_74t, g124_74f, g124_77, g124_79, g124_82, g124_83, g124_86, g124_88t, g124_88f, g124_91, g124_93, g124_96, g124_97, cont_1, cont_0, w32_o, h]
  rw [if_neg h2]
  by_cases h3 : k = 61
  · rw [if_pos h3]
    simp (disch := omega) only [g124_0, g124_1, g124_4, g124_5t, g124_5f, g124_8, g124_10, g124_13, g124_14, g124_17, g124_18t, g124_18f, g124_21, g124_23, g124_26, g124_27, g124_30, g124_32t, g124_32f, g124_35, g124_37, g124_40, g124_41, g124_44, g124_46t, g124_46f, g124_49, g124_51, g124_54, g124_55, g124_58, g124_60t, g124_60f, g124_63, g124_65, g124_68, g124_69, g124_72, g124_74t, g124_74f, g124_77, g124_79, g124_82, g124_83, g124_86, g124_88t, g124_88f, g124_91, g124_93, g124_96, g124_97, cont_1, cont_0, w32_o, h]
  rw [if_neg h3]
  by_cases h4 : k = 43
  · rw [if_pos h4]
    simp (disch := omega) only [g124_0, g124_1, g124_4, g124_5t, g124_5f, g124_8, g124_10, g124_13, g124_14, g124_17, g124_18t, g124_18f, g124_21, g124_23, g124_26, g124_27, g124_30, g124_32t, g124_32f, g124_35, g124_37, g124_40, g124_41, g124_44, g124_46t, g124_46f, g124_49, g124_51, g124_54, g124_55, g124_58, g124_60t, g124_60f, g124_63, g124_65, g124_68, g124_69, g124_72, g124_74t, g124_74f, g124_77, g124_79, g124_82, g124_83, g124_86, g124_88t, g124_88f, g124_91, g124_93, g124_96, g124_97, cont_1, cont_0, w32_o, h]
  rw [if_neg h4]
  by_cases h5 : k = 45
  · rw [if_pos h5]
    simp (disch := omega) only [g124_0, g124_1, g124_4, g124_5t, g124_5f, g124_8, g124_10, g124_13, g124_14, g124_17, g124_18t, g124_18f, g124_21, g124_23, g124_26, g124_27, g124_30, g124_32t, g124_32f, g124_35, g124_37, g124_40, g124_41, g124_44, g124_46t, g124_46f, g124_49, g124_51, g124_54, g124_55, g124_58, g124_60t, g124_60f, g124_63, g124_65, g124_68, g124_69, g124_72, g124_74t, g124_74f, g124_77, g124_79, g124_82, g124_83, g124_86, g124_88t, g124_88f, g124_91, g124_93, g124_96, g124_97, cont_1, cont_0, w32_o, h]
  rw [if_neg h5]
  by_cases h6 : k = 42
  · rw [if_pos h6]
    simp (disch := omega) only [g124_0, g124_1, g124_4, g124_5t, g124_5f, g124_8, g124_10, g124_13, g124_14, g124_17, g124_18t, g124_18f, g124_21, g124_23, g124_26, g124_27, g124_30, g124_32t, g124_32f, g124_35, g124_37, g124_40, g124_41, g124_44, g124_46t, g124_46f, g124_49, g124_51, g124_54, g124_55, g124_58, g124_60t, g124_60f, g124_63, g124_65, g124_68, g124_69, g124_72, g124_74t, g124_74f, g124_77, g124_79, g124_82, g124_83, g124_86, g124_88t, g124_88f, g124_91, g124_93, g124_96, g124_97, cont_1, cont_0, w32_o, h]
  rw [if_neg h6]
  simp (disch := omega) only [g124_0, g124_1, g124_4, g124_5t, g124_5f, g124_8, g124_10, g124_13, g124_14, g124_17, g124_18t, g124_18f, g124_21, g124_23, g124_26, g124_27, g124_30, g124_32t, g124_32f, g124_35, g124_37, g124_40, g124_41, g124_44, g124_46t, g124_46f, g124_49, g124_51, g124_54, g124_55, g124_58, g124_60t, g124_60f, g124_63, g124_65, g124_68, g124_69, g124_72, g124_74t, g124_74f, g124_77, g124_79, g124_82, g124_83, g124_86, g124_88t, g124_88f, g124_91, g124_93, g124_96, g124_97, cont_1, cont_0, w32_o, h]
theorem puts_ {n0 t : Nat} {c : Int} {M : Mem} {S : Sh} {H o : List Int} (hS : Std n0 S) (h : MyS t M H o) (hn : o.length < 200) : ∃ M', res 119 [aR 84, aI c] M S = some (none, M', S) ∧ FrU t M M' ∧ MyS t M' H (c :: o) := by
  have k84 := K84 hS
  have k93 := K93 hS
  have k103 := K103 hS
  have l93 := L93 hS
  have l103 := L103 hS
  have p14 := P84_14 hS
  have p31 := P84_31 hS
  obtain ⟨h32, h33, h34, hh, hc, h16, t6⟩ := h
  have i1 : (200 * (t : Int) + ((o.length : Nat) : Int)).toNat = 200 * t + o.length := by omega
  refine ⟨mset (mset M 93 (200 * t + o.length) c) 84 34 ((o.length : Int) + 1), ?_, ⟨fun a x y _ => ?_, fun j hj => ?_, fun k hk => ?_⟩, ?_⟩
  · rw [g119]
    simp (disch := omega) only [g119_0, g119_1, g119_4, g119_7, g119_8, g119_11, g119_12, g119_13, g119_16, g119_17, g119_18, g119_19, g119_20, g119_21, g119_24, g119_25, g119_26, g119_29, cont_1, cont_0, w32_o, p14, h16, h34, i1, mset_ne]
  · rw [mset_ne _ _ _ x, mset_ne _ _ _ y]
  · rw [mset_nk _ (by omega), mset_ne _ _ _ (by omega)]
  · rw [mset_ne _ _ _ (by omega), mset_nk _ (by omega)]
  · refine ⟨?_, ?_, ?_, hP_fr (fun k _ => ?_) hh, ⟨?_, cP_fr (fun k hk => ?_) hc⟩, ?_, t6⟩
    · rw [mset_nk _ (by omega), mset_ne _ _ _ (by omega)]; exact h32
    · rw [mset_nk _ (by omega), mset_ne _ _ _ (by omega)]; exact h33
    · rw [mset_eq, List.length_cons]; omega
    · simp (disch := omega) only [mset_ne]
    · simp (disch := omega) only [mset_eq, mset_ne, mset_nk]
    · simp (disch := omega) only [mset_eq, mset_ne, mset_nk]
    · rw [mset_nk _ (by omega), mset_ne _ _ _ (by omega)]; exact h16
theorem holds_ {n0 t : Nat} {s : Int} {M : Mem} {S : Sh} {H o : List Int} (hS : Std n0 S) (h : MyS t M H o) (hn : H.length < 200) (x33 : Int) (hx : x33 = ((opn (s :: H) : Nat) : Int)) : ∃ M', res 121 [aR 84, aI s] (mset M 84 33 x33) S = some (none, M', S) ∧ FrU t M M' ∧ MyS t M' (s :: H) o := by
  have k84 := K84 hS
  have k93 := K93 hS
  have k103 := K103 hS
  have l93 := L93 hS
  have l103 := L103 hS
  have p14 := P84_14 hS
  have p31 := P84_31 hS
  obtain ⟨h32, h33, h34, hh, hc, h16, t6⟩ := h
  refine ⟨mset (mset (mset M 84 33 x33) 103 H.length s) 84 32 ((H.length : Int) + 1), ?_, ⟨fun a x y z => ?_, fun j hj => ?_, fun k hk => ?_⟩, ?_⟩
  · rw [g121]
    simp (disch := omega) only [g121_0, g121_1, g121_4, g121_5, g121_8, g121_9, g121_10, g121_11, g121_12, g121_15, g121_16, g121_17, g121_20, cont_1, cont_0, w32_o, p31, h32, mset_ne, mset_nk, Int.toNat_natCast]
  · rw [mset_ne _ _ _ x, mset_ne _ _ _ z, mset_ne _ _ _ x]
  · rw [mset_nk _ (by omega), mset_ne _ _ _ (by omega), mset_nk _ (by omega)]
  · rw [mset_ne _ _ _ (by omega), mset_ne _ _ _ (by omega), mset_ne _ _ _ (by omega)]
  · refine ⟨?_, ?_, ?_, ⟨?_, hP_fr (fun k hk => ?_) hh⟩, cP_fr (fun k hk => ?_) hc, ?_, t6⟩
    · rw [mset_eq, List.length_cons]; omega
    · rw [mset_nk _ (by omega), mset_ne _ _ _ (by omega), mset_eq]; exact hx
    · rw [mset_nk _ (by omega), mset_ne _ _ _ (by omega), mset_nk _ (by omega)]; exact h34
    · rw [mset_ne _ _ _ (by omega), mset_eq]
    · rw [mset_ne _ _ _ (by omega), mset_nk _ (by omega), mset_ne _ _ _ (by omega)]
    · rw [mset_ne _ _ _ (by omega), mset_ne _ _ _ (by omega), mset_ne _ _ _ (by omega)]
    · rw [mset_nk _ (by omega), mset_ne _ _ _ (by omega), mset_nk _ (by omega)]; exact h16
theorem mset_id {M : Mem} {a k : Nat} {v : Int} (h : M a k = v) : mset M a k v = M := by
  rw [← h]
  exact mset_same
theorem opens_y {n0 t : Nat} {s : Int} {M : Mem} {S : Sh} {H o : List Int} (hS : Std n0 S) (h : MyS t M H o) (hn : H.length < 200) (hs : cN s = 1) (h5 : opn H < 5) : ∃ M', res 122 [aR 84, aI s] M S = some (some (aI 1), M', S) ∧ FrU t M M' ∧ MyS t M' (s :: H) o := by
  have k84 := K84 hS
  have k93 := K93 hS
  have k103 := K103 hS
  have l93 := L93 hS
  have l103 := L103 hS
  have p14 := P84_14 hS
  have p31 := P84_31 hS
  have h33 := h.2.1
  obtain ⟨M1, z1, f1, r1⟩ := holds_ (s := s) hS h hn ((opn H : Int) + 1) (by rw [opn_1 hs rfl]; omega)
  refine ⟨M1, ?_, f1, r1⟩
  rw [g122]
  simp (disch := omega) only [g122_0, g122_1, g122_4, g122_5t, g122_5f, g122_8, g122_9, g122_10, g122_11, g122_12, g122_15, g122_16, g122_17, g122_20, g122_21, g122_22, g122_25, g122_26, cont_1, cont_0, w32_o, h33, z1]
theorem opens_n {n0 t : Nat} {s : Int} {M : Mem} {S : Sh} {H o : List Int} (hS : Std n0 S) (h : MyS t M H o) (h5 : opn H = 5) : res 122 [aR 84, aI s] M S = some (some (aI 0), M, S) := by
  have k84 := K84 hS
  have k93 := K93 hS
  have k103 := K103 hS
  have l93 := L93 hS
  have l103 := L103 hS
  have p14 := P84_14 hS
  have p31 := P84_31 hS
  have h33 := h.2.1
  rw [h5] at h33
  rw [g122]
  simp (disch := omega) only [g122_0, g122_1, g122_4, g122_5t, g122_5f, g122_8, g122_9, g122_10, g122_11, g122_12, g122_15, g122_16, g122_17, g122_20, g122_21, g122_22, g122_25, g122_26, cont_1, cont_0, w32_o, h33]
  all_goals rfl
theorem unw_len (l : Nat) : ∀ (H o : List Int), (unw l H o).1.length + (unw l H o).2.length = H.length + o.length := by
  intro H
  induction H with
  | nil => intro o; show 0 + o.length = 0 + o.length; rfl
  | cons s H ih =>
    intro o
    by_cases h : l ≤ rkS s
    · rw [unw_y h, ih (s :: o), List.length_cons, List.length_cons]; omega
    · rw [unw_n (by omega)]
theorem cN_le (s : Int) : cN s ≤ 1 := by
  unfold cN
  split <;> omega
theorem opn_le : ∀ (H : List Int), opn H ≤ H.length := by
  intro H
  induction H with
  | nil => exact Nat.le_refl 0
  | cons s H ih =>
    have := cN_le s
    rw [List.length_cons]
    show cN s + opn H ≤ _
    omega
theorem rkS_0 {s : Int} (h : 1 ≤ rkS s) : s ≠ 0 := by
  intro z
  rw [z] at h
  exact absurd h (by decide)
theorem unws_in {n0 t r l : Nat} {S : Sh} (hr : 10 < r) (hS : Std n0 S) (l1 : 1 ≤ l) : ∀ (H : List Int) (M : Mem) (o : List Int) (l2 : Option AV), MyS t M H o → H.length + o.length < 200 → ∃ M', go r 120 0 [some (aR 84), some (aI (l : Int)), l2] [] M S = some (none, M', S) ∧ FrU t M M' ∧ MyS t M' (unw l H o).1 (unw l H o).2 := by
  have k84 := K84 hS
  have k93 := K93 hS
  have k103 := K103 hS
  have l93 := L93 hS
  have l103 := L103 hS
  have p14 := P84_14 hS
  have p31 := P84_31 hS
  intro H
  induction H with
  | nil =>
    intro M o l2 h hn
    have h32 := h.1
    refine ⟨M, ?_, FrU_r M, h⟩
    rw [show (([] : List Int).length : Int) = 0 from rfl] at h32
    rw [g120_0]
    simp (disch := omega) only [g120_1, g120_4t, g120_4f, g120_7, g120_8, g120_11, g120_12, g120_15, g120_16, g120_17, g120_18, g120_21, g120_22t, g120_22f, g120_25, g120_26, g120_27, g120_30, g120_31, g120_32, g120_35, g120_36, g120_39, g120_40, g120_43, g120_44, g120_45, g120_46, g120_47, g120_50, g120_51, g120_53t, g120_53f, g120_56, g120_57, g120_59t, g120_59f, g120_62, g120_63, g120_66, g120_67, g120_68, g120_71, g120_72, g120_73, g120_76, g120_79, cont_1, cont_0, w32_o, h32]
  | cons s H ih =>
    intro M o l2 h hn
    obtain ⟨h32, h33, h34, hh, hc, h16, t6⟩ := h
    rw [List.length_cons] at h32 hn
    have h32' : M 84 32 = (H.length : Int) + 1 := by omega
    have i1 : ((H.length : Int) + 1 - 1).toNat = H.length := by omega
    have i2 : (H.length : Int) + 1 - 1 = (H.length : Int) := by omega
    have hs := hh.1
    by_cases hl : l ≤ rkS s
    · have s0 := rkS_0 (by omega : 1 ≤ rkS s)
      rw [unw_y hl]
      have h33' : M 84 33 = ((cN s + opn H : Nat) : Int) := h33
      obtain ⟨x, hx⟩ : ∃ x, x = mset (mset M 84 32 (H.length : Int)) 84 33 (opn H : Int) := ⟨_, rfl⟩
      have hM : MyS t x H o := by
        rw [hx]
        refine ⟨?_, ?_, ?_, hP_fr (fun k hk => ?_) hh.2, cP_fr (fun k hk => ?_) hc, ?_, t6⟩
        · rw [mset_nk _ (by omega), mset_eq]
        · rw [mset_eq]
        · rw [mset_nk _ (by omega), mset_nk _ (by omega)]; exact h34
        · rw [mset_ne _ _ _ (by omega), mset_ne _ _ _ (by omega)]
        · rw [mset_ne _ _ _ (by omega), mset_ne _ _ _ (by omega)]
        · rw [mset_nk _ (by omega), mset_nk _ (by omega)]; exact h16
      have fx : FrU t M x := by
        rw [hx]
        refine ⟨fun a y _ _ => ?_, fun j hj => ?_, fun k _ => ?_⟩
        · rw [mset_ne _ _ _ y, mset_ne _ _ _ y]
        · rw [mset_nk _ (by omega), mset_nk _ (by omega)]
        · rw [mset_ne _ _ _ (by omega), mset_ne _ _ _ (by omega)]
      obtain ⟨M2, z2, f2, r2⟩ := puts_ (c := s) hS hM (by omega)
      obtain ⟨M3, z3, f3, r3⟩ := ih M2 (s :: o) (some (aI s)) r2 (by rw [List.length_cons]; omega)
      refine ⟨M3, ?_, FrU_t fx (FrU_t f2 f3), r3⟩
      have hol := opn_le H
      rw [g120_0]
      by_cases c1 : s = 13
      · have e1 : cN s = 1 := by rw [c1]; rfl
        rw [e1] at h33'
        have i3 : ((1 + opn H : Nat) : Int) - 1 = (opn H : Int) := by omega
        simp (disch := omega) only [g120_1, g120_4t, g120_4f, g120_7, g120_8, g120_11, g120_12, g120_15, g120_16, g120_17, g120_18, g120_21, g120_22t, g120_22f, g120_25, g120_26, g120_27, g120_30, g120_31, g120_32, g120_35, g120_36, g120_39, g120_40, g120_43, g120_44, g120_45, g120_46, g120_47, g120_50, g120_51, g120_53t, g120_53f, g120_56, g120_57, g120_59t, g120_59f, g120_62, g120_63, g120_66, g120_67, g120_68, g120_71, g120_72, g120_73, g120_76, g120_79, cont_1, cont_0, w32_o, p31, h32', i1, i2, hs, rank_, h33', mset_eq, mset_ne, mset_nk, i3, Int.toNat_natCast, ← hx, z2, z3]
      · by_cases c2 : s = 19
        · have e1 : cN s = 1 := by rw [c2]; rfl
          rw [e1] at h33'
          have i3 : ((1 + opn H : Nat) : Int) - 1 = (opn H : Int) := by omega
          simp (disch := omega) only [g120_1, g120_4t, g120_4f, g120_7, g120_8, g120_11, g120_12, g120_15, g120_16, g120_17, g120_18, g120_21, g120_22t, g120_22f, g120_25, g120_26, g120_27, g120_30, g120_31, g120_32, g120_35, g120_36, g120_39, g120_40, g120_43, g120_44, g120_45, g120_46, g120_47, g120_50, g120_51, g120_53t, g120_53f, g120_56, g120_57, g120_59t, g120_59f, g120_62, g120_63, g120_66, g120_67, g120_68, g120_71, g120_72, g120_73, g120_76, g120_79, cont_1, cont_0, w32_o, p31, h32', i1, i2, hs, rank_, h33', mset_eq, mset_ne, mset_nk, i3, Int.toNat_natCast, ← hx, z2, z3]
        · have e1 : cN s = 0 := if_neg (by omega)
          rw [e1] at h33'
          have i3 : ((0 + opn H : Nat) : Int) - 0 = (opn H : Int) := by omega
          simp (disch := omega) only [g120_1, g120_4t, g120_4f, g120_7, g120_8, g120_11, g120_12, g120_15, g120_16, g120_17, g120_18, g120_21, g120_22t, g120_22f, g120_25, g120_26, g120_27, g120_30, g120_31, g120_32, g120_35, g120_36, g120_39, g120_40, g120_43, g120_44, g120_45, g120_46, g120_47, g120_50, g120_51, g120_53t, g120_53f, g120_56, g120_57, g120_59t, g120_59f, g120_62, g120_63, g120_66, g120_67, g120_68, g120_71, g120_72, g120_73, g120_76, g120_79, cont_1, cont_0, w32_o, p31, h32', i1, i2, hs, rank_, h33', mset_eq, mset_ne, mset_nk, i3, Int.toNat_natCast, ← hx, z2, z3]
    · rw [unw_n (by omega)]
      refine ⟨M, ?_, FrU_r M, ?_, h33, h34, hh, hc, h16, t6⟩
      · rw [g120_0]
        simp (disch := omega) only [g120_1, g120_4t, g120_4f, g120_7, g120_8, g120_11, g120_12, g120_15, g120_16, g120_17, g120_18, g120_21, g120_22t, g120_22f, g120_25, g120_26, g120_27, g120_30, g120_31, g120_32, g120_35, g120_36, g120_39, g120_40, g120_43, g120_44, g120_45, g120_46, g120_47, g120_50, g120_51, g120_53t, g120_53f, g120_56, g120_57, g120_59t, g120_59f, g120_62, g120_63, g120_66, g120_67, g120_68, g120_71, g120_72, g120_73, g120_76, g120_79, cont_1, cont_0, w32_o, p31, h32', i1, i2, hs, rank_, Int.toNat_natCast]
      · rw [List.length_cons]; exact h32
theorem unws_ {n0 t l : Nat} {M : Mem} {S : Sh} {H o : List Int} (hS : Std n0 S) (l1 : 1 ≤ l) (h : MyS t M H o) (hn : H.length + o.length < 200) : ∃ M', res 120 [aR 84, aI (l : Int)] M S = some (none, M', S) ∧ FrU t M M' ∧ MyS t M' (unw l H o).1 (unw l H o).2 := by
  obtain ⟨M', z, f, r⟩ := unws_in (r := 11) (by omega) hS l1 H M o none h hn
  refine ⟨M', ?_, f, r⟩
  rw [g120]
  exact z
theorem btw_ {n0 t : Nat} {s : Int} {M : Mem} {S : Sh} {H o : List Int} (hS : Std n0 S) (h : MyS t M H o) (hn : H.length + o.length < 199) (hs : 1 ≤ rkS s) (hc : cN s = 0) {l : Nat} (hl : l = if rkS s = 4 then 5 else rkS s) : ∃ M', FrU t M M' ∧ ((rkS s = 4 ∧ tp4 (unw l H o).1 = true ∧ res 123 [aR 84, aI s] M S = some (some (aI 0), M', S)) ∨ (¬ (rkS s = 4 ∧ tp4 (unw l H o).1 = true) ∧ res 123 [aR 84, aI s] M S = some (some (aI 1), M', S) ∧ MyS t M' (s :: (unw l H o).1) (unw l H o).2)) := by
  have k84 := K84 hS
  have k93 := K93 hS
  have k103 := K103 hS
  have l93 := L93 hS
  have l103 := L103 hS
  have p14 := P84_14 hS
  have p31 := P84_31 hS
  have l1 : 1 ≤ l := by rw [hl]; split <;> omega
  obtain ⟨M1, z1, f1, r1⟩ := unws_ hS l1 h (by omega)
  have ln := unw_len l H o
  obtain ⟨H1, hH1⟩ : ∃ H1, H1 = (unw l H o).1 := ⟨_, rfl⟩
  obtain ⟨o1, ho1⟩ : ∃ o1, o1 = (unw l H o).2 := ⟨_, rfl⟩
  rw [← hH1, ← ho1] at r1 ln
  rw [← hH1, ← ho1]
  have e33 := r1.2.1
  obtain ⟨M2, z2, f2, r2⟩ := holds_ (s := s) hS r1 (by omega) ((opn H1 : Nat) : Int) (by rw [opn_0 hc rfl])
  rw [mset_id e33] at z2
  by_cases h4 : rkS s = 4
  · rw [if_pos h4] at hl
    subst hl
    have z1' : res 120 [aR 84, aI 5] M S = some (none, M1, S) := z1
    have rk4 : ((rkS s : Nat) : Int) = 4 := by omega
    have h32 := r1.1
    cases H1 with
    | nil =>
      rw [show (([] : List Int).length : Int) = 0 from rfl] at h32
      refine ⟨M2, FrU_t f1 f2, Or.inr ⟨fun z => absurd z.2 (by decide), ?_, r2⟩⟩
      rw [g123]
      simp (disch := omega) only [g123_0, g123_1, g123_2, g123_5, g123_6t, g123_6f, g123_9, g123_10, g123_13, g123_14, g123_17, g123_20, g123_21, g123_24, g123_25t, g123_25f, g123_28, g123_29, g123_32t, g123_32f, g123_35, g123_36, g123_39, g123_40, g123_43, g123_44, g123_45, g123_46, g123_49, g123_50t, g123_50f, g123_53, g123_54, g123_55, g123_56, g123_57, g123_60, g123_61, cont_1, cont_0, w32_o, p31, rank_, rk4, z1', h32, z2]
    | cons a H2 =>
      have h103 := r1.2.2.2.1.1
      rw [List.length_cons] at h32
      have h32' : M1 84 32 = (H2.length : Int) + 1 := by omega
      have i1 : ((H2.length : Int) + 1 - 1).toNat = H2.length := by omega
      have i2 : (H2.length : Int) + 1 - 1 = (H2.length : Int) := by omega
      rw [List.length_cons] at ln
      by_cases ha : rkS a = 4
      · have ra4 : ((rkS a : Nat) : Int) = 4 := by omega
        refine ⟨M1, f1, Or.inl ⟨h4, decide_eq_true ha, ?_⟩⟩
        rw [g123]
        simp (disch := omega) only [g123_0, g123_1, g123_2, g123_5, g123_6t, g123_6f, g123_9, g123_10, g123_13, g123_14, g123_17, g123_20, g123_21, g123_24, g123_25t, g123_25f, g123_28, g123_29, g123_32t, g123_32f, g123_35, g123_36, g123_39, g123_40, g123_43, g123_44, g123_45, g123_46, g123_49, g123_50t, g123_50f, g123_53, g123_54, g123_55, g123_56, g123_57, g123_60, g123_61, cont_1, cont_0, w32_o, p31, rank_, rk4, z1', h32', i1, i2, Int.toNat_natCast, h103, ra4]
      · refine ⟨M2, FrU_t f1 f2, Or.inr ⟨fun z => ha (of_decide_eq_true z.2), ?_, r2⟩⟩
        have ra4 : ((rkS a : Nat) : Int) ≠ 4 := by omega
        rw [g123]
        simp (disch := omega) only [g123_0, g123_1, g123_2, g123_5, g123_6t, g123_6f, g123_9, g123_10, g123_13, g123_14, g123_17, g123_20, g123_21, g123_24, g123_25t, g123_25f, g123_28, g123_29, g123_32t, g123_32f, g123_35, g123_36, g123_39, g123_40, g123_43, g123_44, g123_45, g123_46, g123_49, g123_50t, g123_50f, g123_53, g123_54, g123_55, g123_56, g123_57, g123_60, g123_61, cont_1, cont_0, w32_o, p31, rank_, rk4, z1', h32', i1, i2, Int.toNat_natCast, h103, z2]
  · rw [if_neg h4] at hl
    rw [hl] at z1
    have rk4 : ((rkS s : Nat) : Int) ≠ 4 := by omega
    refine ⟨M2, FrU_t f1 f2, Or.inr ⟨fun z => h4 z.1, ?_, r2⟩⟩
    rw [g123]
    simp (disch := omega) only [g123_0, g123_1, g123_2, g123_5, g123_6t, g123_6f, g123_9, g123_10, g123_13, g123_14, g123_17, g123_20, g123_21, g123_24, g123_25t, g123_25f, g123_28, g123_29, g123_32t, g123_32f, g123_35, g123_36, g123_39, g123_40, g123_43, g123_44, g123_45, g123_46, g123_49, g123_50t, g123_50f, g123_53, g123_54, g123_55, g123_56, g123_57, g123_60, g123_61, cont_1, cont_0, w32_o, p31, rank_, z1, z2]
