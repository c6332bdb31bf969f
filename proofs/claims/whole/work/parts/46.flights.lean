/-! flown, whole -/
def flMR (who wd ho kd mr fu fi ev : Int) (hl : Nat → Int) (ns : Nat) (ws ls cd st : Nat → Int) (lf : Int) : FS × Int := if who = -1 then ((fun _ => 0, 0, 0, 0), 0) else flM kd mr fu fi ev ho (sdF cd st hl wd mr ho) ws ls lf ns 0 (fun _ => 0, 0, 0, 0) 0 1
def flMd (M : Mem) (lf : Int) : FS × Int := flMR (M 84 4) (M 84 2) (M 84 3) (M 87 (M 84 4).toNat) (M 88 (M 84 4).toNat) (M 89 (3 * (M 84 4).toNat)) (M 89 (3 * (M 84 4).toNat + 1)) (M 89 (3 * (M 84 4).toNat + 2)) (tr 192 (M 85)) (M 84 9).toNat (tr (M 84 9).toNat (M 90)) (tr (M 84 9).toNat (M 91)) (cdT M (M 84 17)) (stT M (M 84 17)) lf
/-- the model can fly -/
def MdO (M : Mem) : Prop := (0 ≤ M 84 9 ∧ M 84 9 ≤ 12 ∧ ∀ k : Nat, (k : Int) < M 84 9 → 0 ≤ M 90 k ∧ M 90 k ≤ 3 ∧ 0 ≤ M 91 k ∧ M 91 k < 16 ∧ (M 90 k < 2 → M 91 k < 12)) ∧ (∀ k, k < 192 → M 86 k = 0 ∨ M 86 k = 1) ∧ -1 ≤ M 84 4 ∧ M 84 4 < 4 ∧ (M 84 4 ≠ -1 → 0 ≤ M 87 (M 84 4).toNat ∧ M 87 (M 84 4).toNat ≤ 5 ∧ 0 ≤ M 88 (M 84 4).toNat ∧ M 88 (M 84 4).toNat ≤ 9 ∧ 1 ≤ M 89 (3 * (M 84 4).toNat + 2) ∧ M 89 (3 * (M 84 4).toNat + 2) ≤ 9)
theorem mclear {n r : Nat} {M : Mem} {S : Sh} {l2 : Option AV} (hS : Std n S) : ∀ (j i : Nat), i + j = 192 → go r 146 2 [some (aR 84), some (aI (i : Int)), l2] [] (mrow M 106 (rfill i 0 (M 106))) S = go r 146 22 [some (aR 84), some (aI 192), l2] [] (mrow M 106 (rfill 192 0 (M 106))) S := by
  have k84 := K84 hS
  have k106 := K106 hS
  have l106 := L106 hS
  intro j
  induction j with
  | zero =>
    intro i hi
    have e : i = 192 := by omega
    subst e
    rw [g146_2]
    simp (disch := omega) only [g146_3, g146_6t]
    rfl
  | succ j ih =>
    intro i hi
    rw [g146_2]
    simp (disch := omega) only [g146_3, g146_6f, g146_9, g146_10, g146_13, g146_14, g146_15, g146_16, g146_19, P84_37 hS, mset_mrow, Int.toNat_natCast, rfill_s, w32_k]
    have z := ih (i + 1) (by omega)
    rw [nc_1] at z
    exact z
theorem flown_0 {n : Nat} {M : Mem} {S : Sh} (hS : Std n S) (hO : MdO M) (hD : MwD M (M 84 17).toNat (cdT M (M 84 17)) (stT M (M 84 17))) : ∃ en nm st, res 146 [aR 84] M S = some (some (aI ((cnt (mskF (M 86) (flMd M (M 84 43)).1.1) 1 192 : Nat) : Int)), MM M (flMd M (M 84 43)).1.1 (flMd M (M 84 43)).1.2.1 (flMd M (M 84 43)).1.2.2.1 (flMd M (M 84 43)).1.2.2.2 (flMd M (M 84 43)).2 en nm st, S) := by
  have k84 := K84 hS
  have k87 := K87 hS
  have k88 := K88 hS
  have k89 := K89 hS
  have k90 := K90 hS
  have k91 := K91 hS
  have k106 := K106 hS
  have l87 := L87 hS
  have l88 := L88 hS
  have l89 := L89 hS
  have l90 := L90 hS
  have l91 := L91 hS
  have l106 := L106 hS
  obtain ⟨⟨o0, o1, o2⟩, oc, o3, o4, o5⟩ := hO
  have f0 : mrow M 106 (rfill 192 0 (M 106)) = MM M (fun _ => 0) (M 84 38) (M 84 39) (M 84 40) (M 84 41) (M 84 42) (M 105) (M 104) := by
    rw [← MM_in M (ov := fun _ => 0)]
    congr 1
    funext j
    unfold rfill mskF
    split
    · split <;> rfl
    · rfl
  have f1 := mclear (M := M) (r := 17) (l2 := none) hS 192 0 (by omega)
  rw [rfill_0, mrow_self, f0, show ((0 : Nat) : Int) = 0 by rfl] at f1
  rw [g146]
  simp (disch := omega) only [g146_0, g146_1]
  rw [f1]
  by_cases hw : M 84 4 = -1
  · have e : (flMd M (M 84 43)) = ((fun _ => 0, 0, 0, 0), 0) := if_pos hw
    rw [e]
    simp (disch := omega) only [g146_0, g146_1, g146_3, g146_6t, g146_6f, g146_9, g146_10, g146_13, g146_14, g146_15, g146_16, g146_19, g146_22, g146_23, g146_24, g146_27, g146_28, g146_29, g146_32, g146_33, g146_34, g146_37, g146_38, g146_39, g146_42, g146_43, g146_44, g146_47, g146_48, g146_49, g146_50, g146_52, g146_53, g146_56t, g146_56f, g146_59, g146_60, g146_63, g146_64t, g146_64f, g146_67, g146_68, g146_69, g146_72t, g146_72f, g146_75, g146_76, g146_79t, g146_79f, g146_82, g146_83, g146_84, g146_87, g146_88t, g146_88f, g146_91, g146_92, g146_95, g146_96, g146_97, g146_100, g146_103, g146_104, g146_107, g146_108, g146_109, g146_110, g146_111, g146_114, g146_115, g146_118, g146_119, g146_120, g146_121, g146_124, g146_125, g146_126, g146_129, g146_132, g146_135, g146_136, g146_137, g146_140, cont_1, cont_0, w32_k, MM_cl, MM_lo, MM_mi, MM_fl, MM_en, MMs_cl, MMs_lo, MMs_mi, MMs_fl, MMs_en, MM_84, MM_cv, MM_nm, MM_st, MM_o, MMs_cv0, MMs_cv1, MMs_nm, MMs_st]
    rw [g146_51]
    rcases (by omega : M 84 9 ≤ 0 ∨ 0 < M 84 9) with h9 | h9
    all_goals simp (disch := omega) only [g146_0, g146_1, g146_3, g146_6t, g146_6f, g146_9, g146_10, g146_13, g146_14, g146_15, g146_16, g146_19, g146_22, g146_23, g146_24, g146_27, g146_28, g146_29, g146_32, g146_33, g146_34, g146_37, g146_38, g146_39, g146_42, g146_43, g146_44, g146_47, g146_48, g146_49, g146_50, g146_52, g146_53, g146_56t, g146_56f, g146_59, g146_60, g146_63, g146_64t, g146_64f, g146_67, g146_68, g146_69, g146_72t, g146_72f, g146_75, g146_76, g146_79t, g146_79f, g146_82, g146_83, g146_84, g146_87, g146_88t, g146_88f, g146_91, g146_92, g146_95, g146_96, g146_97, g146_100, g146_103, g146_104, g146_107, g146_108, g146_109, g146_110, g146_111, g146_114, g146_115, g146_118, g146_119, g146_120, g146_121, g146_124, g146_125, g146_126, g146_129, g146_132, g146_135, g146_136, g146_137, g146_140, cont_1, cont_0, w32_k, MM_cl, MM_lo, MM_mi, MM_fl, MM_en, MMs_cl, MMs_lo, MMs_mi, MMs_fl, MMs_en, MM_84, MM_cv, MM_nm, MM_st, MM_o, MMs_cv0, MMs_cv1, MMs_nm, MMs_st, hw, atMM hS]
    all_goals exact ⟨_, _, _, rfl⟩
  · obtain ⟨p, hp⟩ : ∃ p : Nat, M 84 4 = (p : Int) := ⟨(M 84 4).toNat, by omega⟩
    obtain ⟨q0, q1, q2, q3, q4, q5⟩ := o5 hw
    have tp : (M 84 4).toNat = p := by omega
    rw [tp] at q0 q1 q2 q3 q4 q5
    have e : (flMd M (M 84 43)) = flM (M 87 p) (M 88 p) (M 89 (3 * p)) (M 89 (3 * p + 1)) (M 89 (3 * p + 2)) (M 84 3) (sdF (cdT M (M 84 17)) (stT M (M 84 17)) (tr 192 (M 85)) (M 84 2) (M 88 p) (M 84 3)) (tr (M 84 9).toNat (M 90)) (tr (M 84 9).toNat (M 91)) (M 84 43) (M 84 9).toNat 0 (fun _ => 0, 0, 0, 0) 0 1 := by
      unfold flMd flMR
      rw [if_neg hw, tp]
    have hsc : MdD M p (tr 192 (M 85)) (M 84 2) (M 84 3) (M 87 p) (M 88 p) (M 89 (3 * p)) (M 89 (3 * p + 1)) (M 89 (3 * p + 2)) := ⟨fun k hk => (tr_lt hk).symm, oc, rfl, rfl, hp, by omega, rfl, rfl, rfl, rfl, rfl, q0, q1, q2, q3, q4, q5⟩
    have hR : MsR M (M 84 9).toNat (tr (M 84 9).toNat (M 90)) (tr (M 84 9).toNat (M 91)) := by
      refine ⟨by omega, by omega, fun k hk => ?_⟩
      obtain ⟨w0, w1, w2, w3, w4⟩ := o2 k (by omega)
      rw [tr_lt hk, tr_lt hk]
      exact ⟨rfl, rfl, w0, w1, w2, w3, w4⟩
    have hz := flown_loop (r := 17) hS hD hsc (by omega) hR rfl (M 84 9).toNat 0 (fun _ => 0) 0 0 0 0 1 (M 105) (M 104) (by omega) (Or.inr rfl) (by omega) (by omega)
    rw [e]
    simp (disch := omega) only [g146_0, g146_1, g146_3, g146_6t, g146_6f, g146_9, g146_10, g146_13, g146_14, g146_15, g146_16, g146_19, g146_22, g146_23, g146_24, g146_27, g146_28, g146_29, g146_32, g146_33, g146_34, g146_37, g146_38, g146_39, g146_42, g146_43, g146_44, g146_47, g146_48, g146_49, g146_50, g146_52, g146_53, g146_56t, g146_56f, g146_59, g146_60, g146_63, g146_64t, g146_64f, g146_67, g146_68, g146_69, g146_72t, g146_72f, g146_75, g146_76, g146_79t, g146_79f, g146_82, g146_83, g146_84, g146_87, g146_88t, g146_88f, g146_91, g146_92, g146_95, g146_96, g146_97, g146_100, g146_103, g146_104, g146_107, g146_108, g146_109, g146_110, g146_111, g146_114, g146_115, g146_118, g146_119, g146_120, g146_121, g146_124, g146_125, g146_126, g146_129, g146_132, g146_135, g146_136, g146_137, g146_140, cont_1, cont_0, w32_k, MM_cl, MM_lo, MM_mi, MM_fl, MM_en, MMs_cl, MMs_lo, MMs_mi, MMs_fl, MMs_en, MM_84, MM_cv, MM_nm, MM_st, MM_o, MMs_cv0, MMs_cv1, MMs_nm, MMs_st]
    exact hz
/-! what is left as it was -/
def scrC (a : Nat) : Prop := (17 ≤ a ∧ a ≤ 26) ∨ (40 ≤ a ∧ a ≤ 43) ∨ a = 49 ∨ a = 55 ∨ a = 60 ∨ a = 65 ∨ a = 70 ∨ a = 75
/-- by the class's thinking -/
def FrC (M M' : Mem) : Prop := ∀ a, ¬ scrC a → M' a = M a
/-- by a flight of the class -/
def FrT (M M' : Mem) : Prop := ∀ a, (a < 40 ∨ a = 43 ∨ (42 < a ∧ ¬ scrC a)) → M' a = M a
def FrM (M M' : Mem) : Prop := (∀ a, a ≠ 84 → (a < 103 ∨ 109 < a) → M' a = M a) ∧ (∀ k, k < 26 ∨ k = 43 → M' 84 k = M 84 k)
def FrN (M M' : Mem) : Prop := (∀ a, a ≠ 84 → (a < 104 ∨ 106 < a) → M' a = M a) ∧ (∀ k, k < 38 ∨ 42 < k → M' 84 k = M 84 k)
theorem FrT_C {M M' : Mem} (h : FrT M M') : FrC M M' := fun a ha => h a (by unfold scrC at ha ⊢; omega)
theorem FrN_M {M M' : Mem} (h : FrN M M') : FrM M M' := ⟨fun a h1 h2 => h.1 a h1 (by omega), fun k hk => h.2 k (by omega)⟩
theorem FrC_r {M : Mem} : FrC M M := fun _ _ => rfl
theorem FrM_r {M : Mem} : FrM M M := ⟨fun _ _ _ => rfl, fun _ _ => rfl⟩
theorem FrC_t {M M' M'' : Mem} (h : FrC M M') (h2 : FrC M' M'') : FrC M M'' := fun a ha => (h2 a ha).trans (h a ha)
theorem FrM_t {M M' M'' : Mem} (h : FrM M M') (h2 : FrM M' M'') : FrM M M'' := ⟨fun a h1 h3 => (h2.1 a h1 h3).trans (h.1 a h1 h3), fun k hk => (h2.2 k hk).trans (h.2 k hk)⟩
/-- a flight R of the class has been -/
def AfC (M : Mem) (R : FS × Int) (M' : Mem) : Prop := FrT M M' ∧ (∀ k, k < 192 → M' 41 k = R.1.1 k) ∧ M' 40 1 = R.1.2.1 ∧ M' 40 2 = R.1.2.2.1 ∧ M' 40 3 = R.1.2.2.2 ∧ M' 40 4 = R.2
def AfM (M : Mem) (R : FS × Int) (M' : Mem) : Prop := FrN M M' ∧ (∀ k, k < 192 → M' 106 k = mskF (M 86) R.1.1 k) ∧ M' 84 38 = R.1.2.1 ∧ M' 84 39 = R.1.2.2.1 ∧ M' 84 40 = R.1.2.2.2 ∧ M' 84 41 = R.2
theorem afC_AfC {M M' : Mem} {b : Nat} (t0 : 0 ≤ M b 14) (t6 : M b 14 < 6) (h : afC M b M') : AfC M (flC M b) M' := by
  obtain ⟨kd, mr, nm, pl, rfl⟩ := h
  have lb : laT (M b 14) = 45 ∨ laT (M b 14) = 51 ∨ laT (M b 14) = 56 ∨ laT (M b 14) = 61 ∨ laT (M b 14) = 66 ∨ laT (M b 14) = 71 := by
    unfold laT laOf
    split <;> omega
  refine ⟨fun a ha => CM_o ?_ ?_ ?_ ?_, fun k hk => CM_ov hk, CM_cl, CM_lo, CM_mi, CM_en⟩
  all_goals unfold scrC at ha
  all_goals omega
theorem MM_AfM {M : Mem} {R : FS × Int} {en : Int} {nm st : Nat → Int} : AfM M R (MM M R.1.1 R.1.2.1 R.1.2.2.1 R.1.2.2.2 R.2 en nm st) := by
  refine ⟨⟨fun a h1 h2 => MM_o h1 ?_ ?_ ?_, fun k hk => MM_84 hk⟩, fun k hk => MM_cv hk, MM_cl, MM_lo, MM_mi, MM_fl⟩
  all_goals omega
theorem flown_ {n : Nat} {M : Mem} {S : Sh} (hS : Std n S) (hO : MdO M) (hD : MwD M (M 84 17).toNat (cdT M (M 84 17)) (stT M (M 84 17))) : ∃ M', res 146 [aR 84] M S = some (some (aI ((cnt (mskF (M 86) (flMd M (M 84 43)).1.1) 1 192 : Nat) : Int)), M', S) ∧ AfM M (flMd M (M 84 43)) M' := by
  obtain ⟨en, nm, st, h⟩ := flown_0 hS hO hD
  exact ⟨_, h, MM_AfM⟩
