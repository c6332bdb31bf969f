/-! counting -/
def cnt (f : Nat → Int) (many : Int) : Nat → Nat
  | 0 => 0
  | k + 1 => cnt f many k + (if many ≤ f k then 1 else 0)
theorem cnt_le (f : Nat → Int) (many : Int) : ∀ k, cnt f many k ≤ k := by
  intro k
  induction k with
  | zero => exact Nat.le_refl _
  | succ k ih =>
    rw [cnt]
    split <;> omega
theorem cnt_t {f : Nat → Int} {many : Int} {k : Nat} (h : many ≤ f k) : cnt f many (k + 1) = cnt f many k + 1 := by rw [cnt, if_pos h]
theorem cnt_f {f : Nat → Int} {many : Int} {k : Nat} (h : f k < many) : cnt f many (k + 1) = cnt f many k := by rw [cnt, if_neg (Int.not_le.mpr h)]; rfl
theorem cnt_ext {f g : Nat → Int} {many : Int} : ∀ {n : Nat}, (∀ k, k < n → f k = g k) → cnt f many n = cnt g many n := by
  intro n
  induction n with
  | zero => intro _; rfl
  | succ n ih =>
    intro h
    rw [cnt, cnt, ih (fun k hk => h k (by omega)), h n (by omega)]
/-- how often each mile is covered, the clouds being so -/
def mskF (cl ov : Nat → Int) : Nat → Int := fun m => if cl m = 0 then ov m else 0
theorem times_ {n : Nat} {ca : Nat} {m : Int} {M : Mem} {S : Sh} (hS : Std n S) (Kc : S.1 ca = 7) (Lc : S.2.1 ca = 192) (m0 : 0 ≤ m) (m1 : m < 192) : res 7 [aR 40, aR ca, aI m] M S = some (some (aI (mskF (M ca) (M 41) m.toNat)), M, S) := by
  have k40 := K40 hS
  have k41 := K41 hS
  have l41 := L41 hS
  unfold mskF
  by_cases h : M ca m.toNat = 0
  · rw [if_pos h, g7]
    simp (disch := omega) only [g7_0, g7_0n, g7_1, g7_2, g7_5t, g7_5f, g7_8, g7_9, g7_12, g7_13, g7_16, g7_17, g7_20, cont_1, cont_0, w32_o, at_in, P40_0 hS]
  · rw [if_neg h, g7]
    simp (disch := omega) only [g7_0, g7_0n, g7_1, g7_2, g7_5t, g7_5f, g7_8, g7_9, g7_12, g7_13, g7_16, g7_17, g7_20, cont_1, cont_0, w32_o, at_in, P40_0 hS]
theorem cov_loop {n r : Nat} {ca : Nat} {many : Int} {M : Mem} {S : Sh} (hr : 11 < r) (hS : Std n S) (Kc : S.1 ca = 7) (Lc : S.2.1 ca = 192) : ∀ (j k : Nat), k + j = 192 → go r 8 5 [some (aR 40), some (aR ca), some (aI many), some (aI ((cnt (mskF (M ca) (M 41)) many k : Nat) : Int)), some (aI (k : Int))] [] M S = some (some (aI ((cnt (mskF (M ca) (M 41)) many 192 : Nat) : Int)), M, S) := by
  have k40 := K40 hS
  intro j
  induction j with
  | zero =>
    intro k hk
    have e : k = 192 := by omega
    subst e
    rw [g8_5]
    simp (disch := omega) only [g8_0, g8_1, g8_2, g8_3, g8_7, g8_10t, g8_10f, g8_13, g8_14, g8_14n, g8_15, g8_17, g8_20, g8_21t, g8_21f, g8_24, g8_27, g8_30, g8_33, g8_34, cont_1, cont_0, w32_o]
  | succ j ih =>
    intro k hk
    have z := ih (k + 1) (by omega)
    have le := cnt_le (mskF (M ca) (M 41)) many k
    rw [g8_5]
    by_cases h : many ≤ mskF (M ca) (M 41) k
    · rw [cnt_t h, nc_1, nc_1] at z
      simp (disch := omega) only [g8_0, g8_1, g8_2, g8_3, g8_7, g8_10t, g8_10f, g8_13, g8_14, g8_14n, g8_15, g8_17, g8_20, g8_21t, g8_21f, g8_24, g8_27, g8_30, g8_33, g8_34, cont_1, cont_0, w32_o, times_ hS Kc Lc, Int.toNat_natCast]
      exact z
    · rw [cnt_f (Int.not_le.mp h), nc_1] at z
      simp (disch := omega) only [g8_0, g8_1, g8_2, g8_3, g8_7, g8_10t, g8_10f, g8_13, g8_14, g8_14n, g8_15, g8_17, g8_20, g8_21t, g8_21f, g8_24, g8_27, g8_30, g8_33, g8_34, cont_1, cont_0, w32_o, times_ hS Kc Lc, Int.toNat_natCast]
      exact z
theorem cov_ {n : Nat} {ca : Nat} {many : Int} {M : Mem} {S : Sh} (hS : Std n S) (Kc : S.1 ca = 7) (Lc : S.2.1 ca = 192) : res 8 [aR 40, aR ca, aI many] M S = some (some (aI ((cnt (mskF (M ca) (M 41)) many 192 : Nat) : Int)), M, S) := by
  have z := cov_loop (r := 12) (many := many) (M := M) (by omega) hS Kc Lc 192 0 (by omega)
  rw [g8]
  simp (disch := omega) only [g8_0, g8_1, g8_2, g8_3, g8_7, g8_10t, g8_10f, g8_13, g8_14, g8_14n, g8_15, g8_17, g8_20, g8_21t, g8_21f, g8_24, g8_27, g8_30, g8_33, g8_34, cont_1, cont_0, w32_o]
  exact z
/-! a flight, whole -/
def flR (who wd ho kd mr fu fi ev : Int) (hl : Nat → Int) (ns : Nat) (ws ls cd st : Nat → Int) : FS × Int := if who = -1 then ((fun _ => 0, 0, 0, 0), 0) else flF kd mr fu fi ev ho (sdF cd st hl wd mr ho) ws ls ns 0 (fun _ => 0, 0, 0, 0) 0
/-- the scene b can be flown -/
def ScO (M : Mem) (b : Nat) : Prop := (0 ≤ M b 4 ∧ M b 4 ≤ 12 ∧ ∀ k : Nat, (k : Int) < M b 4 → 0 ≤ M (b + 3) k ∧ M (b + 3) k ≤ 3 ∧ 0 ≤ M (b + 4) k ∧ M (b + 4) k < 16 ∧ (M (b + 3) k < 2 → M (b + 4) k < 12)) ∧ -1 ≤ M b 13 ∧ M b 13 < 4 ∧ (M b 13 ≠ -1 → 0 ≤ M (b + 5) (M b 13).toNat ∧ M (b + 5) (M b 13).toNat ≤ 5 ∧ 0 ≤ M (b + 6) (M b 13).toNat ∧ M (b + 6) (M b 13).toNat ≤ 9 ∧ 1 ≤ M (b + 9) (M b 13).toNat ∧ M (b + 9) (M b 13).toNat ≤ 9)
def cdT (M : Mem) (t : Int) : Nat → Int := fun j => M 93 (200 * t.toNat + j)
def stT (M : Mem) (t : Int) : Nat → Int := fun q => M 94 (4 * t.toNat + q)
/-- its flight -/
def flC (M : Mem) (b : Nat) : FS × Int := flR (M b 13) (M b 11) (M b 12) (M (b + 5) (M b 13).toNat) (M (b + 6) (M b 13).toNat) (M (b + 7) (M b 13).toNat) (M (b + 8) (M b 13).toNat) (M (b + 9) (M b 13).toNat) (tr 192 (M (b + 1))) (M b 4).toNat (tr (M b 4).toNat (M (b + 3))) (tr (M b 4).toNat (M (b + 4))) (cdT M (M b 14)) (stT M (M b 14))
def laT (t : Int) : Nat := laOf t.toNat
/-- the memory behind it: kind, more, names, pile of any content -/
def afC (M : Mem) (b : Nat) (M' : Mem) : Prop := ∃ (kd mr : Int) (nm pl : Nat → Int), M' = CM M (laT (M b 14) + 4) (flC M b).1.1 (flC M b).1.2.1 (flC M b).1.2.2.1 (flC M b).1.2.2.2 (flC M b).2 kd mr nm pl
theorem laOf_b {t : Nat} (t6 : t < 6) : 45 ≤ laOf t ∧ laOf t ≤ 71 := by
  unfold laOf
  split <;> omega
theorem flyC_ {n b : Nat} {sc : Nat → Int} {M : Mem} {S : Sh} (hS : Std n S) (hC : iCst sc M) (hb : b = 7 ∨ b = 17) (hO : ScO M b) (t0 : 0 ≤ M b 14) (t6 : M b 14 < 6) (hD : LwD M (laT (M b 14)) (cdT M (M b 14)) (stT M (M b 14))) : ∃ M', res 2 [aR 40, aR b, aR (laT (M b 14))] M S = some (none, M', S) ∧ afC M b M' := by
  have hB := sceneS_of hS hb
  have hL : LawS S (laT (M b 14)) := lawS_of hS (by omega)
  have lb : 45 ≤ laT (M b 14) ∧ laT (M b 14) ≤ 71 := laOf_b (by omega)
  obtain ⟨⟨o0, o1, o2⟩, o3, o4, o5⟩ := hO
  have k40 := K40 hS
  obtain ⟨sk, ⟨_, _, sl3, sl4, sl5, sl6, sl7, sl8, sl9⟩, P0, P1, P2, P3, P5, P6, P7, P8, P9⟩ := hB.2
  obtain ⟨k3, kk1, kk2, kk3, kk4, kk5, kk6, kk7, kk8, kk9⟩ := sk
  have kl := hL.2.1
  have f0 : res 0 [aR 41, aI 0] M S = some (none, CM M (laT (M b 14) + 4) (fun _ => 0) (M 40 1) (M 40 2) (M 40 3) (M 40 4) (M 40 5) (M 40 6) (M 42) (M (laT (M b 14) + 4)), S) := by
    rw [afill_ (K41 hS) (by omega) (L41 hS) (by omega), ← CM_in M (by omega) (ov := fun _ => 0)]
    rfl
  suffices zz : ∃ (kd mr : Int) (nm pl : Nat → Int), res 2 [aR 40, aR b, aR (laT (M b 14))] M S = some (none, CM M (laT (M b 14) + 4) (flC M b).1.1 (flC M b).1.2.1 (flC M b).1.2.2.1 (flC M b).1.2.2.2 (flC M b).2 kd mr nm pl, S) by
    obtain ⟨kd, mr, nm, pl, h⟩ := zz
    exact ⟨_, h, kd, mr, nm, pl, rfl⟩
  by_cases hw : M b 13 = -1
  · have e : flC M b = ((fun _ => 0, 0, 0, 0), 0) := if_pos hw
    rw [e, g2]
    simp (disch := omega) only [g2_0, g2_1, g2_4, g2_5, g2_8, g2_9, g2_10, g2_13, g2_14, g2_15, g2_18, g2_19, g2_20, g2_23, g2_24, g2_25, g2_28, g2_28n, g2_29, g2_29n, g2_32, g2_32n, g2_33, g2_33n, g2_36, g2_36n, g2_37, g2_40, g2_41t, g2_41f, g2_44, g2_45, g2_46, g2_46n, g2_47, g2_50, g2_50n, g2_51, g2_54, g2_57, g2_60, g2_61, g2_61n, g2_62, g2_65, g2_65n, g2_66, g2_69, g2_72, g2_75, g2_76, g2_78, g2_78n, g2_79, g2_82t, g2_82f, g2_85, g2_86, g2_87, g2_90, g2_91t, g2_91f, g2_94, g2_95, g2_98, g2_99, g2_102, g2_103, g2_106, g2_109, g2_110, g2_113, g2_114, g2_114n, g2_115, g2_115n, g2_116, g2_116n, g2_117, g2_120, g2_121, g2_124, g2_124n, g2_125, g2_128, g2_129, g2_132, g2_135t, g2_135f, g2_138, g2_139, g2_140, g2_141, g2_144, g2_145, g2_146, g2_149, g2_152, g2_155, cont_1, cont_0, w32_k, CM_cl, CM_lo, CM_mi, CM_en, CM_kd, CM_mr, CMs_cl, CMs_lo, CMs_mi, CMs_en, CMs_kd, CMs_mr, CM_ov, CM_nm, CM_pl, CM_o, CMs_ov, CMs_nm, CMs_pl, P40_0 hS, f0, hw]
    exact ⟨_, _, _, _, rfl⟩
  · obtain ⟨p, hp⟩ : ∃ p : Nat, M b 13 = (p : Int) := ⟨(M b 13).toNat, by omega⟩
    obtain ⟨q0, q1, q2, q3, q4, q5⟩ := o5 hw
    have tp : (M b 13).toNat = p := by omega
    rw [tp] at q0 q1 q2 q3 q4 q5
    have e : flC M b = flF (M (b + 5) p) (M (b + 6) p) (M (b + 7) p) (M (b + 8) p) (M (b + 9) p) (M b 12) (sdF (cdT M (M b 14)) (stT M (M b 14)) (tr 192 (M (b + 1))) (M b 11) (M (b + 6) p) (M b 12)) (tr (M b 4).toNat (M (b + 3))) (tr (M b 4).toNat (M (b + 4))) (M b 4).toNat 0 (fun _ => 0, 0, 0, 0) 0 := by
      unfold flC flR
      rw [if_neg hw, tp]
    have hsc : ScD M b p (tr 192 (M (b + 1))) (M b 11) (M b 12) (M (b + 5) p) (M (b + 6) p) (M (b + 7) p) (M (b + 8) p) (M (b + 9) p) := ⟨fun k hk => (tr_lt hk).symm, rfl, rfl, hp, by omega, rfl, rfl, rfl, rfl, rfl, q0, q1, q2, q3, q4, q5⟩
    have hR : ScR M b (M b 4).toNat (tr (M b 4).toNat (M (b + 3))) (tr (M b 4).toNat (M (b + 4))) := by
      refine ⟨by omega, by omega, fun k hk => ?_⟩
      obtain ⟨w0, w1, w2, w3, w4⟩ := o2 k (by omega)
      rw [tr_lt hk, tr_lt hk]
      exact ⟨rfl, rfl, w0, w1, w2, w3, w4⟩
    obtain ⟨nm', pl', hz⟩ := fly_loop (r := 14) hS hC hB hL (by omega) hD hsc (by omega) hR (M b 4).toNat 0 (fun _ => 0) 0 0 0 0 (M 42) (M (laT (M b 14) + 4)) (by omega)
    rw [e, g2]
    simp (disch := omega) only [g2_0, g2_1, g2_4, g2_5, g2_8, g2_9, g2_10, g2_13, g2_14, g2_15, g2_18, g2_19, g2_20, g2_23, g2_24, g2_25, g2_28, g2_28n, g2_29, g2_29n, g2_32, g2_32n, g2_33, g2_33n, g2_36, g2_36n, g2_37, g2_40, g2_41t, g2_41f, g2_44, g2_45, g2_46, g2_46n, g2_47, g2_50, g2_50n, g2_51, g2_54, g2_57, g2_60, g2_61, g2_61n, g2_62, g2_65, g2_65n, g2_66, g2_69, g2_72, g2_75, g2_76, g2_78, g2_78n, g2_79, g2_82t, g2_82f, g2_85, g2_86, g2_87, g2_90, g2_91t, g2_91f, g2_94, g2_95, g2_98, g2_99, g2_102, g2_103, g2_106, g2_109, g2_110, g2_113, g2_114, g2_114n, g2_115, g2_115n, g2_116, g2_116n, g2_117, g2_120, g2_121, g2_124, g2_124n, g2_125, g2_128, g2_129, g2_132, g2_135t, g2_135f, g2_138, g2_139, g2_140, g2_141, g2_144, g2_145, g2_146, g2_149, g2_152, g2_155, cont_1, cont_0, w32_k, CM_cl, CM_lo, CM_mi, CM_en, CM_kd, CM_mr, CMs_cl, CMs_lo, CMs_mi, CMs_en, CMs_kd, CMs_mr, CM_ov, CM_nm, CM_pl, CM_o, CMs_ov, CMs_nm, CMs_pl, P40_0 hS, P5, P6, f0, hp, at_in, Int.toNat_natCast]
    exact ⟨_, _, _, _, hz⟩
theorem lawT_ {n : Nat} {t : Int} {M : Mem} {S : Sh} (hS : Std n S) (t0 : 0 ≤ t) (t6 : t < 6) : res 88 [aR 6, aI t] M S = some (some (aR (laT t)), M, S) := by
  have z := lawAt_ (M := M) hS (t := t.toNat) (by omega)
  rw [show ((t.toNat : Nat) : Int) = t by omega] at z
  exact z
theorem flyNow_ {n : Nat} {sc : Nat → Int} {M : Mem} {S : Sh} (hS : Std n S) (hC : iCst sc M) (hO : ScO M 7) (t0 : 0 ≤ M 7 14) (t6 : M 7 14 < 6) (hD : LwD M (laT (M 7 14)) (cdT M (M 7 14)) (stT M (M 7 14))) : ∃ M', res 90 [aR 6] M S = some (none, M', S) ∧ afC M 7 M' := by
  obtain ⟨M', h, q⟩ := flyC_ hS hC (Or.inl rfl) hO t0 t6 hD
  refine ⟨M', ?_, q⟩
  have k6 := K6 hS
  have k7 := K7 hS
  have k40 := K40 hS
  rw [g90]
  simp (disch := omega) only [g90_0, g90_1, g90_4, g90_5, g90_8, g90_9, g90_10, g90_13, g90_16, g90_19, g90_22, cont_1, cont_0, w32_o, P6_0 hS, P6_9 hS, lawT_ hS, h]
theorem coveredBy_ {n b : Nat} {sc : Nat → Int} {M : Mem} {S : Sh} (hS : Std n S) (hC : iCst sc M) (hb : b = 7 ∨ b = 17) (hO : ScO M b) (t0 : 0 ≤ M b 14) (t6 : M b 14 < 6) (hD : LwD M (laT (M b 14)) (cdT M (M b 14)) (stT M (M b 14))) : ∃ M', res 91 [aR 6, aR b] M S = some (some (aI ((cnt (mskF (M (b + 2)) (flC M b).1.1) 1 192 : Nat) : Int)), M', S) ∧ afC M b M' := by
  obtain ⟨M', h, q⟩ := flyC_ hS hC hb hO t0 t6 hD
  refine ⟨M', ?_, q⟩
  have k6 := K6 hS
  have k40 := K40 hS
  have hB := sceneS_of hS hb
  obtain ⟨⟨k3, kk1, kk2, _⟩, ⟨_, sl2, _⟩, P0, P1, _⟩ := hB.2
  have lb : 45 ≤ laT (M b 14) ∧ laT (M b 14) ≤ 71 := laOf_b (by omega)
  obtain ⟨kd, mr, nm, pl, e⟩ := q
  have e2 : cnt (mskF (M' (b + 2)) (M' 41)) 1 192 = cnt (mskF (M (b + 2)) (flC M b).1.1) 1 192 := by
    refine cnt_ext (fun k hk => ?_)
    unfold mskF
    rw [e, CM_ov hk, CM_o (by omega) (by omega) (by omega) (by omega)]
  rw [g91]
  simp (disch := omega) only [g91_0, g91_1, g91_4, g91_4n, g91_5, g91_6, g91_6n, g91_7, g91_10, g91_13, g91_16, g91_17, g91_20, g91_20n, g91_21, g91_24, g91_25, g91_28, cont_1, cont_0, w32_o, P6_9 hS, P1, lawT_ hS, h, cov_ hS kk2 sl2, e2]
