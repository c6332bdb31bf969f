/-- strips of a scene -/
def ScR (M : Mem) (b ns : Nat) (ws ls : Nat → Int) : Prop := M b 4 = (ns : Int) ∧ ns ≤ 12 ∧ ∀ k, k < ns → M (b + 3) k = ws k ∧ M (b + 4) k = ls k ∧ 0 ≤ ws k ∧ ws k ≤ 3 ∧ 0 ≤ ls k ∧ ls k < 16 ∧ (ws k < 2 → ls k < 12)
/-- strips from k on, rem of them; f are flown -/
def flF (kd mr fu fi ev ho : Int) (sd : Nat → Int → Int → Int) (ws ls : Nat → Int) : Nat → Nat → FS → Int → FS × Int
  | 0, _, s, f => (s, f)
  | rem + 1, k, s, f => if (stripF kd mr fu fi ev ho sd (ws k) (ls k) (s.1, s.2.1, s.2.2.1, w32 (s.2.2.2 + (if k = 0 then 0 else turnMin kd mr)))).1 = 0 then ((stripF kd mr fu fi ev ho sd (ws k) (ls k) (s.1, s.2.1, s.2.2.1, w32 (s.2.2.2 + (if k = 0 then 0 else turnMin kd mr)))).2, f)
    else flF kd mr fu fi ev ho sd ws ls rem (k + 1) (stripF kd mr fu fi ev ho sd (ws k) (ls k) (s.1, s.2.1, s.2.2.1, w32 (s.2.2.2 + (if k = 0 then 0 else turnMin kd mr)))).2 (w32 (f + 1))
theorem stF_01 {kd mr fu fi ev ho : Int} {sd : Nat → Int → Int → Int} {al bk stp line dr : Int} : ∀ (rem : Nat) (i : Int) (s : FS), (stF kd mr fu fi ev ho sd al bk stp line dr rem i s).1 = 0 ∨ (stF kd mr fu fi ev ho sd al bk stp line dr rem i s).1 = 1 := by
  intro rem
  induction rem with
  | zero => intro i s; exact Or.inr rfl
  | succ rem ih =>
    intro i s
    rw [stF]
    split
    · exact Or.inl rfl
    · split
      · exact ih _ _
      · exact ih _ _
theorem stripF_01 {kd mr fu fi ev ho : Int} {sd : Nat → Int → Int → Int} {way line : Int} {s : FS} : (stripF kd mr fu fi ev ho sd way line s).1 = 0 ∨ (stripF kd mr fu fi ev ho sd way line s).1 = 1 := by
  unfold stripF
  split
  · exact stF_01 _ _ _
  · split
    · exact stF_01 _ _ _
    · split
      · exact stF_01 _ _ _
      · exact stF_01 _ _ _
theorem w32_k {k : Nat} (h : k < 100000) : w32 ((k : Int) + 1) = (k : Int) + 1 := w32_o (by omega) (by omega)
theorem fly_loop {n b la p : Nat} {sc cd st hl : Nat → Int} {wd ho kd mr fu fi ev : Int} {M : Mem} {S : Sh} {ns r : Nat} {ws ls : Nat → Int} (hS : Std n S) (hC : iCst sc M) (hB : SceneS S b) (hL : LawS S la) (l83 : la + 4 < 84) (hD : LwD M la cd st) (hsc : ScD M b p hl wd ho kd mr fu fi ev) (hr : 13 < r) (hR : ScR M b ns ws ls) : ∀ (rem k : Nat) (ov : Nat → Int) (cl lo mi en : Int) (nm pl : Nat → Int), k + rem = ns → ∃ nm' pl', go r 2 77 [some (aR 40), some (aR b), some (aR la), some (aI (k : Int))] [] (CM M (la + 4) ov cl lo mi en kd mr nm pl) S = some (none, CM M (la + 4) (flF kd mr fu fi ev ho (sdF cd st hl wd mr ho) ws ls rem k (ov, cl, lo, mi) en).1.1 (flF kd mr fu fi ev ho (sdF cd st hl wd mr ho) ws ls rem k (ov, cl, lo, mi) en).1.2.1 (flF kd mr fu fi ev ho (sdF cd st hl wd mr ho) ws ls rem k (ov, cl, lo, mi) en).1.2.2.1 (flF kd mr fu fi ev ho (sdF cd st hl wd mr ho) ws ls rem k (ov, cl, lo, mi) en).1.2.2.2 (flF kd mr fu fi ev ho (sdF cd st hl wd mr ho) ws ls rem k (ov, cl, lo, mi) en).2 kd mr nm' pl', S) := by
  have hb := hB.1
  have a45 := hL.1
  obtain ⟨k3, kk1, kk2, kk3, kk4, kk5, kk6, kk7, kk8, kk9⟩ := hB.2.1
  have kl := hL.2.1
  have k40 := K40 hS
  obtain ⟨s0, s1, s2, s3, s4, s5, s6, s7, s8, s9, d0, d1, d2, d3, d4, d5⟩ := hsc
  have hsc : ScD M b p hl wd ho kd mr fu fi ev := ⟨s0, s1, s2, s3, s4, s5, s6, s7, s8, s9, d0, d1, d2, d3, d4, d5⟩
  obtain ⟨sk, ⟨_, _, sl3, sl4, _, _, sl7, sl8, sl9⟩, P0, P1, P2, P3, P5, P6, P7, P8, P9⟩ := hB.2
  obtain ⟨r0, r1, r2⟩ := hR
  intro rem
  induction rem with
  | zero =>
    intro k ov cl lo mi en nm pl hk
    have hk2 : ns = k := by omega
    subst hk2
    rw [g2_77]
    simp (disch := omega) only [g2_0, g2_1, g2_4, g2_5, g2_8, g2_9, g2_10, g2_13, g2_14, g2_15, g2_18, g2_19, g2_20, g2_23, g2_24, g2_25, g2_28, g2_28n, g2_29, g2_29n, g2_32, g2_32n, g2_33, g2_33n, g2_36, g2_36n, g2_37, g2_40, g2_41t, g2_41f, g2_44, g2_45, g2_46, g2_46n, g2_47, g2_50, g2_50n, g2_51, g2_54, g2_57, g2_60, g2_61, g2_61n, g2_62, g2_65, g2_65n, g2_66, g2_69, g2_72, g2_75, g2_76, g2_78, g2_78n, g2_79, g2_82t, g2_82f, g2_85, g2_86, g2_87, g2_90, g2_91t, g2_91f, g2_94, g2_95, g2_98, g2_99, g2_102, g2_103, g2_106, g2_109, g2_110, g2_113, g2_114, g2_114n, g2_115, g2_115n, g2_116, g2_116n, g2_117, g2_120, g2_121, g2_124, g2_124n, g2_125, g2_128, g2_129, g2_132, g2_135t, g2_135f, g2_138, g2_139, g2_140, g2_141, g2_144, g2_145, g2_146, g2_149, g2_152, g2_155, cont_1, cont_0, w32_k, CM_cl, CM_lo, CM_mi, CM_en, CM_kd, CM_mr, CMs_cl, CMs_lo, CMs_mi, CMs_en, CMs_kd, CMs_mr, CM_ov, CM_nm, CM_pl, CM_o, CMs_ov, CMs_nm, CMs_pl, r0]
    exact ⟨_, _, rfl⟩
  | succ rem ih =>
    intro k ov cl lo mi en nm pl hk
    obtain ⟨u0, u1, u2, u3, u4, u5, u6⟩ := r2 k (by omega)
    have f0 : ∀ ov cl lo mi en nm pl, res 104 [aI kd, aI mr] (CM M (la + 4) ov cl lo mi en kd mr nm pl) S = some (some (aI (turnMin kd mr)), CM M (la + 4) ov cl lo mi en kd mr nm pl, S) := fun ov cl lo mi en nm pl => turnMinutes_ hS (iCst_CM (by omega) (by omega) hC) d0 (by omega) d2 d3
    obtain ⟨nm1, pl1, hz⟩ := flyStrip_ (ov := ov) (cl := cl) (lo := lo) (mi := w32 (mi + (if k = 0 then 0 else turnMin kd mr))) (en := en) (nm := nm) (pl := pl) hS hC hB hL l83 hD hsc u2 u3 u4 u5 u6
    by_cases c1 : (stripF kd mr fu fi ev ho (sdF cd st hl wd mr ho) (ws k) (ls k) (ov, cl, lo, w32 (mi + (if k = 0 then 0 else turnMin kd mr)))).1 = 0
    · have e : flF kd mr fu fi ev ho (sdF cd st hl wd mr ho) ws ls (rem + 1) k (ov, cl, lo, mi) en = ((stripF kd mr fu fi ev ho (sdF cd st hl wd mr ho) (ws k) (ls k) (ov, cl, lo, w32 (mi + (if k = 0 then 0 else turnMin kd mr)))).2, en) := if_pos c1
      rw [e]
      rw [g2_77]
      rw [c1] at hz
      by_cases h0 : k = 0
      · simp (disch := omega) only [g2_0, g2_1, g2_4, g2_5, g2_8, g2_9, g2_10, g2_13, g2_14, g2_15, g2_18, g2_19, g2_20, g2_23, g2_24, g2_25, g2_28, g2_28n, g2_29, g2_29n, g2_32, g2_32n, g2_33, g2_33n, g2_36, g2_36n, g2_37, g2_40, g2_41t, g2_41f, g2_44, g2_45, g2_46, g2_46n, g2_47, g2_50, g2_50n, g2_51, g2_54, g2_57, g2_60, g2_61, g2_61n, g2_62, g2_65, g2_65n, g2_66, g2_69, g2_72, g2_75, g2_76, g2_78, g2_78n, g2_79, g2_82t, g2_82f, g2_85, g2_86, g2_87, g2_90, g2_91t, g2_91f, g2_94, g2_95, g2_98, g2_99, g2_102, g2_103, g2_106, g2_109, g2_110, g2_113, g2_114, g2_114n, g2_115, g2_115n, g2_116, g2_116n, g2_117, g2_120, g2_121, g2_124, g2_124n, g2_125, g2_128, g2_129, g2_132, g2_135t, g2_135f, g2_138, g2_139, g2_140, g2_141, g2_144, g2_145, g2_146, g2_149, g2_152, g2_155, cont_1, cont_0, w32_k, CM_cl, CM_lo, CM_mi, CM_en, CM_kd, CM_mr, CMs_cl, CMs_lo, CMs_mi, CMs_en, CMs_kd, CMs_mr, CM_ov, CM_nm, CM_pl, CM_o, CMs_ov, CMs_nm, CMs_pl, r0, P2, P3, at_in, Int.toNat_natCast, u0, u1, f0, h0, if_true] at hz ⊢
        subst h0
        simp (disch := omega) only [g2_0, g2_1, g2_4, g2_5, g2_8, g2_9, g2_10, g2_13, g2_14, g2_15, g2_18, g2_19, g2_20, g2_23, g2_24, g2_25, g2_28, g2_28n, g2_29, g2_29n, g2_32, g2_32n, g2_33, g2_33n, g2_36, g2_36n, g2_37, g2_40, g2_41t, g2_41f, g2_44, g2_45, g2_46, g2_46n, g2_47, g2_50, g2_50n, g2_51, g2_54, g2_57, g2_60, g2_61, g2_61n, g2_62, g2_65, g2_65n, g2_66, g2_69, g2_72, g2_75, g2_76, g2_78, g2_78n, g2_79, g2_82t, g2_82f, g2_85, g2_86, g2_87, g2_90, g2_91t, g2_91f, g2_94, g2_95, g2_98, g2_99, g2_102, g2_103, g2_106, g2_109, g2_110, g2_113, g2_114, g2_114n, g2_115, g2_115n, g2_116, g2_116n, g2_117, g2_120, g2_121, g2_124, g2_124n, g2_125, g2_128, g2_129, g2_132, g2_135t, g2_135f, g2_138, g2_139, g2_140, g2_141, g2_144, g2_145, g2_146, g2_149, g2_152, g2_155, cont_1, cont_0, w32_k, CM_cl, CM_lo, CM_mi, CM_en, CM_kd, CM_mr, CMs_cl, CMs_lo, CMs_mi, CMs_en, CMs_kd, CMs_mr, CM_ov, CM_nm, CM_pl, CM_o, CMs_ov, CMs_nm, CMs_pl, r0, P2, P3, at_in, Int.toNat_natCast, u0, u1, f0, hz]
        exact ⟨_, _, rfl⟩
      · simp only [h0, if_false] at hz ⊢
        simp (disch := omega) only [g2_0, g2_1, g2_4, g2_5, g2_8, g2_9, g2_10, g2_13, g2_14, g2_15, g2_18, g2_19, g2_20, g2_23, g2_24, g2_25, g2_28, g2_28n, g2_29, g2_29n, g2_32, g2_32n, g2_33, g2_33n, g2_36, g2_36n, g2_37, g2_40, g2_41t, g2_41f, g2_44, g2_45, g2_46, g2_46n, g2_47, g2_50, g2_50n, g2_51, g2_54, g2_57, g2_60, g2_61, g2_61n, g2_62, g2_65, g2_65n, g2_66, g2_69, g2_72, g2_75, g2_76, g2_78, g2_78n, g2_79, g2_82t, g2_82f, g2_85, g2_86, g2_87, g2_90, g2_91t, g2_91f, g2_94, g2_95, g2_98, g2_99, g2_102, g2_103, g2_106, g2_109, g2_110, g2_113, g2_114, g2_114n, g2_115, g2_115n, g2_116, g2_116n, g2_117, g2_120, g2_121, g2_124, g2_124n, g2_125, g2_128, g2_129, g2_132, g2_135t, g2_135f, g2_138, g2_139, g2_140, g2_141, g2_144, g2_145, g2_146, g2_149, g2_152, g2_155, cont_1, cont_0, w32_k, CM_cl, CM_lo, CM_mi, CM_en, CM_kd, CM_mr, CMs_cl, CMs_lo, CMs_mi, CMs_en, CMs_kd, CMs_mr, CM_ov, CM_nm, CM_pl, CM_o, CMs_ov, CMs_nm, CMs_pl, r0, P2, P3, at_in, Int.toNat_natCast, u0, u1, f0, hz]
        exact ⟨_, _, rfl⟩
    · have c2 : (stripF kd mr fu fi ev ho (sdF cd st hl wd mr ho) (ws k) (ls k) (ov, cl, lo, w32 (mi + (if k = 0 then 0 else turnMin kd mr)))).1 = 1 := by rcases stripF_01 (kd := kd) (mr := mr) (fu := fu) (fi := fi) (ev := ev) (ho := ho) (sd := (sdF cd st hl wd mr ho)) (way := ws k) (line := ls k) (s := (ov, cl, lo, w32 (mi + (if k = 0 then 0 else turnMin kd mr)))) with q | q; exact absurd q c1; exact q
      have e : flF kd mr fu fi ev ho (sdF cd st hl wd mr ho) ws ls (rem + 1) k (ov, cl, lo, mi) en = flF kd mr fu fi ev ho (sdF cd st hl wd mr ho) ws ls rem (k + 1) (stripF kd mr fu fi ev ho (sdF cd st hl wd mr ho) (ws k) (ls k) (ov, cl, lo, w32 (mi + (if k = 0 then 0 else turnMin kd mr)))).2 (w32 (en + 1)) := if_neg c1
      rw [e]
      rw [c2] at hz
      obtain ⟨nm2, pl2, hz2⟩ := ih (k + 1) (stripF kd mr fu fi ev ho (sdF cd st hl wd mr ho) (ws k) (ls k) (ov, cl, lo, w32 (mi + (if k = 0 then 0 else turnMin kd mr)))).2.1 (stripF kd mr fu fi ev ho (sdF cd st hl wd mr ho) (ws k) (ls k) (ov, cl, lo, w32 (mi + (if k = 0 then 0 else turnMin kd mr)))).2.2.1 (stripF kd mr fu fi ev ho (sdF cd st hl wd mr ho) (ws k) (ls k) (ov, cl, lo, w32 (mi + (if k = 0 then 0 else turnMin kd mr)))).2.2.2.1 (stripF kd mr fu fi ev ho (sdF cd st hl wd mr ho) (ws k) (ls k) (ov, cl, lo, w32 (mi + (if k = 0 then 0 else turnMin kd mr)))).2.2.2.2 (w32 (en + 1)) nm1 pl1 (by omega)
      rw [nc_1] at hz2
      rw [g2_77]
      by_cases h0 : k = 0
      · subst h0
        simp (disch := omega) only [if_true] at hz hz2 ⊢
        simp (disch := omega) only [g2_0, g2_1, g2_4, g2_5, g2_8, g2_9, g2_10, g2_13, g2_14, g2_15, g2_18, g2_19, g2_20, g2_23, g2_24, g2_25, g2_28, g2_28n, g2_29, g2_29n, g2_32, g2_32n, g2_33, g2_33n, g2_36, g2_36n, g2_37, g2_40, g2_41t, g2_41f, g2_44, g2_45, g2_46, g2_46n, g2_47, g2_50, g2_50n, g2_51, g2_54, g2_57, g2_60, g2_61, g2_61n, g2_62, g2_65, g2_65n, g2_66, g2_69, g2_72, g2_75, g2_76, g2_78, g2_78n, g2_79, g2_82t, g2_82f, g2_85, g2_86, g2_87, g2_90, g2_91t, g2_91f, g2_94, g2_95, g2_98, g2_99, g2_102, g2_103, g2_106, g2_109, g2_110, g2_113, g2_114, g2_114n, g2_115, g2_115n, g2_116, g2_116n, g2_117, g2_120, g2_121, g2_124, g2_124n, g2_125, g2_128, g2_129, g2_132, g2_135t, g2_135f, g2_138, g2_139, g2_140, g2_141, g2_144, g2_145, g2_146, g2_149, g2_152, g2_155, cont_1, cont_0, w32_k, CM_cl, CM_lo, CM_mi, CM_en, CM_kd, CM_mr, CMs_cl, CMs_lo, CMs_mi, CMs_en, CMs_kd, CMs_mr, CM_ov, CM_nm, CM_pl, CM_o, CMs_ov, CMs_nm, CMs_pl, r0, P2, P3, at_in, Int.toNat_natCast, u0, u1, f0, hz]
        exact ⟨_, _, hz2⟩
      · simp only [h0, if_false] at hz hz2 ⊢
        simp (disch := omega) only [g2_0, g2_1, g2_4, g2_5, g2_8, g2_9, g2_10, g2_13, g2_14, g2_15, g2_18, g2_19, g2_20, g2_23, g2_24, g2_25, g2_28, g2_28n, g2_29, g2_29n, g2_32, g2_32n, g2_33, g2_33n, g2_36, g2_36n, g2_37, g2_40, g2_41t, g2_41f, g2_44, g2_45, g2_46, g2_46n, g2_47, g2_50, g2_50n, g2_51, g2_54, g2_57, g2_60, g2_61, g2_61n, g2_62, g2_65, g2_65n, g2_66, g2_69, g2_72, g2_75, g2_76, g2_78, g2_78n, g2_79, g2_82t, g2_82f, g2_85, g2_86, g2_87, g2_90, g2_91t, g2_91f, g2_94, g2_95, g2_98, g2_99, g2_102, g2_103, g2_106, g2_109, g2_110, g2_113, g2_114, g2_114n, g2_115, g2_115n, g2_116, g2_116n, g2_117, g2_120, g2_121, g2_124, g2_124n, g2_125, g2_128, g2_129, g2_132, g2_135t, g2_135f, g2_138, g2_139, g2_140, g2_141, g2_144, g2_145, g2_146, g2_149, g2_152, g2_155, cont_1, cont_0, w32_k, CM_cl, CM_lo, CM_mi, CM_en, CM_kd, CM_mr, CMs_cl, CMs_lo, CMs_mi, CMs_en, CMs_kd, CMs_mr, CM_ov, CM_nm, CM_pl, CM_o, CMs_ov, CMs_nm, CMs_pl, r0, P2, P3, at_in, Int.toNat_natCast, u0, u1, f0, hz]
        exact ⟨_, _, hz2⟩
