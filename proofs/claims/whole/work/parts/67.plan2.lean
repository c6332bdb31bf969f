theorem planIn_ {n : Nat} {ac fr ap : Int} {sc : Nat → Int} {M X : Mem} {S : Sh} (hS : Std n S) (hI : Inv sc M) (hac : ac = 0 ∨ ac = 1) (f0 : 0 ≤ fr) (f1 : fr ≤ 9) (a0 : 0 ≤ ap) (a1 : ap ≤ 9) (hX : FrC M X) : ∃ X1 X2, res 92 [aR 6, aI ac, aI fr, aI ap] X S = some (none, X1, S) ∧ res 91 [aR 6, aR 17] X1 S = some (some (aI (cvN M (flP M ac fr ap))), X2, S) ∧ FrC M X2 ∧ X2 40 3 = (flP M ac fr ap).1.2.2.2 := by
  have k6 := K6 hS
  have k7 := K7 hS
  have k17 := K17 hS
  obtain ⟨X0, f0', t1⟩ := take_17_7 hS (M := X)
  obtain ⟨hX1, h17⟩ := Thk_of2 hX t1
  have hS1 := ThkS_of hX1 h17
  have hP : PiC M (mset X0 17 4 0) ac fr ap 0 := by
    refine ⟨ThkS_x hS1 (fun a h1 h2 h3 => by rw [mset_ne _ _ _ h1]) (fun j h1 h2 => by
      simp (disch := omega) only [mset_nk]), by rw [mset_eq]; rfl, fun j hj => absurd hj (Nat.not_lt_zero j)⟩
  obtain ⟨X1, z, hX1'⟩ := plan_loop (r := 12) (by omega) hS hac f0 f1 a0 a1 12 0 _ (by omega) hP
  obtain ⟨g1, g2, g3⟩ := hX1'
  have n12 := plN_le (lim := limP ac) (fr := fr) (ap := ap) 12 0
  have hF := fyC_S hI g1 g2 (by omega) g3 (plan_v hac f0 a0 a1)
  obtain ⟨X2, f2, a2⟩ := cov_th hS hI g1.1 g1.2.2.1 hF
  rw [th_S hI g1 g2 g3, show flT M (plN (limP ac) fr ap 12 0) (wsP ac) (lsP fr ap) = flP M ac fr ap from rfl] at f2 a2
  refine ⟨X1, X2, ?_, f2, FrC_t g1.1 (FrT_C a2.1), a2.2.2.2.2.1⟩
  rw [← z, g92]
  rcases hac with rfl | rfl
  all_goals simp (disch := omega) only [g92_0, g92_1, g92_4, g92_5, g92_8, g92_11, g92_12, g92_15, g92_16, g92_19, g92_20t, g92_20f, g92_23, g92_24, g92_27, g92_28, g92_30, g92_32, g92_35, g92_37, g92_38, g92_42, g92_44t, g92_44f, g92_47, g92_48, g92_50, g92_51, g92_52, g92_53, g92_55t, g92_55f, g92_58, g92_59, g92_62, g92_64, g92_66, g92_67, g92_68, g92_69, g92_70, g92_72, g92_73, g92_74, g92_75, g92_78, g92_81, g92_84, cont_1, cont_0, w32_k, P6_0 hS, P6_1 hS, f0', linesOf_lt, linesOf_ge]
  all_goals rfl
/-- the model with k planned strips -/
def PiM (M Y : Mem) (ac fr ap : Int) (k : Nat) : Prop := (∀ a, a ≠ 84 → a ≠ 90 → a ≠ 91 → a ≠ 107 → a ≠ 108 → (a < 103 ∨ 109 < a) → Y a = M a) ∧ (∀ j, j < 12 → Y 107 j = M 90 j ∧ Y 108 j = M 91 j) ∧ (∀ j, 12 ≤ j → Y 90 j = M 90 j ∧ Y 91 j = M 91 j) ∧ (∀ j, (j < 26 ∨ j = 43) → j ≠ 9 → Y 84 j = M 84 j) ∧ Y 84 9 = (k : Int) ∧ ∀ j, j < k → Y 90 j = wsP ac j ∧ Y 91 j = lsP fr ap j
theorem pm_step {M Y : Mem} {ac fr ap : Int} {k : Nat} (h : PiM M Y ac fr ap k) (k12 : k < 12) : PiM M (mset (mset (mset Y 90 k (wsP ac k)) 91 k (lsP fr ap k)) 84 9 ((k : Int) + 1)) ac fr ap (k + 1) := by
  obtain ⟨h0, h1, h2, h3, h4, h5⟩ := h
  refine ⟨fun a e1 e2 e3 e4 e5 e6 => ?_, fun j hj => ?_, fun j hj => ?_, fun j hj hj9 => ?_, ?_, fun j hj => ?_⟩
  · rw [mset_ne _ _ _ e1, mset_ne _ _ _ e3, mset_ne _ _ _ e2]
    exact h0 a e1 e2 e3 e4 e5 e6
  · simp (disch := omega) only [mset_ne]
    exact h1 j hj
  · simp (disch := omega) only [mset_ne, mset_nk]
    exact h2 j hj
  · simp (disch := omega) only [mset_ne, mset_nk]
    exact h3 j hj hj9
  · rw [mset_eq]
    rfl
  · by_cases e : j = k
    · subst e
      simp (disch := omega) only [mset_ne, mset_eq, and_self]
    · simp (disch := omega) only [mset_ne, mset_nk]
      exact h5 j (by omega)
theorem fp_plan {n r : Nat} {ac fr ap : Int} {M : Mem} {S : Sh} {l4 l6 : Option AV} (hr : 10 < r) (hS : Std n S) (hac : ac = 0 ∨ ac = 1) (f0 : 0 ≤ fr) (f1 : fr ≤ 9) (a0 : 0 ≤ ap) (a1 : ap ≤ 9) : ∀ (rem k : Nat) (Y : Mem), k + rem = 12 → PiM M Y ac fr ap k → ∃ Y' l5, go r 153 58 [some (aR 84), some (aI ac), some (aI fr), some (aI ap), l4, some (aI (fr + (k : Int) * ap)), l6] [] Y S = go r 153 132 [some (aR 84), some (aI ac), some (aI fr), some (aI ap), l4, l5, l6] [] Y' S ∧ PiM M Y' ac fr ap (plN (limP ac) fr ap rem k) := by
  have k84 := K84 hS
  have k90 := K90 hS
  have k91 := K91 hS
  have l90 := L90 hS
  have l91 := L91 hS
  intro rem
  induction rem with
  | zero =>
    intro k Y hk hY
    have y9 := hY.2.2.2.2.1
    refine ⟨Y, some (aI (fr + (k : Int) * ap)), ?_, hY⟩
    rw [g153_58]
    rcases hac with rfl | rfl
    · rcases (by omega : fr + (k : Int) * ap < 12 ∨ 12 ≤ fr + (k : Int) * ap) with hh | hh
      all_goals simp (disch := omega) only [g153_0, g153_1, g153_4, g153_6, g153_7, g153_11, g153_13t, g153_13f, g153_16, g153_17, g153_20, g153_22, g153_23, g153_26, g153_28, g153_29, g153_30, g153_31, g153_34, g153_36, g153_37, g153_40, g153_42, g153_43, g153_44, g153_47, g153_50, g153_51, g153_52, g153_55, g153_56, g153_60, g153_61t, g153_61f, g153_64, g153_66, g153_69, g153_71t, g153_71f, g153_74, g153_75, g153_78, g153_80t, g153_80f, g153_83, g153_84, g153_87, g153_88, g153_91, g153_92, g153_93, g153_94, g153_95, g153_98, g153_99, g153_100, g153_101, g153_102, g153_103, g153_106, g153_107, g153_110, g153_112, g153_113, g153_114, g153_115, g153_118, g153_119, g153_120, g153_123, g153_125, g153_126, g153_127, g153_129, g153_132, g153_133, g153_136, g153_138, g153_139, g153_141, g153_144, g153_145, g153_149, g153_151t, g153_151f, g153_154, g153_155, g153_158, g153_160, g153_161, g153_164, g153_166, g153_167, g153_168, g153_169, g153_172, g153_174, g153_175, g153_178, g153_180, g153_181, g153_182, g153_185, g153_188, g153_190, cont_1, cont_0, w32_k, y9]
    · rcases (by omega : fr + (k : Int) * ap < 16 ∨ 16 ≤ fr + (k : Int) * ap) with hh | hh
      all_goals simp (disch := omega) only [g153_0, g153_1, g153_4, g153_6, g153_7, g153_11, g153_13t, g153_13f, g153_16, g153_17, g153_20, g153_22, g153_23, g153_26, g153_28, g153_29, g153_30, g153_31, g153_34, g153_36, g153_37, g153_40, g153_42, g153_43, g153_44, g153_47, g153_50, g153_51, g153_52, g153_55, g153_56, g153_60, g153_61t, g153_61f, g153_64, g153_66, g153_69, g153_71t, g153_71f, g153_74, g153_75, g153_78, g153_80t, g153_80f, g153_83, g153_84, g153_87, g153_88, g153_91, g153_92, g153_93, g153_94, g153_95, g153_98, g153_99, g153_100, g153_101, g153_102, g153_103, g153_106, g153_107, g153_110, g153_112, g153_113, g153_114, g153_115, g153_118, g153_119, g153_120, g153_123, g153_125, g153_126, g153_127, g153_129, g153_132, g153_133, g153_136, g153_138, g153_139, g153_141, g153_144, g153_145, g153_149, g153_151t, g153_151f, g153_154, g153_155, g153_158, g153_160, g153_161, g153_164, g153_166, g153_167, g153_168, g153_169, g153_172, g153_174, g153_175, g153_178, g153_180, g153_181, g153_182, g153_185, g153_188, g153_190, cont_1, cont_0, w32_k, y9]
  | succ rem ih =>
    intro k Y hk hY
    have y9 := hY.2.2.2.2.1
    have kb := mul_b (k := k) (ap := ap) (by omega) a0 a1
    rw [plN]
    by_cases hc : fr + (k : Int) * ap < limP ac
    · rw [if_pos hc]
      obtain ⟨Y', l5, z, hY'⟩ := ih (k + 1) _ (by omega) (pm_step hY (by omega))
      refine ⟨Y', l5, ?_, hY'⟩
      have ew : wsP ac k = 2 * ac + ((k % 2 : Nat) : Int) := rfl
      have el : lsP fr ap k = fr + (k : Int) * ap := rfl
      have hm2 : k % 2 < 2 := Nat.mod_lt _ (by omega)
      have en : fr + ((k + 1 : Nat) : Int) * ap = fr + (k : Int) * ap + ap := by
        rw [nc_1, Int.add_mul, Int.one_mul]
        omega
      rw [en, ew, el] at z
      rw [← z, g153_58]
      rcases hac with rfl | rfl
      · rw [show limP 0 = 12 from rfl] at hc
        simp (disch := omega) only [g153_0, g153_1, g153_4, g153_6, g153_7, g153_11, g153_13t, g153_13f, g153_16, g153_17, g153_20, g153_22, g153_23, g153_26, g153_28, g153_29, g153_30, g153_31, g153_34, g153_36, g153_37, g153_40, g153_42, g153_43, g153_44, g153_47, g153_50, g153_51, g153_52, g153_55, g153_56, g153_60, g153_61t, g153_61f, g153_64, g153_66, g153_69, g153_71t, g153_71f, g153_74, g153_75, g153_78, g153_80t, g153_80f, g153_83, g153_84, g153_87, g153_88, g153_91, g153_92, g153_93, g153_94, g153_95, g153_98, g153_99, g153_100, g153_101, g153_102, g153_103, g153_106, g153_107, g153_110, g153_112, g153_113, g153_114, g153_115, g153_118, g153_119, g153_120, g153_123, g153_125, g153_126, g153_127, g153_129, g153_132, g153_133, g153_136, g153_138, g153_139, g153_141, g153_144, g153_145, g153_149, g153_151t, g153_151f, g153_154, g153_155, g153_158, g153_160, g153_161, g153_164, g153_166, g153_167, g153_168, g153_169, g153_172, g153_174, g153_175, g153_178, g153_180, g153_181, g153_182, g153_185, g153_188, g153_190, cont_1, cont_0, w32_k, y9, P84_10 hS, P84_11 hS, w32_o, tm2n, mset_ne, mset_eq, Int.toNat_natCast]
      · rw [show limP 1 = 16 from rfl] at hc
        simp (disch := omega) only [g153_0, g153_1, g153_4, g153_6, g153_7, g153_11, g153_13t, g153_13f, g153_16, g153_17, g153_20, g153_22, g153_23, g153_26, g153_28, g153_29, g153_30, g153_31, g153_34, g153_36, g153_37, g153_40, g153_42, g153_43, g153_44, g153_47, g153_50, g153_51, g153_52, g153_55, g153_56, g153_60, g153_61t, g153_61f, g153_64, g153_66, g153_69, g153_71t, g153_71f, g153_74, g153_75, g153_78, g153_80t, g153_80f, g153_83, g153_84, g153_87, g153_88, g153_91, g153_92, g153_93, g153_94, g153_95, g153_98, g153_99, g153_100, g153_101, g153_102, g153_103, g153_106, g153_107, g153_110, g153_112, g153_113, g153_114, g153_115, g153_118, g153_119, g153_120, g153_123, g153_125, g153_126, g153_127, g153_129, g153_132, g153_133, g153_136, g153_138, g153_139, g153_141, g153_144, g153_145, g153_149, g153_151t, g153_151f, g153_154, g153_155, g153_158, g153_160, g153_161, g153_164, g153_166, g153_167, g153_168, g153_169, g153_172, g153_174, g153_175, g153_178, g153_180, g153_181, g153_182, g153_185, g153_188, g153_190, cont_1, cont_0, w32_k, y9, P84_10 hS, P84_11 hS, w32_o, tm2n, mset_ne, mset_eq, Int.toNat_natCast]
    · rw [if_neg hc]
      refine ⟨Y, some (aI (fr + (k : Int) * ap)), ?_, hY⟩
      rw [g153_58]
      rcases hac with rfl | rfl
      · rw [show limP 0 = 12 from rfl] at hc
        simp (disch := omega) only [g153_0, g153_1, g153_4, g153_6, g153_7, g153_11, g153_13t, g153_13f, g153_16, g153_17, g153_20, g153_22, g153_23, g153_26, g153_28, g153_29, g153_30, g153_31, g153_34, g153_36, g153_37, g153_40, g153_42, g153_43, g153_44, g153_47, g153_50, g153_51, g153_52, g153_55, g153_56, g153_60, g153_61t, g153_61f, g153_64, g153_66, g153_69, g153_71t, g153_71f, g153_74, g153_75, g153_78, g153_80t, g153_80f, g153_83, g153_84, g153_87, g153_88, g153_91, g153_92, g153_93, g153_94, g153_95, g153_98, g153_99, g153_100, g153_101, g153_102, g153_103, g153_106, g153_107, g153_110, g153_112, g153_113, g153_114, g153_115, g153_118, g153_119, g153_120, g153_123, g153_125, g153_126, g153_127, g153_129, g153_132, g153_133, g153_136, g153_138, g153_139, g153_141, g153_144, g153_145, g153_149, g153_151t, g153_151f, g153_154, g153_155, g153_158, g153_160, g153_161, g153_164, g153_166, g153_167, g153_168, g153_169, g153_172, g153_174, g153_175, g153_178, g153_180, g153_181, g153_182, g153_185, g153_188, g153_190, cont_1, cont_0, w32_k]
      · rw [show limP 1 = 16 from rfl] at hc
        simp (disch := omega) only [g153_0, g153_1, g153_4, g153_6, g153_7, g153_11, g153_13t, g153_13f, g153_16, g153_17, g153_20, g153_22, g153_23, g153_26, g153_28, g153_29, g153_30, g153_31, g153_34, g153_36, g153_37, g153_40, g153_42, g153_43, g153_44, g153_47, g153_50, g153_51, g153_52, g153_55, g153_56, g153_60, g153_61t, g153_61f, g153_64, g153_66, g153_69, g153_71t, g153_71f, g153_74, g153_75, g153_78, g153_80t, g153_80f, g153_83, g153_84, g153_87, g153_88, g153_91, g153_92, g153_93, g153_94, g153_95, g153_98, g153_99, g153_100, g153_101, g153_102, g153_103, g153_106, g153_107, g153_110, g153_112, g153_113, g153_114, g153_115, g153_118, g153_119, g153_120, g153_123, g153_125, g153_126, g153_127, g153_129, g153_132, g153_133, g153_136, g153_138, g153_139, g153_141, g153_144, g153_145, g153_149, g153_151t, g153_151f, g153_154, g153_155, g153_158, g153_160, g153_161, g153_164, g153_166, g153_167, g153_168, g153_169, g153_172, g153_174, g153_175, g153_178, g153_180, g153_181, g153_182, g153_185, g153_188, g153_190, cont_1, cont_0, w32_k]
theorem fp_save {n r : Nat} {Y : Mem} {S : Sh} {l1 l2 l3 l4 l6 : Option AV} (hS : Std n S) : ∀ (rem k : Nat), k + rem = 12 → go r 153 9 [some (aR 84), l1, l2, l3, l4, some (aI (k : Int)), l6] [] (mrow (mrow Y 107 (rpre k (Y 90) (Y 107))) 108 (rpre k (Y 91) (Y 108))) S = go r 153 50 [some (aR 84), l1, l2, l3, l4, some (aI 12), l6] [] (mrow (mrow Y 107 (rpre 12 (Y 90) (Y 107))) 108 (rpre 12 (Y 91) (Y 108))) S := by
  have k84 := K84 hS
  have k90 := K90 hS
  have k91 := K91 hS
  have k107 := K107 hS
  have k108 := K108 hS
  have l90 := L90 hS
  have l91 := L91 hS
  have l107 := L107 hS
  have l108 := L108 hS
  intro rem
  induction rem with
  | zero =>
    intro k hk
    have e : k = 12 := by omega
    subst e
    rw [g153_9]
    simp (disch := omega) only [g153_0, g153_1, g153_4, g153_6, g153_7, g153_11, g153_13t, g153_13f, g153_16, g153_17, g153_20, g153_22, g153_23, g153_26, g153_28, g153_29, g153_30, g153_31, g153_34, g153_36, g153_37, g153_40, g153_42, g153_43, g153_44, g153_47, g153_50, g153_51, g153_52, g153_55, g153_56, g153_60, g153_61t, g153_61f, g153_64, g153_66, g153_69, g153_71t, g153_71f, g153_74, g153_75, g153_78, g153_80t, g153_80f, g153_83, g153_84, g153_87, g153_88, g153_91, g153_92, g153_93, g153_94, g153_95, g153_98, g153_99, g153_100, g153_101, g153_102, g153_103, g153_106, g153_107, g153_110, g153_112, g153_113, g153_114, g153_115, g153_118, g153_119, g153_120, g153_123, g153_125, g153_126, g153_127, g153_129, g153_132, g153_133, g153_136, g153_138, g153_139, g153_141, g153_144, g153_145, g153_149, g153_151t, g153_151f, g153_154, g153_155, g153_158, g153_160, g153_161, g153_164, g153_166, g153_167, g153_168, g153_169, g153_172, g153_174, g153_175, g153_178, g153_180, g153_181, g153_182, g153_185, g153_188, g153_190, cont_1, cont_0, w32_k]
    rfl
  | succ rem ih =>
    intro k hk
    have z := ih (k + 1) (by omega)
    rw [nc_1] at z
    rw [g153_9, ← z]
    simp (disch := omega) only [g153_0, g153_1, g153_4, g153_6, g153_7, g153_11, g153_13t, g153_13f, g153_16, g153_17, g153_20, g153_22, g153_23, g153_26, g153_28, g153_29, g153_30, g153_31, g153_34, g153_36, g153_37, g153_40, g153_42, g153_43, g153_44, g153_47, g153_50, g153_51, g153_52, g153_55, g153_56, g153_60, g153_61t, g153_61f, g153_64, g153_66, g153_69, g153_71t, g153_71f, g153_74, g153_75, g153_78, g153_80t, g153_80f, g153_83, g153_84, g153_87, g153_88, g153_91, g153_92, g153_93, g153_94, g153_95, g153_98, g153_99, g153_100, g153_101, g153_102, g153_103, g153_106, g153_107, g153_110, g153_112, g153_113, g153_114, g153_115, g153_118, g153_119, g153_120, g153_123, g153_125, g153_126, g153_127, g153_129, g153_132, g153_133, g153_136, g153_138, g153_139, g153_141, g153_144, g153_145, g153_149, g153_151t, g153_151f, g153_154, g153_155, g153_158, g153_160, g153_161, g153_164, g153_166, g153_167, g153_168, g153_169, g153_172, g153_174, g153_175, g153_178, g153_180, g153_181, g153_182, g153_185, g153_188, g153_190, cont_1, cont_0, w32_k, P84_10 hS, P84_11 hS, P84_44 hS, P84_45 hS, mrow_eq, mrow_ne, mset_mrow, mset_mrow_c, Int.toNat_natCast]
    rw [rpre_s (g := Y 90) rfl, rpre_s (g := Y 91) rfl]
theorem fp_back {n r : Nat} {Y : Mem} {S : Sh} {cv : Int} {l1 l2 l3 l4 : Option AV} (hS : Std n S) : ∀ (rem k : Nat), k + rem = 12 → go r 153 147 [some (aR 84), l1, l2, l3, l4, some (aI cv), some (aI (k : Int))] [] (mrow (mrow Y 90 (rpre k (Y 107) (Y 90))) 91 (rpre k (Y 108) (Y 91))) S = some (some (aI cv), mrow (mrow Y 90 (rpre 12 (Y 107) (Y 90))) 91 (rpre 12 (Y 108) (Y 91)), S) := by
  have k84 := K84 hS
  have k90 := K90 hS
  have k91 := K91 hS
  have k107 := K107 hS
  have k108 := K108 hS
  have l90 := L90 hS
  have l91 := L91 hS
  have l107 := L107 hS
  have l108 := L108 hS
  intro rem
  induction rem with
  | zero =>
    intro k hk
    have e : k = 12 := by omega
    subst e
    rw [g153_147]
    simp (disch := omega) only [g153_0, g153_1, g153_4, g153_6, g153_7, g153_11, g153_13t, g153_13f, g153_16, g153_17, g153_20, g153_22, g153_23, g153_26, g153_28, g153_29, g153_30, g153_31, g153_34, g153_36, g153_37, g153_40, g153_42, g153_43, g153_44, g153_47, g153_50, g153_51, g153_52, g153_55, g153_56, g153_60, g153_61t, g153_61f, g153_64, g153_66, g153_69, g153_71t, g153_71f, g153_74, g153_75, g153_78, g153_80t, g153_80f, g153_83, g153_84, g153_87, g153_88, g153_91, g153_92, g153_93, g153_94, g153_95, g153_98, g153_99, g153_100, g153_101, g153_102, g153_103, g153_106, g153_107, g153_110, g153_112, g153_113, g153_114, g153_115, g153_118, g153_119, g153_120, g153_123, g153_125, g153_126, g153_127, g153_129, g153_132, g153_133, g153_136, g153_138, g153_139, g153_141, g153_144, g153_145, g153_149, g153_151t, g153_151f, g153_154, g153_155, g153_158, g153_160, g153_161, g153_164, g153_166, g153_167, g153_168, g153_169, g153_172, g153_174, g153_175, g153_178, g153_180, g153_181, g153_182, g153_185, g153_188, g153_190, cont_1, cont_0, w32_k]
  | succ rem ih =>
    intro k hk
    have z := ih (k + 1) (by omega)
    rw [nc_1] at z
    rw [g153_147, ← z]
    simp (disch := omega) only [g153_0, g153_1, g153_4, g153_6, g153_7, g153_11, g153_13t, g153_13f, g153_16, g153_17, g153_20, g153_22, g153_23, g153_26, g153_28, g153_29, g153_30, g153_31, g153_34, g153_36, g153_37, g153_40, g153_42, g153_43, g153_44, g153_47, g153_50, g153_51, g153_52, g153_55, g153_56, g153_60, g153_61t, g153_61f, g153_64, g153_66, g153_69, g153_71t, g153_71f, g153_74, g153_75, g153_78, g153_80t, g153_80f, g153_83, g153_84, g153_87, g153_88, g153_91, g153_92, g153_93, g153_94, g153_95, g153_98, g153_99, g153_100, g153_101, g153_102, g153_103, g153_106, g153_107, g153_110, g153_112, g153_113, g153_114, g153_115, g153_118, g153_119, g153_120, g153_123, g153_125, g153_126, g153_127, g153_129, g153_132, g153_133, g153_136, g153_138, g153_139, g153_141, g153_144, g153_145, g153_149, g153_151t, g153_151f, g153_154, g153_155, g153_158, g153_160, g153_161, g153_164, g153_166, g153_167, g153_168, g153_169, g153_172, g153_174, g153_175, g153_178, g153_180, g153_181, g153_182, g153_185, g153_188, g153_190, cont_1, cont_0, w32_k, P84_10 hS, P84_11 hS, P84_44 hS, P84_45 hS, mrow_eq, mrow_ne, mset_mrow, mset_mrow_c, Int.toNat_natCast]
    rw [rpre_s (g := Y 107) rfl, rpre_s (g := Y 108) rfl]
theorem flownPlanned_ {n : Nat} {ac fr ap : Int} {sc : Nat → Int} {M Y : Mem} {S : Sh} (hS : Std n S) (hI : Inv sc M) (hac : ac = 0 ∨ ac = 1) (f0 : 0 ≤ fr) (f1 : fr ≤ 9) (a0 : 0 ≤ ap) (a1 : ap ≤ 9) (hY : FrM M Y) : ∃ Y', res 153 [aR 84, aI ac, aI fr, aI ap] Y S = some (some (aI (cvN M (flP M ac fr ap))), Y', S) ∧ FrM M Y' ∧ Y' 84 40 = (flP M ac fr ap).1.2.2.2 := by
  have k84 := K84 hS
  have m43 := hI.2.2.2.2.2.2.2.1.2.1
  have y90 : Y 90 = M 90 := hY.1 90 (by omega) (by omega)
  have y91 : Y 91 = M 91 := hY.1 91 (by omega) (by omega)
  obtain ⟨Y0, hY0⟩ : ∃ Y0, Y0 = mrow (mrow Y 107 (rpre 12 (Y 90) (Y 107))) 108 (rpre 12 (Y 91) (Y 108)) := ⟨_, rfl⟩
  have z1 := fp_save (r := 18) (Y := Y) (l1 := some (aI ac)) (l2 := some (aI fr)) (l3 := some (aI ap)) (l4 := some (aI (Y 84 9))) (l6 := none) hS 12 0 (by omega)
  rw [rpre_0, rpre_0, mrow_self, mrow_self, ← hY0] at z1
  have hP : PiM M (mset Y0 84 9 0) ac fr ap 0 := by
    refine ⟨fun a e1 e2 e3 e4 e5 e6 => ?_, fun j hj => ?_, fun j hj => ?_, fun j hj hj9 => ?_, by rw [mset_eq]; rfl, fun j hj => absurd hj (Nat.not_lt_zero j)⟩
    · rw [mset_ne _ _ _ e1, hY0, mrow_ne _ _ e5, mrow_ne _ _ e4]
      exact hY.1 a e1 e6
    · rw [hY0]
      simp (disch := omega) only [mset_ne, mrow_ne, mrow_eq, rpre_lt]
      rw [y90, y91]
      exact ⟨rfl, rfl⟩
    · rw [hY0]
      simp (disch := omega) only [mset_ne, mrow_ne]
      rw [y90, y91]
      exact ⟨rfl, rfl⟩
    · rw [hY0]
      simp (disch := omega) only [mset_nk, mrow_ne]
      exact hY.2 j hj
  obtain ⟨Y1, l5, z2, hP1⟩ := fp_plan (r := 18) (l4 := some (aI (Y 84 9))) (l6 := none) (by omega) hS hac f0 f1 a0 a1 12 0 _ (by omega) hP
  obtain ⟨g0, g1, g2, g3, g4, g5⟩ := hP1
  have n12 := plN_le (lim := limP ac) (fr := fr) (ap := ap) 12 0
  have r : ∀ a, 85 ≤ a → a ≤ 94 → a ≠ 90 → a ≠ 91 → Y1 a = M a := fun a h1 h2 h3 h4 => g0 a (by omega) h3 h4 (by omega) (by omega) (by omega)
  have h84b : ∀ j, j = 2 ∨ j = 3 ∨ j = 4 ∨ j = 17 → Y1 84 j = M 84 j := fun j hj => g3 j (by omega) (by omega)
  have h43 : Y1 84 43 = -1 := (g3 43 (by omega) (by omega)).trans m43
  have hF := fyM_S hI r h84b g4 (by omega) g5 (plan_v hac f0 a0 a1)
  obtain ⟨Y2, f, a⟩ := cov_md (M := M) hS (fun q hq => by
    rw [r 86 (by omega) (by omega) (by omega) (by omega)]
    exact (hI.1 q hq).2.1) hF
  rw [md_S hI r h84b h43 g4 g5, show flT M (plN (limP ac) fr ap 12 0) (wsP ac) (lsP fr ap) = flP M ac fr ap from rfl] at f a
  have z3 := fp_back (r := 18) (Y := mset Y2 84 9 (Y 84 9)) (cv := cvN M (flP M ac fr ap)) (l1 := some (aI ac)) (l2 := some (aI fr)) (l3 := some (aI ap)) (l4 := some (aI (Y 84 9))) hS 12 0 (by omega)
  rw [rpre_0, rpre_0, mrow_self, mrow_self] at z3
  have k107 : ∀ j, mset Y2 84 9 (Y 84 9) 107 j = Y1 107 j := fun j => by
    rw [mset_ne _ _ _ (by omega), a.1.1 107 (by omega) (by omega)]
  have k108 : ∀ j, mset Y2 84 9 (Y 84 9) 108 j = Y1 108 j := fun j => by
    rw [mset_ne _ _ _ (by omega), a.1.1 108 (by omega) (by omega)]
  have k90 : ∀ j, mset Y2 84 9 (Y 84 9) 90 j = Y1 90 j := fun j => by
    rw [mset_ne _ _ _ (by omega), a.1.1 90 (by omega) (by omega)]
  have k91 : ∀ j, mset Y2 84 9 (Y 84 9) 91 j = Y1 91 j := fun j => by
    rw [mset_ne _ _ _ (by omega), a.1.1 91 (by omega) (by omega)]
  refine ⟨mrow (mrow (mset Y2 84 9 (Y 84 9)) 90 (rpre 12 (mset Y2 84 9 (Y 84 9) 107) (mset Y2 84 9 (Y 84 9) 90))) 91 (rpre 12 (mset Y2 84 9 (Y 84 9) 108) (mset Y2 84 9 (Y 84 9) 91)), ?_, ⟨fun x e1 e2 => ?_, fun j hj => ?_⟩, ?_⟩
  · rw [g153]
    simp (disch := omega) only [g153_0, g153_1, g153_4, g153_6, g153_7, g153_11, g153_13t, g153_13f, g153_16, g153_17, g153_20, g153_22, g153_23, g153_26, g153_28, g153_29, g153_30, g153_31, g153_34, g153_36, g153_37, g153_40, g153_42, g153_43, g153_44, g153_47, g153_50, g153_51, g153_52, g153_55, g153_56, g153_60, g153_61t, g153_61f, g153_64, g153_66, g153_69, g153_71t, g153_71f, g153_74, g153_75, g153_78, g153_80t, g153_80f, g153_83, g153_84, g153_87, g153_88, g153_91, g153_92, g153_93, g153_94, g153_95, g153_98, g153_99, g153_100, g153_101, g153_102, g153_103, g153_106, g153_107, g153_110, g153_112, g153_113, g153_114, g153_115, g153_118, g153_119, g153_120, g153_123, g153_125, g153_126, g153_127, g153_129, g153_132, g153_133, g153_136, g153_138, g153_139, g153_141, g153_144, g153_145, g153_149, g153_151t, g153_151f, g153_154, g153_155, g153_158, g153_160, g153_161, g153_164, g153_166, g153_167, g153_168, g153_169, g153_172, g153_174, g153_175, g153_178, g153_180, g153_181, g153_182, g153_185, g153_188, g153_190, cont_1, cont_0, w32_k]
    refine Eq.trans z1 ?_
    simp (disch := omega) only [g153_0, g153_1, g153_4, g153_6, g153_7, g153_11, g153_13t, g153_13f, g153_16, g153_17, g153_20, g153_22, g153_23, g153_26, g153_28, g153_29, g153_30, g153_31, g153_34, g153_36, g153_37, g153_40, g153_42, g153_43, g153_44, g153_47, g153_50, g153_51, g153_52, g153_55, g153_56, g153_60, g153_61t, g153_61f, g153_64, g153_66, g153_69, g153_71t, g153_71f, g153_74, g153_75, g153_78, g153_80t, g153_80f, g153_83, g153_84, g153_87, g153_88, g153_91, g153_92, g153_93, g153_94, g153_95, g153_98, g153_99, g153_100, g153_101, g153_102, g153_103, g153_106, g153_107, g153_110, g153_112, g153_113, g153_114, g153_115, g153_118, g153_119, g153_120, g153_123, g153_125, g153_126, g153_127, g153_129, g153_132, g153_133, g153_136, g153_138, g153_139, g153_141, g153_144, g153_145, g153_149, g153_151t, g153_151f, g153_154, g153_155, g153_158, g153_160, g153_161, g153_164, g153_166, g153_167, g153_168, g153_169, g153_172, g153_174, g153_175, g153_178, g153_180, g153_181, g153_182, g153_185, g153_188, g153_190, cont_1, cont_0, w32_k]
    rw [show ((0 : Nat) : Int) * ap = 0 by rw [show ((0 : Nat) : Int) = 0 from rfl, Int.zero_mul], Int.add_zero] at z2
    refine Eq.trans z2 ?_
    simp (disch := omega) only [g153_0, g153_1, g153_4, g153_6, g153_7, g153_11, g153_13t, g153_13f, g153_16, g153_17, g153_20, g153_22, g153_23, g153_26, g153_28, g153_29, g153_30, g153_31, g153_34, g153_36, g153_37, g153_40, g153_42, g153_43, g153_44, g153_47, g153_50, g153_51, g153_52, g153_55, g153_56, g153_60, g153_61t, g153_61f, g153_64, g153_66, g153_69, g153_71t, g153_71f, g153_74, g153_75, g153_78, g153_80t, g153_80f, g153_83, g153_84, g153_87, g153_88, g153_91, g153_92, g153_93, g153_94, g153_95, g153_98, g153_99, g153_100, g153_101, g153_102, g153_103, g153_106, g153_107, g153_110, g153_112, g153_113, g153_114, g153_115, g153_118, g153_119, g153_120, g153_123, g153_125, g153_126, g153_127, g153_129, g153_132, g153_133, g153_136, g153_138, g153_139, g153_141, g153_144, g153_145, g153_149, g153_151t, g153_151f, g153_154, g153_155, g153_158, g153_160, g153_161, g153_164, g153_166, g153_167, g153_168, g153_169, g153_172, g153_174, g153_175, g153_178, g153_180, g153_181, g153_182, g153_185, g153_188, g153_190, cont_1, cont_0, w32_k, f]
    exact z3
  · by_cases e3 : x = 90
    · subst e3
      rw [mrow_ne _ _ (by omega), mrow_eq]
      funext j
      by_cases hj : j < 12
      · rw [rpre_lt hj, k107, (g1 j hj).1]
      · rw [rpre_ge (by omega), k90, (g2 j (by omega)).1]
    · by_cases e4 : x = 91
      · subst e4
        rw [mrow_eq]
        funext j
        by_cases hj : j < 12
        · rw [rpre_lt hj, k108, (g1 j hj).2]
        · rw [rpre_ge (by omega), k91, (g2 j (by omega)).2]
      · rw [mrow_ne _ _ e4, mrow_ne _ _ e3, mset_ne _ _ _ e1, a.1.1 x e1 (by omega)]
        exact g0 x e1 e3 e4 (by omega) (by omega) e2
  · rw [mrow_ne _ _ (by omega), mrow_ne _ _ (by omega)]
    by_cases h9 : j = 9
    · rw [h9, mset_eq]
      exact hY.2 9 (by omega)
    · rw [mset_nk _ h9, a.1.2 j (by omega)]
      exact g3 j hj h9
  · rw [mrow_ne _ _ (by omega), mrow_ne _ _ (by omega), mset_nk _ (by omega)]
    exact a.2.2.2.2.1
