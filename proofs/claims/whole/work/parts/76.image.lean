/-! image -/
theorem rseg_f {a i j : Nat} {g f : Nat → Int} {v : Int} (h : j < a ∨ a + i ≤ j) : fset (rseg a i g f) j v = rseg a i g (fset f j v) := by
  funext q
  by_cases e : q = j
  · rw [e, fset_eq, rseg_out h, fset_eq]
  · rw [fset_ne _ _ e]
    unfold rseg
    rw [fset_ne _ _ e]
theorem img_1 {n r : Nat} {M : Mem} {S : Sh} (hS : Std n S) : ∀ (rem k : Nat), k + rem = 192 → go r 171 7 [some (aR 84), some (aI (k : Int))] [] (mrow M 95 (rseg 192 k (M 86) (rpre k (M 85) (M 95)))) S = go r 171 48 [some (aR 84), some (aI 192)] [] (mrow M 95 (rseg 192 192 (M 86) (rpre 192 (M 85) (M 95)))) S := by
  have k84 := K84 hS
  have k85 := K85 hS
  have k86 := K86 hS
  have k95 := K95 hS
  have l85 := L85 hS
  have l86 := L86 hS
  have l95 := L95 hS
  intro rem
  induction rem with
  | zero =>
    intro k hk
    have e : k = 192 := by omega
    subst e
    rw [g171_7]
    simp (disch := omega) only [g171_0, g171_1, g171_2, g171_5, g171_6, g171_8, g171_11t, g171_11f, g171_14, g171_15, g171_18, g171_19, g171_20, g171_23, g171_24, g171_25, g171_26, g171_27, g171_30, g171_33, g171_34, g171_35, g171_36, g171_39, g171_40, g171_41, g171_42, g171_45, g171_48, g171_49, g171_51, g171_53t, g171_53f, g171_56, g171_57, g171_60, g171_61, g171_62, g171_65, g171_66, g171_67, g171_68, g171_69, g171_72, g171_74, g171_75, g171_76, g171_77, g171_80, g171_81, g171_82, g171_83, g171_84, g171_87, g171_89, g171_90, g171_91, g171_92, g171_95, g171_96, g171_97, g171_98, g171_101, g171_104, g171_105, g171_108, g171_109, g171_110, g171_113, g171_114, g171_115, g171_118, g171_119, g171_120, g171_123, g171_124, g171_125, g171_128, g171_129, g171_130, g171_133, g171_134, g171_135, g171_138, g171_139, g171_140, g171_143, g171_144, g171_145, g171_148, g171_149, g171_150, g171_153, g171_154, g171_155, g171_158, g171_159, g171_160, g171_163, g171_164, g171_165, g171_168, cont_1, cont_0, w32_k]
    all_goals rfl
  | succ rem ih =>
    intro k hk
    have z := ih (k + 1) (by omega)
    rw [nc_1] at z
    have i1 : (192 + (k : Int)).toNat = 192 + k := by omega
    rw [← z, g171_7]
    simp (disch := omega) only [g171_0, g171_1, g171_2, g171_5, g171_6, g171_8, g171_11t, g171_11f, g171_14, g171_15, g171_18, g171_19, g171_20, g171_23, g171_24, g171_25, g171_26, g171_27, g171_30, g171_33, g171_34, g171_35, g171_36, g171_39, g171_40, g171_41, g171_42, g171_45, g171_48, g171_49, g171_51, g171_53t, g171_53f, g171_56, g171_57, g171_60, g171_61, g171_62, g171_65, g171_66, g171_67, g171_68, g171_69, g171_72, g171_74, g171_75, g171_76, g171_77, g171_80, g171_81, g171_82, g171_83, g171_84, g171_87, g171_89, g171_90, g171_91, g171_92, g171_95, g171_96, g171_97, g171_98, g171_101, g171_104, g171_105, g171_108, g171_109, g171_110, g171_113, g171_114, g171_115, g171_118, g171_119, g171_120, g171_123, g171_124, g171_125, g171_128, g171_129, g171_130, g171_133, g171_134, g171_135, g171_138, g171_139, g171_140, g171_143, g171_144, g171_145, g171_148, g171_149, g171_150, g171_153, g171_154, g171_155, g171_158, g171_159, g171_160, g171_163, g171_164, g171_165, g171_168, cont_1, cont_0, w32_k, w32_o, P84_0 hS, P84_1 hS, P84_19 hS, mrow_ne, mset_mrow, Int.toNat_natCast, i1]
    rw [rseg_f (by omega), rpre_s (g := M 85) rfl, rseg_s (g := M 86) rfl]
theorem img_2 {n r : Nat} {M : Mem} {S : Sh} (hS : Std n S) : ∀ (rem k : Nat), k + rem = 12 → go r 171 50 [some (aR 84), some (aI (k : Int))] [] (mrow M 96 (rseg 24 k (M 91) (rseg 12 k (M 90) (rpre k (M 89) (M 96))))) S = go r 171 104 [some (aR 84), some (aI 12)] [] (mrow M 96 (rseg 24 12 (M 91) (rseg 12 12 (M 90) (rpre 12 (M 89) (M 96))))) S := by
  have k84 := K84 hS
  have k89 := K89 hS
  have k90 := K90 hS
  have k91 := K91 hS
  have k96 := K96 hS
  have l89 := L89 hS
  have l90 := L90 hS
  have l91 := L91 hS
  have l96 := L96 hS
  intro rem
  induction rem with
  | zero =>
    intro k hk
    have e : k = 12 := by omega
    subst e
    rw [g171_50]
    simp (disch := omega) only [g171_0, g171_1, g171_2, g171_5, g171_6, g171_8, g171_11t, g171_11f, g171_14, g171_15, g171_18, g171_19, g171_20, g171_23, g171_24, g171_25, g171_26, g171_27, g171_30, g171_33, g171_34, g171_35, g171_36, g171_39, g171_40, g171_41, g171_42, g171_45, g171_48, g171_49, g171_51, g171_53t, g171_53f, g171_56, g171_57, g171_60, g171_61, g171_62, g171_65, g171_66, g171_67, g171_68, g171_69, g171_72, g171_74, g171_75, g171_76, g171_77, g171_80, g171_81, g171_82, g171_83, g171_84, g171_87, g171_89, g171_90, g171_91, g171_92, g171_95, g171_96, g171_97, g171_98, g171_101, g171_104, g171_105, g171_108, g171_109, g171_110, g171_113, g171_114, g171_115, g171_118, g171_119, g171_120, g171_123, g171_124, g171_125, g171_128, g171_129, g171_130, g171_133, g171_134, g171_135, g171_138, g171_139, g171_140, g171_143, g171_144, g171_145, g171_148, g171_149, g171_150, g171_153, g171_154, g171_155, g171_158, g171_159, g171_160, g171_163, g171_164, g171_165, g171_168, cont_1, cont_0, w32_k]
    all_goals rfl
  | succ rem ih =>
    intro k hk
    have z := ih (k + 1) (by omega)
    rw [nc_1] at z
    have i1 : (12 + (k : Int)).toNat = 12 + k := by omega
    have i2 : (24 + (k : Int)).toNat = 24 + k := by omega
    rw [← z, g171_50]
    simp (disch := omega) only [g171_0, g171_1, g171_2, g171_5, g171_6, g171_8, g171_11t, g171_11f, g171_14, g171_15, g171_18, g171_19, g171_20, g171_23, g171_24, g171_25, g171_26, g171_27, g171_30, g171_33, g171_34, g171_35, g171_36, g171_39, g171_40, g171_41, g171_42, g171_45, g171_48, g171_49, g171_51, g171_53t, g171_53f, g171_56, g171_57, g171_60, g171_61, g171_62, g171_65, g171_66, g171_67, g171_68, g171_69, g171_72, g171_74, g171_75, g171_76, g171_77, g171_80, g171_81, g171_82, g171_83, g171_84, g171_87, g171_89, g171_90, g171_91, g171_92, g171_95, g171_96, g171_97, g171_98, g171_101, g171_104, g171_105, g171_108, g171_109, g171_110, g171_113, g171_114, g171_115, g171_118, g171_119, g171_120, g171_123, g171_124, g171_125, g171_128, g171_129, g171_130, g171_133, g171_134, g171_135, g171_138, g171_139, g171_140, g171_143, g171_144, g171_145, g171_148, g171_149, g171_150, g171_153, g171_154, g171_155, g171_158, g171_159, g171_160, g171_163, g171_164, g171_165, g171_168, cont_1, cont_0, w32_k, w32_o, P84_8 hS, P84_10 hS, P84_11 hS, P84_20 hS, mrow_ne, mset_mrow, Int.toNat_natCast, i1, i2]
    rw [rseg_f (a := 24) (j := k) (by omega), rseg_f (a := 24) (j := 12 + k) (by omega), rseg_f (a := 12) (j := k) (by omega), rpre_s (g := M 89) rfl, rseg_s (g := M 90) rfl, rseg_s (g := M 91) rfl]
theorem bk_1 {n r : Nat} {M : Mem} {S : Sh} (hS : Std n S) : ∀ (rem k : Nat), k + rem = 192 → go r 172 12 [some (aR 84), some (aI (k : Int))] [] (mrow (mrow M 85 (rpre k (M 95) (M 85))) 86 (rpre k (fun j => M 95 (192 + j)) (M 86))) S = go r 172 53 [some (aR 84), some (aI 192)] [] (mrow (mrow M 85 (rpre 192 (M 95) (M 85))) 86 (rpre 192 (fun j => M 95 (192 + j)) (M 86))) S := by
  have k84 := K84 hS
  have k85 := K85 hS
  have k86 := K86 hS
  have k95 := K95 hS
  have l85 := L85 hS
  have l86 := L86 hS
  have l95 := L95 hS
  intro rem
  induction rem with
  | zero =>
    intro k hk
    have e : k = 192 := by omega
    subst e
    rw [g172_12]
    simp (disch := omega) only [g172_0, g172_1, g172_4t, g172_4f, g172_7, g172_9, g172_10, g172_11, g172_13, g172_16t, g172_16f, g172_19, g172_20, g172_23, g172_24, g172_25, g172_28, g172_29, g172_30, g172_31, g172_32, g172_35, g172_36, g172_37, g172_40, g172_43, g172_44, g172_45, g172_46, g172_47, g172_50, g172_53, g172_54, g172_56, g172_58t, g172_58f, g172_61, g172_62, g172_65, g172_66, g172_67, g172_70, g172_71, g172_72, g172_73, g172_74, g172_77, g172_78, g172_79, g172_82, g172_84, g172_85, g172_86, g172_87, g172_88, g172_89, g172_92, g172_93, g172_94, g172_97, g172_99, g172_100, g172_101, g172_102, g172_103, g172_106, g172_109, g172_110, g172_111, g172_114, g172_115, g172_116, g172_119, g172_120, g172_121, g172_124, g172_125, g172_126, g172_129, g172_130, g172_131, g172_134, g172_135, g172_136, g172_139, g172_140, g172_141, g172_144, g172_145, g172_146, g172_149, g172_150, g172_151, g172_154, g172_155, g172_156, g172_159, g172_160, g172_161, g172_164, g172_165, g172_166, g172_169, g172_170, g172_173, cont_1, cont_0, w32_k]
    all_goals rfl
  | succ rem ih =>
    intro k hk
    have z := ih (k + 1) (by omega)
    rw [nc_1] at z
    have i1 : (192 + (k : Int)).toNat = 192 + k := by omega
    rw [← z, g172_12]
    simp (disch := omega) only [g172_0, g172_1, g172_4t, g172_4f, g172_7, g172_9, g172_10, g172_11, g172_13, g172_16t, g172_16f, g172_19, g172_20, g172_23, g172_24, g172_25, g172_28, g172_29, g172_30, g172_31, g172_32, g172_35, g172_36, g172_37, g172_40, g172_43, g172_44, g172_45, g172_46, g172_47, g172_50, g172_53, g172_54, g172_56, g172_58t, g172_58f, g172_61, g172_62, g172_65, g172_66, g172_67, g172_70, g172_71, g172_72, g172_73, g172_74, g172_77, g172_78, g172_79, g172_82, g172_84, g172_85, g172_86, g172_87, g172_88, g172_89, g172_92, g172_93, g172_94, g172_97, g172_99, g172_100, g172_101, g172_102, g172_103, g172_106, g172_109, g172_110, g172_111, g172_114, g172_115, g172_116, g172_119, g172_120, g172_121, g172_124, g172_125, g172_126, g172_129, g172_130, g172_131, g172_134, g172_135, g172_136, g172_139, g172_140, g172_141, g172_144, g172_145, g172_146, g172_149, g172_150, g172_151, g172_154, g172_155, g172_156, g172_159, g172_160, g172_161, g172_164, g172_165, g172_166, g172_169, g172_170, g172_173, cont_1, cont_0, w32_k, w32_o, P84_0 hS, P84_1 hS, P84_19 hS, mrow_ne, mrow_eq, mset_mrow, mset_mrow_c, Int.toNat_natCast, i1]
    rw [rpre_s (g := M 95) rfl, rpre_s (g := fun j => M 95 (192 + j)) rfl]
theorem bk_2 {n r : Nat} {M : Mem} {S : Sh} (hS : Std n S) : ∀ (rem k : Nat), k + rem = 12 → go r 172 55 [some (aR 84), some (aI (k : Int))] [] (mrow (mrow (mrow M 89 (rpre k (M 96) (M 89))) 90 (rpre k (fun j => M 96 (12 + j)) (M 90))) 91 (rpre k (fun j => M 96 (24 + j)) (M 91))) S = go r 172 109 [some (aR 84), some (aI 12)] [] (mrow (mrow (mrow M 89 (rpre 12 (M 96) (M 89))) 90 (rpre 12 (fun j => M 96 (12 + j)) (M 90))) 91 (rpre 12 (fun j => M 96 (24 + j)) (M 91))) S := by
  have k84 := K84 hS
  have k89 := K89 hS
  have k90 := K90 hS
  have k91 := K91 hS
  have k96 := K96 hS
  have l89 := L89 hS
  have l90 := L90 hS
  have l91 := L91 hS
  have l96 := L96 hS
  intro rem
  induction rem with
  | zero =>
    intro k hk
    have e : k = 12 := by omega
    subst e
    rw [g172_55]
    simp (disch := omega) only [g172_0, g172_1, g172_4t, g172_4f, g172_7, g172_9, g172_10, g172_11, g172_13, g172_16t, g172_16f, g172_19, g172_20, g172_23, g172_24, g172_25, g172_28, g172_29, g172_30, g172_31, g172_32, g172_35, g172_36, g172_37, g172_40, g172_43, g172_44, g172_45, g172_46, g172_47, g172_50, g172_53, g172_54, g172_56, g172_58t, g172_58f, g172_61, g172_62, g172_65, g172_66, g172_67, g172_70, g172_71, g172_72, g172_73, g172_74, g172_77, g172_78, g172_79, g172_82, g172_84, g172_85, g172_86, g172_87, g172_88, g172_89, g172_92, g172_93, g172_94, g172_97, g172_99, g172_100, g172_101, g172_102, g172_103, g172_106, g172_109, g172_110, g172_111, g172_114, g172_115, g172_116, g172_119, g172_120, g172_121, g172_124, g172_125, g172_126, g172_129, g172_130, g172_131, g172_134, g172_135, g172_136, g172_139, g172_140, g172_141, g172_144, g172_145, g172_146, g172_149, g172_150, g172_151, g172_154, g172_155, g172_156, g172_159, g172_160, g172_161, g172_164, g172_165, g172_166, g172_169, g172_170, g172_173, cont_1, cont_0, w32_k]
    all_goals rfl
  | succ rem ih =>
    intro k hk
    have z := ih (k + 1) (by omega)
    rw [nc_1] at z
    have i1 : (12 + (k : Int)).toNat = 12 + k := by omega
    have i2 : (24 + (k : Int)).toNat = 24 + k := by omega
    rw [← z, g172_55]
    simp (disch := omega) only [g172_0, g172_1, g172_4t, g172_4f, g172_7, g172_9, g172_10, g172_11, g172_13, g172_16t, g172_16f, g172_19, g172_20, g172_23, g172_24, g172_25, g172_28, g172_29, g172_30, g172_31, g172_32, g172_35, g172_36, g172_37, g172_40, g172_43, g172_44, g172_45, g172_46, g172_47, g172_50, g172_53, g172_54, g172_56, g172_58t, g172_58f, g172_61, g172_62, g172_65, g172_66, g172_67, g172_70, g172_71, g172_72, g172_73, g172_74, g172_77, g172_78, g172_79, g172_82, g172_84, g172_85, g172_86, g172_87, g172_88, g172_89, g172_92, g172_93, g172_94, g172_97, g172_99, g172_100, g172_101, g172_102, g172_103, g172_106, g172_109, g172_110, g172_111, g172_114, g172_115, g172_116, g172_119, g172_120, g172_121, g172_124, g172_125, g172_126, g172_129, g172_130, g172_131, g172_134, g172_135, g172_136, g172_139, g172_140, g172_141, g172_144, g172_145, g172_146, g172_149, g172_150, g172_151, g172_154, g172_155, g172_156, g172_159, g172_160, g172_161, g172_164, g172_165, g172_166, g172_169, g172_170, g172_173, cont_1, cont_0, w32_k, w32_o, P84_8 hS, P84_10 hS, P84_11 hS, P84_20 hS, mrow_ne, mrow_eq, mset_mrow, mset_mrow_c, Int.toNat_natCast, i1, i2]
    rw [rpre_s (g := M 96) rfl, rpre_s (g := fun j => M 96 (12 + j)) rfl, rpre_s (g := fun j => M 96 (24 + j)) rfl]
theorem p_image {n : Nat} {sc : Nat → Int} {M : Mem} {S : Sh} (hS : Std n S) (hI : Inv sc M) : Pr (res 77 [aR 6] M S) (PQ 171 [aR 84] n S.2.2.2.1 S.2.2.2.2 sc) := by
  have k6 := K6 hS
  have k7 := K7 hS
  have k27 := K27 hS
  have k84 := K84 hS
  have k97 := K97 hS
  have l97 := L97 hS
  obtain ⟨X, fX, tX⟩ := take_27_7 hS (M := M)
  obtain ⟨x0, x1, x2, x3, x4⟩ := tX
  have rX : ∀ a, ¬ (27 ≤ a ∧ a ≤ 36) → X a = M a := x0
  have hp := hI.2.2.1.1
  obtain ⟨M1, hM1⟩ : ∃ M1, M1 = mset X 6 3 1 := ⟨_, rfl⟩
  have z1 : res 77 [aR 6] M S = some (some (aI (M 7 10)), M1, S) := by
    have e : M1 7 10 = M 7 10 := by rw [hM1, mset_ne _ _ _ (by omega), rX 7 (by omega)]
    rw [← e, hM1, g77]
    simp (disch := omega) only [g77_0, g77_1, g77_4, g77_5, g77_8, g77_11, g77_12, g77_13, g77_16, g77_17, g77_20, g77_23, cont_1, cont_0, w32_k, P6_0 hS, P6_2 hS, fX]
  have r1 : ∀ a, ¬ (27 ≤ a ∧ a ≤ 36) → a ≠ 6 → M1 a = M a := fun a h1 h2 => by
    rw [hM1, mset_ne _ _ _ h2]
    exact rX a h1
  have r16 : ∀ j, j ≠ 3 → M1 6 j = M 6 j := fun j h => by rw [hM1, mset_nk _ h, rX 6 (by omega)]
  have r163 : M1 6 3 = 1 := by rw [hM1, mset_eq]
  have rk : ∀ a, 27 ≤ a → a ≤ 36 → M1 a = X a := fun a h1 h2 => by rw [hM1, mset_ne _ _ _ (by omega)]
  clear hM1
  have za := img_1 (r := 10) (M := mset M1 84 18 1) hS 192 0 (by omega)
  rw [rseg_0, rpre_0, mrow_self] at za
  obtain ⟨Ya, hYa⟩ : ∃ Ya, Ya = mrow (mset M1 84 18 1) 95 (rseg 192 192 (mset M1 84 18 1 86) (rpre 192 (mset M1 84 18 1 85) (mset M1 84 18 1 95))) := ⟨_, rfl⟩
  rw [← hYa] at za
  have zb := img_2 (r := 10) (M := Ya) hS 12 0 (by omega)
  rw [rseg_0, rseg_0, rpre_0, mrow_self] at zb
  obtain ⟨Yb, hYb⟩ : ∃ Yb, Yb = mrow Ya 96 (rseg 24 12 (Ya 91) (rseg 12 12 (Ya 90) (rpre 12 (Ya 89) (Ya 96)))) := ⟨_, rfl⟩
  rw [← hYb] at zb
  have ya : ∀ a, a ≠ 84 → a ≠ 95 → Ya a = M1 a := fun a h1 h2 => by
    rw [hYa, mrow_ne _ _ h2, mset_ne _ _ _ h1]
  have ya84 : ∀ j, j ≠ 18 → Ya 84 j = M1 84 j := fun j h => by rw [hYa, mrow_ne _ _ (by omega), mset_nk _ h]
  have ya8418 : Ya 84 18 = 1 := by rw [hYa, mrow_ne _ _ (by omega), mset_eq]
  have ya95 : Ya 95 = rseg 192 192 (M1 86) (rpre 192 (M1 85) (M1 95)) := by
    rw [hYa, mrow_eq, mset_ne _ _ _ (by omega), mset_ne _ _ _ (by omega), mset_ne _ _ _ (by omega)]
  clear hYa
  have yb : ∀ a, a ≠ 84 → a ≠ 95 → a ≠ 96 → Yb a = M1 a := fun a h1 h2 h3 => by
    rw [hYb, mrow_ne _ _ h3]
    exact ya a h1 h2
  have yb84 : Yb 84 = Ya 84 := by rw [hYb, mrow_ne _ _ (by omega)]
  have yb95 : Yb 95 = rseg 192 192 (M1 86) (rpre 192 (M1 85) (M1 95)) := by rw [hYb, mrow_ne _ _ (by omega)]; exact ya95
  have yb96 : Yb 96 = rseg 24 12 (M1 91) (rseg 12 12 (M1 90) (rpre 12 (M1 89) (M1 96))) := by
    rw [hYb, mrow_eq, ya 91 (by omega) (by omega), ya 90 (by omega) (by omega), ya 89 (by omega) (by omega), ya 96 (by omega) (by omega)]
  clear hYb
  obtain ⟨M2, hM2⟩ : ∃ M2, M2 = mset (mset (mset (mset (mset (mset Yb 97 0 (Yb 84 5)) 97 1 (Yb 84 9)) 97 2 (Yb 84 2)) 97 3 (Yb 84 3)) 97 4 (Yb 84 4)) 97 5 (Yb 84 17) := ⟨_, rfl⟩
  have z2 : res 171 [aR 84] M1 S = some (some (aI (Yb 84 5)), M2, S) := by
    rw [hM2, g171]
    simp (disch := omega) only [g171_0, g171_1, g171_2, g171_5, g171_6, g171_8, g171_11t, g171_11f, g171_14, g171_15, g171_18, g171_19, g171_20, g171_23, g171_24, g171_25, g171_26, g171_27, g171_30, g171_33, g171_34, g171_35, g171_36, g171_39, g171_40, g171_41, g171_42, g171_45, g171_48, g171_49, g171_51, g171_53t, g171_53f, g171_56, g171_57, g171_60, g171_61, g171_62, g171_65, g171_66, g171_67, g171_68, g171_69, g171_72, g171_74, g171_75, g171_76, g171_77, g171_80, g171_81, g171_82, g171_83, g171_84, g171_87, g171_89, g171_90, g171_91, g171_92, g171_95, g171_96, g171_97, g171_98, g171_101, g171_104, g171_105, g171_108, g171_109, g171_110, g171_113, g171_114, g171_115, g171_118, g171_119, g171_120, g171_123, g171_124, g171_125, g171_128, g171_129, g171_130, g171_133, g171_134, g171_135, g171_138, g171_139, g171_140, g171_143, g171_144, g171_145, g171_148, g171_149, g171_150, g171_153, g171_154, g171_155, g171_158, g171_159, g171_160, g171_163, g171_164, g171_165, g171_168, cont_1, cont_0, w32_k]
    refine Eq.trans za ?_
    simp (disch := omega) only [g171_0, g171_1, g171_2, g171_5, g171_6, g171_8, g171_11t, g171_11f, g171_14, g171_15, g171_18, g171_19, g171_20, g171_23, g171_24, g171_25, g171_26, g171_27, g171_30, g171_33, g171_34, g171_35, g171_36, g171_39, g171_40, g171_41, g171_42, g171_45, g171_48, g171_49, g171_51, g171_53t, g171_53f, g171_56, g171_57, g171_60, g171_61, g171_62, g171_65, g171_66, g171_67, g171_68, g171_69, g171_72, g171_74, g171_75, g171_76, g171_77, g171_80, g171_81, g171_82, g171_83, g171_84, g171_87, g171_89, g171_90, g171_91, g171_92, g171_95, g171_96, g171_97, g171_98, g171_101, g171_104, g171_105, g171_108, g171_109, g171_110, g171_113, g171_114, g171_115, g171_118, g171_119, g171_120, g171_123, g171_124, g171_125, g171_128, g171_129, g171_130, g171_133, g171_134, g171_135, g171_138, g171_139, g171_140, g171_143, g171_144, g171_145, g171_148, g171_149, g171_150, g171_153, g171_154, g171_155, g171_158, g171_159, g171_160, g171_163, g171_164, g171_165, g171_168, cont_1, cont_0, w32_k]
    refine Eq.trans zb ?_
    simp (disch := omega) only [g171_0, g171_1, g171_2, g171_5, g171_6, g171_8, g171_11t, g171_11f, g171_14, g171_15, g171_18, g171_19, g171_20, g171_23, g171_24, g171_25, g171_26, g171_27, g171_30, g171_33, g171_34, g171_35, g171_36, g171_39, g171_40, g171_41, g171_42, g171_45, g171_48, g171_49, g171_51, g171_53t, g171_53f, g171_56, g171_57, g171_60, g171_61, g171_62, g171_65, g171_66, g171_67, g171_68, g171_69, g171_72, g171_74, g171_75, g171_76, g171_77, g171_80, g171_81, g171_82, g171_83, g171_84, g171_87, g171_89, g171_90, g171_91, g171_92, g171_95, g171_96, g171_97, g171_98, g171_101, g171_104, g171_105, g171_108, g171_109, g171_110, g171_113, g171_114, g171_115, g171_118, g171_119, g171_120, g171_123, g171_124, g171_125, g171_128, g171_129, g171_130, g171_133, g171_134, g171_135, g171_138, g171_139, g171_140, g171_143, g171_144, g171_145, g171_148, g171_149, g171_150, g171_153, g171_154, g171_155, g171_158, g171_159, g171_160, g171_163, g171_164, g171_165, g171_168, cont_1, cont_0, w32_k, P84_21 hS, mset_ne, n0, n1, n2, n3, n4, n5]
  have e5 : Yb 84 5 = M 7 10 := by rw [yb84, ya84 5 (by omega), r1 84 (by omega) (by omega)]; exact hp
  rw [e5] at z2
  have q84 : ∀ j, j ≠ 18 → Yb 84 j = M 84 j := fun j h => by rw [yb84, ya84 j h, r1 84 (by omega) (by omega)]
  have t : ∀ a, ¬ (27 ≤ a ∧ a ≤ 36) → a ≠ 6 → a ≠ 84 → ¬ (95 ≤ a ∧ a ≤ 97) → M2 a = M a := fun a h1 h2 h3 h4 => by
    rw [hM2]
    simp (disch := omega) only [mset_ne]
    rw [yb a h3 (by omega) (by omega)]
    exact r1 a h1 h2
  have t6 : M2 6 = M1 6 := by
    rw [hM2]
    simp (disch := omega) only [mset_ne]
    exact yb 6 (by omega) (by omega) (by omega)
  have t84' : M2 84 = Yb 84 := by
    rw [hM2]
    simp (disch := omega) only [mset_ne]
  have t27 : ∀ a, 27 ≤ a → a ≤ 36 → M2 a = X a := fun a h1 h2 => by
    rw [hM2]
    simp (disch := omega) only [mset_ne]
    rw [yb a (by omega) (by omega) (by omega)]
    exact rk a h1 h2
  have t95 : M2 95 = Yb 95 := by
    rw [hM2]
    simp (disch := omega) only [mset_ne]
  have t96 : M2 96 = Yb 96 := by
    rw [hM2]
    simp (disch := omega) only [mset_ne]
  have t97 : M2 97 0 = M 84 5 ∧ M2 97 1 = M 84 9 ∧ M2 97 2 = M 84 2 ∧ M2 97 3 = M 84 3 ∧ M2 97 4 = M 84 4 ∧ M2 97 5 = M 84 17 := by
    rw [← q84 5 (by omega), ← q84 9 (by omega), ← q84 2 (by omega), ← q84 3 (by omega), ← q84 4 (by omega), ← q84 17 (by omega), hM2]
    refine ⟨?_, ?_, ?_, ?_, ?_, ?_⟩
    all_goals simp (disch := omega) only [mset_eq, mset_ne, mset_nk]
  clear hM2
  refine PQ_mk (v := aI (M 7 10)) (M1 := M1) (M2 := M2) z1 z2 ?_ hS
  obtain ⟨hLand, hStr, hPla, hNow, hTap, hImg, hShe, hCst, hLaw⟩ := hI
  have T : ∀ a, (¬ (27 ≤ a ∧ a ≤ 36) ∧ a ≠ 6 ∧ a ≠ 84 ∧ ¬ (95 ≤ a ∧ a ≤ 97)) → M2 a = M a := fun a h => t a h.1 h.2.1 h.2.2.1 h.2.2.2
  have t84 : ∀ j, j ≠ 18 → M2 84 j = M 84 j := fun j h => by rw [t84']; exact q84 j h
  have t6j : ∀ j, j ≠ 3 → M2 6 j = M 6 j := fun j h => by rw [t6]; exact r16 j h
  refine ⟨fr_Land (T 8 (by omega)) (T 9 (by omega)) (T 85 (by omega)) (T 86 (by omega)) hLand, fr_Str (T 10 (by omega)) (T 11 (by omega)) (T 90 (by omega)) (T 91 (by omega)) (by rw [T 7 (by omega)]) (t84 9 (by omega)) hStr, fr_Pla (T 12 (by omega)) (T 13 (by omega)) (T 14 (by omega)) (T 15 (by omega)) (T 16 (by omega)) (T 87 (by omega)) (T 88 (by omega)) (T 89 (by omega)) (by rw [T 7 (by omega)]) (t84 5 (by omega)) hPla, fr_Now (by rw [T 7 (by omega)]) (by rw [T 7 (by omega)]) (by rw [T 7 (by omega)]) (by rw [T 7 (by omega)]) (by rw [T 7 (by omega)]) (t84 2 (by omega)) (t84 3 (by omega)) (t84 4 (by omega)) (t84 17 (by omega)) (t6j 5 (by omega)) hNow, fr_Tap (T 38 (by omega)) (T 92 (by omega)) (t84 13 (by omega)) (t84 16 (by omega)) (t6j 5 (by omega)) (t6j 7 (by omega)) hTap, ?_, fr_She hShe (fun a ha => T a (by omega)), fr_Cst (T 0 (by omega)) (T 1 (by omega)) (T 2 (by omega)) (T 5 (by omega)) (T 102 (by omega)) (t84 43 (by omega)) hCst, fr_Law hLaw hTap.2.2.1 (t6j 5 (by omega)) (fun a ha => T a (by omega))⟩
  refine ⟨?_, ?_, fun _ => ⟨fun k hk => ?_, ?_, ?_, ?_, fun k hk => ?_, ?_, ?_, ?_, fun k hk => ?_, ?_⟩⟩
  · rw [t84', yb84, ya8418, t6, r163]
  · rw [t6, r163]; omega
  · obtain ⟨e1, e2, e3, e4, e5, e6⟩ := hLand k hk
    obtain ⟨g1, g2⟩ := x1 k hk
    have e28 : M2 28 k = M 8 k := by rw [t27 28 (by omega) (by omega)]; exact g1
    have e29 : M2 29 k = M 9 k := by rw [t27 29 (by omega) (by omega)]; exact g2
    have e95 : M2 95 k = M 85 k := by rw [t95, yb95, rseg_out (by omega), rpre_lt hk, r1 85 (by omega) (by omega)]
    have e95b : M2 95 (192 + k) = M 86 k := by rw [t95, yb95, rseg_in hk, r1 86 (by omega) (by omega)]
    rw [e28, e29, e95, e95b]
    exact ⟨e1, e2, e3, e4, e5, e6⟩
  · rw [t97.2.1, t27 27 (by omega) (by omega), x4.1]
    exact hStr.1
  · rw [t27 27 (by omega) (by omega), x4.1]
    exact hStr.2.1
  · rw [t27 27 (by omega) (by omega), x4.1]
    exact hStr.2.2.1
  · rw [t27 27 (by omega) (by omega), x4.1] at hk
    have q3 := hStr.2.2.1
    obtain ⟨g1, g2⟩ := x2 k (by omega)
    have e30 : M2 30 k = M 10 k := by rw [t27 30 (by omega) (by omega)]; exact g1
    have e31 : M2 31 k = M 11 k := by rw [t27 31 (by omega) (by omega)]; exact g2
    have e96 : M2 96 (12 + k) = M 90 k := by rw [t96, yb96, rseg_out (by omega), rseg_in (by omega), r1 90 (by omega) (by omega)]
    have e96b : M2 96 (24 + k) = M 91 k := by rw [t96, yb96, rseg_in (by omega), r1 91 (by omega) (by omega)]
    rw [e30, e31, e96, e96b]
    exact hStr.2.2.2 k hk
  · rw [t97.1, t27 27 (by omega) (by omega), x4.2.1]
    exact hPla.1
  · rw [t27 27 (by omega) (by omega), x4.2.1]
    exact hPla.2.1
  · rw [t27 27 (by omega) (by omega), x4.2.1, T 7 (by omega)]
    exact Int.le_refl _
  · rw [t27 27 (by omega) (by omega), x4.2.1] at hk
    have q3 := hPla.2.2.1
    obtain ⟨g1, g2, g3, g4, g5⟩ := x3 k (by omega)
    obtain ⟨v0, v1, v2, v3, v4, u0, u1, u2, u3, u4⟩ := hPla.2.2.2 k hk
    have e32 : M2 32 k = M 12 k := by rw [t27 32 (by omega) (by omega)]; exact g1
    have e33 : M2 33 k = M 13 k := by rw [t27 33 (by omega) (by omega)]; exact g2
    have e34 : M2 34 k = M 14 k := by rw [t27 34 (by omega) (by omega)]; exact g3
    have e35 : M2 35 k = M 15 k := by rw [t27 35 (by omega) (by omega)]; exact g4
    have e36 : M2 36 k = M 16 k := by rw [t27 36 (by omega) (by omega)]; exact g5
    have e96 : ∀ j, j < 12 → M2 96 j = M 89 j := fun j hj => by rw [t96, yb96, rseg_out (by omega), rseg_out (by omega), rpre_lt hj, r1 89 (by omega) (by omega)]
    rw [e32, e33, e34, e35, e36, e96 _ (by omega), e96 _ (by omega), e96 _ (by omega), T 12 (by omega), T 13 (by omega)]
    exact ⟨rfl, rfl, v2, v3, v4, u4⟩
  · obtain ⟨e1, e2, e3, e4, e5, e6, e7, e8, e9, e10, e11, e12⟩ := hNow
    have f10 := x4.2.1
    obtain ⟨_, _, f11, f12, f13, f14⟩ := x4
    obtain ⟨h0, h1, h2, h3, h4, h5⟩ := t97
    rw [h2, h3, h4, h5, t27 27 (by omega) (by omega), f11, f12, f13, f14, f10, t6, r16 5 (by omega)]
    exact ⟨e1, e2, e3, e4, e5, e6, e7, e8, e9, e10, e11, e12⟩
