/-- the flight of now by both, one behind the other -/
def Two (n : Nat) (sc : Nat → Int) (M M1 M2 : Mem) (S : Sh) : Prop := res 90 [aR 6] M S = some (none, M1, S) ∧ AfC M (flC M 7) M1 ∧ Inv sc M1 ∧ (∀ k, k < 192 → mskF (M1 9) (M1 41) k = mskF (M 9) (flC M 7).1.1 k) ∧ res 146 [aR 84] M1 S = some (some (aI ((cnt (mskF (M 9) (flC M 7).1.1) 1 192 : Nat) : Int)), M2, S) ∧ AfM M1 (flC M 7) M2 ∧ Inv sc M2 ∧ (∀ k, k < 192 → M2 106 k = mskF (M 9) (flC M 7).1.1 k)
theorem two_fl {n : Nat} {sc : Nat → Int} {M : Mem} {S : Sh} (hS : Std n S) (hI : Inv sc M) : ∃ M1 M2, Two n sc M M1 M2 S := by
  obtain ⟨M1, f1, a1⟩ := flyN hS hI
  have fr1 := FrT_C a1.1
  have hI1 := Inv_frC hI fr1
  obtain ⟨M2, f2, a2⟩ := flyM hS hI1
  have r9 : M1 9 = M 9 := fr1 9 (by unfold scrC; omega)
  rw [flC_fr fr1, r9] at f2
  rw [flC_fr fr1] at a2
  refine ⟨M1, M2, f1, a1, hI1, fun k hk => ?_, f2, a2, Inv_frM hI1 (FrN_M a2.1), fun k hk => ?_⟩
  · unfold mskF
    rw [r9, a1.2.1 k hk]
  · rw [a2.2.1 k hk, msk_eq hI1 k hk, r9]
theorem p_flight {x1 : Int} {n : Nat} {sc : Nat → Int} {M : Mem} {S : Sh} (hS : Std n S) (hI : Inv sc M) : Pr (res 59 [aR 6, aI x1] M S) (PQ 148 [aR 84, aI x1] n S.2.2.2.1 S.2.2.2.2 sc) := by
  have k6 := K6 hS
  have k7 := K7 hS
  have k9 := K9 hS
  have k40 := K40 hS
  have k41 := K41 hS
  have k84 := K84 hS
  have k106 := K106 hS
  have l9 := L9 hS
  have l41 := L41 hS
  have l106 := L106 hS
  rcases (by omega : x1 = 0 ∨ x1 = 1 ∨ x1 = 2 ∨ x1 = 3 ∨ x1 = 4 ∨ x1 = 5 ∨ x1 = 6 ∨ (x1 < 0 ∨ 6 < x1)) with rfl | rfl | rfl | rfl | rfl | rfl | rfl | hx
  · obtain ⟨M1, M2, f1, a1, hI1, o1, f2, a2, hI2, o2⟩ := two_fl hS hI
    obtain ⟨fr, _, e1, e2, e3, e4⟩ := a1
    obtain ⟨gr, _, d1, d2, d3, d4⟩ := a2
    have c1 : ∀ many, cnt (mskF (M1 9) (M1 41)) many 192 = cnt (mskF (M 9) (flC M 7).1.1) many 192 := fun many => cnt_ext o1
    have c2 : ∀ many, cnt (M2 106) many 192 = cnt (mskF (M 9) (flC M 7).1.1) many 192 := fun many => cnt_ext o2
    refine PQ_mk (v := aI (((cnt (mskF (M 9) (flC M 7).1.1) 1 192 : Nat) : Int))) (M1 := M1) (M2 := M2) ?_ ?_ hI2 hS
    · rw [g59]
      simp (disch := omega) only [g59_0, g59_1t, g59_1f, g59_4, g59_5, g59_7t, g59_7f, g59_10, g59_12, g59_13, g59_14, g59_17, g59_18c0, g59_18c1, g59_18c2, g59_18c3, g59_18c4, g59_18c5, g59_18d, g59_56, g59_57, g59_60, g59_61, g59_64, g59_67, g59_68, g59_71, g59_72, g59_73, g59_76, g59_77, g59_80, g59_83, g59_84, g59_87, g59_88, g59_91, g59_92, g59_95, g59_96, g59_99, g59_102, g59_103, g59_106, g59_107, g59_108, g59_109, g59_112, g59_115, g59_116, g59_117, g59_120, g59_123, g59_124, g59_125, g59_128, g59_131, g59_132, g59_133, g59_136, g59_139, cont_1, cont_0, P6_0 hS, P6_9 hS, P7_1 hS, f1, cov_ hS k9 l9, c1, e1, e2, e3, e4]
    · rw [g148]
      simp (disch := omega) only [g148_0, g148_1, g148_2, g148_4, g148_7t, g148_7f, g148_10, g148_12, g148_13, g148_14, g148_17, g148_18, g148_19c0, g148_19c1, g148_19c2, g148_19c3, g148_19c4, g148_19c5, g148_19d, g148_56, g148_57, g148_58, g148_59, g148_60, g148_63, g148_64, g148_67, g148_68, g148_69, g148_70, g148_71, g148_74, g148_75, g148_76, g148_79, g148_80, g148_81, g148_84, g148_85, g148_86, g148_89, cont_1, cont_0, in_t, in_f, f2, d1, d2, d3, d4, atLeast_ hS, c2]
  · obtain ⟨M1, M2, f1, a1, hI1, o1, f2, a2, hI2, o2⟩ := two_fl hS hI
    obtain ⟨fr, _, e1, e2, e3, e4⟩ := a1
    obtain ⟨gr, _, d1, d2, d3, d4⟩ := a2
    have c1 : ∀ many, cnt (mskF (M1 9) (M1 41)) many 192 = cnt (mskF (M 9) (flC M 7).1.1) many 192 := fun many => cnt_ext o1
    have c2 : ∀ many, cnt (M2 106) many 192 = cnt (mskF (M 9) (flC M 7).1.1) many 192 := fun many => cnt_ext o2
    refine PQ_mk (v := aI (((cnt (mskF (M 9) (flC M 7).1.1) 2 192 : Nat) : Int))) (M1 := M1) (M2 := M2) ?_ ?_ hI2 hS
    · rw [g59]
      simp (disch := omega) only [g59_0, g59_1t, g59_1f, g59_4, g59_5, g59_7t, g59_7f, g59_10, g59_12, g59_13, g59_14, g59_17, g59_18c0, g59_18c1, g59_18c2, g59_18c3, g59_18c4, g59_18c5, g59_18d, g59_56, g59_57, g59_60, g59_61, g59_64, g59_67, g59_68, g59_71, g59_72, g59_73, g59_76, g59_77, g59_80, g59_83, g59_84, g59_87, g59_88, g59_91, g59_92, g59_95, g59_96, g59_99, g59_102, g59_103, g59_106, g59_107, g59_108, g59_109, g59_112, g59_115, g59_116, g59_117, g59_120, g59_123, g59_124, g59_125, g59_128, g59_131, g59_132, g59_133, g59_136, g59_139, cont_1, cont_0, P6_0 hS, P6_9 hS, P7_1 hS, f1, cov_ hS k9 l9, c1, e1, e2, e3, e4]
    · rw [g148]
      simp (disch := omega) only [g148_0, g148_1, g148_2, g148_4, g148_7t, g148_7f, g148_10, g148_12, g148_13, g148_14, g148_17, g148_18, g148_19c0, g148_19c1, g148_19c2, g148_19c3, g148_19c4, g148_19c5, g148_19d, g148_56, g148_57, g148_58, g148_59, g148_60, g148_63, g148_64, g148_67, g148_68, g148_69, g148_70, g148_71, g148_74, g148_75, g148_76, g148_79, g148_80, g148_81, g148_84, g148_85, g148_86, g148_89, cont_1, cont_0, in_t, in_f, f2, d1, d2, d3, d4, atLeast_ hS, c2]
  · obtain ⟨M1, M2, f1, a1, hI1, o1, f2, a2, hI2, o2⟩ := two_fl hS hI
    obtain ⟨fr, _, e1, e2, e3, e4⟩ := a1
    obtain ⟨gr, _, d1, d2, d3, d4⟩ := a2
    have c1 : ∀ many, cnt (mskF (M1 9) (M1 41)) many 192 = cnt (mskF (M 9) (flC M 7).1.1) many 192 := fun many => cnt_ext o1
    have c2 : ∀ many, cnt (M2 106) many 192 = cnt (mskF (M 9) (flC M 7).1.1) many 192 := fun many => cnt_ext o2
    refine PQ_mk (v := aI (w32 (192 - ((cnt (mskF (M 9) (flC M 7).1.1) 1 192 : Nat) : Int)))) (M1 := M1) (M2 := M2) ?_ ?_ hI2 hS
    · rw [g59]
      simp (disch := omega) only [g59_0, g59_1t, g59_1f, g59_4, g59_5, g59_7t, g59_7f, g59_10, g59_12, g59_13, g59_14, g59_17, g59_18c0, g59_18c1, g59_18c2, g59_18c3, g59_18c4, g59_18c5, g59_18d, g59_56, g59_57, g59_60, g59_61, g59_64, g59_67, g59_68, g59_71, g59_72, g59_73, g59_76, g59_77, g59_80, g59_83, g59_84, g59_87, g59_88, g59_91, g59_92, g59_95, g59_96, g59_99, g59_102, g59_103, g59_106, g59_107, g59_108, g59_109, g59_112, g59_115, g59_116, g59_117, g59_120, g59_123, g59_124, g59_125, g59_128, g59_131, g59_132, g59_133, g59_136, g59_139, cont_1, cont_0, P6_0 hS, P6_9 hS, P7_1 hS, f1, cov_ hS k9 l9, c1, e1, e2, e3, e4]
    · rw [g148]
      simp (disch := omega) only [g148_0, g148_1, g148_2, g148_4, g148_7t, g148_7f, g148_10, g148_12, g148_13, g148_14, g148_17, g148_18, g148_19c0, g148_19c1, g148_19c2, g148_19c3, g148_19c4, g148_19c5, g148_19d, g148_56, g148_57, g148_58, g148_59, g148_60, g148_63, g148_64, g148_67, g148_68, g148_69, g148_70, g148_71, g148_74, g148_75, g148_76, g148_79, g148_80, g148_81, g148_84, g148_85, g148_86, g148_89, cont_1, cont_0, in_t, in_f, f2, d1, d2, d3, d4, atLeast_ hS, c2]
  · obtain ⟨M1, M2, f1, a1, hI1, o1, f2, a2, hI2, o2⟩ := two_fl hS hI
    obtain ⟨fr, _, e1, e2, e3, e4⟩ := a1
    obtain ⟨gr, _, d1, d2, d3, d4⟩ := a2
    have c1 : ∀ many, cnt (mskF (M1 9) (M1 41)) many 192 = cnt (mskF (M 9) (flC M 7).1.1) many 192 := fun many => cnt_ext o1
    have c2 : ∀ many, cnt (M2 106) many 192 = cnt (mskF (M 9) (flC M 7).1.1) many 192 := fun many => cnt_ext o2
    refine PQ_mk (v := aI ((flC M 7).1.2.1)) (M1 := M1) (M2 := M2) ?_ ?_ hI2 hS
    · rw [g59]
      simp (disch := omega) only [g59_0, g59_1t, g59_1f, g59_4, g59_5, g59_7t, g59_7f, g59_10, g59_12, g59_13, g59_14, g59_17, g59_18c0, g59_18c1, g59_18c2, g59_18c3, g59_18c4, g59_18c5, g59_18d, g59_56, g59_57, g59_60, g59_61, g59_64, g59_67, g59_68, g59_71, g59_72, g59_73, g59_76, g59_77, g59_80, g59_83, g59_84, g59_87, g59_88, g59_91, g59_92, g59_95, g59_96, g59_99, g59_102, g59_103, g59_106, g59_107, g59_108, g59_109, g59_112, g59_115, g59_116, g59_117, g59_120, g59_123, g59_124, g59_125, g59_128, g59_131, g59_132, g59_133, g59_136, g59_139, cont_1, cont_0, P6_0 hS, P6_9 hS, P7_1 hS, f1, cov_ hS k9 l9, c1, e1, e2, e3, e4]
    · rw [g148]
      simp (disch := omega) only [g148_0, g148_1, g148_2, g148_4, g148_7t, g148_7f, g148_10, g148_12, g148_13, g148_14, g148_17, g148_18, g148_19c0, g148_19c1, g148_19c2, g148_19c3, g148_19c4, g148_19c5, g148_19d, g148_56, g148_57, g148_58, g148_59, g148_60, g148_63, g148_64, g148_67, g148_68, g148_69, g148_70, g148_71, g148_74, g148_75, g148_76, g148_79, g148_80, g148_81, g148_84, g148_85, g148_86, g148_89, cont_1, cont_0, in_t, in_f, f2, d1, d2, d3, d4, atLeast_ hS, c2]
  · obtain ⟨M1, M2, f1, a1, hI1, o1, f2, a2, hI2, o2⟩ := two_fl hS hI
    obtain ⟨fr, _, e1, e2, e3, e4⟩ := a1
    obtain ⟨gr, _, d1, d2, d3, d4⟩ := a2
    have c1 : ∀ many, cnt (mskF (M1 9) (M1 41)) many 192 = cnt (mskF (M 9) (flC M 7).1.1) many 192 := fun many => cnt_ext o1
    have c2 : ∀ many, cnt (M2 106) many 192 = cnt (mskF (M 9) (flC M 7).1.1) many 192 := fun many => cnt_ext o2
    refine PQ_mk (v := aI ((flC M 7).1.2.2.1)) (M1 := M1) (M2 := M2) ?_ ?_ hI2 hS
    · rw [g59]
      simp (disch := omega) only [g59_0, g59_1t, g59_1f, g59_4, g59_5, g59_7t, g59_7f, g59_10, g59_12, g59_13, g59_14, g59_17, g59_18c0, g59_18c1, g59_18c2, g59_18c3, g59_18c4, g59_18c5, g59_18d, g59_56, g59_57, g59_60, g59_61, g59_64, g59_67, g59_68, g59_71, g59_72, g59_73, g59_76, g59_77, g59_80, g59_83, g59_84, g59_87, g59_88, g59_91, g59_92, g59_95, g59_96, g59_99, g59_102, g59_103, g59_106, g59_107, g59_108, g59_109, g59_112, g59_115, g59_116, g59_117, g59_120, g59_123, g59_124, g59_125, g59_128, g59_131, g59_132, g59_133, g59_136, g59_139, cont_1, cont_0, P6_0 hS, P6_9 hS, P7_1 hS, f1, cov_ hS k9 l9, c1, e1, e2, e3, e4]
    · rw [g148]
      simp (disch := omega) only [g148_0, g148_1, g148_2, g148_4, g148_7t, g148_7f, g148_10, g148_12, g148_13, g148_14, g148_17, g148_18, g148_19c0, g148_19c1, g148_19c2, g148_19c3, g148_19c4, g148_19c5, g148_19d, g148_56, g148_57, g148_58, g148_59, g148_60, g148_63, g148_64, g148_67, g148_68, g148_69, g148_70, g148_71, g148_74, g148_75, g148_76, g148_79, g148_80, g148_81, g148_84, g148_85, g148_86, g148_89, cont_1, cont_0, in_t, in_f, f2, d1, d2, d3, d4, atLeast_ hS, c2]
  · obtain ⟨M1, M2, f1, a1, hI1, o1, f2, a2, hI2, o2⟩ := two_fl hS hI
    obtain ⟨fr, _, e1, e2, e3, e4⟩ := a1
    obtain ⟨gr, _, d1, d2, d3, d4⟩ := a2
    have c1 : ∀ many, cnt (mskF (M1 9) (M1 41)) many 192 = cnt (mskF (M 9) (flC M 7).1.1) many 192 := fun many => cnt_ext o1
    have c2 : ∀ many, cnt (M2 106) many 192 = cnt (mskF (M 9) (flC M 7).1.1) many 192 := fun many => cnt_ext o2
    refine PQ_mk (v := aI ((flC M 7).1.2.2.2)) (M1 := M1) (M2 := M2) ?_ ?_ hI2 hS
    · rw [g59]
      simp (disch := omega) only [g59_0, g59_1t, g59_1f, g59_4, g59_5, g59_7t, g59_7f, g59_10, g59_12, g59_13, g59_14, g59_17, g59_18c0, g59_18c1, g59_18c2, g59_18c3, g59_18c4, g59_18c5, g59_18d, g59_56, g59_57, g59_60, g59_61, g59_64, g59_67, g59_68, g59_71, g59_72, g59_73, g59_76, g59_77, g59_80, g59_83, g59_84, g59_87, g59_88, g59_91, g59_92, g59_95, g59_96, g59_99, g59_102, g59_103, g59_106, g59_107, g59_108, g59_109, g59_112, g59_115, g59_116, g59_117, g59_120, g59_123, g59_124, g59_125, g59_128, g59_131, g59_132, g59_133, g59_136, g59_139, cont_1, cont_0, P6_0 hS, P6_9 hS, P7_1 hS, f1, cov_ hS k9 l9, c1, e1, e2, e3, e4]
    · rw [g148]
      simp (disch := omega) only [g148_0, g148_1, g148_2, g148_4, g148_7t, g148_7f, g148_10, g148_12, g148_13, g148_14, g148_17, g148_18, g148_19c0, g148_19c1, g148_19c2, g148_19c3, g148_19c4, g148_19c5, g148_19d, g148_56, g148_57, g148_58, g148_59, g148_60, g148_63, g148_64, g148_67, g148_68, g148_69, g148_70, g148_71, g148_74, g148_75, g148_76, g148_79, g148_80, g148_81, g148_84, g148_85, g148_86, g148_89, cont_1, cont_0, in_t, in_f, f2, d1, d2, d3, d4, atLeast_ hS, c2]
  · obtain ⟨M1, M2, f1, a1, hI1, o1, f2, a2, hI2, o2⟩ := two_fl hS hI
    obtain ⟨fr, _, e1, e2, e3, e4⟩ := a1
    obtain ⟨gr, _, d1, d2, d3, d4⟩ := a2
    have c1 : ∀ many, cnt (mskF (M1 9) (M1 41)) many 192 = cnt (mskF (M 9) (flC M 7).1.1) many 192 := fun many => cnt_ext o1
    have c2 : ∀ many, cnt (M2 106) many 192 = cnt (mskF (M 9) (flC M 7).1.1) many 192 := fun many => cnt_ext o2
    refine PQ_mk (v := aI ((flC M 7).2)) (M1 := M1) (M2 := M2) ?_ ?_ hI2 hS
    · rw [g59]
      simp (disch := omega) only [g59_0, g59_1t, g59_1f, g59_4, g59_5, g59_7t, g59_7f, g59_10, g59_12, g59_13, g59_14, g59_17, g59_18c0, g59_18c1, g59_18c2, g59_18c3, g59_18c4, g59_18c5, g59_18d, g59_56, g59_57, g59_60, g59_61, g59_64, g59_67, g59_68, g59_71, g59_72, g59_73, g59_76, g59_77, g59_80, g59_83, g59_84, g59_87, g59_88, g59_91, g59_92, g59_95, g59_96, g59_99, g59_102, g59_103, g59_106, g59_107, g59_108, g59_109, g59_112, g59_115, g59_116, g59_117, g59_120, g59_123, g59_124, g59_125, g59_128, g59_131, g59_132, g59_133, g59_136, g59_139, cont_1, cont_0, P6_0 hS, P6_9 hS, P7_1 hS, f1, cov_ hS k9 l9, c1, e1, e2, e3, e4]
    · rw [g148]
      simp (disch := omega) only [g148_0, g148_1, g148_2, g148_4, g148_7t, g148_7f, g148_10, g148_12, g148_13, g148_14, g148_17, g148_18, g148_19c0, g148_19c1, g148_19c2, g148_19c3, g148_19c4, g148_19c5, g148_19d, g148_56, g148_57, g148_58, g148_59, g148_60, g148_63, g148_64, g148_67, g148_68, g148_69, g148_70, g148_71, g148_74, g148_75, g148_76, g148_79, g148_80, g148_81, g148_84, g148_85, g148_86, g148_89, cont_1, cont_0, in_t, in_f, f2, d1, d2, d3, d4, atLeast_ hS, c2]
  · refine PQ_mk (v := aI (-2)) (M1 := M) (M2 := M) ?_ ?_ hI hS
    · rw [g59]
      rcases hx with hx | hx
      all_goals simp (disch := omega) only [g59_0, g59_1t, g59_1f, g59_4, g59_5, g59_7t, g59_7f, g59_10, g59_12, g59_13, g59_14, g59_17, g59_18c0, g59_18c1, g59_18c2, g59_18c3, g59_18c4, g59_18c5, g59_18d, g59_56, g59_57, g59_60, g59_61, g59_64, g59_67, g59_68, g59_71, g59_72, g59_73, g59_76, g59_77, g59_80, g59_83, g59_84, g59_87, g59_88, g59_91, g59_92, g59_95, g59_96, g59_99, g59_102, g59_103, g59_106, g59_107, g59_108, g59_109, g59_112, g59_115, g59_116, g59_117, g59_120, g59_123, g59_124, g59_125, g59_128, g59_131, g59_132, g59_133, g59_136, g59_139, cont_1, cont_0, w32_o]
    · rw [g148]
      simp (disch := omega) only [g148_0, g148_1, g148_2, g148_4, g148_7t, g148_7f, g148_10, g148_12, g148_13, g148_14, g148_17, g148_18, g148_19c0, g148_19c1, g148_19c2, g148_19c3, g148_19c4, g148_19c5, g148_19d, g148_56, g148_57, g148_58, g148_59, g148_60, g148_63, g148_64, g148_67, g148_68, g148_69, g148_70, g148_71, g148_74, g148_75, g148_76, g148_79, g148_80, g148_81, g148_84, g148_85, g148_86, g148_89, cont_1, cont_0, w32_o, in_f]
theorem p_seen {x1 : Int} {n : Nat} {sc : Nat → Int} {M : Mem} {S : Sh} (hS : Std n S) (hI : Inv sc M) : Pr (res 60 [aR 6, aI x1] M S) (PQ 149 [aR 84, aI x1] n S.2.2.2.1 S.2.2.2.2 sc) := by
  have k6 := K6 hS
  have k7 := K7 hS
  have k9 := K9 hS
  have k40 := K40 hS
  have k41 := K41 hS
  have k84 := K84 hS
  have k106 := K106 hS
  have l9 := L9 hS
  have l41 := L41 hS
  have l106 := L106 hS
  obtain ⟨M1, M2, f1, a1, hI1, o1, f2, a2, hI2, o2⟩ := two_fl hS hI
  obtain ⟨fr, _, e1, e2, e3, e4⟩ := a1
  obtain ⟨gr, _, d1, d2, d3, d4⟩ := a2
  have c1 : ∀ many, cnt (mskF (M1 9) (M1 41)) many 192 = cnt (mskF (M 9) (flC M 7).1.1) many 192 := fun many => cnt_ext o1
  have c2 : ∀ many, cnt (M2 106) many 192 = cnt (mskF (M 9) (flC M 7).1.1) many 192 := fun many => cnt_ext o2
  rcases (by omega : (x1 < 0 ∨ 192 ≤ x1) ∨ (0 ≤ x1 ∧ x1 < 192)) with hx | hx
  · refine PQ_mk (v := aI (-5)) (M1 := M) (M2 := M) ?_ ?_ hI hS
    · rw [g60]
      simp (disch := omega) only [g60_0, g60_1, g60_4t, g60_4f, g60_7, g60_9, g60_10, g60_11, g60_14, g60_15, g60_18, g60_19, g60_22, g60_25, g60_26, g60_29, cont_1, cont_0, w32_o, isMile_f]
    · rw [g149]
      simp (disch := omega) only [g149_0, g149_1, g149_4t, g149_4f, g149_7, g149_9, g149_10, g149_11, g149_14, g149_15, g149_16, g149_19, g149_20, g149_21, cont_1, cont_0, w32_o, mMile_f]
  · refine PQ_mk (v := aI (mskF (M 9) (flC M 7).1.1 x1.toNat)) (M1 := M1) (M2 := M2) ?_ ?_ hI2 hS
    · rw [g60]
      simp (disch := omega) only [g60_0, g60_1, g60_4t, g60_4f, g60_7, g60_9, g60_10, g60_11, g60_14, g60_15, g60_18, g60_19, g60_22, g60_25, g60_26, g60_29, cont_1, cont_0, w32_o, isMile_t, P6_0 hS, P6_9 hS, P7_1 hS, f1, times_ hS k9 l9, o1]
    · rw [g149]
      simp (disch := omega) only [g149_0, g149_1, g149_4t, g149_4f, g149_7, g149_9, g149_10, g149_11, g149_14, g149_15, g149_16, g149_19, g149_20, g149_21, cont_1, cont_0, w32_o, mMile_t, f2, P84_37 hS, o2]
def gapF (f : Nat → Int) (x : Int) : Nat → Nat → Int → Int
  | 0, _, _ => -1
  | rem + 1, k, a => if f k = 0 then (if a = x then (k : Int) else gapF f x rem (k + 1) (a + 1)) else gapF f x rem (k + 1) a
theorem gap_c {n r : Nat} {x : Int} {f : Nat → Int} {M : Mem} {S : Sh} (hr : 11 < r) (hS : Std n S) (hf : ∀ k, k < 192 → mskF (M 9) (M 41) k = f k) : ∀ (rem k : Nat) (a : Int), k + rem = 192 → 0 ≤ a → a ≤ k → go r 61 18 [some (aR 6), some (aI x), some (aI a), some (aI (k : Int))] [] M S = some (some (aI (gapF f x rem k a)), M, S) := by
  have k6 := K6 hS
  have k7 := K7 hS
  have k9 := K9 hS
  have k40 := K40 hS
  have k41 := K41 hS
  have k84 := K84 hS
  have k106 := K106 hS
  have l9 := L9 hS
  have l41 := L41 hS
  have l106 := L106 hS
  intro rem
  induction rem with
  | zero =>
    intro k a hk a0 a1
    have e : k = 192 := by omega
    subst e
    rw [g61_18]
    simp (disch := omega) only [g61_0, g61_1, g61_4t, g61_4f, g61_7, g61_9, g61_10, g61_11, g61_14, g61_15, g61_16, g61_17, g61_19, g61_22t, g61_22f, g61_25, g61_26, g61_29, g61_30, g61_33, g61_36, g61_37, g61_40t, g61_40f, g61_43, g61_44, g61_45t, g61_45f, g61_48, g61_49, g61_50, g61_53, g61_56, g61_59, g61_60, cont_1, cont_0, w32_o]
    rfl
  | succ rem ih =>
    intro k a hk a0 a1
    rw [g61_18, gapF]
    by_cases h1 : f k = 0
    · rw [if_pos h1]
      by_cases h2 : a = x
      · rw [if_pos h2]
        simp (disch := omega) only [g61_0, g61_1, g61_4t, g61_4f, g61_7, g61_9, g61_10, g61_11, g61_14, g61_15, g61_16, g61_17, g61_19, g61_22t, g61_22f, g61_25, g61_26, g61_29, g61_30, g61_33, g61_36, g61_37, g61_40t, g61_40f, g61_43, g61_44, g61_45t, g61_45f, g61_48, g61_49, g61_50, g61_53, g61_56, g61_59, g61_60, cont_1, cont_0, w32_o, P6_0 hS, P6_9 hS, P7_1 hS, times_ hS k9 l9, Int.toNat_natCast, hf, h1]
      · rw [if_neg h2]
        have z := ih (k + 1) (a + 1) (by omega) (by omega) (by omega)
        rw [nc_1] at z
        simp (disch := omega) only [g61_0, g61_1, g61_4t, g61_4f, g61_7, g61_9, g61_10, g61_11, g61_14, g61_15, g61_16, g61_17, g61_19, g61_22t, g61_22f, g61_25, g61_26, g61_29, g61_30, g61_33, g61_36, g61_37, g61_40t, g61_40f, g61_43, g61_44, g61_45t, g61_45f, g61_48, g61_49, g61_50, g61_53, g61_56, g61_59, g61_60, cont_1, cont_0, w32_o, P6_0 hS, P6_9 hS, P7_1 hS, times_ hS k9 l9, Int.toNat_natCast, hf, h1]
        exact z
    · rw [if_neg h1]
      have z := ih (k + 1) a (by omega) (by omega) (by omega)
      rw [nc_1] at z
      simp (disch := omega) only [g61_0, g61_1, g61_4t, g61_4f, g61_7, g61_9, g61_10, g61_11, g61_14, g61_15, g61_16, g61_17, g61_19, g61_22t, g61_22f, g61_25, g61_26, g61_29, g61_30, g61_33, g61_36, g61_37, g61_40t, g61_40f, g61_43, g61_44, g61_45t, g61_45f, g61_48, g61_49, g61_50, g61_53, g61_56, g61_59, g61_60, cont_1, cont_0, w32_o, P6_0 hS, P6_9 hS, P7_1 hS, times_ hS k9 l9, Int.toNat_natCast, hf]
      exact z
theorem gap_m {n r : Nat} {x : Int} {f : Nat → Int} {M : Mem} {S : Sh} (hS : Std n S) (x0 : 0 ≤ x) (x1 : x < 192) (hf : ∀ k, k < 192 → M 106 k = f k) : ∀ (rem k : Nat) (a : Int), k + rem = 192 → 0 ≤ a → a ≤ x → go r 150 23 [some (aR 84), some (aI x), some (aI (x - a)), some (aI (k : Int))] [] M S = some (some (aI (gapF f x rem k a)), M, S) := by
  have k6 := K6 hS
  have k7 := K7 hS
  have k9 := K9 hS
  have k40 := K40 hS
  have k41 := K41 hS
  have k84 := K84 hS
  have k106 := K106 hS
  have l9 := L9 hS
  have l41 := L41 hS
  have l106 := L106 hS
  intro rem
  induction rem with
  | zero =>
    intro k a hk a0 a1
    have e : k = 192 := by omega
    subst e
    rw [g150_23]
    simp (disch := omega) only [g150_0, g150_1, g150_2, g150_5, g150_8t, g150_8f, g150_11, g150_13, g150_14, g150_15, g150_18, g150_19, g150_20, g150_21, g150_22, g150_24, g150_27t, g150_27f, g150_30, g150_31, g150_34, g150_35, g150_36t, g150_36f, g150_39, g150_40t, g150_40f, g150_43, g150_44, g150_45, g150_48, g150_51, g150_54, g150_55, cont_1, cont_0, w32_o]
    rfl
  | succ rem ih =>
    intro k a hk a0 a1
    rw [g150_23, gapF]
    by_cases h1 : f k = 0
    · rw [if_pos h1]
      by_cases h2 : a = x
      · rw [if_pos h2]
        simp (disch := omega) only [g150_0, g150_1, g150_2, g150_5, g150_8t, g150_8f, g150_11, g150_13, g150_14, g150_15, g150_18, g150_19, g150_20, g150_21, g150_22, g150_24, g150_27t, g150_27f, g150_30, g150_31, g150_34, g150_35, g150_36t, g150_36f, g150_39, g150_40t, g150_40f, g150_43, g150_44, g150_45, g150_48, g150_51, g150_54, g150_55, cont_1, cont_0, w32_o, P84_37 hS, Int.toNat_natCast, hf, h1]
      · rw [if_neg h2]
        have z := ih (k + 1) (a + 1) (by omega) (by omega) (by omega)
        rw [nc_1, show x - (a + 1) = x - a + -1 by omega] at z
        simp (disch := omega) only [g150_0, g150_1, g150_2, g150_5, g150_8t, g150_8f, g150_11, g150_13, g150_14, g150_15, g150_18, g150_19, g150_20, g150_21, g150_22, g150_24, g150_27t, g150_27f, g150_30, g150_31, g150_34, g150_35, g150_36t, g150_36f, g150_39, g150_40t, g150_40f, g150_43, g150_44, g150_45, g150_48, g150_51, g150_54, g150_55, cont_1, cont_0, w32_o, P84_37 hS, Int.toNat_natCast, hf, h1]
        exact z
    · rw [if_neg h1]
      have z := ih (k + 1) a (by omega) (by omega) (by omega)
      rw [nc_1] at z
      simp (disch := omega) only [g150_0, g150_1, g150_2, g150_5, g150_8t, g150_8f, g150_11, g150_13, g150_14, g150_15, g150_18, g150_19, g150_20, g150_21, g150_22, g150_24, g150_27t, g150_27f, g150_30, g150_31, g150_34, g150_35, g150_36t, g150_36f, g150_39, g150_40t, g150_40f, g150_43, g150_44, g150_45, g150_48, g150_51, g150_54, g150_55, cont_1, cont_0, w32_o, P84_37 hS, Int.toNat_natCast, hf]
      exact z
theorem p_gap {x1 : Int} {n : Nat} {sc : Nat → Int} {M : Mem} {S : Sh} (hS : Std n S) (hI : Inv sc M) : Pr (res 61 [aR 6, aI x1] M S) (PQ 150 [aR 84, aI x1] n S.2.2.2.1 S.2.2.2.2 sc) := by
  have k6 := K6 hS
  have k7 := K7 hS
  have k9 := K9 hS
  have k40 := K40 hS
  have k41 := K41 hS
  have k84 := K84 hS
  have k106 := K106 hS
  have l9 := L9 hS
  have l41 := L41 hS
  have l106 := L106 hS
  obtain ⟨M1, M2, f1, a1, hI1, o1, f2, a2, hI2, o2⟩ := two_fl hS hI
  obtain ⟨fr, _, e1, e2, e3, e4⟩ := a1
  obtain ⟨gr, _, d1, d2, d3, d4⟩ := a2
  have c1 : ∀ many, cnt (mskF (M1 9) (M1 41)) many 192 = cnt (mskF (M 9) (flC M 7).1.1) many 192 := fun many => cnt_ext o1
  have c2 : ∀ many, cnt (M2 106) many 192 = cnt (mskF (M 9) (flC M 7).1.1) many 192 := fun many => cnt_ext o2
  rcases (by omega : (x1 < 0 ∨ 192 ≤ x1) ∨ (0 ≤ x1 ∧ x1 < 192)) with hx | hx
  · refine PQ_mk (v := aI (-7)) (M1 := M) (M2 := M) ?_ ?_ hI hS
    · rw [g61]
      simp (disch := omega) only [g61_0, g61_1, g61_4t, g61_4f, g61_7, g61_9, g61_10, g61_11, g61_14, g61_15, g61_16, g61_17, g61_19, g61_22t, g61_22f, g61_25, g61_26, g61_29, g61_30, g61_33, g61_36, g61_37, g61_40t, g61_40f, g61_43, g61_44, g61_45t, g61_45f, g61_48, g61_49, g61_50, g61_53, g61_56, g61_59, g61_60, cont_1, cont_0, w32_o, isMile_f]
    · rw [g150]
      simp (disch := omega) only [g150_0, g150_1, g150_2, g150_5, g150_8t, g150_8f, g150_11, g150_13, g150_14, g150_15, g150_18, g150_19, g150_20, g150_21, g150_22, g150_24, g150_27t, g150_27f, g150_30, g150_31, g150_34, g150_35, g150_36t, g150_36f, g150_39, g150_40t, g150_40f, g150_43, g150_44, g150_45, g150_48, g150_51, g150_54, g150_55, cont_1, cont_0, w32_o, in_f]
  · refine PQ_mk (v := aI (gapF (mskF (M 9) (flC M 7).1.1) x1 192 0 0)) (M1 := M1) (M2 := M2) ?_ ?_ hI2 hS
    · have z := gap_c (r := 16) (x := x1) (by omega) hS o1 192 0 0 (by omega) (by omega) (by omega)
      rw [g61]
      simp (disch := omega) only [g61_0, g61_1, g61_4t, g61_4f, g61_7, g61_9, g61_10, g61_11, g61_14, g61_15, g61_16, g61_17, g61_19, g61_22t, g61_22f, g61_25, g61_26, g61_29, g61_30, g61_33, g61_36, g61_37, g61_40t, g61_40f, g61_43, g61_44, g61_45t, g61_45f, g61_48, g61_49, g61_50, g61_53, g61_56, g61_59, g61_60, cont_1, cont_0, w32_o, isMile_t, f1]
      exact z
    · have z := gap_m (r := 18) (x := x1) hS hx.1 hx.2 o2 192 0 0 (by omega) (by omega) (by omega)
      rw [Int.sub_zero] at z
      rw [g150]
      simp (disch := omega) only [g150_0, g150_1, g150_2, g150_5, g150_8t, g150_8f, g150_11, g150_13, g150_14, g150_15, g150_18, g150_19, g150_20, g150_21, g150_22, g150_24, g150_27t, g150_27f, g150_30, g150_31, g150_34, g150_35, g150_36t, g150_36f, g150_39, g150_40t, g150_40f, g150_43, g150_44, g150_45, g150_48, g150_51, g150_54, g150_55, cont_1, cont_0, w32_o, in_t, f2]
      exact z
