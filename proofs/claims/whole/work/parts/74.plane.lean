theorem p_plane {x1 x2 : Int} {n : Nat} {sc : Nat → Int} {M : Mem} {S : Sh} (hS : Std n S) (hI : Inv sc M) : Pr (res 53 [aR 6, aI x1, aI x2] M S) (PQ 132 [aR 84, aI x1, aI x2] n S.2.2.2.1 S.2.2.2.2 sc) := by
  have k6 := K6 hS
  have k7 := K7 hS
  have k12 := K12 hS
  have k13 := K13 hS
  have k14 := K14 hS
  have k15 := K15 hS
  have k16 := K16 hS
  have k84 := K84 hS
  have k87 := K87 hS
  have k88 := K88 hS
  have k89 := K89 hS
  have l12 := L12 hS
  have l13 := L13 hS
  have l14 := L14 hS
  have l15 := L15 hS
  have l16 := L16 hS
  have l87 := L87 hS
  have l88 := L88 hS
  have l89 := L89 hS
  have p1 := hI.2.2.1.1
  have p2 := hI.2.2.1.2.1
  have p3 := hI.2.2.1.2.2.1
  by_cases c0 : x1 < 0
  · refine PQ_mk (v := aI (-2)) (M1 := M) (M2 := M) ?_ ?_ hI hS
    · rw [g53]
      simp (disch := omega) only [g53_0, g53_1t, g53_1f, g53_4, g53_5, g53_6t, g53_6f, g53_9, g53_10t, g53_10f, g53_13, g53_14, g53_16t, g53_16f, g53_19, g53_21, g53_22, g53_23, g53_26, g53_29, g53_30t, g53_30f, g53_33, g53_35, g53_36, g53_37, g53_40, g53_43, g53_44, g53_45, g53_48, g53_51, g53_52, g53_53, g53_56, g53_57, g53_60, g53_63, g53_64, g53_65, g53_68, g53_69, g53_72, g53_75, g53_76, g53_79, g53_82, g53_83, g53_86, g53_89, g53_90, g53_93, g53_96, g53_97, g53_100, g53_103, g53_104, g53_105, g53_108, g53_109, g53_112, g53_113, g53_116, g53_117, g53_118, g53_121, g53_122t, g53_122f, g53_125, g53_126, g53_129, g53_130, g53_133, g53_134, cont_1, cont_0, w32_k, P6_0 hS]
    · rw [g132]
      simp (disch := omega) only [g132_0, g132_1, g132_2, g132_3, g132_6t, g132_6f, g132_9, g132_10, g132_11, g132_13, g132_16t, g132_16f, g132_19, g132_21, g132_22, g132_23, g132_26, g132_27t, g132_27f, g132_30, g132_32, g132_33, g132_34, g132_37, g132_38, g132_41, g132_42, g132_43, g132_44, g132_47, g132_48, g132_51, g132_52, g132_53, g132_54, g132_57, g132_58, g132_59, g132_62, g132_63, g132_66, g132_67, g132_68, g132_71, g132_72, g132_73, g132_76, g132_77, g132_78, g132_79, g132_82, g132_83, g132_84, g132_87, g132_88, g132_89, g132_92, g132_93, g132_94, g132_95, g132_96, g132_97, g132_98, g132_99, g132_102t, g132_102f, g132_105, g132_106, g132_109, g132_110, g132_113, g132_116, g132_117, g132_118, g132_121, g132_122, g132_123, g132_126, g132_127, g132_130, g132_131, g132_132, cont_1, cont_0, w32_k, in_t, in_f]
  by_cases c1 : 5 < x1
  · refine PQ_mk (v := aI (-2)) (M1 := M) (M2 := M) ?_ ?_ hI hS
    · rw [g53]
      simp (disch := omega) only [g53_0, g53_1t, g53_1f, g53_4, g53_5, g53_6t, g53_6f, g53_9, g53_10t, g53_10f, g53_13, g53_14, g53_16t, g53_16f, g53_19, g53_21, g53_22, g53_23, g53_26, g53_29, g53_30t, g53_30f, g53_33, g53_35, g53_36, g53_37, g53_40, g53_43, g53_44, g53_45, g53_48, g53_51, g53_52, g53_53, g53_56, g53_57, g53_60, g53_63, g53_64, g53_65, g53_68, g53_69, g53_72, g53_75, g53_76, g53_79, g53_82, g53_83, g53_86, g53_89, g53_90, g53_93, g53_96, g53_97, g53_100, g53_103, g53_104, g53_105, g53_108, g53_109, g53_112, g53_113, g53_116, g53_117, g53_118, g53_121, g53_122t, g53_122f, g53_125, g53_126, g53_129, g53_130, g53_133, g53_134, cont_1, cont_0, w32_k, P6_0 hS]
    · rw [g132]
      simp (disch := omega) only [g132_0, g132_1, g132_2, g132_3, g132_6t, g132_6f, g132_9, g132_10, g132_11, g132_13, g132_16t, g132_16f, g132_19, g132_21, g132_22, g132_23, g132_26, g132_27t, g132_27f, g132_30, g132_32, g132_33, g132_34, g132_37, g132_38, g132_41, g132_42, g132_43, g132_44, g132_47, g132_48, g132_51, g132_52, g132_53, g132_54, g132_57, g132_58, g132_59, g132_62, g132_63, g132_66, g132_67, g132_68, g132_71, g132_72, g132_73, g132_76, g132_77, g132_78, g132_79, g132_82, g132_83, g132_84, g132_87, g132_88, g132_89, g132_92, g132_93, g132_94, g132_95, g132_96, g132_97, g132_98, g132_99, g132_102t, g132_102f, g132_105, g132_106, g132_109, g132_110, g132_113, g132_116, g132_117, g132_118, g132_121, g132_122, g132_123, g132_126, g132_127, g132_130, g132_131, g132_132, cont_1, cont_0, w32_k, in_t, in_f]
  by_cases c2 : x2 < 0
  · refine PQ_mk (v := aI (-2)) (M1 := M) (M2 := M) ?_ ?_ hI hS
    · rw [g53]
      simp (disch := omega) only [g53_0, g53_1t, g53_1f, g53_4, g53_5, g53_6t, g53_6f, g53_9, g53_10t, g53_10f, g53_13, g53_14, g53_16t, g53_16f, g53_19, g53_21, g53_22, g53_23, g53_26, g53_29, g53_30t, g53_30f, g53_33, g53_35, g53_36, g53_37, g53_40, g53_43, g53_44, g53_45, g53_48, g53_51, g53_52, g53_53, g53_56, g53_57, g53_60, g53_63, g53_64, g53_65, g53_68, g53_69, g53_72, g53_75, g53_76, g53_79, g53_82, g53_83, g53_86, g53_89, g53_90, g53_93, g53_96, g53_97, g53_100, g53_103, g53_104, g53_105, g53_108, g53_109, g53_112, g53_113, g53_116, g53_117, g53_118, g53_121, g53_122t, g53_122f, g53_125, g53_126, g53_129, g53_130, g53_133, g53_134, cont_1, cont_0, w32_k, P6_0 hS]
    · rw [g132]
      simp (disch := omega) only [g132_0, g132_1, g132_2, g132_3, g132_6t, g132_6f, g132_9, g132_10, g132_11, g132_13, g132_16t, g132_16f, g132_19, g132_21, g132_22, g132_23, g132_26, g132_27t, g132_27f, g132_30, g132_32, g132_33, g132_34, g132_37, g132_38, g132_41, g132_42, g132_43, g132_44, g132_47, g132_48, g132_51, g132_52, g132_53, g132_54, g132_57, g132_58, g132_59, g132_62, g132_63, g132_66, g132_67, g132_68, g132_71, g132_72, g132_73, g132_76, g132_77, g132_78, g132_79, g132_82, g132_83, g132_84, g132_87, g132_88, g132_89, g132_92, g132_93, g132_94, g132_95, g132_96, g132_97, g132_98, g132_99, g132_102t, g132_102f, g132_105, g132_106, g132_109, g132_110, g132_113, g132_116, g132_117, g132_118, g132_121, g132_122, g132_123, g132_126, g132_127, g132_130, g132_131, g132_132, cont_1, cont_0, w32_k, in_t, in_f]
  by_cases c3 : 9 < x2
  · refine PQ_mk (v := aI (-2)) (M1 := M) (M2 := M) ?_ ?_ hI hS
    · rw [g53]
      simp (disch := omega) only [g53_0, g53_1t, g53_1f, g53_4, g53_5, g53_6t, g53_6f, g53_9, g53_10t, g53_10f, g53_13, g53_14, g53_16t, g53_16f, g53_19, g53_21, g53_22, g53_23, g53_26, g53_29, g53_30t, g53_30f, g53_33, g53_35, g53_36, g53_37, g53_40, g53_43, g53_44, g53_45, g53_48, g53_51, g53_52, g53_53, g53_56, g53_57, g53_60, g53_63, g53_64, g53_65, g53_68, g53_69, g53_72, g53_75, g53_76, g53_79, g53_82, g53_83, g53_86, g53_89, g53_90, g53_93, g53_96, g53_97, g53_100, g53_103, g53_104, g53_105, g53_108, g53_109, g53_112, g53_113, g53_116, g53_117, g53_118, g53_121, g53_122t, g53_122f, g53_125, g53_126, g53_129, g53_130, g53_133, g53_134, cont_1, cont_0, w32_k, P6_0 hS]
    · rw [g132]
      simp (disch := omega) only [g132_0, g132_1, g132_2, g132_3, g132_6t, g132_6f, g132_9, g132_10, g132_11, g132_13, g132_16t, g132_16f, g132_19, g132_21, g132_22, g132_23, g132_26, g132_27t, g132_27f, g132_30, g132_32, g132_33, g132_34, g132_37, g132_38, g132_41, g132_42, g132_43, g132_44, g132_47, g132_48, g132_51, g132_52, g132_53, g132_54, g132_57, g132_58, g132_59, g132_62, g132_63, g132_66, g132_67, g132_68, g132_71, g132_72, g132_73, g132_76, g132_77, g132_78, g132_79, g132_82, g132_83, g132_84, g132_87, g132_88, g132_89, g132_92, g132_93, g132_94, g132_95, g132_96, g132_97, g132_98, g132_99, g132_102t, g132_102f, g132_105, g132_106, g132_109, g132_110, g132_113, g132_116, g132_117, g132_118, g132_121, g132_122, g132_123, g132_126, g132_127, g132_130, g132_131, g132_132, cont_1, cont_0, w32_k, in_t, in_f]
  by_cases c4 : M 7 10 = 4
  · refine PQ_mk (v := aI (-4)) (M1 := M) (M2 := M) ?_ ?_ hI hS
    · rw [g53]
      simp (disch := omega) only [g53_0, g53_1t, g53_1f, g53_4, g53_5, g53_6t, g53_6f, g53_9, g53_10t, g53_10f, g53_13, g53_14, g53_16t, g53_16f, g53_19, g53_21, g53_22, g53_23, g53_26, g53_29, g53_30t, g53_30f, g53_33, g53_35, g53_36, g53_37, g53_40, g53_43, g53_44, g53_45, g53_48, g53_51, g53_52, g53_53, g53_56, g53_57, g53_60, g53_63, g53_64, g53_65, g53_68, g53_69, g53_72, g53_75, g53_76, g53_79, g53_82, g53_83, g53_86, g53_89, g53_90, g53_93, g53_96, g53_97, g53_100, g53_103, g53_104, g53_105, g53_108, g53_109, g53_112, g53_113, g53_116, g53_117, g53_118, g53_121, g53_122t, g53_122f, g53_125, g53_126, g53_129, g53_130, g53_133, g53_134, cont_1, cont_0, w32_k, P6_0 hS]
    · rw [g132]
      simp (disch := omega) only [g132_0, g132_1, g132_2, g132_3, g132_6t, g132_6f, g132_9, g132_10, g132_11, g132_13, g132_16t, g132_16f, g132_19, g132_21, g132_22, g132_23, g132_26, g132_27t, g132_27f, g132_30, g132_32, g132_33, g132_34, g132_37, g132_38, g132_41, g132_42, g132_43, g132_44, g132_47, g132_48, g132_51, g132_52, g132_53, g132_54, g132_57, g132_58, g132_59, g132_62, g132_63, g132_66, g132_67, g132_68, g132_71, g132_72, g132_73, g132_76, g132_77, g132_78, g132_79, g132_82, g132_83, g132_84, g132_87, g132_88, g132_89, g132_92, g132_93, g132_94, g132_95, g132_96, g132_97, g132_98, g132_99, g132_102t, g132_102f, g132_105, g132_106, g132_109, g132_110, g132_113, g132_116, g132_117, g132_118, g132_121, g132_122, g132_123, g132_126, g132_127, g132_130, g132_131, g132_132, cont_1, cont_0, w32_k, in_t, in_f]
  obtain ⟨p, hp⟩ : ∃ p : Nat, M 7 10 = (p : Int) := ⟨(M 7 10).toNat, by omega⟩
  have hp84 : M 84 5 = (p : Int) := p1.trans hp
  have p4 : p < 4 := by omega
  have n7 := hI.2.2.2.1.2.2.2.2.2.2.1
  obtain ⟨w, hw⟩ : ∃ w : Int, w = if p = 0 then 0 else M 7 13 := ⟨_, rfl⟩
  obtain ⟨M1, hM1⟩ : ∃ M1, M1 = mset (mset (mset (mset (mset (mset (mset M 12 p x1) 13 p x2) 14 p 300) 15 p 200) 16 p 2) 7 10 ((p : Int) + 1)) 7 13 w := ⟨_, rfl⟩
  have z1 : res 53 [aR 6, aI x1, aI x2] M S = some (some (aI (p : Int)), M1, S) := by
    rw [hM1, hw, g53]
    by_cases h0 : p = 0
    · subst h0
      rw [if_pos rfl]
      simp (disch := omega) only [g53_0, g53_1t, g53_1f, g53_4, g53_5, g53_6t, g53_6f, g53_9, g53_10t, g53_10f, g53_13, g53_14, g53_16t, g53_16f, g53_19, g53_21, g53_22, g53_23, g53_26, g53_29, g53_30t, g53_30f, g53_33, g53_35, g53_36, g53_37, g53_40, g53_43, g53_44, g53_45, g53_48, g53_51, g53_52, g53_53, g53_56, g53_57, g53_60, g53_63, g53_64, g53_65, g53_68, g53_69, g53_72, g53_75, g53_76, g53_79, g53_82, g53_83, g53_86, g53_89, g53_90, g53_93, g53_96, g53_97, g53_100, g53_103, g53_104, g53_105, g53_108, g53_109, g53_112, g53_113, g53_116, g53_117, g53_118, g53_121, g53_122t, g53_122f, g53_125, g53_126, g53_129, g53_130, g53_133, g53_134, cont_1, cont_0, w32_k, w32_o, P6_0 hS, P7_5 hS, P7_6 hS, P7_7 hS, P7_8 hS, P7_9 hS, put_in, hp, mset_eq, mset_ne, mset_nk, Int.toNat_natCast]
    · rw [if_neg h0]
      simp (disch := omega) only [g53_0, g53_1t, g53_1f, g53_4, g53_5, g53_6t, g53_6f, g53_9, g53_10t, g53_10f, g53_13, g53_14, g53_16t, g53_16f, g53_19, g53_21, g53_22, g53_23, g53_26, g53_29, g53_30t, g53_30f, g53_33, g53_35, g53_36, g53_37, g53_40, g53_43, g53_44, g53_45, g53_48, g53_51, g53_52, g53_53, g53_56, g53_57, g53_60, g53_63, g53_64, g53_65, g53_68, g53_69, g53_72, g53_75, g53_76, g53_79, g53_82, g53_83, g53_86, g53_89, g53_90, g53_93, g53_96, g53_97, g53_100, g53_103, g53_104, g53_105, g53_108, g53_109, g53_112, g53_113, g53_116, g53_117, g53_118, g53_121, g53_122t, g53_122f, g53_125, g53_126, g53_129, g53_130, g53_133, g53_134, cont_1, cont_0, w32_k, w32_o, P6_0 hS, P7_5 hS, P7_6 hS, P7_7 hS, P7_8 hS, P7_9 hS, put_in, hp, mset_eq, mset_ne, mset_nk, Int.toNat_natCast]
      rw [show M 7 13 = mset (mset (mset (mset (mset (mset M 12 p x1) 13 p x2) 14 p 300) 15 p 200) 16 p 2) 7 10 ((p : Int) + 1) 7 13 by simp (disch := omega) only [mset_ne, mset_nk], mset_same]
  have i1 : (3 * (p : Int)).toNat = 3 * p := by omega
  have i2 : (3 * (p : Int) + 1).toNat = 3 * p + 1 := by omega
  have i3 : (3 * (p : Int) + 2).toNat = 3 * p + 2 := by omega
  have q5 : M1 84 5 = (p : Int) := by rw [hM1]; simp (disch := omega) only [mset_ne]; exact hp84
  have q4 : M1 84 4 = M 7 13 := by rw [hM1]; simp (disch := omega) only [mset_ne]; exact n7
  have z2 : res 132 [aR 84, aI x1, aI x2] M1 S = some (some (aI (p : Int)), mset (mset (mset (mset (mset (mset (mset M1 87 p x1) 88 p x2) 89 (3 * p) 300) 89 (3 * p + 1) 200) 89 (3 * p + 2) 2) 84 4 w) 84 5 ((p : Int) + 1), S) := by
    rw [hw, g132]
    by_cases h0 : p = 0
    · subst h0
      rw [if_pos rfl]
      simp (disch := omega) only [g132_0, g132_1, g132_2, g132_3, g132_6t, g132_6f, g132_9, g132_10, g132_11, g132_13, g132_16t, g132_16f, g132_19, g132_21, g132_22, g132_23, g132_26, g132_27t, g132_27f, g132_30, g132_32, g132_33, g132_34, g132_37, g132_38, g132_41, g132_42, g132_43, g132_44, g132_47, g132_48, g132_51, g132_52, g132_53, g132_54, g132_57, g132_58, g132_59, g132_62, g132_63, g132_66, g132_67, g132_68, g132_71, g132_72, g132_73, g132_76, g132_77, g132_78, g132_79, g132_82, g132_83, g132_84, g132_87, g132_88, g132_89, g132_92, g132_93, g132_94, g132_95, g132_96, g132_97, g132_98, g132_99, g132_102t, g132_102f, g132_105, g132_106, g132_109, g132_110, g132_113, g132_116, g132_117, g132_118, g132_121, g132_122, g132_123, g132_126, g132_127, g132_130, g132_131, g132_132, cont_1, cont_0, w32_k, w32_o, in_t, P84_6 hS, P84_7 hS, P84_8 hS, q4, q5, mset_eq, mset_ne, mset_nk, Int.toNat_natCast, i1, i2, i3, Int.add_sub_cancel]
    · rw [if_neg h0]
      simp (disch := omega) only [g132_0, g132_1, g132_2, g132_3, g132_6t, g132_6f, g132_9, g132_10, g132_11, g132_13, g132_16t, g132_16f, g132_19, g132_21, g132_22, g132_23, g132_26, g132_27t, g132_27f, g132_30, g132_32, g132_33, g132_34, g132_37, g132_38, g132_41, g132_42, g132_43, g132_44, g132_47, g132_48, g132_51, g132_52, g132_53, g132_54, g132_57, g132_58, g132_59, g132_62, g132_63, g132_66, g132_67, g132_68, g132_71, g132_72, g132_73, g132_76, g132_77, g132_78, g132_79, g132_82, g132_83, g132_84, g132_87, g132_88, g132_89, g132_92, g132_93, g132_94, g132_95, g132_96, g132_97, g132_98, g132_99, g132_102t, g132_102f, g132_105, g132_106, g132_109, g132_110, g132_113, g132_116, g132_117, g132_118, g132_121, g132_122, g132_123, g132_126, g132_127, g132_130, g132_131, g132_132, cont_1, cont_0, w32_k, w32_o, in_t, P84_6 hS, P84_7 hS, P84_8 hS, q4, q5, mset_eq, mset_ne, mset_nk, Int.toNat_natCast, i1, i2, i3, Int.add_sub_cancel]
  obtain ⟨M2, hM2⟩ : ∃ M2, M2 = mset (mset (mset (mset (mset (mset (mset M1 87 p x1) 88 p x2) 89 (3 * p) 300) 89 (3 * p + 1) 200) 89 (3 * p + 2) 2) 84 4 w) 84 5 ((p : Int) + 1) := ⟨_, rfl⟩
  rw [← hM2] at z2
  refine PQ_mk z1 z2 ?_ hS
  clear z1 z2 q4 q5
  rw [hM1] at hM2
  clear hM1
  have t : ∀ a, a ≠ 7 → a ≠ 84 → ¬ (12 ≤ a ∧ a ≤ 16) → ¬ (87 ≤ a ∧ a ≤ 89) → M2 a = M a := fun a e1 e2 e3 e4 => by
    rw [hM2]
    simp (disch := omega) only [mset_ne]
  have t7 : ∀ j, j ≠ 10 → j ≠ 13 → M2 7 j = M 7 j := fun j e1 e2 => by
    rw [hM2]
    simp (disch := omega) only [mset_ne, mset_nk]
  have t84 : ∀ j, j ≠ 4 → j ≠ 5 → M2 84 j = M 84 j := fun j e1 e2 => by
    rw [hM2]
    simp (disch := omega) only [mset_ne, mset_nk]
  have t710 : M2 7 10 = (p : Int) + 1 := by rw [hM2]; simp (disch := omega) only [mset_ne, mset_nk, mset_eq]
  have t713 : M2 7 13 = w := by rw [hM2]; simp (disch := omega) only [mset_ne, mset_nk, mset_eq]
  have t845 : M2 84 5 = (p : Int) + 1 := by rw [hM2, mset_eq]
  have t844 : M2 84 4 = w := by rw [hM2]; simp (disch := omega) only [mset_nk, mset_eq]
  have tk : ∀ k, k ≠ p → M2 12 k = M 12 k ∧ M2 13 k = M 13 k ∧ M2 14 k = M 14 k ∧ M2 15 k = M 15 k ∧ M2 16 k = M 16 k ∧ M2 87 k = M 87 k ∧ M2 88 k = M 88 k ∧ M2 89 (3 * k) = M 89 (3 * k) ∧ M2 89 (3 * k + 1) = M 89 (3 * k + 1) ∧ M2 89 (3 * k + 2) = M 89 (3 * k + 2) := fun k hk => by
    rw [hM2]
    refine ⟨?_, ?_, ?_, ?_, ?_, ?_, ?_, ?_, ?_, ?_⟩
    all_goals simp (disch := omega) only [mset_ne, mset_nk]
  have tp : M2 12 p = x1 ∧ M2 13 p = x2 ∧ M2 14 p = 300 ∧ M2 15 p = 200 ∧ M2 16 p = 2 ∧ M2 87 p = x1 ∧ M2 88 p = x2 ∧ M2 89 (3 * p) = 300 ∧ M2 89 (3 * p + 1) = 200 ∧ M2 89 (3 * p + 2) = 2 := by
    rw [hM2]
    refine ⟨?_, ?_, ?_, ?_, ?_, ?_, ?_, ?_, ?_, ?_⟩
    all_goals simp (disch := omega) only [mset_ne, mset_nk, mset_eq]
  clear hM2
  obtain ⟨hLand, hStr, hPla, hNow, hTap, hImg, hShe, hCst, hLaw⟩ := hI
  have wb : -1 ≤ w ∧ w ≤ p := by
    rw [hw]
    obtain ⟨_, _, _, _, _, _, _, e1, e2, _⟩ := hNow
    split <;> omega
  have T : ∀ a, a ≠ 7 → a ≠ 84 → ¬ (12 ≤ a ∧ a ≤ 16) → ¬ (87 ≤ a ∧ a ≤ 89) → M2 a = M a := t
  refine ⟨fr_Land (T 8 (by omega) (by omega) (by omega) (by omega)) (T 9 (by omega) (by omega) (by omega) (by omega)) (T 85 (by omega) (by omega) (by omega) (by omega)) (T 86 (by omega) (by omega) (by omega) (by omega)) hLand, fr_Str (T 10 (by omega) (by omega) (by omega) (by omega)) (T 11 (by omega) (by omega) (by omega) (by omega)) (T 90 (by omega) (by omega) (by omega) (by omega)) (T 91 (by omega) (by omega) (by omega) (by omega)) (t7 4 (by omega) (by omega)) (t84 9 (by omega) (by omega)) hStr, ?_, ?_, fr_Tap (T 38 (by omega) (by omega) (by omega) (by omega)) (T 92 (by omega) (by omega) (by omega) (by omega)) (t84 13 (by omega) (by omega)) (t84 16 (by omega) (by omega)) (by rw [T 6 (by omega) (by omega) (by omega) (by omega)]) (by rw [T 6 (by omega) (by omega) (by omega) (by omega)]) hTap, ?_, fr_She hShe (fun a ha => t a (by omega) (by omega) (by omega) (by omega)), fr_Cst (T 0 (by omega) (by omega) (by omega) (by omega)) (T 1 (by omega) (by omega) (by omega) (by omega)) (T 2 (by omega) (by omega) (by omega) (by omega)) (T 5 (by omega) (by omega) (by omega) (by omega)) (T 102 (by omega) (by omega) (by omega) (by omega)) (t84 43 (by omega) (by omega)) hCst, fr_Law hLaw hTap.2.2.1 (by rw [t 6 (by omega) (by omega) (by omega) (by omega)]) (fun a ha => t a (by omega) (by omega) (by omega) (by omega))⟩
  · refine ⟨?_, ?_, ?_, fun k hk => ?_⟩
    · rw [t845, t710]
    · rw [t710]; omega
    · rw [t710]; omega
    · rw [t710] at hk
      by_cases hkp : k = p
      · subst hkp
        obtain ⟨e1, e2, e3, e4, e5, e6, e7, e8, e9, e10⟩ := tp
        rw [e1, e2, e3, e4, e5, e6, e7, e8, e9, e10]
        omega
      · obtain ⟨e1, e2, e3, e4, e5, e6, e7, e8, e9, e10⟩ := tk k hkp
        rw [e1, e2, e3, e4, e5, e6, e7, e8, e9, e10]
        exact hPla.2.2.2 k (by omega)
  · obtain ⟨e1, e2, e3, e4, e5, e6, e7, e8, e9, e10, e11, e12⟩ := hNow
    unfold iNow
    rw [t84 2 (by omega) (by omega), t84 3 (by omega) (by omega), t84 17 (by omega) (by omega), t844, t7 11 (by omega) (by omega), t7 12 (by omega) (by omega), t7 14 (by omega) (by omega), t710, t713, t 6 (by omega) (by omega) (by omega) (by omega)]
    exact ⟨e1, e2, e3, e4, e5, e6, rfl, wb.1, by omega, e10, e11, e12⟩
  · obtain ⟨e1, e2, e3⟩ := hImg
    unfold iImg
    rw [t 6 (by omega) (by omega) (by omega) (by omega), t 27 (by omega) (by omega) (by omega) (by omega), t 28 (by omega) (by omega) (by omega) (by omega), t 29 (by omega) (by omega) (by omega) (by omega), t 30 (by omega) (by omega) (by omega) (by omega), t 31 (by omega) (by omega) (by omega) (by omega), t 32 (by omega) (by omega) (by omega) (by omega), t 33 (by omega) (by omega) (by omega) (by omega), t 34 (by omega) (by omega) (by omega) (by omega), t 35 (by omega) (by omega) (by omega) (by omega), t 36 (by omega) (by omega) (by omega) (by omega), t 95 (by omega) (by omega) (by omega) (by omega), t 96 (by omega) (by omega) (by omega) (by omega), t 97 (by omega) (by omega) (by omega) (by omega), t84 18 (by omega) (by omega), t710]
    refine ⟨e1, e2, fun h => ?_⟩
    obtain ⟨f1, f2, f3, f4, f5, f6, f7, f8, f9, f10⟩ := e3 h
    refine ⟨f1, f2, f3, f4, f5, f6, f7, by omega, fun k hk => ?_, f10⟩
    obtain ⟨g1, g2, _⟩ := tk k (by omega)
    rw [g1, g2]
    exact f9 k hk
theorem mdrop_loop {n r k ns : Nat} {was : Int} {M : Mem} {S : Sh} (hS : Std n S) (hn : M 84 9 = (ns : Int)) (n12 : ns ≤ 12) : ∀ (rem i : Nat), i + rem + 1 = ns → k ≤ i → go r 139 30 [some (aR 84), some (aI (k : Int)), some (aI was), some (aI (i : Int))] [] (mrow (mrow M 90 (shf k i (M 90))) 91 (shf k i (M 91))) S = some (some (aI was), mset (mrow (mrow M 90 (shf k (ns - 1) (M 90))) 91 (shf k (ns - 1) (M 91))) 84 9 ((ns : Int) - 1), S) := by
  have k84 := K84 hS
  have k90 := K90 hS
  have k91 := K91 hS
  have l90 := L90 hS
  have l91 := L91 hS
  intro rem
  induction rem with
  | zero =>
    intro i hi hk
    have e : ns - 1 = i := by omega
    rw [e, g139_30]
    simp (disch := omega) only [g139_0, g139_1, g139_2, g139_5t, g139_5f, g139_8, g139_10, g139_11, g139_13, g139_14, g139_17, g139_18, g139_19, g139_20, g139_21, g139_24, g139_25, g139_26, g139_27, g139_28, g139_29, g139_31, g139_32, g139_33, g139_34, g139_37t, g139_37f, g139_40, g139_41, g139_44, g139_45, g139_46, g139_49, g139_50, g139_51, g139_52, g139_53, g139_54, g139_55, g139_58, g139_59, g139_60, g139_63, g139_64, g139_65, g139_66, g139_67, g139_68, g139_71, g139_74, g139_75, g139_76, g139_79, g139_80, g139_81, g139_84, g139_85, cont_1, cont_0, w32_k, w32_o, mrow_ne, hn]
  | succ rem ih =>
    intro i hi hk
    rw [← ih (i + 1) (by omega) (by omega), nc_1]
    have e1 : ((i : Int) + 1).toNat = i + 1 := by omega
    rw [g139_30]
    simp (disch := omega) only [g139_0, g139_1, g139_2, g139_5t, g139_5f, g139_8, g139_10, g139_11, g139_13, g139_14, g139_17, g139_18, g139_19, g139_20, g139_21, g139_24, g139_25, g139_26, g139_27, g139_28, g139_29, g139_31, g139_32, g139_33, g139_34, g139_37t, g139_37f, g139_40, g139_41, g139_44, g139_45, g139_46, g139_49, g139_50, g139_51, g139_52, g139_53, g139_54, g139_55, g139_58, g139_59, g139_60, g139_63, g139_64, g139_65, g139_66, g139_67, g139_68, g139_71, g139_74, g139_75, g139_76, g139_79, g139_80, g139_81, g139_84, g139_85, cont_1, cont_0, w32_k, w32_o, mrow_ne, mrow_eq, mset_mrow, mset_mrow_c, hn, P84_10 hS, P84_11 hS, Int.toNat_natCast, e1, shf_n]
    rw [shf_s hk rfl, shf_s hk rfl]
theorem p_drop {x1 : Int} {n : Nat} {sc : Nat → Int} {M : Mem} {S : Sh} (hS : Std n S) (hI : Inv sc M) : Pr (res 57 [aR 6, aI x1] M S) (PQ 139 [aR 84, aI x1] n S.2.2.2.1 S.2.2.2.2 sc) := by
  have k6 := K6 hS
  have k7 := K7 hS
  have k10 := K10 hS
  have k11 := K11 hS
  have k84 := K84 hS
  have k90 := K90 hS
  have k91 := K91 hS
  have l10 := L10 hS
  have l11 := L11 hS
  have l90 := L90 hS
  have l91 := L91 hS
  have s1 := hI.2.1.1
  have s2 := hI.2.1.2.1
  have s3 := hI.2.1.2.2.1
  by_cases c0 : x1 < 0
  · refine PQ_mk (v := aI (-6)) (M1 := M) (M2 := M) ?_ ?_ hI hS
    · rw [g57]
      simp (disch := omega) only [g57_0, g57_1t, g57_1f, g57_4, g57_5, g57_6, g57_9, g57_12t, g57_12f, g57_15, g57_17, g57_18, g57_19, g57_22, g57_23, g57_26, g57_27, g57_28, g57_31, g57_32, g57_35, g57_36, cont_1, cont_0, w32_k, P6_0 hS]
    · rw [g139]
      simp (disch := omega) only [g139_0, g139_1, g139_2, g139_5t, g139_5f, g139_8, g139_10, g139_11, g139_13, g139_14, g139_17, g139_18, g139_19, g139_20, g139_21, g139_24, g139_25, g139_26, g139_27, g139_28, g139_29, g139_31, g139_32, g139_33, g139_34, g139_37t, g139_37f, g139_40, g139_41, g139_44, g139_45, g139_46, g139_49, g139_50, g139_51, g139_52, g139_53, g139_54, g139_55, g139_58, g139_59, g139_60, g139_63, g139_64, g139_65, g139_66, g139_67, g139_68, g139_71, g139_74, g139_75, g139_76, g139_79, g139_80, g139_81, g139_84, g139_85, cont_1, cont_0, w32_k, mStrip_f hS]
  · by_cases c1 : M 7 4 ≤ x1
    · refine PQ_mk (v := aI (-6)) (M1 := M) (M2 := M) ?_ ?_ hI hS
      · rw [g57]
        simp (disch := omega) only [g57_0, g57_1t, g57_1f, g57_4, g57_5, g57_6, g57_9, g57_12t, g57_12f, g57_15, g57_17, g57_18, g57_19, g57_22, g57_23, g57_26, g57_27, g57_28, g57_31, g57_32, g57_35, g57_36, cont_1, cont_0, w32_k, P6_0 hS]
      · rw [g139]
        simp (disch := omega) only [g139_0, g139_1, g139_2, g139_5t, g139_5f, g139_8, g139_10, g139_11, g139_13, g139_14, g139_17, g139_18, g139_19, g139_20, g139_21, g139_24, g139_25, g139_26, g139_27, g139_28, g139_29, g139_31, g139_32, g139_33, g139_34, g139_37t, g139_37f, g139_40, g139_41, g139_44, g139_45, g139_46, g139_49, g139_50, g139_51, g139_52, g139_53, g139_54, g139_55, g139_58, g139_59, g139_60, g139_63, g139_64, g139_65, g139_66, g139_67, g139_68, g139_71, g139_74, g139_75, g139_76, g139_79, g139_80, g139_81, g139_84, g139_85, cont_1, cont_0, w32_k, mStrip_f hS]
    · obtain ⟨k, rfl⟩ : ∃ q : Nat, x1 = (q : Int) := ⟨x1.toNat, by omega⟩
      obtain ⟨ns, hns⟩ : ∃ ns : Nat, M 7 4 = (ns : Int) := ⟨(M 7 4).toNat, by omega⟩
      have hns84 := s1.trans hns
      have hkn : k < ns := by omega
      obtain ⟨v0, v1, u0, u1, u2, u3, _⟩ := hI.2.1.2.2.2 k (by omega)
      have f1 := leaveOut_ (b := 7) (k := k) (ns := ns) (M := M) hS (sceneS_of hS (Or.inl rfl)) hns (by omega) hkn
      have f0 := strNo (i := (k : Int)) (M := M) hS (by omega) (by omega) (by rw [Int.toNat_natCast]; exact u0) (by rw [Int.toNat_natCast]; exact u1) (by rw [Int.toNat_natCast]; exact u2) (by rw [Int.toNat_natCast]; exact u3)
      rw [Int.toNat_natCast] at f0
      obtain ⟨M1, hM1⟩ : ∃ M1, M1 = mset (lvM M 7 k (ns - 1)) 7 4 ((ns : Int) - 1) := ⟨_, rfl⟩
      rw [← hM1] at f1
      have r : ∀ a, a ≠ 7 → a ≠ 10 → a ≠ 11 → M1 a = M a := fun a e1 e2 e3 => by
        rw [hM1]
        unfold lvM
        rw [mset_ne _ _ _ e1, mrow_ne _ _ e3, mrow_ne _ _ e2]
      have r7 : ∀ j, j ≠ 4 → M1 7 j = M 7 j := fun j hj => by
        rw [hM1]
        unfold lvM
        rw [mset_nk _ hj, mrow_ne _ _ (by omega), mrow_ne _ _ (by omega)]
      have r74 : M1 7 4 = (ns : Int) - 1 := by rw [hM1, mset_eq]
      have r10 : M1 10 = shf k (ns - 1) (M 10) := by
        rw [hM1]
        unfold lvM
        rw [mset_ne _ _ _ (by omega), mrow_ne _ _ (by omega), mrow_eq]
      have r11 : M1 11 = shf k (ns - 1) (M 11) := by
        rw [hM1]
        unfold lvM
        rw [mset_ne _ _ _ (by omega), mrow_eq]
      clear hM1
      have z2 := mdrop_loop (r := 12) (k := k) (ns := ns) (was := 100 * M 10 k + M 11 k) (M := M1) hS (by rw [r 84 (by omega) (by omega) (by omega)]; exact hns84) (by omega) (ns - 1 - k) k (by omega) (Nat.le_refl _)
      rw [shf_0, shf_0, mrow_self, mrow_self] at z2
      have q9 : M1 84 9 = (ns : Int) := by rw [r 84 (by omega) (by omega) (by omega)]; exact hns84
      have q90 : M1 90 k = M 10 k := by rw [r 90 (by omega) (by omega) (by omega)]; exact v0
      have q91 : M1 91 k = M 11 k := by rw [r 91 (by omega) (by omega) (by omega)]; exact v1
      obtain ⟨M2, hM2⟩ : ∃ M2, M2 = mset (mrow (mrow M1 90 (shf k (ns - 1) (M1 90))) 91 (shf k (ns - 1) (M1 91))) 84 9 ((ns : Int) - 1) := ⟨_, rfl⟩
      rw [← hM2] at z2
      have t : ∀ a, a ≠ 7 → a ≠ 10 → a ≠ 11 → a ≠ 84 → a ≠ 90 → a ≠ 91 → M2 a = M a := fun a e1 e2 e3 e4 e5 e6 => by
        rw [hM2, mset_ne _ _ _ e4, mrow_ne _ _ e6, mrow_ne _ _ e5]
        exact r a e1 e2 e3
      have t7 : M2 7 = M1 7 := by rw [hM2]; simp (disch := omega) only [mset_ne, mrow_ne]
      have t10 : M2 10 = shf k (ns - 1) (M 10) := by rw [hM2]; simp (disch := omega) only [mset_ne, mrow_ne]; exact r10
      have t11 : M2 11 = shf k (ns - 1) (M 11) := by rw [hM2]; simp (disch := omega) only [mset_ne, mrow_ne]; exact r11
      have t90 : M2 90 = shf k (ns - 1) (M 90) := by rw [hM2]; simp (disch := omega) only [mset_ne, mrow_ne, mrow_eq]; rw [r 90 (by omega) (by omega) (by omega)]
      have t91 : M2 91 = shf k (ns - 1) (M 91) := by rw [hM2]; simp (disch := omega) only [mset_ne, mrow_eq]; rw [r 91 (by omega) (by omega) (by omega)]
      have t849 : M2 84 9 = (ns : Int) - 1 := by rw [hM2, mset_eq]
      have t84 : ∀ j, j ≠ 9 → M2 84 j = M 84 j := fun j hj => by
        rw [hM2, mset_nk _ hj, mrow_ne _ _ (by omega), mrow_ne _ _ (by omega), r 84 (by omega) (by omega) (by omega)]
      clear hM2
      refine PQ_mk (v := aI (100 * M 10 k + M 11 k)) (M1 := M1) (M2 := M2) ?_ ?_ ?_ hS
      · rw [g57]
        simp (disch := omega) only [g57_0, g57_1t, g57_1f, g57_4, g57_5, g57_6, g57_9, g57_12t, g57_12f, g57_15, g57_17, g57_18, g57_19, g57_22, g57_23, g57_26, g57_27, g57_28, g57_31, g57_32, g57_35, g57_36, cont_1, cont_0, w32_k, P6_0 hS, f0, f1]
      · rw [g139]
        simp (disch := omega) only [g139_0, g139_1, g139_2, g139_5t, g139_5f, g139_8, g139_10, g139_11, g139_13, g139_14, g139_17, g139_18, g139_19, g139_20, g139_21, g139_24, g139_25, g139_26, g139_27, g139_28, g139_29, g139_31, g139_32, g139_33, g139_34, g139_37t, g139_37f, g139_40, g139_41, g139_44, g139_45, g139_46, g139_49, g139_50, g139_51, g139_52, g139_53, g139_54, g139_55, g139_58, g139_59, g139_60, g139_63, g139_64, g139_65, g139_66, g139_67, g139_68, g139_71, g139_74, g139_75, g139_76, g139_79, g139_80, g139_81, g139_84, g139_85, cont_1, cont_0, w32_k, w32_o, mStrip_t hS, P84_10 hS, P84_11 hS, Int.toNat_natCast, q9, q90, q91]
        exact z2
      · obtain ⟨hLand, hStr, hPla, hNow, hTap, hImg, hShe, hCst, hLaw⟩ := hI
        have T : ∀ a, a ≠ 7 → a ≠ 10 → a ≠ 11 → a ≠ 84 → a ≠ 90 → a ≠ 91 → M2 a = M a := t
        have T7 : ∀ j, j ≠ 4 → M2 7 j = M 7 j := fun j hj => by rw [t7]; exact r7 j hj
        refine ⟨fr_Land (T 8 (by omega) (by omega) (by omega) (by omega) (by omega) (by omega)) (T 9 (by omega) (by omega) (by omega) (by omega) (by omega) (by omega)) (T 85 (by omega) (by omega) (by omega) (by omega) (by omega) (by omega)) (T 86 (by omega) (by omega) (by omega) (by omega) (by omega) (by omega)) hLand, ?_, fr_Pla (T 12 (by omega) (by omega) (by omega) (by omega) (by omega) (by omega)) (T 13 (by omega) (by omega) (by omega) (by omega) (by omega) (by omega)) (T 14 (by omega) (by omega) (by omega) (by omega) (by omega) (by omega)) (T 15 (by omega) (by omega) (by omega) (by omega) (by omega) (by omega)) (T 16 (by omega) (by omega) (by omega) (by omega) (by omega) (by omega)) (T 87 (by omega) (by omega) (by omega) (by omega) (by omega) (by omega)) (T 88 (by omega) (by omega) (by omega) (by omega) (by omega) (by omega)) (T 89 (by omega) (by omega) (by omega) (by omega) (by omega) (by omega)) (T7 10 (by omega)) (t84 5 (by omega)) hPla, fr_Now (T7 10 (by omega)) (T7 11 (by omega)) (T7 12 (by omega)) (T7 13 (by omega)) (T7 14 (by omega)) (t84 2 (by omega)) (t84 3 (by omega)) (t84 4 (by omega)) (t84 17 (by omega)) (by rw [T 6 (by omega) (by omega) (by omega) (by omega) (by omega) (by omega)]) hNow, fr_Tap (T 38 (by omega) (by omega) (by omega) (by omega) (by omega) (by omega)) (T 92 (by omega) (by omega) (by omega) (by omega) (by omega) (by omega)) (t84 13 (by omega)) (t84 16 (by omega)) (by rw [T 6 (by omega) (by omega) (by omega) (by omega) (by omega) (by omega)]) (by rw [T 6 (by omega) (by omega) (by omega) (by omega) (by omega) (by omega)]) hTap, fr_Img (T 12 (by omega) (by omega) (by omega) (by omega) (by omega) (by omega)) (T 13 (by omega) (by omega) (by omega) (by omega) (by omega) (by omega)) (T 28 (by omega) (by omega) (by omega) (by omega) (by omega) (by omega)) (T 29 (by omega) (by omega) (by omega) (by omega) (by omega) (by omega)) (T 30 (by omega) (by omega) (by omega) (by omega) (by omega) (by omega)) (T 31 (by omega) (by omega) (by omega) (by omega) (by omega) (by omega)) (T 32 (by omega) (by omega) (by omega) (by omega) (by omega) (by omega)) (T 33 (by omega) (by omega) (by omega) (by omega) (by omega) (by omega)) (T 34 (by omega) (by omega) (by omega) (by omega) (by omega) (by omega)) (T 35 (by omega) (by omega) (by omega) (by omega) (by omega) (by omega)) (T 36 (by omega) (by omega) (by omega) (by omega) (by omega) (by omega)) (T 95 (by omega) (by omega) (by omega) (by omega) (by omega) (by omega)) (T 96 (by omega) (by omega) (by omega) (by omega) (by omega) (by omega)) (T 97 (by omega) (by omega) (by omega) (by omega) (by omega) (by omega)) (t84 18 (by omega)) (by rw [T 6 (by omega) (by omega) (by omega) (by omega) (by omega) (by omega)]) (by rw [T 6 (by omega) (by omega) (by omega) (by omega) (by omega) (by omega)]) (T7 10 (by omega)) (by rw [T 27 (by omega) (by omega) (by omega) (by omega) (by omega) (by omega)]) (by rw [T 27 (by omega) (by omega) (by omega) (by omega) (by omega) (by omega)]) (by rw [T 27 (by omega) (by omega) (by omega) (by omega) (by omega) (by omega)]) (by rw [T 27 (by omega) (by omega) (by omega) (by omega) (by omega) (by omega)]) (by rw [T 27 (by omega) (by omega) (by omega) (by omega) (by omega) (by omega)]) (by rw [T 27 (by omega) (by omega) (by omega) (by omega) (by omega) (by omega)]) hImg, fr_She hShe (fun a ha => T a (by omega) (by omega) (by omega) (by omega) (by omega) (by omega)), fr_Cst (T 0 (by omega) (by omega) (by omega) (by omega) (by omega) (by omega)) (T 1 (by omega) (by omega) (by omega) (by omega) (by omega) (by omega)) (T 2 (by omega) (by omega) (by omega) (by omega) (by omega) (by omega)) (T 5 (by omega) (by omega) (by omega) (by omega) (by omega) (by omega)) (T 102 (by omega) (by omega) (by omega) (by omega) (by omega) (by omega)) (t84 43 (by omega)) hCst, fr_Law hLaw hTap.2.2.1 (by rw [T 6 (by omega) (by omega) (by omega) (by omega) (by omega) (by omega)]) (fun a ha => T a (by omega) (by omega) (by omega) (by omega) (by omega) (by omega))⟩
        refine ⟨?_, ?_, ?_, fun j hj => ?_⟩
        · rw [t849, t7, r74]
        · rw [t7, r74]; omega
        · rw [t7, r74]; omega
        · rw [t7, r74] at hj
          have hj1 : j < ns - 1 := by omega
          rw [t90, t10, t91, t11, shf_r hj1, shf_r hj1, shf_r hj1, shf_r hj1]
          unfold rmv
          by_cases hjk : j < k
          · rw [if_pos hjk, if_pos hjk, if_pos hjk, if_pos hjk]
            exact hStr.2.2.2 j (by omega)
          · rw [if_neg hjk, if_neg hjk, if_neg hjk, if_neg hjk]
            exact hStr.2.2.2 (j + 1) (by omega)
