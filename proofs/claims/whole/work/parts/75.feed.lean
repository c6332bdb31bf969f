/-! feed -/
def ptM (M : Mem) (i : Int) (v : Int) : Mem := if i < 160 then mset M 38 i.toNat v else M
theorem pt_ {n : Nat} {i v : Int} {M : Mem} {S : Sh} (hS : Std n S) (h0 : 0 ≤ i) : res 97 [aR 38, aI i, aI v] M S = some (none, ptM M i v, S) := by
  have k := K38 hS
  have l := L38 hS
  unfold ptM
  by_cases h : i < 160
  · rw [if_pos h, put_in k (by omega) h0 (by omega)]
  · rw [if_neg h, put_out k (by omega)]
theorem pt_eq {M : Mem} {i v : Int} {k : Nat} (h : i < 160) (hk : k = i.toNat) : ptM M i v 38 k = v := by
  unfold ptM
  rw [if_pos h, hk, mset_eq]
theorem pt_ne {M : Mem} {i v : Int} {k : Nat} (hk : k ≠ i.toNat) : ptM M i v 38 k = M 38 k := by
  unfold ptM
  split
  · exact mset_nk _ hk
  · rfl
theorem pt_o {M : Mem} {i v : Int} {a : Nat} (h : a ≠ 38) : ptM M i v a = M a := by
  unfold ptM
  split
  · exact mset_ne _ _ _ h
  · rfl
def valF (a b c d e : Int) : Nat → Int := fun q => if q = 0 then a else if q = 1 then b else if q = 2 then c else if q = 3 then d else e
theorem ms_c1 {M : Mem} {i : Nat} {x v : Int} : mset (mset M 84 13 x) 92 i v = mset (mset M 92 i v) 84 13 x := by
  funext b j
  unfold mset
  by_cases h : b = 92 ∧ j = i
  · rw [if_pos h, if_neg (by omega), if_pos h]
  · rw [if_neg h, if_neg h]
theorem ms_c2 {M : Mem} {x y : Int} : mset (mset M 84 13 x) 84 13 y = mset M 84 13 y := by
  funext b j
  unfold mset
  by_cases h : b = 84 ∧ j = 13
  · rw [if_pos h, if_pos h]
  · rw [if_neg h, if_neg h, if_neg h]
theorem feed_loop {n r ts : Nat} {n0 a b c d e : Int} {M : Mem} {S : Sh} (hS : Std n S) (n5 : n0 ≤ 5) (ht : (ts : Int) + n0 ≤ 160) : ∀ (rem k : Nat), ((k + rem : Nat) : Int) = n0 → go r 115 68 [some (aR 84), some (aI n0), some (aI a), some (aI b), some (aI c), some (aI d), some (aI e), some (aI (k : Int))] [] (mset (mrow M 92 (rseg ts k (valF a b c d e) (M 92))) 84 13 ((ts : Int) + k)) S = some (some (aI ((ts : Int) + n0)), mset (mrow M 92 (rseg ts n0.toNat (valF a b c d e) (M 92))) 84 13 ((ts : Int) + n0), S) := by
  have k84 := K84 hS
  have k92 := K92 hS
  have l92 := L92 hS
  intro rem
  induction rem with
  | zero =>
    intro k hk
    have e1 : n0.toNat = k := by omega
    have e2 : (ts : Int) + (k : Int) = (ts : Int) + n0 := by omega
    rw [e1, g115_68]
    simp (disch := omega) only [g115_0, g115_1, g115_2, g115_3, g115_6t, g115_6f, g115_9, g115_10, g115_13t, g115_13f, g115_16, g115_17, g115_20t, g115_20f, g115_23, g115_25, g115_28t, g115_28f, g115_31, g115_33, g115_36t, g115_36f, g115_39, g115_41, g115_44t, g115_44f, g115_47, g115_49, g115_50, g115_51, g115_54, g115_55, g115_56, g115_59t, g115_59f, g115_62, g115_64, g115_65, g115_66, g115_70, g115_71t, g115_71f, g115_74, g115_75, g115_78, g115_79, g115_82, g115_84t, g115_84f, g115_87, g115_88, g115_91, g115_93, g115_94t, g115_94f, g115_97, g115_98, g115_101, g115_103, g115_104t, g115_104f, g115_107, g115_109, g115_112, g115_114, g115_115t, g115_115f, g115_118, g115_120, g115_123, g115_125, g115_126, g115_127, g115_128, g115_131, g115_132, g115_133, g115_136, g115_139, g115_142, g115_143, g115_146, cont_1, cont_0, w32_k, mset_eq, e2]
  | succ rem ih =>
    intro k hk
    have z := ih (k + 1) (by omega)
    rw [nc_1] at z
    have i1 : ((ts : Int) + (k : Int)).toNat = ts + k := by omega
    rw [← z, ← rseg_s (v := valF a b c d e k) rfl, g115_68]
    rw [show (ts : Int) + ((k : Int) + 1) = (ts : Int) + (k : Int) + 1 by omega]
    rcases (by omega : k = 0 ∨ k = 1 ∨ k = 2 ∨ k = 3 ∨ k = 4) with rfl | rfl | rfl | rfl | rfl
    all_goals simp (disch := omega) only [g115_0, g115_1, g115_2, g115_3, g115_6t, g115_6f, g115_9, g115_10, g115_13t, g115_13f, g115_16, g115_17, g115_20t, g115_20f, g115_23, g115_25, g115_28t, g115_28f, g115_31, g115_33, g115_36t, g115_36f, g115_39, g115_41, g115_44t, g115_44f, g115_47, g115_49, g115_50, g115_51, g115_54, g115_55, g115_56, g115_59t, g115_59f, g115_62, g115_64, g115_65, g115_66, g115_70, g115_71t, g115_71f, g115_74, g115_75, g115_78, g115_79, g115_82, g115_84t, g115_84f, g115_87, g115_88, g115_91, g115_93, g115_94t, g115_94f, g115_97, g115_98, g115_101, g115_103, g115_104t, g115_104f, g115_107, g115_109, g115_112, g115_114, g115_115t, g115_115f, g115_118, g115_120, g115_123, g115_125, g115_126, g115_127, g115_128, g115_131, g115_132, g115_133, g115_136, g115_139, g115_142, g115_143, g115_146, cont_1, cont_0, w32_k, w32_o, P84_12 hS, mset_eq, i1, ms_c1, ms_c2, mset_mrow]
    all_goals rfl
theorem p_feed {x1 x2 x3 x4 x5 x6 : Int} {n : Nat} {sc : Nat → Int} {M : Mem} {S : Sh} (hS : Std n S) (hI : Inv sc M) : Pr (res 49 [aR 6, aI x1, aI x2, aI x3, aI x4, aI x5, aI x6] M S) (PQ 115 [aR 84, aI x1, aI x2, aI x3, aI x4, aI x5, aI x6] n S.2.2.2.1 S.2.2.2.2 sc) := by
  have k6 := K6 hS
  have k38 := K38 hS
  have k84 := K84 hS
  have l38 := L38 hS
  have t3 := hI.2.2.2.2.1.2.2.2.1
  have t4 := hI.2.2.2.2.1.2.2.2.2.1
  have t5 := hI.2.2.2.2.1.2.2.2.2.2.1
  by_cases c0 : x1 < 1
  · refine PQ_mk (v := aI (-2)) (M1 := M) (M2 := M) ?_ ?_ hI hS
    · rw [g49]
      simp (disch := omega) only [g49_0, g49_1, g49_2t, g49_2f, g49_5, g49_6, g49_7t, g49_7f, g49_10, g49_11, g49_14t, g49_14f, g49_17, g49_18, g49_21t, g49_21f, g49_24, g49_26, g49_29t, g49_29f, g49_32, g49_34, g49_37t, g49_37f, g49_40, g49_42, g49_45t, g49_45f, g49_48, g49_50, g49_51, g49_52, g49_55, g49_56, g49_57, g49_60t, g49_60f, g49_63, g49_65, g49_66, g49_67, g49_70, g49_71, g49_74, g49_75, g49_78, g49_79, g49_82, g49_83, g49_86, g49_87, g49_88, g49_89, g49_92, g49_93, g49_96, g49_97, g49_100, g49_101, g49_102, g49_104, g49_107, g49_108, g49_111, g49_112, g49_115, g49_116, g49_117, g49_119, g49_122, g49_123, g49_126, g49_127, g49_130, g49_131, g49_132, g49_134, g49_137, g49_138, g49_139, g49_142, g49_143, g49_144, g49_147, g49_148, g49_151, cont_1, cont_0, w32_k, isByte_t, isByte_f]
    · rw [g115]
      simp (disch := omega) only [g115_0, g115_1, g115_2, g115_3, g115_6t, g115_6f, g115_9, g115_10, g115_13t, g115_13f, g115_16, g115_17, g115_20t, g115_20f, g115_23, g115_25, g115_28t, g115_28f, g115_31, g115_33, g115_36t, g115_36f, g115_39, g115_41, g115_44t, g115_44f, g115_47, g115_49, g115_50, g115_51, g115_54, g115_55, g115_56, g115_59t, g115_59f, g115_62, g115_64, g115_65, g115_66, g115_70, g115_71t, g115_71f, g115_74, g115_75, g115_78, g115_79, g115_82, g115_84t, g115_84f, g115_87, g115_88, g115_91, g115_93, g115_94t, g115_94f, g115_97, g115_98, g115_101, g115_103, g115_104t, g115_104f, g115_107, g115_109, g115_112, g115_114, g115_115t, g115_115f, g115_118, g115_120, g115_123, g115_125, g115_126, g115_127, g115_128, g115_131, g115_132, g115_133, g115_136, g115_139, g115_142, g115_143, g115_146, cont_1, cont_0, w32_k, in_t, in_f, mByte_t, mByte_f]
  by_cases c1 : 5 < x1
  · refine PQ_mk (v := aI (-2)) (M1 := M) (M2 := M) ?_ ?_ hI hS
    · rw [g49]
      simp (disch := omega) only [g49_0, g49_1, g49_2t, g49_2f, g49_5, g49_6, g49_7t, g49_7f, g49_10, g49_11, g49_14t, g49_14f, g49_17, g49_18, g49_21t, g49_21f, g49_24, g49_26, g49_29t, g49_29f, g49_32, g49_34, g49_37t, g49_37f, g49_40, g49_42, g49_45t, g49_45f, g49_48, g49_50, g49_51, g49_52, g49_55, g49_56, g49_57, g49_60t, g49_60f, g49_63, g49_65, g49_66, g49_67, g49_70, g49_71, g49_74, g49_75, g49_78, g49_79, g49_82, g49_83, g49_86, g49_87, g49_88, g49_89, g49_92, g49_93, g49_96, g49_97, g49_100, g49_101, g49_102, g49_104, g49_107, g49_108, g49_111, g49_112, g49_115, g49_116, g49_117, g49_119, g49_122, g49_123, g49_126, g49_127, g49_130, g49_131, g49_132, g49_134, g49_137, g49_138, g49_139, g49_142, g49_143, g49_144, g49_147, g49_148, g49_151, cont_1, cont_0, w32_k, isByte_t, isByte_f]
    · rw [g115]
      simp (disch := omega) only [g115_0, g115_1, g115_2, g115_3, g115_6t, g115_6f, g115_9, g115_10, g115_13t, g115_13f, g115_16, g115_17, g115_20t, g115_20f, g115_23, g115_25, g115_28t, g115_28f, g115_31, g115_33, g115_36t, g115_36f, g115_39, g115_41, g115_44t, g115_44f, g115_47, g115_49, g115_50, g115_51, g115_54, g115_55, g115_56, g115_59t, g115_59f, g115_62, g115_64, g115_65, g115_66, g115_70, g115_71t, g115_71f, g115_74, g115_75, g115_78, g115_79, g115_82, g115_84t, g115_84f, g115_87, g115_88, g115_91, g115_93, g115_94t, g115_94f, g115_97, g115_98, g115_101, g115_103, g115_104t, g115_104f, g115_107, g115_109, g115_112, g115_114, g115_115t, g115_115f, g115_118, g115_120, g115_123, g115_125, g115_126, g115_127, g115_128, g115_131, g115_132, g115_133, g115_136, g115_139, g115_142, g115_143, g115_146, cont_1, cont_0, w32_k, in_t, in_f, mByte_t, mByte_f]
  by_cases c2 : x2 < 0
  · refine PQ_mk (v := aI (-2)) (M1 := M) (M2 := M) ?_ ?_ hI hS
    · rw [g49]
      simp (disch := omega) only [g49_0, g49_1, g49_2t, g49_2f, g49_5, g49_6, g49_7t, g49_7f, g49_10, g49_11, g49_14t, g49_14f, g49_17, g49_18, g49_21t, g49_21f, g49_24, g49_26, g49_29t, g49_29f, g49_32, g49_34, g49_37t, g49_37f, g49_40, g49_42, g49_45t, g49_45f, g49_48, g49_50, g49_51, g49_52, g49_55, g49_56, g49_57, g49_60t, g49_60f, g49_63, g49_65, g49_66, g49_67, g49_70, g49_71, g49_74, g49_75, g49_78, g49_79, g49_82, g49_83, g49_86, g49_87, g49_88, g49_89, g49_92, g49_93, g49_96, g49_97, g49_100, g49_101, g49_102, g49_104, g49_107, g49_108, g49_111, g49_112, g49_115, g49_116, g49_117, g49_119, g49_122, g49_123, g49_126, g49_127, g49_130, g49_131, g49_132, g49_134, g49_137, g49_138, g49_139, g49_142, g49_143, g49_144, g49_147, g49_148, g49_151, cont_1, cont_0, w32_k, isByte_t, isByte_f]
    · rw [g115]
      simp (disch := omega) only [g115_0, g115_1, g115_2, g115_3, g115_6t, g115_6f, g115_9, g115_10, g115_13t, g115_13f, g115_16, g115_17, g115_20t, g115_20f, g115_23, g115_25, g115_28t, g115_28f, g115_31, g115_33, g115_36t, g115_36f, g115_39, g115_41, g115_44t, g115_44f, g115_47, g115_49, g115_50, g115_51, g115_54, g115_55, g115_56, g115_59t, g115_59f, g115_62, g115_64, g115_65, g115_66, g115_70, g115_71t, g115_71f, g115_74, g115_75, g115_78, g115_79, g115_82, g115_84t, g115_84f, g115_87, g115_88, g115_91, g115_93, g115_94t, g115_94f, g115_97, g115_98, g115_101, g115_103, g115_104t, g115_104f, g115_107, g115_109, g115_112, g115_114, g115_115t, g115_115f, g115_118, g115_120, g115_123, g115_125, g115_126, g115_127, g115_128, g115_131, g115_132, g115_133, g115_136, g115_139, g115_142, g115_143, g115_146, cont_1, cont_0, w32_k, in_t, in_f, mByte_t, mByte_f]
  by_cases c3 : 256 ≤ x2
  · refine PQ_mk (v := aI (-2)) (M1 := M) (M2 := M) ?_ ?_ hI hS
    · rw [g49]
      simp (disch := omega) only [g49_0, g49_1, g49_2t, g49_2f, g49_5, g49_6, g49_7t, g49_7f, g49_10, g49_11, g49_14t, g49_14f, g49_17, g49_18, g49_21t, g49_21f, g49_24, g49_26, g49_29t, g49_29f, g49_32, g49_34, g49_37t, g49_37f, g49_40, g49_42, g49_45t, g49_45f, g49_48, g49_50, g49_51, g49_52, g49_55, g49_56, g49_57, g49_60t, g49_60f, g49_63, g49_65, g49_66, g49_67, g49_70, g49_71, g49_74, g49_75, g49_78, g49_79, g49_82, g49_83, g49_86, g49_87, g49_88, g49_89, g49_92, g49_93, g49_96, g49_97, g49_100, g49_101, g49_102, g49_104, g49_107, g49_108, g49_111, g49_112, g49_115, g49_116, g49_117, g49_119, g49_122, g49_123, g49_126, g49_127, g49_130, g49_131, g49_132, g49_134, g49_137, g49_138, g49_139, g49_142, g49_143, g49_144, g49_147, g49_148, g49_151, cont_1, cont_0, w32_k, isByte_t, isByte_f]
    · rw [g115]
      simp (disch := omega) only [g115_0, g115_1, g115_2, g115_3, g115_6t, g115_6f, g115_9, g115_10, g115_13t, g115_13f, g115_16, g115_17, g115_20t, g115_20f, g115_23, g115_25, g115_28t, g115_28f, g115_31, g115_33, g115_36t, g115_36f, g115_39, g115_41, g115_44t, g115_44f, g115_47, g115_49, g115_50, g115_51, g115_54, g115_55, g115_56, g115_59t, g115_59f, g115_62, g115_64, g115_65, g115_66, g115_70, g115_71t, g115_71f, g115_74, g115_75, g115_78, g115_79, g115_82, g115_84t, g115_84f, g115_87, g115_88, g115_91, g115_93, g115_94t, g115_94f, g115_97, g115_98, g115_101, g115_103, g115_104t, g115_104f, g115_107, g115_109, g115_112, g115_114, g115_115t, g115_115f, g115_118, g115_120, g115_123, g115_125, g115_126, g115_127, g115_128, g115_131, g115_132, g115_133, g115_136, g115_139, g115_142, g115_143, g115_146, cont_1, cont_0, w32_k, in_t, in_f, mByte_t, mByte_f]
  by_cases c4 : x3 < 0
  · refine PQ_mk (v := aI (-2)) (M1 := M) (M2 := M) ?_ ?_ hI hS
    · rw [g49]
      simp (disch := omega) only [g49_0, g49_1, g49_2t, g49_2f, g49_5, g49_6, g49_7t, g49_7f, g49_10, g49_11, g49_14t, g49_14f, g49_17, g49_18, g49_21t, g49_21f, g49_24, g49_26, g49_29t, g49_29f, g49_32, g49_34, g49_37t, g49_37f, g49_40, g49_42, g49_45t, g49_45f, g49_48, g49_50, g49_51, g49_52, g49_55, g49_56, g49_57, g49_60t, g49_60f, g49_63, g49_65, g49_66, g49_67, g49_70, g49_71, g49_74, g49_75, g49_78, g49_79, g49_82, g49_83, g49_86, g49_87, g49_88, g49_89, g49_92, g49_93, g49_96, g49_97, g49_100, g49_101, g49_102, g49_104, g49_107, g49_108, g49_111, g49_112, g49_115, g49_116, g49_117, g49_119, g49_122, g49_123, g49_126, g49_127, g49_130, g49_131, g49_132, g49_134, g49_137, g49_138, g49_139, g49_142, g49_143, g49_144, g49_147, g49_148, g49_151, cont_1, cont_0, w32_k, isByte_t, isByte_f]
    · rw [g115]
      simp (disch := omega) only [g115_0, g115_1, g115_2, g115_3, g115_6t, g115_6f, g115_9, g115_10, g115_13t, g115_13f, g115_16, g115_17, g115_20t, g115_20f, g115_23, g115_25, g115_28t, g115_28f, g115_31, g115_33, g115_36t, g115_36f, g115_39, g115_41, g115_44t, g115_44f, g115_47, g115_49, g115_50, g115_51, g115_54, g115_55, g115_56, g115_59t, g115_59f, g115_62, g115_64, g115_65, g115_66, g115_70, g115_71t, g115_71f, g115_74, g115_75, g115_78, g115_79, g115_82, g115_84t, g115_84f, g115_87, g115_88, g115_91, g115_93, g115_94t, g115_94f, g115_97, g115_98, g115_101, g115_103, g115_104t, g115_104f, g115_107, g115_109, g115_112, g115_114, g115_115t, g115_115f, g115_118, g115_120, g115_123, g115_125, g115_126, g115_127, g115_128, g115_131, g115_132, g115_133, g115_136, g115_139, g115_142, g115_143, g115_146, cont_1, cont_0, w32_k, in_t, in_f, mByte_t, mByte_f]
  by_cases c5 : 256 ≤ x3
  · refine PQ_mk (v := aI (-2)) (M1 := M) (M2 := M) ?_ ?_ hI hS
    · rw [g49]
      simp (disch := omega) only [g49_0, g49_1, g49_2t, g49_2f, g49_5, g49_6, g49_7t, g49_7f, g49_10, g49_11, g49_14t, g49_14f, g49_17, g49_18, g49_21t, g49_21f, g49_24, g49_26, g49_29t, g49_29f, g49_32, g49_34, g49_37t, g49_37f, g49_40, g49_42, g49_45t, g49_45f, g49_48, g49_50, g49_51, g49_52, g49_55, g49_56, g49_57, g49_60t, g49_60f, g49_63, g49_65, g49_66, g49_67, g49_70, g49_71, g49_74, g49_75, g49_78, g49_79, g49_82, g49_83, g49_86, g49_87, g49_88, g49_89, g49_92, g49_93, g49_96, g49_97, g49_100, g49_101, g49_102, g49_104, g49_107, g49_108, g49_111, g49_112, g49_115, g49_116, g49_117, g49_119, g49_122, g49_123, g49_126, g49_127, g49_130, g49_131, g49_132, g49_134, g49_137, g49_138, g49_139, g49_142, g49_143, g49_144, g49_147, g49_148, g49_151, cont_1, cont_0, w32_k, isByte_t, isByte_f]
    · rw [g115]
      simp (disch := omega) only [g115_0, g115_1, g115_2, g115_3, g115_6t, g115_6f, g115_9, g115_10, g115_13t, g115_13f, g115_16, g115_17, g115_20t, g115_20f, g115_23, g115_25, g115_28t, g115_28f, g115_31, g115_33, g115_36t, g115_36f, g115_39, g115_41, g115_44t, g115_44f, g115_47, g115_49, g115_50, g115_51, g115_54, g115_55, g115_56, g115_59t, g115_59f, g115_62, g115_64, g115_65, g115_66, g115_70, g115_71t, g115_71f, g115_74, g115_75, g115_78, g115_79, g115_82, g115_84t, g115_84f, g115_87, g115_88, g115_91, g115_93, g115_94t, g115_94f, g115_97, g115_98, g115_101, g115_103, g115_104t, g115_104f, g115_107, g115_109, g115_112, g115_114, g115_115t, g115_115f, g115_118, g115_120, g115_123, g115_125, g115_126, g115_127, g115_128, g115_131, g115_132, g115_133, g115_136, g115_139, g115_142, g115_143, g115_146, cont_1, cont_0, w32_k, in_t, in_f, mByte_t, mByte_f]
  by_cases c6 : x4 < 0
  · refine PQ_mk (v := aI (-2)) (M1 := M) (M2 := M) ?_ ?_ hI hS
    · rw [g49]
      simp (disch := omega) only [g49_0, g49_1, g49_2t, g49_2f, g49_5, g49_6, g49_7t, g49_7f, g49_10, g49_11, g49_14t, g49_14f, g49_17, g49_18, g49_21t, g49_21f, g49_24, g49_26, g49_29t, g49_29f, g49_32, g49_34, g49_37t, g49_37f, g49_40, g49_42, g49_45t, g49_45f, g49_48, g49_50, g49_51, g49_52, g49_55, g49_56, g49_57, g49_60t, g49_60f, g49_63, g49_65, g49_66, g49_67, g49_70, g49_71, g49_74, g49_75, g49_78, g49_79, g49_82, g49_83, g49_86, g49_87, g49_88, g49_89, g49_92, g49_93, g49_96, g49_97, g49_100, g49_101, g49_102, g49_104, g49_107, g49_108, g49_111, g49_112, g49_115, g49_116, g49_117, g49_119, g49_122, g49_123, g49_126, g49_127, g49_130, g49_131, g49_132, g49_134, g49_137, g49_138, g49_139, g49_142, g49_143, g49_144, g49_147, g49_148, g49_151, cont_1, cont_0, w32_k, isByte_t, isByte_f]
    · rw [g115]
      simp (disch := omega) only [g115_0, g115_1, g115_2, g115_3, g115_6t, g115_6f, g115_9, g115_10, g115_13t, g115_13f, g115_16, g115_17, g115_20t, g115_20f, g115_23, g115_25, g115_28t, g115_28f, g115_31, g115_33, g115_36t, g115_36f, g115_39, g115_41, g115_44t, g115_44f, g115_47, g115_49, g115_50, g115_51, g115_54, g115_55, g115_56, g115_59t, g115_59f, g115_62, g115_64, g115_65, g115_66, g115_70, g115_71t, g115_71f, g115_74, g115_75, g115_78, g115_79, g115_82, g115_84t, g115_84f, g115_87, g115_88, g115_91, g115_93, g115_94t, g115_94f, g115_97, g115_98, g115_101, g115_103, g115_104t, g115_104f, g115_107, g115_109, g115_112, g115_114, g115_115t, g115_115f, g115_118, g115_120, g115_123, g115_125, g115_126, g115_127, g115_128, g115_131, g115_132, g115_133, g115_136, g115_139, g115_142, g115_143, g115_146, cont_1, cont_0, w32_k, in_t, in_f, mByte_t, mByte_f]
  by_cases c7 : 256 ≤ x4
  · refine PQ_mk (v := aI (-2)) (M1 := M) (M2 := M) ?_ ?_ hI hS
    · rw [g49]
      simp (disch := omega) only [g49_0, g49_1, g49_2t, g49_2f, g49_5, g49_6, g49_7t, g49_7f, g49_10, g49_11, g49_14t, g49_14f, g49_17, g49_18, g49_21t, g49_21f, g49_24, g49_26, g49_29t, g49_29f, g49_32, g49_34, g49_37t, g49_37f, g49_40, g49_42, g49_45t, g49_45f, g49_48, g49_50, g49_51, g49_52, g49_55, g49_56, g49_57, g49_60t, g49_60f, g49_63, g49_65, g49_66, g49_67, g49_70, g49_71, g49_74, g49_75, g49_78, g49_79, g49_82, g49_83, g49_86, g49_87, g49_88, g49_89, g49_92, g49_93, g49_96, g49_97, g49_100, g49_101, g49_102, g49_104, g49_107, g49_108, g49_111, g49_112, g49_115, g49_116, g49_117, g49_119, g49_122, g49_123, g49_126, g49_127, g49_130, g49_131, g49_132, g49_134, g49_137, g49_138, g49_139, g49_142, g49_143, g49_144, g49_147, g49_148, g49_151, cont_1, cont_0, w32_k, isByte_t, isByte_f]
    · rw [g115]
      simp (disch := omega) only [g115_0, g115_1, g115_2, g115_3, g115_6t, g115_6f, g115_9, g115_10, g115_13t, g115_13f, g115_16, g115_17, g115_20t, g115_20f, g115_23, g115_25, g115_28t, g115_28f, g115_31, g115_33, g115_36t, g115_36f, g115_39, g115_41, g115_44t, g115_44f, g115_47, g115_49, g115_50, g115_51, g115_54, g115_55, g115_56, g115_59t, g115_59f, g115_62, g115_64, g115_65, g115_66, g115_70, g115_71t, g115_71f, g115_74, g115_75, g115_78, g115_79, g115_82, g115_84t, g115_84f, g115_87, g115_88, g115_91, g115_93, g115_94t, g115_94f, g115_97, g115_98, g115_101, g115_103, g115_104t, g115_104f, g115_107, g115_109, g115_112, g115_114, g115_115t, g115_115f, g115_118, g115_120, g115_123, g115_125, g115_126, g115_127, g115_128, g115_131, g115_132, g115_133, g115_136, g115_139, g115_142, g115_143, g115_146, cont_1, cont_0, w32_k, in_t, in_f, mByte_t, mByte_f]
  by_cases c8 : x5 < 0
  · refine PQ_mk (v := aI (-2)) (M1 := M) (M2 := M) ?_ ?_ hI hS
    · rw [g49]
      simp (disch := omega) only [g49_0, g49_1, g49_2t, g49_2f, g49_5, g49_6, g49_7t, g49_7f, g49_10, g49_11, g49_14t, g49_14f, g49_17, g49_18, g49_21t, g49_21f, g49_24, g49_26, g49_29t, g49_29f, g49_32, g49_34, g49_37t, g49_37f, g49_40, g49_42, g49_45t, g49_45f, g49_48, g49_50, g49_51, g49_52, g49_55, g49_56, g49_57, g49_60t, g49_60f, g49_63, g49_65, g49_66, g49_67, g49_70, g49_71, g49_74, g49_75, g49_78, g49_79, g49_82, g49_83, g49_86, g49_87, g49_88, g49_89, g49_92, g49_93, g49_96, g49_97, g49_100, g49_101, g49_102, g49_104, g49_107, g49_108, g49_111, g49_112, g49_115, g49_116, g49_117, g49_119, g49_122, g49_123, g49_126, g49_127, g49_130, g49_131, g49_132, g49_134, g49_137, g49_138, g49_139, g49_142, g49_143, g49_144, g49_147, g49_148, g49_151, cont_1, cont_0, w32_k, isByte_t, isByte_f]
    · rw [g115]
      simp (disch := omega) only [g115_0, g115_1, g115_2, g115_3, g115_6t, g115_6f, g115_9, g115_10, g115_13t, g115_13f, g115_16, g115_17, g115_20t, g115_20f, g115_23, g115_25, g115_28t, g115_28f, g115_31, g115_33, g115_36t, g115_36f, g115_39, g115_41, g115_44t, g115_44f, g115_47, g115_49, g115_50, g115_51, g115_54, g115_55, g115_56, g115_59t, g115_59f, g115_62, g115_64, g115_65, g115_66, g115_70, g115_71t, g115_71f, g115_74, g115_75, g115_78, g115_79, g115_82, g115_84t, g115_84f, g115_87, g115_88, g115_91, g115_93, g115_94t, g115_94f, g115_97, g115_98, g115_101, g115_103, g115_104t, g115_104f, g115_107, g115_109, g115_112, g115_114, g115_115t, g115_115f, g115_118, g115_120, g115_123, g115_125, g115_126, g115_127, g115_128, g115_131, g115_132, g115_133, g115_136, g115_139, g115_142, g115_143, g115_146, cont_1, cont_0, w32_k, in_t, in_f, mByte_t, mByte_f]
  by_cases c9 : 256 ≤ x5
  · refine PQ_mk (v := aI (-2)) (M1 := M) (M2 := M) ?_ ?_ hI hS
    · rw [g49]
      simp (disch := omega) only [g49_0, g49_1, g49_2t, g49_2f, g49_5, g49_6, g49_7t, g49_7f, g49_10, g49_11, g49_14t, g49_14f, g49_17, g49_18, g49_21t, g49_21f, g49_24, g49_26, g49_29t, g49_29f, g49_32, g49_34, g49_37t, g49_37f, g49_40, g49_42, g49_45t, g49_45f, g49_48, g49_50, g49_51, g49_52, g49_55, g49_56, g49_57, g49_60t, g49_60f, g49_63, g49_65, g49_66, g49_67, g49_70, g49_71, g49_74, g49_75, g49_78, g49_79, g49_82, g49_83, g49_86, g49_87, g49_88, g49_89, g49_92, g49_93, g49_96, g49_97, g49_100, g49_101, g49_102, g49_104, g49_107, g49_108, g49_111, g49_112, g49_115, g49_116, g49_117, g49_119, g49_122, g49_123, g49_126, g49_127, g49_130, g49_131, g49_132, g49_134, g49_137, g49_138, g49_139, g49_142, g49_143, g49_144, g49_147, g49_148, g49_151, cont_1, cont_0, w32_k, isByte_t, isByte_f]
    · rw [g115]
      simp (disch := omega) only [g115_0, g115_1, g115_2, g115_3, g115_6t, g115_6f, g115_9, g115_10, g115_13t, g115_13f, g115_16, g115_17, g115_20t, g115_20f, g115_23, g115_25, g115_28t, g115_28f, g115_31, g115_33, g115_36t, g115_36f, g115_39, g115_41, g115_44t, g115_44f, g115_47, g115_49, g115_50, g115_51, g115_54, g115_55, g115_56, g115_59t, g115_59f, g115_62, g115_64, g115_65, g115_66, g115_70, g115_71t, g115_71f, g115_74, g115_75, g115_78, g115_79, g115_82, g115_84t, g115_84f, g115_87, g115_88, g115_91, g115_93, g115_94t, g115_94f, g115_97, g115_98, g115_101, g115_103, g115_104t, g115_104f, g115_107, g115_109, g115_112, g115_114, g115_115t, g115_115f, g115_118, g115_120, g115_123, g115_125, g115_126, g115_127, g115_128, g115_131, g115_132, g115_133, g115_136, g115_139, g115_142, g115_143, g115_146, cont_1, cont_0, w32_k, in_t, in_f, mByte_t, mByte_f]
  by_cases c10 : x6 < 0
  · refine PQ_mk (v := aI (-2)) (M1 := M) (M2 := M) ?_ ?_ hI hS
    · rw [g49]
      simp (disch := omega) only [g49_0, g49_1, g49_2t, g49_2f, g49_5, g49_6, g49_7t, g49_7f, g49_10, g49_11, g49_14t, g49_14f, g49_17, g49_18, g49_21t, g49_21f, g49_24, g49_26, g49_29t, g49_29f, g49_32, g49_34, g49_37t, g49_37f, g49_40, g49_42, g49_45t, g49_45f, g49_48, g49_50, g49_51, g49_52, g49_55, g49_56, g49_57, g49_60t, g49_60f, g49_63, g49_65, g49_66, g49_67, g49_70, g49_71, g49_74, g49_75, g49_78, g49_79, g49_82, g49_83, g49_86, g49_87, g49_88, g49_89, g49_92, g49_93, g49_96, g49_97, g49_100, g49_101, g49_102, g49_104, g49_107, g49_108, g49_111, g49_112, g49_115, g49_116, g49_117, g49_119, g49_122, g49_123, g49_126, g49_127, g49_130, g49_131, g49_132, g49_134, g49_137, g49_138, g49_139, g49_142, g49_143, g49_144, g49_147, g49_148, g49_151, cont_1, cont_0, w32_k, isByte_t, isByte_f]
    · rw [g115]
      simp (disch := omega) only [g115_0, g115_1, g115_2, g115_3, g115_6t, g115_6f, g115_9, g115_10, g115_13t, g115_13f, g115_16, g115_17, g115_20t, g115_20f, g115_23, g115_25, g115_28t, g115_28f, g115_31, g115_33, g115_36t, g115_36f, g115_39, g115_41, g115_44t, g115_44f, g115_47, g115_49, g115_50, g115_51, g115_54, g115_55, g115_56, g115_59t, g115_59f, g115_62, g115_64, g115_65, g115_66, g115_70, g115_71t, g115_71f, g115_74, g115_75, g115_78, g115_79, g115_82, g115_84t, g115_84f, g115_87, g115_88, g115_91, g115_93, g115_94t, g115_94f, g115_97, g115_98, g115_101, g115_103, g115_104t, g115_104f, g115_107, g115_109, g115_112, g115_114, g115_115t, g115_115f, g115_118, g115_120, g115_123, g115_125, g115_126, g115_127, g115_128, g115_131, g115_132, g115_133, g115_136, g115_139, g115_142, g115_143, g115_146, cont_1, cont_0, w32_k, in_t, in_f, mByte_t, mByte_f]
  by_cases c11 : 256 ≤ x6
  · refine PQ_mk (v := aI (-2)) (M1 := M) (M2 := M) ?_ ?_ hI hS
    · rw [g49]
      simp (disch := omega) only [g49_0, g49_1, g49_2t, g49_2f, g49_5, g49_6, g49_7t, g49_7f, g49_10, g49_11, g49_14t, g49_14f, g49_17, g49_18, g49_21t, g49_21f, g49_24, g49_26, g49_29t, g49_29f, g49_32, g49_34, g49_37t, g49_37f, g49_40, g49_42, g49_45t, g49_45f, g49_48, g49_50, g49_51, g49_52, g49_55, g49_56, g49_57, g49_60t, g49_60f, g49_63, g49_65, g49_66, g49_67, g49_70, g49_71, g49_74, g49_75, g49_78, g49_79, g49_82, g49_83, g49_86, g49_87, g49_88, g49_89, g49_92, g49_93, g49_96, g49_97, g49_100, g49_101, g49_102, g49_104, g49_107, g49_108, g49_111, g49_112, g49_115, g49_116, g49_117, g49_119, g49_122, g49_123, g49_126, g49_127, g49_130, g49_131, g49_132, g49_134, g49_137, g49_138, g49_139, g49_142, g49_143, g49_144, g49_147, g49_148, g49_151, cont_1, cont_0, w32_k, isByte_t, isByte_f]
    · rw [g115]
      simp (disch := omega) only [g115_0, g115_1, g115_2, g115_3, g115_6t, g115_6f, g115_9, g115_10, g115_13t, g115_13f, g115_16, g115_17, g115_20t, g115_20f, g115_23, g115_25, g115_28t, g115_28f, g115_31, g115_33, g115_36t, g115_36f, g115_39, g115_41, g115_44t, g115_44f, g115_47, g115_49, g115_50, g115_51, g115_54, g115_55, g115_56, g115_59t, g115_59f, g115_62, g115_64, g115_65, g115_66, g115_70, g115_71t, g115_71f, g115_74, g115_75, g115_78, g115_79, g115_82, g115_84t, g115_84f, g115_87, g115_88, g115_91, g115_93, g115_94t, g115_94f, g115_97, g115_98, g115_101, g115_103, g115_104t, g115_104f, g115_107, g115_109, g115_112, g115_114, g115_115t, g115_115f, g115_118, g115_120, g115_123, g115_125, g115_126, g115_127, g115_128, g115_131, g115_132, g115_133, g115_136, g115_139, g115_142, g115_143, g115_146, cont_1, cont_0, w32_k, in_t, in_f, mByte_t, mByte_f]
  by_cases c12 : 160 < M 6 7 + x1
  · refine PQ_mk (v := aI (-4)) (M1 := M) (M2 := M) ?_ ?_ hI hS
    · rw [g49]
      simp (disch := omega) only [g49_0, g49_1, g49_2t, g49_2f, g49_5, g49_6, g49_7t, g49_7f, g49_10, g49_11, g49_14t, g49_14f, g49_17, g49_18, g49_21t, g49_21f, g49_24, g49_26, g49_29t, g49_29f, g49_32, g49_34, g49_37t, g49_37f, g49_40, g49_42, g49_45t, g49_45f, g49_48, g49_50, g49_51, g49_52, g49_55, g49_56, g49_57, g49_60t, g49_60f, g49_63, g49_65, g49_66, g49_67, g49_70, g49_71, g49_74, g49_75, g49_78, g49_79, g49_82, g49_83, g49_86, g49_87, g49_88, g49_89, g49_92, g49_93, g49_96, g49_97, g49_100, g49_101, g49_102, g49_104, g49_107, g49_108, g49_111, g49_112, g49_115, g49_116, g49_117, g49_119, g49_122, g49_123, g49_126, g49_127, g49_130, g49_131, g49_132, g49_134, g49_137, g49_138, g49_139, g49_142, g49_143, g49_144, g49_147, g49_148, g49_151, cont_1, cont_0, w32_k, w32_o, isByte_t]
    · rw [g115]
      simp (disch := omega) only [g115_0, g115_1, g115_2, g115_3, g115_6t, g115_6f, g115_9, g115_10, g115_13t, g115_13f, g115_16, g115_17, g115_20t, g115_20f, g115_23, g115_25, g115_28t, g115_28f, g115_31, g115_33, g115_36t, g115_36f, g115_39, g115_41, g115_44t, g115_44f, g115_47, g115_49, g115_50, g115_51, g115_54, g115_55, g115_56, g115_59t, g115_59f, g115_62, g115_64, g115_65, g115_66, g115_70, g115_71t, g115_71f, g115_74, g115_75, g115_78, g115_79, g115_82, g115_84t, g115_84f, g115_87, g115_88, g115_91, g115_93, g115_94t, g115_94f, g115_97, g115_98, g115_101, g115_103, g115_104t, g115_104f, g115_107, g115_109, g115_112, g115_114, g115_115t, g115_115f, g115_118, g115_120, g115_123, g115_125, g115_126, g115_127, g115_128, g115_131, g115_132, g115_133, g115_136, g115_139, g115_142, g115_143, g115_146, cont_1, cont_0, w32_k, w32_o, in_t, mByte_t]
  · obtain ⟨ts, hts⟩ : ∃ ts : Nat, M 6 7 = (ts : Int) := ⟨(M 6 7).toNat, by omega⟩
    have hts84 := t3.trans hts
    obtain ⟨M0, hM0⟩ : ∃ M0, M0 = ptM (ptM (ptM (ptM (ptM M (ts : Int) x2) ((ts : Int) + 1) x3) ((ts : Int) + 2) x4) ((ts : Int) + 3) x5) ((ts : Int) + 4) x6 := ⟨_, rfl⟩
    have r0 : ∀ a, a ≠ 38 → M0 a = M a := fun a h => by
      rw [hM0, pt_o h, pt_o h, pt_o h, pt_o h, pt_o h]
    have r0a : ∀ k, k < ts → M0 38 k = M 38 k := fun k h => by
      rw [hM0, pt_ne (by omega), pt_ne (by omega), pt_ne (by omega), pt_ne (by omega), pt_ne (by omega)]
    have r0b : ∀ q : Nat, (q : Int) < x1 → M0 38 (ts + q) = valF x2 x3 x4 x5 x6 q := fun q h => by
      rw [hM0]
      rcases (by omega : q = 0 ∨ q = 1 ∨ q = 2 ∨ q = 3 ∨ q = 4) with rfl | rfl | rfl | rfl | rfl
      · rw [pt_ne (by omega), pt_ne (by omega), pt_ne (by omega), pt_ne (by omega), pt_eq (by omega) (by omega)]
        rfl
      · rw [pt_ne (by omega), pt_ne (by omega), pt_ne (by omega), pt_eq (by omega) (by omega)]
        rfl
      · rw [pt_ne (by omega), pt_ne (by omega), pt_eq (by omega) (by omega)]
        rfl
      · rw [pt_ne (by omega), pt_eq (by omega) (by omega)]
        rfl
      · rw [pt_eq (by omega) (by omega)]
        rfl
    have z1 : res 49 [aR 6, aI x1, aI x2, aI x3, aI x4, aI x5, aI x6] M S = some (some (aI ((ts : Int) + x1)), mset M0 6 7 ((ts : Int) + x1), S) := by
      rw [hM0, g49]
      simp (disch := omega) only [g49_0, g49_1, g49_2t, g49_2f, g49_5, g49_6, g49_7t, g49_7f, g49_10, g49_11, g49_14t, g49_14f, g49_17, g49_18, g49_21t, g49_21f, g49_24, g49_26, g49_29t, g49_29f, g49_32, g49_34, g49_37t, g49_37f, g49_40, g49_42, g49_45t, g49_45f, g49_48, g49_50, g49_51, g49_52, g49_55, g49_56, g49_57, g49_60t, g49_60f, g49_63, g49_65, g49_66, g49_67, g49_70, g49_71, g49_74, g49_75, g49_78, g49_79, g49_82, g49_83, g49_86, g49_87, g49_88, g49_89, g49_92, g49_93, g49_96, g49_97, g49_100, g49_101, g49_102, g49_104, g49_107, g49_108, g49_111, g49_112, g49_115, g49_116, g49_117, g49_119, g49_122, g49_123, g49_126, g49_127, g49_130, g49_131, g49_132, g49_134, g49_137, g49_138, g49_139, g49_142, g49_143, g49_144, g49_147, g49_148, g49_151, cont_1, cont_0, w32_k, w32_o, isByte_t, P6_6 hS, hts, pt_ hS, pt_o, mset_eq]
    clear hM0
    obtain ⟨M1, hM1⟩ : ∃ M1, M1 = mset M0 6 7 ((ts : Int) + x1) := ⟨_, rfl⟩
    rw [← hM1] at z1
    have r1 : ∀ a, a ≠ 38 → a ≠ 6 → M1 a = M a := fun a h1 h2 => by
      rw [hM1, mset_ne _ _ _ h2]
      exact r0 a h1
    have r16 : ∀ j, j ≠ 7 → M1 6 j = M 6 j := fun j h => by
      rw [hM1, mset_nk _ h, r0 6 (by omega)]
    have r167 : M1 6 7 = (ts : Int) + x1 := by rw [hM1, mset_eq]
    have r138 : M1 38 = M0 38 := by rw [hM1, mset_ne _ _ _ (by omega)]
    clear hM1
    have q13 : M1 84 13 = (ts : Int) := by rw [r1 84 (by omega) (by omega)]; exact hts84
    have z2 := feed_loop (r := 12) (ts := ts) (n0 := x1) (a := x2) (b := x3) (c := x4) (d := x5) (e := x6) (M := M1) hS (by omega) (by omega) x1.toNat 0 (by omega)
    rw [rseg_0, mrow_self, show (ts : Int) + ((0 : Nat) : Int) = M1 84 13 by omega, mset_same] at z2
    obtain ⟨M2, hM2⟩ : ∃ M2, M2 = mset (mrow M1 92 (rseg ts x1.toNat (valF x2 x3 x4 x5 x6) (M1 92))) 84 13 ((ts : Int) + x1) := ⟨_, rfl⟩
    rw [← hM2] at z2
    have T : ∀ a, a ≠ 38 → a ≠ 6 → a ≠ 84 → a ≠ 92 → M2 a = M a := fun a h1 h2 h3 h4 => by
      rw [hM2, mset_ne _ _ _ h3, mrow_ne _ _ h4]
      exact r1 a h1 h2
    have t6 : ∀ j, j ≠ 7 → M2 6 j = M 6 j := fun j h => by
      rw [hM2, mset_ne _ _ _ (by omega), mrow_ne _ _ (by omega)]
      exact r16 j h
    have t67 : M2 6 7 = (ts : Int) + x1 := by
      rw [hM2, mset_ne _ _ _ (by omega), mrow_ne _ _ (by omega)]
      exact r167
    have t84 : ∀ j, j ≠ 13 → M2 84 j = M 84 j := fun j h => by
      rw [hM2, mset_nk _ h, mrow_ne _ _ (by omega), r1 84 (by omega) (by omega)]
    have t8413 : M2 84 13 = (ts : Int) + x1 := by rw [hM2, mset_eq]
    have t38 : M2 38 = M0 38 := by
      rw [hM2, mset_ne _ _ _ (by omega), mrow_ne _ _ (by omega), r138]
    have t92 : M2 92 = rseg ts x1.toNat (valF x2 x3 x4 x5 x6) (M 92) := by
      rw [hM2, mset_ne _ _ _ (by omega), mrow_eq, r1 92 (by omega) (by omega)]
    clear hM2
    refine PQ_mk (v := aI ((ts : Int) + x1)) (M1 := M1) (M2 := M2) z1 ?_ ?_ hS
    · rw [g115]
      simp (disch := omega) only [g115_0, g115_1, g115_2, g115_3, g115_6t, g115_6f, g115_9, g115_10, g115_13t, g115_13f, g115_16, g115_17, g115_20t, g115_20f, g115_23, g115_25, g115_28t, g115_28f, g115_31, g115_33, g115_36t, g115_36f, g115_39, g115_41, g115_44t, g115_44f, g115_47, g115_49, g115_50, g115_51, g115_54, g115_55, g115_56, g115_59t, g115_59f, g115_62, g115_64, g115_65, g115_66, g115_70, g115_71t, g115_71f, g115_74, g115_75, g115_78, g115_79, g115_82, g115_84t, g115_84f, g115_87, g115_88, g115_91, g115_93, g115_94t, g115_94f, g115_97, g115_98, g115_101, g115_103, g115_104t, g115_104f, g115_107, g115_109, g115_112, g115_114, g115_115t, g115_115f, g115_118, g115_120, g115_123, g115_125, g115_126, g115_127, g115_128, g115_131, g115_132, g115_133, g115_136, g115_139, g115_142, g115_143, g115_146, cont_1, cont_0, w32_k, w32_o, in_t, mByte_t, q13]
      exact z2
    · obtain ⟨hLand, hStr, hPla, hNow, hTap, hImg, hShe, hCst, hLaw⟩ := hI
      refine ⟨fr_Land (T 8 (by omega) (by omega) (by omega) (by omega)) (T 9 (by omega) (by omega) (by omega) (by omega)) (T 85 (by omega) (by omega) (by omega) (by omega)) (T 86 (by omega) (by omega) (by omega) (by omega)) hLand, fr_Str (T 10 (by omega) (by omega) (by omega) (by omega)) (T 11 (by omega) (by omega) (by omega) (by omega)) (T 90 (by omega) (by omega) (by omega) (by omega)) (T 91 (by omega) (by omega) (by omega) (by omega)) (by rw [T 7 (by omega) (by omega) (by omega) (by omega)]) (t84 9 (by omega)) hStr, fr_Pla (T 12 (by omega) (by omega) (by omega) (by omega)) (T 13 (by omega) (by omega) (by omega) (by omega)) (T 14 (by omega) (by omega) (by omega) (by omega)) (T 15 (by omega) (by omega) (by omega) (by omega)) (T 16 (by omega) (by omega) (by omega) (by omega)) (T 87 (by omega) (by omega) (by omega) (by omega)) (T 88 (by omega) (by omega) (by omega) (by omega)) (T 89 (by omega) (by omega) (by omega) (by omega)) (by rw [T 7 (by omega) (by omega) (by omega) (by omega)]) (t84 5 (by omega)) hPla, fr_Now (by rw [T 7 (by omega) (by omega) (by omega) (by omega)]) (by rw [T 7 (by omega) (by omega) (by omega) (by omega)]) (by rw [T 7 (by omega) (by omega) (by omega) (by omega)]) (by rw [T 7 (by omega) (by omega) (by omega) (by omega)]) (by rw [T 7 (by omega) (by omega) (by omega) (by omega)]) (t84 2 (by omega)) (t84 3 (by omega)) (t84 4 (by omega)) (t84 17 (by omega)) (t6 5 (by omega)) hNow, ?_, fr_Img (T 12 (by omega) (by omega) (by omega) (by omega)) (T 13 (by omega) (by omega) (by omega) (by omega)) (T 28 (by omega) (by omega) (by omega) (by omega)) (T 29 (by omega) (by omega) (by omega) (by omega)) (T 30 (by omega) (by omega) (by omega) (by omega)) (T 31 (by omega) (by omega) (by omega) (by omega)) (T 32 (by omega) (by omega) (by omega) (by omega)) (T 33 (by omega) (by omega) (by omega) (by omega)) (T 34 (by omega) (by omega) (by omega) (by omega)) (T 35 (by omega) (by omega) (by omega) (by omega)) (T 36 (by omega) (by omega) (by omega) (by omega)) (T 95 (by omega) (by omega) (by omega) (by omega)) (T 96 (by omega) (by omega) (by omega) (by omega)) (T 97 (by omega) (by omega) (by omega) (by omega)) (t84 18 (by omega)) (t6 3 (by omega)) (t6 5 (by omega)) (by rw [T 7 (by omega) (by omega) (by omega) (by omega)]) (by rw [T 27 (by omega) (by omega) (by omega) (by omega)]) (by rw [T 27 (by omega) (by omega) (by omega) (by omega)]) (by rw [T 27 (by omega) (by omega) (by omega) (by omega)]) (by rw [T 27 (by omega) (by omega) (by omega) (by omega)]) (by rw [T 27 (by omega) (by omega) (by omega) (by omega)]) (by rw [T 27 (by omega) (by omega) (by omega) (by omega)]) hImg, fr_She hShe (fun a ha => T a (by omega) (by omega) (by omega) (by omega)), fr_Cst (T 0 (by omega) (by omega) (by omega) (by omega)) (T 1 (by omega) (by omega) (by omega) (by omega)) (T 2 (by omega) (by omega) (by omega) (by omega)) (T 5 (by omega) (by omega) (by omega) (by omega)) (T 102 (by omega) (by omega) (by omega) (by omega)) (t84 43 (by omega)) hCst, fr_Law hLaw hTap.2.2.1 (t6 5 (by omega)) (fun a ha => T a (by omega) (by omega) (by omega) (by omega))⟩
      obtain ⟨e1, e2, e3, e4, e5, e6, e7⟩ := hTap
      unfold iTap
      rw [t84 16 (by omega), t6 5 (by omega), t8413, t67]
      refine ⟨e1, e2, e3, rfl, by omega, by omega, fun k hk => ?_⟩
      rw [t92, t38]
      by_cases hk2 : k < ts
      · rw [rseg_out (by omega), r0a k hk2]
        exact e7 k (by omega)
      · obtain ⟨q, rfl⟩ : ∃ q, k = ts + q := ⟨k - ts, by omega⟩
        rw [rseg_in (by omega), r0b q (by omega)]
        refine ⟨rfl, ?_⟩
        unfold valF
        split
        · omega
        · split
          · omega
          · split
            · omega
            · split <;> omega
