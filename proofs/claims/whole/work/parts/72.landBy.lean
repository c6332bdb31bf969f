/-! landBy -/
def lbF (c : Nat → Int) (sz at0 : Int) : Nat → Nat → (Nat → Int) → Int → Int × (Nat → Int)
  | 0, _, h, b => (b, h)
  | rem + 1, k, h, b => if at0 < 0 ∨ sz - 2 < at0 + 2 * (k : Int) then (-12, h)
    else if (0 ≤ c (at0.toNat + 2 * k) ∧ c (at0.toNat + 2 * k) < 192) ∧ (0 ≤ c (at0.toNat + 2 * k + 1) ∧ c (at0.toNat + 2 * k + 1) ≤ 9) then lbF c sz at0 rem (k + 1) (fset h (c (at0.toNat + 2 * k)).toNat (c (at0.toNat + 2 * k + 1))) (b + 1)
    else lbF c sz at0 rem (k + 1) h b
theorem lb_0 {c : Nat → Int} {sz at0 : Int} {rem k : Nat} {h : Nat → Int} {b : Int} (e : at0 < 0 ∨ sz - 2 < at0 + 2 * (k : Int)) : lbF c sz at0 (rem + 1) k h b = (-12, h) := if_pos e
theorem lb_1 {c : Nat → Int} {sz at0 : Int} {rem k : Nat} {h : Nat → Int} {b : Int} (e : ¬ (at0 < 0 ∨ sz - 2 < at0 + 2 * (k : Int))) (g : (0 ≤ c (at0.toNat + 2 * k) ∧ c (at0.toNat + 2 * k) < 192) ∧ (0 ≤ c (at0.toNat + 2 * k + 1) ∧ c (at0.toNat + 2 * k + 1) ≤ 9)) : lbF c sz at0 (rem + 1) k h b = lbF c sz at0 rem (k + 1) (fset h (c (at0.toNat + 2 * k)).toNat (c (at0.toNat + 2 * k + 1))) (b + 1) := (if_neg e).trans (if_pos g)
theorem lb_2 {c : Nat → Int} {sz at0 : Int} {rem k : Nat} {h : Nat → Int} {b : Int} (e : ¬ (at0 < 0 ∨ sz - 2 < at0 + 2 * (k : Int))) (g : ¬ ((0 ≤ c (at0.toNat + 2 * k) ∧ c (at0.toNat + 2 * k) < 192) ∧ (0 ≤ c (at0.toNat + 2 * k + 1) ∧ c (at0.toNat + 2 * k + 1) ≤ 9))) : lbF c sz at0 (rem + 1) k h b = lbF c sz at0 rem (k + 1) h b := (if_neg e).trans (if_neg g)
/-- the answer rests on no row, the rows go alike -/
theorem lb_ag {c c' : Nat → Int} {sz at0 : Int} (hc : ∀ k, k < 40 → c k = c' k) (hz : sz ≤ 40) : ∀ (rem k : Nat) (h h' : Nat → Int) (b : Int), (∀ q, q < 192 → h q = h' q ∧ 0 ≤ h q ∧ h q ≤ 9) → (lbF c sz at0 rem k h b).1 = (lbF c' sz at0 rem k h' b).1 ∧ ∀ q, q < 192 → (lbF c sz at0 rem k h b).2 q = (lbF c' sz at0 rem k h' b).2 q ∧ 0 ≤ (lbF c sz at0 rem k h b).2 q ∧ (lbF c sz at0 rem k h b).2 q ≤ 9 := by
  intro rem
  induction rem with
  | zero => intro k h h' b hh; exact ⟨rfl, hh⟩
  | succ rem ih =>
    intro k h h' b hh
    by_cases e : at0 < 0 ∨ sz - 2 < at0 + 2 * (k : Int)
    · rw [lb_0 e, lb_0 e]
      exact ⟨rfl, hh⟩
    · have e1 := hc (at0.toNat + 2 * k) (by omega)
      have e2 := hc (at0.toNat + 2 * k + 1) (by omega)
      by_cases g : (0 ≤ c (at0.toNat + 2 * k) ∧ c (at0.toNat + 2 * k) < 192) ∧ (0 ≤ c (at0.toNat + 2 * k + 1) ∧ c (at0.toNat + 2 * k + 1) ≤ 9)
      · rw [lb_1 e g, lb_1 e (by rw [← e1, ← e2]; exact g), ← e1, ← e2]
        refine ih (k + 1) _ _ (b + 1) (fun q hq => ?_)
        by_cases hqe : q = (c (at0.toNat + 2 * k)).toNat
        · rw [hqe, fset_eq, fset_eq]
          exact ⟨rfl, g.2⟩
        · rw [fset_ne _ _ hqe, fset_ne _ _ hqe]
          exact hh q hq
      · rw [lb_2 e g, lb_2 e (by rw [← e1, ← e2]; exact g)]
        exact ih (k + 1) h h' b hh
theorem landBy_c {n r s n0 : Nat} {x2 at0 : Int} {M : Mem} {S : Sh} (hr : 10 < r) (hS : Std n S) (hs : s < 4) (h20 : n0 ≤ 20) (z0 : 0 ≤ M (76 + 2 * s) 2) (z1 : M (76 + 2 * s) 2 ≤ 40) : ∀ (rem k : Nat) (h : Nat → Int) (b : Int) (l8 l9 : Option AV), k + rem = n0 → 0 ≤ b → b ≤ k → go r 82 66 [some (aR 6), some (aI (s : Int)), some (aI x2), some (aI at0), some (aI (n0 : Int)), some (aR (76 + 2 * s)), some (aI b), some (aI (k : Int)), l8, l9] [] (mrow M 8 h) S = some (some (aI (lbF (M (77 + 2 * s)) (M (76 + 2 * s) 2) at0 rem k h b).1), mrow M 8 (lbF (M (77 + 2 * s)) (M (76 + 2 * s) 2) at0 rem k h b).2, S) := by
  have k6 := K6 hS
  have k7 := K7 hS
  have k8 := K8 hS
  have l8 := L8 hS
  obtain ⟨sk, sk7, sl, sp⟩ := sheS_of hS hs
  intro rem
  induction rem with
  | zero =>
    intro k h b l8 l9 hk b0 b1
    have e : k = n0 := by omega
    subst e
    rw [g82_66]
    simp (disch := omega) only [g82_0, g82_1, g82_2, g82_5, g82_5n, g82_7, g82_7n, g82_9, g82_9n, g82_12, g82_13t, g82_13f, g82_16, g82_17, g82_18t, g82_18f, g82_21, g82_23t, g82_23f, g82_26, g82_28, g82_30t, g82_30f, g82_33, g82_35, g82_36, g82_36n, g82_38, g82_41, g82_42t, g82_42f, g82_45, g82_47, g82_48, g82_48n, g82_50, g82_53, g82_54t, g82_54f, g82_57, g82_59, g82_60, g82_61, g82_63, g82_64, g82_68, g82_70t, g82_70f, g82_73, g82_74t, g82_74f, g82_77, g82_78, g82_78n, g82_80, g82_83, g82_84, g82_85, g82_86, g82_88, g82_89, g82_90t, g82_90f, g82_93, g82_95, g82_96, g82_96n, g82_98, g82_101, g82_102, g82_103, g82_105, g82_106, g82_107, g82_110, g82_112, g82_112n, g82_114, g82_117, g82_118, g82_119, g82_121, g82_122, g82_123, g82_124, g82_125, g82_128, g82_130, g82_132, g82_135t, g82_135f, g82_138, g82_140t, g82_140f, g82_143, g82_145, g82_147t, g82_147f, g82_150, g82_151, g82_154, g82_157, g82_159, g82_161, g82_164, g82_167, g82_170, g82_173, g82_175, cont_1, cont_0, w32_k]
    rfl
  | succ rem ih =>
    intro k h b l8 l9 hk b0 b1
    rw [g82_66]
    by_cases e : at0 < 0 ∨ M (76 + 2 * s) 2 - 2 < at0 + 2 * (k : Int)
    · rw [lb_0 e]
      rcases (by omega : at0 < 0 ∨ (0 ≤ at0 ∧ M (76 + 2 * s) 2 - 2 < at0 + 2 * (k : Int))) with e | e
      all_goals simp (disch := omega) only [g82_0, g82_1, g82_2, g82_5, g82_5n, g82_7, g82_7n, g82_9, g82_9n, g82_12, g82_13t, g82_13f, g82_16, g82_17, g82_18t, g82_18f, g82_21, g82_23t, g82_23f, g82_26, g82_28, g82_30t, g82_30f, g82_33, g82_35, g82_36, g82_36n, g82_38, g82_41, g82_42t, g82_42f, g82_45, g82_47, g82_48, g82_48n, g82_50, g82_53, g82_54t, g82_54f, g82_57, g82_59, g82_60, g82_61, g82_63, g82_64, g82_68, g82_70t, g82_70f, g82_73, g82_74t, g82_74f, g82_77, g82_78, g82_78n, g82_80, g82_83, g82_84, g82_85, g82_86, g82_88, g82_89, g82_90t, g82_90f, g82_93, g82_95, g82_96, g82_96n, g82_98, g82_101, g82_102, g82_103, g82_105, g82_106, g82_107, g82_110, g82_112, g82_112n, g82_114, g82_117, g82_118, g82_119, g82_121, g82_122, g82_123, g82_124, g82_125, g82_128, g82_130, g82_132, g82_135t, g82_135f, g82_138, g82_140t, g82_140f, g82_143, g82_145, g82_147t, g82_147f, g82_150, g82_151, g82_154, g82_157, g82_159, g82_161, g82_164, g82_167, g82_170, g82_173, g82_175, cont_1, cont_0, w32_k, w32_o, mrow_ne]
    · obtain ⟨a, rfl⟩ : ∃ q : Nat, at0 = (q : Int) := ⟨at0.toNat, by omega⟩
      have i1 : ((a : Int) + 2 * (k : Int)).toNat = a + 2 * k := by omega
      have i2 : ((a : Int) + 2 * (k : Int) + 1).toNat = a + 2 * k + 1 := by omega
      have ih1 := ih (k + 1)
      rw [nc_1] at ih1
      by_cases g : (0 ≤ M (77 + 2 * s) (a + 2 * k) ∧ M (77 + 2 * s) (a + 2 * k) < 192) ∧ (0 ≤ M (77 + 2 * s) (a + 2 * k + 1) ∧ M (77 + 2 * s) (a + 2 * k + 1) ≤ 9)
      · rw [lb_1 e (by rw [Int.toNat_natCast]; exact g), Int.toNat_natCast]
        rw [← ih1 (fset h (M (77 + 2 * s) (a + 2 * k)).toNat (M (77 + 2 * s) (a + 2 * k + 1))) (b + 1) (some (aI (M (77 + 2 * s) (a + 2 * k)))) (some (aI (M (77 + 2 * s) (a + 2 * k + 1)))) (by omega) (by omega) (by omega)]
        simp (disch := omega) only [g82_0, g82_1, g82_2, g82_5, g82_5n, g82_7, g82_7n, g82_9, g82_9n, g82_12, g82_13t, g82_13f, g82_16, g82_17, g82_18t, g82_18f, g82_21, g82_23t, g82_23f, g82_26, g82_28, g82_30t, g82_30f, g82_33, g82_35, g82_36, g82_36n, g82_38, g82_41, g82_42t, g82_42f, g82_45, g82_47, g82_48, g82_48n, g82_50, g82_53, g82_54t, g82_54f, g82_57, g82_59, g82_60, g82_61, g82_63, g82_64, g82_68, g82_70t, g82_70f, g82_73, g82_74t, g82_74f, g82_77, g82_78, g82_78n, g82_80, g82_83, g82_84, g82_85, g82_86, g82_88, g82_89, g82_90t, g82_90f, g82_93, g82_95, g82_96, g82_96n, g82_98, g82_101, g82_102, g82_103, g82_105, g82_106, g82_107, g82_110, g82_112, g82_112n, g82_114, g82_117, g82_118, g82_119, g82_121, g82_122, g82_123, g82_124, g82_125, g82_128, g82_130, g82_132, g82_135t, g82_135f, g82_138, g82_140t, g82_140f, g82_143, g82_145, g82_147t, g82_147f, g82_150, g82_151, g82_154, g82_157, g82_159, g82_161, g82_164, g82_167, g82_170, g82_173, g82_175, cont_1, cont_0, w32_k, w32_o, mrow_ne, at_in, put_in, sp, isMile_t, P6_0 hS, P7_0 hS, mset_mrow, i1, i2]
      · rw [lb_2 e (by rw [Int.toNat_natCast]; exact g)]
        rw [← ih1 h b (some (aI (M (77 + 2 * s) (a + 2 * k)))) (some (aI (M (77 + 2 * s) (a + 2 * k + 1)))) (by omega) b0 (by omega)]
        rcases (by omega : (M (77 + 2 * s) (a + 2 * k) < 0 ∨ 192 ≤ M (77 + 2 * s) (a + 2 * k)) ∨ ((0 ≤ M (77 + 2 * s) (a + 2 * k) ∧ M (77 + 2 * s) (a + 2 * k) < 192) ∧ M (77 + 2 * s) (a + 2 * k + 1) < 0) ∨ ((0 ≤ M (77 + 2 * s) (a + 2 * k) ∧ M (77 + 2 * s) (a + 2 * k) < 192) ∧ (0 ≤ M (77 + 2 * s) (a + 2 * k + 1) ∧ 9 < M (77 + 2 * s) (a + 2 * k + 1)))) with g | g | g
        all_goals simp (disch := omega) only [g82_0, g82_1, g82_2, g82_5, g82_5n, g82_7, g82_7n, g82_9, g82_9n, g82_12, g82_13t, g82_13f, g82_16, g82_17, g82_18t, g82_18f, g82_21, g82_23t, g82_23f, g82_26, g82_28, g82_30t, g82_30f, g82_33, g82_35, g82_36, g82_36n, g82_38, g82_41, g82_42t, g82_42f, g82_45, g82_47, g82_48, g82_48n, g82_50, g82_53, g82_54t, g82_54f, g82_57, g82_59, g82_60, g82_61, g82_63, g82_64, g82_68, g82_70t, g82_70f, g82_73, g82_74t, g82_74f, g82_77, g82_78, g82_78n, g82_80, g82_83, g82_84, g82_85, g82_86, g82_88, g82_89, g82_90t, g82_90f, g82_93, g82_95, g82_96, g82_96n, g82_98, g82_101, g82_102, g82_103, g82_105, g82_106, g82_107, g82_110, g82_112, g82_112n, g82_114, g82_117, g82_118, g82_119, g82_121, g82_122, g82_123, g82_124, g82_125, g82_128, g82_130, g82_132, g82_135t, g82_135f, g82_138, g82_140t, g82_140f, g82_143, g82_145, g82_147t, g82_147f, g82_150, g82_151, g82_154, g82_157, g82_159, g82_161, g82_164, g82_167, g82_170, g82_173, g82_175, cont_1, cont_0, w32_k, w32_o, mrow_ne, at_in, sp, isMile_t, isMile_f, i1, i2]
theorem mm0 {n : Nat} {i : Int} {M : Mem} {S : Sh} (hS : Std n S) (h0 : 0 ≤ i) (h1 : i < 192) : res 113 [aR 84, aI i, aI 0] M S = some (some (aI (M 85 i.toNat)), M, S) := by
  have k84 := K84 hS
  have k85 := K85 hS
  have k86 := K86 hS
  have l85 := L85 hS
  have l86 := L86 hS
  rw [g113]
  simp (disch := omega) only [g113_0, g113_1, g113_4t, g113_4f, g113_7, g113_9, g113_10, g113_11t, g113_11f, g113_14, g113_15, g113_18, g113_19, g113_20, g113_23, g113_24, g113_25t, g113_25f, g113_28, g113_29, g113_32, g113_33, g113_34, g113_37, g113_39, cont_1, cont_0, w32_k, mMile_t, P84_0 hS, P84_1 hS]
theorem mset_same {M : Mem} {a k : Nat} : mset M a k (M a k) = M := by
  funext b j
  unfold mset
  by_cases h : b = a ∧ j = k
  · rw [if_pos h, h.1, h.2]
  · rw [if_neg h]
theorem land_t {n : Nat} {m v : Int} {M : Mem} {S : Sh} (hS : Std n S) (m0 : 0 ≤ m) (m1 : m < 192) (v0 : 0 ≤ v) (v1 : v ≤ 9) : res 112 [aR 84, aI m, aI 0, aI v] M S = some (some (aI (M 85 m.toNat)), mset M 85 m.toNat v, S) := by
  have k84 := K84 hS
  have k85 := K85 hS
  have k86 := K86 hS
  have l85 := L85 hS
  have l86 := L86 hS
  have e : M 86 m.toNat = mset M 85 m.toNat v 86 m.toNat := by rw [mset_ne _ _ _ (by omega)]
  rw [g112]
  simp (disch := omega) only [g112_0, g112_1, g112_4t, g112_4f, g112_7, g112_9, g112_10, g112_11, g112_12, g112_13, g112_16t, g112_16f, g112_19, g112_20, g112_21, g112_22t, g112_22f, g112_25, g112_27, g112_30, g112_31, g112_34t, g112_34f, g112_37, g112_39, g112_40, g112_41, g112_42, g112_43, g112_46, g112_48, g112_49, g112_52, g112_53, g112_54t, g112_54f, g112_57, g112_58, g112_61, g112_62, g112_65, g112_66, g112_67, g112_68, g112_69, g112_72, g112_73, g112_74, g112_75t, g112_75f, g112_78, g112_79, g112_82, g112_83, g112_86, g112_87, g112_88, g112_89, g112_91, cont_1, cont_0, w32_k, mMile_t, in_t, in_f, P84_0 hS, P84_1 hS, mm0 hS, mset_ne]
  rw [e, mset_same]
theorem land_f {n : Nat} {m v : Int} {M : Mem} {S : Sh} (hS : Std n S) (h : ¬ ((0 ≤ m ∧ m < 192) ∧ (0 ≤ v ∧ v ≤ 9))) : ∃ q, q < 0 ∧ res 112 [aR 84, aI m, aI 0, aI v] M S = some (some (aI q), M, S) := by
  by_cases h1 : 0 ≤ m ∧ m < 192
  · refine ⟨-7, by omega, ?_⟩
    rw [g112]
    simp (disch := omega) only [g112_0, g112_1, g112_4t, g112_4f, g112_7, g112_9, g112_10, g112_11, g112_12, g112_13, g112_16t, g112_16f, g112_19, g112_20, g112_21, g112_22t, g112_22f, g112_25, g112_27, g112_30, g112_31, g112_34t, g112_34f, g112_37, g112_39, g112_40, g112_41, g112_42, g112_43, g112_46, g112_48, g112_49, g112_52, g112_53, g112_54t, g112_54f, g112_57, g112_58, g112_61, g112_62, g112_65, g112_66, g112_67, g112_68, g112_69, g112_72, g112_73, g112_74, g112_75t, g112_75f, g112_78, g112_79, g112_82, g112_83, g112_86, g112_87, g112_88, g112_89, g112_91, cont_1, cont_0, w32_k, mMile_t, in_t, in_f]
  · refine ⟨-5, by omega, ?_⟩
    rw [g112]
    simp (disch := omega) only [g112_0, g112_1, g112_4t, g112_4f, g112_7, g112_9, g112_10, g112_11, g112_12, g112_13, g112_16t, g112_16f, g112_19, g112_20, g112_21, g112_22t, g112_22f, g112_25, g112_27, g112_30, g112_31, g112_34t, g112_34f, g112_37, g112_39, g112_40, g112_41, g112_42, g112_43, g112_46, g112_48, g112_49, g112_52, g112_53, g112_54t, g112_54f, g112_57, g112_58, g112_61, g112_62, g112_65, g112_66, g112_67, g112_68, g112_69, g112_72, g112_73, g112_74, g112_75t, g112_75f, g112_78, g112_79, g112_82, g112_83, g112_86, g112_87, g112_88, g112_89, g112_91, cont_1, cont_0, w32_k, mMile_f]
theorem landBy_m {n r s n0 : Nat} {x2 at0 : Int} {M : Mem} {S : Sh} (hr : 13 < r) (hS : Std n S) (hs : s < 4) (h20 : n0 ≤ 20) (a0 : -2147483648 ≤ at0) (a1 : at0 < 2147483648) (z0 : 0 ≤ M 99 s) (z1 : M 99 s ≤ 40) : ∀ (rem k : Nat) (h : Nat → Int) (b : Int) (l7 l8 : Option AV), k + rem = n0 → 0 ≤ b → b ≤ k → (∀ q, q < 192 → 0 ≤ h q ∧ h q ≤ 9) → go r 176 64 [some (aR 84), some (aI (s : Int)), some (aI x2), some (aI at0), some (aI (n0 : Int)), some (aI b), some (aI (k : Int)), l7, l8] [] (mrow M 85 h) S = some (some (aI (lbF (fun j => M 100 (40 * s + j)) (M 99 s) at0 rem k h b).1), mrow M 85 (lbF (fun j => M 100 (40 * s + j)) (M 99 s) at0 rem k h b).2, S) := by
  have k84 := K84 hS
  have k99 := K99 hS
  have k100 := K100 hS
  have l99 := L99 hS
  have l100 := L100 hS
  intro rem
  induction rem with
  | zero =>
    intro k h b l7 l8 hk b0 b1 hh
    have e : k = n0 := by omega
    subst e
    rw [g176_64]
    simp (disch := omega) only [g176_0, g176_1, g176_2, g176_3, g176_6t, g176_6f, g176_9, g176_10, g176_11, g176_12, g176_15t, g176_15f, g176_18, g176_20, g176_21, g176_23, g176_26t, g176_26f, g176_29, g176_31, g176_32, g176_33, g176_36, g176_37, g176_38, g176_39t, g176_39f, g176_42, g176_44, g176_45, g176_46, g176_49, g176_50, g176_51, g176_52t, g176_52f, g176_55, g176_57, g176_58, g176_59, g176_61, g176_62, g176_66, g176_68t, g176_68f, g176_71, g176_72, g176_73, g176_75, g176_76, g176_77, g176_79, g176_80t, g176_80f, g176_83, g176_85, g176_86t, g176_86f, g176_89, g176_91, g176_92, g176_95, g176_96, g176_97, g176_98, g176_99t, g176_99f, g176_102, g176_104, g176_105, g176_107, g176_108, g176_109, g176_111, g176_112, g176_114, g176_116, g176_117, g176_118, g176_121, g176_123, g176_124, g176_125, g176_126, g176_129, g176_131, g176_132, g176_133, g176_134, g176_137t, g176_137f, g176_140, g176_141, g176_144, g176_145, g176_146, g176_148, g176_151, g176_154, g176_156, cont_1, cont_0, w32_k]
    rfl
  | succ rem ih =>
    intro k h b l7 l8 hk b0 b1 hh
    rw [g176_64]
    by_cases e : at0 < 0 ∨ M 99 s - 2 < at0 + 2 * (k : Int)
    · rw [lb_0 e]
      rcases (by omega : at0 < 0 ∨ (0 ≤ at0 ∧ at0 + 2 * (k : Int) < 2147483648 ∧ M 99 s - 2 < at0 + 2 * (k : Int)) ∨ (0 ≤ at0 ∧ 2147483648 ≤ at0 + 2 * (k : Int))) with e | e | e
      · simp (disch := omega) only [g176_0, g176_1, g176_2, g176_3, g176_6t, g176_6f, g176_9, g176_10, g176_11, g176_12, g176_15t, g176_15f, g176_18, g176_20, g176_21, g176_23, g176_26t, g176_26f, g176_29, g176_31, g176_32, g176_33, g176_36, g176_37, g176_38, g176_39t, g176_39f, g176_42, g176_44, g176_45, g176_46, g176_49, g176_50, g176_51, g176_52t, g176_52f, g176_55, g176_57, g176_58, g176_59, g176_61, g176_62, g176_66, g176_68t, g176_68f, g176_71, g176_72, g176_73, g176_75, g176_76, g176_77, g176_79, g176_80t, g176_80f, g176_83, g176_85, g176_86t, g176_86f, g176_89, g176_91, g176_92, g176_95, g176_96, g176_97, g176_98, g176_99t, g176_99f, g176_102, g176_104, g176_105, g176_107, g176_108, g176_109, g176_111, g176_112, g176_114, g176_116, g176_117, g176_118, g176_121, g176_123, g176_124, g176_125, g176_126, g176_129, g176_131, g176_132, g176_133, g176_134, g176_137t, g176_137f, g176_140, g176_141, g176_144, g176_145, g176_146, g176_148, g176_151, g176_154, g176_156, cont_1, cont_0, w32_k, w32_o]
      · simp (disch := omega) only [g176_0, g176_1, g176_2, g176_3, g176_6t, g176_6f, g176_9, g176_10, g176_11, g176_12, g176_15t, g176_15f, g176_18, g176_20, g176_21, g176_23, g176_26t, g176_26f, g176_29, g176_31, g176_32, g176_33, g176_36, g176_37, g176_38, g176_39t, g176_39f, g176_42, g176_44, g176_45, g176_46, g176_49, g176_50, g176_51, g176_52t, g176_52f, g176_55, g176_57, g176_58, g176_59, g176_61, g176_62, g176_66, g176_68t, g176_68f, g176_71, g176_72, g176_73, g176_75, g176_76, g176_77, g176_79, g176_80t, g176_80f, g176_83, g176_85, g176_86t, g176_86f, g176_89, g176_91, g176_92, g176_95, g176_96, g176_97, g176_98, g176_99t, g176_99f, g176_102, g176_104, g176_105, g176_107, g176_108, g176_109, g176_111, g176_112, g176_114, g176_116, g176_117, g176_118, g176_121, g176_123, g176_124, g176_125, g176_126, g176_129, g176_131, g176_132, g176_133, g176_134, g176_137t, g176_137f, g176_140, g176_141, g176_144, g176_145, g176_146, g176_148, g176_151, g176_154, g176_156, cont_1, cont_0, w32_k, w32_o, mrow_ne, P84_23 hS, Int.toNat_natCast]
      · have e2 : w32 (at0 + 2 * (k : Int)) = at0 + 2 * (k : Int) - 4294967296 := by unfold w32; omega
        simp (disch := omega) only [g176_0, g176_1, g176_2, g176_3, g176_6t, g176_6f, g176_9, g176_10, g176_11, g176_12, g176_15t, g176_15f, g176_18, g176_20, g176_21, g176_23, g176_26t, g176_26f, g176_29, g176_31, g176_32, g176_33, g176_36, g176_37, g176_38, g176_39t, g176_39f, g176_42, g176_44, g176_45, g176_46, g176_49, g176_50, g176_51, g176_52t, g176_52f, g176_55, g176_57, g176_58, g176_59, g176_61, g176_62, g176_66, g176_68t, g176_68f, g176_71, g176_72, g176_73, g176_75, g176_76, g176_77, g176_79, g176_80t, g176_80f, g176_83, g176_85, g176_86t, g176_86f, g176_89, g176_91, g176_92, g176_95, g176_96, g176_97, g176_98, g176_99t, g176_99f, g176_102, g176_104, g176_105, g176_107, g176_108, g176_109, g176_111, g176_112, g176_114, g176_116, g176_117, g176_118, g176_121, g176_123, g176_124, g176_125, g176_126, g176_129, g176_131, g176_132, g176_133, g176_134, g176_137t, g176_137f, g176_140, g176_141, g176_144, g176_145, g176_146, g176_148, g176_151, g176_154, g176_156, cont_1, cont_0, w32_k, w32_o, e2]
    · obtain ⟨a, rfl⟩ : ∃ q : Nat, at0 = (q : Int) := ⟨at0.toNat, by omega⟩
      have i1 : (40 * (s : Int) + ((a : Int) + 2 * (k : Int))).toNat = 40 * s + (a + 2 * k) := by omega
      have i2 : (40 * (s : Int) + ((a : Int) + 2 * (k : Int)) + 1).toNat = 40 * s + (a + 2 * k + 1) := by omega
      have ih1 := ih (k + 1)
      rw [nc_1] at ih1
      by_cases g : (0 ≤ M 100 (40 * s + (a + 2 * k)) ∧ M 100 (40 * s + (a + 2 * k)) < 192) ∧ (0 ≤ M 100 (40 * s + (a + 2 * k + 1)) ∧ M 100 (40 * s + (a + 2 * k + 1)) ≤ 9)
      · rw [lb_1 e (by rw [Int.toNat_natCast]; exact g), Int.toNat_natCast]
        have hl := land_t (M := mrow M 85 h) hS g.1.1 g.1.2 g.2.1 g.2.2
        rw [mrow_eq, mset_mrow] at hl
        have hv := hh (M 100 (40 * s + (a + 2 * k))).toNat (by omega)
        rw [← ih1 (fset h (M 100 (40 * s + (a + 2 * k))).toNat (M 100 (40 * s + (a + 2 * k + 1)))) (b + 1) (some (aI ((a : Int) + 2 * (k : Int)))) (some (aI (40 * (s : Int) + ((a : Int) + 2 * (k : Int))))) (by omega) (by omega) (by omega) (fun q hq => by
          by_cases hqe : q = (M 100 (40 * s + (a + 2 * k))).toNat
          · rw [hqe, fset_eq]; exact g.2
          · rw [fset_ne _ _ hqe]; exact hh q hq)]
        simp (disch := omega) only [g176_0, g176_1, g176_2, g176_3, g176_6t, g176_6f, g176_9, g176_10, g176_11, g176_12, g176_15t, g176_15f, g176_18, g176_20, g176_21, g176_23, g176_26t, g176_26f, g176_29, g176_31, g176_32, g176_33, g176_36, g176_37, g176_38, g176_39t, g176_39f, g176_42, g176_44, g176_45, g176_46, g176_49, g176_50, g176_51, g176_52t, g176_52f, g176_55, g176_57, g176_58, g176_59, g176_61, g176_62, g176_66, g176_68t, g176_68f, g176_71, g176_72, g176_73, g176_75, g176_76, g176_77, g176_79, g176_80t, g176_80f, g176_83, g176_85, g176_86t, g176_86f, g176_89, g176_91, g176_92, g176_95, g176_96, g176_97, g176_98, g176_99t, g176_99f, g176_102, g176_104, g176_105, g176_107, g176_108, g176_109, g176_111, g176_112, g176_114, g176_116, g176_117, g176_118, g176_121, g176_123, g176_124, g176_125, g176_126, g176_129, g176_131, g176_132, g176_133, g176_134, g176_137t, g176_137f, g176_140, g176_141, g176_144, g176_145, g176_146, g176_148, g176_151, g176_154, g176_156, cont_1, cont_0, w32_k, w32_o, mrow_ne, P84_23 hS, P84_24 hS, Int.toNat_natCast, i1, i2, hl, Int.add_comm 1]
      · rw [lb_2 e (by rw [Int.toNat_natCast]; exact g)]
        obtain ⟨q, q0, hl⟩ := land_f (M := mrow M 85 h) hS g
        rw [← ih1 h b (some (aI ((a : Int) + 2 * (k : Int)))) (some (aI (40 * (s : Int) + ((a : Int) + 2 * (k : Int))))) (by omega) b0 (by omega) hh]
        simp (disch := omega) only [g176_0, g176_1, g176_2, g176_3, g176_6t, g176_6f, g176_9, g176_10, g176_11, g176_12, g176_15t, g176_15f, g176_18, g176_20, g176_21, g176_23, g176_26t, g176_26f, g176_29, g176_31, g176_32, g176_33, g176_36, g176_37, g176_38, g176_39t, g176_39f, g176_42, g176_44, g176_45, g176_46, g176_49, g176_50, g176_51, g176_52t, g176_52f, g176_55, g176_57, g176_58, g176_59, g176_61, g176_62, g176_66, g176_68t, g176_68f, g176_71, g176_72, g176_73, g176_75, g176_76, g176_77, g176_79, g176_80t, g176_80f, g176_83, g176_85, g176_86t, g176_86f, g176_89, g176_91, g176_92, g176_95, g176_96, g176_97, g176_98, g176_99t, g176_99f, g176_102, g176_104, g176_105, g176_107, g176_108, g176_109, g176_111, g176_112, g176_114, g176_116, g176_117, g176_118, g176_121, g176_123, g176_124, g176_125, g176_126, g176_129, g176_131, g176_132, g176_133, g176_134, g176_137t, g176_137f, g176_140, g176_141, g176_144, g176_145, g176_146, g176_148, g176_151, g176_154, g176_156, cont_1, cont_0, w32_k, w32_o, mrow_ne, P84_23 hS, P84_24 hS, Int.toNat_natCast, i1, i2, hl, Int.zero_add, Int.add_zero]
/-- hills that change -/
theorem Inv_hl {sc : Nat → Int} {M M' : Mem} (hI : Inv sc M) (h : ∀ a, a ≠ 8 → a ≠ 85 → M' a = M a) (hh : ∀ q, q < 192 → M' 85 q = M' 8 q ∧ 0 ≤ M' 8 q ∧ M' 8 q ≤ 9) : Inv sc M' := by
  have hI2 : Inv sc (mrow (mrow M' 8 (M 8)) 85 (M 85)) := by
    have e : mrow (mrow M' 8 (M 8)) 85 (M 85) = M := by
      funext a j
      by_cases h1 : a = 85
      · rw [h1, mrow_eq]
      · rw [mrow_ne _ _ h1]
        by_cases h2 : a = 8
        · rw [h2, mrow_eq]
        · rw [mrow_ne _ _ h2, h a h2 h1]
    rw [e]
    exact hI
  have hC := h 5 (by omega) (by omega)
  obtain ⟨hLand, hStr, hPla, hNow, hTap, hImg, hShe, hCst, hLaw⟩ := hI
  have R : ∀ a, a ≠ 8 → a ≠ 85 → M' a = M a := h
  have r0 : M' 0 = M 0 := h 0 (by omega) (by omega)
  have r1 : M' 1 = M 1 := h 1 (by omega) (by omega)
  have r2 : M' 2 = M 2 := h 2 (by omega) (by omega)
  have r5 : M' 5 = M 5 := h 5 (by omega) (by omega)
  have r6 : M' 6 = M 6 := h 6 (by omega) (by omega)
  have r7 : M' 7 = M 7 := h 7 (by omega) (by omega)
  have r9 : M' 9 = M 9 := h 9 (by omega) (by omega)
  have r10 : M' 10 = M 10 := h 10 (by omega) (by omega)
  have r11 : M' 11 = M 11 := h 11 (by omega) (by omega)
  have r12 : M' 12 = M 12 := h 12 (by omega) (by omega)
  have r13 : M' 13 = M 13 := h 13 (by omega) (by omega)
  have r14 : M' 14 = M 14 := h 14 (by omega) (by omega)
  have r15 : M' 15 = M 15 := h 15 (by omega) (by omega)
  have r16 : M' 16 = M 16 := h 16 (by omega) (by omega)
  have r27 : M' 27 = M 27 := h 27 (by omega) (by omega)
  have r28 : M' 28 = M 28 := h 28 (by omega) (by omega)
  have r29 : M' 29 = M 29 := h 29 (by omega) (by omega)
  have r30 : M' 30 = M 30 := h 30 (by omega) (by omega)
  have r31 : M' 31 = M 31 := h 31 (by omega) (by omega)
  have r32 : M' 32 = M 32 := h 32 (by omega) (by omega)
  have r33 : M' 33 = M 33 := h 33 (by omega) (by omega)
  have r34 : M' 34 = M 34 := h 34 (by omega) (by omega)
  have r35 : M' 35 = M 35 := h 35 (by omega) (by omega)
  have r36 : M' 36 = M 36 := h 36 (by omega) (by omega)
  have r38 : M' 38 = M 38 := h 38 (by omega) (by omega)
  have r84 : M' 84 = M 84 := h 84 (by omega) (by omega)
  have r86 : M' 86 = M 86 := h 86 (by omega) (by omega)
  have r87 : M' 87 = M 87 := h 87 (by omega) (by omega)
  have r88 : M' 88 = M 88 := h 88 (by omega) (by omega)
  have r89 : M' 89 = M 89 := h 89 (by omega) (by omega)
  have r90 : M' 90 = M 90 := h 90 (by omega) (by omega)
  have r91 : M' 91 = M 91 := h 91 (by omega) (by omega)
  have r92 : M' 92 = M 92 := h 92 (by omega) (by omega)
  have r93 : M' 93 = M 93 := h 93 (by omega) (by omega)
  have r94 : M' 94 = M 94 := h 94 (by omega) (by omega)
  have r95 : M' 95 = M 95 := h 95 (by omega) (by omega)
  have r96 : M' 96 = M 96 := h 96 (by omega) (by omega)
  have r97 : M' 97 = M 97 := h 97 (by omega) (by omega)
  have r98 : M' 98 = M 98 := h 98 (by omega) (by omega)
  have r99 : M' 99 = M 99 := h 99 (by omega) (by omega)
  have r100 : M' 100 = M 100 := h 100 (by omega) (by omega)
  have r101 : M' 101 = M 101 := h 101 (by omega) (by omega)
  have r102 : M' 102 = M 102 := h 102 (by omega) (by omega)
  refine ⟨?_, ?_, ?_, ?_, ?_, ?_, ?_, ?_, ?_⟩
  · intro q hq
    obtain ⟨e1, e2, e3⟩ := hh q hq
    obtain ⟨_, f2, _, _, f5, f6⟩ := hLand q hq
    rw [r86, r9]
    exact ⟨e1, f2, e2, e3, f5, f6⟩
  · unfold iStr at hStr ⊢
    simp only [r0, r1, r2, r5, r6, r7, r9, r10, r11, r12, r13, r14, r15, r16, r27, r28, r29, r30, r31, r32, r33, r34, r35, r36, r38, r84, r86, r87, r88, r89, r90, r91, r92, r93, r94, r95, r96, r97, r98, r99, r100, r101, r102]
    exact hStr
  · unfold iPla at hPla ⊢
    simp only [r0, r1, r2, r5, r6, r7, r9, r10, r11, r12, r13, r14, r15, r16, r27, r28, r29, r30, r31, r32, r33, r34, r35, r36, r38, r84, r86, r87, r88, r89, r90, r91, r92, r93, r94, r95, r96, r97, r98, r99, r100, r101, r102]
    exact hPla
  · unfold iNow at hNow ⊢
    simp only [r0, r1, r2, r5, r6, r7, r9, r10, r11, r12, r13, r14, r15, r16, r27, r28, r29, r30, r31, r32, r33, r34, r35, r36, r38, r84, r86, r87, r88, r89, r90, r91, r92, r93, r94, r95, r96, r97, r98, r99, r100, r101, r102]
    exact hNow
  · unfold iTap at hTap ⊢
    simp only [r0, r1, r2, r5, r6, r7, r9, r10, r11, r12, r13, r14, r15, r16, r27, r28, r29, r30, r31, r32, r33, r34, r35, r36, r38, r84, r86, r87, r88, r89, r90, r91, r92, r93, r94, r95, r96, r97, r98, r99, r100, r101, r102]
    exact hTap
  · unfold iImg at hImg ⊢
    simp only [r0, r1, r2, r5, r6, r7, r9, r10, r11, r12, r13, r14, r15, r16, r27, r28, r29, r30, r31, r32, r33, r34, r35, r36, r38, r84, r86, r87, r88, r89, r90, r91, r92, r93, r94, r95, r96, r97, r98, r99, r100, r101, r102]
    exact hImg
  · intro s hs
    have q := hShe s hs
    rw [show M' (76 + 2 * s) = M (76 + 2 * s) from h _ (by omega) (by omega), show M' (77 + 2 * s) = M (77 + 2 * s) from h _ (by omega) (by omega), r98, r99, r100]
    exact q
  · unfold iCst at hCst ⊢
    simp only [r0, r1, r2, r5, r6, r7, r9, r10, r11, r12, r13, r14, r15, r16, r27, r28, r29, r30, r31, r32, r33, r34, r35, r36, r38, r84, r86, r87, r88, r89, r90, r91, r92, r93, r94, r95, r96, r97, r98, r99, r100, r101, r102]
    exact hCst
  · refine ⟨fun t ht => ?_, fun t t6 => (congrFun (show M' (wkOf t + 2) = M (wkOf t + 2) from by
      have wb : wkOf t ≤ 72 ∧ 46 ≤ wkOf t := by unfold wkOf; split <;> omega
      exact h _ (by omega) (by omega)) 0).trans (hLaw.2 t t6)⟩
    rw [r6] at ht
    have q := hLaw.1 t ht
    have t5 := hTap.2.2.1
    have wb : wkOf t ≤ 72 ∧ 46 ≤ wkOf t := by unfold wkOf; split <;> omega
    have w0 : M' (wkOf t) = M (wkOf t) := h _ (by omega) (by omega)
    have w1 : M' (wkOf t + 1) = M (wkOf t + 1) := h _ (by omega) (by omega)
    have w2 : M' (wkOf t + 2) = M (wkOf t + 2) := h _ (by omega) (by omega)
    unfold lawRel at q ⊢
    rw [r93, r94, w0, w1, w2]
    exact q
theorem p_landBy {x1 x2 x3 x4 : Int} {n : Nat} {sc : Nat → Int} {M : Mem} {S : Sh} (hS : Std n S) (hI : Inv sc M) (hx0 : -2147483648 ≤ x3) (hx1 : x3 < 2147483648) : Pr (res 82 [aR 6, aI x1, aI x2, aI x3, aI x4] M S) (PQ 176 [aR 84, aI x1, aI x2, aI x3, aI x4] n S.2.2.2.1 S.2.2.2.2 sc) := by
  have k6 := K6 hS
  have k84 := K84 hS
  have k98 := K98 hS
  have l98 := L98 hS
  by_cases h1 : x1 < 0 ∨ 3 < x1
  · refine PQ_mk (v := aI (-2)) (M1 := M) (M2 := M) ?_ ?_ hI hS
    · rw [g82]
      simp (disch := omega) only [g82_0, g82_1, g82_2, g82_5, g82_5n, g82_7, g82_7n, g82_9, g82_9n, g82_12, g82_13t, g82_13f, g82_16, g82_17, g82_18t, g82_18f, g82_21, g82_23t, g82_23f, g82_26, g82_28, g82_30t, g82_30f, g82_33, g82_35, g82_36, g82_36n, g82_38, g82_41, g82_42t, g82_42f, g82_45, g82_47, g82_48, g82_48n, g82_50, g82_53, g82_54t, g82_54f, g82_57, g82_59, g82_60, g82_61, g82_63, g82_64, g82_68, g82_70t, g82_70f, g82_73, g82_74t, g82_74f, g82_77, g82_78, g82_78n, g82_80, g82_83, g82_84, g82_85, g82_86, g82_88, g82_89, g82_90t, g82_90f, g82_93, g82_95, g82_96, g82_96n, g82_98, g82_101, g82_102, g82_103, g82_105, g82_106, g82_107, g82_110, g82_112, g82_112n, g82_114, g82_117, g82_118, g82_119, g82_121, g82_122, g82_123, g82_124, g82_125, g82_128, g82_130, g82_132, g82_135t, g82_135f, g82_138, g82_140t, g82_140f, g82_143, g82_145, g82_147t, g82_147f, g82_150, g82_151, g82_154, g82_157, g82_159, g82_161, g82_164, g82_167, g82_170, g82_173, g82_175, cont_1, cont_0, w32_k, sheetAt_n hS h1]
    · rw [g176]
      rcases h1 with h1 | h1
      all_goals simp (disch := omega) only [g176_0, g176_1, g176_2, g176_3, g176_6t, g176_6f, g176_9, g176_10, g176_11, g176_12, g176_15t, g176_15f, g176_18, g176_20, g176_21, g176_23, g176_26t, g176_26f, g176_29, g176_31, g176_32, g176_33, g176_36, g176_37, g176_38, g176_39t, g176_39f, g176_42, g176_44, g176_45, g176_46, g176_49, g176_50, g176_51, g176_52t, g176_52f, g176_55, g176_57, g176_58, g176_59, g176_61, g176_62, g176_66, g176_68t, g176_68f, g176_71, g176_72, g176_73, g176_75, g176_76, g176_77, g176_79, g176_80t, g176_80f, g176_83, g176_85, g176_86t, g176_86f, g176_89, g176_91, g176_92, g176_95, g176_96, g176_97, g176_98, g176_99t, g176_99f, g176_102, g176_104, g176_105, g176_107, g176_108, g176_109, g176_111, g176_112, g176_114, g176_116, g176_117, g176_118, g176_121, g176_123, g176_124, g176_125, g176_126, g176_129, g176_131, g176_132, g176_133, g176_134, g176_137t, g176_137f, g176_140, g176_141, g176_144, g176_145, g176_146, g176_148, g176_151, g176_154, g176_156, cont_1, cont_0, w32_k, in_f]
  · obtain ⟨s, rfl⟩ : ∃ q : Nat, x1 = (q : Int) := ⟨x1.toNat, by omega⟩
    have hs : s < 4 := by omega
    have fs := fun M => sheetAt_ (M := M) hS hs
    obtain ⟨sk, sk7, sl, sp⟩ := sheS_of hS hs
    obtain ⟨g1, g2, g3, g4, g5, g6, g7⟩ := hI.2.2.2.2.2.2.1 s hs
    by_cases c0 : x2 < 0
    · refine PQ_mk (v := aI (-2)) (M1 := M) (M2 := M) ?_ ?_ hI hS
      · rw [g82]
        simp (disch := omega) only [g82_0, g82_1, g82_2, g82_5, g82_5n, g82_7, g82_7n, g82_9, g82_9n, g82_12, g82_13t, g82_13f, g82_16, g82_17, g82_18t, g82_18f, g82_21, g82_23t, g82_23f, g82_26, g82_28, g82_30t, g82_30f, g82_33, g82_35, g82_36, g82_36n, g82_38, g82_41, g82_42t, g82_42f, g82_45, g82_47, g82_48, g82_48n, g82_50, g82_53, g82_54t, g82_54f, g82_57, g82_59, g82_60, g82_61, g82_63, g82_64, g82_68, g82_70t, g82_70f, g82_73, g82_74t, g82_74f, g82_77, g82_78, g82_78n, g82_80, g82_83, g82_84, g82_85, g82_86, g82_88, g82_89, g82_90t, g82_90f, g82_93, g82_95, g82_96, g82_96n, g82_98, g82_101, g82_102, g82_103, g82_105, g82_106, g82_107, g82_110, g82_112, g82_112n, g82_114, g82_117, g82_118, g82_119, g82_121, g82_122, g82_123, g82_124, g82_125, g82_128, g82_130, g82_132, g82_135t, g82_135f, g82_138, g82_140t, g82_140f, g82_143, g82_145, g82_147t, g82_147f, g82_150, g82_151, g82_154, g82_157, g82_159, g82_161, g82_164, g82_167, g82_170, g82_173, g82_175, cont_1, cont_0, w32_k, fs]
      · rw [g176]
        simp (disch := omega) only [g176_0, g176_1, g176_2, g176_3, g176_6t, g176_6f, g176_9, g176_10, g176_11, g176_12, g176_15t, g176_15f, g176_18, g176_20, g176_21, g176_23, g176_26t, g176_26f, g176_29, g176_31, g176_32, g176_33, g176_36, g176_37, g176_38, g176_39t, g176_39f, g176_42, g176_44, g176_45, g176_46, g176_49, g176_50, g176_51, g176_52t, g176_52f, g176_55, g176_57, g176_58, g176_59, g176_61, g176_62, g176_66, g176_68t, g176_68f, g176_71, g176_72, g176_73, g176_75, g176_76, g176_77, g176_79, g176_80t, g176_80f, g176_83, g176_85, g176_86t, g176_86f, g176_89, g176_91, g176_92, g176_95, g176_96, g176_97, g176_98, g176_99t, g176_99f, g176_102, g176_104, g176_105, g176_107, g176_108, g176_109, g176_111, g176_112, g176_114, g176_116, g176_117, g176_118, g176_121, g176_123, g176_124, g176_125, g176_126, g176_129, g176_131, g176_132, g176_133, g176_134, g176_137t, g176_137f, g176_140, g176_141, g176_144, g176_145, g176_146, g176_148, g176_151, g176_154, g176_156, cont_1, cont_0, w32_k, in_t, in_f]
    by_cases c1 : 2 < x2
    · refine PQ_mk (v := aI (-2)) (M1 := M) (M2 := M) ?_ ?_ hI hS
      · rw [g82]
        simp (disch := omega) only [g82_0, g82_1, g82_2, g82_5, g82_5n, g82_7, g82_7n, g82_9, g82_9n, g82_12, g82_13t, g82_13f, g82_16, g82_17, g82_18t, g82_18f, g82_21, g82_23t, g82_23f, g82_26, g82_28, g82_30t, g82_30f, g82_33, g82_35, g82_36, g82_36n, g82_38, g82_41, g82_42t, g82_42f, g82_45, g82_47, g82_48, g82_48n, g82_50, g82_53, g82_54t, g82_54f, g82_57, g82_59, g82_60, g82_61, g82_63, g82_64, g82_68, g82_70t, g82_70f, g82_73, g82_74t, g82_74f, g82_77, g82_78, g82_78n, g82_80, g82_83, g82_84, g82_85, g82_86, g82_88, g82_89, g82_90t, g82_90f, g82_93, g82_95, g82_96, g82_96n, g82_98, g82_101, g82_102, g82_103, g82_105, g82_106, g82_107, g82_110, g82_112, g82_112n, g82_114, g82_117, g82_118, g82_119, g82_121, g82_122, g82_123, g82_124, g82_125, g82_128, g82_130, g82_132, g82_135t, g82_135f, g82_138, g82_140t, g82_140f, g82_143, g82_145, g82_147t, g82_147f, g82_150, g82_151, g82_154, g82_157, g82_159, g82_161, g82_164, g82_167, g82_170, g82_173, g82_175, cont_1, cont_0, w32_k, fs]
      · rw [g176]
        simp (disch := omega) only [g176_0, g176_1, g176_2, g176_3, g176_6t, g176_6f, g176_9, g176_10, g176_11, g176_12, g176_15t, g176_15f, g176_18, g176_20, g176_21, g176_23, g176_26t, g176_26f, g176_29, g176_31, g176_32, g176_33, g176_36, g176_37, g176_38, g176_39t, g176_39f, g176_42, g176_44, g176_45, g176_46, g176_49, g176_50, g176_51, g176_52t, g176_52f, g176_55, g176_57, g176_58, g176_59, g176_61, g176_62, g176_66, g176_68t, g176_68f, g176_71, g176_72, g176_73, g176_75, g176_76, g176_77, g176_79, g176_80t, g176_80f, g176_83, g176_85, g176_86t, g176_86f, g176_89, g176_91, g176_92, g176_95, g176_96, g176_97, g176_98, g176_99t, g176_99f, g176_102, g176_104, g176_105, g176_107, g176_108, g176_109, g176_111, g176_112, g176_114, g176_116, g176_117, g176_118, g176_121, g176_123, g176_124, g176_125, g176_126, g176_129, g176_131, g176_132, g176_133, g176_134, g176_137t, g176_137f, g176_140, g176_141, g176_144, g176_145, g176_146, g176_148, g176_151, g176_154, g176_156, cont_1, cont_0, w32_k, in_t, in_f]
    by_cases c2 : x4 < 0
    · refine PQ_mk (v := aI (-2)) (M1 := M) (M2 := M) ?_ ?_ hI hS
      · rw [g82]
        simp (disch := omega) only [g82_0, g82_1, g82_2, g82_5, g82_5n, g82_7, g82_7n, g82_9, g82_9n, g82_12, g82_13t, g82_13f, g82_16, g82_17, g82_18t, g82_18f, g82_21, g82_23t, g82_23f, g82_26, g82_28, g82_30t, g82_30f, g82_33, g82_35, g82_36, g82_36n, g82_38, g82_41, g82_42t, g82_42f, g82_45, g82_47, g82_48, g82_48n, g82_50, g82_53, g82_54t, g82_54f, g82_57, g82_59, g82_60, g82_61, g82_63, g82_64, g82_68, g82_70t, g82_70f, g82_73, g82_74t, g82_74f, g82_77, g82_78, g82_78n, g82_80, g82_83, g82_84, g82_85, g82_86, g82_88, g82_89, g82_90t, g82_90f, g82_93, g82_95, g82_96, g82_96n, g82_98, g82_101, g82_102, g82_103, g82_105, g82_106, g82_107, g82_110, g82_112, g82_112n, g82_114, g82_117, g82_118, g82_119, g82_121, g82_122, g82_123, g82_124, g82_125, g82_128, g82_130, g82_132, g82_135t, g82_135f, g82_138, g82_140t, g82_140f, g82_143, g82_145, g82_147t, g82_147f, g82_150, g82_151, g82_154, g82_157, g82_159, g82_161, g82_164, g82_167, g82_170, g82_173, g82_175, cont_1, cont_0, w32_k, fs]
      · rw [g176]
        simp (disch := omega) only [g176_0, g176_1, g176_2, g176_3, g176_6t, g176_6f, g176_9, g176_10, g176_11, g176_12, g176_15t, g176_15f, g176_18, g176_20, g176_21, g176_23, g176_26t, g176_26f, g176_29, g176_31, g176_32, g176_33, g176_36, g176_37, g176_38, g176_39t, g176_39f, g176_42, g176_44, g176_45, g176_46, g176_49, g176_50, g176_51, g176_52t, g176_52f, g176_55, g176_57, g176_58, g176_59, g176_61, g176_62, g176_66, g176_68t, g176_68f, g176_71, g176_72, g176_73, g176_75, g176_76, g176_77, g176_79, g176_80t, g176_80f, g176_83, g176_85, g176_86t, g176_86f, g176_89, g176_91, g176_92, g176_95, g176_96, g176_97, g176_98, g176_99t, g176_99f, g176_102, g176_104, g176_105, g176_107, g176_108, g176_109, g176_111, g176_112, g176_114, g176_116, g176_117, g176_118, g176_121, g176_123, g176_124, g176_125, g176_126, g176_129, g176_131, g176_132, g176_133, g176_134, g176_137t, g176_137f, g176_140, g176_141, g176_144, g176_145, g176_146, g176_148, g176_151, g176_154, g176_156, cont_1, cont_0, w32_k, in_t, in_f]
    by_cases c3 : 20 < x4
    · refine PQ_mk (v := aI (-2)) (M1 := M) (M2 := M) ?_ ?_ hI hS
      · rw [g82]
        simp (disch := omega) only [g82_0, g82_1, g82_2, g82_5, g82_5n, g82_7, g82_7n, g82_9, g82_9n, g82_12, g82_13t, g82_13f, g82_16, g82_17, g82_18t, g82_18f, g82_21, g82_23t, g82_23f, g82_26, g82_28, g82_30t, g82_30f, g82_33, g82_35, g82_36, g82_36n, g82_38, g82_41, g82_42t, g82_42f, g82_45, g82_47, g82_48, g82_48n, g82_50, g82_53, g82_54t, g82_54f, g82_57, g82_59, g82_60, g82_61, g82_63, g82_64, g82_68, g82_70t, g82_70f, g82_73, g82_74t, g82_74f, g82_77, g82_78, g82_78n, g82_80, g82_83, g82_84, g82_85, g82_86, g82_88, g82_89, g82_90t, g82_90f, g82_93, g82_95, g82_96, g82_96n, g82_98, g82_101, g82_102, g82_103, g82_105, g82_106, g82_107, g82_110, g82_112, g82_112n, g82_114, g82_117, g82_118, g82_119, g82_121, g82_122, g82_123, g82_124, g82_125, g82_128, g82_130, g82_132, g82_135t, g82_135f, g82_138, g82_140t, g82_140f, g82_143, g82_145, g82_147t, g82_147f, g82_150, g82_151, g82_154, g82_157, g82_159, g82_161, g82_164, g82_167, g82_170, g82_173, g82_175, cont_1, cont_0, w32_k, fs]
      · rw [g176]
        simp (disch := omega) only [g176_0, g176_1, g176_2, g176_3, g176_6t, g176_6f, g176_9, g176_10, g176_11, g176_12, g176_15t, g176_15f, g176_18, g176_20, g176_21, g176_23, g176_26t, g176_26f, g176_29, g176_31, g176_32, g176_33, g176_36, g176_37, g176_38, g176_39t, g176_39f, g176_42, g176_44, g176_45, g176_46, g176_49, g176_50, g176_51, g176_52t, g176_52f, g176_55, g176_57, g176_58, g176_59, g176_61, g176_62, g176_66, g176_68t, g176_68f, g176_71, g176_72, g176_73, g176_75, g176_76, g176_77, g176_79, g176_80t, g176_80f, g176_83, g176_85, g176_86t, g176_86f, g176_89, g176_91, g176_92, g176_95, g176_96, g176_97, g176_98, g176_99t, g176_99f, g176_102, g176_104, g176_105, g176_107, g176_108, g176_109, g176_111, g176_112, g176_114, g176_116, g176_117, g176_118, g176_121, g176_123, g176_124, g176_125, g176_126, g176_129, g176_131, g176_132, g176_133, g176_134, g176_137t, g176_137f, g176_140, g176_141, g176_144, g176_145, g176_146, g176_148, g176_151, g176_154, g176_156, cont_1, cont_0, w32_k, in_t, in_f]
    by_cases c5 : M 98 s = -1
    · refine PQ_mk (v := aI (-11)) (M1 := M) (M2 := M) ?_ ?_ hI hS
      · rw [g82]
        simp (disch := omega) only [g82_0, g82_1, g82_2, g82_5, g82_5n, g82_7, g82_7n, g82_9, g82_9n, g82_12, g82_13t, g82_13f, g82_16, g82_17, g82_18t, g82_18f, g82_21, g82_23t, g82_23f, g82_26, g82_28, g82_30t, g82_30f, g82_33, g82_35, g82_36, g82_36n, g82_38, g82_41, g82_42t, g82_42f, g82_45, g82_47, g82_48, g82_48n, g82_50, g82_53, g82_54t, g82_54f, g82_57, g82_59, g82_60, g82_61, g82_63, g82_64, g82_68, g82_70t, g82_70f, g82_73, g82_74t, g82_74f, g82_77, g82_78, g82_78n, g82_80, g82_83, g82_84, g82_85, g82_86, g82_88, g82_89, g82_90t, g82_90f, g82_93, g82_95, g82_96, g82_96n, g82_98, g82_101, g82_102, g82_103, g82_105, g82_106, g82_107, g82_110, g82_112, g82_112n, g82_114, g82_117, g82_118, g82_119, g82_121, g82_122, g82_123, g82_124, g82_125, g82_128, g82_130, g82_132, g82_135t, g82_135f, g82_138, g82_140t, g82_140f, g82_143, g82_145, g82_147t, g82_147f, g82_150, g82_151, g82_154, g82_157, g82_159, g82_161, g82_164, g82_167, g82_170, g82_173, g82_175, cont_1, cont_0, w32_k, fs]
      · rw [g176]
        simp (disch := omega) only [g176_0, g176_1, g176_2, g176_3, g176_6t, g176_6f, g176_9, g176_10, g176_11, g176_12, g176_15t, g176_15f, g176_18, g176_20, g176_21, g176_23, g176_26t, g176_26f, g176_29, g176_31, g176_32, g176_33, g176_36, g176_37, g176_38, g176_39t, g176_39f, g176_42, g176_44, g176_45, g176_46, g176_49, g176_50, g176_51, g176_52t, g176_52f, g176_55, g176_57, g176_58, g176_59, g176_61, g176_62, g176_66, g176_68t, g176_68f, g176_71, g176_72, g176_73, g176_75, g176_76, g176_77, g176_79, g176_80t, g176_80f, g176_83, g176_85, g176_86t, g176_86f, g176_89, g176_91, g176_92, g176_95, g176_96, g176_97, g176_98, g176_99t, g176_99f, g176_102, g176_104, g176_105, g176_107, g176_108, g176_109, g176_111, g176_112, g176_114, g176_116, g176_117, g176_118, g176_121, g176_123, g176_124, g176_125, g176_126, g176_129, g176_131, g176_132, g176_133, g176_134, g176_137t, g176_137f, g176_140, g176_141, g176_144, g176_145, g176_146, g176_148, g176_151, g176_154, g176_156, cont_1, cont_0, w32_k, in_t, P84_22 hS, Int.toNat_natCast]
    · by_cases c6 : M 98 s = x2
      · obtain ⟨n0, rfl⟩ : ∃ q : Nat, x4 = (q : Int) := ⟨x4.toNat, by omega⟩
        have z1 := landBy_c (r := 11) (x2 := x2) (at0 := x3) (M := M) (n0 := n0) (by omega) hS hs (by omega) (by omega) (by omega) n0 0 (M 8) 0 none none (by omega) (by omega) (by omega)
        rw [mrow_self] at z1
        have ha := lb_ag (c := M (77 + 2 * s)) (c' := fun j => M 100 (40 * s + j)) (sz := M (76 + 2 * s) 2) (at0 := x3) (fun k hk => (g7 k hk).symm) (by omega) n0 0 (M 8) (M 85) 0 (fun q hq => by
          obtain ⟨e1, _, e3, e4, _⟩ := hI.1 q hq
          exact ⟨e1.symm, e3, e4⟩)
        rw [← g4] at z1 ha
        obtain ⟨R1, hR1⟩ : ∃ R1, R1 = lbF (M (77 + 2 * s)) (M 99 s) x3 n0 0 (M 8) 0 := ⟨_, rfl⟩
        obtain ⟨M1, hM1⟩ : ∃ M1, M1 = mrow M 8 R1.2 := ⟨_, rfl⟩
        rw [← hR1] at z1 ha
        rw [← hM1] at z1
        have r : ∀ a, a ≠ 8 → M1 a = M a := fun a h => by rw [hM1, mrow_ne _ _ h]
        have r8 : M1 8 = R1.2 := by rw [hM1, mrow_eq]
        clear hM1 hR1
        have z2 := landBy_m (r := 14) (x2 := x2) (at0 := x3) (M := M1) (n0 := n0) (by omega) hS hs (by omega) hx0 hx1 (by rw [r 99 (by omega)]; omega) (by rw [r 99 (by omega)]; omega) n0 0 (M 85) 0 none none (by omega) (by omega) (by omega) (fun q hq => by
          obtain ⟨e1, _, e3, e4, _⟩ := hI.1 q hq
          omega)
        rw [← r 85 (by omega), mrow_self, r 85 (by omega), r 99 (by omega), r 100 (by omega), ← ha.1] at z2
        have z98 := r 98 (by omega)
        refine PQ_mk (v := aI R1.1) (M1 := M1) (M2 := mrow M1 85 (lbF (fun j => M 100 (40 * s + j)) (M 99 s) x3 n0 0 (M 85) 0).2) ?_ ?_ (Inv_hl hI (fun a e1 e2 => ?_) (fun q hq => ?_)) hS
        · rw [g82]
          simp (disch := omega) only [g82_0, g82_1, g82_2, g82_5, g82_5n, g82_7, g82_7n, g82_9, g82_9n, g82_12, g82_13t, g82_13f, g82_16, g82_17, g82_18t, g82_18f, g82_21, g82_23t, g82_23f, g82_26, g82_28, g82_30t, g82_30f, g82_33, g82_35, g82_36, g82_36n, g82_38, g82_41, g82_42t, g82_42f, g82_45, g82_47, g82_48, g82_48n, g82_50, g82_53, g82_54t, g82_54f, g82_57, g82_59, g82_60, g82_61, g82_63, g82_64, g82_68, g82_70t, g82_70f, g82_73, g82_74t, g82_74f, g82_77, g82_78, g82_78n, g82_80, g82_83, g82_84, g82_85, g82_86, g82_88, g82_89, g82_90t, g82_90f, g82_93, g82_95, g82_96, g82_96n, g82_98, g82_101, g82_102, g82_103, g82_105, g82_106, g82_107, g82_110, g82_112, g82_112n, g82_114, g82_117, g82_118, g82_119, g82_121, g82_122, g82_123, g82_124, g82_125, g82_128, g82_130, g82_132, g82_135t, g82_135f, g82_138, g82_140t, g82_140f, g82_143, g82_145, g82_147t, g82_147f, g82_150, g82_151, g82_154, g82_157, g82_159, g82_161, g82_164, g82_167, g82_170, g82_173, g82_175, cont_1, cont_0, w32_k, fs]
          exact z1
        · rw [g176]
          simp (disch := omega) only [g176_0, g176_1, g176_2, g176_3, g176_6t, g176_6f, g176_9, g176_10, g176_11, g176_12, g176_15t, g176_15f, g176_18, g176_20, g176_21, g176_23, g176_26t, g176_26f, g176_29, g176_31, g176_32, g176_33, g176_36, g176_37, g176_38, g176_39t, g176_39f, g176_42, g176_44, g176_45, g176_46, g176_49, g176_50, g176_51, g176_52t, g176_52f, g176_55, g176_57, g176_58, g176_59, g176_61, g176_62, g176_66, g176_68t, g176_68f, g176_71, g176_72, g176_73, g176_75, g176_76, g176_77, g176_79, g176_80t, g176_80f, g176_83, g176_85, g176_86t, g176_86f, g176_89, g176_91, g176_92, g176_95, g176_96, g176_97, g176_98, g176_99t, g176_99f, g176_102, g176_104, g176_105, g176_107, g176_108, g176_109, g176_111, g176_112, g176_114, g176_116, g176_117, g176_118, g176_121, g176_123, g176_124, g176_125, g176_126, g176_129, g176_131, g176_132, g176_133, g176_134, g176_137t, g176_137f, g176_140, g176_141, g176_144, g176_145, g176_146, g176_148, g176_151, g176_154, g176_156, cont_1, cont_0, w32_k, in_t, P84_22 hS, Int.toNat_natCast, z98]
          exact z2
        · rw [mrow_ne _ _ e2]
          exact r a e1
        · rw [mrow_eq, mrow_ne _ _ (by omega), r8]
          obtain ⟨e1, e2, e3⟩ := ha.2 q hq
          exact ⟨e1.symm, e2, e3⟩
      · refine PQ_mk (v := aI (-13)) (M1 := M) (M2 := M) ?_ ?_ hI hS
        · rw [g82]
          simp (disch := omega) only [g82_0, g82_1, g82_2, g82_5, g82_5n, g82_7, g82_7n, g82_9, g82_9n, g82_12, g82_13t, g82_13f, g82_16, g82_17, g82_18t, g82_18f, g82_21, g82_23t, g82_23f, g82_26, g82_28, g82_30t, g82_30f, g82_33, g82_35, g82_36, g82_36n, g82_38, g82_41, g82_42t, g82_42f, g82_45, g82_47, g82_48, g82_48n, g82_50, g82_53, g82_54t, g82_54f, g82_57, g82_59, g82_60, g82_61, g82_63, g82_64, g82_68, g82_70t, g82_70f, g82_73, g82_74t, g82_74f, g82_77, g82_78, g82_78n, g82_80, g82_83, g82_84, g82_85, g82_86, g82_88, g82_89, g82_90t, g82_90f, g82_93, g82_95, g82_96, g82_96n, g82_98, g82_101, g82_102, g82_103, g82_105, g82_106, g82_107, g82_110, g82_112, g82_112n, g82_114, g82_117, g82_118, g82_119, g82_121, g82_122, g82_123, g82_124, g82_125, g82_128, g82_130, g82_132, g82_135t, g82_135f, g82_138, g82_140t, g82_140f, g82_143, g82_145, g82_147t, g82_147f, g82_150, g82_151, g82_154, g82_157, g82_159, g82_161, g82_164, g82_167, g82_170, g82_173, g82_175, cont_1, cont_0, w32_k, fs]
        · rw [g176]
          simp (disch := omega) only [g176_0, g176_1, g176_2, g176_3, g176_6t, g176_6f, g176_9, g176_10, g176_11, g176_12, g176_15t, g176_15f, g176_18, g176_20, g176_21, g176_23, g176_26t, g176_26f, g176_29, g176_31, g176_32, g176_33, g176_36, g176_37, g176_38, g176_39t, g176_39f, g176_42, g176_44, g176_45, g176_46, g176_49, g176_50, g176_51, g176_52t, g176_52f, g176_55, g176_57, g176_58, g176_59, g176_61, g176_62, g176_66, g176_68t, g176_68f, g176_71, g176_72, g176_73, g176_75, g176_76, g176_77, g176_79, g176_80t, g176_80f, g176_83, g176_85, g176_86t, g176_86f, g176_89, g176_91, g176_92, g176_95, g176_96, g176_97, g176_98, g176_99t, g176_99f, g176_102, g176_104, g176_105, g176_107, g176_108, g176_109, g176_111, g176_112, g176_114, g176_116, g176_117, g176_118, g176_121, g176_123, g176_124, g176_125, g176_126, g176_129, g176_131, g176_132, g176_133, g176_134, g176_137t, g176_137f, g176_140, g176_141, g176_144, g176_145, g176_146, g176_148, g176_151, g176_154, g176_156, cont_1, cont_0, w32_k, in_t, P84_22 hS, Int.toNat_natCast]
