/-! take -/
theorem cpy_lt {f g : Nat → Int} {N : Int} {k : Nat} (h : (k : Int) < N) : am_cpy f g (0 : Int).toNat (0 : Int).toNat N.toNat k = f k := by
  unfold am_cpy
  rw [if_pos ⟨by omega, by omega⟩]
  congr 1
  omega
def Tak (M : Mem) (a b : Nat) (M' : Mem) : Prop := (∀ x, ¬ (a ≤ x ∧ x ≤ a + 9) → M' x = M x) ∧ (∀ k, k < 192 → M' (a + 1) k = M (b + 1) k ∧ M' (a + 2) k = M (b + 2) k) ∧ (∀ k, k < 12 → M' (a + 3) k = M (b + 3) k ∧ M' (a + 4) k = M (b + 4) k) ∧ (∀ k, k < 4 → M' (a + 5) k = M (b + 5) k ∧ M' (a + 6) k = M (b + 6) k ∧ M' (a + 7) k = M (b + 7) k ∧ M' (a + 8) k = M (b + 8) k ∧ M' (a + 9) k = M (b + 9) k) ∧ (M' a 4 = M b 4 ∧ M' a 10 = M b 10 ∧ M' a 11 = M b 11 ∧ M' a 12 = M b 12 ∧ M' a 13 = M b 13 ∧ M' a 14 = M b 14)
theorem take_17_7 {n : Nat} {M : Mem} {S : Sh} (hS : Std n S) : ∃ M', res 34 [aR 17, aR 7] M S = some (none, M', S) ∧ Tak M 17 7 M' := by
  have k17 := K17 hS
  have k18 := K18 hS
  have k19 := K19 hS
  have k20 := K20 hS
  have k21 := K21 hS
  have k22 := K22 hS
  have k23 := K23 hS
  have k24 := K24 hS
  have k25 := K25 hS
  have k26 := K26 hS
  have k7 := K7 hS
  have k8 := K8 hS
  have k9 := K9 hS
  have k10 := K10 hS
  have k11 := K11 hS
  have k12 := K12 hS
  have k13 := K13 hS
  have k14 := K14 hS
  have k15 := K15 hS
  have k16 := K16 hS
  have l18 := L18 hS
  have l19 := L19 hS
  have l20 := L20 hS
  have l21 := L21 hS
  have l22 := L22 hS
  have l23 := L23 hS
  have l24 := L24 hS
  have l25 := L25 hS
  have l26 := L26 hS
  have l8 := L8 hS
  have l9 := L9 hS
  have l10 := L10 hS
  have l11 := L11 hS
  have l12 := L12 hS
  have l13 := L13 hS
  have l14 := L14 hS
  have l15 := L15 hS
  have l16 := L16 hS
  refine ⟨(mset (mset (mset (mset (mset (mrow (mrow (mrow (mrow (mrow (mset (mrow (mrow (mrow (mrow M 18 (am_cpy (M 8) (M 18) (0 : Int).toNat (0 : Int).toNat (192 : Int).toNat)) 19 (am_cpy (M 9) (M 19) (0 : Int).toNat (0 : Int).toNat (192 : Int).toNat)) 20 (am_cpy (M 10) (M 20) (0 : Int).toNat (0 : Int).toNat (12 : Int).toNat)) 21 (am_cpy (M 11) (M 21) (0 : Int).toNat (0 : Int).toNat (12 : Int).toNat)) 17 4 (M 7 4)) 22 (am_cpy (M 12) (M 22) (0 : Int).toNat (0 : Int).toNat (4 : Int).toNat)) 23 (am_cpy (M 13) (M 23) (0 : Int).toNat (0 : Int).toNat (4 : Int).toNat)) 24 (am_cpy (M 14) (M 24) (0 : Int).toNat (0 : Int).toNat (4 : Int).toNat)) 25 (am_cpy (M 15) (M 25) (0 : Int).toNat (0 : Int).toNat (4 : Int).toNat)) 26 (am_cpy (M 16) (M 26) (0 : Int).toNat (0 : Int).toNat (4 : Int).toNat)) 17 10 (M 7 10)) 17 11 (M 7 11)) 17 12 (M 7 12)) 17 13 (M 7 13)) 17 14 (M 7 14)), ?_, ?_⟩
  · rw [g34]
    simp (disch := omega) only [g34_0, g34_0n, g34_1, g34_4, g34_5, g34_6, g34_9, g34_10, g34_13, g34_16, g34_16n, g34_17, g34_20, g34_21, g34_22, g34_25, g34_26, g34_29, g34_32, g34_32n, g34_33, g34_36, g34_37, g34_38, g34_41, g34_42, g34_44, g34_47, g34_47n, g34_48, g34_51, g34_52, g34_53, g34_56, g34_57, g34_59, g34_62, g34_63, g34_63n, g34_64, g34_67, g34_70, g34_70n, g34_71, g34_74, g34_75, g34_76, g34_79, g34_80, g34_81, g34_84, g34_84n, g34_85, g34_88, g34_89, g34_90, g34_93, g34_94, g34_95, g34_98, g34_98n, g34_99, g34_102, g34_103, g34_104, g34_107, g34_108, g34_109, g34_112, g34_112n, g34_113, g34_116, g34_117, g34_118, g34_121, g34_122, g34_123, g34_126, g34_126n, g34_127, g34_130, g34_131, g34_132, g34_135, g34_136, g34_137, g34_140, g34_141, g34_141n, g34_142, g34_145, g34_148, g34_149, g34_149n, g34_150, g34_153, g34_156, g34_157, g34_157n, g34_158, g34_161, g34_164, g34_165, g34_165n, g34_166, g34_169, g34_172, g34_173, g34_173n, g34_174, g34_177, g34_180, cont_1, cont_0, w32_o, mset_eq, mset_ne, mset_nk, mrow_eq, mrow_ne, P17_0 hS, P17_1 hS, P17_2 hS, P17_3 hS, P17_5 hS, P17_6 hS, P17_7 hS, P17_8 hS, P17_9 hS, P7_0 hS, P7_1 hS, P7_2 hS, P7_3 hS, P7_5 hS, P7_6 hS, P7_7 hS, P7_8 hS, P7_9 hS]
  · refine ⟨fun x hx => ?_, fun k hk => ?_, fun k hk => ?_, fun k hk => ?_, ?_⟩
    all_goals simp (disch := omega) only [mset_eq, mset_ne, mset_nk, mrow_eq, mrow_ne, cpy_lt]
    all_goals simp only [and_self]
theorem take_27_7 {n : Nat} {M : Mem} {S : Sh} (hS : Std n S) : ∃ M', res 34 [aR 27, aR 7] M S = some (none, M', S) ∧ Tak M 27 7 M' := by
  have k27 := K27 hS
  have k28 := K28 hS
  have k29 := K29 hS
  have k30 := K30 hS
  have k31 := K31 hS
  have k32 := K32 hS
  have k33 := K33 hS
  have k34 := K34 hS
  have k35 := K35 hS
  have k36 := K36 hS
  have k7 := K7 hS
  have k8 := K8 hS
  have k9 := K9 hS
  have k10 := K10 hS
  have k11 := K11 hS
  have k12 := K12 hS
  have k13 := K13 hS
  have k14 := K14 hS
  have k15 := K15 hS
  have k16 := K16 hS
  have l28 := L28 hS
  have l29 := L29 hS
  have l30 := L30 hS
  have l31 := L31 hS
  have l32 := L32 hS
  have l33 := L33 hS
  have l34 := L34 hS
  have l35 := L35 hS
  have l36 := L36 hS
  have l8 := L8 hS
  have l9 := L9 hS
  have l10 := L10 hS
  have l11 := L11 hS
  have l12 := L12 hS
  have l13 := L13 hS
  have l14 := L14 hS
  have l15 := L15 hS
  have l16 := L16 hS
  refine ⟨(mset (mset (mset (mset (mset (mrow (mrow (mrow (mrow (mrow (mset (mrow (mrow (mrow (mrow M 28 (am_cpy (M 8) (M 28) (0 : Int).toNat (0 : Int).toNat (192 : Int).toNat)) 29 (am_cpy (M 9) (M 29) (0 : Int).toNat (0 : Int).toNat (192 : Int).toNat)) 30 (am_cpy (M 10) (M 30) (0 : Int).toNat (0 : Int).toNat (12 : Int).toNat)) 31 (am_cpy (M 11) (M 31) (0 : Int).toNat (0 : Int).toNat (12 : Int).toNat)) 27 4 (M 7 4)) 32 (am_cpy (M 12) (M 32) (0 : Int).toNat (0 : Int).toNat (4 : Int).toNat)) 33 (am_cpy (M 13) (M 33) (0 : Int).toNat (0 : Int).toNat (4 : Int).toNat)) 34 (am_cpy (M 14) (M 34) (0 : Int).toNat (0 : Int).toNat (4 : Int).toNat)) 35 (am_cpy (M 15) (M 35) (0 : Int).toNat (0 : Int).toNat (4 : Int).toNat)) 36 (am_cpy (M 16) (M 36) (0 : Int).toNat (0 : Int).toNat (4 : Int).toNat)) 27 10 (M 7 10)) 27 11 (M 7 11)) 27 12 (M 7 12)) 27 13 (M 7 13)) 27 14 (M 7 14)), ?_, ?_⟩
  · rw [g34]
    simp (disch := omega) only [g34_0, g34_0n, g34_1, g34_4, g34_5, g34_6, g34_9, g34_10, g34_13, g34_16, g34_16n, g34_17, g34_20, g34_21, g34_22, g34_25, g34_26, g34_29, g34_32, g34_32n, g34_33, g34_36, g34_37, g34_38, g34_41, g34_42, g34_44, g34_47, g34_47n, g34_48, g34_51, g34_52, g34_53, g34_56, g34_57, g34_59, g34_62, g34_63, g34_63n, g34_64, g34_67, g34_70, g34_70n, g34_71, g34_74, g34_75, g34_76, g34_79, g34_80, g34_81, g34_84, g34_84n, g34_85, g34_88, g34_89, g34_90, g34_93, g34_94, g34_95, g34_98, g34_98n, g34_99, g34_102, g34_103, g34_104, g34_107, g34_108, g34_109, g34_112, g34_112n, g34_113, g34_116, g34_117, g34_118, g34_121, g34_122, g34_123, g34_126, g34_126n, g34_127, g34_130, g34_131, g34_132, g34_135, g34_136, g34_137, g34_140, g34_141, g34_141n, g34_142, g34_145, g34_148, g34_149, g34_149n, g34_150, g34_153, g34_156, g34_157, g34_157n, g34_158, g34_161, g34_164, g34_165, g34_165n, g34_166, g34_169, g34_172, g34_173, g34_173n, g34_174, g34_177, g34_180, cont_1, cont_0, w32_o, mset_eq, mset_ne, mset_nk, mrow_eq, mrow_ne, P27_0 hS, P27_1 hS, P27_2 hS, P27_3 hS, P27_5 hS, P27_6 hS, P27_7 hS, P27_8 hS, P27_9 hS, P7_0 hS, P7_1 hS, P7_2 hS, P7_3 hS, P7_5 hS, P7_6 hS, P7_7 hS, P7_8 hS, P7_9 hS]
  · refine ⟨fun x hx => ?_, fun k hk => ?_, fun k hk => ?_, fun k hk => ?_, ?_⟩
    all_goals simp (disch := omega) only [mset_eq, mset_ne, mset_nk, mrow_eq, mrow_ne, cpy_lt]
    all_goals simp only [and_self]
theorem take_7_27 {n : Nat} {M : Mem} {S : Sh} (hS : Std n S) : ∃ M', res 34 [aR 7, aR 27] M S = some (none, M', S) ∧ Tak M 7 27 M' := by
  have k7 := K7 hS
  have k8 := K8 hS
  have k9 := K9 hS
  have k10 := K10 hS
  have k11 := K11 hS
  have k12 := K12 hS
  have k13 := K13 hS
  have k14 := K14 hS
  have k15 := K15 hS
  have k16 := K16 hS
  have k27 := K27 hS
  have k28 := K28 hS
  have k29 := K29 hS
  have k30 := K30 hS
  have k31 := K31 hS
  have k32 := K32 hS
  have k33 := K33 hS
  have k34 := K34 hS
  have k35 := K35 hS
  have k36 := K36 hS
  have l8 := L8 hS
  have l9 := L9 hS
  have l10 := L10 hS
  have l11 := L11 hS
  have l12 := L12 hS
  have l13 := L13 hS
  have l14 := L14 hS
  have l15 := L15 hS
  have l16 := L16 hS
  have l28 := L28 hS
  have l29 := L29 hS
  have l30 := L30 hS
  have l31 := L31 hS
  have l32 := L32 hS
  have l33 := L33 hS
  have l34 := L34 hS
  have l35 := L35 hS
  have l36 := L36 hS
  refine ⟨(mset (mset (mset (mset (mset (mrow (mrow (mrow (mrow (mrow (mset (mrow (mrow (mrow (mrow M 8 (am_cpy (M 28) (M 8) (0 : Int).toNat (0 : Int).toNat (192 : Int).toNat)) 9 (am_cpy (M 29) (M 9) (0 : Int).toNat (0 : Int).toNat (192 : Int).toNat)) 10 (am_cpy (M 30) (M 10) (0 : Int).toNat (0 : Int).toNat (12 : Int).toNat)) 11 (am_cpy (M 31) (M 11) (0 : Int).toNat (0 : Int).toNat (12 : Int).toNat)) 7 4 (M 27 4)) 12 (am_cpy (M 32) (M 12) (0 : Int).toNat (0 : Int).toNat (4 : Int).toNat)) 13 (am_cpy (M 33) (M 13) (0 : Int).toNat (0 : Int).toNat (4 : Int).toNat)) 14 (am_cpy (M 34) (M 14) (0 : Int).toNat (0 : Int).toNat (4 : Int).toNat)) 15 (am_cpy (M 35) (M 15) (0 : Int).toNat (0 : Int).toNat (4 : Int).toNat)) 16 (am_cpy (M 36) (M 16) (0 : Int).toNat (0 : Int).toNat (4 : Int).toNat)) 7 10 (M 27 10)) 7 11 (M 27 11)) 7 12 (M 27 12)) 7 13 (M 27 13)) 7 14 (M 27 14)), ?_, ?_⟩
  · rw [g34]
    simp (disch := omega) only [g34_0, g34_0n, g34_1, g34_4, g34_5, g34_6, g34_9, g34_10, g34_13, g34_16, g34_16n, g34_17, g34_20, g34_21, g34_22, g34_25, g34_26, g34_29, g34_32, g34_32n, g34_33, g34_36, g34_37, g34_38, g34_41, g34_42, g34_44, g34_47, g34_47n, g34_48, g34_51, g34_52, g34_53, g34_56, g34_57, g34_59, g34_62, g34_63, g34_63n, g34_64, g34_67, g34_70, g34_70n, g34_71, g34_74, g34_75, g34_76, g34_79, g34_80, g34_81, g34_84, g34_84n, g34_85, g34_88, g34_89, g34_90, g34_93, g34_94, g34_95, g34_98, g34_98n, g34_99, g34_102, g34_103, g34_104, g34_107, g34_108, g34_109, g34_112, g34_112n, g34_113, g34_116, g34_117, g34_118, g34_121, g34_122, g34_123, g34_126, g34_126n, g34_127, g34_130, g34_131, g34_132, g34_135, g34_136, g34_137, g34_140, g34_141, g34_141n, g34_142, g34_145, g34_148, g34_149, g34_149n, g34_150, g34_153, g34_156, g34_157, g34_157n, g34_158, g34_161, g34_164, g34_165, g34_165n, g34_166, g34_169, g34_172, g34_173, g34_173n, g34_174, g34_177, g34_180, cont_1, cont_0, w32_o, mset_eq, mset_ne, mset_nk, mrow_eq, mrow_ne, P7_0 hS, P7_1 hS, P7_2 hS, P7_3 hS, P7_5 hS, P7_6 hS, P7_7 hS, P7_8 hS, P7_9 hS, P27_0 hS, P27_1 hS, P27_2 hS, P27_3 hS, P27_5 hS, P27_6 hS, P27_7 hS, P27_8 hS, P27_9 hS]
  · refine ⟨fun x hx => ?_, fun k hk => ?_, fun k hk => ?_, fun k hk => ?_, ?_⟩
    all_goals simp (disch := omega) only [mset_eq, mset_ne, mset_nk, mrow_eq, mrow_ne, cpy_lt]
    all_goals simp only [and_self]
/-! flights in thought -/
/-- a flight of now, but for who, wind, hour, kind, more, fuel, film, every, law -/
def flN (M : Mem) (who wd ho kd mr fu fi ev t : Int) : FS × Int := flR who wd ho kd mr fu fi ev (tr 192 (M 8)) (M 7 4).toNat (tr (M 7 4).toNat (M 10)) (tr (M 7 4).toNat (M 11)) (cdT M t) (stT M t)
/-- with strips of its own -/
def flS (M : Mem) (ns : Nat) (ws ls : Nat → Int) : FS × Int := flR (M 7 13) (M 7 11) (M 7 12) (M 12 (M 7 13).toNat) (M 13 (M 7 13).toNat) (M 14 (M 7 13).toNat) (M 15 (M 7 13).toNat) (M 16 (M 7 13).toNat) (tr 192 (M 8)) ns ws ls (cdT M (M 7 14)) (stT M (M 7 14))
/-- how many miles it covers -/
def cvN (M : Mem) (R : FS × Int) : Int := ((cnt (mskF (M 9) R.1.1) 1 192 : Nat) : Int)
def Thk (M X : Mem) : Prop := FrC M X ∧ (∀ k, k < 192 → X 18 k = M 8 k) ∧ (∀ k, k < 192 → X 19 k = M 9 k) ∧ (∀ k, k < 12 → X 20 k = M 10 k ∧ X 21 k = M 11 k) ∧ (∀ k, k < 4 → X 22 k = M 12 k ∧ X 23 k = M 13 k ∧ X 24 k = M 14 k ∧ X 25 k = M 15 k ∧ X 26 k = M 16 k)
theorem Thk_T {M X X' : Mem} (h : Thk M X) (f : FrT X X') : Thk M X' := by
  obtain ⟨h0, h1, h2, h3, h4⟩ := h
  refine ⟨FrC_t h0 (FrT_C f), ?_, ?_, ?_, ?_⟩
  · rw [f 18 (by omega)]; exact h1
  · rw [f 19 (by omega)]; exact h2
  · rw [f 20 (by omega), f 21 (by omega)]; exact h3
  · rw [f 22 (by omega), f 23 (by omega), f 24 (by omega), f 25 (by omega), f 26 (by omega)]; exact h4
theorem FrC_s {M X : Mem} {a j : Nat} {v : Int} (h : FrC M X) (ha : scrC a) : FrC M (mset X a j v) := fun b hb => by
  have hne : b ≠ a := fun z => hb (by rw [z]; exact ha)
  rw [mset_ne _ _ _ hne]
  exact h b hb
theorem Thk_s {M X : Mem} {j : Nat} {v : Int} (h : Thk M X) : Thk M (mset X 17 j v) := by
  obtain ⟨h0, h1, h2, h3, h4⟩ := h
  refine ⟨FrC_s h0 (by unfold scrC; omega), ?_, ?_, ?_, ?_⟩
  all_goals simp (disch := omega) only [mset_ne]
  all_goals assumption
theorem Thk_of {M X : Mem} (h : Tak M 17 7 X) : Thk M X := by
  obtain ⟨h0, h1, h2, h3, _⟩ := h
  exact ⟨fun a ha => h0 a (by unfold scrC at ha; omega), fun k hk => (h1 k hk).1, fun k hk => (h1 k hk).2, h2, h3⟩
theorem th_fl {sc : Nat → Int} {M X : Mem} (hI : Inv sc M) (h : Thk M X) (h4 : X 17 4 = M 7 4) : flC X 17 = flN M (X 17 13) (X 17 11) (X 17 12) (X 22 (X 17 13).toNat) (X 23 (X 17 13).toNat) (X 24 (X 17 13).toNat) (X 25 (X 17 13).toNat) (X 26 (X 17 13).toNat) (X 17 14) := by
  obtain ⟨f, h0, h1, h2, h3⟩ := h
  have q3 := hI.2.1.2.2.1
  have r93 : X 93 = M 93 := f 93 (by unfold scrC; omega)
  have r94 : X 94 = M 94 := f 94 (by unfold scrC; omega)
  unfold flC flN cdT stT
  have e1 : tr 192 (X (17 + 1)) = tr 192 (M 8) := tr_ext h0
  have e2 : tr (M 7 4).toNat (X (17 + 3)) = tr (M 7 4).toNat (M 10) := tr_ext (fun k hk => (h2 k (by omega)).1)
  have e3 : tr (M 7 4).toNat (X (17 + 4)) = tr (M 7 4).toNat (M 11) := tr_ext (fun k hk => (h2 k (by omega)).2)
  rw [h4, e1, e2, e3, r93, r94]
/-- the plane that flies in thought is sound -/
def PlO (X : Mem) (p : Nat) : Prop := 0 ≤ X 22 p ∧ X 22 p ≤ 5 ∧ 0 ≤ X 23 p ∧ X 23 p ≤ 9 ∧ 1 ≤ X 26 p ∧ X 26 p ≤ 9
theorem fyC_th {sc : Nat → Int} {M X : Mem} (hI : Inv sc M) (f : FrC M X) (hs : 0 ≤ X 17 4 ∧ X 17 4 ≤ 12 ∧ ∀ k : Nat, (k : Int) < X 17 4 → 0 ≤ X 20 k ∧ X 20 k ≤ 3 ∧ 0 ≤ X 21 k ∧ X 21 k < 16 ∧ (X 20 k < 2 → X 21 k < 12)) (w0 : -1 ≤ X 17 13) (w1 : X 17 13 < 4) (hp : X 17 13 ≠ -1 → PlO X (X 17 13).toNat) (t0 : 0 ≤ X 17 14) (t1 : X 17 14 < M 6 5) : FyC X 17 := by
  have hI2 := Inv_frC hI f
  have r6 : X 6 = M 6 := f 6 (by unfold scrC; omega)
  have t5 := hI.2.2.2.2.1.2.2.1
  exact ⟨⟨hs, w0, w1, hp⟩, t0, by omega, lwT_of hI2 t0 (by rw [r6]; exact t1)⟩
theorem str_th {sc : Nat → Int} {M X : Mem} (hI : Inv sc M) (h : Thk M X) (h4 : X 17 4 = M 7 4) : 0 ≤ X 17 4 ∧ X 17 4 ≤ 12 ∧ ∀ k : Nat, (k : Int) < X 17 4 → 0 ≤ X 20 k ∧ X 20 k ≤ 3 ∧ 0 ≤ X 21 k ∧ X 21 k < 16 ∧ (X 20 k < 2 → X 21 k < 12) := by
  have hStr := hI.2.1
  have q3 := hStr.2.2.1
  rw [h4]
  refine ⟨hStr.2.1, hStr.2.2.1, fun k hk => ?_⟩
  rw [(h.2.2.2.1 k (by omega)).1, (h.2.2.2.1 k (by omega)).2]
  exact (hStr.2.2.2 k hk).2.2
theorem pl_th {sc : Nat → Int} {M X : Mem} (hI : Inv sc M) (h : Thk M X) {p : Nat} (hp : (p : Int) < M 7 10) : PlO X p := by
  have hPla := hI.2.2.1
  have q3 := hPla.2.2.1
  obtain ⟨e1, e2, _, _, e5⟩ := h.2.2.2.2 p (by omega)
  obtain ⟨_, _, _, _, _, u0, u1, u2, u3, _, _, _, _, u4, u5⟩ := hPla.2.2.2 p hp
  unfold PlO
  rw [e1, e2, e5]
  exact ⟨u0, u1, u2, u3, u4, u5⟩
theorem cov_th {n : Nat} {sc : Nat → Int} {M X : Mem} {S : Sh} (hS : Std n S) (hI : Inv sc M) (f : FrC M X) (hc : ∀ k, k < 192 → X 19 k = M 9 k) (hF : FyC X 17) : ∃ X', res 91 [aR 6, aR 17] X S = some (some (aI (cvN M (flC X 17))), X', S) ∧ AfC X (flC X 17) X' := by
  obtain ⟨o, t0, t6, d⟩ := hF
  obtain ⟨X', h, a⟩ := coveredBy_ hS (Inv_frC hI f).2.2.2.2.2.2.2.1 (Or.inr rfl) o t0 t6 d
  refine ⟨X', ?_, afC_AfC t0 t6 a⟩
  have e : cnt (mskF (X (17 + 2)) (flC X 17).1.1) 1 192 = cnt (mskF (M 9) (flC X 17).1.1) 1 192 := cnt_ext (fun k hk => by
    unfold mskF
    rw [show X (17 + 2) k = M 9 k from hc k hk])
  rw [e] at h
  exact h
theorem cov_now {n : Nat} {sc : Nat → Int} {M : Mem} {S : Sh} (hS : Std n S) (hI : Inv sc M) : ∃ X', res 91 [aR 6, aR 7] M S = some (some (aI (cvN M (flC M 7))), X', S) ∧ AfC M (flC M 7) X' := by
  obtain ⟨o, t0, t6, d⟩ := fyC_of hI
  obtain ⟨X', h, a⟩ := coveredBy_ hS hI.2.2.2.2.2.2.2.1 (Or.inl rfl) o t0 t6 d
  exact ⟨X', h, afC_AfC t0 t6 a⟩
theorem flC_N {M : Mem} : flC M 7 = flN M (M 7 13) (M 7 11) (M 7 12) (M 12 (M 7 13).toNat) (M 13 (M 7 13).toNat) (M 14 (M 7 13).toNat) (M 15 (M 7 13).toNat) (M 16 (M 7 13).toNat) (M 7 14) := rfl
theorem flC_S {M : Mem} : flC M 7 = flS M (M 7 4).toNat (tr (M 7 4).toNat (M 10)) (tr (M 7 4).toNat (M 11)) := rfl
/-- by who flies, the planes being as they are -/
def flW (M : Mem) (who wd ho t : Int) : FS × Int := flN M who wd ho (M 12 who.toNat) (M 13 who.toNat) (M 14 who.toNat) (M 15 who.toNat) (M 16 who.toNat) t
theorem th_W {sc : Nat → Int} {M X : Mem} (hI : Inv sc M) (h : Thk M X) (h4 : X 17 4 = M 7 4) (w1 : X 17 13 < 4) : flC X 17 = flW M (X 17 13) (X 17 11) (X 17 12) (X 17 14) := by
  obtain ⟨e1, e2, e3, e4, e5⟩ := h.2.2.2.2 (X 17 13).toNat (by omega)
  rw [th_fl hI h h4, e1, e2, e3, e4, e5]
  rfl
theorem flW_now {M : Mem} : flC M 7 = flW M (M 7 13) (M 7 11) (M 7 12) (M 7 14) := rfl
theorem flN_none {M : Mem} {wd ho kd mr fu fi ev t : Int} : flN M (-1) wd ho kd mr fu fi ev t = ((fun _ => 0, 0, 0, 0), 0) := by
  unfold flN flR
  rw [if_pos rfl]
/-! the model's -/
theorem flMR_none {who wd ho kd mr fu fi ev : Int} {hl : Nat → Int} {ns : Nat} {ws ls cd st : Nat → Int} : flMR who wd ho kd mr fu fi ev hl ns ws ls cd st (-1) = flR who wd ho kd mr fu fi ev hl ns ws ls cd st := by
  unfold flMR flR
  split
  · rfl
  · rw [flM_none _ _ _ _ _ (by rw [if_pos rfl])]
/-- the model in thought: what no thought of it changes -/
def Mk (M Y : Mem) : Prop := (∀ k, k < 192 → Y 85 k = M 8 k) ∧ Y 93 = M 93 ∧ Y 94 = M 94
theorem md_fl {M Y : Mem} (h : Mk M Y) (h9 : Y 84 9 = M 7 4) (h43 : Y 84 43 = -1) (hs : ∀ k : Nat, (k : Int) < M 7 4 → Y 90 k = M 10 k ∧ Y 91 k = M 11 k) : flMd Y (Y 84 43) = flN M (Y 84 4) (Y 84 2) (Y 84 3) (Y 87 (Y 84 4).toNat) (Y 88 (Y 84 4).toNat) (Y 89 (3 * (Y 84 4).toNat)) (Y 89 (3 * (Y 84 4).toNat + 1)) (Y 89 (3 * (Y 84 4).toNat + 2)) (Y 84 17) := by
  obtain ⟨h0, r93, r94⟩ := h
  unfold flMd flN cdT stT
  have e1 : tr 192 (Y 85) = tr 192 (M 8) := tr_ext h0
  have e2 : tr (M 7 4).toNat (Y 90) = tr (M 7 4).toNat (M 10) := tr_ext (fun k hk => (hs k (by omega)).1)
  have e3 : tr (M 7 4).toNat (Y 91) = tr (M 7 4).toNat (M 11) := tr_ext (fun k hk => (hs k (by omega)).2)
  rw [h9, h43, flMR_none, e1, e2, e3, r93, r94]
/-- the model in thought, its rows as they were -/
def FrR (M Y : Mem) : Prop := ∀ a, a ≠ 84 → (a < 103 ∨ 109 < a) → Y a = M a
theorem md_W {sc : Nat → Int} {M Y : Mem} (hI : Inv sc M) (r : FrR M Y) (h9 : Y 84 9 = M 84 9) (h43 : Y 84 43 = M 84 43) (w0 : -1 ≤ Y 84 4) (w1 : Y 84 4 < M 7 10) : flMd Y (Y 84 43) = flW M (Y 84 4) (Y 84 2) (Y 84 3) (Y 84 17) := by
  obtain ⟨hLand, hStr, hPla, hNow, hTap, hImg, hShe, hCst, hLaw⟩ := hI
  have R : ∀ a, 85 ≤ a → a ≤ 94 → Y a = M a := fun a h0 h1 => r a (by omega) (by omega)
  rw [md_fl (M := M) ⟨fun k hk => by rw [R 85 (by omega) (by omega)]; exact (hLand k hk).1, R 93 (by omega) (by omega), R 94 (by omega) (by omega)⟩ (h9.trans hStr.1) (h43.trans hCst.2.1) (fun k hk => by rw [R 90 (by omega) (by omega), R 91 (by omega) (by omega)]; exact ⟨(hStr.2.2.2 k hk).1, (hStr.2.2.2 k hk).2.1⟩)]
  unfold flW
  by_cases hw : Y 84 4 = -1
  · rw [hw, flN_none, flN_none]
  · obtain ⟨v0, v1, v2, v3, v4, _⟩ := hPla.2.2.2 (Y 84 4).toNat (by omega)
    rw [R 87 (by omega) (by omega), R 88 (by omega) (by omega), R 89 (by omega) (by omega), v0, v1, v2, v3, v4]
theorem fyM_mk {sc : Nat → Int} {M Y : Mem} (hI : Inv sc M) (r93 : Y 93 = M 93) (r94 : Y 94 = M 94) (hs : 0 ≤ Y 84 9 ∧ Y 84 9 ≤ 12 ∧ ∀ k : Nat, (k : Int) < Y 84 9 → 0 ≤ Y 90 k ∧ Y 90 k ≤ 3 ∧ 0 ≤ Y 91 k ∧ Y 91 k < 16 ∧ (Y 90 k < 2 → Y 91 k < 12)) (hc : ∀ k, k < 192 → Y 86 k = 0 ∨ Y 86 k = 1) (w0 : -1 ≤ Y 84 4) (w1 : Y 84 4 < 4) (hp : Y 84 4 ≠ -1 → 0 ≤ Y 87 (Y 84 4).toNat ∧ Y 87 (Y 84 4).toNat ≤ 5 ∧ 0 ≤ Y 88 (Y 84 4).toNat ∧ Y 88 (Y 84 4).toNat ≤ 9 ∧ 1 ≤ Y 89 (3 * (Y 84 4).toNat + 2) ∧ Y 89 (3 * (Y 84 4).toNat + 2) ≤ 9) (t0 : 0 ≤ Y 84 17) (t1 : Y 84 17 < M 6 5) : FyM Y := by
  have t5 := hI.2.2.2.2.1.2.2.1
  have hl := hI.2.2.2.2.2.2.2.2.1 (Y 84 17).toNat (by omega)
  obtain ⟨⟨_, d1, d2, d3⟩, d0⟩ := lawD_of (by omega) hl
  rw [← r93, ← r94] at d3
  rw [← r94] at d0
  exact ⟨⟨hs, hc, w0, w1, hp⟩, by omega, by omega, d0, fun p hp => rfl, fun k hk => rfl, d3⟩
theorem fyM_W {sc : Nat → Int} {M Y : Mem} (hI : Inv sc M) (r : FrR M Y) (h9 : Y 84 9 = M 84 9) (w0 : -1 ≤ Y 84 4) (w1 : Y 84 4 < M 7 10) (t0 : 0 ≤ Y 84 17) (t1 : Y 84 17 < M 6 5) : FyM Y := by
  have hI0 := hI
  obtain ⟨hLand, hStr, hPla, hNow, hTap, hImg, hShe, hCst, hLaw⟩ := hI
  have R : ∀ a, 85 ≤ a → a ≤ 94 → Y a = M a := fun a h0 h1 => r a (by omega) (by omega)
  have p3 := hPla.2.2.1
  have q1 := hStr.1
  have q2 := hStr.2.1
  have q3 := hStr.2.2.1
  refine fyM_mk hI0 (R 93 (by omega) (by omega)) (R 94 (by omega) (by omega)) ⟨by omega, by omega, fun k hk => ?_⟩ (fun k hk => ?_) w0 (by omega) (fun hw => ?_) t0 t1
  · obtain ⟨v0, v1, u⟩ := hStr.2.2.2 k (by omega)
    rw [R 90 (by omega) (by omega), R 91 (by omega) (by omega), v0, v1]
    exact u
  · obtain ⟨_, v, _, _, v0, v1⟩ := hLand k hk
    rw [R 86 (by omega) (by omega)]
    omega
  · obtain ⟨v0, v1, _, _, v2, u0, u1, u2, u3, _, _, _, _, u4, u5⟩ := hPla.2.2.2 (Y 84 4).toNat (by omega)
    rw [R 87 (by omega) (by omega), R 88 (by omega) (by omega), R 89 (by omega) (by omega), v0, v1, v2]
    exact ⟨u0, u1, u2, u3, u4, u5⟩
theorem cov_md {n : Nat} {M Y : Mem} {S : Sh} (hS : Std n S) (hc : ∀ k, k < 192 → Y 86 k = M 9 k) (hF : FyM Y) : ∃ Y', res 146 [aR 84] Y S = some (some (aI (cvN M (flMd Y (Y 84 43)))), Y', S) ∧ AfM Y (flMd Y (Y 84 43)) Y' := by
  obtain ⟨o, d⟩ := hF
  obtain ⟨Y', h, a⟩ := flown_ hS o d
  refine ⟨Y', ?_, a⟩
  have e : cnt (mskF (Y 86) (flMd Y (Y 84 43)).1.1) 1 192 = cnt (mskF (M 9) (flMd Y (Y 84 43)).1.1) 1 192 := cnt_ext (fun k hk => by
    unfold mskF
    rw [hc k hk])
  rw [e] at h
  exact h
theorem cnt_cv {M : Mem} {R : FS × Int} : 0 ≤ cvN M R ∧ cvN M R ≤ 192 := by
  have := cnt_le (mskF (M 9) R.1.1) 1 192
  unfold cvN
  omega
