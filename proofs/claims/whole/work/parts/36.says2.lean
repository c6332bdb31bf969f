/-! what a text says, whole -/
def bnd3 (a b v : Int) : Int := if v < a then a else if b < v then b else v
def laOf (t : Nat) : Nat := if t = 0 then 45 else 46 + 5 * t
def LwD (M : Mem) (la : Nat) (cd st : Nat → Int) : Prop := (0 ≤ st 0 ∧ st 0 < st 1 ∧ st 1 < st 2 ∧ st 2 < st 3 ∧ st 3 ≤ 160) ∧ (∀ p, p < 4 → M (la + 3) p = st p) ∧ (∀ k : Nat, (k : Int) < st 3 → cd k = cOf (M (la + 1) k) (M (la + 2) k) ∧ wOK (M (la + 1) k) (M (la + 2) k)) ∧ (∀ p, p < 3 → okP cd (st p).toNat (st (p + 1) - st p).toNat)
/-- the model's side of it -/
def MwD (M : Mem) (t : Nat) (cd st : Nat → Int) : Prop := M 84 17 = (t : Int) ∧ t < 6 ∧ (0 ≤ st 0 ∧ st 0 < st 1 ∧ st 1 < st 2 ∧ st 2 < st 3 ∧ st 3 ≤ 160) ∧ (∀ p, p < 4 → M 94 (4 * t + p) = st p) ∧ (∀ k : Nat, (k : Int) < st 3 → M 93 (200 * t + k) = cd k) ∧ (∀ p, p < 3 → okP cd (st p).toNat (st (p + 1) - st p).toNat)
theorem st_mono {st : Nat → Int} (h : 0 ≤ st 0 ∧ st 0 < st 1 ∧ st 1 < st 2 ∧ st 2 < st 3 ∧ st 3 ≤ 160) {p : Nat} (p3 : p < 3) : 0 ≤ st p ∧ st p < st (p + 1) ∧ st (p + 1) ≤ st 3 ∧ st 3 ≤ 160 := by
  rcases (by omega : p = 0 ∨ p = 1 ∨ p = 2) with rfl | rfl | rfl
  · exact ⟨by omega, h.2.1, (by omega : st 1 ≤ st 3), h.2.2.2.2⟩
  · exact ⟨by omega, h.2.2.1, (by omega : st 2 ≤ st 3), h.2.2.2.2⟩
  · exact ⟨by omega, h.2.2.2.1, (by omega : st 3 ≤ st 3), h.2.2.2.2⟩
theorem says_loop {n : Nat} {M : Mem} {S : Sh} {r la na lo nn p : Nat} {s0 cd : Nat → Int} {a b : Int} (hr : 10 < r) (hS : Std n S) (hL : LawS S la) (Kn : S.1 na = 7) (Ln : S.2.1 na = 6) (hna : na ≠ la + 4) (p3 : p < 3) (hcd : ∀ k, k < nn → cd (lo + k) = cOf (M (la + 1) (lo + k)) (M (la + 2) (lo + k)) ∧ wOK (M (la + 1) (lo + k)) (M (la + 2) (lo + k))) (ok : okP cd lo nn) (e160 : lo + nn ≤ 160) (c1 : M 1 p = a) (c2 : M 2 p = b) : ∀ (j k : Nat) (l6 : Option AV), k + j = nn →
  go r 13 24 [some (aR la), some (aI (p : Int)), some (aR na), some (aI ((hAt cd lo k : Nat) : Int)), some (aI ((lo + nn : Nat) : Int)), some (aI ((lo + k : Nat) : Int)), l6] [] (mrow M (la + 4) (evF cd (M na) lo s0 k)) S = some (some (aI (bnd3 a b (evF cd (M na) lo s0 nn 0))), mrow M (la + 4) (evF cd (M na) lo s0 nn), S) := by
  intro j
  induction j with
  | zero =>
    intro k l6 hk
    have hk2 : k = nn := by omega
    subst hk2
    obtain ⟨a0, q0, q1, q2, q3, q4, u1, u2, u3, u4, P0, P1, P2, P3⟩ := hL
    have k1 := K1 hS
    have k2 := K2 hS
    have l1 := L1 hS
    have l2 := L2 hS
    rw [g13_24]
    simp (disch := omega) only [g13_0, g13_1, g13_2, g13_3, g13_6, g13_7, g13_8, g13_9, g13_12, g13_14, g13_15, g13_18, g13_19, g13_22, g13_26, g13_28t, g13_28f, g13_31, g13_32, g13_35, g13_37, g13_40, g13_42, g13_44, g13_45t, g13_45f, g13_48, g13_49, g13_52, g13_53, g13_54, g13_57, g13_59, g13_62, g13_65, g13_68, g13_71, g13_73, g13_74t, g13_74f, g13_77, g13_78, g13_81, g13_82, g13_82n, g13_83, g13_84, g13_87, g13_89, g13_92, g13_95, g13_98, g13_101, g13_104, g13_106, g13_108t, g13_108f, g13_111, g13_112, g13_115, g13_116, g13_117, g13_118, g13_119, g13_122, g13_123, g13_124, g13_125, g13_132, g13_136, g13_139, g13_142, g13_144, g13_146t, g13_146f, g13_149, g13_150, g13_153, g13_154, g13_155, g13_156, g13_157, g13_160, g13_161, g13_162, g13_163, g13_166, g13_167, g13_170, g13_173, g13_176, g13_177, g13_180, g13_181, g13_182, g13_183, g13_185, g13_186, g13_189, g13_190, g13_191, g13_192, g13_195, g13_196, g13_199, g13_200, g13_203, g13_206, g13_209, g13_212, g13_215, g13_216, g13_219, g13_220, g13_223, g13_226, g13_227, g13_230, g13_233, g13_234, g13_237, g13_240, g13_128tt, cont_1, cont_0, w32_o, at_in, at_out, put_in, put_out, mrow_eq, mrow_ne, mset_mrow, Int.toNat_natCast, tn_m1, tn_a1, tn_m2, nc_1, P3, n0, c1, c2, bounded_]
    rfl
  | succ j ih =>
    intro k l6 hk
    have q := hcd k (by omega)
    have hle := hAt_le cd lo k
    have z := says_step (r := r) (x1 := (p : Int)) (l6 := l6) (e := ((lo + nn : Nat) : Int)) (s := evF cd (M na) lo s0 k) (h := hAt cd lo k) (k := lo + k) hr hL Kn Ln hna (by omega) (by omega) (by omega) rfl rfl q.2 (q.1 ▸ ok k (by omega))
    rw [z, ← q.1]
    exact ih (k + 1) _ (by omega)
theorem says_ {n : Nat} {M : Mem} {S : Sh} {la na p : Nat} {cd st nm : Nat → Int} {a b : Int} (hS : Std n S) (hL : LawS S la) (hD : LwD M la cd st) (p3 : p < 3) (hna : na = 42 ∨ na = 43) (hn : ∀ j, j < 6 → M na j = nm j) (c1 : M 1 p = a) (c2 : M 2 p = b) : res 13 [aR la, aI (p : Int), aR na] M S = some (some (aI (bnd3 a b (evV cd nm (st p).toNat (st (p + 1) - st p).toNat))), mrow M (la + 4) (evF cd (M na) (st p).toNat (M (la + 4)) (st (p + 1) - st p).toNat), S) := by
  have hL0 := hL
  obtain ⟨a0, q0, q1, q2, q3, q4, u1, u2, u3, u4, P0, P1, P2, P3⟩ := hL
  obtain ⟨d0, d1, d2, d3⟩ := hD
  have sm := st_mono d0 p3
  have Kn : S.1 na = 7 := by
    rcases hna with rfl | rfl
    · exact K42 hS
    · exact K43 hS
  have Ln : S.2.1 na = 6 := by
    rcases hna with rfl | rfl
    · exact L42 hS
    · exact L43 hS
  have hne : na ≠ la + 4 := by omega
  have i1 : ((p : Int) + 1).toNat = p + 1 := by omega
  have e1 := d1 p (by omega)
  have e2 := d1 (p + 1) (by omega)
  obtain ⟨lo, hlo⟩ : ∃ lo : Nat, st p = (lo : Int) := ⟨(st p).toNat, by omega⟩
  obtain ⟨nn, hnn⟩ : ∃ nn : Nat, st (p + 1) = ((lo + nn : Nat) : Int) := ⟨(st (p + 1) - st p).toNat, by omega⟩
  have t1 : (st p).toNat = lo := by omega
  have t2 : (st (p + 1) - st p).toNat = nn := by omega
  have d3p := d3 p p3
  rw [t1, t2] at d3p ⊢
  have z := says_loop (r := 11) (s0 := M (la + 4)) (by omega) hS hL0 Kn Ln hne p3 (lo := lo) (nn := nn) (fun k hk => d2 (lo + k) (by omega)) d3p (by omega) c1 c2 nn 0 none (by omega)
  rw [evF, mrow_self, evF_val d3p (by omega) hn] at z
  rw [g13]
  simp (disch := omega) only [g13_0, g13_1, g13_2, g13_3, g13_6, g13_7, g13_8, g13_9, g13_12, g13_14, g13_15, g13_18, g13_19, g13_22, g13_26, g13_28t, g13_28f, g13_31, g13_32, g13_35, g13_37, g13_40, g13_42, g13_44, g13_45t, g13_45f, g13_48, g13_49, g13_52, g13_53, g13_54, g13_57, g13_59, g13_62, g13_65, g13_68, g13_71, g13_73, g13_74t, g13_74f, g13_77, g13_78, g13_81, g13_82, g13_82n, g13_83, g13_84, g13_87, g13_89, g13_92, g13_95, g13_98, g13_101, g13_104, g13_106, g13_108t, g13_108f, g13_111, g13_112, g13_115, g13_116, g13_117, g13_118, g13_119, g13_122, g13_123, g13_124, g13_125, g13_132, g13_136, g13_139, g13_142, g13_144, g13_146t, g13_146f, g13_149, g13_150, g13_153, g13_154, g13_155, g13_156, g13_157, g13_160, g13_161, g13_162, g13_163, g13_166, g13_167, g13_170, g13_173, g13_176, g13_177, g13_180, g13_181, g13_182, g13_183, g13_185, g13_186, g13_189, g13_190, g13_191, g13_192, g13_195, g13_196, g13_199, g13_200, g13_203, g13_206, g13_209, g13_212, g13_215, g13_216, g13_219, g13_220, g13_223, g13_226, g13_227, g13_230, g13_233, g13_234, g13_237, g13_240, g13_128tt, cont_1, cont_0, w32_o, at_in, at_out, put_in, put_out, mrow_eq, mrow_ne, mset_mrow, Int.toNat_natCast, tn_m1, tn_a1, tn_m2, nc_1, P2, i1, e1, e2, hlo, hnn]
  exact z
theorem msays_loop {n : Nat} {M : Mem} {S : Sh} {r t p lo nn : Nat} {s0 cd : Nat → Int} (hr : 10 < r) (hS : Std n S) (ht : M 84 17 = (t : Int)) (t6 : t < 6) (p3 : p < 3) (he : M 94 (4 * t + p + 1) = ((lo + nn : Nat) : Int)) (hcd : ∀ k, k < nn → M 93 (200 * t + (lo + k)) = cd (lo + k)) (ok : okP cd lo nn) (e160 : lo + nn ≤ 160) : ∀ (j k : Nat) (l4 : Option AV), k + j = nn →
  go r 128 16 [some (aR 84), some (aI (p : Int)), some (aI ((hAt cd lo k : Nat) : Int)), some (aI ((lo + k : Nat) : Int)), l4] [] (mrow M 104 (evF cd (M 105) lo s0 k)) S = some (some (aI (evF cd (M 105) lo s0 nn 0)), mrow M 104 (evF cd (M 105) lo s0 nn), S) := by
  intro j
  induction j with
  | zero =>
    intro k l4 hk
    have hk2 : k = nn := by omega
    subst hk2
    have k84 := K84 hS
    have k93 := K93 hS
    have k94 := K94 hS
    have k104 := K104 hS
    have k105 := K105 hS
    have l93 := L93 hS
    have l94 := L94 hS
    have l104 := L104 hS
    have l105 := L105 hS
    have i1 : (4 * (t : Int) + (p : Int) + 1).toNat = 4 * t + p + 1 := by omega
    rw [g128_16]
    simp (disch := omega) only [g128_0, g128_1, g128_2, g128_3, g128_6, g128_7, g128_8, g128_11, g128_12, g128_13, g128_14, g128_15, g128_17, g128_18, g128_21, g128_22, g128_23, g128_26, g128_27, g128_28, g128_29, g128_30, g128_31, g128_32t, g128_32f, g128_35, g128_36, g128_39, g128_42, g128_43, g128_46, g128_47, g128_48, g128_49, g128_50, g128_52, g128_54, g128_56t, g128_56f, g128_59, g128_61, g128_63t, g128_63f, g128_66, g128_67, g128_70, g128_71, g128_73, g128_75t, g128_75f, g128_78, g128_79, g128_82, g128_84, g128_85, g128_88, g128_90, g128_92, g128_93, g128_94, g128_97, g128_100, g128_102, g128_104t, g128_104f, g128_107, g128_108, g128_111, g128_112, g128_113, g128_114, g128_115, g128_118, g128_119, g128_120, g128_121, g128_126, g128_130, g128_131, g128_134, g128_136, g128_138t, g128_138f, g128_141, g128_142, g128_145, g128_146, g128_147, g128_148, g128_149, g128_152, g128_153, g128_154, g128_155, g128_156, g128_157, g128_158, g128_161, g128_164, g128_165, g128_168, g128_169, g128_170, g128_171, g128_173, g128_174, g128_177, g128_178, g128_179, g128_180, g128_181, g128_182, g128_185, g128_186, g128_187, g128_190, g128_191, g128_194, g128_197, g128_198, g128_201, g128_202, g128_203, g128_122tt, cont_1, cont_0, w32_o, at_in, at_out, put_in, put_out, mrow_eq, mrow_ne, mset_mrow, Int.toNat_natCast, tn_m1, tn_a1, tn_m2, nc_1, P84_15 hS, P84_35 hS, ht, he, i1, n0]
  | succ j ih =>
    intro k l4 hk
    have q := hcd k (by omega)
    have hle := hAt_le cd lo k
    have z := msays_step (r := r) (p := p) (l4 := l4) (s := evF cd (M 105) lo s0 k) (h := hAt cd lo k) (k := lo + k) hr hS ht t6 p3 he (by omega) (by omega) (by omega) q (ok k (by omega))
    rw [z]
    exact ih (k + 1) _ (by omega)
theorem msays_ {n : Nat} {M : Mem} {S : Sh} {t p : Nat} {cd st nm : Nat → Int} (hS : Std n S) (hD : MwD M t cd st) (p3 : p < 3) (hn : ∀ j, j < 6 → M 105 j = nm j) : res 128 [aR 84, aI (p : Int)] M S = some (some (aI (evV cd nm (st p).toNat (st (p + 1) - st p).toNat)), mrow M 104 (evF cd (M 105) (st p).toNat (M 104) (st (p + 1) - st p).toNat), S) := by
  obtain ⟨ht, t6, d0, d1, d2, d3⟩ := hD
  have sm := st_mono d0 p3
  have k84 := K84 hS
  have k93 := K93 hS
  have k94 := K94 hS
  have k104 := K104 hS
  have k105 := K105 hS
  have l93 := L93 hS
  have l94 := L94 hS
  have l104 := L104 hS
  have l105 := L105 hS
  have i1 : (4 * (t : Int) + (p : Int)).toNat = 4 * t + p := by omega
  have e1 := d1 p (by omega)
  have e2 := d1 (p + 1) (by omega)
  obtain ⟨lo, hlo⟩ : ∃ lo : Nat, st p = (lo : Int) := ⟨(st p).toNat, by omega⟩
  obtain ⟨nn, hnn⟩ : ∃ nn : Nat, st (p + 1) = ((lo + nn : Nat) : Int) := ⟨(st (p + 1) - st p).toNat, by omega⟩
  have t1 : (st p).toNat = lo := by omega
  have t2 : (st (p + 1) - st p).toNat = nn := by omega
  have d3p := d3 p p3
  rw [t1, t2] at d3p ⊢
  have z := msays_loop (r := 11) (s0 := M 104) (by omega) hS ht t6 p3 (lo := lo) (nn := nn) (by rw [← hnn]; exact e2) (fun k hk => d2 (lo + k) (by omega)) d3p (by omega) nn 0 none (by omega)
  rw [evF, mrow_self, evF_val d3p (by omega) hn] at z
  rw [g128]
  simp (disch := omega) only [g128_0, g128_1, g128_2, g128_3, g128_6, g128_7, g128_8, g128_11, g128_12, g128_13, g128_14, g128_15, g128_17, g128_18, g128_21, g128_22, g128_23, g128_26, g128_27, g128_28, g128_29, g128_30, g128_31, g128_32t, g128_32f, g128_35, g128_36, g128_39, g128_42, g128_43, g128_46, g128_47, g128_48, g128_49, g128_50, g128_52, g128_54, g128_56t, g128_56f, g128_59, g128_61, g128_63t, g128_63f, g128_66, g128_67, g128_70, g128_71, g128_73, g128_75t, g128_75f, g128_78, g128_79, g128_82, g128_84, g128_85, g128_88, g128_90, g128_92, g128_93, g128_94, g128_97, g128_100, g128_102, g128_104t, g128_104f, g128_107, g128_108, g128_111, g128_112, g128_113, g128_114, g128_115, g128_118, g128_119, g128_120, g128_121, g128_126, g128_130, g128_131, g128_134, g128_136, g128_138t, g128_138f, g128_141, g128_142, g128_145, g128_146, g128_147, g128_148, g128_149, g128_152, g128_153, g128_154, g128_155, g128_156, g128_157, g128_158, g128_161, g128_164, g128_165, g128_168, g128_169, g128_170, g128_171, g128_173, g128_174, g128_177, g128_178, g128_179, g128_180, g128_181, g128_182, g128_185, g128_186, g128_187, g128_190, g128_191, g128_194, g128_197, g128_198, g128_201, g128_202, g128_203, g128_122tt, cont_1, cont_0, w32_o, at_in, at_out, put_in, put_out, mrow_eq, mrow_ne, mset_mrow, Int.toNat_natCast, tn_m1, tn_a1, tn_m2, nc_1, P84_15 hS, ht, i1, e1, hlo]
  exact z
/-! names -/
def nmR (f : Nat → Int) (a b c d e g : Int) : Nat → Int := fset (fset (fset (fset (fset (fset f 0 a) 1 b) 2 c) 3 d) 4 e) 5 g
def nmv (a b c d e g : Int) : Nat → Int := fun j => if j = 0 then a else if j = 1 then b else if j = 2 then c else if j = 3 then d else if j = 4 then e else g
theorem nmR_v (f : Nat → Int) (a b c d e g : Int) : ∀ j, j < 6 → nmR f a b c d e g j = nmv a b c d e g j := by
  intro j hj
  rcases (by omega : j = 0 ∨ j = 1 ∨ j = 2 ∨ j = 3 ∨ j = 4 ∨ j = 5) with rfl | rfl | rfl | rfl | rfl | rfl
  all_goals rfl
def SceneS (S : Sh) (b : Nat) : Prop := (b = 7 ∨ b = 17) ∧ (S.1 b = 3 ∧ S.1 (b + 1) = 7 ∧ S.1 (b + 2) = 7 ∧ S.1 (b + 3) = 7 ∧ S.1 (b + 4) = 7 ∧ S.1 (b + 5) = 7 ∧ S.1 (b + 6) = 7 ∧ S.1 (b + 7) = 7 ∧ S.1 (b + 8) = 7 ∧ S.1 (b + 9) = 7)
  ∧ (S.2.1 (b + 1) = 192 ∧ S.2.1 (b + 2) = 192 ∧ S.2.1 (b + 3) = 12 ∧ S.2.1 (b + 4) = 12 ∧ S.2.1 (b + 5) = 4 ∧ S.2.1 (b + 6) = 4 ∧ S.2.1 (b + 7) = 4 ∧ S.2.1 (b + 8) = 4 ∧ S.2.1 (b + 9) = 4)
  ∧ S.2.2.1 b 0 = some (b + 1) ∧ S.2.2.1 b 1 = some (b + 2) ∧ S.2.2.1 b 2 = some (b + 3) ∧ S.2.2.1 b 3 = some (b + 4) ∧ S.2.2.1 b 5 = some (b + 5) ∧ S.2.2.1 b 6 = some (b + 6) ∧ S.2.2.1 b 7 = some (b + 7) ∧ S.2.2.1 b 8 = some (b + 8) ∧ S.2.2.1 b 9 = some (b + 9)
theorem sceneS_of {n b : Nat} {S : Sh} (hS : Std n S) (hb : b = 7 ∨ b = 17) : SceneS S b := by
  refine ⟨hb, ?_⟩
  rcases hb with rfl | rfl
  · exact ⟨⟨K7 hS, K8 hS, K9 hS, K10 hS, K11 hS, K12 hS, K13 hS, K14 hS, K15 hS, K16 hS⟩, ⟨L8 hS, L9 hS, L10 hS, L11 hS, L12 hS, L13 hS, L14 hS, L15 hS, L16 hS⟩, P7_0 hS, P7_1 hS, P7_2 hS, P7_3 hS, P7_5 hS, P7_6 hS, P7_7 hS, P7_8 hS, P7_9 hS⟩
  · exact ⟨⟨K17 hS, K18 hS, K19 hS, K20 hS, K21 hS, K22 hS, K23 hS, K24 hS, K25 hS, K26 hS⟩, ⟨L18 hS, L19 hS, L20 hS, L21 hS, L22 hS, L23 hS, L24 hS, L25 hS, L26 hS⟩, P17_0 hS, P17_1 hS, P17_2 hS, P17_3 hS, P17_5 hS, P17_6 hS, P17_7 hS, P17_8 hS, P17_9 hS⟩
theorem lawS_of {n t : Nat} {S : Sh} (hS : Std n S) (t6 : t < 6) : LawS S (laOf t) := by
  rcases (by omega : t = 0 ∨ t = 1 ∨ t = 2 ∨ t = 3 ∨ t = 4 ∨ t = 5) with rfl | rfl | rfl | rfl | rfl | rfl
  · exact ⟨by decide, K45 hS, K46 hS, K47 hS, K48 hS, K49 hS, L46 hS, L47 hS, L48 hS, L49 hS, P45_0 hS, P45_1 hS, P45_2 hS, P45_3 hS⟩
  · exact ⟨by decide, K51 hS, K52 hS, K53 hS, K54 hS, K55 hS, L52 hS, L53 hS, L54 hS, L55 hS, P51_0 hS, P51_1 hS, P51_2 hS, P51_3 hS⟩
  · exact ⟨by decide, K56 hS, K57 hS, K58 hS, K59 hS, K60 hS, L57 hS, L58 hS, L59 hS, L60 hS, P56_0 hS, P56_1 hS, P56_2 hS, P56_3 hS⟩
  · exact ⟨by decide, K61 hS, K62 hS, K63 hS, K64 hS, K65 hS, L62 hS, L63 hS, L64 hS, L65 hS, P61_0 hS, P61_1 hS, P61_2 hS, P61_3 hS⟩
  · exact ⟨by decide, K66 hS, K67 hS, K68 hS, K69 hS, K70 hS, L67 hS, L68 hS, L69 hS, L70 hS, P66_0 hS, P66_1 hS, P66_2 hS, P66_3 hS⟩
  · exact ⟨by decide, K71 hS, K72 hS, K73 hS, K74 hS, K75 hS, L72 hS, L73 hS, L74 hS, L75 hS, P71_0 hS, P71_1 hS, P71_2 hS, P71_3 hS⟩
theorem fill_ {M : Mem} {S : Sh} {b na : Nat} {p m c : Int} (hB : SceneS S b) (hna : na = 42 ∨ na = 43) (Kn : S.1 na = 7) (Ln : S.2.1 na = 6) (p0 : 0 ≤ p) (p1 : p < 4) (m0 : 0 ≤ m) (m1 : m < 192) : res 38 [aR b, aR na, aI p, aI m, aI c] M S = some (none, mrow M na (nmR (M na) (M (b + 1) m.toNat) (M b 11) (M (b + 6) p.toNat) (M b 12) (if 200 < c then 200 else c) (w32 (Int.tdiv m 12))), S) := by
  obtain ⟨hb, ⟨k0, k1, k2, k3, k4, k5, k6, k7, k8, k9⟩, ⟨l1, l2, l3, l4, l5, l6, l7, l8, l9⟩, P0, P1, P2, P3, P5, P6, P7, P8, P9⟩ := hB
  rw [g38]
  simp (disch := omega) only [g38_0, g38_0n, g38_1, g38_2, g38_3, g38_6, g38_7, g38_10, g38_13, g38_13n, g38_14, g38_15, g38_16, g38_19, g38_22, g38_22n, g38_23, g38_24, g38_25, g38_28, g38_29, g38_32, g38_35, g38_35n, g38_36, g38_37, g38_38, g38_41, g38_44, g38_44n, g38_45, g38_46, g38_48, g38_51, g38_54, g38_57, g38_57n, g38_58, g38_59, g38_60, g38_62, g38_63, g38_66, cont_1, cont_0, w32_o, at_in, put_in, mset_ne, mset_eq, mset_nk, P0, P6, n0, n1, n2, n3, n4, n5]
  unfold nmR
  simp only [mset_row, mrow_eq, mrow_mrow]
theorem lawAt_ {n t : Nat} {M : Mem} {S : Sh} (hS : Std n S) (t6 : t < 6) : res 88 [aR 6, aI (t : Int)] M S = some (some (aR (laOf t)), M, S) := by
  have k6 := K6 hS
  have k37 := K37 hS
  have l37 := L37 hS
  rcases (by omega : t = 0 ∨ t = 1 ∨ t = 2 ∨ t = 3 ∨ t = 4 ∨ t = 5) with rfl | rfl | rfl | rfl | rfl | rfl
  all_goals rw [g88]
  all_goals simp (disch := omega) only [g88_0, g88_1t, g88_1f, g88_4, g88_5, g88_6, g88_9, g88_10t, g88_10f, g88_13, g88_14, g88_17, g88_18, g88_19, g88_22, g88_23, g88_23n, cont_1, cont_0, w32_o, P6_4 hS, Int.toNat_natCast, P37_0 hS, P37_1 hS, P37_2 hS, P37_3 hS, P37_4 hS, P37_5 hS]
  all_goals rfl
theorem asksOf_ {n : Nat} {M : Mem} {S : Sh} {t p : Nat} {pl m c : Int} {cd st : Nat → Int} (hS : Std n S) (hD : MwD M t cd st) (p3 : p < 3) (p0 : 0 ≤ pl) (p1 : pl < 4) (m0 : 0 ≤ m) (m1 : m < 192) : res 130 [aR 84, aI (p : Int), aI pl, aI m, aI c] M S = some (some (aI (bnd3 (if p = 1 then -9 else 0) (if p = 2 then 100 else 9) (evV cd (nmv (M 85 m.toNat) (M 84 2) (M 88 pl.toNat) (M 84 3) (if 200 < c then 200 else c) (w32 (Int.tdiv m 12))) (st p).toNat (st (p + 1) - st p).toNat))), mrow (mrow M 105 (nmR (M 105) (M 85 m.toNat) (M 84 2) (M 88 pl.toNat) (M 84 3) (if 200 < c then 200 else c) (w32 (Int.tdiv m 12)))) 104 (evF cd (nmR (M 105) (M 85 m.toNat) (M 84 2) (M 88 pl.toNat) (M 84 3) (if 200 < c then 200 else c) (w32 (Int.tdiv m 12))) (st p).toNat (M 104) (st (p + 1) - st p).toNat), S) := by
  have k84 := K84 hS
  have k85 := K85 hS
  have k88 := K88 hS
  have k104 := K104 hS
  have k105 := K105 hS
  have l85 := L85 hS
  have l88 := L88 hS
  have l104 := L104 hS
  have l105 := L105 hS
  have hD2 : MwD (mrow M 105 (nmR (M 105) (M 85 m.toNat) (M 84 2) (M 88 pl.toNat) (M 84 3) (if 200 < c then 200 else c) (w32 (Int.tdiv m 12)))) t cd st := by
    unfold MwD at hD ⊢
    simp (disch := omega) only [mrow_ne]
    exact hD
  have z := msays_ hS hD2 p3 (nm := nmv (M 85 m.toNat) (M 84 2) (M 88 pl.toNat) (M 84 3) (if 200 < c then 200 else c) (w32 (Int.tdiv m 12))) (by rw [mrow_eq]; exact nmR_v _ _ _ _ _ _ _)
  unfold nmR at z ⊢
  simp (disch := omega) only [mrow_eq, mrow_ne] at z
  rw [g130]
  rcases (by omega : p = 0 ∨ p = 1 ∨ p = 2) with rfl | rfl | rfl
  all_goals by_cases h : 200 < c
  all_goals simp (disch := omega) only [h, if_true, if_false] at z ⊢
  all_goals simp (disch := omega) only [g130_0, g130_1, g130_4, g130_5, g130_6, g130_9, g130_10, g130_11, g130_12, g130_13, g130_16, g130_17, g130_18, g130_21, g130_22, g130_23, g130_26, g130_27, g130_28, g130_31, g130_32, g130_33, g130_34, g130_35, g130_38, g130_39, g130_40, g130_43, g130_44, g130_45, g130_48, g130_49, g130_51, g130_54t, g130_54f, g130_57, g130_60, g130_63, g130_65, g130_66, g130_67, g130_70, g130_71, g130_72, g130_74, g130_75, g130_76, g130_77, g130_78, g130_81, g130_82, g130_83t, g130_83f, g130_86, g130_88, g130_91, g130_92, g130_93, g130_94t, g130_94f, g130_97, g130_99, g130_102, g130_104, g130_107, cont_1, cont_0, w32_o, mset_ne, mset_eq, mset_nk, P84_0 hS, P84_7 hS, P84_36 hS, n0, n1, n2, n3, n4, n5, within_, mset_row, mrow_eq, mrow_mrow, mrow_ne, z]
  all_goals rfl
