/-! the pair text -/
theorem cP_sg {t : Nat} {M : Mem} {o : List Int} : ∀ (s : List Int), cP t M (s ++ o) → cP t M o := by
  intro s
  induction s with
  | nil => exact fun h => h
  | cons c s ih => exact fun h => ih h.2
theorem codes_ {t la : Nat} {M : Mem} : ∀ (o : List Int), cP t M o → lawP la M o → ∀ k, k < o.length → M 93 (200 * t + k) = cOf (M (la + 1) k) (M (la + 2) k) ∧ wOK (M (la + 1) k) (M (la + 2) k) := by
  intro o
  induction o with
  | nil => intro _ _ k hk; exact absurd hk (Nat.not_lt_zero k)
  | cons c o ih =>
    intro h1 h2 k hk
    rw [List.length_cons] at hk
    by_cases hko : k = o.length
    · rw [hko, h1.1]
      exact h2.1
    · exact ih h1.2 h2.2 k (by omega)
theorem okP_ {t b : Nat} {M : Mem} : ∀ (o : List Int), cP t M o → b ≤ o.length → okB b o → (∀ k, b + k < o.length → okC (M 93 (200 * t + (b + k))) (hAt (fun j => M 93 (200 * t + j)) b k)) ∧ hAt (fun j => M 93 (200 * t + j)) b (o.length - b) = hB b o := by
  intro o
  induction o with
  | nil =>
    intro _ hb _
    have b0 : b = 0 := by rw [show ([] : List Int).length = 0 from rfl] at hb; omega
    subst b0
    exact ⟨fun k hk => absurd hk (Nat.not_lt_zero _), rfl⟩
  | cons c o ih =>
    intro h1 hb h2
    rw [List.length_cons] at hb ⊢
    by_cases hbo : b = o.length + 1
    · refine ⟨fun k hk => absurd hk (by omega), ?_⟩
      rw [hB_0 (by rw [List.length_cons]; omega), show o.length + 1 - b = 0 by omega]
      rfl
    · obtain ⟨a1, a2⟩ := ih h1.2 (by omega) h2.2
      have e : b + (o.length - b) = o.length := by omega
      refine ⟨fun k hk => ?_, ?_⟩
      · by_cases hk2 : b + k < o.length
        · exact a1 k hk2
        · have ek : k = o.length - b := by omega
          rw [ek, a2, e, h1.1]
          exact h2.1 (by omega)
      · rw [show o.length + 1 - b = (o.length - b) + 1 by omega, hB_s (by omega), ← a2, ← h1.1]
        show hOf (M 93 (200 * t + (b + (o.length - b)))) _ = _
        rw [e]
theorem lawRel_ {t : Nat} {M : Mem} {o1 o2 o3 : List Int} (hc : cP t M o3) (hl : lawP (laOf t) M o3) (u1 : Up [] o1) (u2 : Up o1 o2) (u3 : Up o2 o3) (h160 : o3.length ≤ 160) (s0 : M 94 (4 * t) = 0) (s1 : M 94 (4 * t + 1) = ((o1.length : Nat) : Int)) (s2 : M 94 (4 * t + 2) = ((o2.length : Nat) : Int)) (s3 : M 94 (4 * t + 3) = ((o3.length : Nat) : Int)) (b0 : M (laOf t + 3) 0 = 0) (b1 : M (laOf t + 3) 1 = ((o1.length : Nat) : Int)) (b2 : M (laOf t + 3) 2 = ((o2.length : Nat) : Int)) (b3 : M (laOf t + 3) 3 = ((o3.length : Nat) : Int)) : lawRel t M := by
  have l1 := Up_len u1
  have l2 := Up_len u2
  have l3 := Up_len u3
  have hc2 : cP t M o2 := by
    obtain ⟨⟨s, e⟩, _⟩ := u3
    rw [e] at hc
    exact cP_sg s hc
  have hc1 : cP t M o1 := by
    obtain ⟨⟨s, e⟩, _⟩ := u2
    rw [e] at hc2
    exact cP_sg s hc2
  have ok1 := (okP_ (b := 0) o1 hc1 (Nat.zero_le _) ((u1.2 0 (Nat.zero_le _)).2 trivial)).1
  have ok2 := (okP_ (b := o1.length) o2 hc2 (by omega) ((u2.2 _ (Nat.le_refl _)).2 (okB_lt (Nat.le_refl _)))).1
  have ok3 := (okP_ (b := o2.length) o3 hc (by omega) ((u3.2 _ (Nat.le_refl _)).2 (okB_lt (Nat.le_refl _)))).1
  have w : wkOf t = laOf t + 1 := by unfold laOf wkOf; split <;> omega
  unfold lawRel
  rw [w, show laOf t + 1 + 2 = laOf t + 3 by omega, show laOf t + 1 + 1 = laOf t + 2 by omega]
  rw [show ([] : List Int).length = 0 from rfl] at l1
  refine ⟨⟨s0, by omega, by omega, by omega, by omega, by omega⟩, fun p hp => ?_, fun k hk => codes_ o3 hc hl k (by omega), fun p hp k hk => ?_⟩
  · rcases (by omega : p = 0 ∨ p = 1 ∨ p = 2 ∨ p = 3) with rfl | rfl | rfl | rfl
    · rw [b0, show 4 * t + 0 = 4 * t by omega, s0]
    · rw [b1, s1]
    · rw [b2, s2]
    · rw [b3, s3]
  · rcases (by omega : p = 0 ∨ p = 1 ∨ p = 2) with rfl | rfl | rfl
    · rw [show 4 * t + 0 = 4 * t by omega, s0] at hk ⊢
      rw [s1] at hk
      exact ok1 k (by omega)
    · rw [s1, show 4 * t + 1 + 1 = 4 * t + 2 by omega, s2] at hk
      rw [s1, Int.toNat_natCast]
      exact ok2 k (by omega)
    · rw [s2, show 4 * t + 2 + 1 = 4 * t + 3 by omega, s3] at hk
      rw [s2, Int.toNat_natCast]
      exact ok3 k (by omega)
theorem Std_x {n : Nat} {S S' : Sh} (h : Std n S) (k : ∀ a, a < 110 → S'.1 a = S.1 a) (l : S'.2.1 = S.2.1) (p : ∀ a, a < 110 → S'.2.2.1 a = S.2.2.1 a) (m : 110 ≤ S'.2.2.2.1) : Std n S' := by
  obtain ⟨h1, h2, h3, h4, h5⟩ := h
  refine ⟨fun a ha => (k a ha).trans (h1 a ha), fun a ha hb => by rw [l]; exact h2 a ha hb, by rw [l]; exact h3, fun a ha j hj => by rw [p a ha]; exact h4 a ha j hj, m⟩
theorem pset_eq {P : Nat → Nat → Option Nat} {a k : Nat} {v : Option Nat} : pset P a k v a k = v := by
  unfold pset
  rw [if_pos ⟨rfl, rfl⟩]
theorem rinit_ {N la ta : Nat} {sz : Int} {M : Mem} {S : Sh} (hK : S.1 N = 2) : res 15 [aR N, aR ta, aI sz, aR la] (mrow M N (fun _ => 0)) S = some (none, mrow M N (fset (fset (fun _ => 0) 7 (-1)) 1 sz), (S.1, S.2.1, pset (pset S.2.2.1 N 0 (some ta)) N 2 (some la), S.2.2.2)) := by
  rw [g15]
  simp (disch := first | omega | exact hK) only [g15_0, g15_1, g15_4, g15_5, g15_6, g15_9, g15_10, g15_10n, g15_11, g15_14, g15_15, g15_16, g15_19, g15_20, g15_20n, g15_21, g15_24, cont_1, cont_0, w32_o, mset_mrow]
theorem lawN_ {n : Nat} {M : Mem} {S : Sh} (hS : Std n S) : res 88 [aR 6, aI 6] M S = some (some aN, M, S) := by
  have k6 := K6 hS
  have k37 := K37 hS
  have l37 := L37 hS
  rw [g88]
  simp (disch := omega) only [g88_0, g88_1t, g88_1f, g88_4, g88_5, g88_6, g88_9, g88_10t, g88_10f, g88_13, g88_14, g88_17, g88_18, g88_19, g88_22, g88_23, g88_23n, cont_1, cont_0, w32_o, P6_4 hS]
theorem p_text {n : Nat} {sc : Nat → Int} {M : Mem} {S : Sh} (hS : Std n S) (hI : Inv sc M) : Pr (res 50 [aR 6] M S) (PQ 126 [aR 84] n (S.2.2.2.1 + 1) (S.2.2.2.2 + 8) sc) := by
  have k6 := K6 hS
  have k84 := K84 hS
  have hI0 := hI
  obtain ⟨hLand, hStr, hPla, hNow, hTap, hImg, hShe, hCst, hLaw⟩ := hI
  obtain ⟨t16, t1, t5, t13, t0, t160, tf⟩ := hTap
  obtain ⟨t, ht⟩ : ∃ t : Nat, M 6 5 = (t : Int) := ⟨(M 6 5).toNat, by omega⟩
  obtain ⟨sz, hsz⟩ : ∃ sz : Nat, M 6 7 = (sz : Int) := ⟨(M 6 7).toNat, by omega⟩
  by_cases tt : t = 6
  · subst tt
    have e5 : M 6 5 = 6 := ht
    have e16 : M 84 16 = 6 := t16.trans e5
    refine ⟨aI (-4), M, S, ?_, aI (-4), M, S, ?_, rfl, hI0, hS, by omega, by omega⟩
    · rw [g50]
      simp (disch := omega) only [g50_0, g50_1, g50_2, g50_5, g50_8, g50_8n, g50_9, g50_9n, g50_10, g50_10n, g50_13, g50_15, g50_16, g50_19, g50_20, g50_21, g50_24, g50_25, g50_28, g50_28n, g50_29, g50_32, g50_35, g50_36, g50_37, g50_38, g50_41, g50_42, g50_43t, g50_43f, g50_46, g50_48, g50_49, g50_50, g50_51, g50_52, g50_53, g50_56, g50_57, g50_58, g50_61, g50_62, g50_65, g50_66, g50_67, cont_1, cont_0, w32_o, e5, lawN_ hS]
    · rw [g126]
      simp (disch := omega) only [g126_0, g126_1, g126_4, g126_6t, g126_6f, g126_9, g126_11, g126_12, g126_13, g126_14, g126_17, g126_18, g126_19, g126_22, g126_23, g126_24, g126_25, g126_27, g126_28t, g126_28f, g126_31, g126_32t, g126_32f, g126_35, g126_36, g126_39, g126_40, g126_43, g126_44t, g126_44f, g126_47, g126_48, g126_51, g126_52t, g126_52f, g126_55, g126_56, g126_59, g126_60, g126_61, g126_62, g126_65, g126_66, g126_67, g126_70, g126_71, g126_72, g126_73, g126_74, g126_77, g126_78, g126_79t, g126_79f, g126_82, g126_83, g126_86t, g126_86f, g126_89, g126_90, g126_93, g126_94, g126_95, g126_98, g126_101, g126_102t, g126_102f, g126_105, g126_106, g126_109, g126_110, g126_113t, g126_113f, g126_116, g126_117, g126_120, g126_121, g126_122, g126_123, g126_126, g126_127, g126_128, g126_131, g126_132, g126_133, g126_134, g126_135, g126_138, g126_139, g126_140, g126_141, g126_144, g126_145t, g126_145f, g126_148, g126_150, g126_151, g126_154, g126_155, g126_156, g126_157, g126_158, g126_161, g126_162, g126_163, g126_166, g126_167, g126_170, g126_171, g126_172, cont_1, cont_0, w32_o, e16]
  · have t6 : t < 6 := by omega
    have hz : sz ≤ 160 := by omega
    have lb := laOf_b t6
    obtain ⟨N, hN⟩ : ∃ N, N = S.2.2.2.1 := ⟨_, rfl⟩
    have hN110 : 110 ≤ N := by rw [hN]; exact hS.2.2.2.2
    obtain ⟨la, hla⟩ : ∃ la, la = laOf t := ⟨_, rfl⟩
    rw [← hla] at lb
    have zl := lawAt_ (M := M) hS t6
    rw [← hla] at zl
    obtain ⟨S1, hS1⟩ : ∃ S1 : Sh, S1 = (fset S.1 N 2, S.2.1, fset S.2.2.1 N (fun _ => none), N + 1, S.2.2.2.2 + 8) := ⟨_, rfl⟩
    have s1 : res 50 [aR 6] M S = go 69 50 19 [some (aR 6), some (aR la), none] [aR N] (mrow M N (fun _ => 0)) S1 := by
      rw [hS1, hN, g50]
      simp (disch := omega) only [g50_0, g50_1, g50_2, g50_5, g50_8, g50_8n, g50_9, g50_9n, g50_10, g50_10n, g50_13, g50_15, g50_16, cont_1, cont_0, w32_o, ht, zl]
    have q1 : S1.1 = fset S.1 N 2 := by rw [hS1]
    have q2 : S1.2.1 = S.2.1 := by rw [hS1]
    have q3 : S1.2.2.1 = fset S.2.2.1 N (fun _ => none) := by rw [hS1]
    have q4 : S1.2.2.2 = (N + 1, S.2.2.2.2 + 8) := by rw [hS1]
    clear hS1
    have kN : S1.1 N = 2 := by rw [q1, fset_eq]
    have k6' : S1.1 6 = 5 := by rw [q1, fset_ne _ _ (by omega)]; exact k6
    have p66 : S1.2.2.1 6 6 = some 38 := by rw [q3, fset_ne _ _ (by omega)]; exact P6_6 hS
    have zi := rinit_ (N := N) (la := la) (ta := 38) (sz := (sz : Int)) (M := M) kN
    obtain ⟨S2, hS2⟩ : ∃ S2 : Sh, S2 = (S1.1, S1.2.1, pset (pset S1.2.2.1 N 0 (some 38)) N 2 (some la), S1.2.2.2) := ⟨_, rfl⟩
    rw [← hS2] at zi
    have p1 : S2.1 = fset S.1 N 2 := by rw [hS2]; exact q1
    have p2 : S2.2.1 = S.2.1 := by rw [hS2]; exact q2
    have p3 : S2.2.2.1 = pset (pset S1.2.2.1 N 0 (some 38)) N 2 (some la) := by rw [hS2]
    have p4 : S2.2.2.2 = (N + 1, S.2.2.2.2 + 8) := by rw [hS2]; exact q4
    clear hS2
    have hS2 : Std n S2 := by
      refine Std_x hS (fun a ha => ?_) p2 (fun a ha => ?_) ?_
      · rw [p1, fset_ne _ _ (by omega)]
      · rw [p3, pset_ne _ _ _ (by omega), pset_ne _ _ _ (by omega), q3, fset_ne _ _ (by omega)]
      · rw [p4]; show 110 ≤ N + 1; omega
    have k6'' := K6 hS2
    have kN2 : S2.1 N = 2 := by rw [p1, fset_eq]
    have hLS := lawS_of hS2 t6
    rw [← hla] at hLS
    have hR : RdSh S2 N 38 la := by
      refine ⟨?_, ?_, ?_, K38 hS2, L38 hS2, hLS, by omega, by omega, by omega⟩
      · rw [p1, fset_eq]
      · rw [p3, pset_nk _ (by omega), pset_eq]
      · rw [p3, pset_eq]
    obtain ⟨M1, hM1⟩ : ∃ M1, M1 = mrow M N (fset (fset (fun _ => 0) 7 (-1)) 1 (sz : Int)) := ⟨_, rfl⟩
    rw [← hM1] at zi
    have m1 : ∀ a, a ≠ N → M1 a = M a := fun a ha => by rw [hM1, mrow_ne _ _ ha]
    have mN : M1 N = fset (fset (fun _ => 0) 7 (-1)) 1 (sz : Int) := by rw [hM1, mrow_eq]
    clear hM1
    obtain ⟨ts, hL, hlen⟩ := Lx_ex (M 38) sz sz 0 (Nat.zero_le _) (Nat.le_refl _)
    obtain ⟨M2, v, zr, fr, hr⟩ := read_ (f := M 38) (M := M1) hR hz (fun k _ => by rw [m1 38 (by omega)]) (by rw [mN, fset_eq]) (by rw [mN]; simp (disch := omega) only [fset_ne]) (by rw [mN, fset_ne _ _ (by omega), fset_eq]) hL (by omega)
    have r2 : ∀ a, a ≠ N → ¬ (la ≤ a ∧ a ≤ la + 3) → M2 a = M a := fun a h1 h2 => by
      rw [fr.1 a h1 (by omega) (by omega) (by omega) (by omega)]
      exact m1 a h1
    have rb0 : M2 (la + 3) 0 = M (la + 3) 0 := by rw [fr.2.2, m1 (la + 3) (by omega)]
    have r65 : M2 6 5 = (t : Int) := by rw [r2 6 (by omega) (by omega)]; exact ht
    obtain ⟨MC, hMC⟩ : ∃ MC, MC = mset M2 6 7 0 := ⟨_, rfl⟩
    have c1 : ∀ a, a ≠ 6 → MC a = M2 a := fun a ha => by rw [hMC, mset_ne _ _ _ ha]
    have c6 : ∀ j, j ≠ 7 → MC 6 j = M 6 j := fun j hj => by rw [hMC, mset_nk _ hj, r2 6 (by omega) (by omega)]
    have c67 : MC 6 7 = 0 := by rw [hMC, mset_eq]
    have c65 : MC 6 5 = (t : Int) := (c6 5 (by omega)).trans ht
    have hwords := words_of hCst
    have m67 : mrow M N (fun _ => 0) 6 = M 6 := mrow_ne _ _ (by omega)
    have mdl : ∀ MX : Mem, (∀ a, a ≠ 6 → MX a = M2 a) → ∃ M', FrTx t MX M' ∧ M' 84 13 = 0 ∧ ((∃ q, txR ts = Sum.inl q ∧ res 126 [aR 84] MX S2 = some (some (aI (w32 (-100 - q))), M', S2) ∧ M' 84 16 = (t : Int)) ∨ (∃ o1 o2 o3, txR ts = Sum.inr (o1, o2, o3) ∧ res 126 [aR 84] MX S2 = some (some (aI (t : Int)), M', S2) ∧ M' 84 16 = (t : Int) + 1 ∧ cP t M' o3 ∧ M' 94 (4 * t) = 0 ∧ M' 94 (4 * t + 1) = ((o1.length : Nat) : Int) ∧ M' 94 (4 * t + 2) = ((o2.length : Nat) : Int) ∧ M' 94 (4 * t + 3) = ((o3.length : Nat) : Int) ∧ o3.length ≤ 160)) := fun MX hx => by
      refine mtx_ (f := M 38) (M := MX) hS2 hz ?_ (fun k hk => ?_) (fun i hi => ?_) ?_ t6 hL (by omega)
      · rw [hx 84 (by omega), r2 84 (by omega) (by omega), t13]; exact hsz
      · rw [hx 92 (by omega), r2 92 (by omega) (by omega)]; exact (tf k (by omega)).1
      · rw [hx 102 (by omega), r2 102 (by omega) (by omega)]; exact hwords i hi
      · rw [hx 84 (by omega), r2 84 (by omega) (by omega), t16]; exact ht
    have lawO : ∀ MM : Mem, (∀ a, a ≠ N → ¬ (la ≤ a ∧ a ≤ la + 3) → a ≠ 6 → a ≠ 84 → a ≠ 93 → a ≠ 94 → a ≠ 103 → MM a = M a) → (∀ k, k < 200 * t ∨ 200 * t + 200 ≤ k → MM 93 k = M 93 k) → (∀ k, k < 4 * t ∨ 4 * t + 4 ≤ k → MM 94 k = M 94 k) → ∀ t' : Nat, t' < t → lawRel t' MM := fun MM hT h93 h94 t' ht' => by
      have q := hLaw.1 t' (by omega)
      have wa : wkOf t' = laOf t' + 1 := by unfold laOf wkOf; split <;> omega
      have wb : wkOf t' + 2 < la ∧ 46 ≤ wkOf t' ∧ wkOf t' + 2 ≤ 75 := by rw [hla]; unfold laOf wkOf; split <;> split <;> omega
      have e0 := hT (wkOf t') (by omega) (by omega) (by omega) (by omega) (by omega) (by omega) (by omega)
      have e1 := hT (wkOf t' + 1) (by omega) (by omega) (by omega) (by omega) (by omega) (by omega) (by omega)
      have e2 := hT (wkOf t' + 2) (by omega) (by omega) (by omega) (by omega) (by omega) (by omega) (by omega)
      obtain ⟨d1, d2, d3, d4⟩ := q
      have n0 := h94 (4 * t') (by omega)
      have n1 := h94 (4 * t' + 1) (by omega)
      have n2 := h94 (4 * t' + 2) (by omega)
      have n3 := h94 (4 * t' + 3) (by omega)
      have hfun : ∀ lo k, lo + k ≤ 160 → hAt (fun j => MM 93 (200 * t' + j)) lo k = hAt (fun j => M 93 (200 * t' + j)) lo k := fun lo k => by
        induction k with
        | zero => intro _; rfl
        | succ k ih =>
          intro hk
          rw [hAt, hAt, ih (by omega), h93 _ (by omega)]
      unfold lawRel
      rw [e0, e1, e2, n0, n1, n2, n3]
      refine ⟨d1, fun p hp => ?_, fun k hk => ?_, fun p hp k hk => ?_⟩
      · rw [h94 (4 * t' + p) (by omega)]
        exact d2 p hp
      · rw [h93 (200 * t' + k) (by omega)]
        exact d3 k hk
      · rw [h94 (4 * t' + p) (by omega), h94 (4 * t' + p + 1) (by omega)] at hk
        have b2 : 0 ≤ M 94 (4 * t' + p) ∧ M 94 (4 * t' + p + 1) ≤ 160 := by
          rcases (by omega : p = 0 ∨ p = 1 ∨ p = 2) with rfl | rfl | rfl
          · rw [show 4 * t' + 0 = 4 * t' by omega]; omega
          · rw [show 4 * t' + 1 + 1 = 4 * t' + 2 by omega]; omega
          · rw [show 4 * t' + 2 + 1 = 4 * t' + 3 by omega]; omega
        have dd := d4 p hp k hk
        rw [h94 (4 * t' + p) (by omega), h93 _ (by omega), hfun _ _ (by omega)]
        exact dd
    have lawZ : ∀ MM : Mem, (∀ a, a ≠ N → ¬ (la ≤ a ∧ a ≤ la + 3) → a ≠ 6 → a ≠ 84 → a ≠ 93 → a ≠ 94 → a ≠ 103 → MM a = M a) → MM (la + 3) 0 = M (la + 3) 0 → ∀ t' : Nat, t' < 6 → MM (wkOf t' + 2) 0 = 0 := fun MM hT h0 t' ht' => by
      by_cases e : t' = t
      · have wa : wkOf t' + 2 = la + 3 := by rw [e, hla]; unfold laOf wkOf; split <;> omega
        rw [wa, h0, ← wa]
        exact hLaw.2 t' ht'
      · have wb : (wkOf t' + 2 < la ∨ la + 3 < wkOf t' + 2) ∧ 46 ≤ wkOf t' ∧ wkOf t' + 2 ≤ 75 := by rw [hla]; unfold laOf wkOf; split <;> split <;> omega
        rw [hT (wkOf t' + 2) (by omega) (by omega) (by omega) (by omega) (by omega) (by omega) (by omega)]
        exact hLaw.2 t' ht' 
    rcases hr with ⟨v0, hv⟩ | ⟨v1, o1, o2, o3, hv, hlp, b1, b2, b3, u1, u2, u3⟩
    · have zc : res 50 [aR 6] M S = some (some (aI (w32 (-100 - v))), MC, S2) := by
        rw [s1, hMC]
        simp (disch := omega) only [g50_19, g50_20, g50_21, g50_24, g50_25, g50_28, g50_28n, g50_29, g50_32, g50_35, g50_36, g50_37, g50_38, g50_41, g50_42, g50_43t, g50_43f, g50_46, g50_48, g50_49, g50_50, g50_51, g50_52, g50_53, g50_56, g50_57, g50_58, g50_61, g50_62, g50_65, g50_66, g50_67, cont_1, cont_0, w32_o, p66, m67, hsz, zi, zr]
      obtain ⟨MM, fm, e13, hm⟩ := mdl MC c1
      rcases hm with ⟨q, hq, zm, e16⟩ | ⟨o1, o2, o3, hq, _⟩
      rotate_left
      · rw [hv] at hq; cases hq
      rw [hv] at hq
      cases hq
      have T : ∀ a, (a ≠ N ∧ ¬ (la ≤ a ∧ a ≤ la + 3) ∧ a ≠ 6 ∧ a ≠ 84 ∧ a ≠ 93 ∧ a ≠ 94 ∧ a ≠ 103) → MM a = M a := fun a ha => by
        rw [fm.1 a (by omega) (by omega) (by omega) (by omega), c1 a (by omega)]
        exact r2 a (by omega) (by omega)
      have d84 : ∀ j, j < 26 ∨ 34 < j → j ≠ 13 → j ≠ 16 → MM 84 j = M 84 j := fun j h1 h2 h3 => by
        rw [fm.2.1 j h1 h2 h3, c1 84 (by omega), r2 84 (by omega) (by omega)]
      have d6 : ∀ j, j ≠ 5 → j ≠ 7 → MM 6 j = M 6 j := fun j h5 h7 => by
        rw [fm.1 6 (by omega) (by omega) (by omega) (by omega)]
        exact c6 j h7
      have d67 : MM 6 7 = 0 := by
        rw [fm.1 6 (by omega) (by omega) (by omega) (by omega)]
        exact c67
      have hT : ∀ a, a ≠ N → ¬ (la ≤ a ∧ a ≤ la + 3) → a ≠ 6 → a ≠ 84 → a ≠ 93 → a ≠ 94 → a ≠ 103 → MM a = M a := fun a h1 h2 h3 h4 h5 h6 h7 => T a ⟨h1, h2, h3, h4, h5, h6, h7⟩
      have h93 : ∀ k, k < 200 * t ∨ 200 * t + 200 ≤ k → MM 93 k = M 93 k := fun k hk => by
        rw [fm.2.2.1 k hk, c1 93 (by omega), r2 93 (by omega) (by omega)]
      have h94 : ∀ k, k < 4 * t ∨ 4 * t + 4 ≤ k → MM 94 k = M 94 k := fun k hk => by
        rw [fm.2.2.2 k hk, c1 94 (by omega), r2 94 (by omega) (by omega)]
      have hla3 : ∀ j, MM (la + 3) j = M2 (la + 3) j := fun j => by
        rw [fm.1 (la + 3) (by omega) (by omega) (by omega) (by omega), c1 (la + 3) (by omega)]
      have d65 : MM 6 5 = M 6 5 := by
        rw [fm.1 6 (by omega) (by omega) (by omega) (by omega)]
        exact c6 5 (by omega)
      refine ⟨_, MC, S2, zc, _, MM, S2, zm, rfl, ⟨fr_Land (T 8 (by omega)) (T 9 (by omega)) (T 85 (by omega)) (T 86 (by omega)) hLand, fr_Str (T 10 (by omega)) (T 11 (by omega)) (T 90 (by omega)) (T 91 (by omega)) (by rw [T 7 (by omega)]) (d84 9 (by omega) (by omega) (by omega)) hStr, fr_Pla (T 12 (by omega)) (T 13 (by omega)) (T 14 (by omega)) (T 15 (by omega)) (T 16 (by omega)) (T 87 (by omega)) (T 88 (by omega)) (T 89 (by omega)) (by rw [T 7 (by omega)]) (d84 5 (by omega) (by omega) (by omega)) hPla, fr_Now (by rw [T 7 (by omega)]) (by rw [T 7 (by omega)]) (by rw [T 7 (by omega)]) (by rw [T 7 (by omega)]) (by rw [T 7 (by omega)]) (d84 2 (by omega) (by omega) (by omega)) (d84 3 (by omega) (by omega) (by omega)) (d84 4 (by omega) (by omega) (by omega)) (d84 17 (by omega) (by omega) (by omega)) d65 hNow, ?_, fr_Img (T 12 (by omega)) (T 13 (by omega)) (T 28 (by omega)) (T 29 (by omega)) (T 30 (by omega)) (T 31 (by omega)) (T 32 (by omega)) (T 33 (by omega)) (T 34 (by omega)) (T 35 (by omega)) (T 36 (by omega)) (T 95 (by omega)) (T 96 (by omega)) (T 97 (by omega)) (d84 18 (by omega) (by omega) (by omega)) (d6 3 (by omega) (by omega)) d65 (by rw [T 7 (by omega)]) (by rw [T 27 (by omega)]) (by rw [T 27 (by omega)]) (by rw [T 27 (by omega)]) (by rw [T 27 (by omega)]) (by rw [T 27 (by omega)]) (by rw [T 27 (by omega)]) hImg, fr_She hShe (fun a ha => T a (by omega)), fr_Cst (T 0 (by omega)) (T 1 (by omega)) (T 2 (by omega)) (T 5 (by omega)) (T 102 (by omega)) (d84 43 (by omega) (by omega) (by omega)) hCst, ?_, lawZ MM hT ((hla3 0).trans rb0)⟩, hS2, by rw [p4, ← hN]; exact Nat.le_refl _, by rw [p4]; exact Nat.le_refl _⟩
      · unfold iTap
        rw [e16, d65, e13, d67]
        exact ⟨ht.symm, t1, t5, rfl, by omega, by omega, fun k hk => absurd hk (by omega)⟩
      · intro t' ht'
        rw [d65] at ht'
        exact lawO MM hT h93 h94 t' (by omega)
    · obtain ⟨MD, hMD⟩ : ∃ MD, MD = mset MC 6 5 ((t : Int) + 1) := ⟨_, rfl⟩
      have i1 : (t : Int) + 1 - 1 = (t : Int) := by omega
      have zc : res 50 [aR 6] M S = some (some (aI (t : Int)), MD, S2) := by
        rw [s1, hMD, hMC]
        subst v1
        simp (disch := omega) only [g50_19, g50_20, g50_21, g50_24, g50_25, g50_28, g50_28n, g50_29, g50_32, g50_35, g50_36, g50_37, g50_38, g50_41, g50_42, g50_43t, g50_43f, g50_46, g50_48, g50_49, g50_50, g50_51, g50_52, g50_53, g50_56, g50_57, g50_58, g50_61, g50_62, g50_65, g50_66, g50_67, cont_1, cont_0, w32_o, p66, m67, hsz, zi, zr, mset_nk, r65, mset_eq, i1]
      have g1 : ∀ a, a ≠ 6 → MD a = M2 a := fun a ha => by rw [hMD, mset_ne _ _ _ ha]; exact c1 a ha
      have g6 : ∀ j, j ≠ 5 → j ≠ 7 → MD 6 j = M 6 j := fun j h5 h7 => by rw [hMD, mset_nk _ h5]; exact c6 j h7
      have g67 : MD 6 7 = 0 := by rw [hMD, mset_nk _ (by omega)]; exact c67
      have g65 : MD 6 5 = (t : Int) + 1 := by rw [hMD, mset_eq]
      clear hMD
      obtain ⟨MM, fm, e13, hm⟩ := mdl MD g1
      rcases hm with ⟨q, hq, _⟩ | ⟨p1', p2', p3', hq, zm, e16, hcp, s0, ss1, ss2, ss3, h160⟩
      · rw [hv] at hq; cases hq
      rw [hv] at hq
      cases hq
      have T : ∀ a, (a ≠ N ∧ ¬ (la ≤ a ∧ a ≤ la + 3) ∧ a ≠ 6 ∧ a ≠ 84 ∧ a ≠ 93 ∧ a ≠ 94 ∧ a ≠ 103) → MM a = M a := fun a ha => by
        rw [fm.1 a (by omega) (by omega) (by omega) (by omega), g1 a (by omega)]
        exact r2 a (by omega) (by omega)
      have d84 : ∀ j, j < 26 ∨ 34 < j → j ≠ 13 → j ≠ 16 → MM 84 j = M 84 j := fun j h1 h2 h3 => by
        rw [fm.2.1 j h1 h2 h3, g1 84 (by omega), r2 84 (by omega) (by omega)]
      have d6 : ∀ j, j ≠ 5 → j ≠ 7 → MM 6 j = M 6 j := fun j h5 h7 => by
        rw [fm.1 6 (by omega) (by omega) (by omega) (by omega)]
        exact g6 j h5 h7
      have d67 : MM 6 7 = 0 := by
        rw [fm.1 6 (by omega) (by omega) (by omega) (by omega)]
        exact g67
      have hT : ∀ a, a ≠ N → ¬ (la ≤ a ∧ a ≤ la + 3) → a ≠ 6 → a ≠ 84 → a ≠ 93 → a ≠ 94 → a ≠ 103 → MM a = M a := fun a h1 h2 h3 h4 h5 h6 h7 => T a ⟨h1, h2, h3, h4, h5, h6, h7⟩
      have h93 : ∀ k, k < 200 * t ∨ 200 * t + 200 ≤ k → MM 93 k = M 93 k := fun k hk => by
        rw [fm.2.2.1 k hk, g1 93 (by omega), r2 93 (by omega) (by omega)]
      have h94 : ∀ k, k < 4 * t ∨ 4 * t + 4 ≤ k → MM 94 k = M 94 k := fun k hk => by
        rw [fm.2.2.2 k hk, g1 94 (by omega), r2 94 (by omega) (by omega)]
      have hla3 : ∀ j, MM (la + 3) j = M2 (la + 3) j := fun j => by
        rw [fm.1 (la + 3) (by omega) (by omega) (by omega) (by omega), g1 (la + 3) (by omega)]
      have d65 : MM 6 5 = (t : Int) + 1 := by
        rw [fm.1 6 (by omega) (by omega) (by omega) (by omega)]
        exact g65
      have hlp' : lawP la MM o3 := lawP_fr (fun k _ => by rw [fm.1 (la + 1) (by omega) (by omega) (by omega) (by omega), g1 (la + 1) (by omega), fm.1 (la + 2) (by omega) (by omega) (by omega) (by omega), g1 (la + 2) (by omega)]; exact ⟨rfl, rfl⟩) hlp
      have hnew : lawRel t MM := by
        rw [hla] at hlp' hla3 b1 b2 b3 rb0
        refine lawRel_ hcp hlp' u1 u2 u3 h160 s0 ss1 ss2 ss3 ?_ ((hla3 1).trans b1) ((hla3 2).trans b2) ((hla3 3).trans b3)
        rw [hla3 0, rb0]
        have wa : wkOf t + 2 = laOf t + 3 := by unfold laOf wkOf; split <;> omega
        rw [← wa]
        exact hLaw.2 t t6
      have d_now : iNow MM := by
        obtain ⟨n1, n2, n3, n4, n5, n6, n7, n8, n9, n10, n11, n12⟩ := hNow
        unfold iNow
        rw [d84 2 (by omega) (by omega) (by omega), d84 3 (by omega) (by omega) (by omega), d84 4 (by omega) (by omega) (by omega), d84 17 (by omega) (by omega) (by omega), T 7 (by omega), d65]
        exact ⟨n1, n2, n3, n4, n5, n6, n7, n8, n9, n10, n11, by omega⟩
      have d_img : iImg MM := by
        unfold iImg at hImg ⊢
        rw [T 12 (by omega), T 13 (by omega), T 28 (by omega), T 29 (by omega), T 30 (by omega), T 31 (by omega), T 32 (by omega), T 33 (by omega), T 34 (by omega), T 35 (by omega), T 36 (by omega), T 95 (by omega), T 96 (by omega), T 97 (by omega), T 7 (by omega), T 27 (by omega), d84 18 (by omega) (by omega) (by omega), d6 3 (by omega) (by omega), d65]
        obtain ⟨g1', g2', g3'⟩ := hImg
        refine ⟨g1', g2', fun h => ?_⟩
        obtain ⟨a1, a2, a3, a4, a5, a6, a7, a8, a9, a10, a11, a12, a13, a14, a15, a16, a17, a18, a19, a20, a21⟩ := g3' h
        exact ⟨a1, a2, a3, a4, a5, a6, a7, a8, a9, a10, a11, a12, a13, a14, a15, a16, a17, a18, a19, a20, by omega⟩
      refine ⟨_, MD, S2, zc, _, MM, S2, zm, rfl, ⟨fr_Land (T 8 (by omega)) (T 9 (by omega)) (T 85 (by omega)) (T 86 (by omega)) hLand, fr_Str (T 10 (by omega)) (T 11 (by omega)) (T 90 (by omega)) (T 91 (by omega)) (by rw [T 7 (by omega)]) (d84 9 (by omega) (by omega) (by omega)) hStr, fr_Pla (T 12 (by omega)) (T 13 (by omega)) (T 14 (by omega)) (T 15 (by omega)) (T 16 (by omega)) (T 87 (by omega)) (T 88 (by omega)) (T 89 (by omega)) (by rw [T 7 (by omega)]) (d84 5 (by omega) (by omega) (by omega)) hPla, d_now, ?_, d_img, fr_She hShe (fun a ha => T a (by omega)), fr_Cst (T 0 (by omega)) (T 1 (by omega)) (T 2 (by omega)) (T 5 (by omega)) (T 102 (by omega)) (d84 43 (by omega) (by omega) (by omega)) hCst, ?_, lawZ MM hT ((hla3 0).trans rb0)⟩, hS2, by rw [p4, ← hN]; exact Nat.le_refl _, by rw [p4]; exact Nat.le_refl _⟩
      · unfold iTap
        rw [e16, d65, e13, d67]
        exact ⟨rfl, by omega, by omega, rfl, by omega, by omega, fun k hk => absurd hk (by omega)⟩
      · intro t' ht'
        rw [d65] at ht'
        by_cases e : t' = t
        · rw [e]; exact hnew
        · exact lawO MM hT h93 h94 t' (by omega)
