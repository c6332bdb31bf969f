/-! the law's run from its start -/
def M0 (sc : Nat → Int) : Mem := fun a => if a = 5 then sc else if a = 0 then (fun k => [-1, 0, 0, 1, 2, 0].getD k 0) else if a = 1 then (fun k => [0, -9, 0].getD k 0) else if a = 2 then (fun k => [9, 9, 100].getD k 0) else fun _ => 0
theorem M0_z {sc : Nat → Int} {a : Nat} (h : 6 ≤ a) : M0 sc a = fun _ => 0 := by
  unfold M0
  rw [if_neg (by omega), if_neg (by omega), if_neg (by omega), if_neg (by omega)]
theorem x179_0_6000 (n : Nat) (r : Nat) (l0 : Option AV) (l1 : Option AV) (l2 : Option AV) (l3 : Option AV) (M : Mem) (hz : M 6 = fun _ => 0) : go r 179 0 [l0, l1, l2, l3] [] M (sS n 6 0 0) = go r 179 3 [l0, l1, l2, l3] [aR 6] M (sS n 7 0 11) := ((g179_0 r l0 l1 l2 l3 M (sS n 6 0 0)).trans (congrArg (go r 179 3 [l0, l1, l2, l3] [aR 6] (mrow M 6 (fun _ => 0))) (ev_nw (n := n) (m := 6) (j := 0) (u := 0) (c := 5) (f := 11) (by decide) rfl rfl (by decide +kernel)))).trans (congrArg (fun X => go r 179 3 [l0, l1, l2, l3] [aR 6] X (sS n 7 0 11)) (mr0 hz))
theorem x179_8_84077 (n : Nat) (r : Nat) (l0 : Option AV) (l1 : Option AV) (l2 : Option AV) (l3 : Option AV) (M : Mem) (hz : M 84 = fun _ => 0) : go r 179 8 [l0, l1, l2, l3] [] M (sS n 84 77 4996) = go r 179 11 [l0, l1, l2, l3] [aR 84] M (sS n 85 77 5043) := ((g179_8 r l0 l1 l2 l3 M (sS n 84 77 4996)).trans (congrArg (go r 179 11 [l0, l1, l2, l3] [aR 84] (mrow M 84 (fun _ => 0))) (ev_nw (n := n) (m := 84) (j := 77) (u := 4996) (c := 6) (f := 47) (by decide) rfl rfl (by decide +kernel)))).trans (congrArg (fun X => go r 179 11 [l0, l1, l2, l3] [aR 84] X (sS n 85 77 5043)) (mr0 hz))
theorem up_all : Up [] [17, 0, 100003] ∧ Up [17, 0, 100003] [1, 17, 0, 100003] ∧ Up [1, 17, 0, 100003] [100000, 1, 17, 0, 100003] :=
  ⟨Up_b (o1 := [100003]) (o2 := [0, 100003]) (Up_v (by omega)) (Up_v (by omega)) (by omega), Up_v (by omega), Up_v (by omega)⟩
theorem inv0 {sc : Nat → Int} {M1 M2 : Mem} (h84 : ∀ a, a < 84 → M2 a = M1 a) (h6 : ∀ a, a < 6 → M1 a = M0 sc a)
  (hlp : lawP 45 M1 [100000, 1, 17, 0, 100003]) (hb : M1 48 0 = 0 ∧ M1 48 1 = 3 ∧ M1 48 2 = 4 ∧ M1 48 3 = 5) (r6 : M1 6 = fset (fun _ => 0) 5 1) (r7 : M1 7 = fset (fset (fun _ => 0) 12 10) 13 (-1)) (rz : ∀ a, (8 ≤ a ∧ a ≤ 16) ∨ (37 ≤ a ∧ a ≤ 39) ∨ (51 ≤ a ∧ a ≤ 75) → M1 a = fun _ => 0) (rs : ∀ s, s < 4 → M1 (76 + 2 * s) = fset (fun _ => 0) 1 (-1) ∧ M1 (77 + 2 * s) = fun _ => 0)
  (qz : ∀ a, (85 ≤ a ∧ a ≤ 91) ∨ a = 99 ∨ a = 100 → M2 a = fun _ => 0) (q98 : ∀ i, i < 4 → M2 98 i = -1) (q102 : ∀ i, i < 96 → M2 102 i = wT i) (q84 : M2 84 2 = 0 ∧ M2 84 3 = 10 ∧ M2 84 4 = -1 ∧ M2 84 5 = 0 ∧ M2 84 9 = 0 ∧ M2 84 13 = 0 ∧ M2 84 16 = 1 ∧ M2 84 17 = 0 ∧ M2 84 18 = 0 ∧ M2 84 43 = -1) (hcp : cP 0 M2 [100000, 1, 17, 0, 100003]) (s0 : M2 94 0 = 0) (s1 : M2 94 1 = 3) (s2 : M2 94 2 = 4) (s3 : M2 94 3 = 5) : Inv sc M2 := by
  obtain ⟨d2, d3, d4, d5, d9, d13, d16, d17, d18, d43⟩ := q84
  have e7 : M2 7 = fset (fset (fun _ => 0) 12 10) 13 (-1) := (h84 7 (by omega)).trans r7
  have e6 : M2 6 = fset (fun _ => 0) 5 1 := (h84 6 (by omega)).trans r6
  have p4 : M2 7 4 = 0 := by rw [e7]; rfl
  have p10 : M2 7 10 = 0 := by rw [e7]; rfl
  have p11 : M2 7 11 = 0 := by rw [e7]; rfl
  have p12 : M2 7 12 = 10 := by rw [e7]; rfl
  have p13 : M2 7 13 = -1 := by rw [e7]; rfl
  have p14 : M2 7 14 = 0 := by rw [e7]; rfl
  have o3 : M2 6 3 = 0 := by rw [e6]; rfl
  have o5 : M2 6 5 = 1 := by rw [e6]; rfl
  have o7 : M2 6 7 = 0 := by rw [e6]; rfl
  refine ⟨fun k hk => ?_, ⟨by omega, by omega, by omega, fun k hk => absurd hk (by omega)⟩, ⟨by omega, by omega, by omega, fun k hk => absurd hk (by omega)⟩, ⟨by omega, by omega, by omega, by omega, by omega, by omega, by omega, by omega, by omega, by omega, by omega, by omega⟩, ⟨by omega, by omega, by omega, by omega, by omega, by omega, fun k hk => absurd hk (by omega)⟩, ⟨by omega, by omega, fun h => absurd h (by omega)⟩, fun s hs => ?_, ?_, ?_⟩
  · rw [qz 85 (by omega), qz 86 (by omega), h84 8 (by omega), h84 9 (by omega), rz 8 (by omega), rz 9 (by omega)]
    exact ⟨rfl, rfl, by show (0 : Int) ≤ 0; decide, by show (0 : Int) ≤ 9; decide, by show (0 : Int) ≤ 0; decide, by show (0 : Int) ≤ 1; decide⟩
  · obtain ⟨a1, a2⟩ := rs s hs
    rw [q98 s hs, qz 99 (by omega), qz 100 (by omega), h84 (76 + 2 * s) (by omega), h84 (77 + 2 * s) (by omega), a1, a2]
    exact ⟨rfl, by decide, by decide, rfl, by show (0 : Int) ≤ 0; decide, by show (0 : Int) ≤ 40; decide, fun _ _ => rfl⟩
  · refine ⟨?_, d43, ?_, ?_, ?_, ?_⟩
    · rw [h84 5 (by omega), h6 5 (by omega)]
      rfl
    · rw [h84 0 (by omega), h6 0 (by omega)]
      exact ⟨rfl, rfl, rfl, rfl, rfl, rfl⟩
    · rw [h84 1 (by omega), h6 1 (by omega)]
      exact ⟨rfl, rfl, rfl⟩
    · rw [h84 2 (by omega), h6 2 (by omega)]
      exact ⟨rfl, rfl, rfl⟩
    · refine ⟨q102 0 (by omega), q102 1 (by omega), q102 2 (by omega), q102 3 (by omega), q102 4 (by omega), q102 5 (by omega), q102 6 (by omega), q102 7 (by omega), q102 8 (by omega), q102 9 (by omega), q102 10 (by omega), q102 11 (by omega), q102 12 (by omega), q102 13 (by omega), q102 14 (by omega), q102 15 (by omega), q102 16 (by omega), q102 17 (by omega), q102 18 (by omega), q102 19 (by omega), q102 20 (by omega), q102 21 (by omega), q102 22 (by omega), q102 23 (by omega), q102 24 (by omega), q102 25 (by omega), q102 26 (by omega), q102 27 (by omega), q102 28 (by omega), q102 29 (by omega), q102 30 (by omega), q102 31 (by omega), q102 32 (by omega), q102 33 (by omega), q102 34 (by omega), q102 35 (by omega), q102 36 (by omega), q102 37 (by omega), q102 38 (by omega), q102 39 (by omega), q102 40 (by omega), q102 41 (by omega), q102 42 (by omega), q102 43 (by omega), q102 44 (by omega), q102 45 (by omega), q102 46 (by omega), q102 47 (by omega), q102 48 (by omega), q102 49 (by omega), q102 50 (by omega), q102 51 (by omega), q102 52 (by omega), q102 53 (by omega), q102 54 (by omega), q102 55 (by omega), q102 56 (by omega), q102 57 (by omega), q102 58 (by omega), q102 59 (by omega), q102 60 (by omega), q102 61 (by omega), q102 62 (by omega), q102 63 (by omega), q102 64 (by omega), q102 65 (by omega), q102 66 (by omega), q102 67 (by omega), q102 68 (by omega), q102 69 (by omega), q102 70 (by omega), q102 71 (by omega), q102 72 (by omega), q102 73 (by omega), q102 74 (by omega), q102 75 (by omega), q102 76 (by omega), q102 77 (by omega), q102 78 (by omega), q102 79 (by omega), q102 80 (by omega), q102 81 (by omega), q102 82 (by omega), q102 83 (by omega), q102 84 (by omega), q102 85 (by omega), q102 86 (by omega), q102 87 (by omega), q102 88 (by omega), q102 89 (by omega), q102 90 (by omega), q102 91 (by omega), q102 92 (by omega), q102 93 (by omega), q102 94 (by omega), q102 95 (by omega)⟩
  · refine ⟨fun t ht => ?_, fun t t6 => ?_⟩
    · have t0 : t = 0 := by omega
      subst t0
      obtain ⟨b0, b1, b2, b3⟩ := hb
      refine lawRel_ (t := 0) hcp (lawP_fr (fun k _ => ?_) hlp) up_all.1 up_all.2.1 up_all.2.2 (by decide) s0 s1 s2 s3 ?_ ?_ ?_ ?_
      · show M2 (45 + 1) k = M1 (45 + 1) k ∧ M2 (45 + 2) k = M1 (45 + 2) k
        rw [h84 (45 + 1) (by omega), h84 (45 + 2) (by omega)]
        exact ⟨rfl, rfl⟩
      · show M2 48 0 = 0
        rw [h84 48 (by omega)]; exact b0
      · show M2 48 1 = 3
        rw [h84 48 (by omega)]; exact b1
      · show M2 48 2 = 4
        rw [h84 48 (by omega)]; exact b2
      · show M2 48 3 = 5
        rw [h84 48 (by omega)]; exact b3
    · by_cases t0 : t = 0
      · subst t0
        show M2 48 0 = 0
        rw [h84 48 (by omega)]; exact hb.1
      · have w : wkOf t = 47 + 5 * t := if_neg t0
        rw [w, h84 _ (by omega), rz _ (by omega)]
theorem law_all {n : Nat} {sc : Nat → Int} (hsc : ∀ j, -2147483648 ≤ sc j ∧ sc j < 2147483648) (hn : n ≤ 3584) : ∃ M' S', res 179 [aR 5] (M0 sc) (sS n 6 0 0) = some (some (aI 1), M', S') ∧ S'.2.2.2.1 ≤ 622 ∧ S'.2.2.2.2 ≤ 12495 := by
  have hz : ∀ a, 6 ≤ a → M0 sc a = fun _ => 0 := fun a ha => M0_z ha
  obtain ⟨M1, z1, f6, f84, hlp, hb, r6, r7, rz, rs⟩ := cctor (n := n) hz
  obtain ⟨M2, z2, h84, qz, q98, q102, q84, hcp, s0, s1, s2, s3⟩ := mctor (n := n) f84
  have hI : Inv sc M2 := inv0 h84 f6 hlp hb r6 r7 rz rs qz q98 q102 q84 hcp s0 s1 s2 s3
  obtain ⟨M', S', z, hN, hU⟩ := law_loop hsc hn 512 0 M2 (sS n 110 102 8399) (by omega) (by omega) Std_s hI
  have z' : go 71 179 18 [some (aR 5), some (aR 6), some (aR 84), some (aI 0)] [] M2 (sS n 110 102 8399) = _ := z
  have y1 : (sS n 7 0 11).1 6 = 5 := rfl
  have y2 : (sS n 85 77 5043).1 84 = 6 := rfl
  have hN' : S'.2.2.2.1 ≤ 110 + 512 := hN
  have hU' : S'.2.2.2.2 ≤ 8399 + 8 * 512 := hU
  refine ⟨M', S', ?_, by omega, by omega⟩
  rw [g179]
  simp (disch := first | exact hz _ (by omega) | exact f84 _ (by omega) | omega) only [g179_3, g179_4, g179_7, g179_7n, g179_11, g179_12, g179_15, g179_15n, g179_16, g179_17, x179_0_6000 n, x179_8_84077 n, cont_1, cont_0, w32_o, z1, z2]
  exact z'
