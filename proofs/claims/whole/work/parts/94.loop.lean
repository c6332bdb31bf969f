/-! the law's loop -/
theorem lw_0 {n i : Nat} {sc : Nat → Int} {M : Mem} {S : Sh} (hsc : ∀ j, -2147483648 ≤ sc j ∧ sc j < 2147483648) (hS : Std n S) (hI : Inv sc M) (hn : n ≤ 3584) (hi : i + 7 ≤ n) (hc : and32 (sc i) 63 = 0) : ∃ M2 S2, go 71 179 18 [some (aR 5), some (aR 6), some (aR 84), some (aI (i : Int))] [] M S = go 71 179 18 [some (aR 5), some (aR 6), some (aR 84), some (aI ((i : Int) + 7))] [] M2 S2 ∧ Inv sc M2 ∧ Std n S2 ∧ S2.2.2.2.1 ≤ S.2.2.2.1 + 1 ∧ S2.2.2.2.2 ≤ S.2.2.2.2 + 8 := by
  obtain ⟨v, M1, S1, h1, v', M2, S2, h2, e, hI2, hS2, hN, hU⟩ := p_count (x1 := sc (i + 1)) hS hI
  obtain ⟨kp, _, _⟩ := res_keep h1
  obtain ⟨x, hx⟩ := res_I (by decide +kernel) h1
  cases hx
  subst e
  have N110 := hS.2.2.2.2
  have k5 := K5 hS
  have k6 := K6 hS
  have l5 : S.2.1 5 = n := hS.2.2.1
  have m5 : M 5 = sc := hI.2.2.2.2.2.2.2.1.1
  have m51 : M1 5 = sc := (kp.1 k5 (by omega)).trans m5
  have k51 : S1.1 5 = 7 := (kp.2 5 (by omega)).1.trans k5
  have l51 : S1.2.1 5 = n := (kp.2 5 (by omega)).2.trans l5
  have k84 : S1.1 84 = 6 := (kp.2 84 (by omega)).1.trans (K84 hS)
  have i1 : ((i : Int) + 1).toNat = i + 1 := by omega
  have i2 : ((i : Int) + 2).toNat = i + 2 := by omega
  have i3 : ((i : Int) + 3).toNat = i + 3 := by omega
  have i4 : ((i : Int) + 4).toNat = i + 4 := by omega
  have i5 : ((i : Int) + 5).toNat = i + 5 := by omega
  have i6 : ((i : Int) + 6).toNat = i + 6 := by omega
  refine ⟨M2, S2, ?_, hI2, hS2, by omega, by omega⟩
  rw [g179_18]
  simp (disch := omega) only [g179_19, g179_19n, g179_20, g179_21, g179_23, g179_24t, g179_24f, g179_27, g179_27n, g179_28, g179_29, g179_30, g179_32, g179_33c0, g179_204, g179_204n, g179_205, g179_205n, g179_206, g179_207, g179_208, g179_209, g179_210, g179_213, g179_213n, g179_214, g179_214n, g179_215, g179_216, g179_217, g179_218, g179_219, g179_222t, g179_222f, g179_225, g179_226, g179_1514, g179_1517, cont_1, cont_0, w32_o, m5, m51, l5, hc, Int.toNat_natCast, i1, i2, i3, i4, i5, i6, h1, h2]
theorem lw_1 {n i : Nat} {sc : Nat → Int} {M : Mem} {S : Sh} (hsc : ∀ j, -2147483648 ≤ sc j ∧ sc j < 2147483648) (hS : Std n S) (hI : Inv sc M) (hn : n ≤ 3584) (hi : i + 7 ≤ n) (hc : and32 (sc i) 63 = 1) : ∃ M2 S2, go 71 179 18 [some (aR 5), some (aR 6), some (aR 84), some (aI (i : Int))] [] M S = go 71 179 18 [some (aR 5), some (aR 6), some (aR 84), some (aI ((i : Int) + 7))] [] M2 S2 ∧ Inv sc M2 ∧ Std n S2 ∧ S2.2.2.2.1 ≤ S.2.2.2.1 + 1 ∧ S2.2.2.2.2 ≤ S.2.2.2.2 + 8 := by
  obtain ⟨v, M1, S1, h1, v', M2, S2, h2, e, hI2, hS2, hN, hU⟩ := p_set (x1 := sc (i + 1)) (x2 := sc (i + 2)) hS hI
  obtain ⟨kp, _, _⟩ := res_keep h1
  obtain ⟨x, hx⟩ := res_I (by decide +kernel) h1
  cases hx
  subst e
  have N110 := hS.2.2.2.2
  have k5 := K5 hS
  have k6 := K6 hS
  have l5 : S.2.1 5 = n := hS.2.2.1
  have m5 : M 5 = sc := hI.2.2.2.2.2.2.2.1.1
  have m51 : M1 5 = sc := (kp.1 k5 (by omega)).trans m5
  have k51 : S1.1 5 = 7 := (kp.2 5 (by omega)).1.trans k5
  have l51 : S1.2.1 5 = n := (kp.2 5 (by omega)).2.trans l5
  have k84 : S1.1 84 = 6 := (kp.2 84 (by omega)).1.trans (K84 hS)
  have i1 : ((i : Int) + 1).toNat = i + 1 := by omega
  have i2 : ((i : Int) + 2).toNat = i + 2 := by omega
  have i3 : ((i : Int) + 3).toNat = i + 3 := by omega
  have i4 : ((i : Int) + 4).toNat = i + 4 := by omega
  have i5 : ((i : Int) + 5).toNat = i + 5 := by omega
  have i6 : ((i : Int) + 6).toNat = i + 6 := by omega
  refine ⟨M2, S2, ?_, hI2, hS2, by omega, by omega⟩
  rw [g179_18]
  simp (disch := omega) only [g179_19, g179_19n, g179_20, g179_21, g179_23, g179_24t, g179_24f, g179_27, g179_27n, g179_28, g179_29, g179_30, g179_32, g179_33c1, g179_227, g179_227n, g179_228, g179_228n, g179_229, g179_230, g179_231, g179_232, g179_233, g179_233n, g179_234, g179_235, g179_236, g179_237, g179_238, g179_241, g179_241n, g179_242, g179_242n, g179_243, g179_244, g179_245, g179_246, g179_247, g179_247n, g179_248, g179_249, g179_250, g179_251, g179_252, g179_255t, g179_255f, g179_258, g179_259, g179_1514, g179_1517, cont_1, cont_0, w32_o, m5, m51, l5, hc, Int.toNat_natCast, i1, i2, i3, i4, i5, i6, h1, h2]
theorem lw_2 {n i : Nat} {sc : Nat → Int} {M : Mem} {S : Sh} (hsc : ∀ j, -2147483648 ≤ sc j ∧ sc j < 2147483648) (hS : Std n S) (hI : Inv sc M) (hn : n ≤ 3584) (hi : i + 7 ≤ n) (hc : and32 (sc i) 63 = 2) : ∃ M2 S2, go 71 179 18 [some (aR 5), some (aR 6), some (aR 84), some (aI (i : Int))] [] M S = go 71 179 18 [some (aR 5), some (aR 6), some (aR 84), some (aI ((i : Int) + 7))] [] M2 S2 ∧ Inv sc M2 ∧ Std n S2 ∧ S2.2.2.2.1 ≤ S.2.2.2.1 + 1 ∧ S2.2.2.2.2 ≤ S.2.2.2.2 + 8 := by
  obtain ⟨v, M1, S1, h1, v', M2, S2, h2, e, hI2, hS2, hN, hU⟩ := p_land (x1 := sc (i + 1)) (x2 := sc (i + 2)) (x3 := sc (i + 3)) hS hI
  obtain ⟨kp, _, _⟩ := res_keep h1
  obtain ⟨x, hx⟩ := res_I (by decide +kernel) h1
  cases hx
  subst e
  have N110 := hS.2.2.2.2
  have k5 := K5 hS
  have k6 := K6 hS
  have l5 : S.2.1 5 = n := hS.2.2.1
  have m5 : M 5 = sc := hI.2.2.2.2.2.2.2.1.1
  have m51 : M1 5 = sc := (kp.1 k5 (by omega)).trans m5
  have k51 : S1.1 5 = 7 := (kp.2 5 (by omega)).1.trans k5
  have l51 : S1.2.1 5 = n := (kp.2 5 (by omega)).2.trans l5
  have k84 : S1.1 84 = 6 := (kp.2 84 (by omega)).1.trans (K84 hS)
  have i1 : ((i : Int) + 1).toNat = i + 1 := by omega
  have i2 : ((i : Int) + 2).toNat = i + 2 := by omega
  have i3 : ((i : Int) + 3).toNat = i + 3 := by omega
  have i4 : ((i : Int) + 4).toNat = i + 4 := by omega
  have i5 : ((i : Int) + 5).toNat = i + 5 := by omega
  have i6 : ((i : Int) + 6).toNat = i + 6 := by omega
  refine ⟨M2, S2, ?_, hI2, hS2, by omega, by omega⟩
  rw [g179_18]
  simp (disch := omega) only [g179_19, g179_19n, g179_20, g179_21, g179_23, g179_24t, g179_24f, g179_27, g179_27n, g179_28, g179_29, g179_30, g179_32, g179_33c2, g179_260, g179_260n, g179_261, g179_261n, g179_262, g179_263, g179_264, g179_265, g179_266, g179_266n, g179_267, g179_268, g179_269, g179_270, g179_271, g179_271n, g179_272, g179_273, g179_274, g179_275, g179_276, g179_279, g179_279n, g179_280, g179_280n, g179_281, g179_282, g179_283, g179_284, g179_285, g179_285n, g179_286, g179_287, g179_288, g179_289, g179_290, g179_290n, g179_291, g179_292, g179_293, g179_294, g179_295, g179_298t, g179_298f, g179_301, g179_302, g179_1514, g179_1517, cont_1, cont_0, w32_o, m5, m51, l5, hc, Int.toNat_natCast, i1, i2, i3, i4, i5, i6, h1, h2]
theorem lw_3 {n i : Nat} {sc : Nat → Int} {M : Mem} {S : Sh} (hsc : ∀ j, -2147483648 ≤ sc j ∧ sc j < 2147483648) (hS : Std n S) (hI : Inv sc M) (hn : n ≤ 3584) (hi : i + 7 ≤ n) (hc : and32 (sc i) 63 = 3) : ∃ M2 S2, go 71 179 18 [some (aR 5), some (aR 6), some (aR 84), some (aI (i : Int))] [] M S = go 71 179 18 [some (aR 5), some (aR 6), some (aR 84), some (aI ((i : Int) + 7))] [] M2 S2 ∧ Inv sc M2 ∧ Std n S2 ∧ S2.2.2.2.1 ≤ S.2.2.2.1 + 1 ∧ S2.2.2.2.2 ≤ S.2.2.2.2 + 8 := by
  obtain ⟨v, M1, S1, h1, v', M2, S2, h2, e, hI2, hS2, hN, hU⟩ := p_mile (x1 := sc (i + 1)) (x2 := sc (i + 2)) hS hI
  obtain ⟨kp, _, _⟩ := res_keep h1
  obtain ⟨x, hx⟩ := res_I (by decide +kernel) h1
  cases hx
  subst e
  have N110 := hS.2.2.2.2
  have k5 := K5 hS
  have k6 := K6 hS
  have l5 : S.2.1 5 = n := hS.2.2.1
  have m5 : M 5 = sc := hI.2.2.2.2.2.2.2.1.1
  have m51 : M1 5 = sc := (kp.1 k5 (by omega)).trans m5
  have k51 : S1.1 5 = 7 := (kp.2 5 (by omega)).1.trans k5
  have l51 : S1.2.1 5 = n := (kp.2 5 (by omega)).2.trans l5
  have k84 : S1.1 84 = 6 := (kp.2 84 (by omega)).1.trans (K84 hS)
  have i1 : ((i : Int) + 1).toNat = i + 1 := by omega
  have i2 : ((i : Int) + 2).toNat = i + 2 := by omega
  have i3 : ((i : Int) + 3).toNat = i + 3 := by omega
  have i4 : ((i : Int) + 4).toNat = i + 4 := by omega
  have i5 : ((i : Int) + 5).toNat = i + 5 := by omega
  have i6 : ((i : Int) + 6).toNat = i + 6 := by omega
  refine ⟨M2, S2, ?_, hI2, hS2, by omega, by omega⟩
  rw [g179_18]
  simp (disch := omega) only [g179_19, g179_19n, g179_20, g179_21, g179_23, g179_24t, g179_24f, g179_27, g179_27n, g179_28, g179_29, g179_30, g179_32, g179_33c3, g179_303, g179_303n, g179_304, g179_304n, g179_305, g179_306, g179_307, g179_308, g179_309, g179_309n, g179_310, g179_311, g179_312, g179_313, g179_314, g179_317, g179_317n, g179_318, g179_318n, g179_319, g179_320, g179_321, g179_322, g179_323, g179_323n, g179_324, g179_325, g179_326, g179_327, g179_328, g179_331t, g179_331f, g179_334, g179_335, g179_1514, g179_1517, cont_1, cont_0, w32_o, m5, m51, l5, hc, Int.toNat_natCast, i1, i2, i3, i4, i5, i6, h1, h2]
theorem lw_4 {n i : Nat} {sc : Nat → Int} {M : Mem} {S : Sh} (hsc : ∀ j, -2147483648 ≤ sc j ∧ sc j < 2147483648) (hS : Std n S) (hI : Inv sc M) (hn : n ≤ 3584) (hi : i + 7 ≤ n) (hc : and32 (sc i) 63 = 4) : ∃ M2 S2, go 71 179 18 [some (aR 5), some (aR 6), some (aR 84), some (aI (i : Int))] [] M S = go 71 179 18 [some (aR 5), some (aR 6), some (aR 84), some (aI ((i : Int) + 7))] [] M2 S2 ∧ Inv sc M2 ∧ Std n S2 ∧ S2.2.2.2.1 ≤ S.2.2.2.1 + 1 ∧ S2.2.2.2.2 ≤ S.2.2.2.2 + 8 := by
  obtain ⟨v, M1, S1, h1, v', M2, S2, h2, e, hI2, hS2, hN, hU⟩ := p_feed (x1 := sc (i + 1)) (x2 := sc (i + 2)) (x3 := sc (i + 3)) (x4 := sc (i + 4)) (x5 := sc (i + 5)) (x6 := sc (i + 6)) hS hI
  obtain ⟨kp, _, _⟩ := res_keep h1
  obtain ⟨x, hx⟩ := res_I (by decide +kernel) h1
  cases hx
  subst e
  have N110 := hS.2.2.2.2
  have k5 := K5 hS
  have k6 := K6 hS
  have l5 : S.2.1 5 = n := hS.2.2.1
  have m5 : M 5 = sc := hI.2.2.2.2.2.2.2.1.1
  have m51 : M1 5 = sc := (kp.1 k5 (by omega)).trans m5
  have k51 : S1.1 5 = 7 := (kp.2 5 (by omega)).1.trans k5
  have l51 : S1.2.1 5 = n := (kp.2 5 (by omega)).2.trans l5
  have k84 : S1.1 84 = 6 := (kp.2 84 (by omega)).1.trans (K84 hS)
  have i1 : ((i : Int) + 1).toNat = i + 1 := by omega
  have i2 : ((i : Int) + 2).toNat = i + 2 := by omega
  have i3 : ((i : Int) + 3).toNat = i + 3 := by omega
  have i4 : ((i : Int) + 4).toNat = i + 4 := by omega
  have i5 : ((i : Int) + 5).toNat = i + 5 := by omega
  have i6 : ((i : Int) + 6).toNat = i + 6 := by omega
  refine ⟨M2, S2, ?_, hI2, hS2, by omega, by omega⟩
  rw [g179_18]
  simp (disch := omega) only [g179_19, g179_19n, g179_20, g179_21, g179_23, g179_24t, g179_24f, g179_27, g179_27n, g179_28, g179_29, g179_30, g179_32, g179_33c4, g179_336, g179_336n, g179_337, g179_337n, g179_338, g179_339, g179_340, g179_341, g179_342, g179_342n, g179_343, g179_344, g179_345, g179_346, g179_347, g179_347n, g179_348, g179_349, g179_350, g179_351, g179_352, g179_352n, g179_353, g179_354, g179_355, g179_356, g179_357, g179_357n, g179_358, g179_359, g179_360, g179_361, g179_362, g179_362n, g179_363, g179_364, g179_366, g179_367, g179_368, g179_371, g179_371n, g179_372, g179_372n, g179_373, g179_374, g179_375, g179_376, g179_377, g179_377n, g179_378, g179_379, g179_380, g179_381, g179_382, g179_382n, g179_383, g179_384, g179_385, g179_386, g179_387, g179_387n, g179_388, g179_389, g179_390, g179_391, g179_392, g179_392n, g179_393, g179_394, g179_395, g179_396, g179_397, g179_397n, g179_398, g179_399, g179_401, g179_402, g179_403, g179_406t, g179_406f, g179_409, g179_410, g179_1514, g179_1517, cont_1, cont_0, w32_o, m5, m51, l5, hc, Int.toNat_natCast, i1, i2, i3, i4, i5, i6, h1, h2]
theorem lw_5 {n i : Nat} {sc : Nat → Int} {M : Mem} {S : Sh} (hsc : ∀ j, -2147483648 ≤ sc j ∧ sc j < 2147483648) (hS : Std n S) (hI : Inv sc M) (hn : n ≤ 3584) (hi : i + 7 ≤ n) (hc : and32 (sc i) 63 = 5) : ∃ M2 S2, go 71 179 18 [some (aR 5), some (aR 6), some (aR 84), some (aI (i : Int))] [] M S = go 71 179 18 [some (aR 5), some (aR 6), some (aR 84), some (aI ((i : Int) + 7))] [] M2 S2 ∧ Inv sc M2 ∧ Std n S2 ∧ S2.2.2.2.1 ≤ S.2.2.2.1 + 1 ∧ S2.2.2.2.2 ≤ S.2.2.2.2 + 8 := by
  obtain ⟨v, M1, S1, h1, v', M2, S2, h2, e, hI2, hS2, hN, hU⟩ := p_text hS hI
  obtain ⟨kp, _, _⟩ := res_keep h1
  obtain ⟨x, hx⟩ := res_I (by decide +kernel) h1
  cases hx
  subst e
  have N110 := hS.2.2.2.2
  have k5 := K5 hS
  have k6 := K6 hS
  have l5 : S.2.1 5 = n := hS.2.2.1
  have m5 : M 5 = sc := hI.2.2.2.2.2.2.2.1.1
  have m51 : M1 5 = sc := (kp.1 k5 (by omega)).trans m5
  have k51 : S1.1 5 = 7 := (kp.2 5 (by omega)).1.trans k5
  have l51 : S1.2.1 5 = n := (kp.2 5 (by omega)).2.trans l5
  have k84 : S1.1 84 = 6 := (kp.2 84 (by omega)).1.trans (K84 hS)
  have i1 : ((i : Int) + 1).toNat = i + 1 := by omega
  have i2 : ((i : Int) + 2).toNat = i + 2 := by omega
  have i3 : ((i : Int) + 3).toNat = i + 3 := by omega
  have i4 : ((i : Int) + 4).toNat = i + 4 := by omega
  have i5 : ((i : Int) + 5).toNat = i + 5 := by omega
  have i6 : ((i : Int) + 6).toNat = i + 6 := by omega
  refine ⟨M2, S2, ?_, hI2, hS2, by omega, by omega⟩
  rw [g179_18]
  simp (disch := omega) only [g179_19, g179_19n, g179_20, g179_21, g179_23, g179_24t, g179_24f, g179_27, g179_27n, g179_28, g179_29, g179_30, g179_32, g179_33c5, g179_411, g179_411n, g179_412, g179_415, g179_415n, g179_416, g179_419t, g179_419f, g179_422, g179_423, g179_1514, g179_1517, cont_1, cont_0, w32_o, m5, m51, l5, hc, Int.toNat_natCast, i1, i2, i3, i4, i5, i6, h1, h2]
theorem lw_6 {n i : Nat} {sc : Nat → Int} {M : Mem} {S : Sh} (hsc : ∀ j, -2147483648 ≤ sc j ∧ sc j < 2147483648) (hS : Std n S) (hI : Inv sc M) (hn : n ≤ 3584) (hi : i + 7 ≤ n) (hc : and32 (sc i) 63 = 6) : ∃ M2 S2, go 71 179 18 [some (aR 5), some (aR 6), some (aR 84), some (aI (i : Int))] [] M S = go 71 179 18 [some (aR 5), some (aR 6), some (aR 84), some (aI ((i : Int) + 7))] [] M2 S2 ∧ Inv sc M2 ∧ Std n S2 ∧ S2.2.2.2.1 ≤ S.2.2.2.1 + 1 ∧ S2.2.2.2.2 ≤ S.2.2.2.2 + 8 := by
  obtain ⟨v, M1, S1, h1, v', M2, S2, h2, e, hI2, hS2, hN, hU⟩ := p_force (x1 := sc (i + 1)) hS hI
  obtain ⟨kp, _, _⟩ := res_keep h1
  obtain ⟨x, hx⟩ := res_I (by decide +kernel) h1
  cases hx
  subst e
  have N110 := hS.2.2.2.2
  have k5 := K5 hS
  have k6 := K6 hS
  have l5 : S.2.1 5 = n := hS.2.2.1
  have m5 : M 5 = sc := hI.2.2.2.2.2.2.2.1.1
  have m51 : M1 5 = sc := (kp.1 k5 (by omega)).trans m5
  have k51 : S1.1 5 = 7 := (kp.2 5 (by omega)).1.trans k5
  have l51 : S1.2.1 5 = n := (kp.2 5 (by omega)).2.trans l5
  have k84 : S1.1 84 = 6 := (kp.2 84 (by omega)).1.trans (K84 hS)
  have i1 : ((i : Int) + 1).toNat = i + 1 := by omega
  have i2 : ((i : Int) + 2).toNat = i + 2 := by omega
  have i3 : ((i : Int) + 3).toNat = i + 3 := by omega
  have i4 : ((i : Int) + 4).toNat = i + 4 := by omega
  have i5 : ((i : Int) + 5).toNat = i + 5 := by omega
  have i6 : ((i : Int) + 6).toNat = i + 6 := by omega
  refine ⟨M2, S2, ?_, hI2, hS2, by omega, by omega⟩
  rw [g179_18]
  simp (disch := omega) only [g179_19, g179_19n, g179_20, g179_21, g179_23, g179_24t, g179_24f, g179_27, g179_27n, g179_28, g179_29, g179_30, g179_32, g179_33c6, g179_424, g179_424n, g179_425, g179_425n, g179_426, g179_427, g179_428, g179_429, g179_430, g179_433, g179_433n, g179_434, g179_434n, g179_435, g179_436, g179_437, g179_438, g179_439, g179_442t, g179_442f, g179_445, g179_446, g179_1514, g179_1517, cont_1, cont_0, w32_o, m5, m51, l5, hc, Int.toNat_natCast, i1, i2, i3, i4, i5, i6, h1, h2]
theorem lw_7 {n i : Nat} {sc : Nat → Int} {M : Mem} {S : Sh} (hsc : ∀ j, -2147483648 ≤ sc j ∧ sc j < 2147483648) (hS : Std n S) (hI : Inv sc M) (hn : n ≤ 3584) (hi : i + 7 ≤ n) (hc : and32 (sc i) 63 = 7) : ∃ M2 S2, go 71 179 18 [some (aR 5), some (aR 6), some (aR 84), some (aI (i : Int))] [] M S = go 71 179 18 [some (aR 5), some (aR 6), some (aR 84), some (aI ((i : Int) + 7))] [] M2 S2 ∧ Inv sc M2 ∧ Std n S2 ∧ S2.2.2.2.1 ≤ S.2.2.2.1 + 1 ∧ S2.2.2.2.2 ≤ S.2.2.2.2 + 8 := by
  obtain ⟨v, M1, S1, h1, v', M2, S2, h2, e, hI2, hS2, hN, hU⟩ := p_asks (x1 := sc (i + 1)) (x2 := sc (i + 2)) (x3 := sc (i + 3)) (x4 := sc (i + 4)) hS hI
  obtain ⟨kp, _, _⟩ := res_keep h1
  obtain ⟨x, hx⟩ := res_I (by decide +kernel) h1
  cases hx
  subst e
  have N110 := hS.2.2.2.2
  have k5 := K5 hS
  have k6 := K6 hS
  have l5 : S.2.1 5 = n := hS.2.2.1
  have m5 : M 5 = sc := hI.2.2.2.2.2.2.2.1.1
  have m51 : M1 5 = sc := (kp.1 k5 (by omega)).trans m5
  have k51 : S1.1 5 = 7 := (kp.2 5 (by omega)).1.trans k5
  have l51 : S1.2.1 5 = n := (kp.2 5 (by omega)).2.trans l5
  have k84 : S1.1 84 = 6 := (kp.2 84 (by omega)).1.trans (K84 hS)
  have i1 : ((i : Int) + 1).toNat = i + 1 := by omega
  have i2 : ((i : Int) + 2).toNat = i + 2 := by omega
  have i3 : ((i : Int) + 3).toNat = i + 3 := by omega
  have i4 : ((i : Int) + 4).toNat = i + 4 := by omega
  have i5 : ((i : Int) + 5).toNat = i + 5 := by omega
  have i6 : ((i : Int) + 6).toNat = i + 6 := by omega
  refine ⟨M2, S2, ?_, hI2, hS2, by omega, by omega⟩
  rw [g179_18]
  simp (disch := omega) only [g179_19, g179_19n, g179_20, g179_21, g179_23, g179_24t, g179_24f, g179_27, g179_27n, g179_28, g179_29, g179_30, g179_32, g179_33c7, g179_447, g179_447n, g179_448, g179_448n, g179_449, g179_450, g179_451, g179_452, g179_453, g179_453n, g179_454, g179_455, g179_456, g179_457, g179_458, g179_458n, g179_459, g179_460, g179_461, g179_462, g179_463, g179_463n, g179_464, g179_465, g179_466, g179_467, g179_468, g179_471, g179_471n, g179_472, g179_472n, g179_473, g179_474, g179_475, g179_476, g179_477, g179_477n, g179_478, g179_479, g179_480, g179_481, g179_482, g179_482n, g179_483, g179_484, g179_485, g179_486, g179_487, g179_487n, g179_488, g179_489, g179_490, g179_491, g179_492, g179_495t, g179_495f, g179_498, g179_499, g179_1514, g179_1517, cont_1, cont_0, w32_o, m5, m51, l5, hc, Int.toNat_natCast, i1, i2, i3, i4, i5, i6, h1, h2]
theorem lw_8 {n i : Nat} {sc : Nat → Int} {M : Mem} {S : Sh} (hsc : ∀ j, -2147483648 ≤ sc j ∧ sc j < 2147483648) (hS : Std n S) (hI : Inv sc M) (hn : n ≤ 3584) (hi : i + 7 ≤ n) (hc : and32 (sc i) 63 = 8) : ∃ M2 S2, go 71 179 18 [some (aR 5), some (aR 6), some (aR 84), some (aI (i : Int))] [] M S = go 71 179 18 [some (aR 5), some (aR 6), some (aR 84), some (aI ((i : Int) + 7))] [] M2 S2 ∧ Inv sc M2 ∧ Std n S2 ∧ S2.2.2.2.1 ≤ S.2.2.2.1 + 1 ∧ S2.2.2.2.2 ≤ S.2.2.2.2 + 8 := by
  obtain ⟨v, M1, S1, h1, v', M2, S2, h2, e, hI2, hS2, hN, hU⟩ := p_plane (x1 := sc (i + 1)) (x2 := sc (i + 2)) hS hI
  obtain ⟨kp, _, _⟩ := res_keep h1
  obtain ⟨x, hx⟩ := res_I (by decide +kernel) h1
  cases hx
  subst e
  have N110 := hS.2.2.2.2
  have k5 := K5 hS
  have k6 := K6 hS
  have l5 : S.2.1 5 = n := hS.2.2.1
  have m5 : M 5 = sc := hI.2.2.2.2.2.2.2.1.1
  have m51 : M1 5 = sc := (kp.1 k5 (by omega)).trans m5
  have k51 : S1.1 5 = 7 := (kp.2 5 (by omega)).1.trans k5
  have l51 : S1.2.1 5 = n := (kp.2 5 (by omega)).2.trans l5
  have k84 : S1.1 84 = 6 := (kp.2 84 (by omega)).1.trans (K84 hS)
  have i1 : ((i : Int) + 1).toNat = i + 1 := by omega
  have i2 : ((i : Int) + 2).toNat = i + 2 := by omega
  have i3 : ((i : Int) + 3).toNat = i + 3 := by omega
  have i4 : ((i : Int) + 4).toNat = i + 4 := by omega
  have i5 : ((i : Int) + 5).toNat = i + 5 := by omega
  have i6 : ((i : Int) + 6).toNat = i + 6 := by omega
  refine ⟨M2, S2, ?_, hI2, hS2, by omega, by omega⟩
  rw [g179_18]
  simp (disch := omega) only [g179_19, g179_19n, g179_20, g179_21, g179_23, g179_24t, g179_24f, g179_27, g179_27n, g179_28, g179_29, g179_30, g179_32, g179_33c8, g179_500, g179_500n, g179_501, g179_501n, g179_502, g179_503, g179_504, g179_505, g179_506, g179_506n, g179_507, g179_508, g179_509, g179_510, g179_511, g179_514, g179_514n, g179_515, g179_515n, g179_516, g179_517, g179_518, g179_519, g179_520, g179_520n, g179_521, g179_522, g179_523, g179_524, g179_525, g179_528t, g179_528f, g179_531, g179_532, g179_1514, g179_1517, cont_1, cont_0, w32_o, m5, m51, l5, hc, Int.toNat_natCast, i1, i2, i3, i4, i5, i6, h1, h2]
theorem lw_9 {n i : Nat} {sc : Nat → Int} {M : Mem} {S : Sh} (hsc : ∀ j, -2147483648 ≤ sc j ∧ sc j < 2147483648) (hS : Std n S) (hI : Inv sc M) (hn : n ≤ 3584) (hi : i + 7 ≤ n) (hc : and32 (sc i) 63 = 9) : ∃ M2 S2, go 71 179 18 [some (aR 5), some (aR 6), some (aR 84), some (aI (i : Int))] [] M S = go 71 179 18 [some (aR 5), some (aR 6), some (aR 84), some (aI ((i : Int) + 7))] [] M2 S2 ∧ Inv sc M2 ∧ Std n S2 ∧ S2.2.2.2.1 ≤ S.2.2.2.1 + 1 ∧ S2.2.2.2.2 ≤ S.2.2.2.2 + 8 := by
  obtain ⟨v, M1, S1, h1, v', M2, S2, h2, e, hI2, hS2, hN, hU⟩ := p_load (x1 := sc (i + 1)) (x2 := sc (i + 2)) (x3 := sc (i + 3)) hS hI
  obtain ⟨kp, _, _⟩ := res_keep h1
  obtain ⟨x, hx⟩ := res_I (by decide +kernel) h1
  cases hx
  subst e
  have N110 := hS.2.2.2.2
  have k5 := K5 hS
  have k6 := K6 hS
  have l5 : S.2.1 5 = n := hS.2.2.1
  have m5 : M 5 = sc := hI.2.2.2.2.2.2.2.1.1
  have m51 : M1 5 = sc := (kp.1 k5 (by omega)).trans m5
  have k51 : S1.1 5 = 7 := (kp.2 5 (by omega)).1.trans k5
  have l51 : S1.2.1 5 = n := (kp.2 5 (by omega)).2.trans l5
  have k84 : S1.1 84 = 6 := (kp.2 84 (by omega)).1.trans (K84 hS)
  have i1 : ((i : Int) + 1).toNat = i + 1 := by omega
  have i2 : ((i : Int) + 2).toNat = i + 2 := by omega
  have i3 : ((i : Int) + 3).toNat = i + 3 := by omega
  have i4 : ((i : Int) + 4).toNat = i + 4 := by omega
  have i5 : ((i : Int) + 5).toNat = i + 5 := by omega
  have i6 : ((i : Int) + 6).toNat = i + 6 := by omega
  refine ⟨M2, S2, ?_, hI2, hS2, by omega, by omega⟩
  rw [g179_18]
  simp (disch := omega) only [g179_19, g179_19n, g179_20, g179_21, g179_23, g179_24t, g179_24f, g179_27, g179_27n, g179_28, g179_29, g179_30, g179_32, g179_33c9, g179_533, g179_533n, g179_534, g179_534n, g179_535, g179_536, g179_537, g179_538, g179_539, g179_539n, g179_540, g179_541, g179_542, g179_543, g179_544, g179_544n, g179_545, g179_546, g179_547, g179_548, g179_549, g179_552, g179_552n, g179_553, g179_553n, g179_554, g179_555, g179_556, g179_557, g179_558, g179_558n, g179_559, g179_560, g179_561, g179_562, g179_563, g179_563n, g179_564, g179_565, g179_566, g179_567, g179_568, g179_571t, g179_571f, g179_574, g179_575, g179_1514, g179_1517, cont_1, cont_0, w32_o, m5, m51, l5, hc, Int.toNat_natCast, i1, i2, i3, i4, i5, i6, h1, h2]
theorem lw_10 {n i : Nat} {sc : Nat → Int} {M : Mem} {S : Sh} (hsc : ∀ j, -2147483648 ≤ sc j ∧ sc j < 2147483648) (hS : Std n S) (hI : Inv sc M) (hn : n ≤ 3584) (hi : i + 7 ≤ n) (hc : and32 (sc i) 63 = 10) : ∃ M2 S2, go 71 179 18 [some (aR 5), some (aR 6), some (aR 84), some (aI (i : Int))] [] M S = go 71 179 18 [some (aR 5), some (aR 6), some (aR 84), some (aI ((i : Int) + 7))] [] M2 S2 ∧ Inv sc M2 ∧ Std n S2 ∧ S2.2.2.2.1 ≤ S.2.2.2.1 + 1 ∧ S2.2.2.2.2 ≤ S.2.2.2.2 + 8 := by
  obtain ⟨v, M1, S1, h1, v', M2, S2, h2, e, hI2, hS2, hN, hU⟩ := p_told (x1 := sc (i + 1)) (x2 := sc (i + 2)) hS hI
  obtain ⟨kp, _, _⟩ := res_keep h1
  obtain ⟨x, hx⟩ := res_I (by decide +kernel) h1
  cases hx
  subst e
  have N110 := hS.2.2.2.2
  have k5 := K5 hS
  have k6 := K6 hS
  have l5 : S.2.1 5 = n := hS.2.2.1
  have m5 : M 5 = sc := hI.2.2.2.2.2.2.2.1.1
  have m51 : M1 5 = sc := (kp.1 k5 (by omega)).trans m5
  have k51 : S1.1 5 = 7 := (kp.2 5 (by omega)).1.trans k5
  have l51 : S1.2.1 5 = n := (kp.2 5 (by omega)).2.trans l5
  have k84 : S1.1 84 = 6 := (kp.2 84 (by omega)).1.trans (K84 hS)
  have i1 : ((i : Int) + 1).toNat = i + 1 := by omega
  have i2 : ((i : Int) + 2).toNat = i + 2 := by omega
  have i3 : ((i : Int) + 3).toNat = i + 3 := by omega
  have i4 : ((i : Int) + 4).toNat = i + 4 := by omega
  have i5 : ((i : Int) + 5).toNat = i + 5 := by omega
  have i6 : ((i : Int) + 6).toNat = i + 6 := by omega
  refine ⟨M2, S2, ?_, hI2, hS2, by omega, by omega⟩
  rw [g179_18]
  simp (disch := omega) only [g179_19, g179_19n, g179_20, g179_21, g179_23, g179_24t, g179_24f, g179_27, g179_27n, g179_28, g179_29, g179_30, g179_32, g179_33c10, g179_576, g179_576n, g179_577, g179_577n, g179_578, g179_579, g179_580, g179_581, g179_582, g179_582n, g179_583, g179_584, g179_585, g179_586, g179_587, g179_590, g179_590n, g179_591, g179_591n, g179_592, g179_593, g179_594, g179_595, g179_596, g179_596n, g179_597, g179_598, g179_599, g179_600, g179_601, g179_604t, g179_604f, g179_607, g179_608, g179_1514, g179_1517, cont_1, cont_0, w32_o, m5, m51, l5, hc, Int.toNat_natCast, i1, i2, i3, i4, i5, i6, h1, h2]
theorem lw_11 {n i : Nat} {sc : Nat → Int} {M : Mem} {S : Sh} (hsc : ∀ j, -2147483648 ≤ sc j ∧ sc j < 2147483648) (hS : Std n S) (hI : Inv sc M) (hn : n ≤ 3584) (hi : i + 7 ≤ n) (hc : and32 (sc i) 63 = 11) : ∃ M2 S2, go 71 179 18 [some (aR 5), some (aR 6), some (aR 84), some (aI (i : Int))] [] M S = go 71 179 18 [some (aR 5), some (aR 6), some (aR 84), some (aI ((i : Int) + 7))] [] M2 S2 ∧ Inv sc M2 ∧ Std n S2 ∧ S2.2.2.2.1 ≤ S.2.2.2.1 + 1 ∧ S2.2.2.2.2 ≤ S.2.2.2.2 + 8 := by
  obtain ⟨v, M1, S1, h1, v', M2, S2, h2, e, hI2, hS2, hN, hU⟩ := p_strip (x1 := sc (i + 1)) (x2 := sc (i + 2)) hS hI
  obtain ⟨kp, _, _⟩ := res_keep h1
  obtain ⟨x, hx⟩ := res_I (by decide +kernel) h1
  cases hx
  subst e
  have N110 := hS.2.2.2.2
  have k5 := K5 hS
  have k6 := K6 hS
  have l5 : S.2.1 5 = n := hS.2.2.1
  have m5 : M 5 = sc := hI.2.2.2.2.2.2.2.1.1
  have m51 : M1 5 = sc := (kp.1 k5 (by omega)).trans m5
  have k51 : S1.1 5 = 7 := (kp.2 5 (by omega)).1.trans k5
  have l51 : S1.2.1 5 = n := (kp.2 5 (by omega)).2.trans l5
  have k84 : S1.1 84 = 6 := (kp.2 84 (by omega)).1.trans (K84 hS)
  have i1 : ((i : Int) + 1).toNat = i + 1 := by omega
  have i2 : ((i : Int) + 2).toNat = i + 2 := by omega
  have i3 : ((i : Int) + 3).toNat = i + 3 := by omega
  have i4 : ((i : Int) + 4).toNat = i + 4 := by omega
  have i5 : ((i : Int) + 5).toNat = i + 5 := by omega
  have i6 : ((i : Int) + 6).toNat = i + 6 := by omega
  refine ⟨M2, S2, ?_, hI2, hS2, by omega, by omega⟩
  rw [g179_18]
  simp (disch := omega) only [g179_19, g179_19n, g179_20, g179_21, g179_23, g179_24t, g179_24f, g179_27, g179_27n, g179_28, g179_29, g179_30, g179_32, g179_33c11, g179_609, g179_609n, g179_610, g179_610n, g179_611, g179_612, g179_613, g179_614, g179_615, g179_615n, g179_616, g179_617, g179_618, g179_619, g179_620, g179_623, g179_623n, g179_624, g179_624n, g179_625, g179_626, g179_627, g179_628, g179_629, g179_629n, g179_630, g179_631, g179_632, g179_633, g179_634, g179_637t, g179_637f, g179_640, g179_641, g179_1514, g179_1517, cont_1, cont_0, w32_o, m5, m51, l5, hc, Int.toNat_natCast, i1, i2, i3, i4, i5, i6, h1, h2]
theorem lw_12 {n i : Nat} {sc : Nat → Int} {M : Mem} {S : Sh} (hsc : ∀ j, -2147483648 ≤ sc j ∧ sc j < 2147483648) (hS : Std n S) (hI : Inv sc M) (hn : n ≤ 3584) (hi : i + 7 ≤ n) (hc : and32 (sc i) 63 = 12) : ∃ M2 S2, go 71 179 18 [some (aR 5), some (aR 6), some (aR 84), some (aI (i : Int))] [] M S = go 71 179 18 [some (aR 5), some (aR 6), some (aR 84), some (aI ((i : Int) + 7))] [] M2 S2 ∧ Inv sc M2 ∧ Std n S2 ∧ S2.2.2.2.1 ≤ S.2.2.2.1 + 1 ∧ S2.2.2.2.2 ≤ S.2.2.2.2 + 8 := by
  obtain ⟨v, M1, S1, h1, v', M2, S2, h2, e, hI2, hS2, hN, hU⟩ := p_drop (x1 := sc (i + 1)) hS hI
  obtain ⟨kp, _, _⟩ := res_keep h1
  obtain ⟨x, hx⟩ := res_I (by decide +kernel) h1
  cases hx
  subst e
  have N110 := hS.2.2.2.2
  have k5 := K5 hS
  have k6 := K6 hS
  have l5 : S.2.1 5 = n := hS.2.2.1
  have m5 : M 5 = sc := hI.2.2.2.2.2.2.2.1.1
  have m51 : M1 5 = sc := (kp.1 k5 (by omega)).trans m5
  have k51 : S1.1 5 = 7 := (kp.2 5 (by omega)).1.trans k5
  have l51 : S1.2.1 5 = n := (kp.2 5 (by omega)).2.trans l5
  have k84 : S1.1 84 = 6 := (kp.2 84 (by omega)).1.trans (K84 hS)
  have i1 : ((i : Int) + 1).toNat = i + 1 := by omega
  have i2 : ((i : Int) + 2).toNat = i + 2 := by omega
  have i3 : ((i : Int) + 3).toNat = i + 3 := by omega
  have i4 : ((i : Int) + 4).toNat = i + 4 := by omega
  have i5 : ((i : Int) + 5).toNat = i + 5 := by omega
  have i6 : ((i : Int) + 6).toNat = i + 6 := by omega
  refine ⟨M2, S2, ?_, hI2, hS2, by omega, by omega⟩
  rw [g179_18]
  simp (disch := omega) only [g179_19, g179_19n, g179_20, g179_21, g179_23, g179_24t, g179_24f, g179_27, g179_27n, g179_28, g179_29, g179_30, g179_32, g179_33c12, g179_642, g179_642n, g179_643, g179_643n, g179_644, g179_645, g179_646, g179_647, g179_648, g179_651, g179_651n, g179_652, g179_652n, g179_653, g179_654, g179_655, g179_656, g179_657, g179_660t, g179_660f, g179_663, g179_664, g179_1514, g179_1517, cont_1, cont_0, w32_o, m5, m51, l5, hc, Int.toNat_natCast, i1, i2, i3, i4, i5, i6, h1, h2]
theorem lw_13 {n i : Nat} {sc : Nat → Int} {M : Mem} {S : Sh} (hsc : ∀ j, -2147483648 ≤ sc j ∧ sc j < 2147483648) (hS : Std n S) (hI : Inv sc M) (hn : n ≤ 3584) (hi : i + 7 ≤ n) (hc : and32 (sc i) 63 = 13) : ∃ M2 S2, go 71 179 18 [some (aR 5), some (aR 6), some (aR 84), some (aI (i : Int))] [] M S = go 71 179 18 [some (aR 5), some (aR 6), some (aR 84), some (aI ((i : Int) + 7))] [] M2 S2 ∧ Inv sc M2 ∧ Std n S2 ∧ S2.2.2.2.1 ≤ S.2.2.2.1 + 1 ∧ S2.2.2.2.2 ≤ S.2.2.2.2 + 8 := by
  obtain ⟨v, M1, S1, h1, v', M2, S2, h2, e, hI2, hS2, hN, hU⟩ := p_planned (x1 := sc (i + 1)) hS hI
  obtain ⟨kp, _, _⟩ := res_keep h1
  obtain ⟨x, hx⟩ := res_I (by decide +kernel) h1
  cases hx
  subst e
  have N110 := hS.2.2.2.2
  have k5 := K5 hS
  have k6 := K6 hS
  have l5 : S.2.1 5 = n := hS.2.2.1
  have m5 : M 5 = sc := hI.2.2.2.2.2.2.2.1.1
  have m51 : M1 5 = sc := (kp.1 k5 (by omega)).trans m5
  have k51 : S1.1 5 = 7 := (kp.2 5 (by omega)).1.trans k5
  have l51 : S1.2.1 5 = n := (kp.2 5 (by omega)).2.trans l5
  have k84 : S1.1 84 = 6 := (kp.2 84 (by omega)).1.trans (K84 hS)
  have i1 : ((i : Int) + 1).toNat = i + 1 := by omega
  have i2 : ((i : Int) + 2).toNat = i + 2 := by omega
  have i3 : ((i : Int) + 3).toNat = i + 3 := by omega
  have i4 : ((i : Int) + 4).toNat = i + 4 := by omega
  have i5 : ((i : Int) + 5).toNat = i + 5 := by omega
  have i6 : ((i : Int) + 6).toNat = i + 6 := by omega
  refine ⟨M2, S2, ?_, hI2, hS2, by omega, by omega⟩
  rw [g179_18]
  simp (disch := omega) only [g179_19, g179_19n, g179_20, g179_21, g179_23, g179_24t, g179_24f, g179_27, g179_27n, g179_28, g179_29, g179_30, g179_32, g179_33c13, g179_665, g179_665n, g179_666, g179_666n, g179_667, g179_668, g179_669, g179_670, g179_671, g179_674, g179_674n, g179_675, g179_675n, g179_676, g179_677, g179_678, g179_679, g179_680, g179_683t, g179_683f, g179_686, g179_687, g179_1514, g179_1517, cont_1, cont_0, w32_o, m5, m51, l5, hc, Int.toNat_natCast, i1, i2, i3, i4, i5, i6, h1, h2]
theorem lw_14 {n i : Nat} {sc : Nat → Int} {M : Mem} {S : Sh} (hsc : ∀ j, -2147483648 ≤ sc j ∧ sc j < 2147483648) (hS : Std n S) (hI : Inv sc M) (hn : n ≤ 3584) (hi : i + 7 ≤ n) (hc : and32 (sc i) 63 = 14) : ∃ M2 S2, go 71 179 18 [some (aR 5), some (aR 6), some (aR 84), some (aI (i : Int))] [] M S = go 71 179 18 [some (aR 5), some (aR 6), some (aR 84), some (aI ((i : Int) + 7))] [] M2 S2 ∧ Inv sc M2 ∧ Std n S2 ∧ S2.2.2.2.1 ≤ S.2.2.2.1 + 1 ∧ S2.2.2.2.2 ≤ S.2.2.2.2 + 8 := by
  obtain ⟨v, M1, S1, h1, v', M2, S2, h2, e, hI2, hS2, hN, hU⟩ := p_flight (x1 := sc (i + 1)) hS hI
  obtain ⟨kp, _, _⟩ := res_keep h1
  obtain ⟨x, hx⟩ := res_I (by decide +kernel) h1
  cases hx
  subst e
  have N110 := hS.2.2.2.2
  have k5 := K5 hS
  have k6 := K6 hS
  have l5 : S.2.1 5 = n := hS.2.2.1
  have m5 : M 5 = sc := hI.2.2.2.2.2.2.2.1.1
  have m51 : M1 5 = sc := (kp.1 k5 (by omega)).trans m5
  have k51 : S1.1 5 = 7 := (kp.2 5 (by omega)).1.trans k5
  have l51 : S1.2.1 5 = n := (kp.2 5 (by omega)).2.trans l5
  have k84 : S1.1 84 = 6 := (kp.2 84 (by omega)).1.trans (K84 hS)
  have i1 : ((i : Int) + 1).toNat = i + 1 := by omega
  have i2 : ((i : Int) + 2).toNat = i + 2 := by omega
  have i3 : ((i : Int) + 3).toNat = i + 3 := by omega
  have i4 : ((i : Int) + 4).toNat = i + 4 := by omega
  have i5 : ((i : Int) + 5).toNat = i + 5 := by omega
  have i6 : ((i : Int) + 6).toNat = i + 6 := by omega
  refine ⟨M2, S2, ?_, hI2, hS2, by omega, by omega⟩
  rw [g179_18]
  simp (disch := omega) only [g179_19, g179_19n, g179_20, g179_21, g179_23, g179_24t, g179_24f, g179_27, g179_27n, g179_28, g179_29, g179_30, g179_32, g179_33c14, g179_688, g179_688n, g179_689, g179_689n, g179_690, g179_691, g179_692, g179_693, g179_694, g179_697, g179_697n, g179_698, g179_698n, g179_699, g179_700, g179_701, g179_702, g179_703, g179_706t, g179_706f, g179_709, g179_710, g179_1514, g179_1517, cont_1, cont_0, w32_o, m5, m51, l5, hc, Int.toNat_natCast, i1, i2, i3, i4, i5, i6, h1, h2]
theorem lw_15 {n i : Nat} {sc : Nat → Int} {M : Mem} {S : Sh} (hsc : ∀ j, -2147483648 ≤ sc j ∧ sc j < 2147483648) (hS : Std n S) (hI : Inv sc M) (hn : n ≤ 3584) (hi : i + 7 ≤ n) (hc : and32 (sc i) 63 = 15) : ∃ M2 S2, go 71 179 18 [some (aR 5), some (aR 6), some (aR 84), some (aI (i : Int))] [] M S = go 71 179 18 [some (aR 5), some (aR 6), some (aR 84), some (aI ((i : Int) + 7))] [] M2 S2 ∧ Inv sc M2 ∧ Std n S2 ∧ S2.2.2.2.1 ≤ S.2.2.2.1 + 1 ∧ S2.2.2.2.2 ≤ S.2.2.2.2 + 8 := by
  obtain ⟨v, M1, S1, h1, v', M2, S2, h2, e, hI2, hS2, hN, hU⟩ := p_seen (x1 := sc (i + 1)) hS hI
  obtain ⟨kp, _, _⟩ := res_keep h1
  obtain ⟨x, hx⟩ := res_I (by decide +kernel) h1
  cases hx
  subst e
  have N110 := hS.2.2.2.2
  have k5 := K5 hS
  have k6 := K6 hS
  have l5 : S.2.1 5 = n := hS.2.2.1
  have m5 : M 5 = sc := hI.2.2.2.2.2.2.2.1.1
  have m51 : M1 5 = sc := (kp.1 k5 (by omega)).trans m5
  have k51 : S1.1 5 = 7 := (kp.2 5 (by omega)).1.trans k5
  have l51 : S1.2.1 5 = n := (kp.2 5 (by omega)).2.trans l5
  have k84 : S1.1 84 = 6 := (kp.2 84 (by omega)).1.trans (K84 hS)
  have i1 : ((i : Int) + 1).toNat = i + 1 := by omega
  have i2 : ((i : Int) + 2).toNat = i + 2 := by omega
  have i3 : ((i : Int) + 3).toNat = i + 3 := by omega
  have i4 : ((i : Int) + 4).toNat = i + 4 := by omega
  have i5 : ((i : Int) + 5).toNat = i + 5 := by omega
  have i6 : ((i : Int) + 6).toNat = i + 6 := by omega
  refine ⟨M2, S2, ?_, hI2, hS2, by omega, by omega⟩
  rw [g179_18]
  simp (disch := omega) only [g179_19, g179_19n, g179_20, g179_21, g179_23, g179_24t, g179_24f, g179_27, g179_27n, g179_28, g179_29, g179_30, g179_32, g179_33c15, g179_711, g179_711n, g179_712, g179_712n, g179_713, g179_714, g179_715, g179_716, g179_717, g179_720, g179_720n, g179_721, g179_721n, g179_722, g179_723, g179_724, g179_725, g179_726, g179_729t, g179_729f, g179_732, g179_733, g179_1514, g179_1517, cont_1, cont_0, w32_o, m5, m51, l5, hc, Int.toNat_natCast, i1, i2, i3, i4, i5, i6, h1, h2]
theorem lw_16 {n i : Nat} {sc : Nat → Int} {M : Mem} {S : Sh} (hsc : ∀ j, -2147483648 ≤ sc j ∧ sc j < 2147483648) (hS : Std n S) (hI : Inv sc M) (hn : n ≤ 3584) (hi : i + 7 ≤ n) (hc : and32 (sc i) 63 = 16) : ∃ M2 S2, go 71 179 18 [some (aR 5), some (aR 6), some (aR 84), some (aI (i : Int))] [] M S = go 71 179 18 [some (aR 5), some (aR 6), some (aR 84), some (aI ((i : Int) + 7))] [] M2 S2 ∧ Inv sc M2 ∧ Std n S2 ∧ S2.2.2.2.1 ≤ S.2.2.2.1 + 1 ∧ S2.2.2.2.2 ≤ S.2.2.2.2 + 8 := by
  obtain ⟨v, M1, S1, h1, v', M2, S2, h2, e, hI2, hS2, hN, hU⟩ := p_gap (x1 := sc (i + 1)) hS hI
  obtain ⟨kp, _, _⟩ := res_keep h1
  obtain ⟨x, hx⟩ := res_I (by decide +kernel) h1
  cases hx
  subst e
  have N110 := hS.2.2.2.2
  have k5 := K5 hS
  have k6 := K6 hS
  have l5 : S.2.1 5 = n := hS.2.2.1
  have m5 : M 5 = sc := hI.2.2.2.2.2.2.2.1.1
  have m51 : M1 5 = sc := (kp.1 k5 (by omega)).trans m5
  have k51 : S1.1 5 = 7 := (kp.2 5 (by omega)).1.trans k5
  have l51 : S1.2.1 5 = n := (kp.2 5 (by omega)).2.trans l5
  have k84 : S1.1 84 = 6 := (kp.2 84 (by omega)).1.trans (K84 hS)
  have i1 : ((i : Int) + 1).toNat = i + 1 := by omega
  have i2 : ((i : Int) + 2).toNat = i + 2 := by omega
  have i3 : ((i : Int) + 3).toNat = i + 3 := by omega
  have i4 : ((i : Int) + 4).toNat = i + 4 := by omega
  have i5 : ((i : Int) + 5).toNat = i + 5 := by omega
  have i6 : ((i : Int) + 6).toNat = i + 6 := by omega
  refine ⟨M2, S2, ?_, hI2, hS2, by omega, by omega⟩
  rw [g179_18]
  simp (disch := omega) only [g179_19, g179_19n, g179_20, g179_21, g179_23, g179_24t, g179_24f, g179_27, g179_27n, g179_28, g179_29, g179_30, g179_32, g179_33c16, g179_734, g179_734n, g179_735, g179_735n, g179_736, g179_737, g179_738, g179_739, g179_740, g179_743, g179_743n, g179_744, g179_744n, g179_745, g179_746, g179_747, g179_748, g179_749, g179_752t, g179_752f, g179_755, g179_756, g179_1514, g179_1517, cont_1, cont_0, w32_o, m5, m51, l5, hc, Int.toNat_natCast, i1, i2, i3, i4, i5, i6, h1, h2]
theorem lw_17 {n i : Nat} {sc : Nat → Int} {M : Mem} {S : Sh} (hsc : ∀ j, -2147483648 ≤ sc j ∧ sc j < 2147483648) (hS : Std n S) (hI : Inv sc M) (hn : n ≤ 3584) (hi : i + 7 ≤ n) (hc : and32 (sc i) 63 = 17) : ∃ M2 S2, go 71 179 18 [some (aR 5), some (aR 6), some (aR 84), some (aI (i : Int))] [] M S = go 71 179 18 [some (aR 5), some (aR 6), some (aR 84), some (aI ((i : Int) + 7))] [] M2 S2 ∧ Inv sc M2 ∧ Std n S2 ∧ S2.2.2.2.1 ≤ S.2.2.2.1 + 1 ∧ S2.2.2.2.2 ≤ S.2.2.2.2 + 8 := by
  obtain ⟨v, M1, S1, h1, v', M2, S2, h2, e, hI2, hS2, hN, hU⟩ := p_spare (x1 := sc (i + 1)) hS hI
  obtain ⟨kp, _, _⟩ := res_keep h1
  obtain ⟨x, hx⟩ := res_I (by decide +kernel) h1
  cases hx
  subst e
  have N110 := hS.2.2.2.2
  have k5 := K5 hS
  have k6 := K6 hS
  have l5 : S.2.1 5 = n := hS.2.2.1
  have m5 : M 5 = sc := hI.2.2.2.2.2.2.2.1.1
  have m51 : M1 5 = sc := (kp.1 k5 (by omega)).trans m5
  have k51 : S1.1 5 = 7 := (kp.2 5 (by omega)).1.trans k5
  have l51 : S1.2.1 5 = n := (kp.2 5 (by omega)).2.trans l5
  have k84 : S1.1 84 = 6 := (kp.2 84 (by omega)).1.trans (K84 hS)
  have i1 : ((i : Int) + 1).toNat = i + 1 := by omega
  have i2 : ((i : Int) + 2).toNat = i + 2 := by omega
  have i3 : ((i : Int) + 3).toNat = i + 3 := by omega
  have i4 : ((i : Int) + 4).toNat = i + 4 := by omega
  have i5 : ((i : Int) + 5).toNat = i + 5 := by omega
  have i6 : ((i : Int) + 6).toNat = i + 6 := by omega
  refine ⟨M2, S2, ?_, hI2, hS2, by omega, by omega⟩
  rw [g179_18]
  simp (disch := omega) only [g179_19, g179_19n, g179_20, g179_21, g179_23, g179_24t, g179_24f, g179_27, g179_27n, g179_28, g179_29, g179_30, g179_32, g179_33c17, g179_757, g179_757n, g179_758, g179_758n, g179_759, g179_760, g179_761, g179_762, g179_763, g179_766, g179_766n, g179_767, g179_767n, g179_768, g179_769, g179_770, g179_771, g179_772, g179_775t, g179_775f, g179_778, g179_779, g179_1514, g179_1517, cont_1, cont_0, w32_o, m5, m51, l5, hc, Int.toNat_natCast, i1, i2, i3, i4, i5, i6, h1, h2]
theorem lw_18 {n i : Nat} {sc : Nat → Int} {M : Mem} {S : Sh} (hsc : ∀ j, -2147483648 ≤ sc j ∧ sc j < 2147483648) (hS : Std n S) (hI : Inv sc M) (hn : n ≤ 3584) (hi : i + 7 ≤ n) (hc : and32 (sc i) 63 = 18) : ∃ M2 S2, go 71 179 18 [some (aR 5), some (aR 6), some (aR 84), some (aI (i : Int))] [] M S = go 71 179 18 [some (aR 5), some (aR 6), some (aR 84), some (aI ((i : Int) + 7))] [] M2 S2 ∧ Inv sc M2 ∧ Std n S2 ∧ S2.2.2.2.1 ≤ S.2.2.2.1 + 1 ∧ S2.2.2.2.2 ≤ S.2.2.2.2 + 8 := by
  obtain ⟨v, M1, S1, h1, v', M2, S2, h2, e, hI2, hS2, hN, hU⟩ := p_again (x1 := sc (i + 1)) hS hI
  obtain ⟨kp, _, _⟩ := res_keep h1
  obtain ⟨x, hx⟩ := res_I (by decide +kernel) h1
  cases hx
  subst e
  have N110 := hS.2.2.2.2
  have k5 := K5 hS
  have k6 := K6 hS
  have l5 : S.2.1 5 = n := hS.2.2.1
  have m5 : M 5 = sc := hI.2.2.2.2.2.2.2.1.1
  have m51 : M1 5 = sc := (kp.1 k5 (by omega)).trans m5
  have k51 : S1.1 5 = 7 := (kp.2 5 (by omega)).1.trans k5
  have l51 : S1.2.1 5 = n := (kp.2 5 (by omega)).2.trans l5
  have k84 : S1.1 84 = 6 := (kp.2 84 (by omega)).1.trans (K84 hS)
  have i1 : ((i : Int) + 1).toNat = i + 1 := by omega
  have i2 : ((i : Int) + 2).toNat = i + 2 := by omega
  have i3 : ((i : Int) + 3).toNat = i + 3 := by omega
  have i4 : ((i : Int) + 4).toNat = i + 4 := by omega
  have i5 : ((i : Int) + 5).toNat = i + 5 := by omega
  have i6 : ((i : Int) + 6).toNat = i + 6 := by omega
  refine ⟨M2, S2, ?_, hI2, hS2, by omega, by omega⟩
  rw [g179_18]
  simp (disch := omega) only [g179_19, g179_19n, g179_20, g179_21, g179_23, g179_24t, g179_24f, g179_27, g179_27n, g179_28, g179_29, g179_30, g179_32, g179_33c18, g179_780, g179_780n, g179_781, g179_781n, g179_782, g179_783, g179_784, g179_785, g179_786, g179_789, g179_789n, g179_790, g179_790n, g179_791, g179_792, g179_793, g179_794, g179_795, g179_798t, g179_798f, g179_801, g179_802, g179_1514, g179_1517, cont_1, cont_0, w32_o, m5, m51, l5, hc, Int.toNat_natCast, i1, i2, i3, i4, i5, i6, h1, h2]
theorem lw_19 {n i : Nat} {sc : Nat → Int} {M : Mem} {S : Sh} (hsc : ∀ j, -2147483648 ≤ sc j ∧ sc j < 2147483648) (hS : Std n S) (hI : Inv sc M) (hn : n ≤ 3584) (hi : i + 7 ≤ n) (hc : and32 (sc i) 63 = 19) : ∃ M2 S2, go 71 179 18 [some (aR 5), some (aR 6), some (aR 84), some (aI (i : Int))] [] M S = go 71 179 18 [some (aR 5), some (aR 6), some (aR 84), some (aI ((i : Int) + 7))] [] M2 S2 ∧ Inv sc M2 ∧ Std n S2 ∧ S2.2.2.2.1 ≤ S.2.2.2.1 + 1 ∧ S2.2.2.2.2 ≤ S.2.2.2.2 + 8 := by
  obtain ⟨v, M1, S1, h1, v', M2, S2, h2, e, hI2, hS2, hN, hU⟩ := p_apart (x1 := sc (i + 1)) (x2 := sc (i + 2)) (x3 := sc (i + 3)) (x4 := sc (i + 4)) hS hI
  obtain ⟨kp, _, _⟩ := res_keep h1
  obtain ⟨x, hx⟩ := res_I (by decide +kernel) h1
  cases hx
  subst e
  have N110 := hS.2.2.2.2
  have k5 := K5 hS
  have k6 := K6 hS
  have l5 : S.2.1 5 = n := hS.2.2.1
  have m5 : M 5 = sc := hI.2.2.2.2.2.2.2.1.1
  have m51 : M1 5 = sc := (kp.1 k5 (by omega)).trans m5
  have k51 : S1.1 5 = 7 := (kp.2 5 (by omega)).1.trans k5
  have l51 : S1.2.1 5 = n := (kp.2 5 (by omega)).2.trans l5
  have k84 : S1.1 84 = 6 := (kp.2 84 (by omega)).1.trans (K84 hS)
  have i1 : ((i : Int) + 1).toNat = i + 1 := by omega
  have i2 : ((i : Int) + 2).toNat = i + 2 := by omega
  have i3 : ((i : Int) + 3).toNat = i + 3 := by omega
  have i4 : ((i : Int) + 4).toNat = i + 4 := by omega
  have i5 : ((i : Int) + 5).toNat = i + 5 := by omega
  have i6 : ((i : Int) + 6).toNat = i + 6 := by omega
  refine ⟨M2, S2, ?_, hI2, hS2, by omega, by omega⟩
  rw [g179_18]
  simp (disch := omega) only [g179_19, g179_19n, g179_20, g179_21, g179_23, g179_24t, g179_24f, g179_27, g179_27n, g179_28, g179_29, g179_30, g179_32, g179_33c19, g179_803, g179_803n, g179_804, g179_804n, g179_805, g179_806, g179_807, g179_808, g179_809, g179_809n, g179_810, g179_811, g179_812, g179_813, g179_814, g179_814n, g179_815, g179_816, g179_817, g179_818, g179_819, g179_819n, g179_820, g179_821, g179_822, g179_823, g179_824, g179_827, g179_827n, g179_828, g179_828n, g179_829, g179_830, g179_831, g179_832, g179_833, g179_833n, g179_834, g179_835, g179_836, g179_837, g179_838, g179_838n, g179_839, g179_840, g179_841, g179_842, g179_843, g179_843n, g179_844, g179_845, g179_846, g179_847, g179_848, g179_851t, g179_851f, g179_854, g179_855, g179_1514, g179_1517, cont_1, cont_0, w32_o, m5, m51, l5, hc, Int.toNat_natCast, i1, i2, i3, i4, i5, i6, h1, h2]
theorem lw_20 {n i : Nat} {sc : Nat → Int} {M : Mem} {S : Sh} (hsc : ∀ j, -2147483648 ≤ sc j ∧ sc j < 2147483648) (hS : Std n S) (hI : Inv sc M) (hn : n ≤ 3584) (hi : i + 7 ≤ n) (hc : and32 (sc i) 63 = 20) : ∃ M2 S2, go 71 179 18 [some (aR 5), some (aR 6), some (aR 84), some (aI (i : Int))] [] M S = go 71 179 18 [some (aR 5), some (aR 6), some (aR 84), some (aI ((i : Int) + 7))] [] M2 S2 ∧ Inv sc M2 ∧ Std n S2 ∧ S2.2.2.2.1 ≤ S.2.2.2.1 + 1 ∧ S2.2.2.2.2 ≤ S.2.2.2.2 + 8 := by
  obtain ⟨v, M1, S1, h1, v', M2, S2, h2, e, hI2, hS2, hN, hU⟩ := p_begin (x1 := sc (i + 1)) (x2 := sc (i + 2)) hS hI
  obtain ⟨kp, _, _⟩ := res_keep h1
  obtain ⟨x, hx⟩ := res_I (by decide +kernel) h1
  cases hx
  subst e
  have N110 := hS.2.2.2.2
  have k5 := K5 hS
  have k6 := K6 hS
  have l5 : S.2.1 5 = n := hS.2.2.1
  have m5 : M 5 = sc := hI.2.2.2.2.2.2.2.1.1
  have m51 : M1 5 = sc := (kp.1 k5 (by omega)).trans m5
  have k51 : S1.1 5 = 7 := (kp.2 5 (by omega)).1.trans k5
  have l51 : S1.2.1 5 = n := (kp.2 5 (by omega)).2.trans l5
  have k84 : S1.1 84 = 6 := (kp.2 84 (by omega)).1.trans (K84 hS)
  have i1 : ((i : Int) + 1).toNat = i + 1 := by omega
  have i2 : ((i : Int) + 2).toNat = i + 2 := by omega
  have i3 : ((i : Int) + 3).toNat = i + 3 := by omega
  have i4 : ((i : Int) + 4).toNat = i + 4 := by omega
  have i5 : ((i : Int) + 5).toNat = i + 5 := by omega
  have i6 : ((i : Int) + 6).toNat = i + 6 := by omega
  refine ⟨M2, S2, ?_, hI2, hS2, by omega, by omega⟩
  rw [g179_18]
  simp (disch := omega) only [g179_19, g179_19n, g179_20, g179_21, g179_23, g179_24t, g179_24f, g179_27, g179_27n, g179_28, g179_29, g179_30, g179_32, g179_33c20, g179_856, g179_856n, g179_857, g179_857n, g179_858, g179_859, g179_860, g179_861, g179_862, g179_862n, g179_863, g179_864, g179_865, g179_866, g179_867, g179_870, g179_870n, g179_871, g179_871n, g179_872, g179_873, g179_874, g179_875, g179_876, g179_876n, g179_877, g179_878, g179_879, g179_880, g179_881, g179_884t, g179_884f, g179_887, g179_888, g179_1514, g179_1517, cont_1, cont_0, w32_o, m5, m51, l5, hc, Int.toNat_natCast, i1, i2, i3, i4, i5, i6, h1, h2]
theorem lw_21 {n i : Nat} {sc : Nat → Int} {M : Mem} {S : Sh} (hsc : ∀ j, -2147483648 ≤ sc j ∧ sc j < 2147483648) (hS : Std n S) (hI : Inv sc M) (hn : n ≤ 3584) (hi : i + 7 ≤ n) (hc : and32 (sc i) 63 = 21) : ∃ M2 S2, go 71 179 18 [some (aR 5), some (aR 6), some (aR 84), some (aI (i : Int))] [] M S = go 71 179 18 [some (aR 5), some (aR 6), some (aR 84), some (aI ((i : Int) + 7))] [] M2 S2 ∧ Inv sc M2 ∧ Std n S2 ∧ S2.2.2.2.1 ≤ S.2.2.2.1 + 1 ∧ S2.2.2.2.2 ≤ S.2.2.2.2 + 8 := by
  obtain ⟨v, M1, S1, h1, v', M2, S2, h2, e, hI2, hS2, hN, hU⟩ := p_seldom (x1 := sc (i + 1)) hS hI
  obtain ⟨kp, _, _⟩ := res_keep h1
  obtain ⟨x, hx⟩ := res_I (by decide +kernel) h1
  cases hx
  subst e
  have N110 := hS.2.2.2.2
  have k5 := K5 hS
  have k6 := K6 hS
  have l5 : S.2.1 5 = n := hS.2.2.1
  have m5 : M 5 = sc := hI.2.2.2.2.2.2.2.1.1
  have m51 : M1 5 = sc := (kp.1 k5 (by omega)).trans m5
  have k51 : S1.1 5 = 7 := (kp.2 5 (by omega)).1.trans k5
  have l51 : S1.2.1 5 = n := (kp.2 5 (by omega)).2.trans l5
  have k84 : S1.1 84 = 6 := (kp.2 84 (by omega)).1.trans (K84 hS)
  have i1 : ((i : Int) + 1).toNat = i + 1 := by omega
  have i2 : ((i : Int) + 2).toNat = i + 2 := by omega
  have i3 : ((i : Int) + 3).toNat = i + 3 := by omega
  have i4 : ((i : Int) + 4).toNat = i + 4 := by omega
  have i5 : ((i : Int) + 5).toNat = i + 5 := by omega
  have i6 : ((i : Int) + 6).toNat = i + 6 := by omega
  refine ⟨M2, S2, ?_, hI2, hS2, by omega, by omega⟩
  rw [g179_18]
  simp (disch := omega) only [g179_19, g179_19n, g179_20, g179_21, g179_23, g179_24t, g179_24f, g179_27, g179_27n, g179_28, g179_29, g179_30, g179_32, g179_33c21, g179_889, g179_889n, g179_890, g179_890n, g179_891, g179_892, g179_893, g179_894, g179_895, g179_898, g179_898n, g179_899, g179_899n, g179_900, g179_901, g179_902, g179_903, g179_904, g179_907t, g179_907f, g179_910, g179_911, g179_1514, g179_1517, cont_1, cont_0, w32_o, m5, m51, l5, hc, Int.toNat_natCast, i1, i2, i3, i4, i5, i6, h1, h2]
theorem lw_22 {n i : Nat} {sc : Nat → Int} {M : Mem} {S : Sh} (hsc : ∀ j, -2147483648 ≤ sc j ∧ sc j < 2147483648) (hS : Std n S) (hI : Inv sc M) (hn : n ≤ 3584) (hi : i + 7 ≤ n) (hc : and32 (sc i) 63 = 22) : ∃ M2 S2, go 71 179 18 [some (aR 5), some (aR 6), some (aR 84), some (aI (i : Int))] [] M S = go 71 179 18 [some (aR 5), some (aR 6), some (aR 84), some (aI ((i : Int) + 7))] [] M2 S2 ∧ Inv sc M2 ∧ Std n S2 ∧ S2.2.2.2.1 ≤ S.2.2.2.1 + 1 ∧ S2.2.2.2.2 ≤ S.2.2.2.2 + 8 := by
  obtain ⟨v, M1, S1, h1, v', M2, S2, h2, e, hI2, hS2, hN, hU⟩ := p_who (x1 := sc (i + 1)) hS hI
  obtain ⟨kp, _, _⟩ := res_keep h1
  obtain ⟨x, hx⟩ := res_I (by decide +kernel) h1
  cases hx
  subst e
  have N110 := hS.2.2.2.2
  have k5 := K5 hS
  have k6 := K6 hS
  have l5 : S.2.1 5 = n := hS.2.2.1
  have m5 : M 5 = sc := hI.2.2.2.2.2.2.2.1.1
  have m51 : M1 5 = sc := (kp.1 k5 (by omega)).trans m5
  have k51 : S1.1 5 = 7 := (kp.2 5 (by omega)).1.trans k5
  have l51 : S1.2.1 5 = n := (kp.2 5 (by omega)).2.trans l5
  have k84 : S1.1 84 = 6 := (kp.2 84 (by omega)).1.trans (K84 hS)
  have i1 : ((i : Int) + 1).toNat = i + 1 := by omega
  have i2 : ((i : Int) + 2).toNat = i + 2 := by omega
  have i3 : ((i : Int) + 3).toNat = i + 3 := by omega
  have i4 : ((i : Int) + 4).toNat = i + 4 := by omega
  have i5 : ((i : Int) + 5).toNat = i + 5 := by omega
  have i6 : ((i : Int) + 6).toNat = i + 6 := by omega
  refine ⟨M2, S2, ?_, hI2, hS2, by omega, by omega⟩
  rw [g179_18]
  simp (disch := omega) only [g179_19, g179_19n, g179_20, g179_21, g179_23, g179_24t, g179_24f, g179_27, g179_27n, g179_28, g179_29, g179_30, g179_32, g179_33c22, g179_912, g179_912n, g179_913, g179_913n, g179_914, g179_915, g179_916, g179_917, g179_918, g179_921, g179_921n, g179_922, g179_922n, g179_923, g179_924, g179_925, g179_926, g179_927, g179_930t, g179_930f, g179_933, g179_934, g179_1514, g179_1517, cont_1, cont_0, w32_o, m5, m51, l5, hc, Int.toNat_natCast, i1, i2, i3, i4, i5, i6, h1, h2]
theorem lw_23 {n i : Nat} {sc : Nat → Int} {M : Mem} {S : Sh} (hsc : ∀ j, -2147483648 ≤ sc j ∧ sc j < 2147483648) (hS : Std n S) (hI : Inv sc M) (hn : n ≤ 3584) (hi : i + 7 ≤ n) (hc : and32 (sc i) 63 = 23) : ∃ M2 S2, go 71 179 18 [some (aR 5), some (aR 6), some (aR 84), some (aI (i : Int))] [] M S = go 71 179 18 [some (aR 5), some (aR 6), some (aR 84), some (aI ((i : Int) + 7))] [] M2 S2 ∧ Inv sc M2 ∧ Std n S2 ∧ S2.2.2.2.1 ≤ S.2.2.2.1 + 1 ∧ S2.2.2.2.2 ≤ S.2.2.2.2 + 8 := by
  obtain ⟨v, M1, S1, h1, v', M2, S2, h2, e, hI2, hS2, hN, hU⟩ := p_when (x1 := sc (i + 1)) hS hI
  obtain ⟨kp, _, _⟩ := res_keep h1
  obtain ⟨x, hx⟩ := res_I (by decide +kernel) h1
  cases hx
  subst e
  have N110 := hS.2.2.2.2
  have k5 := K5 hS
  have k6 := K6 hS
  have l5 : S.2.1 5 = n := hS.2.2.1
  have m5 : M 5 = sc := hI.2.2.2.2.2.2.2.1.1
  have m51 : M1 5 = sc := (kp.1 k5 (by omega)).trans m5
  have k51 : S1.1 5 = 7 := (kp.2 5 (by omega)).1.trans k5
  have l51 : S1.2.1 5 = n := (kp.2 5 (by omega)).2.trans l5
  have k84 : S1.1 84 = 6 := (kp.2 84 (by omega)).1.trans (K84 hS)
  have i1 : ((i : Int) + 1).toNat = i + 1 := by omega
  have i2 : ((i : Int) + 2).toNat = i + 2 := by omega
  have i3 : ((i : Int) + 3).toNat = i + 3 := by omega
  have i4 : ((i : Int) + 4).toNat = i + 4 := by omega
  have i5 : ((i : Int) + 5).toNat = i + 5 := by omega
  have i6 : ((i : Int) + 6).toNat = i + 6 := by omega
  refine ⟨M2, S2, ?_, hI2, hS2, by omega, by omega⟩
  rw [g179_18]
  simp (disch := omega) only [g179_19, g179_19n, g179_20, g179_21, g179_23, g179_24t, g179_24f, g179_27, g179_27n, g179_28, g179_29, g179_30, g179_32, g179_33c23, g179_935, g179_935n, g179_936, g179_936n, g179_937, g179_938, g179_939, g179_940, g179_941, g179_944, g179_944n, g179_945, g179_945n, g179_946, g179_947, g179_948, g179_949, g179_950, g179_953t, g179_953f, g179_956, g179_957, g179_1514, g179_1517, cont_1, cont_0, w32_o, m5, m51, l5, hc, Int.toNat_natCast, i1, i2, i3, i4, i5, i6, h1, h2]
theorem lw_24 {n i : Nat} {sc : Nat → Int} {M : Mem} {S : Sh} (hsc : ∀ j, -2147483648 ≤ sc j ∧ sc j < 2147483648) (hS : Std n S) (hI : Inv sc M) (hn : n ≤ 3584) (hi : i + 7 ≤ n) (hc : and32 (sc i) 63 = 24) : ∃ M2 S2, go 71 179 18 [some (aR 5), some (aR 6), some (aR 84), some (aI (i : Int))] [] M S = go 71 179 18 [some (aR 5), some (aR 6), some (aR 84), some (aI ((i : Int) + 7))] [] M2 S2 ∧ Inv sc M2 ∧ Std n S2 ∧ S2.2.2.2.1 ≤ S.2.2.2.1 + 1 ∧ S2.2.2.2.2 ≤ S.2.2.2.2 + 8 := by
  obtain ⟨v, M1, S1, h1, v', M2, S2, h2, e, hI2, hS2, hN, hU⟩ := p_tuft (x1 := sc (i + 1)) hS hI
  obtain ⟨kp, _, _⟩ := res_keep h1
  obtain ⟨x, hx⟩ := res_I (by decide +kernel) h1
  cases hx
  subst e
  have N110 := hS.2.2.2.2
  have k5 := K5 hS
  have k6 := K6 hS
  have l5 : S.2.1 5 = n := hS.2.2.1
  have m5 : M 5 = sc := hI.2.2.2.2.2.2.2.1.1
  have m51 : M1 5 = sc := (kp.1 k5 (by omega)).trans m5
  have k51 : S1.1 5 = 7 := (kp.2 5 (by omega)).1.trans k5
  have l51 : S1.2.1 5 = n := (kp.2 5 (by omega)).2.trans l5
  have k84 : S1.1 84 = 6 := (kp.2 84 (by omega)).1.trans (K84 hS)
  have i1 : ((i : Int) + 1).toNat = i + 1 := by omega
  have i2 : ((i : Int) + 2).toNat = i + 2 := by omega
  have i3 : ((i : Int) + 3).toNat = i + 3 := by omega
  have i4 : ((i : Int) + 4).toNat = i + 4 := by omega
  have i5 : ((i : Int) + 5).toNat = i + 5 := by omega
  have i6 : ((i : Int) + 6).toNat = i + 6 := by omega
  refine ⟨M2, S2, ?_, hI2, hS2, by omega, by omega⟩
  rw [g179_18]
  simp (disch := omega) only [g179_19, g179_19n, g179_20, g179_21, g179_23, g179_24t, g179_24f, g179_27, g179_27n, g179_28, g179_29, g179_30, g179_32, g179_33c24, g179_958, g179_958n, g179_959, g179_959n, g179_960, g179_961, g179_962, g179_963, g179_964, g179_967, g179_967n, g179_968, g179_968n, g179_969, g179_970, g179_971, g179_972, g179_973, g179_976t, g179_976f, g179_979, g179_980, g179_1514, g179_1517, cont_1, cont_0, w32_o, m5, m51, l5, hc, Int.toNat_natCast, i1, i2, i3, i4, i5, i6, h1, h2]
theorem lw_25 {n i : Nat} {sc : Nat → Int} {M : Mem} {S : Sh} (hsc : ∀ j, -2147483648 ≤ sc j ∧ sc j < 2147483648) (hS : Std n S) (hI : Inv sc M) (hn : n ≤ 3584) (hi : i + 7 ≤ n) (hc : and32 (sc i) 63 = 25) : ∃ M2 S2, go 71 179 18 [some (aR 5), some (aR 6), some (aR 84), some (aI (i : Int))] [] M S = go 71 179 18 [some (aR 5), some (aR 6), some (aR 84), some (aI ((i : Int) + 7))] [] M2 S2 ∧ Inv sc M2 ∧ Std n S2 ∧ S2.2.2.2.1 ≤ S.2.2.2.1 + 1 ∧ S2.2.2.2.2 ≤ S.2.2.2.2 + 8 := by
  obtain ⟨v, M1, S1, h1, v', M2, S2, h2, e, hI2, hS2, hN, hU⟩ := p_judge (x1 := sc (i + 1)) (x2 := sc (i + 2)) hS hI
  obtain ⟨kp, _, _⟩ := res_keep h1
  obtain ⟨x, hx⟩ := res_I (by decide +kernel) h1
  cases hx
  subst e
  have N110 := hS.2.2.2.2
  have k5 := K5 hS
  have k6 := K6 hS
  have l5 : S.2.1 5 = n := hS.2.2.1
  have m5 : M 5 = sc := hI.2.2.2.2.2.2.2.1.1
  have m51 : M1 5 = sc := (kp.1 k5 (by omega)).trans m5
  have k51 : S1.1 5 = 7 := (kp.2 5 (by omega)).1.trans k5
  have l51 : S1.2.1 5 = n := (kp.2 5 (by omega)).2.trans l5
  have k84 : S1.1 84 = 6 := (kp.2 84 (by omega)).1.trans (K84 hS)
  have i1 : ((i : Int) + 1).toNat = i + 1 := by omega
  have i2 : ((i : Int) + 2).toNat = i + 2 := by omega
  have i3 : ((i : Int) + 3).toNat = i + 3 := by omega
  have i4 : ((i : Int) + 4).toNat = i + 4 := by omega
  have i5 : ((i : Int) + 5).toNat = i + 5 := by omega
  have i6 : ((i : Int) + 6).toNat = i + 6 := by omega
  refine ⟨M2, S2, ?_, hI2, hS2, by omega, by omega⟩
  rw [g179_18]
  simp (disch := omega) only [g179_19, g179_19n, g179_20, g179_21, g179_23, g179_24t, g179_24f, g179_27, g179_27n, g179_28, g179_29, g179_30, g179_32, g179_33c25, g179_981, g179_981n, g179_982, g179_982n, g179_983, g179_984, g179_985, g179_986, g179_987, g179_987n, g179_988, g179_989, g179_990, g179_991, g179_992, g179_995, g179_995n, g179_996, g179_996n, g179_997, g179_998, g179_999, g179_1000, g179_1001, g179_1001n, g179_1002, g179_1003, g179_1004, g179_1005, g179_1006, g179_1009t, g179_1009f, g179_1012, g179_1013, g179_1514, g179_1517, cont_1, cont_0, w32_o, m5, m51, l5, hc, Int.toNat_natCast, i1, i2, i3, i4, i5, i6, h1, h2]
theorem lw_26 {n i : Nat} {sc : Nat → Int} {M : Mem} {S : Sh} (hsc : ∀ j, -2147483648 ≤ sc j ∧ sc j < 2147483648) (hS : Std n S) (hI : Inv sc M) (hn : n ≤ 3584) (hi : i + 7 ≤ n) (hc : and32 (sc i) 63 = 26) : ∃ M2 S2, go 71 179 18 [some (aR 5), some (aR 6), some (aR 84), some (aI (i : Int))] [] M S = go 71 179 18 [some (aR 5), some (aR 6), some (aR 84), some (aI ((i : Int) + 7))] [] M2 S2 ∧ Inv sc M2 ∧ Std n S2 ∧ S2.2.2.2.1 ≤ S.2.2.2.1 + 1 ∧ S2.2.2.2.2 ≤ S.2.2.2.2 + 8 := by
  obtain ⟨v, M1, S1, h1, v', M2, S2, h2, e, hI2, hS2, hN, hU⟩ := p_winds (x1 := sc (i + 1)) (x2 := sc (i + 2)) hS hI
  obtain ⟨kp, _, _⟩ := res_keep h1
  obtain ⟨x, hx⟩ := res_I (by decide +kernel) h1
  cases hx
  subst e
  have N110 := hS.2.2.2.2
  have k5 := K5 hS
  have k6 := K6 hS
  have l5 : S.2.1 5 = n := hS.2.2.1
  have m5 : M 5 = sc := hI.2.2.2.2.2.2.2.1.1
  have m51 : M1 5 = sc := (kp.1 k5 (by omega)).trans m5
  have k51 : S1.1 5 = 7 := (kp.2 5 (by omega)).1.trans k5
  have l51 : S1.2.1 5 = n := (kp.2 5 (by omega)).2.trans l5
  have k84 : S1.1 84 = 6 := (kp.2 84 (by omega)).1.trans (K84 hS)
  have i1 : ((i : Int) + 1).toNat = i + 1 := by omega
  have i2 : ((i : Int) + 2).toNat = i + 2 := by omega
  have i3 : ((i : Int) + 3).toNat = i + 3 := by omega
  have i4 : ((i : Int) + 4).toNat = i + 4 := by omega
  have i5 : ((i : Int) + 5).toNat = i + 5 := by omega
  have i6 : ((i : Int) + 6).toNat = i + 6 := by omega
  refine ⟨M2, S2, ?_, hI2, hS2, by omega, by omega⟩
  rw [g179_18]
  simp (disch := omega) only [g179_19, g179_19n, g179_20, g179_21, g179_23, g179_24t, g179_24f, g179_27, g179_27n, g179_28, g179_29, g179_30, g179_32, g179_33c26, g179_1014, g179_1014n, g179_1015, g179_1015n, g179_1016, g179_1017, g179_1018, g179_1019, g179_1020, g179_1020n, g179_1021, g179_1022, g179_1023, g179_1024, g179_1025, g179_1028, g179_1028n, g179_1029, g179_1029n, g179_1030, g179_1031, g179_1032, g179_1033, g179_1034, g179_1034n, g179_1035, g179_1036, g179_1037, g179_1038, g179_1039, g179_1042t, g179_1042f, g179_1045, g179_1046, g179_1514, g179_1517, cont_1, cont_0, w32_o, m5, m51, l5, hc, Int.toNat_natCast, i1, i2, i3, i4, i5, i6, h1, h2]
theorem lw_27 {n i : Nat} {sc : Nat → Int} {M : Mem} {S : Sh} (hsc : ∀ j, -2147483648 ≤ sc j ∧ sc j < 2147483648) (hS : Std n S) (hI : Inv sc M) (hn : n ≤ 3584) (hi : i + 7 ≤ n) (hc : and32 (sc i) 63 = 27) : ∃ M2 S2, go 71 179 18 [some (aR 5), some (aR 6), some (aR 84), some (aI (i : Int))] [] M S = go 71 179 18 [some (aR 5), some (aR 6), some (aR 84), some (aI ((i : Int) + 7))] [] M2 S2 ∧ Inv sc M2 ∧ Std n S2 ∧ S2.2.2.2.1 ≤ S.2.2.2.1 + 1 ∧ S2.2.2.2.2 ≤ S.2.2.2.2 + 8 := by
  obtain ⟨v, M1, S1, h1, v', M2, S2, h2, e, hI2, hS2, hN, hU⟩ := p_kinds (x1 := sc (i + 1)) (x2 := sc (i + 2)) (x3 := sc (i + 3)) hS hI
  obtain ⟨kp, _, _⟩ := res_keep h1
  obtain ⟨x, hx⟩ := res_I (by decide +kernel) h1
  cases hx
  subst e
  have N110 := hS.2.2.2.2
  have k5 := K5 hS
  have k6 := K6 hS
  have l5 : S.2.1 5 = n := hS.2.2.1
  have m5 : M 5 = sc := hI.2.2.2.2.2.2.2.1.1
  have m51 : M1 5 = sc := (kp.1 k5 (by omega)).trans m5
  have k51 : S1.1 5 = 7 := (kp.2 5 (by omega)).1.trans k5
  have l51 : S1.2.1 5 = n := (kp.2 5 (by omega)).2.trans l5
  have k84 : S1.1 84 = 6 := (kp.2 84 (by omega)).1.trans (K84 hS)
  have i1 : ((i : Int) + 1).toNat = i + 1 := by omega
  have i2 : ((i : Int) + 2).toNat = i + 2 := by omega
  have i3 : ((i : Int) + 3).toNat = i + 3 := by omega
  have i4 : ((i : Int) + 4).toNat = i + 4 := by omega
  have i5 : ((i : Int) + 5).toNat = i + 5 := by omega
  have i6 : ((i : Int) + 6).toNat = i + 6 := by omega
  refine ⟨M2, S2, ?_, hI2, hS2, by omega, by omega⟩
  rw [g179_18]
  simp (disch := omega) only [g179_19, g179_19n, g179_20, g179_21, g179_23, g179_24t, g179_24f, g179_27, g179_27n, g179_28, g179_29, g179_30, g179_32, g179_33c27, g179_1047, g179_1047n, g179_1048, g179_1048n, g179_1049, g179_1050, g179_1051, g179_1052, g179_1053, g179_1053n, g179_1054, g179_1055, g179_1056, g179_1057, g179_1058, g179_1058n, g179_1059, g179_1060, g179_1061, g179_1062, g179_1063, g179_1066, g179_1066n, g179_1067, g179_1067n, g179_1068, g179_1069, g179_1070, g179_1071, g179_1072, g179_1072n, g179_1073, g179_1074, g179_1075, g179_1076, g179_1077, g179_1077n, g179_1078, g179_1079, g179_1080, g179_1081, g179_1082, g179_1085t, g179_1085f, g179_1088, g179_1089, g179_1514, g179_1517, cont_1, cont_0, w32_o, m5, m51, l5, hc, Int.toNat_natCast, i1, i2, i3, i4, i5, i6, h1, h2]
theorem lw_28 {n i : Nat} {sc : Nat → Int} {M : Mem} {S : Sh} (hsc : ∀ j, -2147483648 ≤ sc j ∧ sc j < 2147483648) (hS : Std n S) (hI : Inv sc M) (hn : n ≤ 3584) (hi : i + 7 ≤ n) (hc : and32 (sc i) 63 = 28) : ∃ M2 S2, go 71 179 18 [some (aR 5), some (aR 6), some (aR 84), some (aI (i : Int))] [] M S = go 71 179 18 [some (aR 5), some (aR 6), some (aR 84), some (aI ((i : Int) + 7))] [] M2 S2 ∧ Inv sc M2 ∧ Std n S2 ∧ S2.2.2.2.1 ≤ S.2.2.2.1 + 1 ∧ S2.2.2.2.2 ≤ S.2.2.2.2 + 8 := by
  obtain ⟨v, M1, S1, h1, v', M2, S2, h2, e, hI2, hS2, hN, hU⟩ := p_laws (x1 := sc (i + 1)) (x2 := sc (i + 2)) hS hI
  obtain ⟨kp, _, _⟩ := res_keep h1
  obtain ⟨x, hx⟩ := res_I (by decide +kernel) h1
  cases hx
  subst e
  have N110 := hS.2.2.2.2
  have k5 := K5 hS
  have k6 := K6 hS
  have l5 : S.2.1 5 = n := hS.2.2.1
  have m5 : M 5 = sc := hI.2.2.2.2.2.2.2.1.1
  have m51 : M1 5 = sc := (kp.1 k5 (by omega)).trans m5
  have k51 : S1.1 5 = 7 := (kp.2 5 (by omega)).1.trans k5
  have l51 : S1.2.1 5 = n := (kp.2 5 (by omega)).2.trans l5
  have k84 : S1.1 84 = 6 := (kp.2 84 (by omega)).1.trans (K84 hS)
  have i1 : ((i : Int) + 1).toNat = i + 1 := by omega
  have i2 : ((i : Int) + 2).toNat = i + 2 := by omega
  have i3 : ((i : Int) + 3).toNat = i + 3 := by omega
  have i4 : ((i : Int) + 4).toNat = i + 4 := by omega
  have i5 : ((i : Int) + 5).toNat = i + 5 := by omega
  have i6 : ((i : Int) + 6).toNat = i + 6 := by omega
  refine ⟨M2, S2, ?_, hI2, hS2, by omega, by omega⟩
  rw [g179_18]
  simp (disch := omega) only [g179_19, g179_19n, g179_20, g179_21, g179_23, g179_24t, g179_24f, g179_27, g179_27n, g179_28, g179_29, g179_30, g179_32, g179_33c28, g179_1090, g179_1090n, g179_1091, g179_1091n, g179_1092, g179_1093, g179_1094, g179_1095, g179_1096, g179_1096n, g179_1097, g179_1098, g179_1099, g179_1100, g179_1101, g179_1104, g179_1104n, g179_1105, g179_1105n, g179_1106, g179_1107, g179_1108, g179_1109, g179_1110, g179_1110n, g179_1111, g179_1112, g179_1113, g179_1114, g179_1115, g179_1118t, g179_1118f, g179_1121, g179_1122, g179_1514, g179_1517, cont_1, cont_0, w32_o, m5, m51, l5, hc, Int.toNat_natCast, i1, i2, i3, i4, i5, i6, h1, h2]
theorem lw_29 {n i : Nat} {sc : Nat → Int} {M : Mem} {S : Sh} (hsc : ∀ j, -2147483648 ≤ sc j ∧ sc j < 2147483648) (hS : Std n S) (hI : Inv sc M) (hn : n ≤ 3584) (hi : i + 7 ≤ n) (hc : and32 (sc i) 63 = 29) : ∃ M2 S2, go 71 179 18 [some (aR 5), some (aR 6), some (aR 84), some (aI (i : Int))] [] M S = go 71 179 18 [some (aR 5), some (aR 6), some (aR 84), some (aI ((i : Int) + 7))] [] M2 S2 ∧ Inv sc M2 ∧ Std n S2 ∧ S2.2.2.2.1 ≤ S.2.2.2.1 + 1 ∧ S2.2.2.2.2 ≤ S.2.2.2.2 + 8 := by
  obtain ⟨v, M1, S1, h1, v', M2, S2, h2, e, hI2, hS2, hN, hU⟩ := p_film (x1 := sc (i + 1)) (x2 := sc (i + 2)) hS hI
  obtain ⟨kp, _, _⟩ := res_keep h1
  obtain ⟨x, hx⟩ := res_I (by decide +kernel) h1
  cases hx
  subst e
  have N110 := hS.2.2.2.2
  have k5 := K5 hS
  have k6 := K6 hS
  have l5 : S.2.1 5 = n := hS.2.2.1
  have m5 : M 5 = sc := hI.2.2.2.2.2.2.2.1.1
  have m51 : M1 5 = sc := (kp.1 k5 (by omega)).trans m5
  have k51 : S1.1 5 = 7 := (kp.2 5 (by omega)).1.trans k5
  have l51 : S1.2.1 5 = n := (kp.2 5 (by omega)).2.trans l5
  have k84 : S1.1 84 = 6 := (kp.2 84 (by omega)).1.trans (K84 hS)
  have i1 : ((i : Int) + 1).toNat = i + 1 := by omega
  have i2 : ((i : Int) + 2).toNat = i + 2 := by omega
  have i3 : ((i : Int) + 3).toNat = i + 3 := by omega
  have i4 : ((i : Int) + 4).toNat = i + 4 := by omega
  have i5 : ((i : Int) + 5).toNat = i + 5 := by omega
  have i6 : ((i : Int) + 6).toNat = i + 6 := by omega
  refine ⟨M2, S2, ?_, hI2, hS2, by omega, by omega⟩
  rw [g179_18]
  simp (disch := omega) only [g179_19, g179_19n, g179_20, g179_21, g179_23, g179_24t, g179_24f, g179_27, g179_27n, g179_28, g179_29, g179_30, g179_32, g179_33c29, g179_1123, g179_1123n, g179_1124, g179_1124n, g179_1125, g179_1126, g179_1127, g179_1128, g179_1129, g179_1129n, g179_1130, g179_1131, g179_1132, g179_1133, g179_1134, g179_1137, g179_1137n, g179_1138, g179_1138n, g179_1139, g179_1140, g179_1141, g179_1142, g179_1143, g179_1143n, g179_1144, g179_1145, g179_1146, g179_1147, g179_1148, g179_1151t, g179_1151f, g179_1154, g179_1155, g179_1514, g179_1517, cont_1, cont_0, w32_o, m5, m51, l5, hc, Int.toNat_natCast, i1, i2, i3, i4, i5, i6, h1, h2]
theorem lw_30 {n i : Nat} {sc : Nat → Int} {M : Mem} {S : Sh} (hsc : ∀ j, -2147483648 ≤ sc j ∧ sc j < 2147483648) (hS : Std n S) (hI : Inv sc M) (hn : n ≤ 3584) (hi : i + 7 ≤ n) (hc : and32 (sc i) 63 = 30) : ∃ M2 S2, go 71 179 18 [some (aR 5), some (aR 6), some (aR 84), some (aI (i : Int))] [] M S = go 71 179 18 [some (aR 5), some (aR 6), some (aR 84), some (aI ((i : Int) + 7))] [] M2 S2 ∧ Inv sc M2 ∧ Std n S2 ∧ S2.2.2.2.1 ≤ S.2.2.2.1 + 1 ∧ S2.2.2.2.2 ≤ S.2.2.2.2 + 8 := by
  obtain ⟨v, M1, S1, h1, v', M2, S2, h2, e, hI2, hS2, hN, hU⟩ := p_drawn (x1 := sc (i + 1)) (x2 := sc (i + 2)) hS hI
  obtain ⟨kp, _, _⟩ := res_keep h1
  obtain ⟨x, hx⟩ := res_I (by decide +kernel) h1
  cases hx
  subst e
  have N110 := hS.2.2.2.2
  have k5 := K5 hS
  have k6 := K6 hS
  have l5 : S.2.1 5 = n := hS.2.2.1
  have m5 : M 5 = sc := hI.2.2.2.2.2.2.2.1.1
  have m51 : M1 5 = sc := (kp.1 k5 (by omega)).trans m5
  have k51 : S1.1 5 = 7 := (kp.2 5 (by omega)).1.trans k5
  have l51 : S1.2.1 5 = n := (kp.2 5 (by omega)).2.trans l5
  have k84 : S1.1 84 = 6 := (kp.2 84 (by omega)).1.trans (K84 hS)
  have i1 : ((i : Int) + 1).toNat = i + 1 := by omega
  have i2 : ((i : Int) + 2).toNat = i + 2 := by omega
  have i3 : ((i : Int) + 3).toNat = i + 3 := by omega
  have i4 : ((i : Int) + 4).toNat = i + 4 := by omega
  have i5 : ((i : Int) + 5).toNat = i + 5 := by omega
  have i6 : ((i : Int) + 6).toNat = i + 6 := by omega
  refine ⟨M2, S2, ?_, hI2, hS2, by omega, by omega⟩
  rw [g179_18]
  simp (disch := omega) only [g179_19, g179_19n, g179_20, g179_21, g179_23, g179_24t, g179_24f, g179_27, g179_27n, g179_28, g179_29, g179_30, g179_32, g179_33c30, g179_1156, g179_1156n, g179_1157, g179_1157n, g179_1158, g179_1159, g179_1160, g179_1161, g179_1162, g179_1162n, g179_1163, g179_1164, g179_1165, g179_1166, g179_1167, g179_1170, g179_1170n, g179_1171, g179_1171n, g179_1172, g179_1173, g179_1174, g179_1175, g179_1176, g179_1176n, g179_1177, g179_1178, g179_1179, g179_1180, g179_1181, g179_1184t, g179_1184f, g179_1187, g179_1188, g179_1514, g179_1517, cont_1, cont_0, w32_o, m5, m51, l5, hc, Int.toNat_natCast, i1, i2, i3, i4, i5, i6, h1, h2]
theorem lw_31 {n i : Nat} {sc : Nat → Int} {M : Mem} {S : Sh} (hsc : ∀ j, -2147483648 ≤ sc j ∧ sc j < 2147483648) (hS : Std n S) (hI : Inv sc M) (hn : n ≤ 3584) (hi : i + 7 ≤ n) (hc : and32 (sc i) 63 = 31) : ∃ M2 S2, go 71 179 18 [some (aR 5), some (aR 6), some (aR 84), some (aI (i : Int))] [] M S = go 71 179 18 [some (aR 5), some (aR 6), some (aR 84), some (aI ((i : Int) + 7))] [] M2 S2 ∧ Inv sc M2 ∧ Std n S2 ∧ S2.2.2.2.1 ≤ S.2.2.2.1 + 1 ∧ S2.2.2.2.2 ≤ S.2.2.2.2 + 8 := by
  obtain ⟨v, M1, S1, h1, v', M2, S2, h2, e, hI2, hS2, hN, hU⟩ := p_odds (x1 := sc (i + 1)) (x2 := sc (i + 2)) (x3 := sc (i + 3)) (x4 := sc (i + 4)) (x5 := sc (i + 5)) hS hI
  obtain ⟨kp, _, _⟩ := res_keep h1
  obtain ⟨x, hx⟩ := res_L (by decide +kernel) h1
  cases hx
  subst e
  have N110 := hS.2.2.2.2
  have k5 := K5 hS
  have k6 := K6 hS
  have l5 : S.2.1 5 = n := hS.2.2.1
  have m5 : M 5 = sc := hI.2.2.2.2.2.2.2.1.1
  have m51 : M1 5 = sc := (kp.1 k5 (by omega)).trans m5
  have k51 : S1.1 5 = 7 := (kp.2 5 (by omega)).1.trans k5
  have l51 : S1.2.1 5 = n := (kp.2 5 (by omega)).2.trans l5
  have k84 : S1.1 84 = 6 := (kp.2 84 (by omega)).1.trans (K84 hS)
  have i1 : ((i : Int) + 1).toNat = i + 1 := by omega
  have i2 : ((i : Int) + 2).toNat = i + 2 := by omega
  have i3 : ((i : Int) + 3).toNat = i + 3 := by omega
  have i4 : ((i : Int) + 4).toNat = i + 4 := by omega
  have i5 : ((i : Int) + 5).toNat = i + 5 := by omega
  have i6 : ((i : Int) + 6).toNat = i + 6 := by omega
  refine ⟨M2, S2, ?_, hI2, hS2, by omega, by omega⟩
  rw [g179_18]
  simp (disch := omega) only [g179_19, g179_19n, g179_20, g179_21, g179_23, g179_24t, g179_24f, g179_27, g179_27n, g179_28, g179_29, g179_30, g179_32, g179_33c31, g179_1189, g179_1189n, g179_1190, g179_1190n, g179_1191, g179_1192, g179_1193, g179_1194, g179_1195, g179_1195n, g179_1196, g179_1197, g179_1198, g179_1199, g179_1200, g179_1200n, g179_1201, g179_1202, g179_1203, g179_1204, g179_1205, g179_1205n, g179_1206, g179_1207, g179_1208, g179_1209, g179_1210, g179_1210n, g179_1211, g179_1212, g179_1213, g179_1214, g179_1215, g179_1218, g179_1218n, g179_1219, g179_1219n, g179_1220, g179_1221, g179_1222, g179_1223, g179_1224, g179_1224n, g179_1225, g179_1226, g179_1227, g179_1228, g179_1229, g179_1229n, g179_1230, g179_1231, g179_1232, g179_1233, g179_1234, g179_1234n, g179_1235, g179_1236, g179_1237, g179_1238, g179_1239, g179_1239n, g179_1240, g179_1241, g179_1242, g179_1243, g179_1244, g179_1247, g179_1248t, g179_1248f, g179_1251, g179_1252, g179_1514, g179_1517, cont_1, cont_0, w32_o, m5, m51, l5, hc, Int.toNat_natCast, i1, i2, i3, i4, i5, i6, h1, h2]
  rw [if_neg (Int.lt_irrefl x), if_pos trivial]
  simp (disch := omega) only [g179_19, g179_19n, g179_20, g179_21, g179_23, g179_24t, g179_24f, g179_27, g179_27n, g179_28, g179_29, g179_30, g179_32, g179_33c31, g179_1189, g179_1189n, g179_1190, g179_1190n, g179_1191, g179_1192, g179_1193, g179_1194, g179_1195, g179_1195n, g179_1196, g179_1197, g179_1198, g179_1199, g179_1200, g179_1200n, g179_1201, g179_1202, g179_1203, g179_1204, g179_1205, g179_1205n, g179_1206, g179_1207, g179_1208, g179_1209, g179_1210, g179_1210n, g179_1211, g179_1212, g179_1213, g179_1214, g179_1215, g179_1218, g179_1218n, g179_1219, g179_1219n, g179_1220, g179_1221, g179_1222, g179_1223, g179_1224, g179_1224n, g179_1225, g179_1226, g179_1227, g179_1228, g179_1229, g179_1229n, g179_1230, g179_1231, g179_1232, g179_1233, g179_1234, g179_1234n, g179_1235, g179_1236, g179_1237, g179_1238, g179_1239, g179_1239n, g179_1240, g179_1241, g179_1242, g179_1243, g179_1244, g179_1247, g179_1248t, g179_1248f, g179_1251, g179_1252, g179_1514, g179_1517, cont_1, cont_0, w32_o]
theorem lw_32 {n i : Nat} {sc : Nat → Int} {M : Mem} {S : Sh} (hsc : ∀ j, -2147483648 ≤ sc j ∧ sc j < 2147483648) (hS : Std n S) (hI : Inv sc M) (hn : n ≤ 3584) (hi : i + 7 ≤ n) (hc : and32 (sc i) 63 = 32) : ∃ M2 S2, go 71 179 18 [some (aR 5), some (aR 6), some (aR 84), some (aI (i : Int))] [] M S = go 71 179 18 [some (aR 5), some (aR 6), some (aR 84), some (aI ((i : Int) + 7))] [] M2 S2 ∧ Inv sc M2 ∧ Std n S2 ∧ S2.2.2.2.1 ≤ S.2.2.2.1 + 1 ∧ S2.2.2.2.2 ≤ S.2.2.2.2 + 8 := by
  obtain ⟨v, M1, S1, h1, v', M2, S2, h2, e, hI2, hS2, hN, hU⟩ := p_image hS hI
  obtain ⟨kp, _, _⟩ := res_keep h1
  obtain ⟨x, hx⟩ := res_I (by decide +kernel) h1
  cases hx
  subst e
  have N110 := hS.2.2.2.2
  have k5 := K5 hS
  have k6 := K6 hS
  have l5 : S.2.1 5 = n := hS.2.2.1
  have m5 : M 5 = sc := hI.2.2.2.2.2.2.2.1.1
  have m51 : M1 5 = sc := (kp.1 k5 (by omega)).trans m5
  have k51 : S1.1 5 = 7 := (kp.2 5 (by omega)).1.trans k5
  have l51 : S1.2.1 5 = n := (kp.2 5 (by omega)).2.trans l5
  have k84 : S1.1 84 = 6 := (kp.2 84 (by omega)).1.trans (K84 hS)
  have i1 : ((i : Int) + 1).toNat = i + 1 := by omega
  have i2 : ((i : Int) + 2).toNat = i + 2 := by omega
  have i3 : ((i : Int) + 3).toNat = i + 3 := by omega
  have i4 : ((i : Int) + 4).toNat = i + 4 := by omega
  have i5 : ((i : Int) + 5).toNat = i + 5 := by omega
  have i6 : ((i : Int) + 6).toNat = i + 6 := by omega
  refine ⟨M2, S2, ?_, hI2, hS2, by omega, by omega⟩
  rw [g179_18]
  simp (disch := omega) only [g179_19, g179_19n, g179_20, g179_21, g179_23, g179_24t, g179_24f, g179_27, g179_27n, g179_28, g179_29, g179_30, g179_32, g179_33c32, g179_1253, g179_1253n, g179_1254, g179_1257, g179_1257n, g179_1258, g179_1261t, g179_1261f, g179_1264, g179_1265, g179_1514, g179_1517, cont_1, cont_0, w32_o, m5, m51, l5, hc, Int.toNat_natCast, i1, i2, i3, i4, i5, i6, h1, h2]
theorem lw_33 {n i : Nat} {sc : Nat → Int} {M : Mem} {S : Sh} (hsc : ∀ j, -2147483648 ≤ sc j ∧ sc j < 2147483648) (hS : Std n S) (hI : Inv sc M) (hn : n ≤ 3584) (hi : i + 7 ≤ n) (hc : and32 (sc i) 63 = 33) : ∃ M2 S2, go 71 179 18 [some (aR 5), some (aR 6), some (aR 84), some (aI (i : Int))] [] M S = go 71 179 18 [some (aR 5), some (aR 6), some (aR 84), some (aI ((i : Int) + 7))] [] M2 S2 ∧ Inv sc M2 ∧ Std n S2 ∧ S2.2.2.2.1 ≤ S.2.2.2.1 + 1 ∧ S2.2.2.2.2 ≤ S.2.2.2.2 + 8 := by
  obtain ⟨v, M1, S1, h1, v', M2, S2, h2, e, hI2, hS2, hN, hU⟩ := p_back hS hI
  obtain ⟨kp, _, _⟩ := res_keep h1
  obtain ⟨x, hx⟩ := res_I (by decide +kernel) h1
  cases hx
  subst e
  have N110 := hS.2.2.2.2
  have k5 := K5 hS
  have k6 := K6 hS
  have l5 : S.2.1 5 = n := hS.2.2.1
  have m5 : M 5 = sc := hI.2.2.2.2.2.2.2.1.1
  have m51 : M1 5 = sc := (kp.1 k5 (by omega)).trans m5
  have k51 : S1.1 5 = 7 := (kp.2 5 (by omega)).1.trans k5
  have l51 : S1.2.1 5 = n := (kp.2 5 (by omega)).2.trans l5
  have k84 : S1.1 84 = 6 := (kp.2 84 (by omega)).1.trans (K84 hS)
  have i1 : ((i : Int) + 1).toNat = i + 1 := by omega
  have i2 : ((i : Int) + 2).toNat = i + 2 := by omega
  have i3 : ((i : Int) + 3).toNat = i + 3 := by omega
  have i4 : ((i : Int) + 4).toNat = i + 4 := by omega
  have i5 : ((i : Int) + 5).toNat = i + 5 := by omega
  have i6 : ((i : Int) + 6).toNat = i + 6 := by omega
  refine ⟨M2, S2, ?_, hI2, hS2, by omega, by omega⟩
  rw [g179_18]
  simp (disch := omega) only [g179_19, g179_19n, g179_20, g179_21, g179_23, g179_24t, g179_24f, g179_27, g179_27n, g179_28, g179_29, g179_30, g179_32, g179_33c33, g179_1266, g179_1266n, g179_1267, g179_1270, g179_1270n, g179_1271, g179_1274t, g179_1274f, g179_1277, g179_1278, g179_1514, g179_1517, cont_1, cont_0, w32_o, m5, m51, l5, hc, Int.toNat_natCast, i1, i2, i3, i4, i5, i6, h1, h2]
theorem lw_34 {n i : Nat} {sc : Nat → Int} {M : Mem} {S : Sh} (hsc : ∀ j, -2147483648 ≤ sc j ∧ sc j < 2147483648) (hS : Std n S) (hI : Inv sc M) (hn : n ≤ 3584) (hi : i + 7 ≤ n) (hc : and32 (sc i) 63 = 34) : ∃ M2 S2, go 71 179 18 [some (aR 5), some (aR 6), some (aR 84), some (aI (i : Int))] [] M S = go 71 179 18 [some (aR 5), some (aR 6), some (aR 84), some (aI ((i : Int) + 7))] [] M2 S2 ∧ Inv sc M2 ∧ Std n S2 ∧ S2.2.2.2.1 ≤ S.2.2.2.1 + 1 ∧ S2.2.2.2.2 ≤ S.2.2.2.2 + 8 := by
  obtain ⟨v, M1, S1, h1, v', M2, S2, h2, e, hI2, hS2, hN, hU⟩ := p_sheet (x1 := sc (i + 1)) (x2 := sc (i + 2)) (x3 := sc (i + 3)) hS hI
  obtain ⟨kp, _, _⟩ := res_keep h1
  obtain ⟨x, hx⟩ := res_I (by decide +kernel) h1
  cases hx
  subst e
  have N110 := hS.2.2.2.2
  have k5 := K5 hS
  have k6 := K6 hS
  have l5 : S.2.1 5 = n := hS.2.2.1
  have m5 : M 5 = sc := hI.2.2.2.2.2.2.2.1.1
  have m51 : M1 5 = sc := (kp.1 k5 (by omega)).trans m5
  have k51 : S1.1 5 = 7 := (kp.2 5 (by omega)).1.trans k5
  have l51 : S1.2.1 5 = n := (kp.2 5 (by omega)).2.trans l5
  have k84 : S1.1 84 = 6 := (kp.2 84 (by omega)).1.trans (K84 hS)
  have i1 : ((i : Int) + 1).toNat = i + 1 := by omega
  have i2 : ((i : Int) + 2).toNat = i + 2 := by omega
  have i3 : ((i : Int) + 3).toNat = i + 3 := by omega
  have i4 : ((i : Int) + 4).toNat = i + 4 := by omega
  have i5 : ((i : Int) + 5).toNat = i + 5 := by omega
  have i6 : ((i : Int) + 6).toNat = i + 6 := by omega
  refine ⟨M2, S2, ?_, hI2, hS2, by omega, by omega⟩
  rw [g179_18]
  simp (disch := omega) only [g179_19, g179_19n, g179_20, g179_21, g179_23, g179_24t, g179_24f, g179_27, g179_27n, g179_28, g179_29, g179_30, g179_32, g179_33c34, g179_1279, g179_1279n, g179_1280, g179_1280n, g179_1281, g179_1282, g179_1283, g179_1284, g179_1285, g179_1285n, g179_1286, g179_1287, g179_1288, g179_1289, g179_1290, g179_1290n, g179_1291, g179_1292, g179_1293, g179_1294, g179_1295, g179_1298, g179_1298n, g179_1299, g179_1299n, g179_1300, g179_1301, g179_1302, g179_1303, g179_1304, g179_1304n, g179_1305, g179_1306, g179_1307, g179_1308, g179_1309, g179_1309n, g179_1310, g179_1311, g179_1312, g179_1313, g179_1314, g179_1317t, g179_1317f, g179_1320, g179_1321, g179_1514, g179_1517, cont_1, cont_0, w32_o, m5, m51, l5, hc, Int.toNat_natCast, i1, i2, i3, i4, i5, i6, h1, h2]
theorem lw_35 {n i : Nat} {sc : Nat → Int} {M : Mem} {S : Sh} (hsc : ∀ j, -2147483648 ≤ sc j ∧ sc j < 2147483648) (hS : Std n S) (hI : Inv sc M) (hn : n ≤ 3584) (hi : i + 7 ≤ n) (hc : and32 (sc i) 63 = 35) : ∃ M2 S2, go 71 179 18 [some (aR 5), some (aR 6), some (aR 84), some (aI (i : Int))] [] M S = go 71 179 18 [some (aR 5), some (aR 6), some (aR 84), some (aI ((i : Int) + 7))] [] M2 S2 ∧ Inv sc M2 ∧ Std n S2 ∧ S2.2.2.2.1 ≤ S.2.2.2.1 + 1 ∧ S2.2.2.2.2 ≤ S.2.2.2.2 + 8 := by
  obtain ⟨v, M1, S1, h1, v', M2, S2, h2, e, hI2, hS2, hN, hU⟩ := p_cell (x1 := sc (i + 1)) (x2 := sc (i + 2)) (x3 := sc (i + 3)) hS hI
  obtain ⟨kp, _, _⟩ := res_keep h1
  obtain ⟨x, hx⟩ := res_I (by decide +kernel) h1
  cases hx
  subst e
  have N110 := hS.2.2.2.2
  have k5 := K5 hS
  have k6 := K6 hS
  have l5 : S.2.1 5 = n := hS.2.2.1
  have m5 : M 5 = sc := hI.2.2.2.2.2.2.2.1.1
  have m51 : M1 5 = sc := (kp.1 k5 (by omega)).trans m5
  have k51 : S1.1 5 = 7 := (kp.2 5 (by omega)).1.trans k5
  have l51 : S1.2.1 5 = n := (kp.2 5 (by omega)).2.trans l5
  have k84 : S1.1 84 = 6 := (kp.2 84 (by omega)).1.trans (K84 hS)
  have i1 : ((i : Int) + 1).toNat = i + 1 := by omega
  have i2 : ((i : Int) + 2).toNat = i + 2 := by omega
  have i3 : ((i : Int) + 3).toNat = i + 3 := by omega
  have i4 : ((i : Int) + 4).toNat = i + 4 := by omega
  have i5 : ((i : Int) + 5).toNat = i + 5 := by omega
  have i6 : ((i : Int) + 6).toNat = i + 6 := by omega
  refine ⟨M2, S2, ?_, hI2, hS2, by omega, by omega⟩
  rw [g179_18]
  simp (disch := omega) only [g179_19, g179_19n, g179_20, g179_21, g179_23, g179_24t, g179_24f, g179_27, g179_27n, g179_28, g179_29, g179_30, g179_32, g179_33c35, g179_1322, g179_1322n, g179_1323, g179_1323n, g179_1324, g179_1325, g179_1326, g179_1327, g179_1328, g179_1328n, g179_1329, g179_1330, g179_1331, g179_1332, g179_1333, g179_1333n, g179_1334, g179_1335, g179_1336, g179_1337, g179_1338, g179_1341, g179_1341n, g179_1342, g179_1342n, g179_1343, g179_1344, g179_1345, g179_1346, g179_1347, g179_1347n, g179_1348, g179_1349, g179_1350, g179_1351, g179_1352, g179_1352n, g179_1353, g179_1354, g179_1355, g179_1356, g179_1357, g179_1360t, g179_1360f, g179_1363, g179_1364, g179_1514, g179_1517, cont_1, cont_0, w32_o, m5, m51, l5, hc, Int.toNat_natCast, i1, i2, i3, i4, i5, i6, h1, h2]
theorem lw_36 {n i : Nat} {sc : Nat → Int} {M : Mem} {S : Sh} (hsc : ∀ j, -2147483648 ≤ sc j ∧ sc j < 2147483648) (hS : Std n S) (hI : Inv sc M) (hn : n ≤ 3584) (hi : i + 7 ≤ n) (hc : and32 (sc i) 63 = 36) : ∃ M2 S2, go 71 179 18 [some (aR 5), some (aR 6), some (aR 84), some (aI (i : Int))] [] M S = go 71 179 18 [some (aR 5), some (aR 6), some (aR 84), some (aI ((i : Int) + 7))] [] M2 S2 ∧ Inv sc M2 ∧ Std n S2 ∧ S2.2.2.2.1 ≤ S.2.2.2.1 + 1 ∧ S2.2.2.2.2 ≤ S.2.2.2.2 + 8 := by
  obtain ⟨v, M1, S1, h1, v', M2, S2, h2, e, hI2, hS2, hN, hU⟩ := p_copy (x1 := sc (i + 1)) (x2 := sc (i + 2)) (x3 := sc (i + 3)) (x4 := sc (i + 4)) (x5 := sc (i + 5)) hS hI
  obtain ⟨kp, _, _⟩ := res_keep h1
  obtain ⟨x, hx⟩ := res_I (by decide +kernel) h1
  cases hx
  subst e
  have N110 := hS.2.2.2.2
  have k5 := K5 hS
  have k6 := K6 hS
  have l5 : S.2.1 5 = n := hS.2.2.1
  have m5 : M 5 = sc := hI.2.2.2.2.2.2.2.1.1
  have m51 : M1 5 = sc := (kp.1 k5 (by omega)).trans m5
  have k51 : S1.1 5 = 7 := (kp.2 5 (by omega)).1.trans k5
  have l51 : S1.2.1 5 = n := (kp.2 5 (by omega)).2.trans l5
  have k84 : S1.1 84 = 6 := (kp.2 84 (by omega)).1.trans (K84 hS)
  have i1 : ((i : Int) + 1).toNat = i + 1 := by omega
  have i2 : ((i : Int) + 2).toNat = i + 2 := by omega
  have i3 : ((i : Int) + 3).toNat = i + 3 := by omega
  have i4 : ((i : Int) + 4).toNat = i + 4 := by omega
  have i5 : ((i : Int) + 5).toNat = i + 5 := by omega
  have i6 : ((i : Int) + 6).toNat = i + 6 := by omega
  refine ⟨M2, S2, ?_, hI2, hS2, by omega, by omega⟩
  rw [g179_18]
  simp (disch := omega) only [g179_19, g179_19n, g179_20, g179_21, g179_23, g179_24t, g179_24f, g179_27, g179_27n, g179_28, g179_29, g179_30, g179_32, g179_33c36, g179_1365, g179_1365n, g179_1366, g179_1366n, g179_1367, g179_1368, g179_1369, g179_1370, g179_1371, g179_1371n, g179_1372, g179_1373, g179_1374, g179_1375, g179_1376, g179_1376n, g179_1377, g179_1378, g179_1379, g179_1380, g179_1381, g179_1381n, g179_1382, g179_1383, g179_1384, g179_1385, g179_1386, g179_1386n, g179_1387, g179_1388, g179_1389, g179_1390, g179_1391, g179_1394, g179_1394n, g179_1395, g179_1395n, g179_1396, g179_1397, g179_1398, g179_1399, g179_1400, g179_1400n, g179_1401, g179_1402, g179_1403, g179_1404, g179_1405, g179_1405n, g179_1406, g179_1407, g179_1408, g179_1409, g179_1410, g179_1410n, g179_1411, g179_1412, g179_1413, g179_1414, g179_1415, g179_1415n, g179_1416, g179_1417, g179_1418, g179_1419, g179_1420, g179_1423t, g179_1423f, g179_1426, g179_1427, g179_1514, g179_1517, cont_1, cont_0, w32_o, m5, m51, l5, hc, Int.toNat_natCast, i1, i2, i3, i4, i5, i6, h1, h2]
theorem lw_37 {n i : Nat} {sc : Nat → Int} {M : Mem} {S : Sh} (hsc : ∀ j, -2147483648 ≤ sc j ∧ sc j < 2147483648) (hS : Std n S) (hI : Inv sc M) (hn : n ≤ 3584) (hi : i + 7 ≤ n) (hc : and32 (sc i) 63 = 37) : ∃ M2 S2, go 71 179 18 [some (aR 5), some (aR 6), some (aR 84), some (aI (i : Int))] [] M S = go 71 179 18 [some (aR 5), some (aR 6), some (aR 84), some (aI ((i : Int) + 7))] [] M2 S2 ∧ Inv sc M2 ∧ Std n S2 ∧ S2.2.2.2.1 ≤ S.2.2.2.1 + 1 ∧ S2.2.2.2.2 ≤ S.2.2.2.2 + 8 := by
  obtain ⟨v, M1, S1, h1, v', M2, S2, h2, e, hI2, hS2, hN, hU⟩ := p_landBy (x1 := sc (i + 1)) (x2 := sc (i + 2)) (x3 := sc (i + 3)) (x4 := sc (i + 4)) hS hI (hsc _).1 (hsc _).2
  obtain ⟨kp, _, _⟩ := res_keep h1
  obtain ⟨x, hx⟩ := res_I (by decide +kernel) h1
  cases hx
  subst e
  have N110 := hS.2.2.2.2
  have k5 := K5 hS
  have k6 := K6 hS
  have l5 : S.2.1 5 = n := hS.2.2.1
  have m5 : M 5 = sc := hI.2.2.2.2.2.2.2.1.1
  have m51 : M1 5 = sc := (kp.1 k5 (by omega)).trans m5
  have k51 : S1.1 5 = 7 := (kp.2 5 (by omega)).1.trans k5
  have l51 : S1.2.1 5 = n := (kp.2 5 (by omega)).2.trans l5
  have k84 : S1.1 84 = 6 := (kp.2 84 (by omega)).1.trans (K84 hS)
  have i1 : ((i : Int) + 1).toNat = i + 1 := by omega
  have i2 : ((i : Int) + 2).toNat = i + 2 := by omega
  have i3 : ((i : Int) + 3).toNat = i + 3 := by omega
  have i4 : ((i : Int) + 4).toNat = i + 4 := by omega
  have i5 : ((i : Int) + 5).toNat = i + 5 := by omega
  have i6 : ((i : Int) + 6).toNat = i + 6 := by omega
  refine ⟨M2, S2, ?_, hI2, hS2, by omega, by omega⟩
  rw [g179_18]
  simp (disch := omega) only [g179_19, g179_19n, g179_20, g179_21, g179_23, g179_24t, g179_24f, g179_27, g179_27n, g179_28, g179_29, g179_30, g179_32, g179_33c37, g179_1428, g179_1428n, g179_1429, g179_1429n, g179_1430, g179_1431, g179_1432, g179_1433, g179_1434, g179_1434n, g179_1435, g179_1436, g179_1437, g179_1438, g179_1439, g179_1439n, g179_1440, g179_1441, g179_1442, g179_1443, g179_1444, g179_1444n, g179_1445, g179_1446, g179_1447, g179_1448, g179_1449, g179_1452, g179_1452n, g179_1453, g179_1453n, g179_1454, g179_1455, g179_1456, g179_1457, g179_1458, g179_1458n, g179_1459, g179_1460, g179_1461, g179_1462, g179_1463, g179_1463n, g179_1464, g179_1465, g179_1466, g179_1467, g179_1468, g179_1468n, g179_1469, g179_1470, g179_1471, g179_1472, g179_1473, g179_1476t, g179_1476f, g179_1479, g179_1480, g179_1514, g179_1517, cont_1, cont_0, w32_o, m5, m51, l5, hc, Int.toNat_natCast, i1, i2, i3, i4, i5, i6, h1, h2]
theorem lw_38 {n i : Nat} {sc : Nat → Int} {M : Mem} {S : Sh} (hsc : ∀ j, -2147483648 ≤ sc j ∧ sc j < 2147483648) (hS : Std n S) (hI : Inv sc M) (hn : n ≤ 3584) (hi : i + 7 ≤ n) (hc : and32 (sc i) 63 = 38) : ∃ M2 S2, go 71 179 18 [some (aR 5), some (aR 6), some (aR 84), some (aI (i : Int))] [] M S = go 71 179 18 [some (aR 5), some (aR 6), some (aR 84), some (aI ((i : Int) + 7))] [] M2 S2 ∧ Inv sc M2 ∧ Std n S2 ∧ S2.2.2.2.1 ≤ S.2.2.2.1 + 1 ∧ S2.2.2.2.2 ≤ S.2.2.2.2 + 8 := by
  obtain ⟨v, M1, S1, h1, v', M2, S2, h2, e, hI2, hS2, hN, hU⟩ := p_taken (x1 := sc (i + 1)) (x2 := sc (i + 2)) hS hI
  obtain ⟨kp, _, _⟩ := res_keep h1
  obtain ⟨x, hx⟩ := res_I (by decide +kernel) h1
  cases hx
  subst e
  have N110 := hS.2.2.2.2
  have k5 := K5 hS
  have k6 := K6 hS
  have l5 : S.2.1 5 = n := hS.2.2.1
  have m5 : M 5 = sc := hI.2.2.2.2.2.2.2.1.1
  have m51 : M1 5 = sc := (kp.1 k5 (by omega)).trans m5
  have k51 : S1.1 5 = 7 := (kp.2 5 (by omega)).1.trans k5
  have l51 : S1.2.1 5 = n := (kp.2 5 (by omega)).2.trans l5
  have k84 : S1.1 84 = 6 := (kp.2 84 (by omega)).1.trans (K84 hS)
  have i1 : ((i : Int) + 1).toNat = i + 1 := by omega
  have i2 : ((i : Int) + 2).toNat = i + 2 := by omega
  have i3 : ((i : Int) + 3).toNat = i + 3 := by omega
  have i4 : ((i : Int) + 4).toNat = i + 4 := by omega
  have i5 : ((i : Int) + 5).toNat = i + 5 := by omega
  have i6 : ((i : Int) + 6).toNat = i + 6 := by omega
  refine ⟨M2, S2, ?_, hI2, hS2, by omega, by omega⟩
  rw [g179_18]
  simp (disch := omega) only [g179_19, g179_19n, g179_20, g179_21, g179_23, g179_24t, g179_24f, g179_27, g179_27n, g179_28, g179_29, g179_30, g179_32, g179_33c38, g179_1481, g179_1481n, g179_1482, g179_1482n, g179_1483, g179_1484, g179_1485, g179_1486, g179_1487, g179_1487n, g179_1488, g179_1489, g179_1490, g179_1491, g179_1492, g179_1495, g179_1495n, g179_1496, g179_1496n, g179_1497, g179_1498, g179_1499, g179_1500, g179_1501, g179_1501n, g179_1502, g179_1503, g179_1504, g179_1505, g179_1506, g179_1509t, g179_1509f, g179_1512, g179_1513, g179_1514, g179_1517, cont_1, cont_0, w32_o, m5, m51, l5, hc, Int.toNat_natCast, i1, i2, i3, i4, i5, i6, h1, h2]
theorem law_loop {n : Nat} {sc : Nat → Int} (hsc : ∀ j, -2147483648 ≤ sc j ∧ sc j < 2147483648) (hn : n ≤ 3584) : ∀ (rem i : Nat) (M : Mem) (S : Sh), n ≤ i + 7 * rem + 6 → i ≤ n + 7 → Std n S → Inv sc M → ∃ M' S', go 71 179 18 [some (aR 5), some (aR 6), some (aR 84), some (aI (i : Int))] [] M S = some (some (aI 1), M', S') ∧ S'.2.2.2.1 ≤ S.2.2.2.1 + rem ∧ S'.2.2.2.2 ≤ S.2.2.2.2 + 8 * rem := by
  intro rem
  induction rem with
  | zero =>
    intro i M S h1 h1' hS hI
    have k5 := K5 hS
    have l5 : S.2.1 5 = n := hS.2.2.1
    refine ⟨M, S, ?_, by omega, by omega⟩
    rw [g179_18]
    simp (disch := omega) only [g179_19, g179_19n, g179_20, g179_21, g179_23, g179_24t, g179_24f, g179_27, g179_27n, g179_28, g179_29, g179_30, g179_32, g179_33d, g179_1514, g179_1517, g179_1520, g179_1521, cont_1, cont_0, w32_o, l5]
  | succ rem ih =>
    intro i M S h1 h1' hS hI
    have k5 := K5 hS
    have l5 : S.2.1 5 = n := hS.2.2.1
    by_cases hi : i + 7 ≤ n
    · have step : ∃ M2 S2, go 71 179 18 [some (aR 5), some (aR 6), some (aR 84), some (aI (i : Int))] [] M S = go 71 179 18 [some (aR 5), some (aR 6), some (aR 84), some (aI ((i : Int) + 7))] [] M2 S2 ∧ Inv sc M2 ∧ Std n S2 ∧ S2.2.2.2.1 ≤ S.2.2.2.1 + 1 ∧ S2.2.2.2.2 ≤ S.2.2.2.2 + 8 := by
        by_cases hd : and32 (sc i) 63 < 0 ∨ 38 < and32 (sc i) 63
        · have m5 : M 5 = sc := hI.2.2.2.2.2.2.2.1.1
          refine ⟨M, S, ?_, hI, hS, by omega, by omega⟩
          rw [g179_18]
          simp (disch := omega) only [g179_19, g179_19n, g179_20, g179_21, g179_23, g179_24t, g179_24f, g179_27, g179_27n, g179_28, g179_29, g179_30, g179_32, g179_33d, g179_1514, g179_1517, g179_1520, g179_1521, cont_1, cont_0, w32_o, m5, l5, Int.toNat_natCast]
        · rcases (by omega : and32 (sc i) 63 = 0 ∨ and32 (sc i) 63 = 1 ∨ and32 (sc i) 63 = 2 ∨ and32 (sc i) 63 = 3 ∨ and32 (sc i) 63 = 4 ∨ and32 (sc i) 63 = 5 ∨ and32 (sc i) 63 = 6 ∨ and32 (sc i) 63 = 7 ∨ and32 (sc i) 63 = 8 ∨ and32 (sc i) 63 = 9 ∨ and32 (sc i) 63 = 10 ∨ and32 (sc i) 63 = 11 ∨ and32 (sc i) 63 = 12 ∨ and32 (sc i) 63 = 13 ∨ and32 (sc i) 63 = 14 ∨ and32 (sc i) 63 = 15 ∨ and32 (sc i) 63 = 16 ∨ and32 (sc i) 63 = 17 ∨ and32 (sc i) 63 = 18 ∨ and32 (sc i) 63 = 19 ∨ and32 (sc i) 63 = 20 ∨ and32 (sc i) 63 = 21 ∨ and32 (sc i) 63 = 22 ∨ and32 (sc i) 63 = 23 ∨ and32 (sc i) 63 = 24 ∨ and32 (sc i) 63 = 25 ∨ and32 (sc i) 63 = 26 ∨ and32 (sc i) 63 = 27 ∨ and32 (sc i) 63 = 28 ∨ and32 (sc i) 63 = 29 ∨ and32 (sc i) 63 = 30 ∨ and32 (sc i) 63 = 31 ∨ and32 (sc i) 63 = 32 ∨ and32 (sc i) 63 = 33 ∨ and32 (sc i) 63 = 34 ∨ and32 (sc i) 63 = 35 ∨ and32 (sc i) 63 = 36 ∨ and32 (sc i) 63 = 37 ∨ and32 (sc i) 63 = 38) with hc | hc | hc | hc | hc | hc | hc | hc | hc | hc | hc | hc | hc | hc | hc | hc | hc | hc | hc | hc | hc | hc | hc | hc | hc | hc | hc | hc | hc | hc | hc | hc | hc | hc | hc | hc | hc | hc | hc
          · exact lw_0 hsc hS hI hn hi hc
          · exact lw_1 hsc hS hI hn hi hc
          · exact lw_2 hsc hS hI hn hi hc
          · exact lw_3 hsc hS hI hn hi hc
          · exact lw_4 hsc hS hI hn hi hc
          · exact lw_5 hsc hS hI hn hi hc
          · exact lw_6 hsc hS hI hn hi hc
          · exact lw_7 hsc hS hI hn hi hc
          · exact lw_8 hsc hS hI hn hi hc
          · exact lw_9 hsc hS hI hn hi hc
          · exact lw_10 hsc hS hI hn hi hc
          · exact lw_11 hsc hS hI hn hi hc
          · exact lw_12 hsc hS hI hn hi hc
          · exact lw_13 hsc hS hI hn hi hc
          · exact lw_14 hsc hS hI hn hi hc
          · exact lw_15 hsc hS hI hn hi hc
          · exact lw_16 hsc hS hI hn hi hc
          · exact lw_17 hsc hS hI hn hi hc
          · exact lw_18 hsc hS hI hn hi hc
          · exact lw_19 hsc hS hI hn hi hc
          · exact lw_20 hsc hS hI hn hi hc
          · exact lw_21 hsc hS hI hn hi hc
          · exact lw_22 hsc hS hI hn hi hc
          · exact lw_23 hsc hS hI hn hi hc
          · exact lw_24 hsc hS hI hn hi hc
          · exact lw_25 hsc hS hI hn hi hc
          · exact lw_26 hsc hS hI hn hi hc
          · exact lw_27 hsc hS hI hn hi hc
          · exact lw_28 hsc hS hI hn hi hc
          · exact lw_29 hsc hS hI hn hi hc
          · exact lw_30 hsc hS hI hn hi hc
          · exact lw_31 hsc hS hI hn hi hc
          · exact lw_32 hsc hS hI hn hi hc
          · exact lw_33 hsc hS hI hn hi hc
          · exact lw_34 hsc hS hI hn hi hc
          · exact lw_35 hsc hS hI hn hi hc
          · exact lw_36 hsc hS hI hn hi hc
          · exact lw_37 hsc hS hI hn hi hc
          · exact lw_38 hsc hS hI hn hi hc
      obtain ⟨M2, S2, z, hI2, hS2, hN, hU⟩ := step
      obtain ⟨M', S', z', hN', hU'⟩ := ih (i + 7) M2 S2 (by omega) (by omega) hS2 hI2
      rw [show ((i + 7 : Nat) : Int) = (i : Int) + 7 by omega] at z'
      exact ⟨M', S', z.trans z', by omega, by omega⟩
    · refine ⟨M, S, ?_, by omega, by omega⟩
      rw [g179_18]
      simp (disch := omega) only [g179_19, g179_19n, g179_20, g179_21, g179_23, g179_24t, g179_24f, g179_27, g179_27n, g179_28, g179_29, g179_30, g179_32, g179_33d, g179_1514, g179_1517, g179_1520, g179_1521, cont_1, cont_0, w32_o, l5]
