/-! the model's constructor -/
def R98 : Nat → Int := fset (fset (fset (fset (fun _ => 0) (Int.toNat 0) (-1)) (Int.toNat 1) (-1)) (Int.toNat 2) (-1)) (Int.toNat 3) (-1)
def R101 : Nat → Int := fset (fset (fset (fset (fset (fset (fset (fset (fset (fset (fset (fset (fset (fset (fset (fset (fset (fset (fset (fset (fset (fset (fset (fset (fset (fset (fset (fset (fset (fset (fset (fset (fset (fset (fset (fset (fset (fset (fset (fset (fun _ => 0) (Int.toNat 0) 115) (Int.toNat 1) 101) (Int.toNat 2) 101) (Int.toNat 3) 115) (Int.toNat 4) 32) (Int.toNat 5) 51) (Int.toNat 6) 32) (Int.toNat 7) 45) (Int.toNat 8) 32) (Int.toNat 9) 104) (Int.toNat 10) 105) (Int.toNat 11) 108) (Int.toNat 12) 108) (Int.toNat 13) 32) (Int.toNat 14) 59) (Int.toNat 15) 32) (Int.toNat 16) 100) (Int.toNat 17) 114) (Int.toNat 18) 105) (Int.toNat 19) 102) (Int.toNat 20) 116) (Int.toNat 21) 115) (Int.toNat 22) 32) (Int.toNat 23) 119) (Int.toNat 24) 105) (Int.toNat 25) 110) (Int.toNat 26) 100) (Int.toNat 27) 32) (Int.toNat 28) 59) (Int.toNat 29) 32) (Int.toNat 30) 102) (Int.toNat 31) 114) (Int.toNat 32) 111) (Int.toNat 33) 115) (Int.toNat 34) 116) (Int.toNat 35) 115) (Int.toNat 36) 32) (Int.toNat 37) 48) (Int.toNat 38) 32) (Int.toNat 39) 59
def R102 : Nat → Int := fset (fset (fset (fset (fset (fset (fset (fset (fset (fset (fset (fset (fset (fset (fset (fset (fset (fset (fset (fset (fset (fset (fset (fset (fset (fset (fset (fset (fset (fset (fset (fset (fset (fset (fset (fset (fset (fset (fset (fset (fset (fset (fset (fset (fset (fset (fset (fset (fset (fset (fset (fset (fset (fset (fset (fset (fset (fset (fset (fset (fset (fset (fset (fset (fset (fset (fset (fset (fset (fset (fset (fset (fset (fset (fset (fset (fset (fset (fset (fset (fset (fset (fset (fset (fset (fset (fset (fset (fset (fset (fset (fset (fset (fset (fset (fset (fun _ => 0) (Int.toNat 0) 115) (Int.toNat 1) 101) (Int.toNat 2) 101) (Int.toNat 3) 115) (Int.toNat 4) 32) (Int.toNat 5) 32) (Int.toNat 6) 32) (Int.toNat 7) 32) (Int.toNat 8) 100) (Int.toNat 9) 114) (Int.toNat 10) 105) (Int.toNat 11) 102) (Int.toNat 12) 116) (Int.toNat 13) 115) (Int.toNat 14) 32) (Int.toNat 15) 32) (Int.toNat 16) 102) (Int.toNat 17) 114) (Int.toNat 18) 111) (Int.toNat 19) 115) (Int.toNat 20) 116) (Int.toNat 21) 115) (Int.toNat 22) 32) (Int.toNat 23) 32) (Int.toNat 24) 104) (Int.toNat 25) 105) (Int.toNat 26) 108) (Int.toNat 27) 108) (Int.toNat 28) 32) (Int.toNat 29) 32) (Int.toNat 30) 32) (Int.toNat 31) 32) (Int.toNat 32) 119) (Int.toNat 33) 105) (Int.toNat 34) 110) (Int.toNat 35) 100) (Int.toNat 36) 32) (Int.toNat 37) 32) (Int.toNat 38) 32) (Int.toNat 39) 32) (Int.toNat 40) 109) (Int.toNat 41) 111) (Int.toNat 42) 114) (Int.toNat 43) 101) (Int.toNat 44) 32) (Int.toNat 45) 32) (Int.toNat 46) 32) (Int.toNat 47) 32) (Int.toNat 48) 104) (Int.toNat 49) 111) (Int.toNat 50) 117) (Int.toNat 51) 114) (Int.toNat 52) 32) (Int.toNat 53) 32) (Int.toNat 54) 32) (Int.toNat 55) 32) (Int.toNat 56) 99) (Int.toNat 57) 108) (Int.toNat 58) 105) (Int.toNat 59) 99) (Int.toNat 60) 107) (Int.toNat 61) 115) (Int.toNat 62) 32) (Int.toNat 63) 32) (Int.toNat 64) 114) (Int.toNat 65) 111) (Int.toNat 66) 119) (Int.toNat 67) 32) (Int.toNat 68) 32) (Int.toNat 69) 32) (Int.toNat 70) 32) (Int.toNat 71) 32) (Int.toNat 72) 111) (Int.toNat 73) 114) (Int.toNat 74) 32) (Int.toNat 75) 32) (Int.toNat 76) 32) (Int.toNat 77) 32) (Int.toNat 78) 32) (Int.toNat 79) 32) (Int.toNat 80) 97) (Int.toNat 81) 110) (Int.toNat 82) 100) (Int.toNat 83) 32) (Int.toNat 84) 32) (Int.toNat 85) 32) (Int.toNat 86) 32) (Int.toNat 87) 32) (Int.toNat 88) 110) (Int.toNat 89) 111) (Int.toNat 90) 116) (Int.toNat 91) 32) (Int.toNat 92) 32) (Int.toNat 93) 32) (Int.toNat 94) 32) (Int.toNat 95) 32
theorem R98_v : ∀ i, i < 4 → R98 i = -1 := by decide +kernel
theorem R101_v : ∀ i, i < 40 → R101 i = sT i := by decide +kernel
theorem R102_v : ∀ i, i < 96 → R102 i = wT i := by decide +kernel
theorem mk_a {n : Nat} {M : Mem} (hz : ∀ a, 85 ≤ a → M a = fun _ => 0) : res 105 [aR 84] M (sS n 85 77 5043) = go 15 105 161 [some (aR 84), none] [] (mrow (mset (mset M 84 3 10) 84 4 (-1)) 98 R98) (sS n 101 93 7449) := by
  have v1 : (sS n 87 79 5427).1 84 = 6 := rfl
  have y1 : (sS n 99 90 7285).1 98 = 7 := rfl
  have q1 : (sS n 99 90 7285).2.1 98 = 4 := rfl
  unfold R98
  rw [g105]
  simp (disch := first | exact hz _ (by omega) | omega | (simp (disch := omega) only [mset_ne, mrow_ne]; exact hz _ (by omega))) only [g105_0, g105_1, g105_4, g105_5, g105_13, g105_14, g105_22, g105_23, g105_25, g105_28, g105_29, g105_30, g105_33, g105_34, g105_40, g105_41, g105_47, g105_48, g105_55, g105_56, g105_63, g105_64, g105_71, g105_72, g105_80, g105_81, g105_89, g105_90, g105_97, g105_98, g105_106, g105_107, g105_114, g105_115, g105_122, g105_123, g105_126, g105_127, g105_128, g105_129, g105_130, g105_131, g105_132, g105_133, g105_134, g105_135, g105_136, g105_137, g105_138, g105_139, g105_140, g105_141, g105_145, g105_146, g105_152, g105_153, x105_8_85077 n, x105_10_86077 n, x105_17_86078 n, x105_19_87078 n, x105_35_87079 n, x105_37_88079 n, x105_42_88080 n, x105_44_89080 n, x105_50_89081 n, x105_52_90081 n, x105_58_90082 n, x105_60_91082 n, x105_66_91083 n, x105_68_92083 n, x105_75_92084 n, x105_77_93084 n, x105_84_93085 n, x105_86_94085 n, x105_92_94086 n, x105_94_95086 n, x105_101_95087 n, x105_103_96087 n, x105_109_96088 n, x105_111_97088 n, x105_117_97089 n, x105_119_98089 n, x105_124_98090 n, x105_142_99090 n, x105_147_99091 n, x105_149_100091 n, x105_156_100092 n, x105_158_101092 n, cont_1, cont_0, w32_o, mset_mrow]
theorem mk_b {n : Nat} {M : Mem} : go 15 105 161 [some (aR 84), none] [] M (sS n 101 93 7449) = go 15 105 403 [some (aR 84), none] [] (mrow M 101 R101) (sS n 102 94 7489) := by
  have y1 : (sS n 102 93 7489).1 101 = 7 := rfl
  have q1 : (sS n 102 93 7489).2.1 101 = 40 := rfl
  unfold R101
  simp (disch := omega) only [g105_161, g105_162, g105_166, g105_167, g105_168, g105_170, g105_171, g105_172, g105_173, g105_175, g105_176, g105_177, g105_178, g105_180, g105_181, g105_182, g105_183, g105_185, g105_186, g105_187, g105_188, g105_190, g105_191, g105_192, g105_193, g105_195, g105_196, g105_197, g105_199, g105_201, g105_202, g105_203, g105_205, g105_207, g105_208, g105_209, g105_211, g105_213, g105_214, g105_215, g105_217, g105_219, g105_220, g105_221, g105_223, g105_225, g105_226, g105_227, g105_229, g105_231, g105_232, g105_233, g105_235, g105_237, g105_238, g105_239, g105_241, g105_243, g105_244, g105_245, g105_247, g105_249, g105_250, g105_251, g105_253, g105_255, g105_256, g105_257, g105_259, g105_261, g105_262, g105_263, g105_265, g105_267, g105_268, g105_269, g105_271, g105_273, g105_274, g105_275, g105_277, g105_279, g105_280, g105_281, g105_283, g105_285, g105_286, g105_287, g105_289, g105_291, g105_292, g105_293, g105_295, g105_297, g105_298, g105_299, g105_301, g105_303, g105_304, g105_305, g105_307, g105_309, g105_310, g105_311, g105_313, g105_315, g105_316, g105_317, g105_319, g105_321, g105_322, g105_323, g105_325, g105_327, g105_328, g105_329, g105_331, g105_333, g105_334, g105_335, g105_337, g105_339, g105_340, g105_341, g105_343, g105_345, g105_346, g105_347, g105_349, g105_351, g105_352, g105_353, g105_355, g105_357, g105_358, g105_359, g105_361, g105_363, g105_364, g105_365, g105_367, g105_369, g105_370, g105_371, g105_373, g105_375, g105_376, g105_377, g105_379, g105_381, g105_382, g105_383, g105_385, g105_387, g105_388, g105_389, g105_391, g105_393, g105_394, g105_395, g105_397, g105_399, x105_164_101093 n, x105_400_102093 n, cont_1, cont_0, w32_o, mset_mrow]
theorem mk_c {n : Nat} {M : Mem} : go 15 105 403 [some (aR 84), none] [] M (sS n 102 94 7489) = go 15 105 981 [some (aR 84), none] [] (mrow M 102 R102) (sS n 103 95 7585) := by
  have y1 : (sS n 103 94 7585).1 102 = 7 := rfl
  have q1 : (sS n 103 94 7585).2.1 102 = 96 := rfl
  unfold R102
  simp (disch := omega) only [g105_403, g105_404, g105_408, g105_409, g105_410, g105_412, g105_413, g105_414, g105_415, g105_417, g105_418, g105_419, g105_420, g105_422, g105_423, g105_424, g105_425, g105_427, g105_428, g105_429, g105_430, g105_432, g105_433, g105_434, g105_435, g105_437, g105_438, g105_439, g105_441, g105_443, g105_444, g105_445, g105_447, g105_449, g105_450, g105_451, g105_453, g105_455, g105_456, g105_457, g105_459, g105_461, g105_462, g105_463, g105_465, g105_467, g105_468, g105_469, g105_471, g105_473, g105_474, g105_475, g105_477, g105_479, g105_480, g105_481, g105_483, g105_485, g105_486, g105_487, g105_489, g105_491, g105_492, g105_493, g105_495, g105_497, g105_498, g105_499, g105_501, g105_503, g105_504, g105_505, g105_507, g105_509, g105_510, g105_511, g105_513, g105_515, g105_516, g105_517, g105_519, g105_521, g105_522, g105_523, g105_525, g105_527, g105_528, g105_529, g105_531, g105_533, g105_534, g105_535, g105_537, g105_539, g105_540, g105_541, g105_543, g105_545, g105_546, g105_547, g105_549, g105_551, g105_552, g105_553, g105_555, g105_557, g105_558, g105_559, g105_561, g105_563, g105_564, g105_565, g105_567, g105_569, g105_570, g105_571, g105_573, g105_575, g105_576, g105_577, g105_579, g105_581, g105_582, g105_583, g105_585, g105_587, g105_588, g105_589, g105_591, g105_593, g105_594, g105_595, g105_597, g105_599, g105_600, g105_601, g105_603, g105_605, g105_606, g105_607, g105_609, g105_611, g105_612, g105_613, g105_615, g105_617, g105_618, g105_619, g105_621, g105_623, g105_624, g105_625, g105_627, g105_629, g105_630, g105_631, g105_633, g105_635, g105_636, g105_637, g105_639, g105_641, g105_642, g105_643, g105_645, g105_647, g105_648, g105_649, g105_651, g105_653, g105_654, g105_655, g105_657, g105_659, g105_660, g105_661, g105_663, g105_665, g105_666, g105_667, g105_669, g105_671, g105_672, g105_673, g105_675, g105_677, g105_678, g105_679, g105_681, g105_683, g105_684, g105_685, g105_687, g105_689, g105_690, g105_691, g105_693, g105_695, g105_696, g105_697, g105_699, g105_701, g105_702, g105_703, g105_705, g105_707, g105_708, g105_709, g105_711, g105_713, g105_714, g105_715, g105_717, g105_719, g105_720, g105_721, g105_723, g105_725, g105_726, g105_727, g105_729, g105_731, g105_732, g105_733, g105_735, g105_737, g105_738, g105_739, g105_741, g105_743, g105_744, g105_745, g105_747, g105_749, g105_750, g105_751, g105_753, g105_755, g105_756, g105_757, g105_759, g105_761, g105_762, g105_763, g105_765, g105_767, g105_768, g105_769, g105_771, g105_773, g105_774, g105_775, g105_777, g105_779, g105_780, g105_781, g105_783, g105_785, g105_786, g105_787, g105_789, g105_791, g105_792, g105_793, g105_795, g105_797, g105_798, g105_799, g105_801, g105_803, g105_804, g105_805, g105_807, g105_809, g105_810, g105_811, g105_813, g105_815, g105_816, g105_817, g105_819, g105_821, g105_822, g105_823, g105_825, g105_827, g105_828, g105_829, g105_831, g105_833, g105_834, g105_835, g105_837, g105_839, g105_840, g105_841, g105_843, g105_845, g105_846, g105_847, g105_849, g105_851, g105_852, g105_853, g105_855, g105_857, g105_858, g105_859, g105_861, g105_863, g105_864, g105_865, g105_867, g105_869, g105_870, g105_871, g105_873, g105_875, g105_876, g105_877, g105_879, g105_881, g105_882, g105_883, g105_885, g105_887, g105_888, g105_889, g105_891, g105_893, g105_894, g105_895, g105_897, g105_899, g105_900, g105_901, g105_903, g105_905, g105_906, g105_907, g105_909, g105_911, g105_912, g105_913, g105_915, g105_917, g105_918, g105_919, g105_921, g105_923, g105_924, g105_925, g105_927, g105_929, g105_930, g105_931, g105_933, g105_935, g105_936, g105_937, g105_939, g105_941, g105_942, g105_943, g105_945, g105_947, g105_948, g105_949, g105_951, g105_953, g105_954, g105_955, g105_957, g105_959, g105_960, g105_961, g105_963, g105_965, g105_966, g105_967, g105_969, g105_971, g105_972, g105_973, g105_975, g105_977, x105_406_102094 n, x105_978_103094 n, cont_1, cont_0, w32_o, mset_mrow]
theorem mk_d {n : Nat} {M : Mem} (hz : ∀ a, 103 ≤ a → M a = fun _ => 0) : go 15 105 981 [some (aR 84), none] [] M (sS n 103 95 7585) = go 15 105 1048 [some (aR 84), some (aI 0)] [] (mset M 84 43 (-1)) (sS n 110 102 8399) := by
  have y1 : (sS n 107 99 8183).1 84 = 6 := rfl
  simp (disch := first | exact hz _ (by omega) | omega | (simp (disch := omega) only [mset_ne, mrow_ne]; exact hz _ (by omega))) only [g105_981, g105_982, g105_990, g105_991, g105_999, g105_1000, g105_1007, g105_1008, g105_1016, g105_1017, g105_1018, g105_1021, g105_1022, g105_1029, g105_1030, g105_1037, g105_1038, g105_1046, g105_1047, x105_985_103095 n, x105_987_104095 n, x105_994_104096 n, x105_996_105096 n, x105_1002_105097 n, x105_1004_106097 n, x105_1011_106098 n, x105_1013_107098 n, x105_1024_107099 n, x105_1026_108099 n, x105_1032_108100 n, x105_1034_109100 n, x105_1041_109101 n, x105_1043_110101 n, cont_1, cont_0, w32_o]
theorem Std_s {n : Nat} : Std n (sS n 110 102 8399) := by
  refine ⟨fun a ha => if_pos ha, fun a ha h5 => ?_, rfl, ?_, Nat.le_refl _⟩
  · show (if a = 5 then n else if a < 110 then l0.getD a 0 else 0) = _
    rw [if_neg h5, if_pos ha]
  · show ∀ a, a < 110 → ∀ k, k < (p0.getD a []).length → tPn 102 a k = (p0.getD a []).getD k none
    decide +kernel
theorem mk_l {n r : Nat} {M : Mem} : ∀ (rem k : Nat), k + rem = 40 → go r 105 1048 [some (aR 84), some (aI (k : Int))] [] (mrow M 92 (rpre k (M 101) (M 92))) (sS n 110 102 8399) = go r 105 1072 [some (aR 84), some (aI 40)] [] (mrow M 92 (rpre 40 (M 101) (M 92))) (sS n 110 102 8399) := by
  have hS := Std_s (n := n)
  have k84 := K84 hS
  have k92 := K92 hS
  have k101 := K101 hS
  have l92 := L92 hS
  have l101 := L101 hS
  have p12 := P84_12 hS
  have p25 := P84_25 hS
  intro rem
  induction rem with
  | zero =>
    intro k hk
    have e : k = 40 := by omega
    subst e
    rw [g105_1048]
    simp (disch := omega) only [g105_1049, g105_1051t, g105_1051f, g105_1054, g105_1055, g105_1058, g105_1059, g105_1060, g105_1063, g105_1064, g105_1065, g105_1066, g105_1069, g105_1072, g105_1073, g105_1075, g105_1078, g105_1079, g105_1082, g105_1083, cont_1, cont_0, w32_o]
    all_goals rfl
  | succ rem ih =>
    intro k hk
    have z := ih (k + 1) (by omega)
    rw [nc_1] at z
    rw [← z, ← rpre_s (g := M 101) (v := M 101 k) rfl, g105_1048]
    simp (disch := omega) only [g105_1049, g105_1051t, g105_1051f, g105_1054, g105_1055, g105_1058, g105_1059, g105_1060, g105_1063, g105_1064, g105_1065, g105_1066, g105_1069, g105_1072, g105_1073, g105_1075, g105_1078, g105_1079, g105_1082, g105_1083, cont_1, cont_0, w32_o, p12, p25, mset_mrow, mrow_ne, Int.toNat_natCast]
/-- the model as it is made -/
theorem mctor {n : Nat} {M : Mem} (hz : ∀ a, 84 ≤ a → M a = fun _ => 0) : ∃ M', res 105 [aR 84] M (sS n 85 77 5043) = some (none, M', (sS n 110 102 8399)) ∧ (∀ a, a < 84 → M' a = M a) ∧ (∀ a, (85 ≤ a ∧ a ≤ 91) ∨ a = 99 ∨ a = 100 → M' a = fun _ => 0) ∧ (∀ i, i < 4 → M' 98 i = -1) ∧ (∀ i, i < 96 → M' 102 i = wT i) ∧ (M' 84 2 = 0 ∧ M' 84 3 = 10 ∧ M' 84 4 = -1 ∧ M' 84 5 = 0 ∧ M' 84 9 = 0 ∧ M' 84 13 = 0 ∧ M' 84 16 = 1 ∧ M' 84 17 = 0 ∧ M' 84 18 = 0 ∧ M' 84 43 = -1) ∧ cP 0 M' [100000, 1, 17, 0, 100003] ∧ M' 94 0 = 0 ∧ M' 94 1 = 3 ∧ M' 94 2 = 4 ∧ M' 94 3 = 5 := by
  have hS := Std_s (n := n)
  have k84 := K84 hS
  have z1 := mk_a (n := n) (M := M) (fun a ha => hz a (by omega))
  obtain ⟨M1, hM1⟩ : ∃ M1, M1 = mrow (mset (mset M 84 3 10) 84 4 (-1)) 98 R98 := ⟨_, rfl⟩
  rw [← hM1] at z1
  have a1 : ∀ a, a ≠ 84 → a ≠ 98 → M1 a = M a := fun a h1 h2 => by rw [hM1, mrow_ne _ _ h2, mset_ne _ _ _ h1, mset_ne _ _ _ h1]
  have a98 : M1 98 = R98 := by rw [hM1, mrow_eq]
  have a84 : M1 84 = fset (fset (fun _ => 0) 3 10) 4 (-1) := by
    rw [hM1, mrow_ne _ _ (by omega), mset_row, mset_row, mrow_eq, mrow_eq, hz 84 (by omega)]
  clear hM1
  have z2 := mk_b (n := n) (M := M1)
  have z3 := mk_c (n := n) (M := mrow M1 101 R101)
  have z4 := mk_d (n := n) (M := mrow (mrow M1 101 R101) 102 R102) (fun a ha => by rw [mrow_ne _ _ (by omega), mrow_ne _ _ (by omega), a1 a (by omega) (by omega)]; exact hz a (by omega))
  obtain ⟨M2, hM2⟩ : ∃ M2, M2 = mset (mrow (mrow M1 101 R101) 102 R102) 84 43 (-1) := ⟨_, rfl⟩
  rw [← hM2] at z4
  have b1 : ∀ a, a ≠ 84 → a ≠ 98 → a ≠ 101 → a ≠ 102 → M2 a = M a := fun a h1 h2 h3 h4 => by
    rw [hM2, mset_ne _ _ _ h1, mrow_ne _ _ h4, mrow_ne _ _ h3]
    exact a1 a h1 h2
  have b98 : M2 98 = R98 := by rw [hM2, mset_ne _ _ _ (by omega), mrow_ne _ _ (by omega), mrow_ne _ _ (by omega)]; exact a98
  have b101 : M2 101 = R101 := by rw [hM2, mset_ne _ _ _ (by omega), mrow_ne _ _ (by omega), mrow_eq]
  have b102 : M2 102 = R102 := by rw [hM2, mset_ne _ _ _ (by omega), mrow_eq]
  have b84 : M2 84 = fset (fset (fset (fun _ => 0) 3 10) 4 (-1)) 43 (-1) := by
    rw [hM2, mset_row, mrow_eq, mrow_ne _ _ (by omega), mrow_ne _ _ (by omega), a84]
  clear hM2
  have z5 := mk_l (n := n) (r := 15) (M := M2) 40 0 (by omega)
  rw [rpre_0, mrow_self] at z5
  obtain ⟨M3, hM3⟩ : ∃ M3, M3 = mset (mrow M2 92 (rpre 40 (M2 101) (M2 92))) 84 13 40 := ⟨_, rfl⟩
  have c1 : ∀ a, a ≠ 84 → a ≠ 92 → M3 a = M2 a := fun a h1 h2 => by rw [hM3, mset_ne _ _ _ h1, mrow_ne _ _ h2]
  have c92 : M3 92 = rpre 40 (M2 101) (M2 92) := by rw [hM3, mset_ne _ _ _ (by omega), mrow_eq]
  have c84 : M3 84 = fset (fset (fset (fset (fun _ => 0) 3 10) 4 (-1)) 43 (-1)) 13 40 := by
    rw [hM3, mset_row, mrow_eq, mrow_ne _ _ (by omega), b84]
  obtain ⟨M4, fr, d13, hr⟩ := mtx_ (f := sT) (sz := 40) (ts := ts0) (M := M3) (t := 0) hS (by omega) (by rw [c84]; rfl) (fun k hk => by rw [c92, rpre_lt hk, b101]; exact R101_v k hk) (fun i hi => by rw [c1 102 (by omega) (by omega), b102]; exact R102_v i hi) (by rw [c84]; rfl) (by omega) lx0 (by decide)
  rw [tx0] at hr
  rcases hr with ⟨q, hq, _⟩ | ⟨o1, o2, o3, hv, zt, e16, ecp, s0, s1, s2, s3, _⟩
  · cases hq
  · cases hv
    have e84 : ∀ j, j < 26 ∨ 34 < j → j ≠ 13 → j ≠ 16 → M4 84 j = M3 84 j := fr.2.1
    have g : ∀ a, a ≠ 84 → a ≠ 93 → a ≠ 94 → a ≠ 103 → M4 a = M3 a := fr.1
    refine ⟨M4, ?_, fun a ha => ?_, fun a ha => ?_, fun i hi => ?_, fun i hi => ?_, ⟨?_, ?_, ?_, ?_, ?_, d13, e16, ?_, ?_, ?_⟩, ecp, s0, s1, s2, s3⟩
    · rw [z1, z2, z3, z4]
      refine Eq.trans z5 ?_
      simp (disch := omega) only [g105_1049, g105_1051t, g105_1051f, g105_1054, g105_1055, g105_1058, g105_1059, g105_1060, g105_1063, g105_1064, g105_1065, g105_1066, g105_1069, g105_1072, g105_1073, g105_1075, g105_1078, g105_1079, g105_1082, g105_1083, cont_1, cont_0, w32_o, ← hM3, zt]
    · rw [g a (by omega) (by omega) (by omega) (by omega), c1 a (by omega) (by omega)]
      exact b1 a (by omega) (by omega) (by omega) (by omega)
    · rw [g a (by omega) (by omega) (by omega) (by omega), c1 a (by omega) (by omega), b1 a (by omega) (by omega) (by omega) (by omega)]
      exact hz a (by omega)
    · rw [g 98 (by omega) (by omega) (by omega) (by omega), c1 98 (by omega) (by omega), b98]
      exact R98_v i hi
    · rw [g 102 (by omega) (by omega) (by omega) (by omega), c1 102 (by omega) (by omega), b102]
      exact R102_v i hi
    · rw [e84 2 (by omega) (by omega) (by omega), c84]; rfl
    · rw [e84 3 (by omega) (by omega) (by omega), c84]; rfl
    · rw [e84 4 (by omega) (by omega) (by omega), c84]; rfl
    · rw [e84 5 (by omega) (by omega) (by omega), c84]; rfl
    · rw [e84 9 (by omega) (by omega) (by omega), c84]; rfl
    · rw [e84 17 (by omega) (by omega) (by omega), c84]; rfl
    · rw [e84 18 (by omega) (by omega) (by omega), c84]; rfl
    · rw [e84 43 (by omega) (by omega) (by omega), c84]; rfl
