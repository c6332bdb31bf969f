/-! clouds by lots -/
def rpre (i : Nat) (g f : Nat → Int) : Nat → Int := fun j => if j < i then g j else f j
theorem rpre_s {i : Nat} {g f : Nat → Int} {v : Int} (h : v = g i) : fset (rpre i g f) i v = rpre (i + 1) g f := by
  funext k
  unfold fset rpre
  by_cases e : k = i
  · rw [if_pos e, if_pos (by omega), h, e]
  · rw [if_neg e]
    by_cases e2 : k < i
    · rw [if_pos e2, if_pos (by omega)]
    · rw [if_neg e2, if_neg (by omega)]
theorem rpre_0 {g f : Nat → Int} : rpre 0 g f = f := rfl
theorem rpre_ge {i k : Nat} {g f : Nat → Int} (h : i ≤ k) : rpre i g f k = f k := if_neg (Nat.not_lt.mpr h)
theorem rpre_lt {i k : Nat} {g f : Nat → Int} (h : k < i) : rpre i g f k = g k := if_pos h
theorem mset_mrow_c {M : Mem} {a b k : Nat} {f : Nat → Int} {v : Int} (h : b ≠ a) : mset (mrow M a f) b k v = mrow (mset M b k v) a f := by
  funext c j
  unfold mset mrow
  by_cases h1 : c = a
  · rw [if_pos h1, if_neg (fun z => h (z.1.symm.trans h1)), if_pos h1]
  · rw [if_neg h1, if_neg h1]
def lotN (l : Int) : Int := w64 (Int.tmod (w64 (l * 48271)) 2147483647)
def lotS (s : Int) : Nat → Int
  | 0 => w64 (s + 1)
  | k + 1 => lotN (lotS s k)
def drwF (s od : Int) : Nat → Int := fun m => if w64 (Int.tmod (lotS s (m + 1)) 100) < od then 1 else 0
theorem drwF_01 (s od : Int) (k : Nat) : drwF s od k = 0 ∨ drwF s od k = 1 := by
  unfold drwF
  split
  · exact Or.inr rfl
  · exact Or.inl rfl
theorem lc_t {x y : Int} (h : x < y) : (if x < y then (-1 : Int) else if x = y then 0 else 1) = -1 := if_pos h
theorem lc_f {x y : Int} (h : ¬ x < y) : 0 ≤ (if x < y then (-1 : Int) else if x = y then 0 else 1) := by
  rw [if_neg h]
  split <;> omega
theorem g93_42b (r : Nat) (l0 l1 l2 l3 l4 l5 : Option AV) (s0 s1 : AV) (x y : Int) (M : Mem) (S : Sh) : go r 93 42 [l0, l1, l2, l3, l4, l5] [aL y, aL x, s0, s1] M S = go r 93 51 [l0, l1, l2, l3, l4, l5] [aI (if x < y then 1 else 0), s0, s1] M S := by
  rw [g93_42]
  by_cases h : x < y
  · rw [lc_t h, if_pos h]
    simp (disch := omega) only [g93_43f, g93_46, g93_47]
  · rw [g93_43, if_neg h, if_neg h, if_pos (by split <;> omega)]
    simp (disch := omega) only [g93_50]
theorem g167_53b (r : Nat) (l0 l1 l2 l3 l4 l5 l6 : Option AV) (s0 s1 : AV) (x y : Int) (M : Mem) (S : Sh) : go r 167 53 [l0, l1, l2, l3, l4, l5, l6] [aL y, aL x, s0, s1] M S = go r 167 62 [l0, l1, l2, l3, l4, l5, l6] [aI (if x < y then 1 else 0), s0, s1] M S := by
  rw [g167_53]
  by_cases h : x < y
  · rw [lc_t h, if_pos h]
    simp (disch := omega) only [g167_54f, g167_57, g167_58]
  · rw [g167_54, if_neg h, if_neg h, if_pos (by split <;> omega)]
    simp (disch := omega) only [g167_61]
theorem dc_loop {n r : Nat} {s od : Int} {f : Nat → Int} {M : Mem} {S : Sh} (hr : 10 < r) (hS : Std n S) : ∀ (rem k : Nat), k + rem = 192 → go r 93 8 [some (aR 6), some (aI s), some (aI od), some (aL (lotS s k)), none, some (aI (k : Int))] [] (mrow M 19 (rpre k (drwF s od) f)) S = some (none, mrow M 19 (rpre 192 (drwF s od) f), S) := by
  have k6 := K6 hS
  have k17 := K17 hS
  have k19 := K19 hS
  have l19 := L19 hS
  intro rem
  induction rem with
  | zero =>
    intro k hk
    have e : k = 192 := by omega
    subst e
    rw [g93_8]
    simp (disch := omega) only [g93_0, g93_1, g93_2, g93_3, g93_4, g93_5, g93_6, g93_10, g93_13t, g93_13f, g93_16, g93_17, g93_20, g93_21, g93_24, g93_25, g93_26, g93_27, g93_30, g93_33, g93_35, g93_36, g93_39, g93_40, g93_41, g93_51, g93_54, g93_57, g93_60, cont_1, cont_0, w32_k, g93_42b]
  | succ rem ih =>
    intro k hk
    have z := ih (k + 1) (by omega)
    rw [nc_1] at z
    rw [g93_8, ← z]
    simp (disch := omega) only [g93_0, g93_1, g93_2, g93_3, g93_4, g93_5, g93_6, g93_10, g93_13t, g93_13f, g93_16, g93_17, g93_20, g93_21, g93_24, g93_25, g93_26, g93_27, g93_30, g93_33, g93_35, g93_36, g93_39, g93_40, g93_41, g93_51, g93_54, g93_57, g93_60, cont_1, cont_0, w32_k, g93_42b, put_in, P6_1 hS, P17_1 hS, mset_mrow, Int.toNat_natCast]
    rw [rpre_s (by unfold drwF; rfl)]
    rfl
theorem drawClouds_ {n : Nat} {s od : Int} {M : Mem} {S : Sh} (hS : Std n S) : res 93 [aR 6, aI s, aI od] M S = some (none, mrow M 19 (rpre 192 (drwF s od) (M 19)), S) := by
  have z := dc_loop (r := 11) (s := s) (od := od) (f := M 19) (M := M) (by omega) hS 192 0 (by omega)
  rw [rpre_0, mrow_self] at z
  rw [g93]
  simp (disch := omega) only [g93_0, g93_1, g93_2, g93_3, g93_4, g93_5, g93_6, g93_10, g93_13t, g93_13f, g93_16, g93_17, g93_20, g93_21, g93_24, g93_25, g93_26, g93_27, g93_30, g93_33, g93_35, g93_36, g93_39, g93_40, g93_41, g93_51, g93_54, g93_57, g93_60, cont_1, cont_0, w32_k, g93_42b]
  exact z
theorem fb_loop {n r : Nat} {s od : Int} {f g : Nat → Int} {M : Mem} {S : Sh} {l6 : Option AV} (hS : Std n S) : ∀ (rem k : Nat), k + rem = 192 → go r 167 8 [some (aR 84), some (aI s), some (aI od), some (aL (lotS s k)), none, some (aI (k : Int)), l6] [] (mrow (mrow M 109 (rpre k f g)) 86 (rpre k (drwF s od) f)) S = go r 167 69 [some (aR 84), some (aI s), some (aI od), some (aL (lotS s 192)), none, some (aI 192), l6] [] (mrow (mrow M 109 (rpre 192 f g)) 86 (rpre 192 (drwF s od) f)) S := by
  have k84 := K84 hS
  have k86 := K86 hS
  have k109 := K109 hS
  have l86 := L86 hS
  have l109 := L109 hS
  intro rem
  induction rem with
  | zero =>
    intro k hk
    have e : k = 192 := by omega
    subst e
    rw [g167_8]
    simp (disch := omega) only [g167_0, g167_1, g167_2, g167_3, g167_4, g167_5, g167_6, g167_10, g167_13t, g167_13f, g167_16, g167_17, g167_20, g167_22, g167_23, g167_26, g167_28, g167_29, g167_30, g167_31, g167_34, g167_35, g167_38, g167_39, g167_40, g167_41, g167_44, g167_46, g167_47, g167_50, g167_51, g167_52, g167_62, g167_63, g167_66, g167_69, g167_70, g167_73, g167_75, g167_76, g167_80, g167_83t, g167_83f, g167_86, g167_87, g167_90, g167_92, g167_93, g167_96, g167_98, g167_99, g167_100, g167_103, g167_106, g167_108, cont_1, cont_0, w32_k, g167_53b]
    rfl
  | succ rem ih =>
    intro k hk
    have z := ih (k + 1) (by omega)
    rw [nc_1] at z
    rw [g167_8, ← z]
    simp (disch := omega) only [g167_0, g167_1, g167_2, g167_3, g167_4, g167_5, g167_6, g167_10, g167_13t, g167_13f, g167_16, g167_17, g167_20, g167_22, g167_23, g167_26, g167_28, g167_29, g167_30, g167_31, g167_34, g167_35, g167_38, g167_39, g167_40, g167_41, g167_44, g167_46, g167_47, g167_50, g167_51, g167_52, g167_62, g167_63, g167_66, g167_69, g167_70, g167_73, g167_75, g167_76, g167_80, g167_83t, g167_83f, g167_86, g167_87, g167_90, g167_92, g167_93, g167_96, g167_98, g167_99, g167_100, g167_103, g167_106, g167_108, cont_1, cont_0, w32_k, g167_53b, P84_1 hS, P84_46 hS, mrow_eq, mrow_ne, mset_mrow, mset_mrow_c, Int.toNat_natCast, rpre_ge]
    rw [rpre_s (g := f) rfl, rpre_s (g := drwF s od) (by unfold drwF; rfl)]
    rfl
theorem fr_loop {n r : Nat} {cv : Int} {f g : Nat → Int} {M : Mem} {S : Sh} {l1 l2 l3 l4 : Option AV} (hS : Std n S) (h109 : M 109 = g) : ∀ (rem k : Nat), k + rem = 192 → go r 167 78 [some (aR 84), l1, l2, l3, l4, some (aI cv), some (aI (k : Int))] [] (mrow M 86 (rpre k g f)) S = some (some (aI cv), mrow M 86 (rpre 192 g f), S) := by
  have k84 := K84 hS
  have k86 := K86 hS
  have k109 := K109 hS
  have l86 := L86 hS
  have l109 := L109 hS
  intro rem
  induction rem with
  | zero =>
    intro k hk
    have e : k = 192 := by omega
    subst e
    rw [g167_78]
    simp (disch := omega) only [g167_0, g167_1, g167_2, g167_3, g167_4, g167_5, g167_6, g167_10, g167_13t, g167_13f, g167_16, g167_17, g167_20, g167_22, g167_23, g167_26, g167_28, g167_29, g167_30, g167_31, g167_34, g167_35, g167_38, g167_39, g167_40, g167_41, g167_44, g167_46, g167_47, g167_50, g167_51, g167_52, g167_62, g167_63, g167_66, g167_69, g167_70, g167_73, g167_75, g167_76, g167_80, g167_83t, g167_83f, g167_86, g167_87, g167_90, g167_92, g167_93, g167_96, g167_98, g167_99, g167_100, g167_103, g167_106, g167_108, cont_1, cont_0, w32_k, g167_53b]
  | succ rem ih =>
    intro k hk
    have z := ih (k + 1) (by omega)
    rw [nc_1] at z
    rw [g167_78, ← z]
    simp (disch := omega) only [g167_0, g167_1, g167_2, g167_3, g167_4, g167_5, g167_6, g167_10, g167_13t, g167_13f, g167_16, g167_17, g167_20, g167_22, g167_23, g167_26, g167_28, g167_29, g167_30, g167_31, g167_34, g167_35, g167_38, g167_39, g167_40, g167_41, g167_44, g167_46, g167_47, g167_50, g167_51, g167_52, g167_62, g167_63, g167_66, g167_69, g167_70, g167_73, g167_75, g167_76, g167_80, g167_83t, g167_83f, g167_86, g167_87, g167_90, g167_92, g167_93, g167_96, g167_98, g167_99, g167_100, g167_103, g167_106, g167_108, cont_1, cont_0, w32_k, g167_53b, P84_1 hS, P84_46 hS, mrow_ne, mset_mrow, Int.toNat_natCast, h109]
    rw [rpre_s (g := g) rfl]
theorem flownBy_ {n : Nat} {s od : Int} {sc : Nat → Int} {M Y : Mem} {S : Sh} (hS : Std n S) (hI : Inv sc M) (hY : FrM M Y) : ∃ Y', res 167 [aR 84, aI s, aI od] Y S = some (some (aI ((cnt (mskF (drwF s od) (flC M 7).1.1) 1 192 : Nat) : Int)), Y', S) ∧ FrM M Y' := by
  have k84 := K84 hS
  have z1 := fb_loop (r := 18) (s := s) (od := od) (f := Y 86) (g := Y 109) (M := Y) (l6 := none) hS 192 0 (by omega)
  rw [rpre_0, rpre_0, mrow_self, mrow_self] at z1
  obtain ⟨Y2, f2, a2⟩ := fly_clouds (Y := mrow (mrow Y 109 (rpre 192 (Y 86) (Y 109))) 86 (rpre 192 (drwF s od) (Y 86))) hS hI (fun j hj => by
    rw [mrow_ne _ _ (by omega), mrow_ne _ _ (by omega)]
    exact hY.2 j hj) (fun x h0 h1 h2 => by
    rw [mrow_ne _ _ h2, mrow_ne _ _ (by omega)]
    exact hY.1 x (by omega) (by omega)) (fun k hk => by
    rw [mrow_eq, rpre_lt hk]
    exact drwF_01 s od k)
  rw [mrow_eq, cnt_ext (f := mskF (rpre 192 (drwF s od) (Y 86)) (flC M 7).1.1) (g := mskF (drwF s od) (flC M 7).1.1) (fun k hk => by
    unfold mskF
    rw [rpre_lt hk])] at f2
  have e109 : Y2 109 = rpre 192 (Y 86) (Y 109) := by
    rw [a2.1.1 109 (by omega) (by omega), mrow_ne _ _ (by omega), mrow_eq]
  have e86 : Y2 86 = rpre 192 (drwF s od) (Y 86) := by
    rw [a2.1.1 86 (by omega) (by omega), mrow_eq]
  have z2 := fr_loop (r := 18) (cv := ((cnt (mskF (drwF s od) (flC M 7).1.1) 1 192 : Nat) : Int)) (f := Y2 86) (M := Y2) (l1 := some (aI s)) (l2 := some (aI od)) (l3 := some (aL (lotS s 192))) (l4 := none) hS e109 192 0 (by omega)
  rw [rpre_0, mrow_self] at z2
  have hback : rpre 192 (rpre 192 (Y 86) (Y 109)) (Y2 86) = Y 86 := by
    funext k
    unfold rpre
    by_cases h : k < 192
    · rw [if_pos h, if_pos h]
    · rw [if_neg h, e86]
      exact rpre_ge (by omega)
  rw [hback] at z2
  refine ⟨mrow Y2 86 (Y 86), ?_, fun x e1 e2 => ?_, fun j hj => ?_⟩
  · rw [g167]
    simp (disch := omega) only [g167_0, g167_1, g167_2, g167_3, g167_4, g167_5, g167_6, g167_10, g167_13t, g167_13f, g167_16, g167_17, g167_20, g167_22, g167_23, g167_26, g167_28, g167_29, g167_30, g167_31, g167_34, g167_35, g167_38, g167_39, g167_40, g167_41, g167_44, g167_46, g167_47, g167_50, g167_51, g167_52, g167_62, g167_63, g167_66, g167_69, g167_70, g167_73, g167_75, g167_76, g167_80, g167_83t, g167_83f, g167_86, g167_87, g167_90, g167_92, g167_93, g167_96, g167_98, g167_99, g167_100, g167_103, g167_106, g167_108, cont_1, cont_0, w32_k, g167_53b]
    refine Eq.trans z1 ?_
    simp (disch := omega) only [g167_0, g167_1, g167_2, g167_3, g167_4, g167_5, g167_6, g167_10, g167_13t, g167_13f, g167_16, g167_17, g167_20, g167_22, g167_23, g167_26, g167_28, g167_29, g167_30, g167_31, g167_34, g167_35, g167_38, g167_39, g167_40, g167_41, g167_44, g167_46, g167_47, g167_50, g167_51, g167_52, g167_62, g167_63, g167_66, g167_69, g167_70, g167_73, g167_75, g167_76, g167_80, g167_83t, g167_83f, g167_86, g167_87, g167_90, g167_92, g167_93, g167_96, g167_98, g167_99, g167_100, g167_103, g167_106, g167_108, cont_1, cont_0, w32_k, g167_53b, f2]
    exact z2
  · by_cases e3 : x = 86
    · rw [e3, mrow_eq]
      exact hY.1 86 (by omega) (by omega)
    · rw [mrow_ne _ _ e3, a2.1.1 x e1 (by omega), mrow_ne _ _ e3]
      by_cases e4 : x = 109
      · omega
      · rw [mrow_ne _ _ e4]
        exact hY.1 x e1 e2
  · rw [mrow_ne _ _ (by omega), a2.1.2 j (by omega), mrow_ne _ _ (by omega), mrow_ne _ _ (by omega)]
    exact hY.2 j hj
/-- how many miles would be covered, the clouds being by such lots -/
def cvL (M : Mem) (s od : Int) : Int := ((cnt (mskF (drwF s od) (flC M 7).1.1) 1 192 : Nat) : Int)
theorem covL {n : Nat} {s od : Int} {M X : Mem} {S : Sh} (hS : Std n S) (ho : ∀ k, k < 192 → X 41 k = (flC M 7).1.1 k) : res 8 [aR 40, aR 19, aI 1] (mrow X 19 (rpre 192 (drwF s od) (X 19))) S = some (some (aI (cvL M s od)), mrow X 19 (rpre 192 (drwF s od) (X 19)), S) := by
  rw [cov_ hS (K19 hS) (L19 hS)]
  unfold cvL
  rw [cnt_ext (f := mskF (mrow X 19 (rpre 192 (drwF s od) (X 19)) 19) (mrow X 19 (rpre 192 (drwF s od) (X 19)) 41)) (g := mskF (drwF s od) (flC M 7).1.1) (fun k hk => by
    unfold mskF
    rw [mrow_eq, rpre_lt hk, mrow_ne _ _ (by omega), ho k hk])]
theorem FrC_19 {M X : Mem} {f : Nat → Int} (h : FrC M X) : FrC M (mrow X 19 f) := fun a ha => by
  rw [mrow_ne _ _ (by unfold scrC at ha; omega)]
  exact h a ha
theorem p_drawn {x1 x2 : Int} {n : Nat} {sc : Nat → Int} {M : Mem} {S : Sh} (hS : Std n S) (hI : Inv sc M) : Pr (res 75 [aR 6, aI x1, aI x2] M S) (PQ 168 [aR 84, aI x1, aI x2] n S.2.2.2.1 S.2.2.2.2 sc) := by
  have k6 := K6 hS
  have k17 := K17 hS
  have k40 := K40 hS
  have k84 := K84 hS
  rcases (by omega : x1 < 0 ∨ (0 ≤ x1 ∧ 99999 < x1) ∨ ((0 ≤ x1 ∧ x1 ≤ 99999) ∧ x2 < 0) ∨ ((0 ≤ x1 ∧ x1 ≤ 99999) ∧ (0 ≤ x2 ∧ 100 < x2)) ∨ ((0 ≤ x1 ∧ x1 ≤ 99999) ∧ (0 ≤ x2 ∧ x2 ≤ 100))) with hx | hx | hx | hx | hx
  · refine PQ_mk (v := aI (-2)) (M1 := M) (M2 := M) ?_ ?_ hI hS
    · rw [g75]
      simp (disch := omega) only [g75_0, g75_1t, g75_1f, g75_4, g75_5, g75_7t, g75_7f, g75_10, g75_11t, g75_11f, g75_14, g75_15, g75_17t, g75_17f, g75_20, g75_22, g75_23, g75_24, g75_27, g75_28, g75_29, g75_30, g75_33, g75_34, g75_37, g75_38, g75_41, g75_44, g75_45, g75_48, cont_1, cont_0, w32_k]
    · rw [g168]
      simp (disch := omega) only [g168_0, g168_1, g168_2, g168_5, g168_8t, g168_8f, g168_11, g168_12, g168_13, g168_15, g168_18t, g168_18f, g168_21, g168_22, g168_23, g168_24, g168_27, g168_30, g168_32, cont_1, cont_0, w32_k, in_t, in_f]
  · refine PQ_mk (v := aI (-2)) (M1 := M) (M2 := M) ?_ ?_ hI hS
    · rw [g75]
      simp (disch := omega) only [g75_0, g75_1t, g75_1f, g75_4, g75_5, g75_7t, g75_7f, g75_10, g75_11t, g75_11f, g75_14, g75_15, g75_17t, g75_17f, g75_20, g75_22, g75_23, g75_24, g75_27, g75_28, g75_29, g75_30, g75_33, g75_34, g75_37, g75_38, g75_41, g75_44, g75_45, g75_48, cont_1, cont_0, w32_k]
    · rw [g168]
      simp (disch := omega) only [g168_0, g168_1, g168_2, g168_5, g168_8t, g168_8f, g168_11, g168_12, g168_13, g168_15, g168_18t, g168_18f, g168_21, g168_22, g168_23, g168_24, g168_27, g168_30, g168_32, cont_1, cont_0, w32_k, in_t, in_f]
  · refine PQ_mk (v := aI (-2)) (M1 := M) (M2 := M) ?_ ?_ hI hS
    · rw [g75]
      simp (disch := omega) only [g75_0, g75_1t, g75_1f, g75_4, g75_5, g75_7t, g75_7f, g75_10, g75_11t, g75_11f, g75_14, g75_15, g75_17t, g75_17f, g75_20, g75_22, g75_23, g75_24, g75_27, g75_28, g75_29, g75_30, g75_33, g75_34, g75_37, g75_38, g75_41, g75_44, g75_45, g75_48, cont_1, cont_0, w32_k]
    · rw [g168]
      simp (disch := omega) only [g168_0, g168_1, g168_2, g168_5, g168_8t, g168_8f, g168_11, g168_12, g168_13, g168_15, g168_18t, g168_18f, g168_21, g168_22, g168_23, g168_24, g168_27, g168_30, g168_32, cont_1, cont_0, w32_k, in_t, in_f]
  · refine PQ_mk (v := aI (-2)) (M1 := M) (M2 := M) ?_ ?_ hI hS
    · rw [g75]
      simp (disch := omega) only [g75_0, g75_1t, g75_1f, g75_4, g75_5, g75_7t, g75_7f, g75_10, g75_11t, g75_11f, g75_14, g75_15, g75_17t, g75_17f, g75_20, g75_22, g75_23, g75_24, g75_27, g75_28, g75_29, g75_30, g75_33, g75_34, g75_37, g75_38, g75_41, g75_44, g75_45, g75_48, cont_1, cont_0, w32_k]
    · rw [g168]
      simp (disch := omega) only [g168_0, g168_1, g168_2, g168_5, g168_8t, g168_8f, g168_11, g168_12, g168_13, g168_15, g168_18t, g168_18f, g168_21, g168_22, g168_23, g168_24, g168_27, g168_30, g168_32, cont_1, cont_0, w32_k, in_t, in_f]
  · obtain ⟨X, f1, a1⟩ := flyN hS hI
    have fr1 : FrC M (mrow X 19 (rpre 192 (drwF x1 x2) (X 19))) := FrC_19 (FrT_C a1.1)
    have hI1 := Inv_frC hI fr1
    obtain ⟨M2, f2, fr2⟩ := flownBy_ (s := x1) (od := x2) hS hI1 FrM_r
    rw [flC_fr fr1] at f2
    refine PQ_mk (v := aI (cvL M x1 x2)) (M1 := mrow X 19 (rpre 192 (drwF x1 x2) (X 19))) (M2 := M2) ?_ ?_ (Inv_frM hI1 fr2) hS
    · rw [g75]
      simp (disch := omega) only [g75_0, g75_1t, g75_1f, g75_4, g75_5, g75_7t, g75_7f, g75_10, g75_11t, g75_11f, g75_14, g75_15, g75_17t, g75_17f, g75_20, g75_22, g75_23, g75_24, g75_27, g75_28, g75_29, g75_30, g75_33, g75_34, g75_37, g75_38, g75_41, g75_44, g75_45, g75_48, cont_1, cont_0, w32_k, P6_1 hS, P6_9 hS, P17_1 hS, f1, drawClouds_ hS, covL hS a1.2.1]
    · rw [g168]
      simp (disch := omega) only [g168_0, g168_1, g168_2, g168_5, g168_8t, g168_8f, g168_11, g168_12, g168_13, g168_15, g168_18t, g168_18f, g168_21, g168_22, g168_23, g168_24, g168_27, g168_30, g168_32, cont_1, cont_0, w32_k, in_t, f2]
      rfl
