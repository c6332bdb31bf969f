theorem am_hin0 : ∀ w ∈ wsX00, w ∈ wsL_law := fun _ h => List.mem_append_left _ (List.mem_append_left _ (List.mem_append_left _ (List.mem_append_left _ (List.mem_append_right _ h))))
theorem am_hin1 : ∀ w ∈ wsX10, w ∈ wsL_law := fun _ h => List.mem_append_left _ (List.mem_append_left _ (List.mem_append_left _ (List.mem_append_right _ h)))
theorem am_hin2 : ∀ w ∈ wsX20, w ∈ wsL_law := fun _ h => List.mem_append_left _ (List.mem_append_right _ h)
theorem am_hin3 : ∀ w ∈ wsX30, w ∈ wsL_law := fun _ h => List.mem_append_left _ (List.mem_append_left _ (List.mem_append_left _ (List.mem_append_left _ (List.mem_append_left _ (List.mem_append_right _ h)))))
theorem am_hin4 : ∀ w ∈ wsX40, w ∈ wsL_law := fun _ h => List.mem_append_left _ (List.mem_append_left _ (List.mem_append_right _ h))
theorem am_hin5 : ∀ w ∈ wsX50, w ∈ wsL_law := fun _ h => List.mem_append_left _ (List.mem_append_left _ (List.mem_append_left _ (List.mem_append_left _ (List.mem_append_left _ (List.mem_append_left _ (List.mem_append_left _ (List.mem_append_right _ h)))))))
theorem am_hin6 : ∀ w ∈ wsX60, w ∈ wsL_law := fun _ h => List.mem_append_left _ (List.mem_append_left _ (List.mem_append_left _ (List.mem_append_left _ (List.mem_append_left _ (List.mem_append_left _ (List.mem_append_right _ h))))))
def am_T (ci : Nat) : vw_C := vwCl.getD ci (RX0, TX0, 8)
def am_ty (ci : Nat) : Nat → FieldType := match ci with
  | 0 => tyX0
  | 1 => tyX1
  | 2 => tyX2
  | 3 => tyX3
  | 4 => tyX4
  | 5 => tyX5
  | _ => tyX6
theorem lt7 {P : Nat → Prop} (h0 : P 0) (h1 : P 1) (h2 : P 2) (h3 : P 3) (h4 : P 4) (h5 : P 5) (h6 : P 6) : ∀ i, i < 7 → P i
  | 0, _ => h0
  | 1, _ => h1
  | 2, _ => h2
  | 3, _ => h3
  | 4, _ => h4
  | 5, _ => h5
  | 6, _ => h6
  | n + 7, h => absurd h (by omega)
theorem cl_get : ∀ ci, ci < 7 → vwCl[ci]? = some (am_T ci) := lt7 rfl rfl rfl rfl rfl rfl rfl
theorem cl_hin : ∀ ci, ci < 7 → ∀ w ∈ u_ws (am_T ci).1 (am_T ci).2.1 (am_T ci).2.2, w ∈ wsL_law := lt7 am_hin0 am_hin1 am_hin2 am_hin3 am_hin4 am_hin5 am_hin6
theorem cl_ty : ∀ ci, ci < 7 → ∀ k, k < (am_T ci).2.2 → parseFieldDescriptor ((am_T ci).2.1 k).2.2.1 = some (am_ty ci k) := lt7 tyX0_ok tyX1_ok tyX2_ok tyX3_ok tyX4_ok tyX5_ok tyX6_ok
theorem cl_nm : ∀ ci, ci < 7 → ∀ a, a < (am_T ci).2.2 → ∀ b, b < (am_T ci).2.2 → a ≠ b → ((am_T ci).2.1 a).2.1 ≠ ((am_T ci).2.1 b).2.1 := lt7 nmX0 nmX1 nmX2 nmX3 nmX4 nmX5 nmX6
theorem cl_nf : ∀ ci, ci < 7 → (am_T ci).2.2 = am_nf ci := lt7 rfl rfl rfl rfl rfl rfl rfl
def isRefTy (t : FieldType) : Bool := match t with
  | .object _ => true
  | .array _ => true
  | _ => false
theorem cl_ref : ∀ ci, ci < 7 → ∀ k, k < (am_T ci).2.2 → am_isref ci k = isRefTy (am_ty ci k) ∧ (isRefTy (am_ty ci k) = true ∨ am_ty ci k = .int ∨ am_ty ci k = .boolean) := lt7 (by decide +kernel) (by decide +kernel) (by decide +kernel) (by decide +kernel) (by decide +kernel) (by decide +kernel) (by decide +kernel)
def am_tys (E : am_E) : List (ClassId × FieldType) := [(E.2.2.2.1.1, .int), (E.2.2.2.1.2.1, .object RX1), (E.2.2.2.1.2.2, .object RX4)]
def am_NM : List (String × Nat × MethodName × String) := [("StripsFromAbove", 9, ⟨"StripsFromAbove$Scene", "<init>", "()V"⟩, "StripsFromAbove"), ("StripsFromAbove", 40, ⟨"StripsFromAbove$Flight", "<init>", "()V"⟩, "StripsFromAbove"), ("StripsFromAbove", 52, ⟨"StripsFromAbove$Law", "<init>", "()V"⟩, "StripsFromAbove"), ("StripsFromAbove$Reader", 78, ⟨"StripsFromAbove", "at", "([II)I"⟩, "StripsFromAbove"), ("StripsFromAbove$Law", 28, ⟨"StripsFromAbove", "put", "([III)V"⟩, "StripsFromAbove"), ("StripsFromAbove", 57, ⟨"StripsFromAbove$Sheet", "<init>", "()V"⟩, "StripsFromAbove"), ("StripsFromAbove$Scene", 68, ⟨"StripsFromAbove", "at", "([II)I"⟩, "StripsFromAbove"), ("StripsFromAbove$Scene", 64, ⟨"StripsFromAbove", "put", "([III)V"⟩, "StripsFromAbove"), ("StripsFromAbove$Law", 32, ⟨"StripsFromAbove", "at", "([II)I"⟩, "StripsFromAbove"), ("StripsFromAbove$Law", 48, ⟨"StripsFromAbove", "bounded", "(III)I"⟩, "StripsFromAbove"), ("StripsFromAbove$Flight", 45, ⟨"StripsFromAbove", "at", "([II)I"⟩, "StripsFromAbove"), ("StripsFromAbove$Flight", 59, ⟨"StripsFromAbove", "turnMinutes", "(II)I"⟩, "StripsFromAbove"), ("StripsFromAbove$Flight", 73, ⟨"StripsFromAbove", "mileMinutes", "(I)I"⟩, "StripsFromAbove"), ("StripsFromAbove$Flight", 104, ⟨"StripsFromAbove", "driftsAside", "(III)I"⟩, "StripsFromAbove"), ("StripsFromAbove$Flight", 111, ⟨"StripsFromAbove", "seesAside", "(III)I"⟩, "StripsFromAbove"), ("StripsFromAbove$Flight", 126, ⟨"StripsFromAbove", "put", "([III)V"⟩, "StripsFromAbove"), ("StripsFromAbove$Sheet", 28, ⟨"StripsFromAbove", "put", "([III)V"⟩, "StripsFromAbove")]
def am_NF : List (String × Nat × String × String × String × String) := [("StripsFromAbove$Law", 42, "StripsFromAbove", "LEAST_SAID", "[I", "StripsFromAbove"), ("StripsFromAbove$Law", 45, "StripsFromAbove", "MOST_SAID", "[I", "StripsFromAbove")]
def am_tx3 : String := "sees 3 - hill ; drifts wind ; frosts 0 ;"
def am_tx4 : String := "sees  driftsfrostsor    and   not   hill  wind  more  hour  clicksrow   "
def am_byt : List (List Int32) := [[115, 101, 101, 115, 32, 51, 32, 45, 32, 104, 105, 108, 108, 32, 59, 32, 100, 114, 105, 102, 116, 115, 32, 119, 105, 110, 100, 32, 59, 32, 102, 114, 111, 115, 116, 115, 32, 48, 32, 59], [115, 101, 101, 115, 32, 32, 100, 114, 105, 102, 116, 115, 102, 114, 111, 115, 116, 115, 111, 114, 32, 32, 32, 32, 97, 110, 100, 32, 32, 32, 110, 111, 116, 32, 32, 32, 104, 105, 108, 108, 32, 32, 119, 105, 110, 100, 32, 32, 109, 111, 114, 101, 32, 32, 104, 111, 117, 114, 32, 32, 99, 108, 105, 99, 107, 115, 114, 111, 119, 32, 32, 32]]
/-- what stands below the first free address, and the tables -/
def am_SW (E : am_E) (U : State) (H : Heap) : Prop := va_K E.2.2.1 vwCl (am_tys E) U ∧ va_Z "StripsFromAbove" "ABOVE" "[I" (.ref (E.1 0)) (am_A E) U H ∧ va_Z "StripsFromAbove" "LEAST_SAID" "[I" (.ref (E.1 1)) (am_A E) U H ∧ va_Z "StripsFromAbove" "MOST_SAID" "[I" (.ref (E.1 2)) (am_A E) U H ∧
  (∀ a, a < 6 → a ≠ 3 → a ≠ 4 → va_T .int (E.1 a) (E.2.2.2.2.2 a) (fun j => .int (Int32.ofInt (E.2.2.2.2.1 a j))) (am_A E) U H) ∧ (∀ q ∈ am_NM, va_Nw (.methodLinkNest q.1 q.2.1 q.2.2.1 q.2.2.2) U) ∧ (∀ q ∈ am_NF, va_Nw (.fieldLinkNest q.1 q.2.1 q.2.2.1 q.2.2.2.1 q.2.2.2.2.1 q.2.2.2.2.2) U) ∧ va_AO RX1 U ∧ va_AO RX4 U ∧
  vk_S 2 [40, 72] am_byt (fun i => E.1 (3 + i)) (fun i => E.1 (6 + i)) (am_A E) U H ∧ vk_R "StripsFromAbove" 58 am_tx3 (E.1 3) U ∧ vk_R "StripsFromAbove$Reader" 105 am_tx4 (E.1 4) U ∧ va_Z "java/lang/String" "COMPACT_STRINGS" "Z" (.int 1) (am_A E) U H ∧ va_Zq "jdk/internal/util/Preconditions" "SIOOBE_FORMATTER" "Ljava/util/function/BiFunction;" (am_A E) U H
theorem am_SW.go {E : am_E} {s U : State} {H : Heap} {locs : List Loc} (h : am_SW E s s.heap) (hS : va_S (am_A E) s.heap H locs) (hU : U.heap = H) (hW : s.WarmedH U.vm) : am_SW E U U.heap := by
  obtain ⟨h1, h2, h3, h4, h5, h6, h7, h8, h9, h10, h11, h12, h13, h14⟩ := h
  have hk : ∀ a : Nat, a < s.heap.size → ¬ am_A E a → H[a]? = s.heap[a]? := hS.2.1
  rw [hU]
  exact ⟨va_K.moved hW.alike h1, (h2.kept hk).moved hW.alike, (h3.kept hk).moved hW.alike, (h4.kept hk).moved hW.alike, fun a q1 q2 q3 => ((h5 a q1 q2 q3).kept hk).moved hW.alike, fun q hq => va_Nw.warmM hW (h6 q hq), fun q hq => va_Nw.warmF hW (h7 q hq), va_AO.moved hW.alike h8, va_AO.moved hW.alike h9, (h10.kept hk).moved hW.alike, vk_R.warm hW h11, vk_R.warm hW h12, (h13.kept hk).moved hW.alike, (h14.kept hk).moved hW.alike⟩
theorem am_SW.same {E : am_E} {u U : State} (h : am_SW E u u.heap) (hH : U.heap = u.heap) (hv : u.vm = U.vm) : am_SW E U U.heap := by
  obtain ⟨h1, h2, h3, h4, h5, h6, h7, h8, h9, h10, h11, h12, h13, h14⟩ := h
  have ha : u.vm.Alike U.vm := by rw [hv]; exact Vm.Alike.refl _
  rw [hH]
  exact ⟨va_K.moved ha h1, h2.moved ha, h3.moved ha, h4.moved ha, fun a q1 q2 q3 => (h5 a q1 q2 q3).moved ha, fun q hq => va_Nw.same rfl hv (h6 q hq), fun q hq => va_Nw.same rfl hv (h7 q hq), va_AO.moved ha h8, va_AO.moved ha h9, h10.moved ha, vk_R.same hv.symm h11, vk_R.same hv.symm h12, h13.moved ha, h14.moved ha⟩
theorem ro_hi (E : am_E) {a : Nat} (h : 6 ≤ a) : am_ro2 E a = E.2.1 + (a - 6) := by
  unfold am_ro2 am_rho
  rw [if_neg (by omega)]
theorem ro_lo (E : am_E) {a : Nat} (h : a < 6) : am_ro2 E a = E.1 a := by
  unfold am_ro2 am_rho
  rw [if_pos h]
theorem ro_A (E : am_E) {a : Nat} (h : 6 ≤ a) : am_A E (am_ro2 E a) := by
  rw [ro_hi E h]
  exact Nat.le_add_right _ _
theorem HR.lo {E : am_E} {M : Mem} {S : Sh} {H : Heap} (h : HR E M S H) {a : Nat} (hk : S.1 a ≤ 9) (h7 : S.1 a ≠ 7) : 6 ≤ a := by
  rcases Nat.lt_or_ge a 6 with q | q
  · have h1 := (h.2.2.2 a q).1
    split at h1 <;> omega
  · exact q
theorem HR.lt {E : am_E} {M : Mem} {S : Sh} {H : Heap} (h : HR E M S H) {a : Nat} (hk : S.1 a ≤ 9) : a < S.2.2.2.1 := by
  rcases Nat.lt_or_ge a S.2.2.2.1 with q | q
  · exact q
  · have := h.2.2.1 a q
    omega
theorem HR.cell {E : am_E} {M : Mem} {S : Sh} {H : Heap} (h : HR E M S H) {a : Nat} (hk : S.1 a ≤ 9) (h6 : 6 ≤ a) : va_at E.2.2.1 vwCl (am_ro2 E a, am_cell E M S a) H := (h.2.1 a h6 (h.lt hk)).2.2
theorem HR.len {E : am_E} {M : Mem} {S : Sh} {H : Heap} (h : HR E M S H) {a : Nat} (hk : S.1 a ≤ 9) : S.2.1 a ≤ 100000 := by
  rcases Nat.lt_or_ge a 6 with q | q
  · exact (h.2.2.2 a q).2.1
  · exact (h.2.1 a q (h.lt hk)).2.1
theorem P1 {D : va_G} {cl : List vw_C} {q : Nat × va_E} {H : Heap} (h : va_at D cl q H) : va_P D cl [q] H := by
  intro k x hx
  cases k with
  | zero => cases hx; exact h
  | succ k => simp at hx
theorem cell_cong {E : am_E} {M M' : Mem} {S S' : Sh} {a : Nat} (hM : M' a = M a) (hP : S'.2.2.1 a = S.2.2.1 a) (hK : S'.1 a = S.1 a) (hL : S'.2.1 a = S.2.1 a) : am_cell E M' S' a = am_cell E M S a := by
  unfold am_cell
  rw [hK, hL, hM, hP]
  have e : am_fv E M' S' a = am_fv E M S a := by
    funext k
    unfold am_fv
    rw [hK, hM, hP]
  rw [e]
/-- one cell is written -/
theorem HR.put {E : am_E} {M M' : Mem} {S S' : Sh} {H H1 : Heap} (h : HR E M S H) {a : Nat} (h6 : 6 ≤ a) (hM : ∀ b, b ≠ a → M' b = M b) (hP : ∀ b, b ≠ a → S'.2.2.1 b = S.2.2.1 b) (hK : S'.1 = S.1) (hL : S'.2.1 = S.2.1) (hN : S'.2.2.2.1 = S.2.2.2.1) (z : H1.size = H.size) (o : ∀ q, q ≠ am_ro2 E a → H1[q]? = H[q]?) (hc : va_at E.2.2.1 vwCl (am_ro2 E a, am_cell E M' S' a) H1) : HR E M' S' H1 := by
  refine ⟨by rw [hN, z]; exact h.1, fun b hb1 hb2 => ?_, fun b hb => by rw [hK]; exact h.2.2.1 b (by rw [← hN]; exact hb), fun b hb => ?_⟩
  · rw [hN] at hb2
    obtain ⟨g1, g2, g3⟩ := h.2.1 b hb1 hb2
    refine ⟨by rw [hK]; exact g1, by rw [hL]; exact g2, ?_⟩
    by_cases e : b = a
    · rw [e]; exact hc
    · rw [cell_cong (M := M) (S := S) (hM b e) (hP b e) (by rw [hK]) (by rw [hL])]
      refine g3.kept (o _ fun z => e ?_)
      dsimp only at z
      rw [ro_hi E hb1, ro_hi E h6] at z
      omega
  · rw [hK, hL, hM b (by omega)]
    exact h.2.2.2 b hb
/-- a cell comes -/
theorem HR.add {E : am_E} {M M' : Mem} {S S' : Sh} {H H1 : Heap} (h : HR E M S H) (hM : ∀ b, b ≠ S.2.2.2.1 → M' b = M b) (hP : ∀ b, b ≠ S.2.2.2.1 → S'.2.2.1 b = S.2.2.1 b) (hK : ∀ b, b ≠ S.2.2.2.1 → S'.1 b = S.1 b) (hL : ∀ b, b ≠ S.2.2.2.1 → S'.2.1 b = S.2.1 b) (hN : S'.2.2.2.1 = S.2.2.2.1 + 1) (z : H1.size = H.size + 1) (o : ∀ q, q < H.size → H1[q]? = H[q]?) (hk9 : S'.1 S.2.2.2.1 ≤ 9) (hl9 : S'.2.1 S.2.2.2.1 ≤ 100000) (hc : va_at E.2.2.1 vwCl (H.size, am_cell E M' S' S.2.2.2.1) H1) : HR E M' S' H1 := by
  obtain ⟨⟨n1, n2⟩, h2, h3, h4⟩ := h
  refine ⟨by rw [hN, z]; omega, fun b hb1 hb2 => ?_, fun b hb => ?_, fun b hb => ?_⟩
  · by_cases e : b = S.2.2.2.1
    · rw [e]
      refine ⟨hk9, hl9, ?_⟩
      rw [ro_hi E n1, show E.2.1 + (S.2.2.2.1 - 6) = H.size by omega]
      exact hc
    · obtain ⟨g1, g2, g3⟩ := h2 b hb1 (by omega)
      refine ⟨by rw [hK b e]; exact g1, by rw [hL b e]; exact g2, ?_⟩
      rw [cell_cong (M := M) (S := S) (hM b e) (hP b e) (hK b e) (hL b e)]
      refine g3.kept (o _ ?_)
      show am_ro2 E b < H.size
      rw [ro_hi E hb1]
      omega
  · rw [hK b (by omega)]
    exact h3 b (by omega)
  · rw [hK b (by omega), hL b (by omega), hM b (by omega)]
    exact h4 b hb
theorem ty1 (E : am_E) : (am_tys E)[0]? = some (E.2.2.2.1.1, FieldType.int) := rfl
theorem cellI {E : am_E} {M : Mem} {S : Sh} {a : Nat} (h : S.1 a = 7) : am_cell E M S a = .inl (E.2.2.2.1.1, (S.2.1 a, .inl (fun k => Int32.ofInt (M a k)))) := by
  unfold am_cell
  rw [if_neg (by omega), if_pos h]
theorem cellR {E : am_E} {M : Mem} {S : Sh} {a : Nat} (h : S.1 a = 8 ∨ S.1 a = 9) : am_cell E M S a = .inl (if S.1 a = 8 then E.2.2.2.1.2.1 else E.2.2.2.1.2.2, (S.2.1 a, .inr (.inr (.inr (.inr (fun k => (S.2.2.1 a k).map (am_ro2 E))))))) := by
  unfold am_cell
  rw [if_neg (by omega), if_neg (by omega)]
theorem cellO {E : am_E} {M : Mem} {S : Sh} {a : Nat} (h : S.1 a < 7) : am_cell E M S a = .inr (S.1 a, (List.range (am_nf (S.1 a))).map (am_fv E M S a)) := by
  unfold am_cell
  rw [if_pos h]
theorem fs_get {f : Nat → Value} {n k : Nat} (h : k < n) : ((List.range n).map f)[k]? = some (f k) := by
  rw [List.getElem?_map, List.getElem?_range h]
  rfl
theorem fs_set {f g : Nat → Value} {n k : Nat} (h : ∀ j, j ≠ k → g j = f j) : ((List.range n).map f).set k (g k) = (List.range n).map g := by
  apply List.ext_getElem?
  intro j
  rw [List.getElem?_set]
  by_cases e : k = j
  · subst e
    rw [if_pos rfl]
    by_cases e2 : k < n
    · rw [if_pos (by simpa using e2), fs_get e2]
    · rw [if_neg (by simpa using e2)]
      simp [List.getElem?_map, List.getElem?_range, e2]
  · rw [if_neg e]
    by_cases e2 : j < n
    · rw [fs_get e2, fs_get e2, h j (fun z => e z.symm)]
    · simp [List.getElem?_map, e2]
theorem so_getI {p : Program} {l : Launch} {e : Env} {R : Room} {s : State} {mi : MethodId} {args : Array Value} {below : List Frame} {meth : Method} {c : Code} {Q : State → Prop} {E : am_E} {N0 U0 nL : Nat} {lg : List Nat} {cc : ByteArray} {pc : Nat} {ls : Lsl} {M : Mem} {S : Sh} {t : List AV} {own : String} (hown : s.vm.findClass own = some mi.cls) (hts : ∀ w ∈ wsL_law, w.before args s = true) (hSW : am_SW E s s.heap) {ci fk idx a : Nat} (hci : ci < 7) (hfk : fk < (am_T ci).2.2) (hx : p.tables.exec = Jvm.exec) (hb : c.code = cc) (hlink : (Jvm.Cond.fieldLink own idx ((am_T ci).2.1 fk).1 ((am_T ci).2.1 fk).2.1 ((am_T ci).2.1 fk).2.2.1).before args s = true) (hrf : am_isref ci fk = false) (hK : S.1 a = ci) (hd : decode cc pc = .ok (.getfield idx, 3)) (k : GW p l e R s mi args below meth c Q E N0 U0 nL lg (pc + 3) (ls) (aI (M a fk) :: t) (M) (S)) : GW p l e R s mi args below meth c Q E N0 U0 nL lg (pc) (ls) (aR a :: t) (M) (S) := by
  intro H locs cells slots larr hy
  have ho := hy.ok
  obtain ⟨hR, hL, hS, hM, -⟩ := id hy
  have h6 : 6 ≤ a := hR.lo (by omega) (by omega)
  have hc := hR.cell (by omega) h6
  rw [cellO (by omega), hK] at hc
  have hv : ((List.range (am_nf ci)).map (am_fv E M S a))[fk]? = some (am_fv E M S a fk) := fs_get (by rw [← cl_nf ci hci]; exact hfk)
  have he : am_fv E M S a fk = am_tr E (aI (M a fk)) := by
    unfold am_fv
    rw [hK, hrf]
    rfl
  rw [he] at hv
  refine va_get (ci := ci) (C := (am_T ci).1) (T := (am_T ci).2.1) (N := (am_T ci).2.2) hx hb hts (cl_hin ci hci) hown hSW.1 (P1 hc) 0 rfl (cl_get ci hci) fk hfk hlink (fun _ z => z) hv hd ?_
  exact k H locs cells slots larr (hy.st ⟨hM a fk, ho.2⟩)
theorem so_getO {p : Program} {l : Launch} {e : Env} {R : Room} {s : State} {mi : MethodId} {args : Array Value} {below : List Frame} {meth : Method} {c : Code} {Q : State → Prop} {E : am_E} {N0 U0 nL : Nat} {lg : List Nat} {cc : ByteArray} {pc : Nat} {ls : Lsl} {M : Mem} {S : Sh} {t : List AV} {own : String} (hown : s.vm.findClass own = some mi.cls) (hts : ∀ w ∈ wsL_law, w.before args s = true) (hSW : am_SW E s s.heap) {ci fk idx a : Nat} (hci : ci < 7) (hfk : fk < (am_T ci).2.2) (hx : p.tables.exec = Jvm.exec) (hb : c.code = cc) (hlink : (Jvm.Cond.fieldLink own idx ((am_T ci).2.1 fk).1 ((am_T ci).2.1 fk).2.1 ((am_T ci).2.1 fk).2.2.1).before args s = true) (hrf : am_isref ci fk = true) (hK : S.1 a = ci) (hd : decode cc pc = .ok (.getfield idx, 3)) (k : GW p l e R s mi args below meth c Q E N0 U0 nL lg (pc + 3) (ls) (aO (S.2.2.1 a fk) :: t) (M) (S)) : GW p l e R s mi args below meth c Q E N0 U0 nL lg (pc) (ls) (aR a :: t) (M) (S) := by
  intro H locs cells slots larr hy
  have ho := hy.ok
  obtain ⟨hR, hL, hS, hM, -⟩ := id hy
  have h6 : 6 ≤ a := hR.lo (by omega) (by omega)
  have hc := hR.cell (by omega) h6
  rw [cellO (by omega), hK] at hc
  have hv : ((List.range (am_nf ci)).map (am_fv E M S a))[fk]? = some (am_fv E M S a fk) := fs_get (by rw [← cl_nf ci hci]; exact hfk)
  have he : am_fv E M S a fk = am_tr E (aO (S.2.2.1 a fk)) := by
    unfold am_fv
    rw [hK, hrf]
    rfl
  rw [he] at hv
  refine va_get (ci := ci) (C := (am_T ci).1) (T := (am_T ci).2.1) (N := (am_T ci).2.2) hx hb hts (cl_hin ci hci) hown hSW.1 (P1 hc) 0 rfl (cl_get ci hci) fk hfk hlink (fun _ z => z) hv hd ?_
  exact k H locs cells slots larr (hy.st ⟨trivial, ho.2⟩)
theorem sx_put {p : Program} {l : Launch} {e : Env} {R : Room} {s : State} {m : MethodId} {args : Array Value} {below : List Frame} {meth : Method} {c : Code} {H : Heap} {locs : List Loc} {cells slots : Nat} {Q : State → Prop} {cc : ByteArray} {pc : Nat} {ls : Array Slot} {rest : List Value} {D : va_G} {cl : List vw_C} {tys : List (ClassId × FieldType)} {a : Nat} (hx : p.tables.exec = Jvm.exec) (hb : c.code = cc) {own C : String} {T : u_T} {N ci index : Nat} {Ts : List Jvm.Cond} (hts : ∀ w ∈ Ts, w.before args s = true) (hin : ∀ w ∈ u_ws C T N, w ∈ Ts) (ty0 : Nat → FieldType) (hty : ∀ k, k < N → parseFieldDescriptor (T k).2.2.1 = some (ty0 k)) (hnm : ∀ a, a < N → ∀ b, b < N → a ≠ b → (T a).2.1 ≠ (T b).2.1) (hown : s.vm.findClass own = some m.cls) (hK : va_K D cl tys s) {fs : List Value} (he : va_at D cl (a, .inr (ci, fs)) H) (hc : cl[ci]? = some (C, T, N)) (k : Nat) (hk : k < N) (hlink : (Jvm.Cond.fieldLink own index (T k).1 (T k).2.1 (T k).2.2.1).before args s = true) (hfin : (T k).2.2.2 = false ∨ ((T k).2.2.2 = true ∧ meth.name = "<init>" ∧ (T k).1 = own)) {v : Value} (hn : narrow (ty0 k) v = v) (hfit : fits (ty0 k) v = true) (hl : k < fs.length) (hdg : decode cc pc = .ok (.putfield index, 3))
    (kk : ∀ (H1 : Heap) (i : Nat), va_at D cl (a, .inr (ci, fs.set k v)) H1 → H1.size = H.size → (∀ q, q ≠ a → H1[q]? = H[q]?) → W p l e R s m args below meth c H1 (locs ++ [⟨a, i⟩]) cells slots Q (F0 m (pc + 3) ls rest)) : W p l e R s m args below meth c H locs cells slots Q (F0 m pc ls (v :: .ref a :: rest)) := by
  have hap := va_apart (own := own) hts hin ty0 hty hnm hK hc
  obtain ⟨r, h1, cell, q1, q2, q3, q4⟩ := he
  have hr : r = (C, T, N) := Option.some.inj (h1.symm.trans hc)
  subst hr
  obtain ⟨hS, hfc, kC, hkC, hkind⟩ := hK.1 ci _ hc
  obtain ⟨cf, kf, fi, f, hi, hsl⟩ := hS k hk
  have hlay := hts _ (hin _ (u_in_lay hk))
  unfold u_lay at hlay
  have hst := (u_facts hfc hkC (u_lays hts hin hk) hi).1
  have fin : ∀ H' : Heap, H'[a]? = some (cell.setSlot f.slot v) → H'.size = H.size → (∀ q, q ≠ a → H'[q]? = H[q]?) → W p l e R s m args below meth c H' (locs ++ [⟨a, f.slot⟩]) cells slots Q (F0 m (pc + 3) ls rest) := by
    intro H' e1 e2 e3
    rw [hsl] at e1
    exact kk H' _ ⟨_, hc, t_OB.to (V := updV (vp_V fs) k v) ⟨_, e1, q2, q3, t_set q4 hap hk v⟩ (fun j _ => vp_updV_set hl v j)⟩ e2 e3
  rcases hfin with hf | ⟨hf, hin2, hdecl⟩
  · rw [if_neg (by rw [hf]; decide)] at hlay
    have h6 := u_store hfc hkC hkind hlay hi (hty k hk) hn hfit
    exact W.putK hx hb (f := f) ⟨hown, hlink, ⟨_, _, _, hi⟩, hst⟩ (by rw [q2]; exact h6) q1 q3 (by rw [hsl]; exact k2_hasslot (q4 k hk)) rfl rfl hdg fin
  · rw [if_pos hf] at hlay
    have hcf : m.cls = cf := by
      obtain ⟨_, _, c', _, _, _, -, -, hf', -, -, -, hown2, -⟩ := Cond.laysFinal_spec hlay
      have e1 : c' = cf := by have := hi.symm.trans hf'; simp at this; exact this.1.symm
      rw [hdecl] at hown2
      rw [← e1]; exact Option.some.inj (hown.symm.trans hown2)
    have h6 := u_fits hfc hkC hkind (Or.inr hlay) hi (hty k hk) hn hfit
    exact W.putFinK hx hb hown hlink hi hst hcf hin2 (by rw [q2]; exact h6) q1 q3 (by rw [hsl]; exact k2_hasslot (q4 k hk)) rfl rfl hdg fin
theorem am_Hy.put {s : State} {E : am_E} {N0 U0 nL : Nat} {lg : List Nat} {ls : Lsl} {st st' : List AV} {M M' : Mem} {S S' : Sh} {H H1 : Heap} {locs : List Loc} {cells slots : Nat} {larr : Array Slot} (h : am_Hy s E N0 U0 nL lg ls st M S H locs cells slots larr) {a i : Nat} (h6 : 6 ≤ a) (hM : ∀ b, b ≠ a → M' b = M b) (hP : ∀ b, b ≠ a → S'.2.2.1 b = S.2.2.1 b) (hK : S'.1 = S.1) (hL : S'.2.1 = S.2.1) (hN : S'.2.2.2 = S.2.2.2) (hok : ∀ k, r32 (M' a k)) (z : H1.size = H.size) (o : ∀ q, q ≠ am_ro2 E a → H1[q]? = H[q]?) (hc : va_at E.2.2.1 vwCl (am_ro2 E a, am_cell E M' S' a) H1) (h3' : okSt st') : am_Hy s E N0 U0 nL lg ls st' M' S' H1 (locs ++ [⟨am_ro2 E a, i⟩]) cells slots larr := by
  obtain ⟨h1, h2, h3, h4, h5, h6', h7, h8⟩ := h
  refine ⟨h1.put h6 hM hP hK hL (by rw [hN]) z o hc, h2, h3.put z o (ro_A E h6), fun b k => ?_, h5, h3', by rw [hN]; exact h7, by rw [hN]; exact h8⟩
  by_cases e : b = a
  · rw [e]; exact hok k
  · rw [hM b e]; exact h4 b k
theorem mset_ne (M : Mem) {a b : Nat} (k : Nat) (x : Int) (h : b ≠ a) : mset M a k x b = M b := by
  funext j
  unfold mset
  rw [if_neg (fun z => h z.1)]
theorem pset_ne (P : Nat → Nat → Option Nat) {a b : Nat} (k : Nat) (x : Option Nat) (h : b ≠ a) : pset P a k x b = P b := by
  funext j
  unfold pset
  rw [if_neg (fun z => h z.1)]
theorem mset_nk (M : Mem) {a b k j : Nat} {x : Int} (h : j ≠ k) : mset M b k x a j = M a j := by
  unfold mset
  rw [if_neg (fun z => h z.2)]
theorem pset_nk (P : Nat → Nat → Option Nat) {a b k j : Nat} {x : Option Nat} (h : j ≠ k) : pset P b k x a j = P a j := by
  unfold pset
  rw [if_neg (fun z => h z.2)]
theorem mset_ok {M : Mem} {a k : Nat} {x : Int} (h : okM M) (hx : r32 x) : okM (mset M a k x) := by
  intro b j
  unfold mset
  split
  · exact hx
  · exact h b j
theorem narrow_ref {ty : FieldType} (h : isRefTy ty = true) (o : Option Nat) : narrow ty (va_rf o) = va_rf o ∧ fits ty (va_rf o) = true := by
  cases ty <;> first | (cases h; done) | (cases o <;> exact ⟨rfl, rfl⟩)
theorem narrow_int {ty : FieldType} (h : ty = .int ∨ ty = .boolean) {x : Int} (hb : ty = .boolean → x = 0 ∨ x = 1) : narrow ty (.int (Int32.ofInt x)) = .int (Int32.ofInt x) ∧ fits ty (.int (Int32.ofInt x)) = true := by
  rcases h with rfl | rfl
  · exact ⟨rfl, rfl⟩
  · rcases hb rfl with rfl | rfl
    · exact ⟨by decide +kernel, by decide +kernel⟩
    · exact ⟨by decide +kernel, by decide +kernel⟩
theorem so_putI {p : Program} {l : Launch} {e : Env} {R : Room} {s : State} {mi : MethodId} {args : Array Value} {below : List Frame} {meth : Method} {c : Code} {Q : State → Prop} {E : am_E} {N0 U0 nL : Nat} {lg : List Nat} {cc : ByteArray} {pc : Nat} {ls : Lsl} {M : Mem} {S : Sh} {t : List AV} {own : String} (hown : s.vm.findClass own = some mi.cls) (hts : ∀ w ∈ wsL_law, w.before args s = true) (hSW : am_SW E s s.heap) {ci fk idx a : Nat} (hci : ci < 7) (hfk : fk < (am_T ci).2.2) (hx : p.tables.exec = Jvm.exec) (hb : c.code = cc) {x : Int} (hbx : am_ty ci fk = .boolean → x = 0 ∨ x = 1) (hlink : (Jvm.Cond.fieldLink own idx ((am_T ci).2.1 fk).1 ((am_T ci).2.1 fk).2.1 ((am_T ci).2.1 fk).2.2.1).before args s = true) (hfin : ((am_T ci).2.1 fk).2.2.2 = false ∨ (((am_T ci).2.1 fk).2.2.2 = true ∧ meth.name = "<init>" ∧ ((am_T ci).2.1 fk).1 = own)) (hrf : am_isref ci fk = false) (hK : S.1 a = ci) (hd : decode cc pc = .ok (.putfield idx, 3)) (k : GW p l e R s mi args below meth c Q E N0 U0 nL lg (pc + 3) (ls) (t) (mset M a fk x) (S)) : GW p l e R s mi args below meth c Q E N0 U0 nL lg (pc) (ls) (aI x :: aR a :: t) (M) (S) := by
  intro H locs cells slots larr hy
  have ho := hy.ok
  obtain ⟨hR, hL, hS, hM, -⟩ := id hy
  have h6 : 6 ≤ a := hR.lo (by omega) (by omega)
  have hc := hR.cell (by omega) h6
  rw [cellO (by omega), hK] at hc
  have hty := cl_ref ci hci fk hfk
  have hnar := narrow_int (ty := am_ty ci fk) (x := x) (hty.2.resolve_left (fun q => by rw [hty.1, q] at hrf; cases hrf)) hbx
  refine sx_put (ci := ci) (C := (am_T ci).1) (T := (am_T ci).2.1) (N := (am_T ci).2.2) hx hb hts (cl_hin ci hci) (am_ty ci) (cl_ty ci hci) (cl_nm ci hci) hown hSW.1 hc (cl_get ci hci) fk hfk hlink hfin hnar.1 hnar.2 (by rw [List.length_map, List.length_range, ← cl_nf ci hci]; exact hfk) hd (fun H1 i e1 e2 e3 => ?_)
  refine k H1 _ cells slots larr (hy.put h6 (fun b hb => mset_ne M fk x hb) (fun _ _ => rfl) rfl rfl rfl (fun q => mset_ok hM ho.1 a q) e2 e3 ?_ ho.2.2)
  have e4 : am_cell E (mset M a fk x) (S) a = .inr (ci, ((List.range (am_nf ci)).map (am_fv E M S a)).set fk (am_tr E (aI x))) := by
    rw [cellO (by show S.1 a < 7; omega)]
    rw [show ((S) : Sh).1 a = ci from hK]
    congr 2
    have e5 : am_tr E (aI x) = am_fv E (mset M a fk x) (S) a fk := by
      unfold am_fv
      rw [show ((S) : Sh).1 a = ci from hK, hrf]
      show Value.int (Int32.ofInt x) = Value.int (Int32.ofInt (mset M a fk x a fk))
      unfold mset
      rw [if_pos ⟨rfl, rfl⟩]
    rw [e5]
    refine (fs_set fun j hj => ?_).symm
    unfold am_fv
    rw [show ((S) : Sh).1 a = S.1 a from rfl]
    rw [mset_nk _ hj]
  rw [e4]
  exact e1
theorem so_putO {p : Program} {l : Launch} {e : Env} {R : Room} {s : State} {mi : MethodId} {args : Array Value} {below : List Frame} {meth : Method} {c : Code} {Q : State → Prop} {E : am_E} {N0 U0 nL : Nat} {lg : List Nat} {cc : ByteArray} {pc : Nat} {ls : Lsl} {M : Mem} {S : Sh} {t : List AV} {own : String} (hown : s.vm.findClass own = some mi.cls) (hts : ∀ w ∈ wsL_law, w.before args s = true) (hSW : am_SW E s s.heap) {ci fk idx a : Nat} (hci : ci < 7) (hfk : fk < (am_T ci).2.2) (hx : p.tables.exec = Jvm.exec) (hb : c.code = cc) {x : Option Nat} (hlink : (Jvm.Cond.fieldLink own idx ((am_T ci).2.1 fk).1 ((am_T ci).2.1 fk).2.1 ((am_T ci).2.1 fk).2.2.1).before args s = true) (hfin : ((am_T ci).2.1 fk).2.2.2 = false ∨ (((am_T ci).2.1 fk).2.2.2 = true ∧ meth.name = "<init>" ∧ ((am_T ci).2.1 fk).1 = own)) (hrf : am_isref ci fk = true) (hK : S.1 a = ci) (hd : decode cc pc = .ok (.putfield idx, 3)) (k : GW p l e R s mi args below meth c Q E N0 U0 nL lg (pc + 3) (ls) (t) (M) ((S.1, S.2.1, pset S.2.2.1 a fk x, S.2.2.2))) : GW p l e R s mi args below meth c Q E N0 U0 nL lg (pc) (ls) (aO x :: aR a :: t) (M) (S) := by
  intro H locs cells slots larr hy
  have ho := hy.ok
  obtain ⟨hR, hL, hS, hM, -⟩ := id hy
  have h6 : 6 ≤ a := hR.lo (by omega) (by omega)
  have hc := hR.cell (by omega) h6
  rw [cellO (by omega), hK] at hc
  have hty := cl_ref ci hci fk hfk
  have hnar := narrow_ref (ty := am_ty ci fk) (by rw [← hty.1]; exact hrf) (x.map (am_ro2 E))
  refine sx_put (ci := ci) (C := (am_T ci).1) (T := (am_T ci).2.1) (N := (am_T ci).2.2) hx hb hts (cl_hin ci hci) (am_ty ci) (cl_ty ci hci) (cl_nm ci hci) hown hSW.1 hc (cl_get ci hci) fk hfk hlink hfin hnar.1 hnar.2 (by rw [List.length_map, List.length_range, ← cl_nf ci hci]; exact hfk) hd (fun H1 i e1 e2 e3 => ?_)
  refine k H1 _ cells slots larr (hy.put h6 (fun _ _ => rfl) (fun b hb => pset_ne _ fk x hb) rfl rfl rfl (fun q => hM a q) e2 e3 ?_ ho.2.2)
  have e4 : am_cell E (M) ((S.1, S.2.1, pset S.2.2.1 a fk x, S.2.2.2)) a = .inr (ci, ((List.range (am_nf ci)).map (am_fv E M S a)).set fk (am_tr E (aO x))) := by
    rw [cellO (by show S.1 a < 7; omega)]
    rw [show (((S.1, S.2.1, pset S.2.2.1 a fk x, S.2.2.2)) : Sh).1 a = ci from hK]
    congr 2
    have e5 : am_tr E (aO x) = am_fv E (M) ((S.1, S.2.1, pset S.2.2.1 a fk x, S.2.2.2)) a fk := by
      unfold am_fv
      rw [show (((S.1, S.2.1, pset S.2.2.1 a fk x, S.2.2.2)) : Sh).1 a = ci from hK, hrf]
      show va_rf (x.map (am_ro2 E)) = va_rf ((pset S.2.2.1 a fk x a fk).map (am_ro2 E))
      unfold pset
      rw [if_pos ⟨rfl, rfl⟩]
    rw [e5]
    refine (fs_set fun j hj => ?_).symm
    unfold am_fv
    rw [show (((S.1, S.2.1, pset S.2.2.1 a fk x, S.2.2.2)) : Sh).1 a = S.1 a from rfl]
    rw [show ((S.1, S.2.1, pset S.2.2.1 a fk x, S.2.2.2) : Sh).2.2.1 a j = pset S.2.2.1 a fk x a j from rfl, pset_nk _ hj]
  rw [e4]
  exact e1
