theorem tb_good : wsL_law.all goodWord = true := by decide +kernel
theorem tb_pay {args : Array Value} {s : State} (hts : ∀ w ∈ wsL_law, w.before args s = true) : ∀ w ∈ wsL_law, ∀ (a' : Array Value) (U : State), s.WarmedH U.vm → w.before a' U = true :=
  fun w hw a' U hW => word_at hW (good_of_word (List.all_eq_true.mp tb_good w hw)) (hts w hw)
abbrev am_ws (y : MethodName) (bytes : ByteArray) (maxL : Nat) (ret : Option FieldType) : List Jvm.Cond := .code y bytes maxL ret :: wsL_law
abbrev am_rm (k mc ms : Nat) : Room := { frames := k, cells := mc, slots := ms, locals := 60 * k }
theorem am_pay {args : Array Value} {s : State} {y : MethodName} {bytes : ByteArray} {maxL : Nat} {ret : Option FieldType} (hts : ∀ w ∈ wsL_law, w.before args s = true) (hcw : Jvm.Cond.code y bytes maxL ret ∈ wsL_law) : ∀ w ∈ am_ws y bytes maxL ret, ∀ (a' : Array Value) (U : State), s.WarmedH U.vm → w.before a' U = true := by
  intro w hw
  rcases List.mem_cons.mp hw with rfl | h
  · exact tb_pay hts _ hcw
  · exact tb_pay hts w h
theorem am_cb {R : Room} {s : State} {args : Array Value} {own : String} {index maxL mc ms n k : Nat} {y : MethodName} {bytes : ByteArray} {ret : Option FieldType} (hts : ∀ w ∈ wsL_law, w.before args s = true) (hcw : Jvm.Cond.code y bytes maxL ret ∈ wsL_law) (hini : Jvm.Cond.initialized y.cls ∈ wsL_law) (hl : (Jvm.Cond.methodLink own index y).before args s = true) (hd : y.cls ≠ "java/lang/invoke/MethodHandle" ∧ y.cls ≠ "java/lang/invoke/VarHandle" ∧ (parseMethodDescriptor y.desc).map (fun d => d.parameters.length) = some n) (hk : k + 1 ≤ R.frames) (hloc : 60 * (k + 1) ≤ R.locals) (hm : maxL ≤ 40) : CallB R s args own index y bytes maxL ret (am_ws y bytes maxL ret) (am_rm k mc ms) mc ms n := by
  refine ⟨rfl, rfl, hk, by show 8 + (maxL + 11) + 60 * k ≤ R.locals; omega, am_pay hts hcw, List.mem_cons_self, hts _ hcw, hts _ hini, ⟨hd.1, hd.2.1⟩, fun sig h => ?_, hl⟩
  have h2 := hd.2.2
  rw [h] at h2
  exact (Option.some.inj h2).symm
/-- behind a call: what it answers is known -/
theorem am_crun {p : Program} {l : Launch} {e : Env} {R : Room} {s : State} {m : MethodId} {args : Array Value} {below : List Frame} {meth : Method} {c : Code} {H : Heap} {locs : List Loc} {cells slots mc ms : Nat} {Q : State → Prop} {pc : Nat} {ls : Array Slot} {rest st0 : List Value} {free : Addr → Prop} {Qa : State → Outcome → State → Prop} (vo : Option Value) (hr : va_Run p l e R s m args below meth c H locs cells slots mc ms (F0 m pc ls st0) rest Qa free) (hv : ∀ st o t, Qa st o t → o = .returned vo)
    (kk : ∀ (st t : State) (L : List Loc), st.heap = H → Qa st (.returned vo) t → (∀ q ∈ L, free q.base) → W p l e R s m args below meth c t.heap (locs ++ L) (cells + mc) (slots + ms) Q (F0 m (pc + 3) ls (vo.toList ++ rest))) : W p l e R s m args below meth c H locs cells slots Q (F0 m pc ls st0) := by
  intro T hT X
  obtain ⟨v, st₀, t, T', L, h0, X', hL, e1, e2, hq, st⟩ := hr T hT X
  have hvv := hv _ _ _ hq
  cases hvv
  obtain ⟨t2, a1, b1⟩ := kk st₀ t L h0 hq hL T' e1 X'
  exact ⟨t2, st t2 a1, b1⟩
/-- a method of the library that writes nothing -/
def jd_Q (v : Option Value) : Array Value → State → Outcome → State → Prop := fun _ st oc t => oc = .returned v ∧ t.heap = st.heap
def jd_P (E : am_E) (av : List Value) : Array Value → State → Prop := va_Pc av (fun U => am_SW E U U.heap)
theorem jd_blind (E : am_E) (av : List Value) : FrameBlind (jd_P E av) := by
  intro a U g mk h
  obtain ⟨h1, h2⟩ := h
  exact ⟨h1, am_SW.same (u := U) h2 rfl rfl⟩
theorem jd_pre {E : am_E} {s : State} {H : Heap} {locs : List Loc} (hSW : am_SW E s s.heap) (hS : va_S (am_A E) s.heap H locs) (av : List Value) : ∀ U : State, U.heap = H → s.WarmedH U.vm → jd_P E av av.toArray U := fun U hU hW => ⟨rfl, hSW.go hS hU hW⟩
theorem dJ0_coder_7d493_dec : decode cJ0_coder_7d493 0 = .ok (.getstatic 38, 3) ∧ decode cJ0_coder_7d493 3 = .ok (.ifCond .eq 10, 3) ∧ decode cJ0_coder_7d493 6 = .ok (.aload_n 0, 1) ∧ decode cJ0_coder_7d493 7 = .ok (.getfield 15, 3) ∧ decode cJ0_coder_7d493 10 = .ok (.goto 4, 3) ∧ decode cJ0_coder_7d493 13 = .ok (.iconst 1, 1) ∧ decode cJ0_coder_7d493 14 = .ok (.ireturn, 1) := ⟨by decide +kernel, by decide +kernel, by decide +kernel, by decide +kernel, by decide +kernel, by decide +kernel, by decide +kernel⟩
theorem jcJ0_coder_7d493 (l : Launch) (E : am_E) (i : Nat) (hi : i < 2) : Met l yJ0_coder_7d493 (am_ws yJ0_coder_7d493 cJ0_coder_7d493 1 (some .byte)) (am_rm 0 0 0) (jd_P E [.ref (E.1 (3 + i))]) (jd_Q (some (.int 0))) 0 0 (am_A E) := by
  refine Met.ofW (cc := cJ0_coder_7d493) (maxL := 1) (ret := (some .byte)) (by decide) rfl ?_
  intro p e s m args below meth c s₁ B hml hv
  obtain ⟨rfl, hSW⟩ := hv
  obtain ⟨d_0, d_3, d_6, d_7, d_10, d_13, d_14⟩ := dJ0_coder_7d493_dec
  have hx := B.exec
  have hb := B.bytes
  have hr := B.returns
  have hts0 := atoms_spec (ws := am_ws yJ0_coder_7d493 cJ0_coder_7d493 1 (some .byte)) B.pre
  have hts := fun w h => hts0 w (List.mem_cons_of_mem _ h)
  have hown : s.vm.findClass RJ0 = some m.cls := findClass_of_methodNamed B.named
  have hlocks := B.notSynchronized
  have hS : va_S (am_A E) s.heap s.heap [] := va_S.rf
  have hE := hSW.2.2.2.2.2.2.2.2.2.1
  have hl := lv_entry ([.ref (E.1 (3 + i))]) (n := 1) (Nat.le_of_ble_eq_true rfl)
  rw [lg_entry_eq]
  generalize (lg_sl ([.ref (E.1 (3 + i))]) ++ List.replicate (1 - (lg_sl ([.ref (E.1 (3 + i))])).length) Slot.unset).toArray = ls at hl ⊢
  have hl : lv_has ls 1 [(0, .ref (E.1 (3 + i)))] := hl
  refine va_gets hx hb hSW.2.2.2.2.2.2.2.2.2.2.2.2.1 hS hown (hts _ (List.mem_of_getElem? (i := 73) (by rfl))) (fun _ z => z) d_0 ?_
  refine lv_if_eq (tgt := 13) hx hb d_3 (by decide) (fun z => absurd z (by decide)) (fun _ => ?_)
  refine lv_aload_n hx hb d_6 rfl (lv_at hl 0 rfl) ?_
  refine vk_getf hx hb (hE.1 i hi).2.1 hS hown (hts _ (List.mem_of_getElem? (i := 74) (by rfl))) (fun _ z => z) d_7 ?_
  refine lv_goto (tgt := 14) hx hb d_10 (by decide) ?_
  exact W.zret (v := 0) hx hb hr (by decide) (fun t ht hW => ⟨rfl, ht⟩) (fun q h => hS.2.2 q h) d_14
theorem dJ0_isLatin1_aae02_dec : decode cJ0_isLatin1_aae02 0 = .ok (.getstatic 38, 3) ∧ decode cJ0_isLatin1_aae02 3 = .ok (.ifCond .eq 14, 3) ∧ decode cJ0_isLatin1_aae02 6 = .ok (.aload_n 0, 1) ∧ decode cJ0_isLatin1_aae02 7 = .ok (.getfield 15, 3) ∧ decode cJ0_isLatin1_aae02 10 = .ok (.ifCond .ne 7, 3) ∧ decode cJ0_isLatin1_aae02 13 = .ok (.iconst 1, 1) ∧ decode cJ0_isLatin1_aae02 14 = .ok (.goto 4, 3) ∧ decode cJ0_isLatin1_aae02 17 = .ok (.iconst 0, 1) ∧ decode cJ0_isLatin1_aae02 18 = .ok (.ireturn, 1) := ⟨by decide +kernel, by decide +kernel, by decide +kernel, by decide +kernel, by decide +kernel, by decide +kernel, by decide +kernel, by decide +kernel, by decide +kernel⟩
theorem jcJ0_isLatin1_aae02 (l : Launch) (E : am_E) (i : Nat) (hi : i < 2) : Met l yJ0_isLatin1_aae02 (am_ws yJ0_isLatin1_aae02 cJ0_isLatin1_aae02 1 (some .boolean)) (am_rm 0 0 0) (jd_P E [.ref (E.1 (3 + i))]) (jd_Q (some (.int 1))) 0 0 (am_A E) := by
  refine Met.ofW (cc := cJ0_isLatin1_aae02) (maxL := 1) (ret := (some .boolean)) (by decide) rfl ?_
  intro p e s m args below meth c s₁ B hml hv
  obtain ⟨rfl, hSW⟩ := hv
  obtain ⟨d_0, d_3, d_6, d_7, d_10, d_13, d_14, d_17, d_18⟩ := dJ0_isLatin1_aae02_dec
  have hx := B.exec
  have hb := B.bytes
  have hr := B.returns
  have hts0 := atoms_spec (ws := am_ws yJ0_isLatin1_aae02 cJ0_isLatin1_aae02 1 (some .boolean)) B.pre
  have hts := fun w h => hts0 w (List.mem_cons_of_mem _ h)
  have hown : s.vm.findClass RJ0 = some m.cls := findClass_of_methodNamed B.named
  have hlocks := B.notSynchronized
  have hS : va_S (am_A E) s.heap s.heap [] := va_S.rf
  have hE := hSW.2.2.2.2.2.2.2.2.2.1
  have hl := lv_entry ([.ref (E.1 (3 + i))]) (n := 1) (Nat.le_of_ble_eq_true rfl)
  rw [lg_entry_eq]
  generalize (lg_sl ([.ref (E.1 (3 + i))]) ++ List.replicate (1 - (lg_sl ([.ref (E.1 (3 + i))])).length) Slot.unset).toArray = ls at hl ⊢
  have hl : lv_has ls 1 [(0, .ref (E.1 (3 + i)))] := hl
  refine va_gets hx hb hSW.2.2.2.2.2.2.2.2.2.2.2.2.1 hS hown (hts _ (List.mem_of_getElem? (i := 73) (by rfl))) (fun _ z => z) d_0 ?_
  refine lv_if_eq (tgt := 17) hx hb d_3 (by decide) (fun z => absurd z (by decide)) (fun _ => ?_)
  refine lv_aload_n hx hb d_6 rfl (lv_at hl 0 rfl) ?_
  refine vk_getf hx hb (hE.1 i hi).2.1 hS hown (hts _ (List.mem_of_getElem? (i := 74) (by rfl))) (fun _ z => z) d_7 ?_
  refine lv_if_ne (tgt := 17) hx hb d_10 (by decide) (fun z => absurd rfl z) (fun _ => ?_)
  refine lv_iconst (v := 1) hx hb d_13 (by decide) ?_
  refine lv_goto (tgt := 18) hx hb d_14 (by decide) ?_
  exact W.zret (v := 1) hx hb hr (by decide) (fun t ht hW => ⟨rfl, ht⟩) (fun q h => hS.2.2 q h) d_18
theorem dJ3_checkIndex_8e157_dec : decode cJ3_checkIndex_8e157 0 = .ok (.iload_n 0, 1) ∧ decode cJ3_checkIndex_8e157 1 = .ok (.ifCond .lt 8, 3) ∧ decode cJ3_checkIndex_8e157 4 = .ok (.iload_n 0, 1) ∧ decode cJ3_checkIndex_8e157 5 = .ok (.iload_n 1, 1) ∧ decode cJ3_checkIndex_8e157 6 = .ok (.if_icmp .lt 10, 3) ∧ decode cJ3_checkIndex_8e157 9 = .ok (.aload_n 2, 1) ∧ decode cJ3_checkIndex_8e157 10 = .ok (.iload_n 0, 1) ∧ decode cJ3_checkIndex_8e157 11 = .ok (.iload_n 1, 1) ∧ decode cJ3_checkIndex_8e157 12 = .ok (.invokestatic 95, 3) ∧ decode cJ3_checkIndex_8e157 15 = .ok (.athrow, 1) ∧ decode cJ3_checkIndex_8e157 16 = .ok (.iload_n 0, 1) ∧ decode cJ3_checkIndex_8e157 17 = .ok (.ireturn, 1) := ⟨by decide +kernel, by decide +kernel, by decide +kernel, by decide +kernel, by decide +kernel, by decide +kernel, by decide +kernel, by decide +kernel, by decide +kernel, by decide +kernel, by decide +kernel, by decide +kernel⟩
theorem jcJ3_checkIndex_8e157 (l : Launch) (E : am_E) (i n : Int32)  (h0 : ¬ i < 0) (h1 : i < n) : Met l yJ3_checkIndex_8e157 (am_ws yJ3_checkIndex_8e157 cJ3_checkIndex_8e157 3 (some .int)) (am_rm 0 0 0) (jd_P E [.int i, .int n, .null]) (jd_Q (some (.int i))) 0 0 (am_A E) := by
  refine Met.ofW (cc := cJ3_checkIndex_8e157) (maxL := 3) (ret := (some .int)) (by decide) rfl ?_
  intro p e s m args below meth c s₁ B hml hv
  obtain ⟨rfl, hSW⟩ := hv
  obtain ⟨d_0, d_1, d_4, d_5, d_6, d_9, d_10, d_11, d_12, d_15, d_16, d_17⟩ := dJ3_checkIndex_8e157_dec
  have hx := B.exec
  have hb := B.bytes
  have hr := B.returns
  have hts0 := atoms_spec (ws := am_ws yJ3_checkIndex_8e157 cJ3_checkIndex_8e157 3 (some .int)) B.pre
  have hts := fun w h => hts0 w (List.mem_cons_of_mem _ h)
  have hown : s.vm.findClass RJ3 = some m.cls := findClass_of_methodNamed B.named
  have hlocks := B.notSynchronized
  have hS : va_S (am_A E) s.heap s.heap [] := va_S.rf
  have hE := hSW.2.2.2.2.2.2.2.2.2.1
  have hl := lv_entry ([.int i, .int n, .null]) (n := 3) (Nat.le_of_ble_eq_true rfl)
  rw [lg_entry_eq]
  generalize (lg_sl ([.int i, .int n, .null]) ++ List.replicate (3 - (lg_sl ([.int i, .int n, .null])).length) Slot.unset).toArray = ls at hl ⊢
  have hl : lv_has ls 3 [(0, .int i), (1, .int n), (2, .null)] := hl
  refine lv_iload_n hx hb d_0 rfl (lv_at hl 0 rfl) ?_
  refine lv_if_lt (tgt := 9) hx hb d_1 (by decide) (fun z => absurd z h0) (fun _ => ?_)
  refine lv_iload_n hx hb d_4 rfl (lv_at hl 0 rfl) ?_
  refine lv_iload_n hx hb d_5 rfl (lv_at hl 1 rfl) ?_
  refine lv_icmp_lt (tgt := 16) hx hb d_6 (by decide) (fun _ => ?_) (fun z => absurd h1 z)
  refine lv_iload_n hx hb d_16 rfl (lv_at hl 0 rfl) ?_
  exact W.iret hx hb hr (fun t ht hW => ⟨rfl, ht⟩) (fun q h => hS.2.2 q h) d_17
theorem jcJ3_checkIndex_8e1572 (l : Launch) (E : am_E) (i n : Int32) (t0 : Nat) (h0 : ¬ i < 0) (h1 : i < n) : Met l yJ3_checkIndex_8e157 (am_ws yJ3_checkIndex_8e157 cJ3_checkIndex_8e157 3 (some .int)) (am_rm 0 0 0) (jd_P E [.int i, .int n, .ref t0]) (jd_Q (some (.int i))) 0 0 (am_A E) := by
  refine Met.ofW (cc := cJ3_checkIndex_8e157) (maxL := 3) (ret := (some .int)) (by decide) rfl ?_
  intro p e s m args below meth c s₁ B hml hv
  obtain ⟨rfl, hSW⟩ := hv
  obtain ⟨d_0, d_1, d_4, d_5, d_6, d_9, d_10, d_11, d_12, d_15, d_16, d_17⟩ := dJ3_checkIndex_8e157_dec
  have hx := B.exec
  have hb := B.bytes
  have hr := B.returns
  have hts0 := atoms_spec (ws := am_ws yJ3_checkIndex_8e157 cJ3_checkIndex_8e157 3 (some .int)) B.pre
  have hts := fun w h => hts0 w (List.mem_cons_of_mem _ h)
  have hown : s.vm.findClass RJ3 = some m.cls := findClass_of_methodNamed B.named
  have hlocks := B.notSynchronized
  have hS : va_S (am_A E) s.heap s.heap [] := va_S.rf
  have hE := hSW.2.2.2.2.2.2.2.2.2.1
  have hl := lv_entry ([.int i, .int n, .ref t0]) (n := 3) (Nat.le_of_ble_eq_true rfl)
  rw [lg_entry_eq]
  generalize (lg_sl ([.int i, .int n, .ref t0]) ++ List.replicate (3 - (lg_sl ([.int i, .int n, .ref t0])).length) Slot.unset).toArray = ls at hl ⊢
  have hl : lv_has ls 3 [(0, .int i), (1, .int n), (2, .ref t0)] := hl
  refine lv_iload_n hx hb d_0 rfl (lv_at hl 0 rfl) ?_
  refine lv_if_lt (tgt := 9) hx hb d_1 (by decide) (fun z => absurd z h0) (fun _ => ?_)
  refine lv_iload_n hx hb d_4 rfl (lv_at hl 0 rfl) ?_
  refine lv_iload_n hx hb d_5 rfl (lv_at hl 1 rfl) ?_
  refine lv_icmp_lt (tgt := 16) hx hb d_6 (by decide) (fun _ => ?_) (fun z => absurd h1 z)
  refine lv_iload_n hx hb d_16 rfl (lv_at hl 0 rfl) ?_
  exact W.iret hx hb hr (fun t ht hW => ⟨rfl, ht⟩) (fun q h => hS.2.2 q h) d_17
theorem am_S0 {E : am_E} {H : Heap} {L0 L : List Loc} (h : va_S (am_A E) H H L0) (h3 : ∀ q ∈ L, am_A E q.base) : va_S (am_A E) H H (L0 ++ L) := ⟨Nat.le_refl _, fun _ _ _ => rfl, fun q hq => (List.mem_append.mp hq).elim (h.2.2 q) (h3 q)⟩
theorem dJ0_checkIndex_df160_dec : decode cJ0_checkIndex_df160 0 = .ok (.iload_n 0, 1) ∧ decode cJ0_checkIndex_df160 1 = .ok (.iload_n 1, 1) ∧ decode cJ0_checkIndex_df160 2 = .ok (.getstatic 1053, 3) ∧ decode cJ0_checkIndex_df160 5 = .ok (.invokestatic 1059, 3) ∧ decode cJ0_checkIndex_df160 8 = .ok (.pop, 1) ∧ decode cJ0_checkIndex_df160 9 = .ok (.return_, 1) := ⟨by decide +kernel, by decide +kernel, by decide +kernel, by decide +kernel, by decide +kernel, by decide +kernel⟩
theorem jcJ0_checkIndex_df160 (l : Launch) (E : am_E) (i n : Int32) (h0 : ¬ i < 0) (h1 : i < n) : Met l yJ0_checkIndex_df160 (am_ws yJ0_checkIndex_df160 cJ0_checkIndex_df160 2 none) (am_rm 1 0 0) (jd_P E [.int i, .int n]) (jd_Q none) 0 0 (am_A E) := by
  refine Met.ofW (cc := cJ0_checkIndex_df160) (maxL := 2) (ret := none) (by decide) rfl ?_
  intro p e s m args below meth c s₁ B hml hv
  obtain ⟨rfl, hSW⟩ := hv
  obtain ⟨d_0, d_1, d_2, d_5, d_8, d_9⟩ := dJ0_checkIndex_df160_dec
  have hx := B.exec
  have hb := B.bytes
  have hr := B.returns
  have hts0 := atoms_spec (ws := am_ws yJ0_checkIndex_df160 cJ0_checkIndex_df160 2 none) B.pre
  have hts := fun w h => hts0 w (List.mem_cons_of_mem _ h)
  have hown : s.vm.findClass RJ0 = some m.cls := findClass_of_methodNamed B.named
  have hlocks := B.notSynchronized
  have hS : va_S (am_A E) s.heap s.heap [] := va_S.rf
  have hE := hSW.2.2.2.2.2.2.2.2.2.1
  have hl := lv_entry ([.int i, .int n]) (n := 2) (Nat.le_of_ble_eq_true rfl)
  rw [lg_entry_eq]
  generalize (lg_sl ([.int i, .int n]) ++ List.replicate (2 - (lg_sl ([.int i, .int n])).length) Slot.unset).toArray = ls at hl ⊢
  have hl : lv_has ls 2 [(0, .int i), (1, .int n)] := hl
  refine lv_iload_n hx hb d_0 rfl (lv_at hl 0 rfl) ?_
  refine lv_iload_n hx hb d_1 rfl (lv_at hl 1 rfl) ?_
  rcases hSW.2.2.2.2.2.2.2.2.2.2.2.2.2 with hZ | ⟨t0, hZ⟩
  · refine va_gets hx hb hZ hS hown (hts _ (List.mem_of_getElem? (i := 90) (by rfl))) (fun _ z => z) d_2 ?_
    refine am_crun (some (.int i)) (va_runS (As := [.int i, .int n, .null]) (rest := []) ⟨hx, hb, hml, hown, hts⟩ (jcJ3_checkIndex_8e157 l E i n h0 h1) ⟨am_cb (n := 3) hts (List.mem_of_getElem? (i := 94) (by rfl)) (List.mem_of_getElem? (i := 93) (by rfl)) (hts _ (List.mem_of_getElem? (i := 91) (by rfl))) ⟨by decide, by decide, by decide +kernel⟩ (by decide) (by decide) (by decide), (hts _ (List.mem_of_getElem? (i := 92) (by rfl)))⟩ ⟨jd_blind _ _, jd_pre hSW hS _⟩ rfl rfl hl.1 rfl (lv_room (Nat.le_of_ble_eq_true rfl)) d_5 ⟨Nat.le_refl _, Nat.le_refl _⟩) (fun st o t h => h.1) (fun st t L g1 g2 g3 => ?_)
    have hh : t.heap = s.heap := g2.2.trans g1
    rw [hh]
    have hS := am_S0 (E := E) hS g3
    refine lv_pop hx hb d_8 rfl ?_
    exact W.vret hx hb hr (fun t ht hW => ⟨rfl, ht⟩) (fun q h => hS.2.2 q h) d_9
  · refine va_gets hx hb hZ hS hown (hts _ (List.mem_of_getElem? (i := 90) (by rfl))) (fun _ z => z) d_2 ?_
    refine am_crun (some (.int i)) (va_runS (As := [.int i, .int n, .ref t0]) (rest := []) ⟨hx, hb, hml, hown, hts⟩ (jcJ3_checkIndex_8e1572 l E i n t0 h0 h1) ⟨am_cb (n := 3) hts (List.mem_of_getElem? (i := 94) (by rfl)) (List.mem_of_getElem? (i := 93) (by rfl)) (hts _ (List.mem_of_getElem? (i := 91) (by rfl))) ⟨by decide, by decide, by decide +kernel⟩ (by decide) (by decide) (by decide), (hts _ (List.mem_of_getElem? (i := 92) (by rfl)))⟩ ⟨jd_blind _ _, jd_pre hSW hS _⟩ rfl rfl hl.1 rfl (lv_room (Nat.le_of_ble_eq_true rfl)) d_5 ⟨Nat.le_refl _, Nat.le_refl _⟩) (fun st o t h => h.1) (fun st t L g1 g2 g3 => ?_)
    have hh : t.heap = s.heap := g2.2.trans g1
    rw [hh]
    have hS := am_S0 (E := E) hS g3
    refine lv_pop hx hb d_8 rfl ?_
    exact W.vret hx hb hr (fun t ht hW => ⟨rfl, ht⟩) (fun q h => hS.2.2 q h) d_9
theorem jd_ch : ∀ j, j < 2 → ∀ k, k < (am_str (3 + j)).length → (((am_byt.getD j []).getD k 0 &&& 255).toUInt32 % 65536).toInt32 = Int32.ofInt ((am_str (3 + j)).getD k 0) ∧ narrow .char (.int (Int32.ofInt ((am_str (3 + j)).getD k 0))) = .int (Int32.ofInt ((am_str (3 + j)).getD k 0)) := by decide +kernel
theorem jd_len : ∀ j, j < 2 → ([40, 72] : List Nat).getD j 0 = (am_str (3 + j)).length := by decide +kernel
theorem jd_255 : (Int16.ofInt 255).toInt32 = 255 := by decide
theorem dJ1_charAt_3b067_dec : decode cJ1_charAt_3b067 0 = .ok (.iload_n 1, 1) ∧ decode cJ1_charAt_3b067 1 = .ok (.aload_n 0, 1) ∧ decode cJ1_charAt_3b067 2 = .ok (.arraylength, 1) ∧ decode cJ1_charAt_3b067 3 = .ok (.invokestatic 9, 3) ∧ decode cJ1_charAt_3b067 6 = .ok (.aload_n 0, 1) ∧ decode cJ1_charAt_3b067 7 = .ok (.iload_n 1, 1) ∧ decode cJ1_charAt_3b067 8 = .ok (.baload, 1) ∧ decode cJ1_charAt_3b067 9 = .ok (.sipush 255, 3) ∧ decode cJ1_charAt_3b067 12 = .ok (.iand, 1) ∧ decode cJ1_charAt_3b067 13 = .ok (.i2c, 1) ∧ decode cJ1_charAt_3b067 14 = .ok (.ireturn, 1) := ⟨by decide +kernel, by decide +kernel, by decide +kernel, by decide +kernel, by decide +kernel, by decide +kernel, by decide +kernel, by decide +kernel, by decide +kernel, by decide +kernel, by decide +kernel⟩
theorem jcJ1_charAt_3b067 (l : Launch) (E : am_E) (j : Nat) (hj : j < 2) (i : Int) (hi : r32 i) (h0 : 0 ≤ i) (h1 : i < ((am_str (3 + j)).length : Nat)) : Met l yJ1_charAt_3b067 (am_ws yJ1_charAt_3b067 cJ1_charAt_3b067 2 (some .char)) (am_rm 2 0 0) (jd_P E [.ref (E.1 (6 + j)), .int (Int32.ofInt i)]) (jd_Q (some (.int (Int32.ofInt ((am_str (3 + j)).getD i.toNat 0))))) 0 0 (am_A E) := by
  refine Met.ofW (cc := cJ1_charAt_3b067) (maxL := 2) (ret := (some .char)) (by decide) rfl ?_
  intro p e s m args below meth c s₁ B hml hv
  obtain ⟨rfl, hSW⟩ := hv
  obtain ⟨d_0, d_1, d_2, d_3, d_6, d_7, d_8, d_9, d_12, d_13, d_14⟩ := dJ1_charAt_3b067_dec
  have hx := B.exec
  have hb := B.bytes
  have hr := B.returns
  have hts0 := atoms_spec (ws := am_ws yJ1_charAt_3b067 cJ1_charAt_3b067 2 (some .char)) B.pre
  have hts := fun w h => hts0 w (List.mem_cons_of_mem _ h)
  have hown : s.vm.findClass RJ1 = some m.cls := findClass_of_methodNamed B.named
  have hlocks := B.notSynchronized
  have hS : va_S (am_A E) s.heap s.heap [] := va_S.rf
  have hE := hSW.2.2.2.2.2.2.2.2.2.1
  have hl := lv_entry ([.ref (E.1 (6 + j)), .int (Int32.ofInt i)]) (n := 2) (Nat.le_of_ble_eq_true rfl)
  rw [lg_entry_eq]
  generalize (lg_sl ([.ref (E.1 (6 + j)), .int (Int32.ofInt i)]) ++ List.replicate (2 - (lg_sl ([.ref (E.1 (6 + j)), .int (Int32.ofInt i)])).length) Slot.unset).toArray = ls at hl ⊢
  have hl : lv_has ls 2 [(0, .ref (E.1 (6 + j))), (1, .int (Int32.ofInt i))] := hl
  have hT := (hE.1 j hj).2.2.2
  have hc := jd_ch j hj i.toNat (by omega)
  have hln : r32 (((am_str (3 + j)).length : Nat) : Int) := by
    have : ∀ j, j < 2 → (am_str (3 + j)).length ≤ 100 := by decide +kernel
    have := this j hj
    unfold r32; omega
  refine lv_iload_n hx hb d_0 rfl (lv_at hl 1 rfl) ?_
  refine lv_aload_n hx hb d_1 rfl (lv_at hl 0 rfl) ?_
  refine va_tlen hx hb hT hS (v := Int32.ofInt ((am_str (3 + j)).length : Nat)) (by rw [jd_len j hj]; exact oI_nat _) d_2 ?_
  refine am_crun none (va_runS (As := [.int (Int32.ofInt i), .int (Int32.ofInt ((am_str (3 + j)).length : Nat))]) (rest := []) ⟨hx, hb, hml, hown, hts⟩ (jcJ0_checkIndex_df160 l E (Int32.ofInt i) (Int32.ofInt ((am_str (3 + j)).length : Nat)) (oI_neg hi h0) ((oI_lt hi hln).mpr h1)) ⟨am_cb (n := 2) hts (List.mem_of_getElem? (i := 89) (by rfl)) (List.mem_of_getElem? (i := 66) (by rfl)) (hts _ (List.mem_of_getElem? (i := 87) (by rfl))) ⟨by decide, by decide, by decide +kernel⟩ (by decide) (by decide) (by decide), (hts _ (List.mem_of_getElem? (i := 88) (by rfl)))⟩ ⟨jd_blind _ _, jd_pre hSW hS _⟩ rfl rfl hl.1 rfl (lv_room (Nat.le_of_ble_eq_true rfl)) d_3 ⟨Nat.le_refl _, Nat.le_refl _⟩) (fun st o t h => h.1) (fun st t L g1 g2 g3 => ?_)
  have hh : t.heap = s.heap := g2.2.trans g1
  rw [hh]
  have hS := am_S0 (E := E) hS g3
  refine lv_aload_n hx hb d_6 rfl (lv_at hl 0 rfl) ?_
  refine lv_iload_n hx hb d_7 rfl (lv_at hl 1 rfl) ?_
  refine va_tb hx hb hT hS (oI_in hi h0 (by rw [jd_len j hj]; exact h1)) rfl d_8 ?_
  rw [oI_cl hi h0]
  refine lv_sipush hx hb d_9 jd_255 ?_
  refine lv_iand hx hb d_12 ?_
  refine lv_i2c hx hb d_13 hc.1 ?_
  exact W.zret (v := _) hx hb hr (hc.2) (fun t ht hW => ⟨rfl, ht⟩) (fun q h => hS.2.2 q h) d_14
theorem dJ0_charAt_5068e_dec : decode cJ0_charAt_5068e 0 = .ok (.aload_n 0, 1) ∧ decode cJ0_charAt_5068e 1 = .ok (.invokevirtual 492, 3) ∧ decode cJ0_charAt_5068e 4 = .ok (.ifCond .eq 12, 3) ∧ decode cJ0_charAt_5068e 7 = .ok (.aload_n 0, 1) ∧ decode cJ0_charAt_5068e 8 = .ok (.getfield 9, 3) ∧ decode cJ0_charAt_5068e 11 = .ok (.iload_n 1, 1) ∧ decode cJ0_charAt_5068e 12 = .ok (.invokestatic 495, 3) ∧ decode cJ0_charAt_5068e 15 = .ok (.ireturn, 1) ∧ decode cJ0_charAt_5068e 16 = .ok (.aload_n 0, 1) ∧ decode cJ0_charAt_5068e 17 = .ok (.getfield 9, 3) ∧ decode cJ0_charAt_5068e 20 = .ok (.iload_n 1, 1) ∧ decode cJ0_charAt_5068e 21 = .ok (.invokestatic 498, 3) ∧ decode cJ0_charAt_5068e 24 = .ok (.ireturn, 1) := ⟨by decide +kernel, by decide +kernel, by decide +kernel, by decide +kernel, by decide +kernel, by decide +kernel, by decide +kernel, by decide +kernel, by decide +kernel, by decide +kernel, by decide +kernel, by decide +kernel, by decide +kernel⟩
theorem jcJ0_charAt_5068e (l : Launch) (E : am_E) (j : Nat) (hj : j < 2) (i : Int) (hi : r32 i) (h0 : 0 ≤ i) (h1 : i < ((am_str (3 + j)).length : Nat)) : Met l yJ0_charAt_5068e (am_ws yJ0_charAt_5068e cJ0_charAt_5068e 2 (some .char)) (am_rm 3 0 0) (jd_P E [.ref (E.1 (3 + j)), .int (Int32.ofInt i)]) (jd_Q (some (.int (Int32.ofInt ((am_str (3 + j)).getD i.toNat 0))))) 0 0 (am_A E) := by
  refine Met.ofW (cc := cJ0_charAt_5068e) (maxL := 2) (ret := (some .char)) (by decide) rfl ?_
  intro p e s m args below meth c s₁ B hml hv
  obtain ⟨rfl, hSW⟩ := hv
  obtain ⟨d_0, d_1, d_4, d_7, d_8, d_11, d_12, d_15, d_16, d_17, d_20, d_21, d_24⟩ := dJ0_charAt_5068e_dec
  have hx := B.exec
  have hb := B.bytes
  have hr := B.returns
  have hts0 := atoms_spec (ws := am_ws yJ0_charAt_5068e cJ0_charAt_5068e 2 (some .char)) B.pre
  have hts := fun w h => hts0 w (List.mem_cons_of_mem _ h)
  have hown : s.vm.findClass RJ0 = some m.cls := findClass_of_methodNamed B.named
  have hlocks := B.notSynchronized
  have hS : va_S (am_A E) s.heap s.heap [] := va_S.rf
  have hE := hSW.2.2.2.2.2.2.2.2.2.1
  have hl := lv_entry ([.ref (E.1 (3 + j)), .int (Int32.ofInt i)]) (n := 2) (Nat.le_of_ble_eq_true rfl)
  rw [lg_entry_eq]
  generalize (lg_sl ([.ref (E.1 (3 + j)), .int (Int32.ofInt i)]) ++ List.replicate (2 - (lg_sl ([.ref (E.1 (3 + j)), .int (Int32.ofInt i)])).length) Slot.unset).toArray = ls at hl ⊢
  have hl : lv_has ls 2 [(0, .ref (E.1 (3 + j))), (1, .int (Int32.ofInt i))] := hl
  have hc := jd_ch j hj i.toNat (by omega)
  refine lv_aload_n hx hb d_0 rfl (lv_at hl 0 rfl) ?_
  refine am_crun (some (.int 1)) (va_runV (As := []) (rest := []) (C := "java/lang/String") ⟨hx, hb, hml, hown, hts⟩ (jcJ0_isLatin1_aae02 l E j hj) ⟨am_cb (n := 0) hts (List.mem_of_getElem? (i := 82) (by rfl)) (List.mem_of_getElem? (i := 66) (by rfl)) (hts _ (List.mem_of_getElem? (i := 79) (by rfl))) ⟨by decide, by decide, by decide +kernel⟩ (by decide) (by decide) (by decide), (hts _ (List.mem_of_getElem? (i := 80) (by rfl))), (hts _ (List.mem_of_getElem? (i := 81) (by rfl)))⟩ ⟨jd_blind _ _, vk_recv hE hj hS, jd_pre hSW hS _⟩ rfl rfl hl.1 rfl (lv_room (Nat.le_of_ble_eq_true rfl)) d_1 ⟨Nat.le_refl _, Nat.le_refl _⟩) (fun st o t h => h.1) (fun st t L g1 g2 g3 => ?_)
  have hh : t.heap = s.heap := g2.2.trans g1
  rw [hh]
  have hS := am_S0 (E := E) hS g3
  refine lv_if_eq (tgt := 16) hx hb d_4 (by decide) (fun z => absurd z (by decide)) (fun _ => ?_)
  refine lv_aload_n hx hb d_7 rfl (lv_at hl 0 rfl) ?_
  refine vk_getf hx hb (hE.1 j hj).2.2.1 hS hown (hts _ (List.mem_of_getElem? (i := 68) (by rfl))) (fun _ z => z) d_8 ?_
  refine lv_iload_n hx hb d_11 rfl (lv_at hl 1 rfl) ?_
  refine am_crun (some (.int (Int32.ofInt ((am_str (3 + j)).getD i.toNat 0)))) (va_runS (As := [.ref (E.1 (6 + j)), .int (Int32.ofInt i)]) (rest := []) ⟨hx, hb, hml, hown, hts⟩ (jcJ1_charAt_3b067 l E j hj i hi h0 h1) ⟨am_cb (n := 2) hts (List.mem_of_getElem? (i := 86) (by rfl)) (List.mem_of_getElem? (i := 85) (by rfl)) (hts _ (List.mem_of_getElem? (i := 83) (by rfl))) ⟨by decide, by decide, by decide +kernel⟩ (by decide) (by decide) (by decide), (hts _ (List.mem_of_getElem? (i := 84) (by rfl)))⟩ ⟨jd_blind _ _, jd_pre hSW hS _⟩ rfl rfl hl.1 rfl (lv_room (Nat.le_of_ble_eq_true rfl)) d_12 ⟨Nat.le_refl _, Nat.le_refl _⟩) (fun st o t h => h.1) (fun st t L g1 g2 g3 => ?_)
  have hh : t.heap = s.heap := g2.2.trans g1
  rw [hh]
  have hS := am_S0 (E := E) hS g3
  exact W.zret (v := _) hx hb hr (hc.2) (fun t ht hW => ⟨rfl, ht⟩) (fun q h => hS.2.2 q h) d_15
theorem dJ0_length_8abf5_dec : decode cJ0_length_8abf5 0 = .ok (.aload_n 0, 1) ∧ decode cJ0_length_8abf5 1 = .ok (.getfield 9, 3) ∧ decode cJ0_length_8abf5 4 = .ok (.arraylength, 1) ∧ decode cJ0_length_8abf5 5 = .ok (.aload_n 0, 1) ∧ decode cJ0_length_8abf5 6 = .ok (.invokevirtual 335, 3) ∧ decode cJ0_length_8abf5 9 = .ok (.ishr, 1) ∧ decode cJ0_length_8abf5 10 = .ok (.ireturn, 1) := ⟨by decide +kernel, by decide +kernel, by decide +kernel, by decide +kernel, by decide +kernel, by decide +kernel, by decide +kernel⟩
theorem jcJ0_length_8abf5 (l : Launch) (E : am_E) (j : Nat) (hj : j < 2) : Met l yJ0_length_8abf5 (am_ws yJ0_length_8abf5 cJ0_length_8abf5 1 (some .int)) (am_rm 1 0 0) (jd_P E [.ref (E.1 (3 + j))]) (jd_Q (some (.int (Int32.ofInt ((am_str (3 + j)).length : Nat))))) 0 0 (am_A E) := by
  refine Met.ofW (cc := cJ0_length_8abf5) (maxL := 1) (ret := (some .int)) (by decide) rfl ?_
  intro p e s m args below meth c s₁ B hml hv
  obtain ⟨rfl, hSW⟩ := hv
  obtain ⟨d_0, d_1, d_4, d_5, d_6, d_9, d_10⟩ := dJ0_length_8abf5_dec
  have hx := B.exec
  have hb := B.bytes
  have hr := B.returns
  have hts0 := atoms_spec (ws := am_ws yJ0_length_8abf5 cJ0_length_8abf5 1 (some .int)) B.pre
  have hts := fun w h => hts0 w (List.mem_cons_of_mem _ h)
  have hown : s.vm.findClass RJ0 = some m.cls := findClass_of_methodNamed B.named
  have hlocks := B.notSynchronized
  have hS : va_S (am_A E) s.heap s.heap [] := va_S.rf
  have hE := hSW.2.2.2.2.2.2.2.2.2.1
  have hl := lv_entry ([.ref (E.1 (3 + j))]) (n := 1) (Nat.le_of_ble_eq_true rfl)
  rw [lg_entry_eq]
  generalize (lg_sl ([.ref (E.1 (3 + j))]) ++ List.replicate (1 - (lg_sl ([.ref (E.1 (3 + j))])).length) Slot.unset).toArray = ls at hl ⊢
  have hl : lv_has ls 1 [(0, .ref (E.1 (3 + j)))] := hl
  refine lv_aload_n hx hb d_0 rfl (lv_at hl 0 rfl) ?_
  refine vk_getf hx hb (hE.1 j hj).2.2.1 hS hown (hts _ (List.mem_of_getElem? (i := 68) (by rfl))) (fun _ z => z) d_1 ?_
  refine va_tlen hx hb (hE.1 j hj).2.2.2 hS (v := Int32.ofInt ((am_str (3 + j)).length : Nat)) (by rw [jd_len j hj]; exact oI_nat _) d_4 ?_
  refine lv_aload_n hx hb d_5 rfl (lv_at hl 0 rfl) ?_
  refine am_crun (some (.int 0)) (va_runV (As := []) (rest := [.int (Int32.ofInt ((am_str (3 + j)).length : Nat))]) (C := "java/lang/String") ⟨hx, hb, hml, hown, hts⟩ (jcJ0_coder_7d493 l E j hj) ⟨am_cb (n := 0) hts (List.mem_of_getElem? (i := 72) (by rfl)) (List.mem_of_getElem? (i := 66) (by rfl)) (hts _ (List.mem_of_getElem? (i := 69) (by rfl))) ⟨by decide, by decide, by decide +kernel⟩ (by decide) (by decide) (by decide), (hts _ (List.mem_of_getElem? (i := 70) (by rfl))), (hts _ (List.mem_of_getElem? (i := 71) (by rfl)))⟩ ⟨jd_blind _ _, vk_recv hE hj hS, jd_pre hSW hS _⟩ rfl rfl hl.1 rfl (lv_room (Nat.le_of_ble_eq_true rfl)) d_6 ⟨Nat.le_refl _, Nat.le_refl _⟩) (fun st o t h => h.1) (fun st t L g1 g2 g3 => ?_)
  have hh : t.heap = s.heap := g2.2.trans g1
  rw [hh]
  have hS := am_S0 (E := E) hS g3
  refine lv_ishr hx hb d_9 ?_
  rw [sb_shr0]
  exact W.iret hx hb hr (fun t ht hW => ⟨rfl, ht⟩) (fun q h => hS.2.2 q h) d_10
