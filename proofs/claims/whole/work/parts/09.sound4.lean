theorem so_alen {p : Program} {l : Launch} {e : Env} {R : Room} {s : State} {mi : MethodId} {args : Array Value} {below : List Frame} {meth : Method} {c : Code} {Q : State → Prop} {E : am_E} {N0 U0 nL : Nat} {lg : List Nat} {cc : ByteArray} {pc : Nat} {ls : Lsl} {M : Mem} {S : Sh} {t : List AV} {a : Nat} (hSW : am_SW E s s.heap) (hx : p.tables.exec = Jvm.exec) (hb : c.code = cc) (hK : 7 ≤ S.1 a ∧ S.1 a ≤ 9) (hd : decode cc pc = .ok (.arraylength, 1)) (k : GW p l e R s mi args below meth c Q E N0 U0 nL lg (pc + 1) (ls) (aI (S.2.1 a : Nat) :: t) (M) (S)) : GW p l e R s mi args below meth c Q E N0 U0 nL lg (pc) (ls) (aR a :: t) (M) (S) := by
  intro H locs cells slots larr hy
  have ho := hy.ok
  obtain ⟨hR, hL, hS, hM, -⟩ := id hy
  have hlen := hR.len (a := a) hK.2
  have hok : r32 ((S.2.1 a : Nat) : Int) := by unfold r32; omega
  rcases Nat.lt_or_ge a 6 with q | q
  · have h4 := hR.2.2.2 a q
    have h5 : a ≠ 3 ∧ a ≠ 4 := by
      constructor <;> (intro z; rw [if_pos (by omega)] at h4; omega)
    show W p l e R s mi args below meth c H locs cells slots Q (F0 mi pc larr (.ref (am_ro2 E a) :: t.map (am_tr E)))
    rw [ro_lo E q]
    refine va_tlen hx hb (hSW.2.2.2.2.1 a q h5.1 h5.2) hS (v := Int32.ofInt (S.2.1 a : Nat)) (by rw [← h4.2.2.1]; exact oI_nat _) hd ?_
    exact k H locs cells slots larr (hy.st ⟨hok, ho.2⟩)
  · have hc := hR.cell hK.2 q
    by_cases h7 : S.1 a = 7
    · rw [cellI h7] at hc
      refine va_alen hx hb hSW.1 (P1 hc) 0 0 rfl rfl (v := Int32.ofInt (S.2.1 a : Nat)) (oI_nat _) hd ?_
      exact k H locs cells slots larr (hy.st ⟨hok, ho.2⟩)
    · rw [cellR (by omega)] at hc
      by_cases h8 : S.1 a = 8
      · rw [if_pos h8] at hc
        refine va_alen hx hb hSW.1 (P1 hc) 0 1 rfl rfl (v := Int32.ofInt (S.2.1 a : Nat)) (oI_nat _) hd ?_
        exact k H locs cells slots larr (hy.st ⟨hok, ho.2⟩)
      · rw [if_neg h8] at hc
        refine va_alen hx hb hSW.1 (P1 hc) 0 2 rfl rfl (v := Int32.ofInt (S.2.1 a : Nat)) (oI_nat _) hd ?_
        exact k H locs cells slots larr (hy.st ⟨hok, ho.2⟩)
theorem so_iald {p : Program} {l : Launch} {e : Env} {R : Room} {s : State} {mi : MethodId} {args : Array Value} {below : List Frame} {meth : Method} {c : Code} {Q : State → Prop} {E : am_E} {N0 U0 nL : Nat} {lg : List Nat} {cc : ByteArray} {pc : Nat} {ls : Lsl} {M : Mem} {S : Sh} {t : List AV} {a : Nat} {i : Int} (hSW : am_SW E s s.heap) (hx : p.tables.exec = Jvm.exec) (hb : c.code = cc) (hK : S.1 a = 7) (h0 : 0 ≤ i) (h1 : i < S.2.1 a) (hd : decode cc pc = .ok (.iaload, 1)) (k : GW p l e R s mi args below meth c Q E N0 U0 nL lg (pc + 1) (ls) (aI (M a i.toNat) :: t) (M) (S)) : GW p l e R s mi args below meth c Q E N0 U0 nL lg (pc) (ls) (aI i :: aR a :: t) (M) (S) := by
  intro H locs cells slots larr hy
  have ho := hy.ok
  obtain ⟨hR, hL, hS, hM, -⟩ := id hy
  rcases Nat.lt_or_ge a 6 with q | q
  · have h4 := hR.2.2.2 a q
    have h5 : a ≠ 3 ∧ a ≠ 4 := by
      constructor <;> (intro z; rw [if_pos (by omega)] at h4; omega)
    show W p l e R s mi args below meth c H locs cells slots Q (F0 mi pc larr (.int (Int32.ofInt i) :: .ref (am_ro2 E a) :: t.map (am_tr E)))
    rw [ro_lo E q]
    refine va_ti hx hb (hSW.2.2.2.2.1 a q h5.1 h5.2) hS (oI_in ho.1 h0 (by rw [← h4.2.2.1]; exact h1)) (v := .int (Int32.ofInt (M a i.toNat))) (by rw [oI_cl ho.1 h0, h4.2.2.2]) hd ?_
    exact k H locs cells slots larr (hy.st ⟨hM _ _, ho.2.2⟩)
  · have hc := hR.cell (by omega) q
    rw [cellI hK] at hc
    refine va_iald hx hb hSW.1 (P1 hc) 0 0 rfl rfl (oI_in ho.1 h0 h1) hd ?_
    rw [oI_cl ho.1 h0]
    exact k H locs cells slots larr (hy.st ⟨hM _ _, ho.2.2⟩)
theorem so_iast {p : Program} {l : Launch} {e : Env} {R : Room} {s : State} {mi : MethodId} {args : Array Value} {below : List Frame} {meth : Method} {c : Code} {Q : State → Prop} {E : am_E} {N0 U0 nL : Nat} {lg : List Nat} {cc : ByteArray} {pc : Nat} {ls : Lsl} {M : Mem} {S : Sh} {t : List AV} {a : Nat} {i x : Int} (hSW : am_SW E s s.heap) (hx : p.tables.exec = Jvm.exec) (hb : c.code = cc) (hK : S.1 a = 7) (h6 : 6 ≤ a) (h0 : 0 ≤ i) (h1 : i < S.2.1 a) (hd : decode cc pc = .ok (.iastore, 1)) (k : GW p l e R s mi args below meth c Q E N0 U0 nL lg (pc + 1) (ls) (t) (mset M a i.toNat x) (S)) : GW p l e R s mi args below meth c Q E N0 U0 nL lg (pc) (ls) (aI x :: aI i :: aR a :: t) (M) (S) := by
  intro H locs cells slots larr hy
  have ho := hy.ok
  obtain ⟨hR, hL, hS, hM, -⟩ := id hy
  have hc := hR.cell (by omega) h6
  rw [cellI hK] at hc
  have hin := oI_in (n := S.2.1 a) ho.2.1 h0 h1
  refine W.iast hx hb (show H[am_ro2 E a]? = some (vp_cell E.2.2.2.1.1 (S.2.1 a, .inl (fun k => Int32.ofInt (M a k)))) from hc) ((hSW.1.2 0 _ rfl).1 (S.2.1 a) (fun j => .int (Int32.ofInt (M a j)))) (fun q => by cases q) (by show ¬ (Int32.ofInt i < 0 ∨ (arrV _ _ _).slots.size ≤ _); rw [arrV_size]; exact hin) rfl rfl hd fun H1 e1 z oq => ?_
  refine k H1 _ cells slots larr (hy.put h6 (fun b hb => mset_ne M i.toNat x hb) (fun _ _ => rfl) rfl rfl rfl (fun q => mset_ok hM ho.1 a q) z oq ?_ ho.2.2.2)
  rw [cellI hK]
  show H1[am_ro2 E a]? = some (vp_cell _ _)
  rw [e1, vp_cell_i, vp_cell_i, arrV_store, oI_cl ho.2.1 h0]
  congr 2
  funext q
  unfold updV mset
  by_cases hq : q = i.toNat
  · rw [if_pos hq, if_pos ⟨rfl, hq⟩]
  · rw [if_neg hq, if_neg (fun z => hq z.2)]
theorem so_aald {p : Program} {l : Launch} {e : Env} {R : Room} {s : State} {mi : MethodId} {args : Array Value} {below : List Frame} {meth : Method} {c : Code} {Q : State → Prop} {E : am_E} {N0 U0 nL : Nat} {lg : List Nat} {cc : ByteArray} {pc : Nat} {ls : Lsl} {M : Mem} {S : Sh} {t : List AV} {a : Nat} {i : Int} (hSW : am_SW E s s.heap) (hx : p.tables.exec = Jvm.exec) (hb : c.code = cc) (hK : S.1 a = 8 ∨ S.1 a = 9) (h0 : 0 ≤ i) (h1 : i < S.2.1 a) (hd : decode cc pc = .ok (.aaload, 1)) (k : GW p l e R s mi args below meth c Q E N0 U0 nL lg (pc + 1) (ls) (aO (S.2.2.1 a i.toNat) :: t) (M) (S)) : GW p l e R s mi args below meth c Q E N0 U0 nL lg (pc) (ls) (aI i :: aR a :: t) (M) (S) := by
  intro H locs cells slots larr hy
  have ho := hy.ok
  obtain ⟨hR, hL, hS, hM, -⟩ := id hy
  have h6 := hR.lo (a := a) (by omega) (by omega)
  have hc := hR.cell (a := a) (by omega) h6
  rw [cellR hK] at hc
  by_cases h8 : S.1 a = 8
  · rw [if_pos h8] at hc
    refine va_aldq hx hb hSW.1 (P1 hc) 0 1 rfl rfl (oI_in ho.1 h0 h1) hd ?_
    rw [oI_cl ho.1 h0]
    exact k H locs cells slots larr (hy.st ⟨trivial, ho.2.2⟩)
  · rw [if_neg h8] at hc
    refine va_aldq hx hb hSW.1 (P1 hc) 0 2 rfl rfl (oI_in ho.1 h0 h1) hd ?_
    rw [oI_cl ho.1 h0]
    exact k H locs cells slots larr (hy.st ⟨trivial, ho.2.2⟩)
theorem so_aast {p : Program} {l : Launch} {e : Env} {R : Room} {s : State} {mi : MethodId} {args : Array Value} {below : List Frame} {meth : Method} {c : Code} {Q : State → Prop} {E : am_E} {N0 U0 nL : Nat} {lg : List Nat} {cc : ByteArray} {pc : Nat} {ls : Lsl} {M : Mem} {S : Sh} {t : List AV} {a v t0 ci : Nat} {i : Int} (hSW : am_SW E s s.heap) (hx : p.tables.exec = Jvm.exec) (hb : c.code = cc) (hK : (S.1 a = 8 ∧ S.1 v = 1) ∨ (S.1 a = 9 ∧ S.1 v = 4)) (h0 : 0 ≤ i) (h1 : i < S.2.1 a) (hd : decode cc pc = .ok (.aastore, 1)) (k : GW p l e R s mi args below meth c Q E N0 U0 nL lg (pc + 1) (ls) (t) (M) ((S.1, S.2.1, pset S.2.2.1 a i.toNat (some v), S.2.2.2))) : GW p l e R s mi args below meth c Q E N0 U0 nL lg (pc) (ls) (aR v :: aI i :: aR a :: t) (M) (S) := by
  intro H locs cells slots larr hy
  have ho := hy.ok
  obtain ⟨hR, hL, hS, hM, -⟩ := id hy
  have h6 := hR.lo (a := a) (by omega) (by omega)
  have hc := hR.cell (a := a) (by omega) h6
  have hcv := hR.cell (a := v) (by omega) (hR.lo (by omega) (by omega))
  rw [cellO (a := v) (by omega)] at hcv
  have key : ∀ (t0 ci : Nat) (cA : ClassId) (r : vw_C), (am_tys E)[t0]? = some (cA, .object r.1) → vwCl[ci]? = some r → S.1 v = ci → am_cell E M S a = .inl (cA, (S.2.1 a, .inr (.inr (.inr (.inr (fun k => (S.2.2.1 a k).map (am_ro2 E))))))) → am_cell E M ((S.1, S.2.1, pset S.2.2.1 a i.toNat (some v), S.2.2.2)) a = .inl (cA, (S.2.1 a, .inr (.inr (.inr (.inr (fun k => (pset S.2.2.1 a i.toNat (some v) a k).map (am_ro2 E))))))) → W p l e R s mi args below meth c H locs cells slots Q (F0 mi pc larr ((aR v :: aI i :: aR a :: t).map (am_tr E))) := by
    intro t0 ci cA r ht hcl hv e1 e2
    rw [e1] at hc
    rw [hv] at hcv
    obtain ⟨r', hr', cellV, g1, g2, g3, -⟩ := hcv
    have hrr : r' = r := Option.some.inj (hr'.symm.trans hcl)
    subst hrr
    have hcls := (hSW.1.1 ci r' hcl).2
    obtain ⟨kA, comp, k1, k2, k3, -⟩ := (hSW.1.2 t0 _ ht).2
    have hcomp : comp = E.2.2.1.1 ci := Option.some.inj (k3.symm.trans hcls.1)
    subst hcomp
    have hcls2 := hcls
    obtain ⟨-, kC, hkC, -⟩ := hcls2
    have hin := oI_in (n := S.2.1 a) ho.2.1 h0 h1
    refine W.aast hx hb (show H[am_ro2 E a]? = some (vp_cell cA (S.2.1 a, .inr (.inr (.inr (.inr (fun k => (S.2.2.1 a k).map (am_ro2 E))))))) from hc) (fun q h => by cases h) (fun h => by cases h) k1 k2 rfl hkC ⟨fun q => hin (Or.inl q), by show _ < (arrV _ _ _).slots.size; rw [arrV_size]; exact Nat.not_le.mp fun q => hin (Or.inr q)⟩ g1 (fun q h => by rw [g3] at h; cases h) (by rw [g2]; exact hkC) (by rw [g2]; exact va_assign hcls) rfl rfl hd fun H1 e3 z oq => ?_
    refine k H1 _ cells slots larr (hy.put h6 (fun _ _ => rfl) (fun b hb => pset_ne _ i.toNat _ hb) rfl rfl rfl (fun q => hM a q) z oq ?_ ho.2.2.2)
    rw [e2]
    show H1[am_ro2 E a]? = some (vp_cell _ _)
    rw [e3, vp_cell_q, vp_cell_q, arrV_store, oI_cl ho.2.1 h0]
    congr 2
    funext q
    unfold updV pset
    by_cases hq : q = i.toNat
    · rw [if_pos hq, if_pos ⟨rfl, hq⟩]
      rfl
    · rw [if_neg hq, if_neg (fun z => hq z.2)]
  rcases hK with ⟨q1, q2⟩ | ⟨q1, q2⟩
  · exact key 1 1 E.2.2.2.1.2.1 _ rfl rfl q2 (by rw [cellR (Or.inl q1), if_pos q1]) (by rw [cellR (S := (S.1, S.2.1, pset S.2.2.1 a i.toNat (some v), S.2.2.2)) (Or.inl q1), if_pos (show ((S.1, S.2.1, pset S.2.2.1 a i.toNat (some v), S.2.2.2) : Sh).1 a = 8 from q1)])
  · exact key 2 4 E.2.2.2.1.2.2 _ rfl rfl q2 (by rw [cellR (Or.inr q1), if_neg (by omega)]) (by rw [cellR (S := (S.1, S.2.1, pset S.2.2.1 a i.toNat (some v), S.2.2.2)) (Or.inr q1), if_neg (show ¬ ((S.1, S.2.1, pset S.2.2.1 a i.toNat (some v), S.2.2.2) : Sh).1 a = 8 from fun z => by have z : S.1 a = 8 := z; omega)])
theorem am_Hy.add {s : State} {E : am_E} {N0 U0 nL n : Nat} {lg : List Nat} {ls : Lsl} {st st' : List AV} {M M' : Mem} {S S' : Sh} {H H1 : Heap} {locs : List Loc} {cells slots : Nat} {larr : Array Slot} (h : am_Hy s E N0 U0 nL lg ls st M S H locs cells slots larr) (hM : ∀ b, b ≠ S.2.2.2.1 → M' b = M b) (hP : ∀ b, b ≠ S.2.2.2.1 → S'.2.2.1 b = S.2.2.1 b) (hK : ∀ b, b ≠ S.2.2.2.1 → S'.1 b = S.1 b) (hL : ∀ b, b ≠ S.2.2.2.1 → S'.2.1 b = S.2.1 b) (hN : S'.2.2.2.1 = S.2.2.2.1 + 1) (hU : S'.2.2.2.2 = S.2.2.2.2 + n) (hok : ∀ k, r32 (M' S.2.2.2.1 k)) (z : H1.size = H.size + 1) (o : ∀ q, q < H.size → H1[q]? = H[q]?) (hk9 : S'.1 S.2.2.2.1 ≤ 9) (hl9 : S'.2.1 S.2.2.2.1 ≤ 100000) (hc : va_at E.2.2.1 vwCl (H.size, am_cell E M' S' S.2.2.2.1) H1) (h3' : okSt st') : am_Hy s E N0 U0 nL lg ls st' M' S' H1 locs (cells + 1) (slots + n) larr := by
  obtain ⟨h1, h2, h3, h4, h5, h6', h7, h8⟩ := h
  refine ⟨h1.add hM hP hK hL hN z o hk9 hl9 hc, h2, ⟨Nat.le_trans h3.1 (by omega), fun q g1 g2 => (o q (Nat.lt_of_lt_of_le g1 h3.1)).trans (h3.2.1 q g1 g2), h3.2.2⟩, fun b k => ?_, h5, h3', by rw [hN]; omega, by rw [hU]; omega⟩
  by_cases e : b = S.2.2.2.1
  · rw [e]; exact hok k
  · rw [hM b e]; exact h4 b k
theorem fset_eq {α : Type} (f : Nat → α) (a : Nat) (v : α) : fset f a v a = v := by
  unfold fset
  rw [if_pos rfl]
theorem fset_ne {α : Type} (f : Nat → α) {a b : Nat} (v : α) (h : b ≠ a) : fset f a v b = f b := by
  unfold fset
  rw [if_neg h]
theorem mrow_eq (M : Mem) (a : Nat) (f : Nat → Int) : mrow M a f a = f := by
  funext j
  unfold mrow
  rw [if_pos rfl]
theorem mrow_ne (M : Mem) {a b : Nat} (f : Nat → Int) (h : b ≠ a) : mrow M a f b = M b := by
  funext j
  unfold mrow
  rw [if_neg h]
theorem ro_N {E : am_E} {M : Mem} {S : Sh} {H : Heap} (h : HR E M S H) : am_ro2 E S.2.2.2.1 = H.size := by
  rw [ro_hi E h.1.1]
  have := h.1.2
  have := h.1.1
  omega
theorem so_new {p : Program} {l : Launch} {e : Env} {R : Room} {s : State} {mi : MethodId} {args : Array Value} {below : List Frame} {meth : Method} {c : Code} {Q : State → Prop} {E : am_E} {N0 U0 nL : Nat} {lg : List Nat} {cc : ByteArray} {pc : Nat} {ls : Lsl} {M : Mem} {S : Sh} {t : List AV} {own : String} (hown : s.vm.findClass own = some mi.cls) (hts : ∀ w ∈ wsL_law, w.before args s = true) (hSW : am_SW E s s.heap) {ci idx : Nat} (hci : ci < 7) (hcl : (Jvm.Cond.classLink own idx (am_T ci).1).before args s = true) (hinst : (Jvm.Cond.instantiable (am_T ci).1 (am_T ci).2.2).before args s = true) (hini : (Jvm.Cond.initialized (am_T ci).1).before args s = true) (hcN : S.2.2.2.1 + 1 ≤ N0 + R.cells) (hsN : S.2.2.2.2 + am_nf ci ≤ U0 + R.slots) (hl0 : S.2.1 S.2.2.2.1 ≤ 100000) (hx : p.tables.exec = Jvm.exec) (hb : c.code = cc) (hd : decode cc pc = .ok (.new idx, 3)) (k : GW p l e R s mi args below meth c Q E N0 U0 nL lg (pc + 3) (ls) (aR S.2.2.2.1 :: t) (mrow M S.2.2.2.1 (fun _ => 0)) ((fset S.1 S.2.2.2.1 ci, S.2.1, fset S.2.2.1 S.2.2.2.1 (fun _ => none), S.2.2.2.1 + 1, S.2.2.2.2 + am_nf ci))) : GW p l e R s mi args below meth c Q E N0 U0 nL lg (pc) (ls) (t) (M) (S) := by
  intro H locs cells slots larr hy
  have ho := hy.ok
  obtain ⟨hR, hL, hS, hM, hLs, hSt, hcc, hss⟩ := id hy
  have hKn := hSW.1.1 ci _ (cl_get ci hci)
  refine W.newcK (n := am_nf ci) (C := (am_T ci).1) hx hb hown hcl (by rw [← cl_nf ci hci]; exact hinst) hini rfl hd (by omega) (by omega) hKn.2.1 rfl fun H1 kC hkC e1 z1 o1 => ?_
  have e2 := ro_N hR
  have e0 : ((fset S.1 S.2.2.2.1 ci, S.2.1, fset S.2.2.1 S.2.2.2.1 (fun _ => none), S.2.2.2.1 + 1, S.2.2.2.2 + am_nf ci) : Sh).1 S.2.2.2.1 = ci := fset_eq _ _ _
  have hk := k H1 locs (cells + 1) (slots + am_nf ci) larr (hy.add (n := am_nf ci) (fun b hb => mrow_ne M _ hb) (fun b hb => fset_ne _ _ hb) (fun b hb => fset_ne _ _ hb) (fun b hb => rfl) rfl rfl (fun q => by rw [mrow_eq]; exact r32_0) z1 o1 (by rw [e0]; omega) hl0 ?_ ⟨trivial, ho⟩)
  · have e3 : am_tr E (aR S.2.2.2.1) = .ref H.size := by
      show Value.ref (am_ro2 E S.2.2.2.1) = _
      rw [e2]
    rw [List.map_cons, e3] at hk
    exact hk
  · rw [cellO (by rw [e0]; omega), e0]
    refine ⟨_, cl_get ci hci, (u_born (am_ty ci) hts (cl_hin ci hci) hKn hkC e1 (cl_ty ci hci)).to fun j hj => ?_⟩
    show _ = vp_V _ j
    unfold vp_V
    have hj2 : j < am_nf ci := by rw [← cl_nf ci hci]; exact hj
    rw [List.getD_eq_getElem?_getD, fs_get hj2]
    have hty := cl_ref ci hci j hj
    show _ = am_fv E (mrow M S.2.2.2.1 (fun _ => 0)) ((fset S.1 S.2.2.2.1 ci, S.2.1, fset S.2.2.1 S.2.2.2.1 (fun _ => none), S.2.2.2.1 + 1, S.2.2.2.2 + am_nf ci)) S.2.2.2.1 j
    unfold am_fv
    rw [e0, hty.1, show ((fset S.1 S.2.2.2.1 ci, S.2.1, fset S.2.2.1 S.2.2.2.1 (fun _ => none), S.2.2.2.1 + 1, S.2.2.2.2 + am_nf ci) : Sh).2.2.1 S.2.2.2.1 j = none from congrFun (fset_eq S.2.2.1 S.2.2.2.1 (fun _ => none)) j, show (mrow M S.2.2.2.1 (fun _ => 0)) S.2.2.2.1 j = 0 from congrFun (mrow_eq M S.2.2.2.1 (fun _ => 0)) j]
    rcases hty.2 with q | q | q
    · rw [if_pos q]
      revert q
      cases am_ty ci j <;> intro q <;> first | rfl | cases q
    · rw [q]; rfl
    · rw [q]; rfl
theorem so_newa {p : Program} {l : Launch} {e : Env} {R : Room} {s : State} {mi : MethodId} {args : Array Value} {below : List Frame} {meth : Method} {c : Code} {Q : State → Prop} {E : am_E} {N0 U0 nL : Nat} {lg : List Nat} {cc : ByteArray} {pc : Nat} {ls : Lsl} {M : Mem} {S : Sh} {t : List AV} {n : Int} (hSW : am_SW E s s.heap) (harr : (Jvm.Cond.arrayClass .int).before args s = true) (hn0 : 0 ≤ n) (hn1 : n ≤ 100000) (hcN : S.2.2.2.1 + 1 ≤ N0 + R.cells) (hsN : S.2.2.2.2 + n.toNat ≤ U0 + R.slots) (hx : p.tables.exec = Jvm.exec) (hb : c.code = cc) (hd : decode cc pc = .ok (.newarray .int, 2)) (k : GW p l e R s mi args below meth c Q E N0 U0 nL lg (pc + 2) (ls) (aR S.2.2.2.1 :: t) (mrow M S.2.2.2.1 (fun _ => 0)) ((fset S.1 S.2.2.2.1 7, fset S.2.1 S.2.2.2.1 n.toNat, S.2.2.1, S.2.2.2.1 + 1, S.2.2.2.2 + n.toNat))) : GW p l e R s mi args below meth c Q E N0 U0 nL lg (pc) (ls) (aI n :: t) (M) (S) := by
  intro H locs cells slots larr hy
  have ho := hy.ok
  obtain ⟨hR, hL, hS, hM, hLs, hSt, hcc, hss⟩ := id hy
  refine va_newaK (N := n.toNat) hx hb (atype := .int) harr rfl hd rfl (oI_neg ho.1 hn0) (oI_cl ho.1 hn0) (by show n.toNat * 4 ≤ 536870912; omega) (by omega) (by omega) rfl fun H1 cA e1 z1 o1 hAr hNm => ?_
  have hcA : cA = E.2.2.2.1.1 := Option.some.inj (hNm.symm.trans (hSW.1.2 0 _ rfl).2)
  subst hcA
  have e2 := ro_N hR
  have e0 : ((fset S.1 S.2.2.2.1 7, fset S.2.1 S.2.2.2.1 n.toNat, S.2.2.1, S.2.2.2.1 + 1, S.2.2.2.2 + n.toNat) : Sh).1 S.2.2.2.1 = 7 := fset_eq _ _ _
  have e4 : ((fset S.1 S.2.2.2.1 7, fset S.2.1 S.2.2.2.1 n.toNat, S.2.2.1, S.2.2.2.1 + 1, S.2.2.2.2 + n.toNat) : Sh).2.1 S.2.2.2.1 = n.toNat := fset_eq _ _ _
  have hk := k H1 locs (cells + 1) (slots + n.toNat) larr (hy.add (n := n.toNat) (fun b hb => mrow_ne M _ hb) (fun b hb => rfl) (fun b hb => fset_ne _ _ hb) (fun b hb => fset_ne _ _ hb) rfl rfl (fun q => by rw [mrow_eq]; exact r32_0) z1 o1 (by rw [e0]; omega) (by rw [e4]; omega) ?_ ⟨trivial, ho.2⟩)
  · have e3 : am_tr E (aR S.2.2.2.1) = .ref H.size := by
      show Value.ref (am_ro2 E S.2.2.2.1) = _
      rw [e2]
    rw [List.map_cons, e3] at hk
    exact hk
  · rw [cellI e0, e4, mrow_eq]
    exact e1
theorem so_newq {p : Program} {l : Launch} {e : Env} {R : Room} {s : State} {mi : MethodId} {args : Array Value} {below : List Frame} {meth : Method} {c : Code} {Q : State → Prop} {E : am_E} {N0 U0 nL : Nat} {lg : List Nat} {cc : ByteArray} {pc : Nat} {ls : Lsl} {M : Mem} {S : Sh} {t : List AV} {own : String} (hown : s.vm.findClass own = some mi.cls) (hts : ∀ w ∈ wsL_law, w.before args s = true) (hSW : am_SW E s s.heap) {n : Int} {ci idx : Nat} {C : String} (hci : (ci = 8 ∧ C = RX1) ∨ (ci = 9 ∧ C = RX4)) (hcl : (Jvm.Cond.classLink own idx C).before args s = true) (hn0 : 0 ≤ n) (hn1 : n ≤ 100000) (hcN : S.2.2.2.1 + 1 ≤ N0 + R.cells) (hsN : S.2.2.2.2 + n.toNat ≤ U0 + R.slots) (hx : p.tables.exec = Jvm.exec) (hb : c.code = cc) (hd : decode cc pc = .ok (.anewarray idx, 3)) (k : GW p l e R s mi args below meth c Q E N0 U0 nL lg (pc + 3) (ls) (aR S.2.2.2.1 :: t) (M) ((fset S.1 S.2.2.2.1 ci, fset S.2.1 S.2.2.2.1 n.toNat, fset S.2.2.1 S.2.2.2.1 (fun _ => none), S.2.2.2.1 + 1, S.2.2.2.2 + n.toNat))) : GW p l e R s mi args below meth c Q E N0 U0 nL lg (pc) (ls) (aI n :: t) (M) (S) := by
  intro H locs cells slots larr hy
  have ho := hy.ok
  obtain ⟨hR, hL, hS, hM, hLs, hSt, hcc, hss⟩ := id hy
  have hao : va_AO C s := by
    rcases hci with ⟨-, q⟩ | ⟨-, q⟩
    · rw [q]; exact hSW.2.2.2.2.2.2.2.1
    · rw [q]; exact hSW.2.2.2.2.2.2.2.2.1
  refine W.anew hx hb hown hcl (va_AO.use hao) rfl hd rfl (oI_neg ho.1 hn0) (by rw [oI_cl ho.1 hn0]; omega) (by omega) (by rw [oI_cl ho.1 hn0]; omega) fun cA kA comp f1 f2 f3 f4 => ?_
  rw [oI_cl ho.1 hn0]
  generalize hH1 : H.push ({ cls := cA, slots := Array.replicate n.toNat .null, vm := .none } : Cell) = H1
  have z1 : H1.size = H.size + 1 := by rw [← hH1, Array.size_push]
  have e1 : H1[H.size]? = some (arrV cA n.toNat (fun _ => .null)) := by rw [← hH1, Array.getElem?_push_size, ← arrV_new]
  have o1 : ∀ q : Nat, q < H.size → H1[q]? = H[q]? := fun q hq => by rw [← hH1, Array.getElem?_push, if_neg (Nat.ne_of_lt hq)]
  have e2 := ro_N hR
  have e0 : ((fset S.1 S.2.2.2.1 ci, fset S.2.1 S.2.2.2.1 n.toNat, fset S.2.2.1 S.2.2.2.1 (fun _ => none), S.2.2.2.1 + 1, S.2.2.2.2 + n.toNat) : Sh).1 S.2.2.2.1 = ci := fset_eq _ _ _
  have e4 : ((fset S.1 S.2.2.2.1 ci, fset S.2.1 S.2.2.2.1 n.toNat, fset S.2.2.1 S.2.2.2.1 (fun _ => none), S.2.2.2.1 + 1, S.2.2.2.2 + n.toNat) : Sh).2.1 S.2.2.2.1 = n.toNat := fset_eq _ _ _
  have hk := k H1 locs (cells + 1) (slots + n.toNat) larr (hy.add (n := n.toNat) (fun b hb => rfl) (fun b hb => fset_ne _ _ hb) (fun b hb => fset_ne _ _ hb) (fun b hb => fset_ne _ _ hb) rfl rfl (fun q => hM _ _) z1 o1 (by rw [e0]; omega) (by rw [e4]; omega) ?_ ⟨trivial, ho.2⟩)
  · have e3 : am_tr E (aR S.2.2.2.1) = .ref H.size := by
      show Value.ref (am_ro2 E S.2.2.2.1) = _
      rw [e2]
    rw [List.map_cons, e3] at hk
    exact hk
  · rw [cellR (by rw [e0]; omega), e4, e0]
    have e5 : (fun k => (((fset S.1 S.2.2.2.1 ci, fset S.2.1 S.2.2.2.1 n.toNat, fset S.2.2.1 S.2.2.2.1 (fun _ => none), S.2.2.2.1 + 1, S.2.2.2.2 + n.toNat) : Sh).2.2.1 S.2.2.2.1 k).map (am_ro2 E)) = fun _ => (none : Option Nat) := by
      funext q
      rw [show ((fset S.1 S.2.2.2.1 ci, fset S.2.1 S.2.2.2.1 n.toNat, fset S.2.2.1 S.2.2.2.1 (fun _ => none), S.2.2.2.1 + 1, S.2.2.2.2 + n.toNat) : Sh).2.2.1 S.2.2.2.1 q = none from congrFun (fset_eq S.2.2.1 S.2.2.2.1 (fun _ => none)) q]
      rfl
    rw [e5]
    have hcA : cA = if ci = 8 then E.2.2.2.1.2.1 else E.2.2.2.1.2.2 := by
      rcases hci with ⟨q1, q2⟩ | ⟨q1, q2⟩
      · rw [if_pos q1]
        obtain ⟨_, _, -, -, -, g4⟩ := (hSW.1.2 1 _ rfl).2
        rw [q2] at f1
        exact Option.some.inj (f1.symm.trans g4)
      · rw [if_neg (by omega)]
        obtain ⟨_, _, -, -, -, g4⟩ := (hSW.1.2 2 _ rfl).2
        rw [q2] at f1
        exact Option.some.inj (f1.symm.trans g4)
    rw [← hcA]
    exact e1
