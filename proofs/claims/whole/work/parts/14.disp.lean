theorem so_step {p : Program} {l : Launch} {e : Env} {R : Room} {s : State} {mi : MethodId} {args : Array Value} {below : List Frame} {meth : Method} {c : Code} {Q : State → Prop} {E : am_E} {N0 U0 nL : Nat} {lg : List Nat} {cc : ByteArray} {pc : Nat} {ls : Lsl} {st : List AV} {M : Mem} {S : Sh} {own nm : String} {ret : Option FieldType} {len : Nat} {inf : List Int} {pc' : Nat} {ls' : Lsl} {st' : List AV} {M' : Mem} {S' : Sh} {i : Instr} (hC : SC p R s mi args meth c E cc nL own nm N0 U0 S S') (hd : decode cc pc = .ok (i, len)) (hok : okE own nm nL lg ret (pc, (i, len, inf)) = true) (hs : am_step (i, len, inf) pc ls st M S = some (Sum.inl (pc', ls', st', M', S'))) (k : GW p l e R s mi args below meth c Q E N0 U0 nL lg pc' ls' st' M' S') : GW p l e R s mi args below meth c Q E N0 U0 nL lg pc ls st M S := by
  cases i
  case iadd => exact st_iadd hC hd hok hs k
  case isub => exact st_isub hC hd hok hs k
  case imul => exact st_imul hC hd hok hs k
  case idiv => exact st_idiv hC hd hok hs k
  case irem => exact st_irem hC hd hok hs k
  case ineg => exact st_ineg hC hd hok hs k
  case iand => exact st_iand hC hd hok hs k
  case ior => exact st_ior hC hd hok hs k
  case ishl => exact st_ishl hC hd hok hs k
  case i2b => exact st_i2b hC hd hok hs k
  case i2s => exact st_i2s hC hd hok hs k
  case i2l => exact st_i2l hC hd hok hs k
  case ladd => exact st_ladd hC hd hok hs k
  case lmul => exact st_lmul hC hd hok hs k
  case ldiv => exact st_ldiv hC hd hok hs k
  case lrem => exact st_lrem hC hd hok hs k
  case lcmp => exact st_lcmp hC hd hok hs k
  case iconst => exact st_iconst hC hd hok hs k
  case bipush => exact st_bipush hC hd hok hs k
  case sipush => exact st_sipush hC hd hok hs k
  case lconst => exact st_lconst hC hd hok hs k
  case aconst_null => exact st_aconst_null hC hd hok hs k
  case ldc => exact st_ldc hC hd hok hs k
  case ldc_w => exact st_ldc_w hC hd hok hs k
  case ldc2_w => exact st_ldc2_w hC hd hok hs k
  case iload => exact st_iload hC hd hok hs k
  case lload => exact st_lload hC hd hok hs k
  case aload => exact st_aload hC hd hok hs k
  case iload_n => exact st_iload_n hC hd hok hs k
  case lload_n => exact st_lload_n hC hd hok hs k
  case aload_n => exact st_aload_n hC hd hok hs k
  case istore => exact st_istore hC hd hok hs k
  case astore => exact st_astore hC hd hok hs k
  case istore_n => exact st_istore_n hC hd hok hs k
  case astore_n => exact st_astore_n hC hd hok hs k
  case lstore => exact st_lstore hC hd hok hs k
  case lstore_n => exact st_lstore_n hC hd hok hs k
  case iinc => exact st_iinc hC hd hok hs k
  case dup => exact st_dup hC hd hok hs k
  case dup2 => exact st_dup2 hC hd hok hs k
  case pop => exact st_pop hC hd hok hs k
  case goto => exact st_goto hC hd hok hs k
  case ifCond => exact st_ifCond hC hd hok hs k
  case if_icmp => exact st_if_icmp hC hd hok hs k
  case ifnull => exact st_ifnull hC hd hok hs k
  case ifnonnull => exact st_ifnonnull hC hd hok hs k
  case tableswitch => exact st_tableswitch hC hd hok hs k
  case lookupswitch => exact st_lookupswitch hC hd hok hs k
  case getstatic => exact st_getstatic hC hd hok hs k
  case getfield => exact st_getfield hC hd hok hs k
  case putfield => exact st_putfield hC hd hok hs k
  case arraylength => exact st_arraylength hC hd hok hs k
  case iaload => exact st_iaload hC hd hok hs k
  case iastore => exact st_iastore hC hd hok hs k
  case aaload => exact st_aaload hC hd hok hs k
  case aastore => exact st_aastore hC hd hok hs k
  case new => exact st_new hC hd hok hs k
  case anewarray => exact st_anewarray hC hd hok hs k
  case invokestatic => exact st_invokestatic hC hd hok hs k
  case invokespecial => exact st_invokespecial hC hd hok hs k
  case invokevirtual => exact st_invokevirtual hC hd hok hs k
  case ireturn => simp only [am_step] at hs; split at hs <;> first | (cases hs; done) | (obtain ⟨-, hs⟩ := bnd_inv hs; cases hs)
  case lreturn => simp only [am_step] at hs; split at hs <;> first | (cases hs; done) | (obtain ⟨-, hs⟩ := bnd_inv hs; cases hs)
  case areturn => simp only [am_step] at hs; split at hs <;> first | (cases hs; done) | (obtain ⟨-, hs⟩ := bnd_inv hs; cases hs)
  case return_ => simp only [am_step] at hs; split at hs <;> first | (cases hs; done) | (obtain ⟨-, hs⟩ := bnd_inv hs; cases hs)
  case newarray a =>
    cases a
    case int => exact st_newarray hC hd hok hs k
    all_goals (have hs : (none : Option Rs) = some _ := hs; cases hs)
  all_goals (have hs : (none : Option Rs) = some _ := hs; cases hs)
theorem step_mono {f : AI} {pc : Nat} {ls : Lsl} {st : List AV} {M : Mem} {S : Sh} {pc' : Nat} {ls' : Lsl} {st' : List AV} {M' : Mem} {S' : Sh} (h : am_step f pc ls st M S = some (Sum.inl (pc', ls', st', M', S'))) : S.2.2.2.1 ≤ S'.2.2.2.1 ∧ S.2.2.2.2 ≤ S'.2.2.2.2 ∧ ((∀ a, S.2.1 a ≤ 100000) → ∀ a, S'.2.1 a ≤ 100000) := by
  unfold am_step at h
  split at h
  · cases nx_inv h
    exact ⟨Nat.le_refl _, Nat.le_refl _, fun z => z⟩
  · cases nx_inv h
    exact ⟨Nat.le_refl _, Nat.le_refl _, fun z => z⟩
  · cases nx_inv h
    exact ⟨Nat.le_refl _, Nat.le_refl _, fun z => z⟩
  · cases nx_inv h
    exact ⟨Nat.le_refl _, Nat.le_refl _, fun z => z⟩
  · cases nx_inv h
    exact ⟨Nat.le_refl _, Nat.le_refl _, fun z => z⟩
  · split at h
    · cases nx_inv h
      exact ⟨Nat.le_refl _, Nat.le_refl _, fun z => z⟩
    · cases nx_inv h
      exact ⟨Nat.le_refl _, Nat.le_refl _, fun z => z⟩
    · cases h
  · split at h
    · cases nx_inv h
      exact ⟨Nat.le_refl _, Nat.le_refl _, fun z => z⟩
    · cases h
  · split at h
    · cases nx_inv h
      exact ⟨Nat.le_refl _, Nat.le_refl _, fun z => z⟩
    · cases h
  · obtain ⟨_, -, h⟩ := ldI_inv h
    cases h
    exact ⟨Nat.le_refl _, Nat.le_refl _, fun z => z⟩
  · obtain ⟨_, -, h⟩ := ldI_inv h
    cases h
    exact ⟨Nat.le_refl _, Nat.le_refl _, fun z => z⟩
  · obtain ⟨_, -, h⟩ := ldL_inv h
    cases h
    exact ⟨Nat.le_refl _, Nat.le_refl _, fun z => z⟩
  · obtain ⟨_, -, h⟩ := ldL_inv h
    cases h
    exact ⟨Nat.le_refl _, Nat.le_refl _, fun z => z⟩
  · obtain ⟨_, -, h⟩ := ldO_inv h
    cases h
    exact ⟨Nat.le_refl _, Nat.le_refl _, fun z => z⟩
  · obtain ⟨_, -, h⟩ := ldO_inv h
    cases h
    exact ⟨Nat.le_refl _, Nat.le_refl _, fun z => z⟩
  · obtain ⟨_, _, -, h⟩ := pI_inv h
    cases nx_inv h
    exact ⟨Nat.le_refl _, Nat.le_refl _, fun z => z⟩
  · obtain ⟨_, _, -, h⟩ := pI_inv h
    cases nx_inv h
    exact ⟨Nat.le_refl _, Nat.le_refl _, fun z => z⟩
  · obtain ⟨_, _, -, h⟩ := pO_inv h
    cases nx_inv h
    exact ⟨Nat.le_refl _, Nat.le_refl _, fun z => z⟩
  · obtain ⟨_, _, -, h⟩ := pO_inv h
    cases nx_inv h
    exact ⟨Nat.le_refl _, Nat.le_refl _, fun z => z⟩
  · obtain ⟨_, _, -, h⟩ := pL_inv h
    cases nx_inv h
    exact ⟨Nat.le_refl _, Nat.le_refl _, fun z => z⟩
  · obtain ⟨_, _, -, h⟩ := pL_inv h
    cases nx_inv h
    exact ⟨Nat.le_refl _, Nat.le_refl _, fun z => z⟩
  · obtain ⟨_, -, h⟩ := glv_inv h
    split at h
    · cases nx_inv h
      exact ⟨Nat.le_refl _, Nat.le_refl _, fun z => z⟩
    · cases h
  · obtain ⟨_, _, -, h⟩ := pI_inv h
    obtain ⟨_, _, -, h⟩ := pI_inv h
    cases nx_inv h
    exact ⟨Nat.le_refl _, Nat.le_refl _, fun z => z⟩
  · obtain ⟨_, _, -, h⟩ := pI_inv h
    obtain ⟨_, _, -, h⟩ := pI_inv h
    cases nx_inv h
    exact ⟨Nat.le_refl _, Nat.le_refl _, fun z => z⟩
  · obtain ⟨_, _, -, h⟩ := pI_inv h
    obtain ⟨_, _, -, h⟩ := pI_inv h
    cases nx_inv h
    exact ⟨Nat.le_refl _, Nat.le_refl _, fun z => z⟩
  · obtain ⟨_, _, -, h⟩ := pI_inv h
    obtain ⟨_, _, -, h⟩ := pI_inv h
    obtain ⟨-, h⟩ := bnd_inv h
    cases nx_inv h
    exact ⟨Nat.le_refl _, Nat.le_refl _, fun z => z⟩
  · obtain ⟨_, _, -, h⟩ := pI_inv h
    obtain ⟨_, _, -, h⟩ := pI_inv h
    obtain ⟨-, h⟩ := bnd_inv h
    cases nx_inv h
    exact ⟨Nat.le_refl _, Nat.le_refl _, fun z => z⟩
  · obtain ⟨_, _, -, h⟩ := pI_inv h
    cases nx_inv h
    exact ⟨Nat.le_refl _, Nat.le_refl _, fun z => z⟩
  · obtain ⟨_, _, -, h⟩ := pI_inv h
    obtain ⟨_, _, -, h⟩ := pI_inv h
    cases nx_inv h
    exact ⟨Nat.le_refl _, Nat.le_refl _, fun z => z⟩
  · obtain ⟨_, _, -, h⟩ := pI_inv h
    obtain ⟨_, _, -, h⟩ := pI_inv h
    cases nx_inv h
    exact ⟨Nat.le_refl _, Nat.le_refl _, fun z => z⟩
  · obtain ⟨_, _, -, h⟩ := pI_inv h
    obtain ⟨_, _, -, h⟩ := pI_inv h
    cases nx_inv h
    exact ⟨Nat.le_refl _, Nat.le_refl _, fun z => z⟩
  · obtain ⟨_, _, -, h⟩ := pI_inv h
    cases nx_inv h
    exact ⟨Nat.le_refl _, Nat.le_refl _, fun z => z⟩
  · obtain ⟨_, _, -, h⟩ := pI_inv h
    cases nx_inv h
    exact ⟨Nat.le_refl _, Nat.le_refl _, fun z => z⟩
  · obtain ⟨_, _, -, h⟩ := pI_inv h
    cases nx_inv h
    exact ⟨Nat.le_refl _, Nat.le_refl _, fun z => z⟩
  · obtain ⟨_, _, -, h⟩ := pL_inv h
    obtain ⟨_, _, -, h⟩ := pL_inv h
    cases nx_inv h
    exact ⟨Nat.le_refl _, Nat.le_refl _, fun z => z⟩
  · obtain ⟨_, _, -, h⟩ := pL_inv h
    obtain ⟨_, _, -, h⟩ := pL_inv h
    cases nx_inv h
    exact ⟨Nat.le_refl _, Nat.le_refl _, fun z => z⟩
  · obtain ⟨_, _, -, h⟩ := pL_inv h
    obtain ⟨_, _, -, h⟩ := pL_inv h
    obtain ⟨-, h⟩ := bnd_inv h
    cases nx_inv h
    exact ⟨Nat.le_refl _, Nat.le_refl _, fun z => z⟩
  · obtain ⟨_, _, -, h⟩ := pL_inv h
    obtain ⟨_, _, -, h⟩ := pL_inv h
    obtain ⟨-, h⟩ := bnd_inv h
    cases nx_inv h
    exact ⟨Nat.le_refl _, Nat.le_refl _, fun z => z⟩
  · obtain ⟨_, _, -, h⟩ := pL_inv h
    obtain ⟨_, _, -, h⟩ := pL_inv h
    cases nx_inv h
    exact ⟨Nat.le_refl _, Nat.le_refl _, fun z => z⟩
  · split at h
    · cases nx_inv h
      exact ⟨Nat.le_refl _, Nat.le_refl _, fun z => z⟩
    · cases nx_inv h
      exact ⟨Nat.le_refl _, Nat.le_refl _, fun z => z⟩
    · cases h
  · obtain ⟨_, _, -, h⟩ := pI_inv h
    obtain ⟨_, _, -, h⟩ := pR_inv h
    cases nx_inv h
    exact ⟨Nat.le_refl _, Nat.le_refl _, fun z => z⟩
  · obtain ⟨_, _, -, h⟩ := pI_inv h
    cases nx_inv h
    exact ⟨Nat.le_refl _, Nat.le_refl _, fun z => z⟩
  · cases nx_inv h
    exact ⟨Nat.le_refl _, Nat.le_refl _, fun z => z⟩
  · obtain ⟨_, _, -, h⟩ := pI_inv h
    rcases brn_inv h with ⟨-, h⟩ | ⟨-, h⟩ <;> (cases h; exact ⟨Nat.le_refl _, Nat.le_refl _, fun z => z⟩)
  · obtain ⟨_, _, -, h⟩ := pI_inv h
    obtain ⟨_, _, -, h⟩ := pI_inv h
    rcases brn_inv h with ⟨-, h⟩ | ⟨-, h⟩ <;> (cases h; exact ⟨Nat.le_refl _, Nat.le_refl _, fun z => z⟩)
  · obtain ⟨_, _, -, h⟩ := pO_inv h
    rcases brn_inv h with ⟨-, h⟩ | ⟨-, h⟩ <;> (cases h; exact ⟨Nat.le_refl _, Nat.le_refl _, fun z => z⟩)
  · obtain ⟨_, _, -, h⟩ := pO_inv h
    rcases brn_inv h with ⟨-, h⟩ | ⟨-, h⟩ <;> (cases h; exact ⟨Nat.le_refl _, Nat.le_refl _, fun z => z⟩)
  · obtain ⟨_, _, -, h⟩ := pI_inv h
    split at h
    · cases nx_inv h
      exact ⟨Nat.le_refl _, Nat.le_refl _, fun z => z⟩
    · split at h
      · cases nx_inv h
        exact ⟨Nat.le_refl _, Nat.le_refl _, fun z => z⟩
      · cases h
  · obtain ⟨_, _, -, h⟩ := pI_inv h
    cases nx_inv h
    exact ⟨Nat.le_refl _, Nat.le_refl _, fun z => z⟩
  · split at h
    · cases nx_inv h
      exact ⟨Nat.le_refl _, Nat.le_refl _, fun z => z⟩
    · cases h
  · split at h
    · obtain ⟨_, _, -, h⟩ := pR_inv h
      obtain ⟨-, h⟩ := bnd_inv h
      split at h
      · cases nx_inv h
        exact ⟨Nat.le_refl _, Nat.le_refl _, fun z => z⟩
      · cases nx_inv h
        exact ⟨Nat.le_refl _, Nat.le_refl _, fun z => z⟩
    · cases h
  · split at h
    · split at h
      · obtain ⟨_, _, -, h⟩ := pO_inv h
        obtain ⟨_, _, -, h⟩ := pR_inv h
        obtain ⟨-, h⟩ := bnd_inv h
        cases nx_inv h
        exact ⟨Nat.le_refl _, Nat.le_refl _, fun z => z⟩
      · obtain ⟨_, _, -, h⟩ := pI_inv h
        obtain ⟨_, _, -, h⟩ := pR_inv h
        obtain ⟨-, h⟩ := bnd_inv h
        cases nx_inv h
        exact ⟨Nat.le_refl _, Nat.le_refl _, fun z => z⟩
    · cases h
  · obtain ⟨_, _, -, h⟩ := pR_inv h
    obtain ⟨-, h⟩ := bnd_inv h
    cases nx_inv h
    exact ⟨Nat.le_refl _, Nat.le_refl _, fun z => z⟩
  · obtain ⟨_, _, -, h⟩ := pI_inv h
    obtain ⟨_, _, -, h⟩ := pR_inv h
    obtain ⟨-, h⟩ := bnd_inv h
    cases nx_inv h
    exact ⟨Nat.le_refl _, Nat.le_refl _, fun z => z⟩
  · obtain ⟨_, _, -, h⟩ := pI_inv h
    obtain ⟨_, _, -, h⟩ := pI_inv h
    obtain ⟨_, _, -, h⟩ := pR_inv h
    obtain ⟨-, h⟩ := bnd_inv h
    cases nx_inv h
    exact ⟨Nat.le_refl _, Nat.le_refl _, fun z => z⟩
  · obtain ⟨_, _, -, h⟩ := pI_inv h
    obtain ⟨_, _, -, h⟩ := pR_inv h
    obtain ⟨-, h⟩ := bnd_inv h
    cases nx_inv h
    exact ⟨Nat.le_refl _, Nat.le_refl _, fun z => z⟩
  · obtain ⟨_, _, -, h⟩ := pR_inv h
    obtain ⟨_, _, -, h⟩ := pI_inv h
    obtain ⟨_, _, -, h⟩ := pR_inv h
    obtain ⟨-, h⟩ := bnd_inv h
    cases nx_inv h
    exact ⟨Nat.le_refl _, Nat.le_refl _, fun z => z⟩
  · split at h
    · cases nx_inv h
      exact ⟨Nat.le_succ _, Nat.le_add_right _ _, fun z => z⟩
    · cases h
  · obtain ⟨_, _, -, h⟩ := pI_inv h
    obtain ⟨hb, h⟩ := bnd_inv h
    cases nx_inv h
    refine ⟨Nat.le_succ _, Nat.le_add_right _ _, fun z a => ?_⟩
    unfold fset
    dsimp only
    split
    · omega
    · exact z a
  · split at h
    · obtain ⟨_, _, -, h⟩ := pI_inv h
      obtain ⟨hb, h⟩ := bnd_inv h
      cases nx_inv h
      refine ⟨Nat.le_succ _, Nat.le_add_right _ _, fun z a => ?_⟩
      unfold fset
      dsimp only
      split
      · omega
      · exact z a
    · cases h
  · split at h
    · unfold am_call at h
      split at h <;> cases h
    · obtain ⟨_, _, -, h⟩ := pI_inv h
      obtain ⟨_, _, -, h⟩ := pI_inv h
      obtain ⟨_, _, -, h⟩ := pR_inv h
      obtain ⟨_, _, -, h⟩ := pI_inv h
      obtain ⟨_, _, -, h⟩ := pR_inv h
      obtain ⟨-, h⟩ := bnd_inv h
      cases nx_inv h
      exact ⟨Nat.le_refl _, Nat.le_refl _, fun z => z⟩
    · obtain ⟨_, _, -, h⟩ := pI_inv h
      obtain ⟨_, _, -, h⟩ := pI_inv h
      obtain ⟨-, h⟩ := bnd_inv h
      cases nx_inv h
      exact ⟨Nat.le_refl _, Nat.le_refl _, fun z => z⟩
    · obtain ⟨_, _, -, h⟩ := pI_inv h
      obtain ⟨_, _, -, h⟩ := pI_inv h
      obtain ⟨-, h⟩ := bnd_inv h
      cases nx_inv h
      exact ⟨Nat.le_refl _, Nat.le_refl _, fun z => z⟩
    · cases h
  · split at h
    · exact (rcv_no h).elim
    · obtain ⟨_, _, -, h⟩ := pR_inv h
      obtain ⟨-, h⟩ := bnd_inv h
      cases nx_inv h
      exact ⟨Nat.le_refl _, Nat.le_refl _, fun z => z⟩
    · cases h
  · split at h
    · exact (rcv_no h).elim
    · obtain ⟨_, _, -, h⟩ := pI_inv h
      obtain ⟨_, _, -, h⟩ := pR_inv h
      split at h
      · obtain ⟨-, h⟩ := bnd_inv h
        cases nx_inv h
        exact ⟨Nat.le_refl _, Nat.le_refl _, fun z => z⟩
      · cases h
    · obtain ⟨_, _, -, h⟩ := pR_inv h
      obtain ⟨-, h⟩ := bnd_inv h
      cases nx_inv h
      exact ⟨Nat.le_refl _, Nat.le_refl _, fun z => z⟩
    · cases h
  · split at h
    · first | (cases h; done) | (obtain ⟨-, h⟩ := bnd_inv h; cases h)
    · cases h
  · split at h
    · first | (cases h; done) | (obtain ⟨-, h⟩ := bnd_inv h; cases h)
    · cases h
  · split at h
    · first | (cases h; done) | (obtain ⟨-, h⟩ := bnd_inv h; cases h)
    · cases h
  · split at h
    · first | (cases h; done) | (obtain ⟨-, h⟩ := bnd_inv h; cases h)
    · cases h
  · cases h
theorem run_mono : ∀ (n r m pc : Nat) (ls : Lsl) (st : List AV) (M : Mem) (S : Sh) (x : Res), am_run n r m pc ls st M S = some x → S.2.2.2.1 ≤ x.2.2.2.2.2.1 ∧ S.2.2.2.2 ≤ x.2.2.2.2.2.2 ∧ ((∀ a, S.2.1 a ≤ 100000) → ∀ a, x.2.2.2.1 a ≤ 100000) := by
  intro n
  induction n with
  | zero => intro r m pc ls st M S x h; cases h
  | succ n ih =>
    intro r m pc ls st M S x h
    rw [am_run] at h
    cases hf : fetch m pc with
    | none => rw [hf] at h; cases h
    | some f =>
      rw [hf, Option.bind_some] at h
      cases hs : am_step f pc ls st M S with
      | none => rw [hs] at h; cases h
      | some rr =>
        rw [hs] at h
        rcases rr with ⟨pc', ls', st', M', S'⟩ | v | ⟨m', as, pc', st', hr⟩
        · obtain ⟨a1, a2, a3⟩ := step_mono hs
          obtain ⟨b1, b2, b3⟩ := ih _ _ _ _ _ _ _ _ h
          exact ⟨Nat.le_trans a1 b1, Nat.le_trans a2 b2, fun z => b3 (a3 z)⟩
        · cases h
          exact ⟨Nat.le_refl _, Nat.le_refl _, fun z => z⟩
        · dsimp only at h
          split at h
          · cases h1 : am_run n (rk m' as) m' 0 (ini m' as) [] M S with
            | none => rw [h1] at h; cases h
            | some y =>
              rw [h1] at h
              obtain ⟨v, M', S'⟩ := y
              dsimp only at h
              split at h
              · obtain ⟨a1, a2, a3⟩ := ih _ _ _ _ _ _ _ _ h1
                obtain ⟨b1, b2, b3⟩ := ih _ _ _ _ _ _ _ _ h
                exact ⟨Nat.le_trans a1 b1, Nat.le_trans a2 b2, fun z => b3 (a3 z)⟩
              · cases h
          · cases h
