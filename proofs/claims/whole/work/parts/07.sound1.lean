/-! SOUND, 1: what changes the stack, the locals, the place -/
theorem xi2_inv {st st' : List Value} {f : Int32 → Int32 → Value} (h : xi2 st f = some st') : ∃ x y r, st = .int y :: .int x :: r ∧ st' = f x y :: r := by
  unfold xi2 at h
  split at h
  · cases h; exact ⟨_, _, _, rfl, rfl⟩
  · cases h
theorem xl2_inv {st st' : List Value} {f : Int64 → Int64 → Value} (h : xl2 st f = some st') : ∃ x y r, st = .long y :: .long x :: r ∧ st' = f x y :: r := by
  unfold xl2 at h
  split at h
  · cases h; exact ⟨_, _, _, rfl, rfl⟩
  · cases h
theorem xd2_inv {st st' : List Value} {f : UInt64 → UInt64 → Value} (h : xd2 st f = some st') : ∃ x y r, st = .double y :: .double x :: r ∧ st' = f x y :: r := by
  unfold xd2 at h
  split at h
  · cases h; exact ⟨_, _, _, rfl, rfl⟩
  · cases h
theorem xi1_inv {st st' : List Value} {f : Int32 → Value} (h : xi1 st f = some st') : ∃ x r, st = .int x :: r ∧ st' = f x :: r := by
  unfold xi1 at h
  split at h
  · cases h; exact ⟨_, _, rfl, rfl⟩
  · cases h
theorem xl1_inv {st st' : List Value} {f : Int64 → Value} (h : xl1 st f = some st') : ∃ x r, st = .long x :: r ∧ st' = f x :: r := by
  unfold xl1 at h
  split at h
  · cases h; exact ⟨_, _, rfl, rfl⟩
  · cases h
theorem xd1_inv {st st' : List Value} {f : UInt64 → Value} (h : xd1 st f = some st') : ∃ x r, st = .double x :: r ∧ st' = f x :: r := by
  unfold xd1 at h
  split at h
  · cases h; exact ⟨_, _, rfl, rfl⟩
  · cases h
theorem xnn64 {r : UInt64} (h : ¬ isNaN64 r = true) : vf_n64 r := by
  unfold vf_n64
  simpa [isNaN64] using h
theorem xnn32 {r : UInt32} (h : ¬ isNaN32 r = true) : vf_n32 r := by
  unfold vf_n32
  simpa [isNaN32] using h
section XS1
variable {p : Program} {l : Launch} {e : Env} {R : Room} {s : State} {m : MethodId} {args : Array Value} {below : List Frame} {meth : Method} {c : Code} {H : Heap} {locs : List Loc} {cells slots : Nat} {Q : State → Prop}
variable {cc : ByteArray} {pc len : Nat} {ls : Array Slot} {st st' : List Value}
set_option maxHeartbeats 4000000 in
theorem xpure_ok {i : Instr} (hx : p.tables.exec = Jvm.exec) (hb : c.code = cc) (hd : decode cc pc = .ok (i, len)) (hz : xsz i len = true) (hs : xpure i st = some st') (k : W p l e R s m args below meth c H locs cells slots Q (F0 m (pc + len) ls st')) : W p l e R s m args below meth c H locs cells slots Q (F0 m pc ls st) := by
  cases i with
  | iconst n =>
    simp only [xsz, beq_iff_eq] at hz; subst hz
    simp only [xpure, Option.some.injEq] at hs; subst hs
    exact lv_iconst hx hb hd rfl k
  | bipush n =>
    simp only [xsz, beq_iff_eq] at hz; subst hz
    simp only [xpure, Option.some.injEq] at hs; subst hs
    exact lv_bipush hx hb hd rfl k
  | sipush n =>
    simp only [xsz, beq_iff_eq] at hz; subst hz
    simp only [xpure, Option.some.injEq] at hs; subst hs
    exact lv_sipush hx hb hd rfl k
  | lconst n =>
    simp only [xsz, beq_iff_eq] at hz; subst hz
    simp only [xpure, Option.some.injEq] at hs; subst hs
    exact lv_lconst hx hb hd rfl k
  | aconst_null =>
    simp only [xsz, beq_iff_eq] at hz; subst hz
    simp only [xpure, Option.some.injEq] at hs; subst hs
    exact lv_null hx hb hd k
  | iadd =>
    simp only [xsz, beq_iff_eq] at hz; subst hz
    obtain ⟨x, y, r, rfl, rfl⟩ := xi2_inv hs
    exact lv_iadd hx hb hd k
  | isub =>
    simp only [xsz, beq_iff_eq] at hz; subst hz
    obtain ⟨x, y, r, rfl, rfl⟩ := xi2_inv hs
    exact lv_isub hx hb hd k
  | imul =>
    simp only [xsz, beq_iff_eq] at hz; subst hz
    obtain ⟨x, y, r, rfl, rfl⟩ := xi2_inv hs
    exact lv_imul hx hb hd k
  | iand =>
    simp only [xsz, beq_iff_eq] at hz; subst hz
    obtain ⟨x, y, r, rfl, rfl⟩ := xi2_inv hs
    exact lv_iand hx hb hd k
  | ior =>
    simp only [xsz, beq_iff_eq] at hz; subst hz
    obtain ⟨x, y, r, rfl, rfl⟩ := xi2_inv hs
    exact lv_ior hx hb hd k
  | ixor =>
    simp only [xsz, beq_iff_eq] at hz; subst hz
    obtain ⟨x, y, r, rfl, rfl⟩ := xi2_inv hs
    exact lv_ixor hx hb hd k
  | ishl =>
    simp only [xsz, beq_iff_eq] at hz; subst hz
    obtain ⟨x, y, r, rfl, rfl⟩ := xi2_inv hs
    exact lv_ishl hx hb hd k
  | ishr =>
    simp only [xsz, beq_iff_eq] at hz; subst hz
    obtain ⟨x, y, r, rfl, rfl⟩ := xi2_inv hs
    exact lv_ishr hx hb hd k
  | iushr =>
    simp only [xsz, beq_iff_eq] at hz; subst hz
    obtain ⟨x, y, r, rfl, rfl⟩ := xi2_inv hs
    exact lv_iushr hx hb hd rfl k
  | ineg =>
    simp only [xsz, beq_iff_eq] at hz; subst hz
    obtain ⟨x, r, rfl, rfl⟩ := xi1_inv hs
    exact lv_ineg hx hb hd k
  | ladd =>
    simp only [xsz, beq_iff_eq] at hz; subst hz
    obtain ⟨x, y, r, rfl, rfl⟩ := xl2_inv hs
    exact lv_ladd hx hb hd k
  | lsub =>
    simp only [xsz, beq_iff_eq] at hz; subst hz
    obtain ⟨x, y, r, rfl, rfl⟩ := xl2_inv hs
    exact lv_lsub hx hb hd k
  | lmul =>
    simp only [xsz, beq_iff_eq] at hz; subst hz
    obtain ⟨x, y, r, rfl, rfl⟩ := xl2_inv hs
    exact lv_lmul hx hb hd k
  | land =>
    simp only [xsz, beq_iff_eq] at hz; subst hz
    obtain ⟨x, y, r, rfl, rfl⟩ := xl2_inv hs
    exact lv_land hx hb hd k
  | lor =>
    simp only [xsz, beq_iff_eq] at hz; subst hz
    obtain ⟨x, y, r, rfl, rfl⟩ := xl2_inv hs
    exact lv_lor hx hb hd k
  | lneg =>
    simp only [xsz, beq_iff_eq] at hz; subst hz
    obtain ⟨x, r, rfl, rfl⟩ := xl1_inv hs
    exact lv_lneg hx hb hd k
  | lcmp =>
    simp only [xsz, beq_iff_eq] at hz; subst hz
    obtain ⟨x, y, r, rfl, rfl⟩ := xl2_inv hs
    exact W.lcmp hx hb hd k
  | idiv =>
    simp only [xsz, beq_iff_eq] at hz; subst hz
    simp only [xpure] at hs
    split at hs
    · split at hs
      · cases hs
      · rename_i hne
        simp only [Option.some.injEq] at hs; subst hs
        exact lv_idiv hx hb hd hne k
    · cases hs
  | irem =>
    simp only [xsz, beq_iff_eq] at hz; subst hz
    simp only [xpure] at hs
    split at hs
    · split at hs
      · cases hs
      · rename_i hne
        simp only [Option.some.injEq] at hs; subst hs
        exact lv_irem hx hb hd hne k
    · cases hs
  | ldiv =>
    simp only [xsz, beq_iff_eq] at hz; subst hz
    simp only [xpure] at hs
    split at hs
    · split at hs
      · cases hs
      · rename_i hne
        simp only [Option.some.injEq] at hs; subst hs
        exact lv_ldiv hx hb hd hne k
    · cases hs
  | lrem =>
    simp only [xsz, beq_iff_eq] at hz; subst hz
    simp only [xpure] at hs
    split at hs
    · split at hs
      · cases hs
      · rename_i hne
        simp only [Option.some.injEq] at hs; subst hs
        exact lv_lrem hx hb hd hne k
    · cases hs
  | lshl =>
    simp only [xsz, beq_iff_eq] at hz; subst hz
    simp only [xpure] at hs
    split at hs
    · simp only [Option.some.injEq] at hs; subst hs
      exact lv_lshl hx hb hd rfl k
    · cases hs
  | lushr =>
    simp only [xsz, beq_iff_eq] at hz; subst hz
    simp only [xpure] at hs
    split at hs
    · simp only [Option.some.injEq] at hs; subst hs
      exact lv_lushr hx hb hd rfl k
    · cases hs
  | i2l =>
    simp only [xsz, beq_iff_eq] at hz; subst hz
    obtain ⟨x, r, rfl, rfl⟩ := xi1_inv hs
    exact lv_i2l hx hb hd rfl k
  | i2b =>
    simp only [xsz, beq_iff_eq] at hz; subst hz
    obtain ⟨x, r, rfl, rfl⟩ := xi1_inv hs
    exact lv_i2b hx hb hd rfl k
  | i2s =>
    simp only [xsz, beq_iff_eq] at hz; subst hz
    obtain ⟨x, r, rfl, rfl⟩ := xi1_inv hs
    exact lv_i2s hx hb hd rfl k
  | i2c =>
    simp only [xsz, beq_iff_eq] at hz; subst hz
    obtain ⟨x, r, rfl, rfl⟩ := xi1_inv hs
    exact lv_i2c hx hb hd rfl k
  | l2i =>
    simp only [xsz, beq_iff_eq] at hz; subst hz
    obtain ⟨x, r, rfl, rfl⟩ := xl1_inv hs
    exact lv_l2i hx hb hd rfl k
  | i2f =>
    simp only [xsz, beq_iff_eq] at hz; subst hz
    obtain ⟨x, r, rfl, rfl⟩ := xi1_inv hs
    exact lv_i2f hx hb hd k
  | i2d =>
    simp only [xsz, beq_iff_eq] at hz; subst hz
    obtain ⟨x, r, rfl, rfl⟩ := xi1_inv hs
    exact lv_i2d hx hb hd k
  | l2f =>
    simp only [xsz, beq_iff_eq] at hz; subst hz
    obtain ⟨x, r, rfl, rfl⟩ := xl1_inv hs
    exact lv_l2f hx hb hd k
  | l2d =>
    simp only [xsz, beq_iff_eq] at hz; subst hz
    obtain ⟨x, r, rfl, rfl⟩ := xl1_inv hs
    exact lv_l2d hx hb hd k
  | d2l =>
    simp only [xsz, beq_iff_eq] at hz; subst hz
    obtain ⟨x, r, rfl, rfl⟩ := xd1_inv hs
    exact lv_d2l hx hb hd k
  | dneg =>
    simp only [xsz, beq_iff_eq] at hz; subst hz
    obtain ⟨x, r, rfl, rfl⟩ := xd1_inv hs
    exact lv_dneg hx hb hd k
  | f2l =>
    simp only [xsz, beq_iff_eq] at hz; subst hz
    simp only [xpure] at hs
    split at hs
    · simp only [Option.some.injEq] at hs; subst hs
      exact lv_f2l hx hb hd k
    · cases hs
  | f2d =>
    simp only [xsz, beq_iff_eq] at hz; subst hz
    simp only [xpure] at hs
    split at hs
    · split at hs
      · cases hs
      · rename_i hne
        simp only [Option.some.injEq] at hs; subst hs
        exact lv_f2d hx hb hd (xnn64 hne) k
    · cases hs
  | dcmp op =>
    simp only [xsz, beq_iff_eq] at hz; subst hz
    obtain ⟨x, y, r, rfl, rfl⟩ := xd2_inv hs
    exact lv_dcmp hx hb hd k
  | fcmp op =>
    simp only [xsz, beq_iff_eq] at hz; subst hz
    simp only [xpure] at hs
    split at hs
    · simp only [Option.some.injEq] at hs; subst hs
      exact lv_fcmp hx hb hd k
    · cases hs
  | ddiv =>
    simp only [xsz, beq_iff_eq] at hz; subst hz
    simp only [xpure] at hs
    split at hs
    · split at hs
      · cases hs
      · rename_i hne
        simp only [Option.some.injEq] at hs; subst hs
        exact lv_ddiv hx hb hd (xnn64 hne) k
    · cases hs
  | dmul =>
    simp only [xsz, beq_iff_eq] at hz; subst hz
    simp only [xpure] at hs
    split at hs
    · split at hs
      · cases hs
      · rename_i hne
        simp only [Option.some.injEq] at hs; subst hs
        exact lv_dmul hx hb hd (xnn64 hne) k
    · cases hs
  | dsub =>
    simp only [xsz, beq_iff_eq] at hz; subst hz
    simp only [xpure] at hs
    split at hs
    · split at hs
      · cases hs
      · rename_i hne
        simp only [Option.some.injEq] at hs; subst hs
        exact lv_dsub hx hb hd (xnn64 hne) k
    · cases hs
  | fdiv =>
    simp only [xsz, beq_iff_eq] at hz; subst hz
    simp only [xpure] at hs
    split at hs
    · split at hs
      · cases hs
      · rename_i hne
        simp only [Option.some.injEq] at hs; subst hs
        exact lv_fdiv hx hb hd (xnn32 hne) k
    · cases hs
  | dconst n =>
    simp only [xsz, beq_iff_eq] at hz; subst hz
    simp only [xpure] at hs
    split at hs
    · rename_i h0
      subst h0
      simp only [Option.some.injEq] at hs; subst hs
      exact lv_dconst0 hx hb hd k
    · rename_i h0
      have h1 : n = 1 := by omega
      subst h1
      simp only [Option.some.injEq] at hs; subst hs
      exact lv_dconst1 hx hb hd k
  | dup =>
    simp only [xsz, beq_iff_eq] at hz; subst hz
    simp only [xpure] at hs
    split at hs
    · split at hs
      · rename_i hc
        simp only [Option.some.injEq] at hs; subst hs
        exact lv_dup hx hb hd hc k
      · cases hs
    · cases hs
  | pop =>
    simp only [xsz, beq_iff_eq] at hz; subst hz
    simp only [xpure] at hs
    split at hs
    · split at hs
      · rename_i hc
        simp only [Option.some.injEq] at hs; subst hs
        exact lv_pop hx hb hd hc k
      · cases hs
    · cases hs
  | dup2 =>
    simp only [xsz, beq_iff_eq] at hz; subst hz
    simp only [xpure] at hs
    split at hs
    · split at hs
      · rename_i hc
        simp only [Option.some.injEq] at hs; subst hs
        exact lv_dup2_11 hx hb hd hc.1 hc.2 k
      · cases hs
    · cases hs
  | _ => simp only [xpure] at hs; cases hs
end XS1
