/-! EQUATIONS of the limit X, an instruction each: what the walks rewrite with -/
section XQ
variable {M : xMe} {g : xG} {y pc len : Nat} {L L' : List Slot} {st st' : List Value} {h h' : xH} {i : Instr}
theorem xstep_of (hd : decode (xme y).2.1 pc = .ok (i, len)) (hz : xsz i len = true) : xstep g y pc L st h = xins g y i len pc L st h := by
  unfold xstep
  rw [hd]
  dsimp only
  rw [if_pos hz]
theorem X_next {pc' : Nat} (e : xstep g y pc L st h = some (.inl (pc', L', st', h'))) : X g y pc L st h = X g y pc' L' st' h' := by
  rw [X_eq, e]
theorem X_none (e : xstep g y pc L st h = none) : X g y pc L st h = none := by
  rw [X_eq, e]
theorem X_pure (hM : xme y = M) (hd : decode M.2.1 pc = .ok (i, len)) (hz : xsz i len = true) (hp : xpure i st = some st') : X g y pc L st h = X g y (pc + len) L st' h := by
  subst hM
  refine X_next ?_
  rw [xstep_of hd hz, xins, hp]
theorem X_loc (hM : xme y = M) (hd : decode M.2.1 pc = .ok (i, len)) (hz : xsz i len = true) (h0 : xpure i st = none) (hp : xlocs i L st = some (L', st')) : X g y pc L st h = X g y (pc + len) L' st' h := by
  subst hM
  refine X_next ?_
  rw [xstep_of hd hz, xins, h0]
  dsimp only
  rw [hp]
theorem X_br {pc' : Nat} (hM : xme y = M) (hd : decode M.2.1 pc = .ok (i, len)) (hz : xsz i len = true) (h0 : xpure i st = none) (h1 : xlocs i L st = none) (hp : xbr pc i st = some (pc', st')) : X g y pc L st h = X g y pc' L st' h := by
  subst hM
  refine X_next ?_
  rw [xstep_of hd hz, xins, h0]
  dsimp only
  rw [h1]
  dsimp only
  rw [hp]
theorem X_heap (hM : xme y = M) (hd : decode M.2.1 pc = .ok (i, len)) (hz : xsz i len = true) (h0 : xpure i st = none) (h1 : xlocs i L st = none) (h2 : xbr pc i st = none) (hp : xheap g M.2.2.2.2.1 (M.1.name == "<init>") i st h = some (st', h')) : X g y pc L st h = X g y (pc + len) L st' h' := by
  subst hM
  refine X_next ?_
  rw [xstep_of hd hz, xins, h0]
  dsimp only
  rw [h1]
  dsimp only
  rw [h2]
  dsimp only
  rw [hp]
theorem X_stuck (hM : xme y = M) (hd : decode M.2.1 pc = .ok (i, len)) (hz : xsz i len = true) (h0 : xpure i st = none) (h1 : xlocs i L st = none) (h2 : xbr pc i st = none) (h3 : xheap g M.2.2.2.2.1 (M.1.name == "<init>") i st h = none) (h4 : xnat g M.2.2.2.2.1 M.2.2.2.2.2.1 M.2.2.2.2.2.2.1 i st = none) (h5 : xinv y i st h = none) (h6 : xret M.2.2.2.1 i st = none) : X g y pc L st h = none := by
  subst hM
  refine X_none ?_
  rw [xstep_of hd hz, xins, h0]
  dsimp only
  rw [h1]
  dsimp only
  rw [h2]
  dsimp only
  rw [h3]
  dsimp only
  rw [h4]
  dsimp only
  rw [h5]
  dsimp only
  rw [h6]
theorem X_nat (hM : xme y = M) (hd : decode M.2.1 pc = .ok (i, len)) (hz : xsz i len = true) (h0 : xpure i st = none) (h1 : xlocs i L st = none) (h2 : xbr pc i st = none) (h3 : xheap g M.2.2.2.2.1 (M.1.name == "<init>") i st h = none) (hp : xnat g M.2.2.2.2.1 M.2.2.2.2.2.1 M.2.2.2.2.2.2.1 i st = some st') : X g y pc L st h = X g y (pc + len) L st' h := by
  subst hM
  refine X_next ?_
  rw [xstep_of hd hz, xins, h0]
  dsimp only
  rw [h1]
  dsimp only
  rw [h2]
  dsimp only
  rw [h3]
  dsimp only
  rw [hp]
theorem X_inv {y' : Nat} {as r : List Value} {L0 : List Slot} (hM : xme y = M) (hd : decode M.2.1 pc = .ok (i, len)) (hz : xsz i len = true) (h0 : xpure i st = none) (h1 : xlocs i L st = none) (h2 : xbr pc i st = none) (h3 : xheap g M.2.2.2.2.1 (M.1.name == "<init>") i st h = none) (h4 : xnat g M.2.2.2.2.1 M.2.2.2.2.2.1 M.2.2.2.2.2.2.1 i st = none) (hp : xinv y i st h = some (y', as, r)) (ha : Nat.ble (as.map fun v => v.category).sum (xme y').2.2.1 = true) (hL0 : xl0 y' as = L0) : X g y pc L st h = (X g y' 0 L0 [] h).bind fun z => X g y (pc + len) L (z.1.toList ++ r) z.2 := by
  subst hM
  subst hL0
  have e : xstep g y pc L st h = some (.inr (.inl (y', as, pc + len, L, r, h))) := by
    rw [xstep_of hd hz, xins, h0]
    dsimp only
    rw [h1]
    dsimp only
    rw [h2]
    dsimp only
    rw [h3]
    dsimp only
    rw [h4]
    dsimp only
    rw [hp]
    dsimp only
    rw [if_pos ha]
  rw [X_eq, e]
theorem X_ret {v : Option Value} (hM : xme y = M) (hd : decode M.2.1 pc = .ok (i, len)) (hz : xsz i len = true) (h0 : xpure i st = none) (h1 : xlocs i L st = none) (h2 : xbr pc i st = none) (h3 : xheap g M.2.2.2.2.1 (M.1.name == "<init>") i st h = none) (h4 : xnat g M.2.2.2.2.1 M.2.2.2.2.2.1 M.2.2.2.2.2.2.1 i st = none) (h5 : xinv y i st h = none) (hp : xret M.2.2.2.1 i st = some v) : X g y pc L st h = some (v, h) := by
  subst hM
  have e : xstep g y pc L st h = some (.inr (.inr (v, h))) := by
    rw [xstep_of hd hz, xins, h0]
    dsimp only
    rw [h1]
    dsimp only
    rw [h2]
    dsimp only
    rw [h3]
    dsimp only
    rw [h4]
    dsimp only
    rw [h5]
    dsimp only
    rw [hp]
  rw [X_eq, e]
theorem xnat_no {c fr lo : Nat} (h1 : ∀ n, i ≠ .invokespecial n) (h2 : ∀ n, i ≠ .invokestatic n) (h3 : ∀ n, i ≠ .invokevirtual n) : xnat g c fr lo i st = none := by
  unfold xnat
  split
  · rfl
  · split
    · exact absurd rfl (h1 _)
    · exact absurd rfl (h2 _)
    · exact absurd rfl (h3 _)
    · rfl
-- constants, jumps
theorem xq_iconst {n : Int} {v : Int32} (hM : xme y = M) (hd : decode M.2.1 pc = .ok (.iconst n, 1)) (hv : Int32.ofInt n = v) : X g y pc L st h = X g y (pc + 1) L (.int v :: st) h := by
  subst hM
  subst hv; exact X_pure rfl hd rfl rfl
theorem xq_bipush {n : Int} {v : Int32} (hM : xme y = M) (hd : decode M.2.1 pc = .ok (.bipush n, 2)) (hv : (Int8.ofInt n).toInt32 = v) : X g y pc L st h = X g y (pc + 2) L (.int v :: st) h := by
  subst hM
  subst hv; exact X_pure rfl hd rfl rfl
theorem xq_sipush {n : Int} {v : Int32} (hM : xme y = M) (hd : decode M.2.1 pc = .ok (.sipush n, 3)) (hv : (Int16.ofInt n).toInt32 = v) : X g y pc L st h = X g y (pc + 3) L (.int v :: st) h := by
  subst hM
  subst hv; exact X_pure rfl hd rfl rfl
theorem xq_lconst {n : Fin 2} {v : Int64} (hM : xme y = M) (hd : decode M.2.1 pc = .ok (.lconst n, 1)) (hv : Int64.ofNat (n : Nat) = v) : X g y pc L st h = X g y (pc + 1) L (.long v :: st) h := by
  subst hM
  subst hv; exact X_pure rfl hd rfl rfl
theorem xq_aload {n len : Nat} {o : Option Nat} (hM : xme y = M) (hd : decode M.2.1 pc = .ok (i, len)) (hz : xsz i len = true) (h0 : xpure i st = none) (hi : xlocs i L st = xlda L n st) (hl : L[n]? = some (.val (va_rf o))) : X g y pc L st h = X g y (pc + len) L (va_rf o :: st) h := by
  subst hM
  refine X_loc rfl hd hz h0 ?_
  rw [hi]
  unfold xlda
  cases o with
  | none => rw [show va_rf none = Value.null from rfl] at hl; rw [hl]; rfl
  | some a => rw [show va_rf (some a) = Value.ref a from rfl] at hl; rw [hl]; rfl
theorem xq_astore {n len : Nat} {o : Option Nat} (hM : xme y = M) (hd : decode M.2.1 pc = .ok (i, len)) (hz : xsz i len = true) (h0 : xpure i (va_rf o :: st) = none) (hi : xlocs i L (va_rf o :: st) = xsta L n (va_rf o :: st)) (hl : xst1 L n (va_rf o) = some L') : X g y pc L (va_rf o :: st) h = X g y (pc + len) L' st h := by
  subst hM
  refine X_loc rfl hd hz h0 ?_
  rw [hi]
  unfold xsta
  cases o with
  | none => show (xst1 L n .null).map _ = _; rw [show va_rf none = Value.null from rfl] at hl; rw [hl]; rfl
  | some a => show (xst1 L n (.ref a)).map _ = _; rw [show va_rf (some a) = Value.ref a from rfl] at hl; rw [hl]; rfl
theorem xjmp_to {off : Int} {t : Nat} (ht : (pc : Int) + off = (t : Int)) : xjmp pc off = some t := by
  unfold xjmp
  rw [if_pos (by rw [ht]; exact Int.natCast_nonneg t), ht]
  rfl
theorem xq_goto {off : Int} {t : Nat} (hM : xme y = M) (hd : decode M.2.1 pc = .ok (.goto off, 3)) (ht : (pc : Int) + off = (t : Int)) : X g y pc L st h = X g y t L st h := by
  subst hM
  refine X_br rfl hd rfl rfl rfl ?_
  show (xjmp pc off).map _ = _
  rw [xjmp_to ht]; rfl
theorem xq_if {c : ClassFile.Cond} {off : Int} {t : Nat} {x : Int32} (hM : xme y = M) (hd : decode M.2.1 pc = .ok (.ifCond c off, 3)) (ht : (pc : Int) + off = (t : Int)) : X g y pc L (.int x :: st) h = if xhold c x 0 = true then X g y t L st h else X g y (pc + 3) L st h := by
  subst hM
  have e : X g y pc L (.int x :: st) h = X g y (if xhold c x 0 then t else pc + 3) L st h := by
    refine X_br rfl hd rfl rfl rfl ?_
    show (xjmp pc off).map _ = _
    rw [xjmp_to ht]; rfl
  rw [e]
  split <;> rfl
theorem xq_icmp {c : ClassFile.Cond} {off : Int} {t : Nat} {x z : Int32} (hM : xme y = M) (hd : decode M.2.1 pc = .ok (.if_icmp c off, 3)) (ht : (pc : Int) + off = (t : Int)) : X g y pc L (.int z :: .int x :: st) h = if xhold c x z = true then X g y t L st h else X g y (pc + 3) L st h := by
  subst hM
  have e : X g y pc L (.int z :: .int x :: st) h = X g y (if xhold c x z then t else pc + 3) L st h := by
    refine X_br rfl hd rfl rfl rfl ?_
    show (xjmp pc off).map _ = _
    rw [xjmp_to ht]; rfl
  rw [e]
  split <;> rfl
theorem xq_ifnull {off : Int} {t : Nat} {o : Option Nat} (hM : xme y = M) (hd : decode M.2.1 pc = .ok (.ifnull off, 3)) (ht : (pc : Int) + off = (t : Int)) : X g y pc L (va_rf o :: st) h = if o = none then X g y t L st h else X g y (pc + 3) L st h := by
  subst hM
  cases o with
  | none =>
    rw [if_pos rfl]
    refine X_br rfl hd rfl rfl rfl ?_
    show (xjmp pc off).map _ = _
    rw [xjmp_to ht]; rfl
  | some a =>
    rw [if_neg (fun q => by cases q)]
    exact X_br rfl hd rfl rfl rfl rfl
theorem xq_ifnonnull {off : Int} {t : Nat} {o : Option Nat} (hM : xme y = M) (hd : decode M.2.1 pc = .ok (.ifnonnull off, 3)) (ht : (pc : Int) + off = (t : Int)) : X g y pc L (va_rf o :: st) h = if o = none then X g y (pc + 3) L st h else X g y t L st h := by
  subst hM
  cases o with
  | none =>
    rw [if_pos rfl]
    exact X_br rfl hd rfl rfl rfl rfl
  | some a =>
    rw [if_neg (fun q => by cases q)]
    refine X_br rfl hd rfl rfl rfl ?_
    show (xjmp pc off).map _ = _
    rw [xjmp_to ht]; rfl
theorem xq_acmpne {off : Int} {t : Nat} {o z : Option Nat} (hM : xme y = M) (hd : decode M.2.1 pc = .ok (.if_acmp .ne off, 3)) (ht : (pc : Int) + off = (t : Int)) : X g y pc L (va_rf z :: va_rf o :: st) h = if o = z then X g y (pc + 3) L st h else X g y t L st h := by
  subst hM
  cases o with
  | none =>
    cases z with
    | none =>
      rw [if_pos rfl]
      refine X_br rfl hd rfl rfl rfl ?_
      show (xjmp pc off).map _ = _
      rw [xjmp_to ht]; rfl
    | some b =>
      rw [if_neg (fun q => by cases q)]
      refine X_br rfl hd rfl rfl rfl ?_
      show (xjmp pc off).map _ = _
      rw [xjmp_to ht]; rfl
  | some a =>
    cases z with
    | none =>
      rw [if_neg (fun q => by cases q)]
      refine X_br rfl hd rfl rfl rfl ?_
      show (xjmp pc off).map _ = _
      rw [xjmp_to ht]; rfl
    | some b =>
      have e : X g y pc L (va_rf (some b) :: va_rf (some a) :: st) h = X g y (if (!decide (a = b)) then t else pc + 3) L st h := by
        refine X_br rfl hd rfl rfl rfl ?_
        show (xjmp pc off).map _ = _
        rw [xjmp_to ht]; rfl
      rw [e]
      by_cases q : a = b
      · subst q
        simp
      · rw [if_neg (fun z => q (Option.some.inj z))]
        simp [q]
-- the heap
theorem xq_getfield {n a : Nat} {q : Nat × Nat × Nat × Nat × Nat × Nat} (hM : xme y = M) (hd : decode M.2.1 pc = .ok (.getfield n, 3)) (hq : xF M.2.2.2.2.1 n = some q) : X g y pc L (va_rf (some a) :: st) h = (xf h a q.2.1 q.2.2.1).bind fun v => X g y (pc + 3) L (v :: st) h := by
  subst hM
  have e : xheap g (xme y).2.2.2.2.1 ((xme y).1.name == "<init>") (.getfield n) (va_rf (some a) :: st) h = (xf h a q.2.1 q.2.2.1).map fun v => (v :: st, h) := by
    simp only [xheap, hq]; rfl
  cases hf : xf h a q.2.1 q.2.2.1 with
  | none => exact X_stuck rfl hd rfl rfl rfl rfl (by rw [e, hf]; rfl) (xnat_no (by simp) (by simp) (by simp)) rfl rfl
  | some v => exact X_heap rfl hd rfl rfl rfl rfl (by rw [e, hf]; rfl)
theorem xq_putfield {n a : Nat} {v : Value} {q : Nat × Nat × Nat × Nat × Nat × Nat} (hM : xme y = M) (hd : decode M.2.1 pc = .ok (.putfield n, 3)) (hq : xF M.2.2.2.2.1 n = some q) (hc : (xfc q.2.2.2.1 v && (q.2.2.2.2.1 == 0 || ((M.1.name == "<init>") && xci M.2.2.2.2.1 == q.2.1))) = true) : X g y pc L (v :: va_rf (some a) :: st) h = if (xf h a q.2.1 q.2.2.1).isSome = true then X g y (pc + 3) L st (xpf h a q.2.1 q.2.2.1 v) else none := by
  subst hM
  have e : xheap g (xme y).2.2.2.2.1 ((xme y).1.name == "<init>") (.putfield n) (v :: va_rf (some a) :: st) h = if (xf h a q.2.1 q.2.2.1).isSome = true then some (st, xpf h a q.2.1 q.2.2.1 v) else none := by
    simp only [xheap, hq]
    show (if (xfc q.2.2.2.1 v && (q.2.2.2.2.1 == 0 || (((xme y).1.name == "<init>") && xci (xme y).2.2.2.2.1 == q.2.1)) && (xf h a q.2.1 q.2.2.1).isSome) = true then _ else _) = _
    rw [hc, Bool.true_and]
  split
  · rename_i hs
    exact X_heap rfl hd rfl rfl rfl rfl (by rw [e, if_pos hs])
  · rename_i hs
    exact X_stuck rfl hd rfl rfl rfl rfl (by rw [e, if_neg hs]) (xnat_no (by simp) (by simp) (by simp)) rfl rfl
theorem xq_iaload {a : Nat} {j : Int32} (hM : xme y = M) (hd : decode M.2.1 pc = .ok (.iaload, 1)) : X g y pc L (.int j :: va_rf (some a) :: st) h = (xaldi g h a j).bind fun v => X g y (pc + 1) L (v :: st) h := by
  subst hM
  have e : xheap g (xme y).2.2.2.2.1 ((xme y).1.name == "<init>") .iaload (.int j :: va_rf (some a) :: st) h = (xaldi g h a j).map fun v => (v :: st, h) := rfl
  cases hf : xaldi g h a j with
  | none => exact X_stuck rfl hd rfl rfl rfl rfl (by rw [e, hf]; rfl) (xnat_no (by simp) (by simp) (by simp)) rfl rfl
  | some v => exact X_heap rfl hd rfl rfl rfl rfl (by rw [e, hf]; rfl)
theorem xq_laload {a : Nat} {j : Int32} (hM : xme y = M) (hd : decode M.2.1 pc = .ok (.laload, 1)) : X g y pc L (.int j :: va_rf (some a) :: st) h = (xald h a 1 j).bind fun v => X g y (pc + 1) L (v :: st) h := by
  subst hM
  have e : xheap g (xme y).2.2.2.2.1 ((xme y).1.name == "<init>") .laload (.int j :: va_rf (some a) :: st) h = (xald h a 1 j).map fun v => (v :: st, h) := rfl
  cases hf : xald h a 1 j with
  | none => exact X_stuck rfl hd rfl rfl rfl rfl (by rw [e, hf]; rfl) (xnat_no (by simp) (by simp) (by simp)) rfl rfl
  | some v => exact X_heap rfl hd rfl rfl rfl rfl (by rw [e, hf]; rfl)
def xaldb (h : xH) (a : Nat) (j : Int32) : Option Value := if xtag h a = 2 then xald h a 2 j else xald h a 3 j
theorem xq_baload {a : Nat} {j : Int32} (hM : xme y = M) (hd : decode M.2.1 pc = .ok (.baload, 1)) : X g y pc L (.int j :: va_rf (some a) :: st) h = (xaldb h a j).bind fun v => X g y (pc + 1) L (v :: st) h := by
  subst hM
  have e : xheap g (xme y).2.2.2.2.1 ((xme y).1.name == "<init>") .baload (.int j :: va_rf (some a) :: st) h = (xaldb h a j).map fun v => (v :: st, h) := by
    show (if xtag h a = 2 then _ else _) = _
    unfold xaldb
    split <;> rfl
  cases hf : xaldb h a j with
  | none => exact X_stuck rfl hd rfl rfl rfl rfl (by rw [e, hf]; rfl) (xnat_no (by simp) (by simp) (by simp)) rfl rfl
  | some v => exact X_heap rfl hd rfl rfl rfl rfl (by rw [e, hf]; rfl)
def xalda (h : xH) (a : Nat) (j : Int32) : Option Value := if xtr (xtag h a) = true then xald h a (xtag h a) j else none
theorem xq_aaload {a : Nat} {j : Int32} (hM : xme y = M) (hd : decode M.2.1 pc = .ok (.aaload, 1)) : X g y pc L (.int j :: va_rf (some a) :: st) h = (xalda h a j).bind fun v => X g y (pc + 1) L (v :: st) h := by
  subst hM
  have e : xheap g (xme y).2.2.2.2.1 ((xme y).1.name == "<init>") .aaload (.int j :: va_rf (some a) :: st) h = (xalda h a j).map fun v => (v :: st, h) := by
    show (if xtr (xtag h a) = true then _ else _) = _
    unfold xalda
    split <;> rfl
  cases hf : xalda h a j with
  | none => exact X_stuck rfl hd rfl rfl rfl rfl (by rw [e, hf]; rfl) (xnat_no (by simp) (by simp) (by simp)) rfl rfl
  | some v => exact X_heap rfl hd rfl rfl rfl rfl (by rw [e, hf]; rfl)
theorem xq_iastore {a : Nat} {j x : Int32} (hM : xme y = M) (hd : decode M.2.1 pc = .ok (.iastore, 1)) : X g y pc L (.int x :: .int j :: va_rf (some a) :: st) h = (xast h a 0 j (.int x)).bind fun h' => X g y (pc + 1) L st h' := by
  subst hM
  have e : xheap g (xme y).2.2.2.2.1 ((xme y).1.name == "<init>") .iastore (.int x :: .int j :: va_rf (some a) :: st) h = (xast h a 0 j (.int x)).map fun h' => (st, h') := rfl
  cases hf : xast h a 0 j (.int x) with
  | none => exact X_stuck rfl hd rfl rfl rfl rfl (by rw [e, hf]; rfl) (xnat_no (by simp) (by simp) (by simp)) rfl rfl
  | some v => exact X_heap rfl hd rfl rfl rfl rfl (by rw [e, hf]; rfl)
theorem xq_lastore {a : Nat} {j : Int32} {x : Int64} (hM : xme y = M) (hd : decode M.2.1 pc = .ok (.lastore, 1)) : X g y pc L (.long x :: .int j :: va_rf (some a) :: st) h = (xast h a 1 j (.long x)).bind fun h' => X g y (pc + 1) L st h' := by
  subst hM
  have e : xheap g (xme y).2.2.2.2.1 ((xme y).1.name == "<init>") .lastore (.long x :: .int j :: va_rf (some a) :: st) h = (xast h a 1 j (.long x)).map fun h' => (st, h') := rfl
  cases hf : xast h a 1 j (.long x) with
  | none => exact X_stuck rfl hd rfl rfl rfl rfl (by rw [e, hf]; rfl) (xnat_no (by simp) (by simp) (by simp)) rfl rfl
  | some v => exact X_heap rfl hd rfl rfl rfl rfl (by rw [e, hf]; rfl)
def xastb (h : xH) (a : Nat) (j x : Int32) : Option xH := if xtag h a = 2 then xast h a 2 j (narrow .byte (.int x)) else xast h a 3 j (narrow .boolean (.int x))
theorem xq_bastore {a : Nat} {j x : Int32} (hM : xme y = M) (hd : decode M.2.1 pc = .ok (.bastore, 1)) : X g y pc L (.int x :: .int j :: va_rf (some a) :: st) h = (xastb h a j x).bind fun h' => X g y (pc + 1) L st h' := by
  subst hM
  have e : xheap g (xme y).2.2.2.2.1 ((xme y).1.name == "<init>") .bastore (.int x :: .int j :: va_rf (some a) :: st) h = (xastb h a j x).map fun h' => (st, h') := by
    show (if xtag h a = 2 then _ else _) = _
    unfold xastb
    split <;> rfl
  cases hf : xastb h a j x with
  | none => exact X_stuck rfl hd rfl rfl rfl rfl (by rw [e, hf]; rfl) (xnat_no (by simp) (by simp) (by simp)) rfl rfl
  | some v => exact X_heap rfl hd rfl rfl rfl rfl (by rw [e, hf]; rfl)
def xasta (h : xH) (a : Nat) (j : Int32) (o : Option Nat) : Option xH := match o with
  | none => if xtr (xtag h a) = true then xast h a (xtag h a) j .null else none
  | some b => if (xtr (xtag h a) && xcl h b == some (xtag h a - 10)) = true then xast h a (xtag h a) j (.ref b) else none
theorem xq_aastore {a : Nat} {j : Int32} {o : Option Nat} (hM : xme y = M) (hd : decode M.2.1 pc = .ok (.aastore, 1)) : X g y pc L (va_rf o :: .int j :: va_rf (some a) :: st) h = (xasta h a j o).bind fun h' => X g y (pc + 1) L st h' := by
  subst hM
  have e : xheap g (xme y).2.2.2.2.1 ((xme y).1.name == "<init>") .aastore (va_rf o :: .int j :: va_rf (some a) :: st) h = (xasta h a j o).map fun h' => (st, h') := by
    cases o with
    | none =>
      show (if xtr (xtag h a) = true then _ else _) = _
      unfold xasta
      dsimp only
      split <;> rfl
    | some b =>
      show (if (xtr (xtag h a) && xcl h b == some (xtag h a - 10)) = true then _ else _) = _
      unfold xasta
      dsimp only
      split <;> rfl
  have z1 : xpure .aastore (va_rf o :: .int j :: va_rf (some a) :: st) = none := rfl
  have z2 : xlocs .aastore L (va_rf o :: .int j :: va_rf (some a) :: st) = none := rfl
  have z3 : xbr pc .aastore (va_rf o :: .int j :: va_rf (some a) :: st) = none := rfl
  cases hf : xasta h a j o with
  | none => exact X_stuck rfl hd rfl z1 z2 z3 (by rw [e, hf]; rfl) (xnat_no (by simp) (by simp) (by simp)) rfl rfl
  | some v => exact X_heap rfl hd rfl z1 z2 z3 (by rw [e, hf]; rfl)
theorem xq_arraylength {a : Nat} (hM : xme y = M) (hd : decode M.2.1 pc = .ok (.arraylength, 1)) : X g y pc L (va_rf (some a) :: st) h = (xlen g h a).bind fun n => X g y (pc + 1) L (.int (nI n) :: st) h := by
  subst hM
  have e : xheap g (xme y).2.2.2.2.1 ((xme y).1.name == "<init>") .arraylength (va_rf (some a) :: st) h = (xlen g h a).map fun n => (.int (Int32.ofNat n) :: st, h) := rfl
  cases hf : xlen g h a with
  | none => exact X_stuck rfl hd rfl rfl rfl rfl (by rw [e, hf]; rfl) (xnat_no (by simp) (by simp) (by simp)) rfl rfl
  | some v => exact X_heap rfl hd rfl rfl rfl rfl (by rw [e, hf]; rfl)
theorem xq_newarray {t : ClassFile.ArrayType} {n : Int32} (hM : xme y = M) (hd : decode M.2.1 pc = .ok (.newarray t, 2)) (hc : ¬ (n < 0 ∨ 65536 < n.toNatClampNeg ∨ 3 < xatc t)) : X g y pc L (.int n :: st) h = X g y (pc + 2) L (va_rf (some h.1) :: st) (xnew h (.inl (xatc t, n.toNatClampNeg, fun _ => xdv (xatc t))) n.toNatClampNeg) := by
  subst hM
  refine X_heap rfl hd rfl rfl rfl rfl ?_
  simp only [xheap]
  rw [if_neg hc]
theorem xq_anewarray {k : Nat} {n : Int32} {q : Nat × Nat × Nat} (hM : xme y = M) (hd : decode M.2.1 pc = .ok (.anewarray k, 3)) (hq : xC M.2.2.2.2.1 k = some q) (hc : ¬ (n < 0 ∨ 65536 < n.toNatClampNeg ∨ xtr (10 + q.2.1) = false)) : X g y pc L (.int n :: st) h = X g y (pc + 3) L (va_rf (some h.1) :: st) (xnew h (.inl (10 + q.2.1, n.toNatClampNeg, fun _ => va_rf none)) n.toNatClampNeg) := by
  subst hM
  refine X_heap rfl hd rfl rfl rfl rfl ?_
  simp only [xheap, hq]
  rw [if_neg hc]
end XQ
section XQ2
variable {M : xMe} {g : xG} {y pc len : Nat} {L L' : List Slot} {st st' : List Value} {h h' : xH} {i : Instr}
theorem xq_iinc {n : Nat} {k : Int} {x v : Int32} (hM : xme y = M) (hd : decode M.2.1 pc = .ok (.iinc n k, 3)) (hv : Int32.ofInt k = v) (hl : L[n]? = some (.val (.int x))) (hs : xst1 L n (.int (x + v)) = some L') : X g y pc L st h = X g y (pc + 3) L' st h := by
  subst hM
  subst hv
  refine X_loc rfl hd rfl rfl ?_
  simp only [xlocs, hl, hs]
  rfl
theorem xq_invV {n y' k p b : Nat} {r : List Value} {L0 : List Slot} (hM : xme y = M) (hd : decode M.2.1 pc = .ok (.invokevirtual n, 3)) (hq : xMt M.2.2.2.2.1 n = some (n, 0, y', k, p)) (hst : st.drop k = va_rf (some b) :: r) (hdep : xdep r = true) (hcl : xcl h b = some (xme y').2.2.2.2.2.2.2) (hrm : xrm y y' = true) (hlen : Nat.beq (st.take k).length k = true) (ha : Nat.ble ((va_rf (some b) :: (st.take k).reverse).map fun v => v.category).sum (xme y').2.2.1 = true) (hL0 : xl0 y' (va_rf (some b) :: (st.take k).reverse) = L0) : X g y pc L st h = (X g y' 0 L0 [] h).bind fun z => X g y (pc + 3) L (z.1.toList ++ r) z.2 := by
  subst hM
  refine X_inv rfl hd rfl rfl rfl rfl rfl ?_ ?_ ha hL0
  · unfold xnat
    split
    · rfl
    · dsimp only
      rw [hq]
      split <;> first | rfl | simp_all
  · simp only [xinv, hq, hst]
    show (if (xdep r && xcl h b == some (xme y').2.2.2.2.2.2.2 && xrm y y' && Nat.beq (st.take k).length k) = true then _ else _) = _
    rw [if_pos (by rw [hdep, hcl, hrm, hlen]; simp)]
    rfl
theorem xq_invS {n y' k p : Nat} {L0 : List Slot} (hM : xme y = M) (hd : decode M.2.1 pc = .ok (.invokestatic n, 3)) (hq : xMt M.2.2.2.2.1 n = some (n, 1, y', k, p)) (hdep : xdep (st.drop k) = true) (hrm : xrm y y' = true) (hlen : Nat.beq (st.take k).length k = true) (ha : Nat.ble ((st.take k).reverse.map fun v => v.category).sum (xme y').2.2.1 = true) (hL0 : xl0 y' (st.take k).reverse = L0) : X g y pc L st h = (X g y' 0 L0 [] h).bind fun z => X g y (pc + 3) L (z.1.toList ++ st.drop k) z.2 := by
  subst hM
  refine X_inv rfl hd rfl rfl rfl rfl rfl ?_ ?_ ha hL0
  · unfold xnat
    split
    · rfl
    · dsimp only
      rw [hq]
      split <;> first | rfl | simp_all
  · simp only [xinv, hq]
    rw [if_pos (by rw [hdep, hrm, hlen]; rfl)]
theorem xq_invI {n y' k p b d : Nat} {r : List Value} {L0 : List Slot} (hM : xme y = M) (hd : decode M.2.1 pc = .ok (.invokespecial n, 3)) (hq : xMt M.2.2.2.2.1 n = some (n, d, y', k, p)) (hdd : d = 2 ∨ d = 3) (hst : st.drop k = va_rf (some b) :: r) (hdep : xdep r = true) (hrm : xrm y y' = true) (hlen : Nat.beq (st.take k).length k = true) (ha : Nat.ble ((va_rf (some b) :: (st.take k).reverse).map fun v => v.category).sum (xme y').2.2.1 = true) (hL0 : xl0 y' (va_rf (some b) :: (st.take k).reverse) = L0) : X g y pc L st h = (X g y' 0 L0 [] h).bind fun z => X g y (pc + 3) L (z.1.toList ++ r) z.2 := by
  subst hM
  refine X_inv rfl hd rfl rfl rfl rfl rfl ?_ ?_ ha hL0
  · unfold xnat
    split
    · rfl
    · dsimp only
      rcases hdd with rfl | rfl <;> rw [hq] <;> split <;> first | rfl | simp_all
  · rcases hdd with rfl | rfl
    · simp only [xinv, hq, hst]
      show (if (xdep r && xrm y y' && Nat.beq (st.take k).length k) = true then _ else _) = _
      rw [if_pos (by rw [hdep, hrm, hlen]; rfl)]
      rfl
    · simp only [xinv, hq, hst]
      show (if (xdep r && xrm y y' && Nat.beq (st.take k).length k) = true then _ else _) = _
      rw [if_pos (by rw [hdep, hrm, hlen]; rfl)]
      rfl
theorem xq_ireturn {v : Int32} (hM : xme y = M) (hd : decode M.2.1 pc = .ok (.ireturn, 1)) (hr : M.2.2.2.1 = some .int) : X g y pc L [.int v] h = some (some (.int v), h) := by
  subst hM
  refine X_ret rfl hd rfl rfl rfl rfl rfl (xnat_no (by simp) (by simp) (by simp)) rfl ?_
  simp only [xret, hr]
theorem xq_zreturn {v : Int32} (hM : xme y = M) (hd : decode M.2.1 pc = .ok (.ireturn, 1)) (hr : M.2.2.2.1 = some .boolean) (hv : v = 0 ∨ v = 1) : X g y pc L [.int v] h = some (some (.int v), h) := by
  subst hM
  refine X_ret rfl hd rfl rfl rfl rfl rfl (xnat_no (by simp) (by simp) (by simp)) rfl ?_
  simp only [xret, hr]
  rw [if_pos (by rcases hv with rfl | rfl <;> rfl)]
theorem xq_lreturn {v : Int64} (hM : xme y = M) (hd : decode M.2.1 pc = .ok (.lreturn, 1)) (hr : M.2.2.2.1 = some .long) : X g y pc L [.long v] h = some (some (.long v), h) := by
  subst hM
  refine X_ret rfl hd rfl rfl rfl rfl rfl (xnat_no (by simp) (by simp) (by simp)) rfl ?_
  simp only [xret, hr]
theorem xq_dreturn {v : UInt64} (hM : xme y = M) (hd : decode M.2.1 pc = .ok (.dreturn, 1)) (hr : M.2.2.2.1 = some .double) : X g y pc L [.double v] h = some (some (.double v), h) := by
  subst hM
  refine X_ret rfl hd rfl rfl rfl rfl rfl (xnat_no (by simp) (by simp) (by simp)) rfl ?_
  simp only [xret, hr]
theorem xq_areturn {o : Option Nat} {C : String} (hM : xme y = M) (hd : decode M.2.1 pc = .ok (.areturn, 1)) (hr : M.2.2.2.1 = some (.object C)) : X g y pc L [va_rf o] h = some (some (va_rf o), h) := by
  subst hM
  cases o with
  | none =>
    refine X_ret rfl hd rfl rfl rfl rfl rfl (xnat_no (by simp) (by simp) (by simp)) rfl ?_
    rw [hr]
    rfl
  | some a =>
    refine X_ret rfl hd rfl rfl rfl rfl rfl (xnat_no (by simp) (by simp) (by simp)) rfl ?_
    rw [hr]
    rfl
theorem xq_return (hM : xme y = M) (hd : decode M.2.1 pc = .ok (.return_, 1)) (hr : M.2.2.2.1 = none) : X g y pc L [] h = some (none, h) := by
  subst hM
  refine X_ret rfl hd rfl rfl rfl rfl rfl (xnat_no (by simp) (by simp) (by simp)) rfl ?_
  simp only [xret, hr]
theorem xhold_eq {x z : Int32} : (xhold .eq x z = true) = (x = z) := by simp [xhold]
theorem xhold_ne {x z : Int32} : (xhold .ne x z = true) = ¬ (x = z) := by simp [xhold]
theorem xhold_lt {x z : Int32} : (xhold .lt x z = true) = (x < z) := by simp [xhold]
theorem xhold_ge {x z : Int32} : (xhold .ge x z = true) = (z ≤ x) := by simp [xhold]
theorem xhold_gt {x z : Int32} : (xhold .gt x z = true) = (z < x) := by simp [xhold]
theorem xhold_le {x z : Int32} : (xhold .le x z = true) = (x ≤ z) := by simp [xhold]
end XQ2
