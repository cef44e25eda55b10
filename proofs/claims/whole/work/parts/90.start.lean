/-! THE CLAIM OUT OF ONE WALK OF THE LAW'S BODY. Your part is whole_start (and what it stands on); all else here is the same for every law, but numbers. -/
def lw_P (b : Addr) (xs : List Int32) (args : Array Value) (s : State) : Prop := args = #[.ref b] ∧ s.IntsAt b xs ∧ xs.length ≤ 3584 ∧ (Jvm.Cond.and given_1 narrow_1).before args s = true
/-- what a walk over the start with the record d0 says of its end, said of the start itself -/
theorem lw_closed {s t : State} {o : Outcome} {d0 : Drawn} {L : List Loc} {k n : Nat} (hd0 : s.drawn.sameBut d0 lw_cs) (hv : ∃ v, o = .returned v) (hW : (s.setDrawn d0).WarmedH t.vm) (hs : (s.setDrawn d0).sameButNew ({ t with vm := s.vm } : State) L k n) : State.butDraws s t lw_cs (fun t1 => Framed s o t1 L k n) := by
  have h2 : t.drawn = d0 := congrArg State.drawn hs.1
  refine ⟨⟨hv, hW, State.sameButNew.setDrawn hs s.drawn⟩, ?_, by decide⟩
  rw [h2]
  exact hd0
def lw_Q (_ : Array Value) (s : State) (o : Outcome) (t : State) : Prop := o = .returned (some (.int 1)) ∧ State.butDraws s t lw_cs (fun t1 => Framed s o t1 [] 600000 room_1.slots)
def lw_Z (below : List Frame) (a : Array Value) (s : State) : State → Prop := fun t => ∃ o, t.status = .running ∧ Ended t below o ∧ lw_Q a s o t
/-- the law's own end, with 1 on the stack, nothing written that was there before, its room as the claim has it; d0: the record of draws at this point (at the entry s.drawn: begin with 'refine W.base ?_' and 'have hd0 := Drawn.sameBut.refl s.drawn lw_cs') -/
theorem lw_ret {p : Program} {l : Launch} {e : Env} {s : State} {m : MethodId} {below : List Frame} {meth : Method} {c : Code} {b : Nat} {d0 : Drawn} (hd0 : s.drawn.sameBut d0 lw_cs) (hx : p.tables.exec = Jvm.exec) (hb : c.code = code) (hr : meth.sig.returnType = ret) (hlocks : meth.locks = false) {pc : Nat} {H : Heap} {ls : Array Slot} (hdg : decode code pc = .ok (.ireturn, 1)) : W p l e room_1 (s.setDrawn d0) m #[Value.ref b] below meth c H [] 600000 room_1.slots (lw_Z below #[Value.ref b] s) (F0 m pc ls [.int 1]) := by
  intro T hT X
  obtain ⟨fs, hret, hrun, hended, hW, hframe⟩ := X.leave (v := some (.int 1)) (hlocks := hlocks) (fun h => by rw [hr] at h; cases h)
  have hmeth' : T.vm.method? m = some meth := X.method'
  refine ⟨T.setFrames fs, ?_, .returned (some (.int 1)), hrun, hended, rfl, lw_closed hd0 ⟨_, rfl⟩ hW hframe⟩
  jvm_step X.here [X.here.top, hx, hb, hdg, hmeth', hr, ret, narrow_b1]
  (try refine ⟨rfl, ?_⟩); (try refine ⟨rfl, ?_⟩)
  first | (intro acts; rw [hret _ acts rfl rfl rfl]) | rw [hret _ _ rfl rfl rfl]
  exact Steps.refl _
/-- what holds at the law's entry: the machine, the code, the tables' words (any of lw_tbl by 'hts w (by decide +kernel)'), the script of L ints xs at the cell b, what the Statement gives of the start (any of its parts by flat_of_before) -/
def lw_At (p : Program) (s : State) (m : MethodId) (meth : Method) (c : Code) (b L : Nat) (xs : Nat → Int32) : Prop :=
  p.tables.exec = Jvm.exec ∧ c.code = code ∧ meth.sig.returnType = ret ∧ c.maxLocals = 4 ∧ s.vm.findClass R_law = some m.cls ∧ (∀ w ∈ lw_tbl, w.before #[Value.ref b] s = true) ∧ va_X b L xs s s.heap ∧ b < s.heap.size ∧ meth.locks = false ∧ (Jvm.Cond.and given_1 narrow_1).before #[Value.ref b] s = true ∧ meth.name = "law"
/-- the tables at the law's entry -/
theorem xstart_K {s : State} {args : Array Value} (hts : ∀ w ∈ xws, w.before args s = true) : ∃ D : va_G, va_K D vwCl [] s := by
  have h : ∀ ci : Nat, ∃ q : ClassId × (Nat → Nat), ∀ r, vwCl[ci]? = some r → u_Kn s r.1 r.2.1 r.2.2 q.1 q.2 := by
    intro ci
    cases hr : vwCl[ci]? with
    | none => exact ⟨(0, fun _ => 0), fun r h => by cases h⟩
    | some r =>
      obtain ⟨h1, h2, h3, h4⟩ := xcl_ok hr
      obtain ⟨cC, iS, h5⟩ := u_known hts h1 (hts _ h2)
      exact ⟨(cC, iS), fun r' h => by cases h; exact h5⟩
  obtain ⟨f, hf⟩ := Classical.axiomOfChoice h
  exact ⟨(fun ci => (f ci).1, fun ci => (f ci).2), fun c q hq => hf c q hq, fun k q hk => by cases hk⟩
theorem xstart_ar1 {s : State} {args : Array Value} {ty : FieldType} (hty : ∀ C, ty ≠ .object C) (h : (Cond.arrayClass ty).before args s = true) : ∃ cA : ClassId, ArrOfT s cA ty ∧ va_RA s cA ty := by
  obtain ⟨c, k, comp, h1, h2, h3⟩ := Cond.arrayClass_spec h
  refine ⟨c, fun n z => ⟨fun k h => (by cases h), k, h2, comp, h3⟩, ?_⟩
  cases ty with
  | object C => exact absurd rfl (hty C)
  | _ => exact h1
theorem xstart_ar2 {s : State} {args : Array Value} {C : String} (h : (Cond.arrayOver (.object C)).before args s = true) : ∃ cA : ClassId, ArrOfT s cA (.object C) ∧ va_RA s cA (.object C) := by
  obtain ⟨comp, c, k, h1, -, h3, h4, h5⟩ := Cond.arrayOver_spec h
  exact ⟨c, fun n z => ⟨fun k h => (by cases h), k, h3, comp, h4⟩, k, comp, h3, h4, h1, h5⟩
theorem xtu_cases {t : Nat} (h : xtu t = true) : t = 0 ∨ t = 1 ∨ t = 2 ∨ t = 3 ∨ t = 10 ∨ t = 14 ∨ t = 16 ∨ t = 17 ∨ t = 19 := by
  unfold xtu xtr at h
  simp only [Bool.or_eq_true, beq_iff_eq] at h
  rcases h with h | h
  · have := Nat.le_of_ble_eq_true h
    omega
  · omega
theorem xstart_A {s : State} {args : Array Value} (hts : ∀ w ∈ lw_tbl, w.before args s = true) : ∃ ar : Nat → ClassId, xKA ar s := by
  have h : ∀ t : Nat, ∃ cA : ClassId, xtu t = true → ArrOfT s cA (xty t) ∧ va_RA s cA (xty t) := by
    intro t
    by_cases ht : xtu t = true
    · have pr : ∀ {ty : FieldType} {i : Nat}, (∀ C, ty ≠ .object C) → xlook i = some (Cond.arrayClass ty) → ∃ cA : ClassId, ArrOfT s cA ty ∧ va_RA s cA ty := fun hty hi => xstart_ar1 hty (hts _ (xlook_in hi))
      have ob : ∀ {C : String} {i : Nat}, xlook i = some (Cond.arrayOver (.object C)) → ∃ cA : ClassId, ArrOfT s cA (.object C) ∧ va_RA s cA (.object C) := fun hi => xstart_ar2 (hts _ (xlook_in hi))
      rcases xtu_cases ht with rfl | rfl | rfl | rfl | rfl | rfl | rfl | rfl | rfl
      · obtain ⟨cA, h⟩ := pr (ty := .int) (i := 1076) (by intro C h; cases h) (by decide +kernel); exact ⟨cA, fun _ => h⟩
      · obtain ⟨cA, h⟩ := pr (ty := .long) (i := 1075) (by intro C h; cases h) (by decide +kernel); exact ⟨cA, fun _ => h⟩
      · obtain ⟨cA, h⟩ := pr (ty := .byte) (i := 1104) (by intro C h; cases h) (by decide +kernel); exact ⟨cA, fun _ => h⟩
      · obtain ⟨cA, h⟩ := pr (ty := .boolean) (i := 2021) (by intro C h; cases h) (by decide +kernel); exact ⟨cA, fun _ => h⟩
      · obtain ⟨cA, h⟩ := ob (C := "ViewedBank$Act") (i := 1056) (by decide +kernel); exact ⟨cA, fun _ => h⟩
      · obtain ⟨cA, h⟩ := ob (C := "ViewedBank$Line") (i := 1084) (by decide +kernel); exact ⟨cA, fun _ => h⟩
      · obtain ⟨cA, h⟩ := ob (C := "ViewedBank$Put") (i := 1054) (by decide +kernel); exact ⟨cA, fun _ => h⟩
      · obtain ⟨cA, h⟩ := ob (C := "ViewedBank$Row") (i := 1129) (by decide +kernel); exact ⟨cA, fun _ => h⟩
      · obtain ⟨cA, h⟩ := ob (C := "ViewedBank$Window") (i := 1131) (by decide +kernel); exact ⟨cA, fun _ => h⟩
    · exact ⟨0, fun h => absurd h ht⟩
  obtain ⟨f, hf⟩ := Classical.axiomOfChoice h
  exact ⟨f, hf⟩
set_option maxRecDepth 100000 in
set_option maxHeartbeats 4000000 in
theorem xstart_C {s : State} {b L : Nat} {xs : Nat → Int32} (hL : L ≤ 3584) (hts : ∀ w ∈ lw_tbl, w.before #[Value.ref b] s = true) (hX : va_X b L xs s s.heap) (hbl : b < s.heap.size) (hgv : (Jvm.Cond.and given_1 narrow_1).before #[Value.ref b] s = true) : ∃ (D : va_G) (ar : Nat → ClassId) (sv sa : Nat), xCx D ar s.heap.size (b, L, xs, sv, sa) s ∧ sv < s.heap.size ∧ ¬ sv = b := by
  have hts2 : ∀ w ∈ xws, w.before #[Value.ref b] s = true := fun w hw => hts w (xws_in hw)
  obtain ⟨D, hK⟩ := xstart_K hts2
  obtain ⟨ar, hA⟩ := xstart_A hts
  have hf := flat_of_before _ hgv
  have hn : ∀ a : Nat, a < s.heap.size → ¬ xA s.heap.size a := fun a h => Nat.not_le.mpr h
  obtain ⟨sv, hv1, hv2⟩ := va_Tof (args := #[Value.ref b]) (s := s) (tm := .static "ViewedBank$Kinds" "VIEWED_AS" "[I") (ty := .int) (N := 8) (f := fun j => .int (xvs j)) (A := xA s.heap.size) (by decide) (hf _ (by decide +kernel)) (va_eqt (hf _ (by decide +kernel))) (fun j hj => by
    match j, hj with
    | 0, _ => exact va_eqt (hf (Cond.eq (.elem (.static "ViewedBank$Kinds" "VIEWED_AS" "[I") (.int 0)) (.int 1)) (by decide +kernel))
    | 1, _ => exact va_eqt (hf (Cond.eq (.elem (.static "ViewedBank$Kinds" "VIEWED_AS" "[I") (.int 1)) (.int 250)) (by decide +kernel))
    | 2, _ => exact va_eqt (hf (Cond.eq (.elem (.static "ViewedBank$Kinds" "VIEWED_AS" "[I") (.int 2)) (.int 244)) (by decide +kernel))
    | 3, _ => exact va_eqt (hf (Cond.eq (.elem (.static "ViewedBank$Kinds" "VIEWED_AS" "[I") (.int 3)) (.int 248)) (by decide +kernel))
    | 4, _ => exact va_eqt (hf (Cond.eq (.elem (.static "ViewedBank$Kinds" "VIEWED_AS" "[I") (.int 4)) (.int 240)) (by decide +kernel))
    | 5, _ => exact va_eqt (hf (Cond.eq (.elem (.static "ViewedBank$Kinds" "VIEWED_AS" "[I") (.int 5)) (.int 224)) (by decide +kernel))
    | 6, _ => exact va_eqt (hf (Cond.eq (.elem (.static "ViewedBank$Kinds" "VIEWED_AS" "[I") (.int 6)) (.int 192)) (by decide +kernel))
    | 7, _ => exact va_eqt (hf (Cond.eq (.elem (.static "ViewedBank$Kinds" "VIEWED_AS" "[I") (.int 7)) (.int 128)) (by decide +kernel))
    | k + 8, h => exact absurd h (by omega)) hn
  have hne : ¬ sv = b := by
    intro z
    have h := hf (Cond.not (Cond.eq (.arg 0) (.static "ViewedBank$Kinds" "VIEWED_AS" "[I"))) (by decide +kernel)
    have ha : (Term.arg 0).eval #[Value.ref b] s none [] s = some (.ref b) := rfl
    have hv := hv1
    rw [z] at hv
    simp only [Cond.before, Cond.holds, Cond.value, hv, ha] at h
    simp at h
  obtain ⟨adK, adV, hS, hev⟩ := vk_Sof (args := #[Value.ref b]) (s := s) (N := 1) (tm := fun _ => .string "ViewedBank$Paper" 27) (len := [10]) (byt := [[122, 98, 99, 115, 105, 106, 102, 100, 111, 108]]) (A := xA s.heap.size) (by decide) (fun _ _ => hf _ (by decide +kernel)) (fun _ _ => hf _ (by decide +kernel)) (fun _ _ => hf _ (by decide +kernel))
    (fun i hi => by
      have : i = 0 := by omega
      subst this
      exact hf _ (by decide +kernel))
    (fun i hi j hj => by
      have : i = 0 := by omega
      subst this
      match j, hj with
      | 0, _ => exact hf _ (by decide +kernel)
      | 1, _ => exact hf _ (by decide +kernel)
      | 2, _ => exact hf _ (by decide +kernel)
      | 3, _ => exact hf _ (by decide +kernel)
      | 4, _ => exact hf _ (by decide +kernel)
      | 5, _ => exact hf _ (by decide +kernel)
      | 6, _ => exact hf _ (by decide +kernel)
      | 7, _ => exact hf _ (by decide +kernel)
      | 8, _ => exact hf _ (by decide +kernel)
      | 9, _ => exact hf _ (by decide +kernel)
      | k + 10, h => exact absurd h (by simp))
    (fun i j hi hj hne => absurd (show i = j by omega) hne) hn
  refine ⟨D, ar, sv, adK 0, ⟨hK, hA, fun w hw => ?_, fun t ht => ?_, Nat.le_refl _, va_Zref (hts _ (xlook_in (p := 2118) (by decide +kernel))) (hts _ (xlook_in (p := 1012) (by decide +kernel))) hv1 hn, hv2, ?_, ?_, ⟨adV, ?_⟩, ?_, ?_⟩, ?_⟩
  · have hm : w ∈ lw_tbl := by
      simp only [xnl, List.mem_cons, List.not_mem_nil, or_false] at hw
      rcases hw with rfl | rfl | rfl | rfl | rfl | rfl
      · exact xlook_in (p := 1032) (by decide +kernel)
      · exact xlook_in (p := 1049) (by decide +kernel)
      · exact xlook_in (p := 1079) (by decide +kernel)
      · exact xlook_in (p := 1107) (by decide +kernel)
      · exact xlook_in (p := 1133) (by decide +kernel)
      · exact xlook_in (p := 4104) (by decide +kernel)
    have hb := hts w hm
    simp only [xnl, List.mem_cons, List.not_mem_nil, or_false] at hw
    rcases hw with rfl | rfl | rfl | rfl | rfl | rfl <;> exact va_Nw.of rfl hb
  · simp only [xtr, Bool.or_eq_true, beq_iff_eq] at ht
    rcases ht with (((rfl | rfl) | rfl) | rfl) | rfl
    · exact va_AO.of (hts (Cond.arrayOver (.object "ViewedBank$Act")) (xlook_in (p := 1056) (by decide +kernel)))
    · exact va_AO.of (hts (Cond.arrayOver (.object "ViewedBank$Line")) (xlook_in (p := 1084) (by decide +kernel)))
    · exact va_AO.of (hts (Cond.arrayOver (.object "ViewedBank$Put")) (xlook_in (p := 1054) (by decide +kernel)))
    · exact va_AO.of (hts (Cond.arrayOver (.object "ViewedBank$Row")) (xlook_in (p := 1129) (by decide +kernel)))
    · exact va_AO.of (hts (Cond.arrayOver (.object "ViewedBank$Window")) (xlook_in (p := 1131) (by decide +kernel)))
  · obtain ⟨scr, h1, h2, h3, h4, h5⟩ := hX
    exact ⟨scr, h1, h2, h3, by rw [h4]; exact Nat.le_refl _, by rw [h4] <;> rfl, h5, Nat.not_le.mpr hbl⟩
  · exact vk_R.of (hts (Cond.stringRef "ViewedBank$Paper" 27 "zbcsijfdol") (xlook_in (p := 4013) (by decide +kernel))) (hev 0 (by decide))
  · exact ⟨fun i hi => by
      have : i = 0 := by omega
      subst this
      exact hS.1 0 hi, fun i j hi hj _ => by omega⟩
  · exact va_Zof (hts _ (xlook_in (p := 4023) (by decide +kernel))) (hts _ (xlook_in (p := 1017) (by decide +kernel))) (va_eqi (hf _ (by decide +kernel))) hn
  · exact va_Zqof (hts _ (xlook_in (p := 4039) (by decide +kernel))) (hts _ (xlook_in (p := 1019) (by decide +kernel))) (hf _ (by decide +kernel)) hn
  · obtain ⟨cell, h1, -⟩ := hv2
    exact ⟨(Array.getElem?_eq_some_iff.mp h1).1, hne⟩
/-- the heap at the law's start: nothing is made yet -/
def xh0 (n : Nat) : xH := (n, 0, 0, fun _ => none)
/-- OPEN: the law's run by the executor, and the String's two methods -/
theorem whole_open {p : Program} {e : Env} {s : State} {m : MethodId} {below : List Frame} {meth : Method} {c : Code} (l : Launch) {b L : Nat} {xs : Nat → Int32} (hL : L ≤ 3584) (C0 : lw_At p s m meth c b L xs)
    (hstr : ∀ (D : va_G) (ar : Nat → ClassId) (N0 : Nat) (g : xG), xStrM l D ar N0 g)
    (hrun : ∀ (N0 sv sa : Nat), b < N0 → sv < N0 → ¬ sv = b → ∃ h' : xH, X (b, L, xs, sv, sa) 254 0 [.val (va_rf (some b)), .unset, .unset, .unset] [] (xh0 N0) = some (some (.int 1), h') ∧ h'.2.1 ≤ 600000 ∧ h'.2.2.1 ≤ 7000000) :
    W p l e room_1 s m #[Value.ref b] below meth c s.heap [] 0 0 (lw_Z below #[Value.ref b] s) (entryFrame m ([Value.ref b] : List Value).toArray 4) := by
  obtain ⟨hx, hb, hr, hml, hown, hts0, hX, hbl, hlocks, hgv, hnm⟩ := C0
  obtain ⟨D, ar, sv, sa, hC, hsv, hsb⟩ := xstart_C hL hts0 hX hbl hgv
  obtain ⟨h', he, hc, hs⟩ := hrun s.heap.size sv sa hbl hsv hsb
  obtain ⟨f, hf⟩ := X_iff.mp he
  have hts2 : ∀ w ∈ xws, w.before #[Value.ref b] s = true := fun w hw => hts0 w (xws_in hw)
  have hle := lv_entry [Value.ref b] (n := 4) (Nat.le_of_ble_eq_true rfl)
  rw [lg_entry_eq]
  refine xsound (hstr D ar s.heap.size (b, L, xs, sv, sa)) f 254 0 _ [] (xh0 s.heap.size) _ hf (R := room_1) hx hb hml hnm hown hts2 hC (by decide) (by decide) ?_ ?_ va_S.rf ?_ ?_ ?_
  · exact ⟨hle.1, rfl, hle.2.1, fun i v hi => by rw [List.getElem?_toArray]; exact hi⟩
  · exact ⟨rfl, Nat.le_refl _, fun a e h => by cases h⟩
  · show 0 + h'.2.1 ≤ 600000 + 0
    omega
  · have h7 : 7000000 ≤ room_1.slots := by decide
    show 0 + h'.2.2.1 ≤ room_1.slots + 0
    omega
  · intro pc ls st H locs cells slots i len hd hz hs hR hS h1 h2
    cases i with
    | ireturn =>
      simp only [xsz, beq_iff_eq] at hz; subst hz
      have hst : st = [.int 1] := by
        simp only [xret] at hs
        split at hs
        · rename_i v
          have hs : (if (v == 0 || v == 1) = true then some (some (Value.int v)) else none) = some (some (Value.int 1)) := hs
          split at hs
          · cases hs; rfl
          · cases hs
        · cases hs
      subst hst
      refine W.base ?_
      refine va_forget (s := s.setDrawn s.drawn) (fun q hq => hS.2.2 q hq) ?_
      refine W.widen (k := room_1.cells) (n := room_1.slots) h1 h2 ?_
      exact lw_ret (Drawn.sameBut.refl s.drawn lw_cs) hx hb hr hlocks hd
    | lreturn => simp only [xret] at hs; split at hs <;> cases hs
    | dreturn => simp only [xret] at hs; split at hs <;> cases hs
    | areturn => simp only [xret] at hs; split at hs <;> cases hs
    | return_ => simp only [xret] at hs; split at hs <;> cases hs
    | _ => simp only [xret] at hs; cases hs
/-- from the entry, for every script, the law comes to its end with true -/
theorem whole_start {p : Program} {e : Env} {s : State} {m : MethodId} {below : List Frame} {meth : Method} {c : Code} (l : Launch) (hflags : l.flags = flags0) {b L : Nat} {xs : Nat → Int32} (hL : L ≤ 3584) (C0 : lw_At p s m meth c b L xs) : W p l e room_1 s m #[Value.ref b] below meth c s.heap [] 0 0 (lw_Z below #[Value.ref b] s) (entryFrame m ([Value.ref b] : List Value).toArray 4) :=
  whole_open l hL C0 (fun D ar N0 g => xstr l D ar N0 g) (fun N0 sv sa h1 h2 h3 => law_run hL N0 sv sa h1 h2 h3)
