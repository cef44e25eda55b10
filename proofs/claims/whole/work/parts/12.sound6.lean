/-! SOUND, 6: calls, and the whole -/
theorem xplain1 : plainFor yJxf58ca_isNaN_12338 = true := by
  have h : (NativeRow.find? Jvm.natives "java/lang/Float" "isNaN" "(F)Z").isNone = true := by decide +kernel
  unfold plainFor
  rw [show NativeRow.find? Jvm.natives yJxf58ca_isNaN_12338.cls yJxf58ca_isNaN_12338.name yJxf58ca_isNaN_12338.desc = NativeRow.find? Jvm.natives "java/lang/Float" "isNaN" "(F)Z" from rfl, h, Bool.or_true]
theorem xplain2 : plainFor yJxf58ca_floatToIntBits_5c35a = true := by
  have h : (NativeRow.find? Jvm.natives "java/lang/Float" "floatToIntBits" "(F)I").isNone = true := by decide +kernel
  unfold plainFor
  rw [show NativeRow.find? Jvm.natives yJxf58ca_floatToIntBits_5c35a.cls yJxf58ca_floatToIntBits_5c35a.name yJxf58ca_floatToIntBits_5c35a.desc = NativeRow.find? Jvm.natives "java/lang/Float" "floatToIntBits" "(F)I" from rfl, h, Bool.or_true]
def xPc (D : va_G) (ar : Nat → ClassId) (N0 : Nat) (g : xG) (as : List Value) (h : xH) : Array Value → State → Prop := va_Pc as (fun U => xCx D ar N0 g U ∧ xHR D ar N0 h U.heap)
def xQc (D : va_G) (ar : Nat → ClassId) (N0 : Nat) (r : xR) : Array Value → State → Outcome → State → Prop := fun _ st o t => o = .returned r.1 ∧ xHR D ar N0 r.2 t.heap ∧ va_F (xA N0) st t
theorem xCx.same {D : va_G} {ar : Nat → ClassId} {N0 : Nat} {g : xG} {u U : State} (hv : u.vm = U.vm) (hh : U.heap = u.heap) (hC : xCx D ar N0 g u) : xCx D ar N0 g U := by
  have al : u.vm.Alike U.vm := by rw [hv]; exact Vm.Alike.refl _
  obtain ⟨h1, h2, h3, h4, h5, h6, h7, h8, h9, ⟨adV, h10⟩, h11, h12⟩ := hC
  refine ⟨va_K.moved al h1, fun t ht => ⟨arrOfT_moved al (h2 t ht).1, (h2 t ht).2.moved al⟩, fun w hw => ?_, fun t ht => va_AO.moved al (h4 t ht), by rw [hh]; exact h5, ?_, ?_, ?_, vk_R.same hv.symm h9, ⟨adV, ?_⟩, ?_, ?_⟩
  · have h := h3 w hw
    simp only [xnl, List.mem_cons, List.not_mem_nil, or_false] at hw
    rcases hw with rfl | rfl | rfl | rfl | rfl | rfl <;> exact va_Nw.same rfl hv h
  · rw [hh]; exact va_Z.moved al h6
  · rw [hh]; exact va_T.moved al h7
  · rw [hh]; exact va_T.moved al h8
  · rw [hh]; exact vk_S.moved al h10
  · rw [hh]; exact va_Z.moved al h11
  · rw [hh]; exact va_Zq.moved al h12
theorem xCx.to {D : va_G} {ar : Nat → ClassId} {N0 : Nat} {g : xG} {s U : State} {H : Heap} {locs : List Loc} (hC : xCx D ar N0 g s) (hS : va_S (xA N0) s.heap H locs) (hU : U.heap = H) (hW : s.WarmedH U.vm) : xCx D ar N0 g U := by
  have al := hW.alike
  subst hU
  obtain ⟨h1, h2, h3, h4, h5, h6, h7, h8, h9, ⟨adV, h10⟩, h11, h12⟩ := hC
  refine ⟨va_K.moved al h1, fun t ht => ⟨arrOfT_moved al (h2 t ht).1, (h2 t ht).2.moved al⟩, fun w hw => ?_, fun t ht => va_AO.moved al (h4 t ht), Nat.le_trans h5 hS.1, (va_Z.moved al h6).kept hS.2.1, (va_T.moved al h7).kept hS.2.1, (va_T.moved al h8).kept hS.2.1, vk_R.warm hW h9, ⟨adV, (vk_S.moved al h10).kept hS.2.1⟩, (va_Z.moved al h11).kept hS.2.1, (va_Zq.moved al h12).kept hS.2.1⟩
  have h := h3 w hw
  simp only [xnl, List.mem_cons, List.not_mem_nil, or_false] at hw
  rcases hw with rfl | rfl | rfl | rfl | rfl | rfl <;> exact va_Nw.warmM hW h
theorem xPc.blind {D : va_G} {ar : Nat → ClassId} {N0 : Nat} {g : xG} {as : List Value} {h : xH} : FrameBlind (xPc D ar N0 g as h) := by
  intro a U g1 mk ⟨h1, h2, h3⟩
  exact ⟨h1, xCx.same (u := U) (U := U.calling g1 mk a) rfl rfl h2, h3⟩
theorem xMt_inv {c n : Nat} {q : Nat × Nat × Nat × Nat × Nat} (h : xMt c n = some q) : xchkM c q = true ∧ q.1 = n := by
  have h1 := List.find?_some h
  have h2 := List.mem_of_find?_eq_some h
  have hc : c < 18 := by
    rcases Nat.lt_or_ge c 18 with z | z
    · exact z
    · rw [xMl_out (by omega)] at h2; cases h2
  exact ⟨List.all_eq_true.mp (xchkM_all hc) q h2, by simpa using h1⟩
/-- what is known of a method by its number -/
theorem xy_inv {y : Nat} (h : y < 252) : Cond.code (xme y).1 (xme y).2.1 (xme y).2.2.1 (xme y).2.2.2.1 ∈ xws ∧ Cond.initialized (xme y).1.cls ∈ xws ∧ plainFor (xme y).1 = true ∧ ((xme y).1.cls ≠ "java/lang/invoke/MethodHandle" ∧ (xme y).1.cls ≠ "java/lang/invoke/VarHandle") ∧ (xme y).1.cls = xcn (xme y).2.2.2.2.1 ∧ ((xme y).2.2.2.2.2.2.2 = 99 → Cond.static (xme y).1 ∈ xws) ∧ ((xme y).2.2.2.2.2.2.2 ≠ 99 → Cond.instanceMethod (xme y).1 ∈ xws ∧ (∃ r, vwCl[(xme y).2.2.2.2.2.2.2]? = some r ∧ r.1 = (xme y).1.cls) ∧ ((xme y).1.name ≠ "<init>" → Cond.selects (xme y).1.cls (xme y).1 (xme y).1 ∈ xws)) := by
  have h3 := xchkY_all h
  unfold xchkY at h3
  simp only [Bool.and_eq_true, decide_eq_true_eq, Bool.not_eq_true', beq_eq_false_iff_ne, ne_eq, beq_iff_eq, Bool.or_eq_true] at h3
  obtain ⟨⟨⟨⟨⟨⟨a1, a2⟩, a3⟩, a4⟩, a5⟩, a6⟩, a7⟩ := h3
  refine ⟨xw_mem a1 rfl, xw_mem a2 rfl, ?_, ⟨a4, a5⟩, a6, fun z => ?_, fun z => ?_⟩
  · rcases a3 with (z | z) | z
    · exact plainFor_of_name z
    · rw [z]; exact xplain1
    · rw [z]; exact xplain2
  · rw [if_pos z] at a7
    exact xw_mem (of_decide_eq_true a7) rfl
  · rw [if_neg z] at a7
    simp only [Bool.and_eq_true, decide_eq_true_eq, Bool.or_eq_true, beq_iff_eq] at a7
    obtain ⟨⟨b1, b2⟩, b3⟩ := a7
    refine ⟨xw_mem b1 rfl, ?_, fun q => ?_⟩
    · split at b2
      · rename_i r hr
        exact ⟨r, hr, by simpa using b2⟩
      · cases b2
    · exact xw_mem (b3.resolve_left q) rfl
abbrev xwy (y : Nat) : List Cond := Cond.code (xme y).1 (xme y).2.1 (xme y).2.2.1 (xme y).2.2.2.1 :: xws
abbrev xrmy (y mc ms : Nat) : Room := { frames := (xme y).2.2.2.2.2.1, cells := mc, slots := ms, locals := (xme y).2.2.2.2.2.2.1 }
theorem xgin {ws : List Cond} (h : ∀ w ∈ ws, w ∈ xws) : GoodIn xws ws := fun w hw => ⟨h w hw, good_of_word (xws_good (h w hw))⟩
theorem xwy_in {y : Nat} (h : y < 252) : ∀ w ∈ xwy y, w ∈ xws := by
  intro w hw
  rcases List.mem_cons.mp hw with rfl | hw
  · exact (xy_inv h).1
  · exact hw
theorem xdep_ok {st : List Value} (h : xdep st = true) : (st.map fun v => v.category).sum ≤ 8 := Nat.le_of_ble_eq_true h
section XS6
variable {p : Program} {l : Launch} {e : Env} {R : Room} {s : State} {m : MethodId} {args : Array Value} {below : List Frame} {meth : Method} {c : Code} {H : Heap} {locs : List Loc} {cells slots : Nat} {Q : State → Prop}
variable {pc len mc ms : Nat} {ls : Array Slot} {st st0 rest : List Value} {D : va_G} {ar : Nat → ClassId} {N0 : Nat} {g : xG} {h : xH} {y : Nat}
theorem xgo {r : xR} {a : Array Value} (hr : va_Run p l e R s m args below meth c H locs cells slots mc ms (F0 m pc ls st0) rest (xQc D ar N0 r a) (xA N0)) (hS : va_S (xA N0) s.heap H locs)
    (k : ∀ (H1 : Heap) (locs1 : List Loc), xHR D ar N0 r.2 H1 → va_S (xA N0) s.heap H1 locs1 → W p l e R s m args below meth c H1 locs1 (cells + mc) (slots + ms) Q (F0 m (pc + 3) ls (r.1.toList ++ rest))) : W p l e R s m args below meth c H locs cells slots Q (F0 m pc ls st0) := by
  intro T hT X
  obtain ⟨v, st₀, t, T', L, h0, X', hL, e1, e2, ⟨hv, hR1, hz, hk⟩, st⟩ := hr T hT X
  have hv : v = r.1 := by cases hv; rfl
  subst hv
  rw [h0] at hz hk
  obtain ⟨t2, a1, b1⟩ := k T'.heap (locs ++ L) (by rw [e1]; exact hR1) ⟨Nat.le_trans hS.1 (by rw [e1]; exact hz), fun q h1 h2 => by rw [e1, hk q (Nat.lt_of_lt_of_le h1 hS.1) h2]; exact hS.2.1 q h1 h2, fun q hq => by
      rcases List.mem_append.mp hq with h | h
      · exact hS.2.2 q h
      · exact hL q h⟩ T' rfl X'
  exact ⟨t2, st t2 a1, b1⟩
set_option maxHeartbeats 1000000 in
theorem xinv_ok {i : Instr} {y' : Nat} {as : List Value} {r : List Value} {res : xR} (hx : p.tables.exec = Jvm.exec) (hb : c.code = (xme y).2.1) (hml : c.maxLocals = ls.size) (hts : ∀ w ∈ xws, w.before args s = true) (hown : s.vm.findClass (xcn (xme y).2.2.2.2.1) = some m.cls) (hC : xCx D ar N0 g s) (hR : xHR D ar N0 h H) (hS : va_S (xA N0) s.heap H locs)
    (hfr : (xme y).2.2.2.2.2.1 ≤ R.frames) (hlo : (xme y).2.2.2.2.2.2.1 ≤ R.locals) (hd : decode (xme y).2.1 pc = .ok (i, len)) (hz : xsz i len = true) (hs : xinv y i st h = some (y', as, r))
    (hM : y' < 252 → Met l (xme y').1 (xwy y') (xrmy y' mc ms) (xPc D ar N0 g as h) (xQc D ar N0 res) mc ms (xA N0)) (hf : cells + mc ≤ R.cells ∧ slots + ms ≤ R.slots) :
    len = 3 ∧ va_Run p l e R s m args below meth c H locs cells slots mc ms (F0 m pc ls st) r (xQc D ar N0 res as.toArray) (xA N0) := by
  have hroom : xrm y y' = true → (xrmy y' mc ms).frames + 1 ≤ R.frames ∧ 8 + ((xme y').2.2.1 + 11) + (xrmy y' mc ms).locals ≤ R.locals := by
    intro q
    simp only [xrm, Bool.and_eq_true] at q
    exact ⟨Nat.le_trans (Nat.le_of_ble_eq_true q.1) hfr, Nat.le_trans (Nat.le_of_ble_eq_true q.2) hlo⟩
  have hpre : ∀ U : State, U.heap = H → s.WarmedH U.vm → xPc D ar N0 g as h as.toArray U := fun U hU hW => ⟨rfl, hC.to hS hU hW, by rw [hU]; exact hR⟩
  cases i with
  | invokevirtual n =>
    simp only [xsz, beq_iff_eq] at hz; subst hz
    refine ⟨rfl, ?_⟩
    simp only [xinv] at hs
    split at hs
    · rename_i a1 y1 k1 p1 hq
      split at hs
      · rename_i b r1 hst
        split at hs
        · rename_i hc
          simp only [Option.some.injEq, Prod.mk.injEq] at hs; obtain ⟨rfl, rfl, rfl⟩ := hs
          simp only [Bool.and_eq_true, beq_iff_eq] at hc
          obtain ⟨⟨⟨c1, c2⟩, c3⟩, c4⟩ := hc
          obtain ⟨q1, q2⟩ := xMt_inv hq
          have q2 : a1 = n := q2
          subst q2
          have q3 : (Nat.ble y1 251 && (parseMethodDescriptor (xme y1).1.desc).map (fun d => d.parameters.length) == some k1 && decide (xlook p1 = some (Cond.methodLink (xcn (xme y).2.2.2.2.1) a1 (xme y1).1)) && Nat.ble (xme y1).2.2.2.2.2.2.2 50 && !((xme y1).1.name == "<init>") && true) = true := q1
          simp only [Bool.and_eq_true, beq_iff_eq, decide_eq_true_eq, Bool.not_eq_true', beq_eq_false_iff_ne, ne_eq] at q3
          obtain ⟨⟨⟨⟨⟨d1, d2⟩, d3⟩, d4⟩, d5⟩, -⟩ := q3
          have hy : y1 < 252 := Nat.lt_succ_of_le (Nat.le_of_ble_eq_true d1)
          obtain ⟨w1, w2, -, w4, w5, -, w7⟩ := xy_inv hy
          obtain ⟨v1, ⟨rr, v2, v2'⟩, v3⟩ := w7 (by have := Nat.le_of_ble_eq_true d4; omega)
          have v3 := v3 d5
          have hk : k1 = (st.take k1).length := (Nat.eq_of_beq_eq_true c4).symm
          have hsp : st = ((st.take k1).reverse).reverse ++ .ref b :: r1 := by rw [List.reverse_reverse, ← hst, List.take_append_drop]
          obtain ⟨fs, hb1⟩ := xcl_inv c2
          refine va_runV (As := (st.take k1).reverse) (rest := r1) (C := (xme y1).1.cls) (n := k1) ⟨hx, hb, hml, hown, hts⟩ (hM hy) (cwV k1 hts (xgin ?_) rfl rfl rfl ⟨rfl, w4.1, w4.2, d2⟩ (hroom c3)) ⟨xPc.blind, ?_, hpre⟩ rfl (by rw [List.length_reverse]; exact hk.symm) rfl hsp (lv_room (m := m) (pc := pc) (ls := ls) (rest := st) (xdep_ok c1)) hd hf
          · intro w hw
            simp only [wsV, List.mem_append, List.mem_cons, List.not_mem_nil, or_false] at hw
            rcases hw with (rfl | rfl | rfl | rfl) | hw
            · exact xw_mem d3 rfl
            · exact v1
            · exact v3
            · exact w2
            · exact xwy_in hy w (List.mem_cons.mpr hw)
          · have := va_recv (s := s) (H := H) hC.1 (va_P.one (q := (b, .inr ((xme y1).2.2.2.2.2.2.2, fs))) (hR.2.2 b _ hb1).2) v2 (q0 := 0) rfl
            rw [v2'] at this
            exact this
        · cases hs
      · cases hs
    · cases hs
  | invokestatic n =>
    simp only [xsz, beq_iff_eq] at hz; subst hz
    refine ⟨rfl, ?_⟩
    simp only [xinv] at hs
    split at hs
    · rename_i a1 y1 k1 p1 hq
      split at hs
      · rename_i hc
        simp only [Option.some.injEq, Prod.mk.injEq] at hs; obtain ⟨rfl, rfl, rfl⟩ := hs
        simp only [Bool.and_eq_true] at hc
        obtain ⟨⟨c1, c3⟩, c4⟩ := hc
        obtain ⟨q1, q2⟩ := xMt_inv hq
        have q2 : a1 = n := q2
        subst q2
        have q3 : (Nat.ble y1 251 && (parseMethodDescriptor (xme y1).1.desc).map (fun d => d.parameters.length) == some k1 && decide (xlook p1 = some (Cond.methodLink (xcn (xme y).2.2.2.2.1) a1 (xme y1).1)) && (xme y1).2.2.2.2.2.2.2 == 99 && true && true) = true := q1
        simp only [Bool.and_eq_true, beq_iff_eq, decide_eq_true_eq] at q3
        obtain ⟨⟨⟨⟨⟨d1, d2⟩, d3⟩, d4⟩, -⟩, -⟩ := q3
        have hy : y1 < 252 := Nat.lt_succ_of_le (Nat.le_of_ble_eq_true d1)
        obtain ⟨w1, w2, -, w4, w5, w6, -⟩ := xy_inv hy
        have v1 := w6 d4
        have hk : k1 = (st.take k1).length := (Nat.eq_of_beq_eq_true c4).symm
        have hsp : st = ((st.take k1).reverse).reverse ++ st.drop k1 := by rw [List.reverse_reverse, List.take_append_drop]
        refine va_runS (As := (st.take k1).reverse) (rest := st.drop k1) (n := k1) ⟨hx, hb, hml, hown, hts⟩ (hM hy) (va_cwS k1 hts (xgin ?_) rfl rfl rfl ⟨w4.1, w4.2, d2⟩ (hroom c3)) ⟨xPc.blind, hpre⟩ rfl (by rw [List.length_reverse]; exact hk.symm) rfl hsp (lv_room (m := m) (pc := pc) (ls := ls) (rest := st) (xdep_ok c1)) hd hf
        intro w hw
        simp only [va_wsS, List.mem_append, List.mem_cons, List.not_mem_nil, or_false] at hw
        rcases hw with (rfl | rfl | rfl) | hw
        · exact xw_mem d3 rfl
        · exact v1
        · exact w2
        · exact xwy_in hy w (List.mem_cons.mpr hw)
      · cases hs
    · cases hs
  | invokespecial n =>
    simp only [xsz, beq_iff_eq] at hz; subst hz
    refine ⟨rfl, ?_⟩
    simp only [xinv] at hs
    split at hs
    · rename_i a1 y1 k1 p1 hq
      split at hs
      · rename_i b r1 hst
        split at hs
        · rename_i hc
          simp only [Option.some.injEq, Prod.mk.injEq] at hs; obtain ⟨rfl, rfl, rfl⟩ := hs
          simp only [Bool.and_eq_true] at hc
          obtain ⟨⟨c1, c3⟩, c4⟩ := hc
          obtain ⟨q1, q2⟩ := xMt_inv hq
          have q2 : a1 = n := q2
          subst q2
          have q3 : (Nat.ble y1 251 && (parseMethodDescriptor (xme y1).1.desc).map (fun d => d.parameters.length) == some k1 && decide (xlook p1 = some (Cond.methodLink (xcn (xme y).2.2.2.2.1) a1 (xme y1).1)) && Nat.ble (xme y1).2.2.2.2.2.2.2 50 && true && ((xme y1).1.name == "<init>" && decide ((xme y1).2.2.2.1 = none))) = true := q1
          simp only [Bool.and_eq_true, beq_iff_eq, decide_eq_true_eq] at q3
          obtain ⟨⟨⟨⟨⟨d1, d2⟩, d3⟩, d4⟩, -⟩, d5, d6⟩ := q3
          have hy : y1 < 252 := Nat.lt_succ_of_le (Nat.le_of_ble_eq_true d1)
          obtain ⟨w1, w2, -, w4, w5, -, w7⟩ := xy_inv hy
          obtain ⟨v1, -, -⟩ := w7 (by have := Nat.le_of_ble_eq_true d4; omega)
          have hk : k1 = (st.take k1).length := (Nat.eq_of_beq_eq_true c4).symm
          have hsp : st = ((st.take k1).reverse).reverse ++ .ref b :: r1 := by rw [List.reverse_reverse, ← hst, List.take_append_drop]
          exact va_runI (As := (st.take k1).reverse) (rest := r1) (n := k1) ⟨hx, hb, hml, hown, hts⟩ (hM hy) (cwI k1 hts (xgin (xwy_in hy)) (by rw [xwy, d6]) rfl rfl (hts _ w2) (hts _ (xw_mem d3 rfl)) (hts _ v1) d5 ⟨w4.1, w4.2, d2⟩ (hroom c3)) ⟨xPc.blind, hpre⟩ rfl (by rw [List.length_reverse]; exact hk.symm) rfl hsp (lv_room (m := m) (pc := pc) (ls := ls) (rest := st) (xdep_ok c1)) hd hf
        · cases hs
      · cases hs
    · rename_i a1 y1 k1 p1 hq
      split at hs
      · rename_i b r1 hst
        split at hs
        · rename_i hc
          simp only [Option.some.injEq, Prod.mk.injEq] at hs; obtain ⟨rfl, rfl, rfl⟩ := hs
          simp only [Bool.and_eq_true] at hc
          obtain ⟨⟨c1, c3⟩, c4⟩ := hc
          obtain ⟨q1, q2⟩ := xMt_inv hq
          have q2 : a1 = n := q2
          subst q2
          have q3 : (Nat.ble y1 251 && (parseMethodDescriptor (xme y1).1.desc).map (fun d => d.parameters.length) == some k1 && xnl.contains (Cond.methodLinkNest (xcn (xme y).2.2.2.2.1) a1 (xme y1).1 RX11) && Nat.ble (xme y1).2.2.2.2.2.2.2 50 && true && ((xme y1).1.name == "<init>" && decide ((xme y1).2.2.2.1 = none))) = true := q1
          simp only [Bool.and_eq_true, beq_iff_eq, decide_eq_true_eq] at q3
          obtain ⟨⟨⟨⟨⟨d1, d2⟩, d3⟩, d4⟩, -⟩, d5, d6⟩ := q3
          have hy : y1 < 252 := Nat.lt_succ_of_le (Nat.le_of_ble_eq_true d1)
          obtain ⟨w1, w2, -, w4, w5, -, w7⟩ := xy_inv hy
          obtain ⟨v1, -, -⟩ := w7 (by have := Nat.le_of_ble_eq_true d4; omega)
          have hk : k1 = (st.take k1).length := (Nat.eq_of_beq_eq_true c4).symm
          have hsp : st = ((st.take k1).reverse).reverse ++ .ref b :: r1 := by rw [List.reverse_reverse, ← hst, List.take_append_drop]
          exact va_runIN (As := (st.take k1).reverse) (rest := r1) (n := k1) ⟨hx, hb, hml, hown, hts⟩ (hM hy) ⟨va_cnB (ret := none) k1 hts (xgin (xwy_in hy)) (by rw [xwy, d6]) rfl rfl (hC.2.2.1 _ (List.contains_iff_mem.mp d3)) (hts _ w2) ⟨w4.1, w4.2, d2⟩ (hroom c3), d5, hts _ v1⟩ ⟨xPc.blind, hpre⟩ rfl (by rw [List.length_reverse]; exact hk.symm) rfl hsp (lv_room (m := m) (pc := pc) (ls := ls) (rest := st) (xdep_ok c1)) hd hf
        · cases hs
      · cases hs
    · cases hs
  | _ => simp only [xinv] at hs; cases hs
end XS6
