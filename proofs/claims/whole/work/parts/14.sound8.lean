/-! SOUND, 8: the run as a whole -/
theorem xins_inv {g : xG} {y : Nat} {i : Instr} {len pc : Nat} {L : List Slot} {st : List Value} {h0 : xH} {o : (Nat × List Slot × List Value × xH) ⊕ ((Nat × List Value × Nat × List Slot × List Value × xH) ⊕ xR)} (h : xins g y i len pc L st h0 = some o) :
    (∃ st', xpure i st = some st' ∧ o = .inl (pc + len, L, st', h0)) ∨ (∃ L' st', xlocs i L st = some (L', st') ∧ o = .inl (pc + len, L', st', h0)) ∨ (∃ pc' st', xbr pc i st = some (pc', st') ∧ o = .inl (pc', L, st', h0)) ∨
    (∃ st' h', xheap g (xme y).2.2.2.2.1 ((xme y).1.name == "<init>") i st h0 = some (st', h') ∧ o = .inl (pc + len, L, st', h')) ∨ (∃ st', xnat g (xme y).2.2.2.2.1 (xme y).2.2.2.2.2.1 (xme y).2.2.2.2.2.2.1 i st = some st' ∧ o = .inl (pc + len, L, st', h0)) ∨
    (∃ y' as r, xinv y i st h0 = some (y', as, r) ∧ (as.map fun v => v.category).sum ≤ (xme y').2.2.1 ∧ o = .inr (.inl (y', as, pc + len, L, r, h0))) ∨ (∃ v, xret (xme y).2.2.2.1 i st = some v ∧ o = .inr (.inr (v, h0))) := by
  unfold xins at h
  split at h
  · rename_i st' hq
    cases h
    exact Or.inl ⟨_, hq, rfl⟩
  · split at h
    · rename_i L' st' hq
      cases h
      exact Or.inr (Or.inl ⟨_, _, hq, rfl⟩)
    · split at h
      · rename_i pc' st' hq
        cases h
        exact Or.inr (Or.inr (Or.inl ⟨_, _, hq, rfl⟩))
      · split at h
        · rename_i st' h' hq
          cases h
          exact Or.inr (Or.inr (Or.inr (Or.inl ⟨_, _, hq, rfl⟩)))
        · split at h
          · rename_i st' hq
            cases h
            exact Or.inr (Or.inr (Or.inr (Or.inr (Or.inl ⟨_, hq, rfl⟩))))
          · split at h
            · rename_i y' as r hq
              split at h
              · rename_i hc
                cases h
                exact Or.inr (Or.inr (Or.inr (Or.inr (Or.inr (Or.inl ⟨_, _, _, hq, Nat.le_of_ble_eq_true hc, rfl⟩)))))
              · cases h
            · split at h
              · rename_i v hq
                cases h
                exact Or.inr (Or.inr (Or.inr (Or.inr (Or.inr (Or.inr ⟨_, hq, rfl⟩)))))
              · cases h
set_option maxHeartbeats 1000000 in
theorem xheap_ge {g : xG} {cn : Nat} {isI : Bool} {i : Instr} {st st' : List Value} {h h' : xH} (hs : xheap g cn isI i st h = some (st', h')) : h.2.1 ≤ h'.2.1 ∧ h.2.2.1 ≤ h'.2.2.1 := by
  have mp : ∀ {α : Type} {o : Option α} {f : α → List Value}, (o.map fun v => (f v, h)) = some (st', h') → h.2.1 ≤ h'.2.1 ∧ h.2.2.1 ≤ h'.2.2.1 := by
    intro α o f e
    obtain ⟨v, -, h2⟩ := Option.map_eq_some_iff.mp e
    simp only [Prod.mk.injEq] at h2
    rw [← h2.2]
    exact ⟨Nat.le_refl _, Nat.le_refl _⟩
  have ms : ∀ {a t : Nat} {j : Int32} {v : Value} {r : List Value}, ((xast h a t j v).map fun h1 => (r, h1)) = some (st', h') → h.2.1 ≤ h'.2.1 ∧ h.2.2.1 ≤ h'.2.2.1 := by
    intro a t j v r e
    obtain ⟨h1, hv, h2⟩ := Option.map_eq_some_iff.mp e
    obtain ⟨n, f, -, -, rfl⟩ := xast_inv hv
    simp only [Prod.mk.injEq] at h2
    rw [← h2.2]
    exact ⟨Nat.le_refl _, Nat.le_refl _⟩
  cases i with
  | getfield n => simp only [xheap] at hs; split at hs <;> first | exact mp hs | cases hs
  | putfield n =>
    simp only [xheap] at hs
    split at hs
    · split at hs
      · simp only [Option.some.injEq, Prod.mk.injEq] at hs
        rw [← hs.2]
        exact ⟨Nat.le_refl _, Nat.le_refl _⟩
      · cases hs
    · cases hs
  | getstatic n =>
    simp only [xheap] at hs
    split at hs
    · simp only [Option.some.injEq, Prod.mk.injEq] at hs
      rw [← hs.2]
      exact ⟨Nat.le_refl _, Nat.le_refl _⟩
    · cases hs
  | iaload => simp only [xheap] at hs; split at hs <;> first | exact mp hs | cases hs
  | laload => simp only [xheap] at hs; split at hs <;> first | exact mp hs | cases hs
  | baload => simp only [xheap] at hs; split at hs <;> first | (split at hs <;> exact mp hs) | cases hs
  | aaload => simp only [xheap] at hs; split at hs <;> first | (split at hs <;> first | exact mp hs | cases hs) | cases hs
  | iastore => simp only [xheap] at hs; split at hs <;> first | exact ms hs | cases hs
  | lastore => simp only [xheap] at hs; split at hs <;> first | exact ms hs | cases hs
  | bastore => simp only [xheap] at hs; split at hs <;> first | (split at hs <;> exact ms hs) | cases hs
  | aastore =>
    simp only [xheap] at hs
    split at hs
    · split at hs
      · exact ms hs
      · cases hs
    · split at hs
      · exact ms hs
      · cases hs
    · cases hs
  | arraylength => simp only [xheap] at hs; split at hs <;> first | exact mp hs | cases hs
  | new n =>
    simp only [xheap] at hs
    obtain ⟨q, hq, h2⟩ := Option.map_eq_some_iff.mp hs
    simp only [Prod.mk.injEq] at h2
    rw [← h2.2]
    exact ⟨Nat.le_succ _, Nat.le_add_right _ _⟩
  | newarray t =>
    simp only [xheap] at hs
    split at hs
    · split at hs
      · cases hs
      · simp only [Option.some.injEq, Prod.mk.injEq] at hs
        rw [← hs.2]
        exact ⟨Nat.le_succ _, Nat.le_add_right _ _⟩
    · cases hs
  | anewarray n =>
    simp only [xheap] at hs
    split at hs
    · split at hs
      · cases hs
      · simp only [Option.some.injEq, Prod.mk.injEq] at hs
        rw [← hs.2]
        exact ⟨Nat.le_succ _, Nat.le_add_right _ _⟩
    · cases hs
  | ldc n =>
    simp only [xheap] at hs
    split at hs
    · simp only [Option.some.injEq, Prod.mk.injEq] at hs
      rw [← hs.2]
      exact ⟨Nat.le_refl _, Nat.le_refl _⟩
    · exact mp hs
  | ldc_w n => simp only [xheap] at hs; exact mp hs
  | ldc2_w n =>
    simp only [xheap] at hs
    split at hs
    · simp only [Option.some.injEq, Prod.mk.injEq] at hs
      rw [← hs.2]
      exact ⟨Nat.le_refl _, Nat.le_refl _⟩
    · exact mp hs
  | _ => simp only [xheap] at hs; cases hs
theorem xstep_inv {g : xG} {y pc : Nat} {L : List Slot} {st : List Value} {h : xH} {o : (Nat × List Slot × List Value × xH) ⊕ ((Nat × List Value × Nat × List Slot × List Value × xH) ⊕ xR)} (e : xstep g y pc L st h = some o) : ∃ i len, decode (xme y).2.1 pc = .ok (i, len) ∧ xsz i len = true ∧ xins g y i len pc L st h = some o := by
  unfold xstep at e
  split at e
  · rename_i i len hd
    split at e
    · rename_i hz
      exact ⟨i, len, hd, hz, e⟩
    · cases e
  · cases e
theorem xr_ge (g : xG) : ∀ (f y pc : Nat) (L : List Slot) (st : List Value) (h : xH) (r : xR), xr g f y pc L st h = some r → h.2.1 ≤ r.2.2.1 ∧ h.2.2.1 ≤ r.2.2.2.1 := by
  intro f
  induction f with
  | zero => intro y pc L st h r e; cases e
  | succ f ih =>
    intro y pc L st h r e
    rw [xr] at e
    cases hs : xstep g y pc L st h with
    | none => rw [hs] at e; cases e
    | some o =>
      rw [hs] at e
      obtain ⟨i, len, -, -, hi⟩ := xstep_inv hs
      rcases xins_inv hi with ⟨st', -, rfl⟩ | ⟨L', st', -, rfl⟩ | ⟨pc', st', -, rfl⟩ | ⟨st', h', hh, rfl⟩ | ⟨st', -, rfl⟩ | ⟨y', as, r', -, -, rfl⟩ | ⟨v, -, rfl⟩
      · exact ih _ _ _ _ _ _ e
      · exact ih _ _ _ _ _ _ e
      · exact ih _ _ _ _ _ _ e
      · have h1 := xheap_ge hh
        have h2 := ih _ _ _ _ _ _ e
        exact ⟨Nat.le_trans h1.1 h2.1, Nat.le_trans h1.2 h2.2⟩
      · exact ih _ _ _ _ _ _ e
      · dsimp only at e
        cases h1 : xr g f y' 0 (xl0 y' as) [] h with
        | none => rw [h1] at e; cases e
        | some z =>
          rw [h1] at e
          have h2 := ih _ _ _ _ _ _ h1
          have h3 := ih _ _ _ _ _ _ e
          exact ⟨Nat.le_trans h2.1 h3.1, Nat.le_trans h2.2 h3.2⟩
      · cases e
        exact ⟨Nat.le_refl _, Nat.le_refl _⟩
theorem xsl_len (as : List Value) : (lg_sl as).length = (as.map fun v => v.category).sum := by
  induction as with
  | nil => rfl
  | cons v t ih =>
    show ((if v.category = 2 then [Slot.val v, Slot.second] else [Slot.val v]) ++ lg_sl t).length = v.category + (t.map fun v => v.category).sum
    rw [List.length_append, ih]
    rcases lv_cat v with q | q
    · rw [if_neg (by omega), q]; rfl
    · rw [if_pos q, q]; rfl
section XS8
variable {p : Program} {l : Launch} {e : Env} {R : Room} {s : State} {m : MethodId} {args : Array Value} {below : List Frame} {meth : Method} {c : Code} {H : Heap} {locs : List Loc} {cells slots : Nat}
variable {cc : ByteArray} {pc len mc ms : Nat} {ls : Array Slot} {st : List Value} {D : va_G} {ar : Nat → ClassId} {N0 : Nat}
theorem xret_ok {i : Instr} {r : xR} {rt : Option FieldType} (hx : p.tables.exec = Jvm.exec) (hb : c.code = cc) (hrt : meth.sig.returnType = rt) (hlk : meth.locks = false) (hR : xHR D ar N0 r.2 H) (hS : va_S (xA N0) s.heap H locs) (hd : decode cc pc = .ok (i, len)) (hz : xsz i len = true) (hs : xret rt i st = some r.1) (h1 : cells ≤ mc) (h2 : slots ≤ ms) :
    W p l e R s m args below meth c H locs cells slots (MQ below (xQc D ar N0 r) args s mc ms (xA N0)) (F0 m pc ls st) := by
  refine W.widen h1 h2 ?_
  obtain ⟨rv, rh⟩ := r
  cases i with
  | ireturn =>
    simp only [xsz, beq_iff_eq] at hz; subst hz
    simp only [xret] at hs
    split at hs
    · split at hs
      · cases hs
        exact W.iret hx hb hrt (fun t ht hW => ⟨rfl, by rw [ht]; exact hR, hS.F ht⟩) hS.2.2 hd hlk
      · split at hs
        · rename_i hc
          cases hs
          refine W.zret hx hb hrt ?_ (fun t ht hW => ⟨rfl, by rw [ht]; exact hR, hS.F ht⟩) hS.2.2 hd hlk
          simp only [Bool.or_eq_true, beq_iff_eq] at hc
          rcases hc with rfl | rfl <;> rfl
        · cases hs
      · cases hs
    · cases hs
  | lreturn =>
    simp only [xsz, beq_iff_eq] at hz; subst hz
    simp only [xret] at hs
    split at hs
    · cases hs
      exact W.lret hx hb hrt (fun t ht hW => ⟨rfl, by rw [ht]; exact hR, hS.F ht⟩) hS.2.2 hd hlk
    · cases hs
  | dreturn =>
    simp only [xsz, beq_iff_eq] at hz; subst hz
    simp only [xret] at hs
    split at hs
    · cases hs
      exact W.dret hx hb hrt (fun t ht hW => ⟨rfl, by rw [ht]; exact hR, hS.F ht⟩) hS.2.2 hd hlk
    · cases hs
  | areturn =>
    simp only [xsz, beq_iff_eq] at hz; subst hz
    simp only [xret] at hs
    split at hs
    · cases hs
      exact W.aret hx hb hrt (Or.inl ⟨_, rfl⟩) (Or.inr ⟨_, rfl⟩) (fun t ht hW => ⟨rfl, by rw [ht]; exact hR, hS.F ht⟩) hS.2.2 hd hlk
    · cases hs
      exact W.aret hx hb hrt (Or.inl ⟨_, rfl⟩) (Or.inl rfl) (fun t ht hW => ⟨rfl, by rw [ht]; exact hR, hS.F ht⟩) hS.2.2 hd hlk
    · cases hs
  | return_ =>
    simp only [xsz, beq_iff_eq] at hz; subst hz
    simp only [xret] at hs
    split at hs
    · cases hs
      exact W.vret hx hb hrt (fun t ht hW => ⟨rfl, by rw [ht]; exact hR, hS.F ht⟩) hS.2.2 hd hlk
    · cases hs
  | _ => simp only [xret] at hs; cases hs
end XS8
/-- what a run of the executor with f steps gives: the machine goes there -/
def xGoal (l : Launch) (D : va_G) (ar : Nat → ClassId) (N0 : Nat) (g : xG) (f : Nat) : Prop := ∀ (y pc : Nat) (L : List Slot) (st : List Value) (h : xH) (r : xR), xr g f y pc L st h = some r →
  ∀ {p : Program} {e : Env} {R : Room} {s : State} {m : MethodId} {args : Array Value} {below : List Frame} {meth : Method} {c : Code} {H : Heap} {locs : List Loc} {cells slots : Nat} {Q : State → Prop} {ls : Array Slot},
  p.tables.exec = Jvm.exec → c.code = (xme y).2.1 → c.maxLocals = (xme y).2.2.1 → meth.name = (xme y).1.name → s.vm.findClass (xcn (xme y).2.2.2.2.1) = some m.cls → (∀ w ∈ xws, w.before args s = true) → xCx D ar N0 g s → (xme y).2.2.2.2.2.1 ≤ R.frames → (xme y).2.2.2.2.2.2.1 ≤ R.locals →
  xL ls L (xme y).2.2.1 → xHR D ar N0 h H → va_S (xA N0) s.heap H locs → cells + r.2.2.1 ≤ R.cells + h.2.1 → slots + r.2.2.2.1 ≤ R.slots + h.2.2.1 →
  (∀ (pc : Nat) (ls : Array Slot) (st : List Value) (H : Heap) (locs : List Loc) (cells slots : Nat) (i : Instr) (len : Nat), decode (xme y).2.1 pc = .ok (i, len) → xsz i len = true → xret (xme y).2.2.2.1 i st = some r.1 → xHR D ar N0 r.2 H → va_S (xA N0) s.heap H locs → cells ≤ R.cells → slots ≤ R.slots → W p l e R s m args below meth c H locs cells slots Q (F0 m pc ls st)) →
  W p l e R s m args below meth c H locs cells slots Q (F0 m pc ls st)
theorem xmet_of {l : Launch} {D : va_G} {ar : Nat → ClassId} {N0 : Nat} {g : xG} {f : Nat} (ih : xGoal l D ar N0 g f) {y : Nat} (hy : y < 252) {as : List Value} {h : xH} {r : xR} (hr : xr g f y 0 (xl0 y as) [] h = some r) (has : (as.map fun v => v.category).sum ≤ (xme y).2.2.1) {mc ms : Nat} (hmc : r.2.2.1 = h.2.1 + mc) (hms : r.2.2.2.1 = h.2.2.1 + ms) :
    Met l (xme y).1 (xwy y) (xrmy y mc ms) (xPc D ar N0 g as h) (xQc D ar N0 r) mc ms (xA N0) := by
  obtain ⟨w1, w2, w3, w4, w5, -⟩ := xy_inv hy
  refine va_MetF (cc := (xme y).2.1) (maxL := (xme y).2.2.1) (ret := (xme y).2.2.2.1) w3 rfl ?_
  intro p e s m args below meth c s₁ B hml hv
  obtain ⟨rfl, hC, hR⟩ := hv
  have hts : ∀ w ∈ xwy y, w.before as.toArray s = true := atoms_spec (ws := xwy y) B.pre
  have hts2 : ∀ w ∈ xws, w.before as.toArray s = true := fun w hw => hts w (List.mem_cons_of_mem _ hw)
  have hown : s.vm.findClass (xme y).1.cls = some m.cls := findClass_of_methodNamed B.named
  rw [w5] at hown
  have hlen : (lg_sl as).length ≤ (xme y).2.2.1 := by rw [xsl_len]; exact has
  have hle := lv_entry as (n := (xme y).2.2.1) hlen
  rw [lg_entry_eq]
  have hL : xL ((lg_sl as ++ List.replicate ((xme y).2.2.1 - (lg_sl as).length) Slot.unset).toArray) (xl0 y as) (xme y).2.2.1 := by
    refine ⟨hle.1, ?_, hle.2.1, fun i v hi => ?_⟩
    · have := hle.1
      simpa [xl0] using this
    · rw [List.getElem?_toArray]
      exact hi
  refine ih y 0 (xl0 y as) [] h r hr (R := (headSpec (xwy y) (xrmy y mc ms)).room) (meth := meth) B.exec B.bytes hml (name_of_methodNamed B.named B.method).1 hown hts2 hC (Nat.le_refl _) (Nat.le_refl _) hL hR va_S.rf ?_ ?_ ?_
  · show 0 + r.2.2.1 ≤ mc + h.2.1
    omega
  · show 0 + r.2.2.2.1 ≤ ms + h.2.2.1
    omega
  · intro pc ls st H locs cells slots i len hd hz hs hR hS h1 h2
    exact xret_ok B.exec B.bytes B.returns B.notSynchronized hR hS hd hz hs h1 h2
set_option maxHeartbeats 1000000 in
theorem xsound {l : Launch} {D : va_G} {ar : Nat → ClassId} {N0 : Nat} {g : xG} (hstr : xStrM l D ar N0 g) : ∀ f, xGoal l D ar N0 g f := by
  intro f
  induction f with
  | zero => intro y pc L st h r e; cases e
  | succ f ih =>
    intro y pc L st h r er p e R s m args below meth c H locs cells slots Q ls hx hb hml hnm hown hts hC hfr hlo hL hR hS hc hsl hend
    have hge := xr_ge g _ _ _ _ _ _ _ er
    rw [xr] at er
    cases hs : xstep g y pc L st h with
    | none => rw [hs] at er; cases er
    | some o =>
      rw [hs] at er
      obtain ⟨i, len, hd, hz, hi⟩ := xstep_inv hs
      have hml2 : c.maxLocals = ls.size := by rw [hml, hL.1]
      rcases xins_inv hi with ⟨st', h1, rfl⟩ | ⟨L', st', h1, rfl⟩ | ⟨pc', st', h1, rfl⟩ | ⟨st', h', h1, rfl⟩ | ⟨st', h1, rfl⟩ | ⟨y', as, r', h1, has, rfl⟩ | ⟨v, h1, rfl⟩
      · exact xpure_ok hx hb hd hz h1 (ih _ _ _ _ _ _ er hx hb hml hnm hown hts hC hfr hlo hL hR hS hc hsl hend)
      · exact xlocs_ok hx hb hd hz hL h1 (fun ls1 hL1 => ih _ _ _ _ _ _ er hx hb hml hnm hown hts hC hfr hlo hL1 hR hS hc hsl hend)
      · exact xbr_ok hx hb hd hz h1 (ih _ _ _ _ _ _ er hx hb hml hnm hown hts hC hfr hlo hL hR hS hc hsl hend)
      · have hg1 := xr_ge g _ _ _ _ _ _ _ er
        refine xheap_ok hx hb hts hown (fun q => by rw [hnm]; simpa using q) hC hR hS hd hz h1 (by omega) (by omega) (fun H1 locs1 cells1 slots1 hR1 hS1 e1 e2 => ih _ _ _ _ _ _ er hx hb hml hnm hown hts hC hfr hlo hL hR1 hS1 (by omega) (by omega) hend)
      · exact xnat_ok hx hb hml2 hts hown hC hR hS hstr hfr hlo (by omega) (by omega) hd hz h1 (fun H1 locs1 hR1 hS1 => ih _ _ _ _ _ _ er hx hb hml hnm hown hts hC hfr hlo hL hR1 hS1 hc hsl hend)
      · dsimp only at er
        cases h2 : xr g f y' 0 (xl0 y' as) [] h with
        | none => rw [h2] at er; cases er
        | some z =>
          rw [h2] at er
          have g1 := xr_ge g _ _ _ _ _ _ _ h2
          have g2 := xr_ge g _ _ _ _ _ _ _ er
          have g2 : z.2.2.1 ≤ r.2.2.1 ∧ z.2.2.2.1 ≤ r.2.2.2.1 := g2
          obtain ⟨hl3, hrun⟩ := xinv_ok (mc := z.2.2.1 - h.2.1) (ms := z.2.2.2.1 - h.2.2.1) (res := z) (cells := cells) (slots := slots) (locs := locs) (below := below) (meth := meth) (e := e) (l := l) hx hb hml2 hts hown hC hR hS hfr hlo hd hz h1 (fun hy => xmet_of ih hy h2 has (by omega) (by omega)) ⟨by omega, by omega⟩
          subst hl3
          exact xgo hrun hS (fun H1 locs1 hR1 hS1 => ih _ _ _ _ _ _ er hx hb hml hnm hown hts hC hfr hlo hL hR1 hS1 (by omega) (by omega) hend)
      · cases er
        exact hend pc ls st H locs cells slots i len hd hz h1 hR hS (by omega) (by omega)
