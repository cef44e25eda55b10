/-! SOUND, 5: the heap's instructions together -/
section XS5
variable {p : Program} {l : Launch} {e : Env} {R : Room} {s : State} {m : MethodId} {args : Array Value} {below : List Frame} {meth : Method} {c : Code} {H : Heap} {locs : List Loc} {cells slots : Nat} {Q : State → Prop}
variable {cc : ByteArray} {pc len : Nat} {ls : Array Slot} {st st' : List Value} {D : va_G} {ar : Nat → ClassId} {N0 : Nat} {g : xG} {h h' : xH} {cn : Nat}
theorem xnew_ok (hx : p.tables.exec = Jvm.exec) (hb : c.code = cc) (hts : ∀ w ∈ xws, w.before args s = true) (hown : s.vm.findClass (xcn cn) = some m.cls) (hC : xCx D ar N0 g s) (hR : xHR D ar N0 h H) (hS : va_S (xA N0) s.heap H locs) {n : Nat} {q : Nat × Nat × Nat} (hq : xC cn n = some q) (hc : cells + 1 ≤ R.cells) (hs : slots + (xdef q.2.1).length ≤ R.slots) (hd : decode cc pc = .ok (.new n, 3))
    (k : ∀ (H1 : Heap), xHR D ar N0 (xnew h (.inr (q.2.1, xdef q.2.1)) (xdef q.2.1).length) H1 → va_S (xA N0) s.heap H1 locs → W p l e R s m args below meth c H1 locs (cells + 1) (slots + (xdef q.2.1).length) Q (F0 m (pc + 3) ls (va_rf (some h.1) :: st))) : W p l e R s m args below meth c H locs cells slots Q (F0 m pc ls st) := by
  obtain ⟨r, hr, hw⟩ := xC_inv hq
  obtain ⟨hin, w1, w2, hlen⟩ := xcl_ok hr
  obtain ⟨ty0, hty0, -, hdf⟩ := xcl_ty hr
  obtain ⟨C, T, N⟩ := r
  have hKn := hC.1.1 q.2.1 _ hr
  have hlen : (xdef q.2.1).length = N := hlen
  rw [hlen] at hs k
  refine W.newcK hx hb hown (hts _ hw) (hts _ w1) (hts _ w2) rfl hd hc hs hKn.2.1 rfl fun H1 kC hkC e1 z1 o1 => ?_
  have hsz : H.size = h.1 := hR.1
  have hS1 : va_S (xA N0) s.heap H1 locs := ⟨Nat.le_trans hS.1 (by omega), fun x h1 h2 => (o1 x (Nat.lt_of_lt_of_le h1 hS.1)).trans (hS.2.1 x h1 h2), hS.2.2⟩
  have hR1 : xHR D ar N0 (xnew h (.inr (q.2.1, xdef q.2.1)) N) H1 := by
    refine hR.new ?_ z1 o1
    show va_at D vwCl (H.size, .inr (q.2.1, xdef q.2.1)) H1
    exact ⟨_, hr, (u_born ty0 hts hin hKn hkC e1 hty0).to hdf⟩
  have := k H1 hR1 hS1
  rw [← hsz] at this
  exact this
theorem xnewa_ok (hx : p.tables.exec = Jvm.exec) (hb : c.code = cc) (hts : ∀ w ∈ xws, w.before args s = true) (hC : xCx D ar N0 g s) (hR : xHR D ar N0 h H) (hS : va_S (xA N0) s.heap H locs) {t : ClassFile.ArrayType} {n : Int32} (hn : ¬ n < 0) (hb2 : ¬ 65536 < n.toNatClampNeg) (ht : ¬ 3 < xatc t) (hc : cells + 1 ≤ R.cells) (hs : slots + n.toNatClampNeg ≤ R.slots) (hd : decode cc pc = .ok (.newarray t, 2))
    (k : ∀ (H1 : Heap), xHR D ar N0 (xnew h (.inl (xatc t, n.toNatClampNeg, fun _ => xdv (xatc t))) n.toNatClampNeg) H1 → va_S (xA N0) s.heap H1 locs → W p l e R s m args below meth c H1 locs (cells + 1) (slots + n.toNatClampNeg) Q (F0 m (pc + 2) ls (va_rf (some h.1) :: st))) : W p l e R s m args below meth c H locs cells slots Q (F0 m pc ls (.int n :: st)) := by
  have hty : newarray.typeOf t = xty (xatc t) := by cases t <;> first | rfl | exact absurd (by decide : 3 < xatc _) ht
  have hdv : defaultValue (newarray.typeOf t) = xdv (xatc t) := by cases t <;> first | rfl | exact absurd (by decide : 3 < xatc _) ht
  have hw : Cond.arrayClass (newarray.typeOf t) ∈ xws := by
    cases t <;> first | exact absurd (by decide : 3 < xatc _) ht | skip
    · exact xw_mem (i := 2021) (by decide +kernel) rfl
    · exact xw_mem (i := 1104) (by decide +kernel) rfl
    · exact xw_mem (i := 1076) (by decide +kernel) rfl
    · exact xw_mem (i := 1075) (by decide +kernel) rfl
  have hbytes : n.toNatClampNeg * componentBytes (newarray.typeOf t) ≤ 536870912 := by
    have : componentBytes (newarray.typeOf t) ≤ 8 := by cases t <;> decide
    calc n.toNatClampNeg * componentBytes (newarray.typeOf t) ≤ 65536 * 8 := Nat.mul_le_mul (by omega) this
      _ ≤ 536870912 := by decide
  refine va_newaK hx hb (hts _ hw) rfl hd rfl hn rfl hbytes hc hs rfl fun H1 cA e1 z1 o1 hAr hNm => ?_
  have hu : xtu (xatc t) = true := by cases t <;> first | rfl | exact absurd (by decide : 3 < xatc _) ht
  have hcA : cA = ar (xatc t) := by
    have h1 := (hC.2.1 (xatc t) hu).2
    rw [← hty] at h1
    have h2 : s.vm.findClass ("[" ++ (newarray.typeOf t).toString) = some (ar (xatc t)) := by
      cases t <;> exact h1
    exact Option.some.inj (hNm.symm.trans h2)
  subst hcA
  have hsz : H.size = h.1 := hR.1
  have hS1 : va_S (xA N0) s.heap H1 locs := ⟨Nat.le_trans hS.1 (by omega), fun x h1 h2 => (o1 x (Nat.lt_of_lt_of_le h1 hS.1)).trans (hS.2.1 x h1 h2), hS.2.2⟩
  have hR1 : xHR D ar N0 (xnew h (.inl (xatc t, n.toNatClampNeg, fun _ => xdv (xatc t))) n.toNatClampNeg) H1 := by
    refine hR.new ?_ z1 o1
    show xtu (xatc t) = true ∧ H1[H.size]? = some (arrV (ar (xatc t)) n.toNatClampNeg (fun _ => xdv (xatc t)))
    rw [← hdv]
    exact ⟨hu, e1⟩
  have := k H1 hR1 hS1
  rw [← hsz] at this
  exact this
theorem xnewq_ok (hx : p.tables.exec = Jvm.exec) (hb : c.code = cc) (hts : ∀ w ∈ xws, w.before args s = true) (hown : s.vm.findClass (xcn cn) = some m.cls) (hC : xCx D ar N0 g s) (hR : xHR D ar N0 h H) (hS : va_S (xA N0) s.heap H locs) {i : Nat} {q : Nat × Nat × Nat} (hq : xC cn i = some q) {n : Int32} (hn : ¬ n < 0) (hb2 : ¬ 65536 < n.toNatClampNeg) (ht : xtr (10 + q.2.1) = true) (hc : cells + 1 ≤ R.cells) (hs : slots + n.toNatClampNeg ≤ R.slots) (hd : decode cc pc = .ok (.anewarray i, 3))
    (k : ∀ (H1 : Heap), xHR D ar N0 (xnew h (.inl (10 + q.2.1, n.toNatClampNeg, fun _ => va_rf none)) n.toNatClampNeg) H1 → va_S (xA N0) s.heap H1 locs → W p l e R s m args below meth c H1 locs (cells + 1) (slots + n.toNatClampNeg) Q (F0 m (pc + 3) ls (va_rf (some h.1) :: st))) : W p l e R s m args below meth c H locs cells slots Q (F0 m pc ls (.int n :: st)) := by
  obtain ⟨r, hr, hw⟩ := xC_inv hq
  obtain ⟨r2, hr2, hty, hgd, hu⟩ := xtr_inv ht
  have e2 : 10 + q.2.1 - 10 = q.2.1 := by omega
  rw [e2] at hr2
  have hrr : r2 = r := Option.some.inj (hr2.symm.trans hr)
  subst hrr
  have hov := hC.2.2.2.1 _ ht
  rw [hgd] at hov
  refine W.anew hx hb hown (hts _ hw) (va_AO.use hov) rfl hd rfl hn (by omega) hc hs fun cA kA comp f1 f2 f3 f4 => ?_
  generalize hH1 : H.push ({ cls := cA, slots := Array.replicate n.toNatClampNeg .null, vm := .none } : Cell) = H1
  have z1 : H1.size = H.size + 1 := by rw [← hH1, Array.size_push]
  have e1 : H1[H.size]? = some (arrV cA n.toNatClampNeg (fun _ => .null)) := by rw [← hH1, Array.getElem?_push_size, ← arrV_new]
  have o1 : ∀ q : Nat, q < H.size → H1[q]? = H[q]? := fun q hq => by rw [← hH1, Array.getElem?_push, if_neg (Nat.ne_of_lt hq)]
  have hcA : cA = ar (10 + q.2.1) := by
    have h1 := (hC.2.1 (10 + q.2.1) hu).2
    rw [hty] at h1
    obtain ⟨_, _, -, -, -, h4⟩ := h1
    exact Option.some.inj (f1.symm.trans h4)
  subst hcA
  have hsz : H.size = h.1 := hR.1
  have hS1 : va_S (xA N0) s.heap H1 locs := ⟨Nat.le_trans hS.1 (by omega), fun x h1 h2 => (o1 x (Nat.lt_of_lt_of_le h1 hS.1)).trans (hS.2.1 x h1 h2), hS.2.2⟩
  have hR1 : xHR D ar N0 (xnew h (.inl (10 + q.2.1, n.toNatClampNeg, fun _ => va_rf none)) n.toNatClampNeg) H1 := by
    refine hR.new ?_ z1 o1
    show xtu (10 + q.2.1) = true ∧ H1[H.size]? = some (arrV (ar (10 + q.2.1)) n.toNatClampNeg (fun _ => va_rf none))
    exact ⟨hu, e1⟩
  have := k H1 hR1 hS1
  rw [← hsz] at this
  exact this
theorem xaast_ok (hx : p.tables.exec = Jvm.exec) (hb : c.code = cc) (hC : xCx D ar N0 g s) (hR : xHR D ar N0 h H) (hS : va_S (xA N0) s.heap H locs) {a b : Nat} {j : Int32} (ht : xtr (xtag h a) = true) (hcl : xcl h b = some (xtag h a - 10)) (hv : xast h a (xtag h a) j (.ref b) = some h') (hd : decode cc pc = .ok (.aastore, 1))
    (k : ∀ (H1 : Heap) (locs1 : List Loc), xHR D ar N0 h' H1 → va_S (xA N0) s.heap H1 locs1 → W p l e R s m args below meth c H1 locs1 cells slots Q (F0 m (pc + 1) ls st)) : W p l e R s m args below meth c H locs cells slots Q (F0 m pc ls (.ref b :: .int j :: .ref a :: st)) := by
  obtain ⟨n, f, hq, hi, rfl⟩ := xast_inv hv
  obtain ⟨r, hr, hty, -, -⟩ := xtr_inv ht
  obtain ⟨ha, h2, h3, hu⟩ := xarr_at hC.2.1 hR hq
  obtain ⟨fs, hb1⟩ := xcl_inv hcl
  obtain ⟨-, hbt⟩ := hR.2.2 b _ hb1
  have hbt : va_at D vwCl (b, .inr (xtag h a - 10, fs)) H := hbt
  obtain ⟨r', hr', cellV, g1, g2, g3, -⟩ := hbt
  have hcls := (hC.1.1 _ _ hr).2
  have hra := (hC.2.1 _ hu).2
  rw [hty] at hra
  obtain ⟨kA, comp, k1, k2, k3, -⟩ := hra
  have hcomp : comp = D.1 (xtag h a - 10) := Option.some.inj (k3.symm.trans hcls.1)
  subst hcomp
  obtain ⟨kC, hkC, -⟩ := hcls.2
  refine W.aast hx hb h2 (fun q h => by cases h) (fun h => by cases h) k1 k2 rfl hkC ⟨fun z => hi (Or.inl z), by rw [arrV_size]; exact Nat.not_le.mp fun z => hi (Or.inr z)⟩ g1 (fun q h => by rw [g3] at h; cases h) (by rw [g2]; exact hkC) (by rw [g2]; exact va_assign hcls) rfl rfl hd fun H1 e1 z oq => ?_
  obtain ⟨a1, a2⟩ := xstored hR hS hq e1 z oq
  exact k H1 _ a1 a2
theorem xaastN_ok (hx : p.tables.exec = Jvm.exec) (hb : c.code = cc) (hC : xCx D ar N0 g s) (hR : xHR D ar N0 h H) (hS : va_S (xA N0) s.heap H locs) {a : Nat} {j : Int32} (ht : xtr (xtag h a) = true) (hv : xast h a (xtag h a) j .null = some h') (hd : decode cc pc = .ok (.aastore, 1))
    (k : ∀ (H1 : Heap) (locs1 : List Loc), xHR D ar N0 h' H1 → va_S (xA N0) s.heap H1 locs1 → W p l e R s m args below meth c H1 locs1 cells slots Q (F0 m (pc + 1) ls st)) : W p l e R s m args below meth c H locs cells slots Q (F0 m pc ls (.null :: .int j :: .ref a :: st)) := by
  obtain ⟨n, f, hq, hi, rfl⟩ := xast_inv hv
  obtain ⟨r, hr, hty, -, -⟩ := xtr_inv ht
  obtain ⟨ha, h2, h3, hu⟩ := xarr_at hC.2.1 hR hq
  rw [hty] at h3
  refine va_WaastN (C := r.1) hx hb h2 h3 (fun h => by cases h) (xarr_in hi) rfl rfl hd fun H1 e1 z oq => ?_
  obtain ⟨a1, a2⟩ := xstored hR hS hq e1 z oq
  exact k H1 _ a1 a2
set_option maxHeartbeats 4000000 in
theorem xheap_ok {i : Instr} {isI : Bool} (hx : p.tables.exec = Jvm.exec) (hb : c.code = cc) (hts : ∀ w ∈ xws, w.before args s = true) (hown : s.vm.findClass (xcn cn) = some m.cls) (hnm : isI = true → meth.name = "<init>") (hC : xCx D ar N0 g s) (hR : xHR D ar N0 h H) (hS : va_S (xA N0) s.heap H locs) (hd : decode cc pc = .ok (i, len)) (hz : xsz i len = true) (hs : xheap g cn isI i st h = some (st', h')) (hrc : cells + h'.2.1 ≤ R.cells + h.2.1) (hrs : slots + h'.2.2.1 ≤ R.slots + h.2.2.1)
    (k : ∀ (H1 : Heap) (locs1 : List Loc) (cells1 slots1 : Nat), xHR D ar N0 h' H1 → va_S (xA N0) s.heap H1 locs1 → cells1 + h.2.1 = cells + h'.2.1 → slots1 + h.2.2.1 = slots + h'.2.2.1 → W p l e R s m args below meth c H1 locs1 cells1 slots1 Q (F0 m (pc + len) ls st')) : W p l e R s m args below meth c H locs cells slots Q (F0 m pc ls st) := by
  cases i with
  | getfield n =>
    simp only [xsz, beq_iff_eq] at hz; subst hz
    simp only [xheap] at hs
    split at hs
    · rename_i q a r hq
      obtain ⟨v, hv, h2⟩ := Option.map_eq_some_iff.mp hs
      simp only [Prod.mk.injEq] at h2; obtain ⟨rfl, rfl⟩ := h2
      exact xget_ok hx hb hts hown hC.1 hR hq hv hd (k _ _ _ _ hR hS rfl rfl)
    · cases hs
  | putfield n =>
    simp only [xsz, beq_iff_eq] at hz; subst hz
    simp only [xheap] at hs
    split at hs
    · rename_i q v a r hq
      split at hs
      · rename_i hc
        simp only [Option.some.injEq, Prod.mk.injEq] at hs; obtain ⟨rfl, rfl⟩ := hs
        simp only [Bool.and_eq_true, Bool.or_eq_true, beq_iff_eq] at hc
        obtain ⟨⟨c1, c2⟩, c3⟩ := hc
        obtain ⟨v0, hv0⟩ := Option.isSome_iff_exists.mp c3
        refine xput_ok hx hb hts hown hC.1 hR hS hq hv0 c1 ?_ hd (fun H1 locs1 a1 a2 => k _ _ _ _ a1 a2 rfl rfl)
        rcases c2 with z | ⟨z1, z2⟩
        · exact Or.inl z
        · exact Or.inr ⟨hnm z1, z2⟩
      · cases hs
    · cases hs
  | getstatic n =>
    simp only [xsz, beq_iff_eq] at hz; subst hz
    simp only [xheap] at hs
    split at hs
    · rename_i hc
      simp only [Option.some.injEq, Prod.mk.injEq] at hs; obtain ⟨rfl, rfl⟩ := hs
      simp only [Bool.and_eq_true, beq_iff_eq] at hc
      obtain ⟨rfl, rfl⟩ := hc
      exact va_gets hx hb hC.2.2.2.2.2.1 hS hown (hts _ (xw_mem (i := 2117) (w := Cond.fieldLink (xcn 4) 11 "ViewedBank$Kinds" "VIEWED_AS" "[I") (by decide +kernel) rfl)) (fun _ z => z) hd (k _ _ _ _ hR hS rfl rfl)
    · cases hs
  | iaload =>
    simp only [xsz, beq_iff_eq] at hz; subst hz
    simp only [xheap] at hs
    split at hs
    · obtain ⟨v, hv, h2⟩ := Option.map_eq_some_iff.mp hs
      simp only [Prod.mk.injEq] at h2; obtain ⟨rfl, rfl⟩ := h2
      exact xaldi_ok hx hb hC hR hS hv hd (k _ _ _ _ hR hS rfl rfl)
    · cases hs
  | laload =>
    simp only [xsz, beq_iff_eq] at hz; subst hz
    simp only [xheap] at hs
    split at hs
    · obtain ⟨v, hv, h2⟩ := Option.map_eq_some_iff.mp hs
      simp only [Prod.mk.injEq] at h2; obtain ⟨rfl, rfl⟩ := h2
      obtain ⟨n, f, hq, hi, rfl⟩ := xald_inv hv
      obtain ⟨-, a2, a3, -⟩ := xarr_at hC.2.1 hR hq
      exact W.lald hx hb a2 a3 (fun q => by cases q) (xarr_in hi) (xarr_rd hi) rfl rfl hd (k _ _ _ _ hR hS rfl rfl)
    · cases hs
  | baload =>
    simp only [xsz, beq_iff_eq] at hz; subst hz
    simp only [xheap] at hs
    split at hs
    · split at hs
      · obtain ⟨v, hv, h2⟩ := Option.map_eq_some_iff.mp hs
        simp only [Prod.mk.injEq] at h2; obtain ⟨rfl, rfl⟩ := h2
        obtain ⟨n, f, hq, hi, rfl⟩ := xald_inv hv
        obtain ⟨-, a2, a3, -⟩ := xarr_at hC.2.1 hR hq
        exact W.bald hx hb a2 a3 (fun q => by cases q) (xarr_in hi) (xarr_rd hi) rfl rfl hd (k _ _ _ _ hR hS rfl rfl)
      · obtain ⟨v, hv, h2⟩ := Option.map_eq_some_iff.mp hs
        simp only [Prod.mk.injEq] at h2; obtain ⟨rfl, rfl⟩ := h2
        obtain ⟨n, f, hq, hi, rfl⟩ := xald_inv hv
        obtain ⟨-, a2, a3, -⟩ := xarr_at hC.2.1 hR hq
        exact W.zald hx hb a2 a3 (fun q => by cases q) (xarr_in hi) (xarr_rd hi) rfl rfl hd (k _ _ _ _ hR hS rfl rfl)
    · cases hs
  | aaload =>
    simp only [xsz, beq_iff_eq] at hz; subst hz
    simp only [xheap] at hs
    split at hs
    · split at hs
      · rename_i ht
        obtain ⟨v, hv, h2⟩ := Option.map_eq_some_iff.mp hs
        simp only [Prod.mk.injEq] at h2; obtain ⟨rfl, rfl⟩ := h2
        obtain ⟨n, f, hq, hi, rfl⟩ := xald_inv hv
        obtain ⟨-, a2, a3, -⟩ := xarr_at hC.2.1 hR hq
        obtain ⟨r, hr, hty, -, -⟩ := xtr_inv ht
        rw [hty] at a3
        exact W.aald hx hb a2 a3 rfl (fun q => by cases q) (xarr_in hi) (xarr_rd hi) rfl rfl hd (k _ _ _ _ hR hS rfl rfl)
      · cases hs
    · cases hs
  | iastore =>
    simp only [xsz, beq_iff_eq] at hz; subst hz
    simp only [xheap] at hs
    split at hs
    · obtain ⟨h1, hv, h2⟩ := Option.map_eq_some_iff.mp hs
      simp only [Prod.mk.injEq] at h2; obtain ⟨rfl, rfl⟩ := h2
      obtain ⟨n, f, hq, hi, rfl⟩ := xast_inv hv
      obtain ⟨-, a2, a3, -⟩ := xarr_at hC.2.1 hR hq
      refine W.iast hx hb a2 a3 (fun q => by cases q) (xarr_in hi) rfl rfl hd fun H1 e1 z oq => ?_
      obtain ⟨b1, b2⟩ := xstored hR hS hq e1 z oq
      exact k _ _ _ _ b1 b2 rfl rfl
    · cases hs
  | lastore =>
    simp only [xsz, beq_iff_eq] at hz; subst hz
    simp only [xheap] at hs
    split at hs
    · obtain ⟨h1, hv, h2⟩ := Option.map_eq_some_iff.mp hs
      simp only [Prod.mk.injEq] at h2; obtain ⟨rfl, rfl⟩ := h2
      obtain ⟨n, f, hq, hi, rfl⟩ := xast_inv hv
      obtain ⟨-, a2, a3, -⟩ := xarr_at hC.2.1 hR hq
      refine W.last hx hb a2 a3 (fun q => by cases q) (xarr_in hi) rfl rfl hd fun H1 e1 z oq => ?_
      obtain ⟨b1, b2⟩ := xstored hR hS hq e1 z oq
      exact k _ _ _ _ b1 b2 rfl rfl
    · cases hs
  | bastore =>
    simp only [xsz, beq_iff_eq] at hz; subst hz
    simp only [xheap] at hs
    split at hs
    · split at hs
      · obtain ⟨h1, hv, h2⟩ := Option.map_eq_some_iff.mp hs
        simp only [Prod.mk.injEq] at h2; obtain ⟨rfl, rfl⟩ := h2
        obtain ⟨n, f, hq, hi, rfl⟩ := xast_inv hv
        obtain ⟨-, a2, a3, -⟩ := xarr_at hC.2.1 hR hq
        refine W.bast hx hb a2 a3 (fun q => by cases q) (xarr_in hi) rfl rfl hd fun H1 e1 z oq => ?_
        obtain ⟨b1, b2⟩ := xstored hR hS hq e1 z oq
        exact k _ _ _ _ b1 b2 rfl rfl
      · obtain ⟨h1, hv, h2⟩ := Option.map_eq_some_iff.mp hs
        simp only [Prod.mk.injEq] at h2; obtain ⟨rfl, rfl⟩ := h2
        obtain ⟨n, f, hq, hi, rfl⟩ := xast_inv hv
        obtain ⟨-, a2, a3, -⟩ := xarr_at hC.2.1 hR hq
        refine W.zast hx hb a2 a3 (fun q => by cases q) (xarr_in hi) rfl rfl hd fun H1 e1 z oq => ?_
        obtain ⟨b1, b2⟩ := xstored hR hS hq e1 z oq
        exact k _ _ _ _ b1 b2 rfl rfl
    · cases hs
  | aastore =>
    simp only [xsz, beq_iff_eq] at hz; subst hz
    simp only [xheap] at hs
    split at hs
    · split at hs
      · rename_i ht
        obtain ⟨h1, hv, h2⟩ := Option.map_eq_some_iff.mp hs
        simp only [Prod.mk.injEq] at h2; obtain ⟨rfl, rfl⟩ := h2
        refine xaastN_ok hx hb hC hR hS ht hv hd (fun H1 locs1 b1 b2 => k _ _ _ _ b1 b2 ?_ ?_) <;> (obtain ⟨n, f, hq, hi, rfl⟩ := xast_inv hv; rfl)
      · cases hs
    · split at hs
      · rename_i ht
        simp only [Bool.and_eq_true, beq_iff_eq] at ht
        obtain ⟨h1, hv, h2⟩ := Option.map_eq_some_iff.mp hs
        simp only [Prod.mk.injEq] at h2; obtain ⟨rfl, rfl⟩ := h2
        refine xaast_ok hx hb hC hR hS ht.1 ht.2 hv hd (fun H1 locs1 b1 b2 => k _ _ _ _ b1 b2 ?_ ?_) <;> (obtain ⟨n, f, hq, hi, rfl⟩ := xast_inv hv; rfl)
      · cases hs
    · cases hs
  | arraylength =>
    simp only [xsz, beq_iff_eq] at hz; subst hz
    simp only [xheap] at hs
    split at hs
    · obtain ⟨n, hv, h2⟩ := Option.map_eq_some_iff.mp hs
      simp only [Prod.mk.injEq] at h2; obtain ⟨rfl, rfl⟩ := h2
      exact xlen_ok hx hb hC hR hS hv hd (k _ _ _ _ hR hS rfl rfl)
    · cases hs
  | new n =>
    simp only [xsz, beq_iff_eq] at hz; subst hz
    simp only [xheap] at hs
    obtain ⟨q, hq, h2⟩ := Option.map_eq_some_iff.mp hs
    simp only [Prod.mk.injEq] at h2; obtain ⟨rfl, rfl⟩ := h2
    simp only [xnew] at hrc hrs
    refine xnew_ok hx hb hts hown hC hR hS hq (by omega) (by omega) hd (fun H1 b1 b2 => k _ _ _ _ b1 b2 ?_ ?_) <;> simp only [xnew] <;> omega
  | newarray t =>
    simp only [xsz, beq_iff_eq] at hz; subst hz
    simp only [xheap] at hs
    split at hs
    · split at hs
      · cases hs
      · rename_i hc
        simp only [Option.some.injEq, Prod.mk.injEq] at hs; obtain ⟨rfl, rfl⟩ := hs
        simp only [xnew] at hrc hrs
        refine xnewa_ok hx hb hts hC hR hS (fun z => hc (Or.inl z)) (fun z => hc (Or.inr (Or.inl z))) (fun z => hc (Or.inr (Or.inr z))) (by omega) (by omega) hd (fun H1 b1 b2 => k _ _ _ _ b1 b2 ?_ ?_) <;> simp only [xnew] <;> omega
    · cases hs
  | anewarray n =>
    simp only [xsz, beq_iff_eq] at hz; subst hz
    simp only [xheap] at hs
    split at hs
    · rename_i q n9 r9 hq
      split at hs
      · cases hs
      · rename_i hc
        simp only [Option.some.injEq, Prod.mk.injEq] at hs; obtain ⟨rfl, rfl⟩ := hs
        simp only [xnew] at hrc hrs
        have ht : xtr (10 + q.2.1) = true := by
          cases hb9 : xtr (10 + q.2.1) with
          | true => rfl
          | false => exact absurd (Or.inr (Or.inr hb9)) hc
        refine xnewq_ok hx hb hts hown hC hR hS hq (fun z => hc (Or.inl z)) (fun z => hc (Or.inr (Or.inl z))) ht (by omega) (by omega) hd (fun H1 b1 b2 => k _ _ _ _ b1 b2 ?_ ?_) <;> simp only [xnew] <;> omega
    · cases hs
  | ldc n =>
    simp only [xsz, beq_iff_eq] at hz; subst hz
    simp only [xheap] at hs
    split at hs
    · rename_i hc
      simp only [Option.some.injEq, Prod.mk.injEq] at hs; obtain ⟨rfl, rfl⟩ := hs
      simp only [Bool.and_eq_true, beq_iff_eq] at hc
      obtain ⟨rfl, rfl⟩ := hc
      exact va_ldcS hx hb hown hC.2.2.2.2.2.2.2.2.1 hd (k _ _ _ _ hR hS rfl rfl)
    · obtain ⟨q, hq, h2⟩ := Option.map_eq_some_iff.mp hs
      simp only [Prod.mk.injEq] at h2; obtain ⟨rfl, rfl⟩ := h2
      exact lv_ldc hx hb hown (hts _ (xK_inv hq)) hd (k _ _ _ _ hR hS rfl rfl)
  | ldc_w n =>
    simp only [xsz, beq_iff_eq] at hz; subst hz
    simp only [xheap] at hs
    obtain ⟨q, hq, h2⟩ := Option.map_eq_some_iff.mp hs
    simp only [Prod.mk.injEq] at h2; obtain ⟨rfl, rfl⟩ := h2
    exact lv_ldcw hx hb hown (hts _ (xK_inv hq)) hd (k _ _ _ _ hR hS rfl rfl)
  | ldc2_w n =>
    simp only [xsz, beq_iff_eq] at hz; subst hz
    simp only [xheap] at hs
    split at hs
    · rename_i q hq
      simp only [Option.some.injEq, Prod.mk.injEq] at hs; obtain ⟨rfl, rfl⟩ := hs
      exact lv_ldc2 hx hb hown (hts _ (xK2_inv hq)) hd (k _ _ _ _ hR hS rfl rfl)
    · obtain ⟨q, hq, h2⟩ := Option.map_eq_some_iff.mp hs
      simp only [Prod.mk.injEq] at h2; obtain ⟨rfl, rfl⟩ := h2
      exact lv_ldc2d hx hb hown (hts _ (xKd_inv hq)) hd (k _ _ _ _ hR hS rfl rfl)
  | _ => simp only [xheap] at hs; cases hs
end XS5
