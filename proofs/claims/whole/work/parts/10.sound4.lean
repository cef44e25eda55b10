/-! SOUND, 4: instructions over the heap -/
theorem va_P.one {D : va_G} {cl : List vw_C} {q : Nat × va_E} {H : Heap} (h : va_at D cl q H) : va_P D cl [q] H := by
  intro k q' hk
  have hz : k < 1 := (List.getElem?_eq_some_iff.mp hk).1
  rw [show k = 0 by omega] at hk
  cases hk
  exact h
section XS4
variable {p : Program} {l : Launch} {e : Env} {R : Room} {s : State} {m : MethodId} {args : Array Value} {below : List Frame} {meth : Method} {c : Code} {H : Heap} {locs : List Loc} {cells slots : Nat} {Q : State → Prop}
variable {cc : ByteArray} {pc len : Nat} {ls : Array Slot} {rest : List Value} {D : va_G} {ar : Nat → ClassId} {N0 : Nat} {g : xG} {h : xH} {cn : Nat}
theorem xget_ok (hx : p.tables.exec = Jvm.exec) (hb : c.code = cc) (hts : ∀ w ∈ xws, w.before args s = true) (hown : s.vm.findClass (xcn cn) = some m.cls) (hK : va_K D vwCl [] s) (hR : xHR D ar N0 h H) {n a : Nat} {q : Nat × Nat × Nat × Nat × Nat × Nat} {v : Value} (hq : xF cn n = some q) (hv : xf h a q.2.1 q.2.2.1 = some v) (hd : decode cc pc = .ok (.getfield n, 3))
    (k : W p l e R s m args below meth c H locs cells slots Q (F0 m (pc + 3) ls (v :: rest))) : W p l e R s m args below meth c H locs cells slots Q (F0 m pc ls (.ref a :: rest)) := by
  obtain ⟨r, hr, hk, hw, -, -, -⟩ := xF_inv hq
  obtain ⟨fs, h1, h2⟩ := xf_inv hv
  obtain ⟨C, T, N⟩ := r
  exact va_get (D := D) (cl := vwCl) (ws := [(a, .inr (q.2.1, fs))]) (C := C) (T := T) (N := N) (ref := (T q.2.2.1).1) hx hb hts (xcl_ok hr).1 hown hK (va_P.one (hR.2.2 a _ h1).2) 0 rfl hr q.2.2.1 hk (hts _ hw) (fun _ z => z) h2 hd k
set_option maxHeartbeats 1000000 in
theorem xput_ok (hx : p.tables.exec = Jvm.exec) (hb : c.code = cc) (hts : ∀ w ∈ xws, w.before args s = true) (hown : s.vm.findClass (xcn cn) = some m.cls) (hK : va_K D vwCl [] s) (hR : xHR D ar N0 h H) (hS : va_S (xA N0) s.heap H locs) {n a : Nat} {q : Nat × Nat × Nat × Nat × Nat × Nat} {v v0 : Value} (hq : xF cn n = some q) (hv : xf h a q.2.1 q.2.2.1 = some v0) (hfc : xfc q.2.2.2.1 v = true) (hfin : q.2.2.2.2.1 = 0 ∨ (meth.name = "<init>" ∧ xci cn = q.2.1)) (hd : decode cc pc = .ok (.putfield n, 3))
    (k : ∀ (H1 : Heap) (locs1 : List Loc), xHR D ar N0 (xpf h a q.2.1 q.2.2.1 v) H1 → va_S (xA N0) s.heap H1 locs1 → W p l e R s m args below meth c H1 locs1 cells slots Q (F0 m (pc + 3) ls rest)) : W p l e R s m args below meth c H locs cells slots Q (F0 m pc ls (v :: .ref a :: rest)) := by
  obtain ⟨r, hr, hk, hw, hfl, ⟨ty, hty, htk⟩, hdc⟩ := xF_inv hq
  obtain ⟨fs, h1, h2⟩ := xf_inv hv
  obtain ⟨hn, hft⟩ := xfc_ok htk hfc
  obtain ⟨ty0, hty0, hnm, -⟩ := xcl_ty hr
  have hin := (xcl_ok hr).1
  obtain ⟨C, T, N⟩ := r
  have hap := va_apart (own := xcn cn) hts hin ty0 hty0 hnm hK hr
  obtain ⟨ha, hat⟩ := hR.2.2 a _ h1
  have hat : va_at D vwCl (a, .inr (q.2.1, fs)) H := hat
  obtain ⟨r, h3, cell, q1, q2, q3, q4⟩ := hat
  have hrr : r = (C, T, N) := Option.some.inj (h3.symm.trans hr)
  subst hrr
  obtain ⟨hSl, hfcl, kC, hkC, hkind⟩ := hK.1 q.2.1 _ hr
  obtain ⟨cf, kf, fi, f, hi, hsl⟩ := hSl q.2.2.1 hk
  have hlay := hts _ (hin _ (u_in_lay hk))
  unfold u_lay at hlay
  have hst := (u_facts hfcl hkC (u_lays hts hin hk) hi).1
  have hl : q.2.2.1 < fs.length := (List.getElem?_eq_some_iff.mp h2).1
  have fin : ∀ (H' : Heap) (locs' : List Loc), H'[a]? = some (cell.setSlot ((D.2 q.2.1) q.2.2.1) v) → H'.size = H.size → (∀ z : Nat, z ≠ a → H'[z]? = H[z]?) → va_S (xA N0) s.heap H' locs' → W p l e R s m args below meth c H' locs' cells slots Q (F0 m (pc + 3) ls rest) := by
    intro H' locs' e1 e2 e3 hS'
    refine k H' locs' (hR.set (h' := xpf h a q.2.1 q.2.2.1 v) rfl (xpf_at h1) ha ?_ e2 e3) hS'
    show va_at D vwCl (a, .inr (q.2.1, fs.set q.2.2.1 v)) H'
    exact ⟨_, hr, t_OB.to (V := updV (vp_V fs) q.2.2.1 v) ⟨_, e1, q2, q3, t_set q4 hap hk v⟩ (fun j _ => vp_updV_set hl v j)⟩
  by_cases hf0 : (T q.2.2.1).2.2.2 = true
  · rw [if_pos hf0] at hlay
    have hno : ¬ q.2.2.2.2.1 = 0 := by
      intro z
      rw [hfl, z] at hf0
      cases hf0
    obtain ⟨hin2, hci⟩ := hfin.resolve_left hno
    have hcn : cn < 18 ∨ 18 ≤ cn := Nat.lt_or_ge cn 18
    have hq12 : q.2.1 < 12 := (List.getElem?_eq_some_iff.mp hr).1
    have hown2 : (T q.2.2.1).1 = xcn cn := by
      rcases hcn with z | z
      · have h5 := xci_all cn z (by rw [hci]; exact hq12)
        rw [hci, hr] at h5
        exact hdc.trans (Option.some.inj h5)
      · exfalso
        have h6 := List.mem_of_find?_eq_some hq
        rw [xFl_out (by omega)] at h6
        cases h6
    have hcf : m.cls = cf := by
      obtain ⟨_, _, c', _, _, _, -, -, hf', -, -, -, hown3, -⟩ := Cond.laysFinal_spec hlay
      have e1 : c' = cf := by have := hi.symm.trans hf'; simp at this; exact this.1.symm
      rw [hown2] at hown3
      rw [← e1]; exact Option.some.inj (hown.symm.trans hown3)
    have h6 := u_fits hfcl hkC hkind (Or.inr hlay) hi hty hn hft
    refine W.putFinK hx hb hown (hts _ hw) hi hst hcf hin2 (by rw [q2]; exact h6) q1 q3 (by rw [hsl]; exact k2_hasslot (q4 q.2.2.1 hk)) rfl rfl hd fun H' e1 e2 e3 => ?_
    rw [hsl] at e1 ⊢
    exact fin H' _ e1 e2 e3 (hS.put e2 e3 ha)
  · rw [if_neg hf0] at hlay
    have h6 := u_store hfcl hkC hkind hlay hi hty hn hft
    refine W.putK hx hb (f := f) ⟨hown, hts _ hw, ⟨_, _, _, hi⟩, hst⟩ (by rw [q2]; exact h6) q1 q3 (by rw [hsl]; exact k2_hasslot (q4 q.2.2.1 hk)) rfl rfl hd fun H' e1 e2 e3 => ?_
    rw [hsl] at e1 ⊢
    exact fin H' _ e1 e2 e3 (hS.put e2 e3 ha)
/-- an array of the world -/
theorem xarr_at (hA : xKA ar s) (hR : xHR D ar N0 h H) {a t n : Nat} {f : Nat → Value} (hq : h.2.2.2 a = some (.inl (t, n, f))) : N0 ≤ a ∧ H[a]? = some (arrV (ar t) n f) ∧ s.isArrayOf (arrV (ar t) n f) (xty t) ∧ xtu t = true := by
  obtain ⟨h1, h2⟩ := hR.2.2 a _ hq
  have h2 : xtu t = true ∧ H[a]? = some (arrV (ar t) n f) := h2
  exact ⟨h1, h2.2, (hA t h2.1).1 n f, h2.1⟩
theorem xald_inv {a t : Nat} {j : Int32} {v : Value} (hv : xald h a t j = some v) : ∃ n f, h.2.2.2 a = some (.inl (t, n, f)) ∧ ¬ (j < 0 ∨ n ≤ j.toNatClampNeg) ∧ f j.toNatClampNeg = v := by
  unfold xald at hv
  split at hv
  · rename_i n f hq
    split at hv
    · rename_i hi
      exact ⟨n, f, xa_inv hq, xin_ok hi, Option.some.inj hv⟩
    · cases hv
  · cases hv
theorem xast_inv {a t : Nat} {j : Int32} {v : Value} {h' : xH} (hv : xast h a t j v = some h') : ∃ n f, h.2.2.2 a = some (.inl (t, n, f)) ∧ ¬ (j < 0 ∨ n ≤ j.toNatClampNeg) ∧ h' = xpa h a t j.toNatClampNeg v := by
  unfold xast at hv
  split at hv
  · rename_i n f hq
    split at hv
    · rename_i hi
      exact ⟨n, f, xa_inv hq, xin_ok hi, (Option.some.inj hv).symm⟩
    · cases hv
  · cases hv
/-- behind a store -/
theorem xstored (hR : xHR D ar N0 h H) (hS : va_S (xA N0) s.heap H locs) {a t n i : Nat} {f : Nat → Value} {v : Value} (hq : h.2.2.2 a = some (.inl (t, n, f))) {H1 : Heap} (e1 : H1[a]? = some ((arrV (ar t) n f).setSlot i v)) (z : H1.size = H.size) (oq : ∀ q : Nat, q ≠ a → H1[q]? = H[q]?) : xHR D ar N0 (xpa h a t i v) H1 ∧ va_S (xA N0) s.heap H1 (locs ++ [⟨a, i⟩]) := by
  obtain ⟨h1, h2⟩ := hR.2.2 a _ hq
  have h2 : xtu t = true ∧ H[a]? = some (arrV (ar t) n f) := h2
  refine ⟨hR.set (h' := xpa h a t i v) rfl (xpa_at hq) h1 ?_ z oq, hS.put z oq h1⟩
  show xtu t = true ∧ H1[a]? = some (arrV (ar t) n (updV f i v))
  exact ⟨h2.1, by rw [e1, arrV_store]⟩
theorem xarr_in {cA : ClassId} {n : Nat} {f : Nat → Value} {j : Int32} (h : ¬ (j < 0 ∨ n ≤ j.toNatClampNeg)) : ¬ (j < 0 ∨ (arrV cA n f).slots.size ≤ j.toNatClampNeg) := by rw [arrV_size]; exact h
theorem xarr_rd {cA : ClassId} {n : Nat} {f : Nat → Value} {j : Int32} (h : ¬ (j < 0 ∨ n ≤ j.toNatClampNeg)) : (arrV cA n f).slots[j.toNatClampNeg]? = some (f j.toNatClampNeg) := arrV_read _ _ (Nat.not_le.mp fun q => h (Or.inr q))
theorem xaldi_ok (hx : p.tables.exec = Jvm.exec) (hb : c.code = cc) (hC : xCx D ar N0 g s) (hR : xHR D ar N0 h H) (hS : va_S (xA N0) s.heap H locs) {a : Nat} {j : Int32} {v : Value} (hv : xaldi g h a j = some v) (hd : decode cc pc = .ok (.iaload, 1))
    (k : W p l e R s m args below meth c H locs cells slots Q (F0 m (pc + 1) ls (v :: rest))) : W p l e R s m args below meth c H locs cells slots Q (F0 m pc ls (.int j :: .ref a :: rest)) := by
  unfold xaldi at hv
  split at hv
  · rename_i n f hq
    split at hv
    · rename_i hi
      obtain ⟨-, h2, h3, -⟩ := xarr_at hC.2.1 hR (xa_inv hq)
      cases hv
      exact W.iald hx hb h2 h3 (fun q => by cases q) (xarr_in (xin_ok hi)) (xarr_rd (xin_ok hi)) rfl rfl hd k
    · cases hv
  · split at hv
    · rename_i n f hq
      split at hv
      · rename_i hi
        cases hv
        unfold xro at hq
        split at hq
        · rename_i ha
          subst ha
          cases hq
          exact va_ti hx hb hC.2.2.2.2.2.2.2.1 hS (xin_ok hi) rfl hd k
        · split at hq
          · rename_i ha
            subst ha
            cases hq
            exact va_ti hx hb hC.2.2.2.2.2.2.1 hS (xin_ok hi) rfl hd k
          · cases hq
      · cases hv
    · cases hv
theorem xlen_ok (hx : p.tables.exec = Jvm.exec) (hb : c.code = cc) (hC : xCx D ar N0 g s) (hR : xHR D ar N0 h H) (hS : va_S (xA N0) s.heap H locs) {a n : Nat} (hv : xlen g h a = some n) (hd : decode cc pc = .ok (.arraylength, 1))
    (k : W p l e R s m args below meth c H locs cells slots Q (F0 m (pc + 1) ls (.int (Int32.ofNat n) :: rest))) : W p l e R s m args below meth c H locs cells slots Q (F0 m pc ls (.ref a :: rest)) := by
  unfold xlen at hv
  split at hv
  · rename_i t n' f hq
    cases hv
    obtain ⟨-, h2, h3, -⟩ := xarr_at hC.2.1 hR hq
    exact W.alen (n := Int32.ofNat n) hx hb h2 h3 (by rw [arrV_size] <;> rfl) rfl rfl hd k
  · obtain ⟨⟨n', f⟩, hq, h2⟩ := Option.map_eq_some_iff.mp hv
    cases h2
    unfold xro at hq
    split at hq
    · rename_i ha
      subst ha
      cases hq
      exact va_tlen hx hb hC.2.2.2.2.2.2.2.1 hS rfl hd k
    · split at hq
      · rename_i ha
        subst ha
        cases hq
        exact va_tlen hx hb hC.2.2.2.2.2.2.1 hS rfl hd k
      · cases hq
end XS4
