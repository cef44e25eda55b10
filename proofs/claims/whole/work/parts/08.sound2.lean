/-! SOUND, 2: locals and jumps -/
def xL (ls : Array Slot) (L : List Slot) (n : Nat) : Prop := ls.size = n ∧ L.length = n ∧ lv_wf ls ∧ ∀ (i : Nat) (v : Value), L[i]? = some (.val v) → ls[i]? = some (.val v)
def xps (L : List Slot) : List (Nat × Value) := (List.range L.length).filterMap fun (i : Nat) => match (L[i]? : Option Slot) with
  | some (Slot.val v) => some (i, v)
  | _ => none
theorem mem_xps {L : List Slot} {i : Nat} {v : Value} : (i, v) ∈ xps L ↔ L[i]? = some (.val v) := by
  unfold xps
  rw [List.mem_filterMap]
  constructor
  · rintro ⟨j, -, h⟩
    split at h
    · rename_i w hw
      simp only [Option.some.injEq, Prod.mk.injEq] at h
      obtain ⟨rfl, rfl⟩ := h
      exact hw
    · cases h
  · intro h
    have hl : i < L.length := (List.getElem?_eq_some_iff.mp h).1
    exact ⟨i, List.mem_range.mpr hl, by rw [h]⟩
theorem xL.has {ls : Array Slot} {L : List Slot} {n : Nat} (h : xL ls L n) : lv_has ls n (xps L) := ⟨h.1, h.2.2.1, fun q hq => h.2.2.2 q.1 q.2 (mem_xps.mp hq)⟩
theorem xkill_len (L : List Slot) (i : Nat) : (xkill L i).length = L.length := by
  unfold xkill
  split
  · rfl
  · split
    · split
      · rw [List.length_set]
      · rfl
    · rfl
theorem xkill_get {L : List Slot} {i j : Nat} {w : Value} (h : (xkill L i)[j]? = some (.val w)) : L[j]? = some (.val w) ∧ ¬ (j + 1 = i ∧ w.category = 2) := by
  unfold xkill at h
  split at h
  · exact ⟨h, by omega⟩
  · split at h
    · rename_i k o9 v hv
      split at h
      · rw [List.getElem?_set] at h
        split at h
        · split at h <;> cases h
        · exact ⟨h, by omega⟩
      · rename_i hc
        refine ⟨h, fun q => hc ?_⟩
        have e : j = k := by omega
        subst e
        rw [hv] at h
        cases h
        exact q.2
    · rename_i k o9 hn
      refine ⟨h, fun q => ?_⟩
      have e : j = k := by omega
      subst e
      exact hn w h
theorem xst1_lt {L L' : List Slot} {i : Nat} {v : Value} (h : xst1 L i v = some L') : i < L.length := by
  unfold xst1 at h
  split at h
  · assumption
  · cases h
theorem xst2_lt {L L' : List Slot} {i : Nat} {v : Value} (h : xst2 L i v = some L') : i + 1 < L.length := by
  unfold xst2 at h
  split at h
  · assumption
  · cases h
theorem xst1_ok {ls ls' : Array Slot} {L L' : List Slot} {n i : Nat} {v : Value} (h : xL ls L n) (hs : xst1 L i v = some L') (hv : lv_has ls' n ((i, v) :: (xps L).filter (fun q => !(q.1 == i) && !(q.1 + 1 == i && q.2.category == 2)))) : xL ls' L' n := by
  unfold xst1 at hs
  split at hs
  · simp only [Option.some.injEq] at hs
    subst hs
    refine ⟨hv.1, by rw [List.length_set, xkill_len]; exact h.2.1, hv.2.1, fun j w hj => ?_⟩
    rw [List.getElem?_set] at hj
    split at hj
    · rename_i e
      subst e
      split at hj
      · cases hj
        exact hv.2.2 (i, _) List.mem_cons_self
      · cases hj
    · rename_i hne
      obtain ⟨h1, h2⟩ := xkill_get hj
      refine hv.2.2 (j, w) (List.mem_cons_of_mem _ (List.mem_filter.mpr ⟨mem_xps.mpr h1, ?_⟩))
      have a1 : (j == i) = false := by simpa using fun q : j = i => hne q.symm
      have a2 : (j + 1 == i && w.category == 2) = false := by
        cases b1 : (j + 1 == i && w.category == 2) with
        | false => rfl
        | true =>
          simp only [Bool.and_eq_true, beq_iff_eq] at b1
          exact absurd b1 h2
      show (!(j == i) && !(j + 1 == i && w.category == 2)) = true
      rw [a1, a2]
      rfl
  · cases hs
theorem xst2_ok {ls ls' : Array Slot} {L L' : List Slot} {n i : Nat} {v : Value} (h : xL ls L n) (hs : xst2 L i v = some L') (hv : lv_has ls' n ((i, v) :: (xps L).filter (fun q => !(q.1 == i) && (!(q.1 == i + 1) && !(q.1 + 1 == i && q.2.category == 2))))) : xL ls' L' n := by
  unfold xst2 at hs
  split at hs
  · simp only [Option.some.injEq] at hs
    subst hs
    refine ⟨hv.1, by rw [List.length_set, List.length_set, xkill_len]; exact h.2.1, hv.2.1, fun j w hj => ?_⟩
    rw [List.getElem?_set] at hj
    split at hj
    · split at hj <;> cases hj
    · rename_i hne1
      rw [List.getElem?_set] at hj
      split at hj
      · rename_i e
        subst e
        split at hj
        · cases hj
          exact hv.2.2 (i, _) List.mem_cons_self
        · cases hj
      · rename_i hne
        obtain ⟨h1, h2⟩ := xkill_get hj
        refine hv.2.2 (j, w) (List.mem_cons_of_mem _ (List.mem_filter.mpr ⟨mem_xps.mpr h1, ?_⟩))
        have a1 : (j == i) = false := by simpa using fun q : j = i => hne q.symm
        have a3 : (j == i + 1) = false := by simpa using fun q : j = i + 1 => hne1 q.symm
        have a2 : (j + 1 == i && w.category == 2) = false := by
          cases b1 : (j + 1 == i && w.category == 2) with
          | false => rfl
          | true =>
            simp only [Bool.and_eq_true, beq_iff_eq] at b1
            exact absurd b1 h2
        show (!(j == i) && (!(j == i + 1) && !(j + 1 == i && w.category == 2))) = true
        rw [a1, a2, a3]
        rfl
  · cases hs
theorem xjmp_inv {pc t : Nat} {off : Int} (h : xjmp pc off = some t) : (pc : Int) + off = (t : Int) := by
  unfold xjmp at h
  split at h
  · rename_i q
    cases h
    exact (Int.toNat_of_nonneg q).symm
  · cases h
section XS2
variable {p : Program} {l : Launch} {e : Env} {R : Room} {s : State} {m : MethodId} {args : Array Value} {below : List Frame} {meth : Method} {c : Code} {H : Heap} {locs : List Loc} {cells slots : Nat} {Q : State → Prop}
variable {cc : ByteArray} {pc len n : Nat} {ls : Array Slot} {st st' : List Value} {L L' : List Slot}
set_option maxHeartbeats 4000000 in
theorem xlocs_ok {i : Instr} (hx : p.tables.exec = Jvm.exec) (hb : c.code = cc) (hd : decode cc pc = .ok (i, len)) (hz : xsz i len = true) (hL : xL ls L n) (hs : xlocs i L st = some (L', st')) (k : ∀ ls' : Array Slot, xL ls' L' n → W p l e R s m args below meth c H locs cells slots Q (F0 m (pc + len) ls' st')) : W p l e R s m args below meth c H locs cells slots Q (F0 m pc ls st) := by
  cases i with
  | iload_n k9 =>
    simp only [xsz, beq_iff_eq] at hz; subst hz
    simp only [xlocs, xldi] at hs
    split at hs
    · rename_i x hq
      simp only [Option.some.injEq, Prod.mk.injEq] at hs; obtain ⟨rfl, rfl⟩ := hs
      exact lv_iload_n hx hb hd rfl (hL.2.2.2 _ _ hq) (k _ hL)
    · cases hs
  | iload k9 =>
    simp only [xsz, beq_iff_eq] at hz; subst hz
    simp only [xlocs, xldi] at hs
    split at hs
    · rename_i x hq
      simp only [Option.some.injEq, Prod.mk.injEq] at hs; obtain ⟨rfl, rfl⟩ := hs
      exact lv_iload hx hb hd (hL.2.2.2 _ _ hq) (k _ hL)
    · cases hs
  | lload_n k9 =>
    simp only [xsz, beq_iff_eq] at hz; subst hz
    simp only [xlocs, xldl] at hs
    split at hs
    · rename_i x hq
      simp only [Option.some.injEq, Prod.mk.injEq] at hs; obtain ⟨rfl, rfl⟩ := hs
      exact lv_lload_n hx hb hd rfl (hL.2.2.2 _ _ hq) (k _ hL)
    · cases hs
  | lload k9 =>
    simp only [xsz, beq_iff_eq] at hz; subst hz
    simp only [xlocs, xldl] at hs
    split at hs
    · rename_i x hq
      simp only [Option.some.injEq, Prod.mk.injEq] at hs; obtain ⟨rfl, rfl⟩ := hs
      exact lv_lload hx hb hd (hL.2.2.2 _ _ hq) (k _ hL)
    · cases hs
  | dload_n k9 =>
    simp only [xsz, beq_iff_eq] at hz; subst hz
    simp only [xlocs, xldd] at hs
    split at hs
    · rename_i x hq
      simp only [Option.some.injEq, Prod.mk.injEq] at hs; obtain ⟨rfl, rfl⟩ := hs
      exact lv_dload_n hx hb hd rfl (hL.2.2.2 _ _ hq) (k _ hL)
    · cases hs
  | dload k9 =>
    simp only [xsz, beq_iff_eq] at hz; subst hz
    simp only [xlocs, xldd] at hs
    split at hs
    · rename_i x hq
      simp only [Option.some.injEq, Prod.mk.injEq] at hs; obtain ⟨rfl, rfl⟩ := hs
      exact lv_dload hx hb hd (hL.2.2.2 _ _ hq) (k _ hL)
    · cases hs
  | fload_n k9 =>
    simp only [xsz, beq_iff_eq] at hz; subst hz
    simp only [xlocs] at hs
    split at hs
    · rename_i x hq
      simp only [Option.some.injEq, Prod.mk.injEq] at hs; obtain ⟨rfl, rfl⟩ := hs
      exact lv_fload_n hx hb hd rfl (hL.2.2.2 _ _ hq) (k _ hL)
    · cases hs
  | aload_n k9 =>
    simp only [xsz, beq_iff_eq] at hz; subst hz
    simp only [xlocs, xlda] at hs
    split at hs
    · rename_i x hq
      simp only [Option.some.injEq, Prod.mk.injEq] at hs; obtain ⟨rfl, rfl⟩ := hs
      exact lv_aload_n hx hb hd rfl (hL.2.2.2 _ _ hq) (k _ hL)
    · rename_i hq
      simp only [Option.some.injEq, Prod.mk.injEq] at hs; obtain ⟨rfl, rfl⟩ := hs
      exact lv_aload_nN hx hb hd rfl (hL.2.2.2 _ _ hq) (k _ hL)
    · cases hs
  | aload k9 =>
    simp only [xsz, beq_iff_eq] at hz; subst hz
    simp only [xlocs, xlda] at hs
    split at hs
    · rename_i x hq
      simp only [Option.some.injEq, Prod.mk.injEq] at hs; obtain ⟨rfl, rfl⟩ := hs
      exact lv_aload hx hb hd (hL.2.2.2 _ _ hq) (k _ hL)
    · rename_i hq
      simp only [Option.some.injEq, Prod.mk.injEq] at hs; obtain ⟨rfl, rfl⟩ := hs
      exact lv_aloadN hx hb hd (hL.2.2.2 _ _ hq) (k _ hL)
    · cases hs
  | istore_n k9 =>
    simp only [xsz, beq_iff_eq] at hz; subst hz
    simp only [xlocs, xsti] at hs
    split at hs
    · obtain ⟨L1, h1, h2⟩ := Option.map_eq_some_iff.mp hs
      simp only [Prod.mk.injEq] at h2; obtain ⟨rfl, rfl⟩ := h2
      exact lv_istore_n hx hb hd rfl hL.has (by rw [← hL.2.1]; exact xst1_lt h1) rfl (fun ls1 hv => k ls1 (xst1_ok hL h1 hv))
    · cases hs
  | istore k9 =>
    simp only [xsz, beq_iff_eq] at hz; subst hz
    simp only [xlocs, xsti] at hs
    split at hs
    · obtain ⟨L1, h1, h2⟩ := Option.map_eq_some_iff.mp hs
      simp only [Prod.mk.injEq] at h2; obtain ⟨rfl, rfl⟩ := h2
      exact lv_istore hx hb hd hL.has (by rw [← hL.2.1]; exact xst1_lt h1) rfl (fun ls1 hv => k ls1 (xst1_ok hL h1 hv))
    · cases hs
  | lstore_n k9 =>
    simp only [xsz, beq_iff_eq] at hz; subst hz
    simp only [xlocs, xstl] at hs
    split at hs
    · obtain ⟨L1, h1, h2⟩ := Option.map_eq_some_iff.mp hs
      simp only [Prod.mk.injEq] at h2; obtain ⟨rfl, rfl⟩ := h2
      exact lv_lstore_n hx hb hd rfl hL.has (by rw [← hL.2.1]; exact xst2_lt h1) rfl (fun ls1 hv => k ls1 (xst2_ok hL h1 hv))
    · cases hs
  | lstore k9 =>
    simp only [xsz, beq_iff_eq] at hz; subst hz
    simp only [xlocs, xstl] at hs
    split at hs
    · obtain ⟨L1, h1, h2⟩ := Option.map_eq_some_iff.mp hs
      simp only [Prod.mk.injEq] at h2; obtain ⟨rfl, rfl⟩ := h2
      exact lv_lstore hx hb hd hL.has (by rw [← hL.2.1]; exact xst2_lt h1) rfl (fun ls1 hv => k ls1 (xst2_ok hL h1 hv))
    · cases hs
  | dstore_n k9 =>
    simp only [xsz, beq_iff_eq] at hz; subst hz
    simp only [xlocs, xstd] at hs
    split at hs
    · obtain ⟨L1, h1, h2⟩ := Option.map_eq_some_iff.mp hs
      simp only [Prod.mk.injEq] at h2; obtain ⟨rfl, rfl⟩ := h2
      exact lv_dstore_n hx hb hd rfl hL.has (by rw [← hL.2.1]; exact xst2_lt h1) rfl (fun ls1 hv => k ls1 (xst2_ok hL h1 hv))
    · cases hs
  | dstore k9 =>
    simp only [xsz, beq_iff_eq] at hz; subst hz
    simp only [xlocs, xstd] at hs
    split at hs
    · obtain ⟨L1, h1, h2⟩ := Option.map_eq_some_iff.mp hs
      simp only [Prod.mk.injEq] at h2; obtain ⟨rfl, rfl⟩ := h2
      exact lv_dstore hx hb hd hL.has (by rw [← hL.2.1]; exact xst2_lt h1) rfl (fun ls1 hv => k ls1 (xst2_ok hL h1 hv))
    · cases hs
  | astore_n k9 =>
    simp only [xsz, beq_iff_eq] at hz; subst hz
    simp only [xlocs, xsta] at hs
    split at hs
    · obtain ⟨L1, h1, h2⟩ := Option.map_eq_some_iff.mp hs
      simp only [Prod.mk.injEq] at h2; obtain ⟨rfl, rfl⟩ := h2
      exact lv_astore_n hx hb hd rfl hL.has (by rw [← hL.2.1]; exact xst1_lt h1) rfl (fun ls1 hv => k ls1 (xst1_ok hL h1 hv))
    · obtain ⟨L1, h1, h2⟩ := Option.map_eq_some_iff.mp hs
      simp only [Prod.mk.injEq] at h2; obtain ⟨rfl, rfl⟩ := h2
      exact lv_astore_nN hx hb hd rfl hL.has (by rw [← hL.2.1]; exact xst1_lt h1) rfl (fun ls1 hv => k ls1 (xst1_ok hL h1 hv))
    · cases hs
  | astore k9 =>
    simp only [xsz, beq_iff_eq] at hz; subst hz
    simp only [xlocs, xsta] at hs
    split at hs
    · obtain ⟨L1, h1, h2⟩ := Option.map_eq_some_iff.mp hs
      simp only [Prod.mk.injEq] at h2; obtain ⟨rfl, rfl⟩ := h2
      exact lv_astore hx hb hd hL.has (by rw [← hL.2.1]; exact xst1_lt h1) rfl (fun ls1 hv => k ls1 (xst1_ok hL h1 hv))
    · obtain ⟨L1, h1, h2⟩ := Option.map_eq_some_iff.mp hs
      simp only [Prod.mk.injEq] at h2; obtain ⟨rfl, rfl⟩ := h2
      exact lv_astoreN hx hb hd hL.has (by rw [← hL.2.1]; exact xst1_lt h1) rfl (fun ls1 hv => k ls1 (xst1_ok hL h1 hv))
    · cases hs
  | iinc k9 k8 =>
    simp only [xsz, beq_iff_eq] at hz; subst hz
    simp only [xlocs] at hs
    split at hs
    · rename_i x hq
      obtain ⟨L1, h1, h2⟩ := Option.map_eq_some_iff.mp hs
      simp only [Prod.mk.injEq] at h2; obtain ⟨rfl, rfl⟩ := h2
      obtain ⟨k0, hk0⟩ := List.getElem?_of_mem (mem_xps.mpr hq)
      exact lv_iinc hx hb hd hL.has hk0 rfl (by rw [← hL.2.1]; exact xst1_lt h1) rfl (fun ls1 hv => k ls1 (xst1_ok hL h1 hv))
    · cases hs
  | _ => simp only [xlocs] at hs; cases hs
set_option maxHeartbeats 4000000 in
theorem xbr_ok {i : Instr} {pc' : Nat} (hx : p.tables.exec = Jvm.exec) (hb : c.code = cc) (hd : decode cc pc = .ok (i, len)) (hz : xsz i len = true) (hs : xbr pc i st = some (pc', st')) (k : W p l e R s m args below meth c H locs cells slots Q (F0 m pc' ls st')) : W p l e R s m args below meth c H locs cells slots Q (F0 m pc ls st) := by
  cases i with
  | goto off =>
    simp only [xsz, beq_iff_eq] at hz; subst hz
    simp only [xbr] at hs
    obtain ⟨t, ht, h2⟩ := Option.map_eq_some_iff.mp hs
    simp only [Prod.mk.injEq] at h2; obtain ⟨rfl, rfl⟩ := h2
    exact lv_goto hx hb hd (xjmp_inv ht) k
  | ifCond c9 off =>
    simp only [xsz, beq_iff_eq] at hz; subst hz
    simp only [xbr] at hs
    split at hs
    · obtain ⟨t, ht, h2⟩ := Option.map_eq_some_iff.mp hs
      simp only [Prod.mk.injEq] at h2; obtain ⟨rfl, rfl⟩ := h2
      cases c9 with
      | eq => exact lv_if_eq hx hb hd (xjmp_inv ht) (fun q => by rw [if_pos (by simp [xhold, q])] at k; exact k) (fun q => by rw [if_neg (by simp [xhold, q])] at k; exact k)
      | ne => exact lv_if_ne hx hb hd (xjmp_inv ht) (fun q => by rw [if_pos (by simp [xhold, q])] at k; exact k) (fun q => by rw [if_neg (by simp [xhold, q])] at k; exact k)
      | lt => exact lv_if_lt hx hb hd (xjmp_inv ht) (fun q => by rw [if_pos (by exact decide_eq_true q)] at k; exact k) (fun q => by rw [if_neg (by exact fun hh => q (of_decide_eq_true hh))] at k; exact k)
      | ge => exact lv_if_ge hx hb hd (xjmp_inv ht) (fun q => by rw [if_pos (by exact decide_eq_true q)] at k; exact k) (fun q => by rw [if_neg (by exact fun hh => q (of_decide_eq_true hh))] at k; exact k)
      | gt => exact lv_if_gt hx hb hd (xjmp_inv ht) (fun q => by rw [if_pos (by exact decide_eq_true q)] at k; exact k) (fun q => by rw [if_neg (by exact fun hh => q (of_decide_eq_true hh))] at k; exact k)
      | le => exact lv_if_le hx hb hd (xjmp_inv ht) (fun q => by rw [if_pos (by exact decide_eq_true q)] at k; exact k) (fun q => by rw [if_neg (by exact fun hh => q (of_decide_eq_true hh))] at k; exact k)
    · cases hs
  | if_icmp c9 off =>
    simp only [xsz, beq_iff_eq] at hz; subst hz
    simp only [xbr] at hs
    split at hs
    · obtain ⟨t, ht, h2⟩ := Option.map_eq_some_iff.mp hs
      simp only [Prod.mk.injEq] at h2; obtain ⟨rfl, rfl⟩ := h2
      cases c9 with
      | eq => exact lv_icmp_eq hx hb hd (xjmp_inv ht) (fun q => by rw [if_pos (by simp [xhold, q])] at k; exact k) (fun q => by rw [if_neg (by simp [xhold, q])] at k; exact k)
      | ne => exact lv_icmp_ne hx hb hd (xjmp_inv ht) (fun q => by rw [if_pos (by simp [xhold, q])] at k; exact k) (fun q => by rw [if_neg (by simp [xhold, q])] at k; exact k)
      | lt => exact lv_icmp_lt hx hb hd (xjmp_inv ht) (fun q => by rw [if_pos (by exact decide_eq_true q)] at k; exact k) (fun q => by rw [if_neg (by exact fun hh => q (of_decide_eq_true hh))] at k; exact k)
      | ge => exact lv_icmp_ge hx hb hd (xjmp_inv ht) (fun q => by rw [if_pos (by exact decide_eq_true q)] at k; exact k) (fun q => by rw [if_neg (by exact fun hh => q (of_decide_eq_true hh))] at k; exact k)
      | gt => exact lv_icmp_gt hx hb hd (xjmp_inv ht) (fun q => by rw [if_pos (by exact decide_eq_true q)] at k; exact k) (fun q => by rw [if_neg (by exact fun hh => q (of_decide_eq_true hh))] at k; exact k)
      | le => exact lv_icmp_le hx hb hd (xjmp_inv ht) (fun q => by rw [if_pos (by exact decide_eq_true q)] at k; exact k) (fun q => by rw [if_neg (by exact fun hh => q (of_decide_eq_true hh))] at k; exact k)
    · cases hs
  | ifnull off =>
    simp only [xsz, beq_iff_eq] at hz; subst hz
    simp only [xbr] at hs
    split at hs
    · obtain ⟨t, ht, h2⟩ := Option.map_eq_some_iff.mp hs
      simp only [Prod.mk.injEq] at h2; obtain ⟨rfl, rfl⟩ := h2
      exact lv_ifnullN hx hb hd (xjmp_inv ht) k
    · simp only [Option.some.injEq, Prod.mk.injEq] at hs; obtain ⟨rfl, rfl⟩ := hs
      exact lv_ifnull hx hb hd k
    · cases hs
  | ifnonnull off =>
    simp only [xsz, beq_iff_eq] at hz; subst hz
    simp only [xbr] at hs
    split at hs
    · simp only [Option.some.injEq, Prod.mk.injEq] at hs; obtain ⟨rfl, rfl⟩ := hs
      exact lv_ifnonnullN hx hb hd k
    · obtain ⟨t, ht, h2⟩ := Option.map_eq_some_iff.mp hs
      simp only [Prod.mk.injEq] at h2; obtain ⟨rfl, rfl⟩ := h2
      exact lv_ifnonnull hx hb hd (xjmp_inv ht) k
    · cases hs
  | if_acmp c9 off =>
    simp only [xsz, beq_iff_eq] at hz; subst hz
    simp only [xbr] at hs
    split at hs
    · obtain ⟨t, ht, h2⟩ := Option.map_eq_some_iff.mp hs
      simp only [Prod.mk.injEq] at h2; obtain ⟨rfl, rfl⟩ := h2
      cases c9 with
      | eq => exact lv_acmp_eq (rx := some _) (ry := some _) hx hb hd (xjmp_inv ht) (fun q => by rw [if_pos (decide_eq_true (Option.some.inj q))] at k; exact k) (fun q => by rw [if_neg (fun hh => q (congrArg some (of_decide_eq_true hh)))] at k; exact k)
      | ne => exact lv_acmp_ne (rx := some _) (ry := some _) hx hb hd (xjmp_inv ht) (fun q => by rw [if_pos (by simpa using fun z => q (congrArg some z))] at k; exact k) (fun q => by rw [if_neg (by simpa using Option.some.inj q)] at k; exact k)
    · obtain ⟨t, ht, h2⟩ := Option.map_eq_some_iff.mp hs
      simp only [Prod.mk.injEq] at h2; obtain ⟨rfl, rfl⟩ := h2
      cases c9 with
      | eq => exact lv_acmp_eq (rx := some _) (ry := none) hx hb hd (xjmp_inv ht) (fun q => by cases q) (fun _ => k)
      | ne => exact lv_acmp_ne (rx := some _) (ry := none) hx hb hd (xjmp_inv ht) (fun _ => k) (fun q => by cases q)
    · obtain ⟨t, ht, h2⟩ := Option.map_eq_some_iff.mp hs
      simp only [Prod.mk.injEq] at h2; obtain ⟨rfl, rfl⟩ := h2
      cases c9 with
      | eq => exact lv_acmp_eq (rx := none) (ry := some _) hx hb hd (xjmp_inv ht) (fun q => by cases q) (fun _ => k)
      | ne => exact lv_acmp_ne (rx := none) (ry := some _) hx hb hd (xjmp_inv ht) (fun _ => k) (fun q => by cases q)
    · obtain ⟨t, ht, h2⟩ := Option.map_eq_some_iff.mp hs
      simp only [Prod.mk.injEq] at h2; obtain ⟨rfl, rfl⟩ := h2
      cases c9 with
      | eq => exact lv_acmp_eq (rx := none) (ry := none) hx hb hd (xjmp_inv ht) (fun _ => k) (fun q => absurd rfl q)
      | ne => exact lv_acmp_ne (rx := none) (ry := none) hx hb hd (xjmp_inv ht) (fun q => absurd rfl q) (fun _ => k)
    · cases hs
  | tableswitch d lo hi offs =>
    simp only [xbr] at hs
    split at hs
    · split at hs
      · rename_i hq
        obtain ⟨t, ht, h2⟩ := Option.map_eq_some_iff.mp hs
        simp only [Prod.mk.injEq] at h2; obtain ⟨rfl, rfl⟩ := h2
        exact lv_tableOut hx hb hd hq (xjmp_inv ht) k
      · rename_i hq
        split at hs
        · rename_i off ho
          obtain ⟨t, ht, h2⟩ := Option.map_eq_some_iff.mp hs
          simp only [Prod.mk.injEq] at h2; obtain ⟨rfl, rfl⟩ := h2
          exact lv_tableIn hx hb hd (fun z => hq (Or.inl z)) (fun z => hq (Or.inr z)) ho (xjmp_inv ht) k
        · cases hs
    · cases hs
  | lookupswitch d ps =>
    simp only [xbr] at hs
    split at hs
    · split at hs
      · rename_i hq
        obtain ⟨t, ht, h2⟩ := Option.map_eq_some_iff.mp hs
        simp only [Prod.mk.injEq] at h2; obtain ⟨rfl, rfl⟩ := h2
        exact lv_lookup hx hb hd hq rfl (xjmp_inv ht) k
      · cases hs
    · cases hs
  | _ => simp only [xbr] at hs; cases hs
end XS2
