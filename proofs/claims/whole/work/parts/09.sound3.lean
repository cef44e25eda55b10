/-! SOUND, 3: the heap -/
def xA (N0 : Nat) : Nat → Prop := fun q => N0 ≤ q
def xCell (D : va_G) (ar : Nat → ClassId) (a : Nat) (e : xE) (H : Heap) : Prop := match e with
  | .inl x => xtu x.1 = true ∧ H[a]? = some (arrV (ar x.1) x.2.1 x.2.2)
  | .inr o => va_at D vwCl (a, .inr o) H
def xHR (D : va_G) (ar : Nat → ClassId) (N0 : Nat) (h : xH) (H : Heap) : Prop := H.size = h.1 ∧ N0 ≤ h.1 ∧ ∀ (a : Nat) (e : xE), h.2.2.2 a = some e → N0 ≤ a ∧ xCell D ar a e H
def xKA (ar : Nat → ClassId) (s : State) : Prop := ∀ t : Nat, xtu t = true → ArrOfT s (ar t) (xty t) ∧ va_RA s (ar t) (xty t)
/-- what the start of a method knows beside its own code -/
def xCx (D : va_G) (ar : Nat → ClassId) (N0 : Nat) (g : xG) (s : State) : Prop :=
  va_K D vwCl [] s ∧ xKA ar s ∧ (∀ w ∈ xnl, va_Nw w s) ∧ (∀ t : Nat, xtr t = true → va_AO (vwCl.getD (t - 10) (RX0, TX0, 1)).1 s) ∧ N0 ≤ s.heap.size ∧
  va_Z "ViewedBank$Kinds" "VIEWED_AS" "[I" (.ref g.2.2.2.1) (xA N0) s s.heap ∧ va_T .int g.2.2.2.1 8 (fun j => .int (xvs j)) (xA N0) s s.heap ∧ va_T .int g.1 g.2.1 (fun j => .int (g.2.2.1 j)) (xA N0) s s.heap ∧
  vk_R "ViewedBank$Paper" 27 "zbcsijfdol" g.2.2.2.2 s ∧ (∃ adV : Nat → Nat, vk_S 1 [10] [[122, 98, 99, 115, 105, 106, 102, 100, 111, 108]] (fun _ => g.2.2.2.2) adV (xA N0) s s.heap) ∧
  va_Z "java/lang/String" "COMPACT_STRINGS" "Z" (.int 1) (xA N0) s s.heap ∧ va_Zq "jdk/internal/util/Preconditions" "SIOOBE_FORMATTER" "Ljava/util/function/BiFunction;" (xA N0) s s.heap
theorem xCell.kept {D : va_G} {ar : Nat → ClassId} {a : Nat} {e : xE} {H H1 : Heap} (h : xCell D ar a e H) (hq : H1[a]? = H[a]?) : xCell D ar a e H1 := by
  cases e with
  | inl x => exact ⟨h.1, hq.trans h.2⟩
  | inr o => exact va_at.kept (q := (a, .inr o)) h hq
theorem xCell.lt {D : va_G} {ar : Nat → ClassId} {a : Nat} {e : xE} {H : Heap} (h : xCell D ar a e H) : a < H.size := by
  cases e with
  | inl x => exact (Array.getElem?_eq_some_iff.mp h.2).1
  | inr o => exact va_at.lt (q := (a, .inr o)) h
theorem xHR.set {D : va_G} {ar : Nat → ClassId} {N0 : Nat} {h h' : xH} {H H1 : Heap} (hR : xHR D ar N0 h H) (hn : h'.1 = h.1) {a : Nat} {e : xE} (hm : ∀ q, h'.2.2.2 q = if q = a then some e else h.2.2.2 q) (ha : N0 ≤ a) (he : xCell D ar a e H1) (z : H1.size = H.size) (oq : ∀ q : Nat, q ≠ a → H1[q]? = H[q]?) : xHR D ar N0 h' H1 := by
  refine ⟨by rw [z, hn]; exact hR.1, by rw [hn]; exact hR.2.1, fun b e2 hb => ?_⟩
  rw [hm b] at hb
  split at hb
  · rename_i q
    subst q
    cases hb
    exact ⟨ha, he⟩
  · rename_i q
    obtain ⟨h1, h2⟩ := hR.2.2 b e2 hb
    exact ⟨h1, h2.kept (oq b q)⟩
theorem xHR.new {D : va_G} {ar : Nat → ClassId} {N0 k : Nat} {h : xH} {H H1 : Heap} {e : xE} (hR : xHR D ar N0 h H) (he : xCell D ar H.size e H1) (z : H1.size = H.size + 1) (oq : ∀ q : Nat, q < H.size → H1[q]? = H[q]?) : xHR D ar N0 (xnew h e k) H1 := by
  refine ⟨by rw [z, hR.1]; rfl, Nat.le_succ_of_le hR.2.1, fun b e2 hb => ?_⟩
  have hb : (if b = h.1 then some e else h.2.2.2 b) = some e2 := hb
  by_cases q : b = h.1
  · rw [if_pos q] at hb
    cases hb
    rw [hR.1] at he
    rw [q]
    exact ⟨hR.2.1, he⟩
  · rw [if_neg q] at hb
    obtain ⟨h1, h2⟩ := hR.2.2 b e2 hb
    exact ⟨h1, h2.kept (oq b h2.lt)⟩
theorem xin_ok {j : Int32} {n : Nat} (h : xin j n = true) : ¬ (j < 0 ∨ n ≤ j.toNatClampNeg) := by
  unfold xin at h
  intro q
  rcases q with q | q
  · rw [decide_eq_true q] at h; cases h
  · rw [decide_eq_true q, Bool.or_true] at h; cases h
theorem xf_inv {h : xH} {a ci k : Nat} {v : Value} (e : xf h a ci k = some v) : ∃ fs, h.2.2.2 a = some (.inr (ci, fs)) ∧ fs[k]? = some v := by
  unfold xf at e
  split at e
  · rename_i c fs hq
    split at e
    · rename_i hc
      subst hc
      exact ⟨fs, hq, e⟩
    · cases e
  · cases e
theorem xa_inv {h : xH} {a t n : Nat} {f : Nat → Value} (e : xa h a t = some (n, f)) : h.2.2.2 a = some (.inl (t, n, f)) := by
  unfold xa at e
  split at e
  · rename_i u n' f' hq
    split at e
    · rename_i hc
      subst hc
      cases e
      exact hq
    · cases e
  · cases e
theorem xcl_inv {h : xH} {a ci : Nat} (e : xcl h a = some ci) : ∃ fs, h.2.2.2 a = some (.inr (ci, fs)) := by
  unfold xcl at e
  split at e
  · rename_i c fs hq
    cases e
    exact ⟨fs, hq⟩
  · cases e
theorem xpf_at {h : xH} {a ci k : Nat} {v : Value} {fs : List Value} (e : h.2.2.2 a = some (.inr (ci, fs))) (q : Nat) : (xpf h a ci k v).2.2.2 q = if q = a then some (.inr (ci, fs.set k v)) else h.2.2.2 q := by
  unfold xpf
  dsimp only
  rw [e]
  simp
theorem xpa_at {h : xH} {a t n i : Nat} {v : Value} {f : Nat → Value} (e : h.2.2.2 a = some (.inl (t, n, f))) (q : Nat) : (xpa h a t i v).2.2.2 q = if q = a then some (.inl (t, n, updV f i v)) else h.2.2.2 q := by
  unfold xpa
  dsimp only
  rw [e]
  simp
theorem xFl_out {c : Nat} (h : ¬ c < 18) : xFl c = [] := by
  unfold xFl
  split <;> first | rfl | omega
theorem xMl_out {c : Nat} (h : ¬ c < 18) : xMl c = [] := by
  unfold xMl
  split <;> first | rfl | omega
theorem xCl_out {c : Nat} (h : ¬ c < 18) : xCl c = [] := by
  unfold xCl
  split <;> first | rfl | omega
theorem xKl_out {c : Nat} (h : ¬ c < 18) : xKl c = [] := by
  unfold xKl
  split <;> first | rfl | omega
theorem xK2l_out {c : Nat} (h : ¬ c < 18) : xK2l c = [] := by
  unfold xK2l
  split <;> first | rfl | omega
theorem xKdl_out {c : Nat} (h : ¬ c < 18) : xKdl c = [] := by
  unfold xKdl
  split <;> first | rfl | omega
theorem xF_inv {c n : Nat} {q : Nat × Nat × Nat × Nat × Nat × Nat} (h : xF c n = some q) : ∃ r : vw_C, vwCl[q.2.1]? = some r ∧ q.2.2.1 < r.2.2 ∧ Cond.fieldLink (xcn c) n (r.2.1 q.2.2.1).1 (r.2.1 q.2.2.1).2.1 (r.2.1 q.2.2.1).2.2.1 ∈ xws ∧ (r.2.1 q.2.2.1).2.2.2 = (q.2.2.2.2.1 == 1) ∧ (∃ ty, parseFieldDescriptor (r.2.1 q.2.2.1).2.2.1 = some ty ∧ xtok q.2.2.2.1 ty = true) ∧ (r.2.1 q.2.2.1).1 = r.1 := by
  have h1 := List.find?_some h
  have h2 := List.mem_of_find?_eq_some h
  have hc : c < 18 := by
    rcases Nat.lt_or_ge c 18 with z | z
    · exact z
    · rw [xFl_out (by omega)] at h2; cases h2
  have h3 := List.all_eq_true.mp (xchkF_all c hc) q h2
  have hn : q.1 = n := by simpa using h1
  subst hn
  unfold xchkF at h3
  split at h3
  · rename_i r hr
    simp only [Bool.and_eq_true, decide_eq_true_eq, beq_iff_eq] at h3
    obtain ⟨⟨⟨⟨a1, a2⟩, a3⟩, a4⟩, a5⟩ := h3
    refine ⟨r, hr, Nat.lt_of_succ_le (by simpa [Nat.blt] using a1), xw_mem a2 rfl, a3, ?_, a5⟩
    split at a4
    · rename_i ty hty
      exact ⟨ty, hty, a4⟩
    · cases a4
  · cases h3
theorem xC_inv {c n : Nat} {q : Nat × Nat × Nat} (h : xC c n = some q) : ∃ r : vw_C, vwCl[q.2.1]? = some r ∧ Cond.classLink (xcn c) n r.1 ∈ xws := by
  have h1 := List.find?_some h
  have h2 := List.mem_of_find?_eq_some h
  have hc : c < 18 := by
    rcases Nat.lt_or_ge c 18 with z | z
    · exact z
    · rw [xCl_out (by omega)] at h2; cases h2
  have h3 := List.all_eq_true.mp (xchkC_all c hc) q h2
  have hn : q.1 = n := by simpa using h1
  subst hn
  unfold xchkC at h3
  split at h3
  · rename_i r hr
    exact ⟨r, hr, xw_mem (of_decide_eq_true h3) rfl⟩
  · cases h3
theorem xK_inv {c n : Nat} {q : Nat × Int32 × Nat} (h : xK c n = some q) : Cond.constant (xcn c) n q.2.1 ∈ xws := by
  have h1 := List.find?_some h
  have h2 := List.mem_of_find?_eq_some h
  have hc : c < 18 := by
    rcases Nat.lt_or_ge c 18 with z | z
    · exact z
    · rw [xKl_out (by omega)] at h2; cases h2
  have h3 := List.all_eq_true.mp (xchkK_all c hc) q h2
  have hn : q.1 = n := by simpa using h1
  subst hn
  exact xw_mem (of_decide_eq_true h3) rfl
theorem xK2_inv {c n : Nat} {q : Nat × Int64 × Nat} (h : xK2 c n = some q) : Cond.constantLong (xcn c) n q.2.1 ∈ xws := by
  have h1 := List.find?_some h
  have h2 := List.mem_of_find?_eq_some h
  have hc : c < 18 := by
    rcases Nat.lt_or_ge c 18 with z | z
    · exact z
    · rw [xK2l_out (by omega)] at h2; cases h2
  have h3 := List.all_eq_true.mp (xchkK2_all c hc) q h2
  have hn : q.1 = n := by simpa using h1
  subst hn
  exact xw_mem (of_decide_eq_true h3) rfl
theorem xKd_inv {c n : Nat} {q : Nat × UInt64 × Nat} (h : xKd c n = some q) : Cond.constantDouble (xcn c) n q.2.1 ∈ xws := by
  have h1 := List.find?_some h
  have h2 := List.mem_of_find?_eq_some h
  have hc : c < 18 := by
    rcases Nat.lt_or_ge c 18 with z | z
    · exact z
    · rw [xKdl_out (by omega)] at h2; cases h2
  have h3 := List.all_eq_true.mp (xchkKd_all c hc) q h2
  have hn : q.1 = n := by simpa using h1
  subst hn
  exact xw_mem (of_decide_eq_true h3) rfl
theorem xcl_ok {ci : Nat} {r : vw_C} (hr : vwCl[ci]? = some r) : (∀ w ∈ u_ws r.1 r.2.1 r.2.2, w ∈ xws) ∧ Cond.instantiable r.1 r.2.2 ∈ xws ∧ Cond.initialized r.1 ∈ xws ∧ (xdef ci).length = r.2.2 := by
  have hc : ci < 12 := (List.getElem?_eq_some_iff.mp hr).1
  have h3 := xchkL_all ci hc
  rw [hr] at h3
  simp only [Bool.and_eq_true, decide_eq_true_eq, List.all_eq_true] at h3
  obtain ⟨⟨⟨a1, a2⟩, a3⟩, a4⟩ := h3
  refine ⟨fun w hw => ?_, xw_mem a2 rfl, xw_mem a3 rfl, a4⟩
  obtain ⟨k, hk, rfl⟩ := List.mem_map.mp hw
  refine xw_mem (a1 k hk) ?_
  unfold u_lay
  split <;> rfl
theorem xcl_ty {ci : Nat} {r : vw_C} (hr : vwCl[ci]? = some r) : ∃ ty0 : Nat → FieldType, (∀ k, k < r.2.2 → parseFieldDescriptor (r.2.1 k).2.2.1 = some (ty0 k)) ∧ (∀ a, a < r.2.2 → ∀ b, b < r.2.2 → a ≠ b → (r.2.1 a).2.1 ≠ (r.2.1 b).2.1) ∧ ∀ j, j < r.2.2 → defaultValue (ty0 j) = vp_V (xdef ci) j := by
  have hc : ci < 12 := (List.getElem?_eq_some_iff.mp hr).1
  match ci, hc, hr with
  | 0, _, hr => cases hr; exact ⟨tyX0, tyX0_ok, nmX0, by decide +kernel⟩
  | 1, _, hr => cases hr; exact ⟨tyX1, tyX1_ok, nmX1, by decide +kernel⟩
  | 2, _, hr => cases hr; exact ⟨tyX2, tyX2_ok, nmX2, by decide +kernel⟩
  | 3, _, hr => cases hr; exact ⟨tyX3, tyX3_ok, nmX3, by decide +kernel⟩
  | 4, _, hr => cases hr; exact ⟨tyX5, tyX5_ok, nmX5, by decide +kernel⟩
  | 5, _, hr => cases hr; exact ⟨tyX6, tyX6_ok, nmX6, by decide +kernel⟩
  | 6, _, hr => cases hr; exact ⟨tyX7, tyX7_ok, nmX7, by decide +kernel⟩
  | 7, _, hr => cases hr; exact ⟨tyX8, tyX8_ok, nmX8, by decide +kernel⟩
  | 8, _, hr => cases hr; exact ⟨tyX9, tyX9_ok, nmX9, by decide +kernel⟩
  | 9, _, hr => cases hr; exact ⟨tyX10, tyX10_ok, nmX10, by decide +kernel⟩
  | 10, _, hr => cases hr; exact ⟨tyX11, tyX11_ok, nmX11, by decide +kernel⟩
  | 11, _, hr => cases hr; exact ⟨tyX12, tyX12_ok, nmX12, by decide +kernel⟩
  | k + 12, hc, _ => exact absurd hc (by omega)
theorem xtr_inv {t : Nat} (h : xtr t = true) : ∃ r : vw_C, vwCl[t - 10]? = some r ∧ xty t = .object r.1 ∧ (vwCl.getD (t - 10) (RX0, TX0, 1)).1 = r.1 ∧ xtu t = true := by
  have h2 : xtu t = true := by unfold xtu; rw [h, Bool.or_true]
  simp only [xtr, Bool.or_eq_true, beq_iff_eq] at h
  rcases h with (((rfl | rfl) | rfl) | rfl) | rfl <;> exact ⟨_, rfl, rfl, rfl, h2⟩
theorem xtag_inv {h : xH} {a t : Nat} {e : Nat × Nat × (Nat → Value)} (hq : h.2.2.2 a = some (.inl e)) : xtag h a = e.1 := by
  unfold xtag
  rw [hq]
