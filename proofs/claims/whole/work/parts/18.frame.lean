/-! THE FRAME RULE of the executor: what runs over a heap runs over a larger one, and leaves the rest alone -/
def xext (h : xH) (M : Nat → Option xE) : xH := (h.1, h.2.1, h.2.2.1, fun q => match h.2.2.2 q with
  | some e => some e
  | none => M q)
theorem xext_some {h : xH} {M : Nat → Option xE} {a : Nat} {e : xE} (he : h.2.2.2 a = some e) : (xext h M).2.2.2 a = some e := by
  unfold xext
  dsimp only
  rw [he]
theorem xext_none {h : xH} {M : Nat → Option xE} {a : Nat} (he : h.2.2.2 a = none) : (xext h M).2.2.2 a = M a := by
  unfold xext
  dsimp only
  rw [he]
section XFR
variable {h h' : xH} {M : Nat → Option xE} {a b ci k t : Nat} {v : Value} {g : xG}
theorem xf_ext (he : xf h a ci k = some v) : xf (xext h M) a ci k = some v := by
  obtain ⟨fs, h1, h2⟩ := xf_inv he
  unfold xf
  rw [xext_some h1]
  dsimp only
  rw [if_pos rfl]
  exact h2
theorem xcl_ext (he : xcl h a = some ci) : xcl (xext h M) a = some ci := by
  obtain ⟨fs, h1⟩ := xcl_inv he
  unfold xcl
  rw [xext_some h1]
theorem xa_ext {q : Nat × (Nat → Value)} (he : xa h a t = some q) : xa (xext h M) a t = some q := by
  obtain ⟨n, f⟩ := q
  unfold xa
  rw [xext_some (xa_inv he)]
  dsimp only
  rw [if_pos rfl]
theorem xtag_ext {e : xE} (he : h.2.2.2 a = some e) : xtag (xext h M) a = xtag h a := by
  unfold xtag
  rw [xext_some he, he]
theorem xpf_ext {e : xE} (he : h.2.2.2 a = some e) : xpf (xext h M) a ci k v = xext (xpf h a ci k v) M := by
  unfold xpf xext
  dsimp only
  congr 3
  funext q
  by_cases hq : q = a
  · subst hq
    rw [if_pos rfl, if_pos rfl, he]
    dsimp only
    rcases e with e | ⟨c, fs⟩
    · rfl
    · dsimp only
      split <;> rfl
  · rw [if_neg hq, if_neg hq]
theorem xpa_ext {e : xE} {i : Nat} (he : h.2.2.2 a = some e) : xpa (xext h M) a t i v = xext (xpa h a t i v) M := by
  unfold xpa xext
  dsimp only
  congr 3
  funext q
  by_cases hq : q = a
  · subst hq
    rw [if_pos rfl, if_pos rfl, he]
    dsimp only
    rcases e with ⟨u, n, f⟩ | e
    · dsimp only
      split <;> rfl
    · rfl
  · rw [if_neg hq, if_neg hq]
theorem xnew_ext {e : xE} : xnew (xext h M) e k = xext (xnew h e k) M := by
  unfold xnew xext
  dsimp only
  congr 3
  funext q
  by_cases hq : q = h.1
  · rw [if_pos hq, if_pos hq]
  · rw [if_neg hq, if_neg hq]
theorem xald_ext {j : Int32} (he : xald h a t j = some v) : xald (xext h M) a t j = some v := by
  unfold xald at he ⊢
  split at he
  · rename_i n f hq
    rw [xa_ext hq]
    exact he
  · cases he
theorem xast_ext {j : Int32} (he : xast h a t j v = some h') : xast (xext h M) a t j v = some (xext h' M) := by
  obtain ⟨n, f, h1, h2, rfl⟩ := xast_inv he
  unfold xast at he ⊢
  rw [xa_ext (xa_of h1)]
  rw [xa_of h1] at he
  dsimp only at he ⊢
  split at he
  · rename_i hi
    rw [if_pos hi, xpa_ext h1]
  · cases he
theorem xaldi_ext {j : Int32} (hM : ∀ a, (xro g a).isSome = true → M a = none) (he : xaldi g h a j = some v) : xaldi g (xext h M) a j = some v := by
  unfold xaldi at he ⊢
  split at he
  · rename_i n f hq
    rw [xa_ext hq]
    exact he
  · rename_i hq
    split at he
    · rename_i n f hr
      have hm := hM a (by rw [hr]; rfl)
      have : xa (xext h M) a 0 = none := by
        cases hc : h.2.2.2 a with
        | none =>
          unfold xa
          rw [xext_none hc, hm]
        | some e =>
          unfold xa at hq ⊢
          rw [xext_some hc]
          rw [hc] at hq
          exact hq
      rw [this]
      exact he
    · cases he
theorem xlen_ext {n : Nat} (hM : ∀ a, (xro g a).isSome = true → M a = none) (he : xlen g h a = some n) : xlen g (xext h M) a = some n := by
  cases hc : h.2.2.2 a with
  | some e =>
    unfold xlen at he ⊢
    rw [xext_some hc]
    rw [hc] at he
    exact he
  | none =>
    unfold xlen at he ⊢
    rw [hc] at he
    dsimp only at he
    have hm := hM a (by
      cases hr : xro g a with
      | none => rw [hr] at he; cases he
      | some z => rfl)
    rw [xext_none hc, hm]
    exact he
set_option maxHeartbeats 1000000 in
theorem xheap_ext {cn : Nat} {isI : Bool} {i : Instr} {st st' : List Value} (hM : ∀ a, (xro g a).isSome = true → M a = none) (hs : xheap g cn isI i st h = some (st', h')) : xheap g cn isI i st (xext h M) = some (st', xext h' M) := by
  cases i with
  | getfield n =>
    simp only [xheap] at hs ⊢
    split at hs
    · rename_i q a r hq
      obtain ⟨v, hv, h2⟩ := Option.map_eq_some_iff.mp hs
      simp only [Prod.mk.injEq] at h2; obtain ⟨rfl, rfl⟩ := h2
      try rw [hq]
      try dsimp only
      rw [xf_ext hv]
      rfl
    · cases hs
  | putfield n =>
    simp only [xheap] at hs ⊢
    split at hs
    · rename_i q v a r hq
      split at hs
      · rename_i hc
        simp only [Option.some.injEq, Prod.mk.injEq] at hs; obtain ⟨rfl, rfl⟩ := hs
        try rw [hq]
        try dsimp only
        simp only [Bool.and_eq_true] at hc
        obtain ⟨c12, c3⟩ := hc
        obtain ⟨v0, hv0⟩ := Option.isSome_iff_exists.mp c3
        obtain ⟨fs, h1, -⟩ := xf_inv hv0
        rw [xf_ext hv0, xpf_ext h1]
        rw [if_pos (by simp only [Bool.and_eq_true]; exact ⟨c12, rfl⟩)]
      · cases hs
    · cases hs
  | getstatic n =>
    simp only [xheap] at hs ⊢
    split at hs
    · rename_i hc
      simp only [Option.some.injEq, Prod.mk.injEq] at hs; obtain ⟨rfl, rfl⟩ := hs
      rw [if_pos hc]
    · cases hs
  | iaload =>
    simp only [xheap] at hs ⊢
    split at hs
    · obtain ⟨v, hv, h2⟩ := Option.map_eq_some_iff.mp hs
      simp only [Prod.mk.injEq] at h2; obtain ⟨rfl, rfl⟩ := h2
      rw [xaldi_ext hM hv]
      rfl
    · cases hs
  | laload =>
    simp only [xheap] at hs ⊢
    split at hs
    · obtain ⟨v, hv, h2⟩ := Option.map_eq_some_iff.mp hs
      simp only [Prod.mk.injEq] at h2; obtain ⟨rfl, rfl⟩ := h2
      rw [xald_ext hv]
      rfl
    · cases hs
  | baload =>
    simp only [xheap] at hs ⊢
    split at hs
    · split at hs
      · rename_i ht
        obtain ⟨v, hv, h2⟩ := Option.map_eq_some_iff.mp hs
        simp only [Prod.mk.injEq] at h2; obtain ⟨rfl, rfl⟩ := h2
        obtain ⟨n, f, h1, -, -⟩ := xald_inv hv
        rw [xtag_ext h1, if_pos ht, xald_ext hv]
        rfl
      · rename_i ht
        obtain ⟨v, hv, h2⟩ := Option.map_eq_some_iff.mp hs
        simp only [Prod.mk.injEq] at h2; obtain ⟨rfl, rfl⟩ := h2
        obtain ⟨n, f, h1, -, -⟩ := xald_inv hv
        rw [xtag_ext h1, if_neg ht, xald_ext hv]
        rfl
    · cases hs
  | aaload =>
    simp only [xheap] at hs ⊢
    split at hs
    · split at hs
      · rename_i ht
        obtain ⟨v, hv, h2⟩ := Option.map_eq_some_iff.mp hs
        simp only [Prod.mk.injEq] at h2; obtain ⟨rfl, rfl⟩ := h2
        obtain ⟨n, f, h1, -, -⟩ := xald_inv hv
        rw [xtag_ext h1, if_pos ht, xald_ext hv]
        rfl
      · cases hs
    · cases hs
  | iastore =>
    simp only [xheap] at hs ⊢
    split at hs
    · obtain ⟨h1, hv, h2⟩ := Option.map_eq_some_iff.mp hs
      simp only [Prod.mk.injEq] at h2; obtain ⟨rfl, rfl⟩ := h2
      rw [xast_ext hv]
      rfl
    · cases hs
  | lastore =>
    simp only [xheap] at hs ⊢
    split at hs
    · obtain ⟨h1, hv, h2⟩ := Option.map_eq_some_iff.mp hs
      simp only [Prod.mk.injEq] at h2; obtain ⟨rfl, rfl⟩ := h2
      rw [xast_ext hv]
      rfl
    · cases hs
  | bastore =>
    simp only [xheap] at hs ⊢
    split at hs
    · split at hs
      · rename_i ht
        obtain ⟨h1, hv, h2⟩ := Option.map_eq_some_iff.mp hs
        simp only [Prod.mk.injEq] at h2; obtain ⟨rfl, rfl⟩ := h2
        obtain ⟨n, f, h3, -, -⟩ := xast_inv hv
        rw [xtag_ext h3, if_pos ht, xast_ext hv]
        rfl
      · rename_i ht
        obtain ⟨h1, hv, h2⟩ := Option.map_eq_some_iff.mp hs
        simp only [Prod.mk.injEq] at h2; obtain ⟨rfl, rfl⟩ := h2
        obtain ⟨n, f, h3, -, -⟩ := xast_inv hv
        rw [xtag_ext h3, if_neg ht, xast_ext hv]
        rfl
    · cases hs
  | aastore =>
    simp only [xheap] at hs ⊢
    split at hs
    · split at hs
      · rename_i ht
        obtain ⟨h1, hv, h2⟩ := Option.map_eq_some_iff.mp hs
        simp only [Prod.mk.injEq] at h2; obtain ⟨rfl, rfl⟩ := h2
        obtain ⟨n, f, h3, -, -⟩ := xast_inv hv
        try dsimp only
        rw [xtag_ext h3, if_pos ht, xast_ext hv]
        rfl
      · cases hs
    · split at hs
      · rename_i ht
        obtain ⟨h1, hv, h2⟩ := Option.map_eq_some_iff.mp hs
        simp only [Prod.mk.injEq] at h2; obtain ⟨rfl, rfl⟩ := h2
        obtain ⟨n, f, h3, -, -⟩ := xast_inv hv
        have ht2 := ht
        simp only [Bool.and_eq_true, beq_iff_eq] at ht2
        try dsimp only
        rw [xtag_ext h3, xcl_ext ht2.2, if_pos (by rw [ht2.1]; simp), xast_ext hv]
        rfl
      · cases hs
    · cases hs
  | arraylength =>
    simp only [xheap] at hs ⊢
    split at hs
    · obtain ⟨n, hv, h2⟩ := Option.map_eq_some_iff.mp hs
      simp only [Prod.mk.injEq] at h2; obtain ⟨rfl, rfl⟩ := h2
      rw [xlen_ext hM hv]
      rfl
    · cases hs
  | new n =>
    simp only [xheap] at hs ⊢
    obtain ⟨q, hq, h2⟩ := Option.map_eq_some_iff.mp hs
    simp only [Prod.mk.injEq] at h2; obtain ⟨rfl, rfl⟩ := h2
    rw [hq]
    show some (_, xnew (xext h M) _ _) = _
    rw [xnew_ext]
    rfl
  | newarray t =>
    simp only [xheap] at hs ⊢
    split at hs
    · split at hs
      · cases hs
      · rename_i hc
        simp only [Option.some.injEq, Prod.mk.injEq] at hs; obtain ⟨rfl, rfl⟩ := hs
        rw [if_neg hc, xnew_ext]
        rfl
    · cases hs
  | anewarray n =>
    simp only [xheap] at hs ⊢
    split at hs
    · rename_i q n9 r9 hq
      split at hs
      · cases hs
      · rename_i hc
        simp only [Option.some.injEq, Prod.mk.injEq] at hs; obtain ⟨rfl, rfl⟩ := hs
        try rw [hq]
        try dsimp only
        rw [if_neg hc, xnew_ext]
        rfl
    · cases hs
  | ldc n =>
    simp only [xheap] at hs ⊢
    split at hs
    · rename_i hc
      simp only [Option.some.injEq, Prod.mk.injEq] at hs; obtain ⟨rfl, rfl⟩ := hs
      rw [if_pos hc]
    · rename_i hc
      obtain ⟨q, hq, h2⟩ := Option.map_eq_some_iff.mp hs
      simp only [Prod.mk.injEq] at h2; obtain ⟨rfl, rfl⟩ := h2
      rw [if_neg hc, hq]
      rfl
  | ldc_w n =>
    simp only [xheap] at hs ⊢
    obtain ⟨q, hq, h2⟩ := Option.map_eq_some_iff.mp hs
    simp only [Prod.mk.injEq] at h2; obtain ⟨rfl, rfl⟩ := h2
    try rw [hq]
    rfl
  | ldc2_w n =>
    simp only [xheap] at hs ⊢
    split at hs
    · rename_i q hq
      simp only [Option.some.injEq, Prod.mk.injEq] at hs; obtain ⟨rfl, rfl⟩ := hs
      first | rfl | (rw [hq]; done) | (rw [hq]; rfl)
    · rename_i hq0
      obtain ⟨q, hq, h2⟩ := Option.map_eq_some_iff.mp hs
      simp only [Prod.mk.injEq] at h2; obtain ⟨rfl, rfl⟩ := h2
      try rw [hq0]
      try dsimp only
      try rw [hq]
      rfl
  | _ => simp only [xheap] at hs; cases hs
end XFR
section XFR2
variable {h h' : xH} {M : Nat → Option xE} {g : xG} {y c fr lo pc len : Nat} {isI : Bool} {i : Instr} {L : List Slot} {st : List Value} {rt : Option FieldType}
theorem xnat_heap {st' : List Value} (hs : xnat g c fr lo i st = some st') (c' : Nat) (h : xH) : xheap g c' isI i st h = none := by
  cases i with
  | invokespecial n => rfl
  | invokestatic n => rfl
  | invokevirtual n => rfl
  | _ =>
    rw [xnat_no (by simp) (by simp) (by simp)] at hs
    cases hs
theorem xinv_heap {z : Nat × List Value × List Value} (hs : xinv y i st h = some z) (c' : Nat) (h2 : xH) : xheap g c' isI i st h2 = none := by
  cases i with
  | invokespecial n => rfl
  | invokestatic n => rfl
  | invokevirtual n => rfl
  | _ => simp only [xinv] at hs; cases hs
theorem xret_heap {v : Option Value} (hs : xret rt i st = some v) (c' : Nat) (h2 : xH) : xheap g c' isI i st h2 = none ∧ xinv y i st h2 = none := by
  cases i with
  | ireturn => exact ⟨rfl, rfl⟩
  | lreturn => exact ⟨rfl, rfl⟩
  | dreturn => exact ⟨rfl, rfl⟩
  | areturn => exact ⟨rfl, rfl⟩
  | return_ => exact ⟨rfl, rfl⟩
  | _ => simp only [xret] at hs; cases hs
theorem xinv_ext {z : Nat × List Value × List Value} (hs : xinv y i st h = some z) : xinv y i st (xext h M) = some z := by
  cases i with
  | invokespecial n => exact hs
  | invokestatic n => exact hs
  | invokevirtual n =>
    simp only [xinv] at hs ⊢
    split at hs
    · rename_i a1 y1 k1 p1 hq
      try rw [hq]
      try dsimp only
      split at hs
      · rename_i b r1 hst
        try rw [hst]
        try dsimp only
        split at hs
        · rename_i hc
          have hc2 := hc
          simp only [Bool.and_eq_true, beq_iff_eq] at hc2
          rw [xcl_ext hc2.1.1.2]
          rw [hc2.1.1.2] at hc
          rw [if_pos hc]
          exact hs
        · cases hs
      · cases hs
    · cases hs
  | _ => simp only [xinv] at hs; cases hs
def xoe (M : Nat → Option xE) (o : (Nat × List Slot × List Value × xH) ⊕ ((Nat × List Value × Nat × List Slot × List Value × xH) ⊕ xR)) : (Nat × List Slot × List Value × xH) ⊕ ((Nat × List Value × Nat × List Slot × List Value × xH) ⊕ xR) := match o with
  | .inl (pc, L, st, h) => .inl (pc, L, st, xext h M)
  | .inr (.inl (y, as, pc, L, st, h)) => .inr (.inl (y, as, pc, L, st, xext h M))
  | .inr (.inr (v, h)) => .inr (.inr (v, xext h M))
theorem xins_ext (hM : ∀ a, (xro g a).isSome = true → M a = none) {o : (Nat × List Slot × List Value × xH) ⊕ ((Nat × List Value × Nat × List Slot × List Value × xH) ⊕ xR)} (hs : xins g y i len pc L st h = some o) : xins g y i len pc L st (xext h M) = some (xoe M o) := by
  unfold xins at hs ⊢
  split at hs
  · rename_i st' hq
    cases hs
    try rw [hq]
    rfl
  · rename_i hq
    try rw [hq]
    try dsimp only
    split at hs
    · rename_i L' st' hq
      cases hs
      try rw [hq]
      rfl
    · rename_i hq
      try rw [hq]
      try dsimp only
      split at hs
      · rename_i pc' st' hq
        cases hs
        try rw [hq]
        rfl
      · rename_i hq
        try rw [hq]
        try dsimp only
        split at hs
        · rename_i st' h' hq
          cases hs
          rw [xheap_ext hM hq]
          rfl
        · split at hs
          · rename_i st' hq
            cases hs
            rw [xnat_heap hq]
            try dsimp only
            try rw [hq]
            rfl
          · rename_i hn
            split at hs
            · rename_i y' as r hq
              split at hs
              · rename_i hc
                cases hs
                rw [xinv_heap hq]
                try dsimp only
                try rw [hn]
                try dsimp only
                rw [xinv_ext hq]
                try dsimp only
                rw [if_pos hc]
                rfl
              · cases hs
            · split at hs
              · rename_i v hq
                cases hs
                rw [(xret_heap (y := y) hq _ _).1]
                try dsimp only
                try rw [hn]
                try dsimp only
                rw [(xret_heap (g := g) (isI := false) hq 0 _).2]
                try dsimp only
                try rw [hq]
                rfl
              · cases hs
theorem xstep_ext (hM : ∀ a, (xro g a).isSome = true → M a = none) {o : (Nat × List Slot × List Value × xH) ⊕ ((Nat × List Value × Nat × List Slot × List Value × xH) ⊕ xR)} (hs : xstep g y pc L st h = some o) : xstep g y pc L st (xext h M) = some (xoe M o) := by
  obtain ⟨i, len, hd, hz, hi⟩ := xstep_inv hs
  rw [xstep_of hd hz]
  exact xins_ext hM hi
theorem xr_ext (hM : ∀ a, (xro g a).isSome = true → M a = none) : ∀ (f y pc : Nat) (L : List Slot) (st : List Value) (h : xH) (r : xR), xr g f y pc L st h = some r → xr g f y pc L st (xext h M) = some (r.1, xext r.2 M) := by
  intro f
  induction f with
  | zero => intro y pc L st h r e; cases e
  | succ f ih =>
    intro y pc L st h r e
    rw [xr] at e ⊢
    cases hs : xstep g y pc L st h with
    | none => rw [hs] at e; cases e
    | some o =>
      rw [hs] at e
      rw [xstep_ext hM hs]
      rcases o with ⟨pc', L', st', h'⟩ | ⟨y', as, pc', L', st', h'⟩ | r'
      · exact ih _ _ _ _ _ _ e
      · dsimp only [xoe] at e ⊢
        cases h1 : xr g f y' 0 (xl0 y' as) [] h' with
        | none => rw [h1] at e; cases e
        | some z =>
          obtain ⟨v, h2⟩ := z
          rw [h1] at e
          rw [ih _ _ _ _ _ _ h1]
          exact ih _ _ _ _ _ _ e
      · cases e
        rfl
/-- the frame rule -/
theorem X_ext (hM : ∀ a, (xro g a).isSome = true → M a = none) {r : xR} (e : X g y pc L st h = some r) : X g y pc L st (xext h M) = some (r.1, xext r.2 M) := by
  obtain ⟨f, hf⟩ := X_iff.mp e
  exact X_iff.mpr ⟨f, xr_ext hM f y pc L st h r hf⟩
end XFR2
