/-! THE HEAP's algebra: what a cell holds behind a put, a store, a making -/
section XHP
variable {h : xH} {a b ci cj k m t u i n : Nat} {v w : Value} {e : xE} {f : Nat → Value} {fs : List Value}
theorem xpf_1 : (xpf h a ci k v).1 = h.1 := rfl
theorem xpf_2 : (xpf h a ci k v).2.1 = h.2.1 := rfl
theorem xpf_3 : (xpf h a ci k v).2.2.1 = h.2.2.1 := rfl
theorem xpa_1 : (xpa h a t i v).1 = h.1 := rfl
theorem xpa_2 : (xpa h a t i v).2.1 = h.2.1 := rfl
theorem xpa_3 : (xpa h a t i v).2.2.1 = h.2.2.1 := rfl
theorem xnew_1 : (xnew h e k).1 = h.1 + 1 := rfl
theorem xnew_2 : (xnew h e k).2.1 = h.2.1 + 1 := rfl
theorem xnew_3 : (xnew h e k).2.2.1 = h.2.2.1 + k := rfl
/-- a cell behind a put -/
theorem xpf_cell (q : Nat) : (xpf h a ci k v).2.2.2 q = if q = a then (match h.2.2.2 a with
  | some (.inr (c, fs)) => if c = ci then some (.inr (c, fs.set k v)) else some (.inr (c, fs))
  | o => o) else h.2.2.2 q := rfl
theorem xpa_cell (q : Nat) : (xpa h a t i v).2.2.2 q = if q = a then (match h.2.2.2 a with
  | some (.inl (u, n, f)) => if u = t then some (.inl (u, n, updV f i v)) else some (.inl (u, n, f))
  | o => o) else h.2.2.2 q := rfl
theorem xnew_cell (q : Nat) : (xnew h e k).2.2.2 q = if q = h.1 then some e else h.2.2.2 q := rfl
theorem xcl_xpf : xcl (xpf h a ci k v) b = xcl h b := by
  unfold xcl
  rw [xpf_cell]
  by_cases q : b = a
  · subst q
    rw [if_pos rfl]
    cases hq : h.2.2.2 b with
    | none => rfl
    | some z =>
      rcases z with z | ⟨c, fs⟩
      · rfl
      · dsimp only
        by_cases z : c = ci
        · rw [if_pos z]
        · rw [if_neg z]
  · rw [if_neg q]
theorem xa_xpf : xa (xpf h a ci k v) b t = xa h b t := by
  unfold xa
  rw [xpf_cell]
  by_cases q : b = a
  · subst q
    rw [if_pos rfl]
    cases hq : h.2.2.2 b with
    | none => rfl
    | some z =>
      rcases z with z | ⟨c, fs⟩
      · rfl
      · dsimp only
        by_cases z : c = ci
        · rw [if_pos z]
        · rw [if_neg z]
  · rw [if_neg q]
theorem xf_xpf_ne (hne : (ci == cj && k == m) = false) : xf (xpf h a ci k v) b cj m = xf h b cj m := by
  unfold xf
  rw [xpf_cell]
  by_cases q : b = a
  · subst q
    rw [if_pos rfl]
    cases hq : h.2.2.2 b with
    | none => rfl
    | some z =>
      rcases z with z | ⟨c, fs⟩
      · rfl
      · dsimp only
        by_cases h1 : c = ci
        · subst h1
          rw [if_pos rfl]
          dsimp only
          by_cases h2 : c = cj
          · subst h2
            rw [if_pos rfl, if_pos rfl]
            have h3 : k ≠ m := by
              intro z
              subst z
              simp at hne
            rw [List.getElem?_set_ne h3]
          · rw [if_neg h2, if_neg h2]
        · rw [if_neg h1]
  · rw [if_neg q]
theorem xf_xpf_eq : xf (xpf h a ci k v) b ci k = if b = a then (xf h a ci k).map (fun _ => v) else xf h b ci k := by
  unfold xf
  rw [xpf_cell]
  by_cases q : b = a
  · subst q
    rw [if_pos rfl]
    rw [if_pos rfl]
    cases hq : h.2.2.2 b with
    | none => rfl
    | some z =>
      rcases z with z | ⟨c, fs⟩
      · rfl
      · dsimp only
        by_cases h1 : c = ci
        · subst h1
          rw [if_pos rfl]
          dsimp only
          rw [if_pos rfl]
          rw [List.getElem?_set]
          rw [if_pos rfl]
          cases hk : fs[k]? with
          | none =>
            have : ¬ k < fs.length := by
              intro z
              rw [List.getElem?_eq_getElem z] at hk
              cases hk
            rw [if_neg this]
            simp
          | some z =>
            have : k < fs.length := (List.getElem?_eq_some_iff.mp hk).1
            rw [if_pos this]
            simp
        · rw [if_neg h1]
          simp [h1]
  · rw [if_neg q]
    rw [if_neg q]
theorem xcl_xpa : xcl (xpa h a t i v) b = xcl h b := by
  unfold xcl
  rw [xpa_cell]
  by_cases q : b = a
  · subst q
    rw [if_pos rfl]
    cases hq : h.2.2.2 b with
    | none => rfl
    | some z =>
      rcases z with ⟨u, n, f⟩ | z
      · dsimp only
        by_cases z : u = t
        · rw [if_pos z]
        · rw [if_neg z]
      · rfl
  · rw [if_neg q]
theorem xf_xpa : xf (xpa h a t i v) b ci k = xf h b ci k := by
  unfold xf
  rw [xpa_cell]
  by_cases q : b = a
  · subst q
    rw [if_pos rfl]
    cases hq : h.2.2.2 b with
    | none => rfl
    | some z =>
      rcases z with ⟨u, n, f⟩ | z
      · dsimp only
        by_cases z : u = t
        · rw [if_pos z]
        · rw [if_neg z]
      · rfl
  · rw [if_neg q]
theorem xa_xpa_ty (hne : (t == u) = false) : xa (xpa h a t i v) b u = xa h b u := by
  have hne : t ≠ u := by simpa using hne
  unfold xa
  rw [xpa_cell]
  by_cases q : b = a
  · subst q
    rw [if_pos rfl]
    cases hq : h.2.2.2 b with
    | none => rfl
    | some z =>
      rcases z with ⟨w, n, f⟩ | z
      · dsimp only
        by_cases h1 : w = t
        · subst h1
          rw [if_pos rfl]
          dsimp only
          rw [if_neg hne, if_neg hne]
        · rw [if_neg h1]
      · rfl
  · rw [if_neg q]
theorem xa_xpa : xa (xpa h a t i v) b t = if b = a then (xa h a t).map (fun q => (q.1, updV q.2 i v)) else xa h b t := by
  unfold xa
  rw [xpa_cell]
  by_cases q : b = a
  · subst q
    rw [if_pos rfl]
    rw [if_pos rfl]
    cases hq : h.2.2.2 b with
    | none => rfl
    | some z =>
      rcases z with ⟨w, n, f⟩ | z
      · dsimp only
        by_cases h1 : w = t
        · subst h1
          simp
        · simp [h1]
      · rfl
  · rw [if_neg q]
    rw [if_neg q]
theorem xa_of (hq : h.2.2.2 a = some (.inl (t, n, f))) : xa h a t = some (n, f) := by
  unfold xa
  rw [hq]
  dsimp only
  rw [if_pos rfl]
theorem xlen_of {g : xG} (hq : xa h a t = some (n, f)) : xlen g h a = some n := by
  unfold xlen
  rw [xa_inv hq]
theorem xtag_of (hq : xa h a t = some (n, f)) : xtag h a = t := xtag_inv (t := t) (xa_inv hq)
theorem xald_of {j : Int32} (hq : xa h a t = some (n, f)) (hj : xin j n = true) : xald h a t j = some (f j.toNatClampNeg) := by
  unfold xald
  rw [hq]
  dsimp only
  rw [if_pos hj]
theorem xaldi_of {g : xG} {j : Int32} (hq : xa h a 0 = some (n, f)) (hj : xin j n = true) : xaldi g h a j = some (f j.toNatClampNeg) := by
  unfold xaldi
  rw [hq]
  dsimp only
  rw [if_pos hj]
theorem xast_of {j : Int32} (hq : xa h a t = some (n, f)) (hj : xin j n = true) : xast h a t j v = some (xpa h a t j.toNatClampNeg v) := by
  unfold xast
  rw [hq]
  dsimp only
  rw [if_pos hj]
theorem xin_nI {j n : Nat} (h1 : j < n) (h2 : n < 2 ^ 31) : xin (nI j) n = true := by
  unfold xin
  have a1 := nI_pos (n := j) (by omega)
  have a2 : (nI j).toNatClampNeg = j := nI_clamp (by omega)
  rw [decide_eq_false a1, a2, decide_eq_false (by omega)]
  rfl
end XHP
