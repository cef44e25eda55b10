section M25a
theorem mfac2 : ∀ i, 1 ≤ i → i ≤ 38 → mof (miv i) = i := by
  intro i h1 h2
  have : ∀ i, i < 39 → 1 ≤ i → mof (miv i) = i := by decide +kernel
  exact this i (by omega) h1
end M25a
/-! THE REFERENCE's constructor -/
section M25
variable {g : xG} {n kc ks mu s w q p r l o c d k : Nat} {S T : MS} {h : xH} {i j m v x y a : Int32} {u b : Int64}
def mvalP (c mu : Nat) (S : MS) (k : Nat) : Value := if 2 ≤ mkd k ∧ c < mof k then va_rf none else mval mu S k
def mclP (c d mu : Nat) (S : MS) (q : Nat) : Option xE := if q = mu then some (.inr (11, (List.range 51).map (mvalP c mu S))) else if mu < q ∧ q ≤ mu + d then (if mkd (miv (q - mu)) = 2 then some (.inl (0, mln (miv (q - mu)), fun j => .int (S.2.2.1 (miv (q - mu)) j))) else some (.inl (1, mln (miv (q - mu)), fun j => .long (S.2.2.2 (miv (q - mu)) j)))) else none
/-- the reference while it is made: d arrays, c of them in their fields -/
def mPP (c d n kc ks mu : Nat) (S : MS) : xH := (n, kc, ks, mclP c d mu S)
theorem mPP_1 : (mPP c d n kc ks mu S).1 = n := rfl
theorem mPP_o : (mPP c d n kc ks mu S).2.2.2 mu = some (.inr (11, (List.range 51).map (mvalP c mu S))) := by
  show mclP c d mu S mu = _
  unfold mclP
  rw [if_pos rfl]
theorem mPP_f (hk : k < 51) : (xf (mPP c d n kc ks mu S) mu 11 k).isSome = true := by
  unfold xf
  rw [mPP_o]
  dsimp only
  rw [if_pos rfl, List.getElem?_map, List.getElem?_range hk]
  rfl
theorem mPP_n2 (hk : miv (d + 1) = k) (h2 : mkd k = 2) (hz : ∀ j, S.2.2.1 k j = 0) : xnew (mPP c d (mu + (d + 1)) kc ks mu S) (.inl (0, mln k, fun _ => .int 0)) (mln k) = mPP c (d + 1) (mu + (d + 1) + 1) (kc + 1) (ks + mln k) mu S := by
  refine xH_ext rfl rfl rfl fun q => ?_
  show (if q = mu + (d + 1) then _ else mclP c d mu S q) = mclP c (d + 1) mu S q
  unfold mclP
  by_cases e : q = mu + (d + 1)
  · subst e
    rw [if_pos rfl, if_neg (by omega), if_pos (by omega), Nat.add_sub_cancel_left, hk, if_pos h2]
    exact congrArg (fun F : Nat → Value => (some (Sum.inl (0, mln k, F)) : Option xE)) (funext fun j => by rw [hz])
  · rw [if_neg e]
    have hx : (mu < q ∧ q ≤ mu + (d + 1)) = (mu < q ∧ q ≤ mu + d) := propext (by omega)
    simp only [hx]
theorem mPP_n3 (hk : miv (d + 1) = k) (h2 : mkd k = 3) (hz : ∀ j, S.2.2.2 k j = 0) : xnew (mPP c d (mu + (d + 1)) kc ks mu S) (.inl (1, mln k, fun _ => .long 0)) (mln k) = mPP c (d + 1) (mu + (d + 1) + 1) (kc + 1) (ks + mln k) mu S := by
  refine xH_ext rfl rfl rfl fun q => ?_
  show (if q = mu + (d + 1) then _ else mclP c d mu S q) = mclP c (d + 1) mu S q
  unfold mclP
  by_cases e : q = mu + (d + 1)
  · subst e
    rw [if_pos rfl, if_neg (by omega), if_pos (by omega), Nat.add_sub_cancel_left, hk, if_neg (by omega)]
    exact congrArg (fun F : Nat → Value => (some (Sum.inl (1, mln k, F)) : Option xE)) (funext fun j => by rw [hz])
  · rw [if_neg e]
    have hx : (mu < q ∧ q ≤ mu + (d + 1)) = (mu < q ∧ q ≤ mu + d) := propext (by omega)
    simp only [hx]
theorem mPP_p (hk : k < 51) (h2 : 2 ≤ mkd k) (ho : mof k = c + 1) : xpf (mPP c d n kc ks mu S) mu 11 k (va_rf (some (mu + (c + 1)))) = mPP (c + 1) d n kc ks mu S := by
  refine xH_ext rfl rfl rfl fun q => ?_
  rw [xpf_at mPP_o]
  by_cases hq : q = mu
  · subst hq
    rw [if_pos rfl, mPP_o]
    congr 3
    apply List.ext_getElem?
    intro i
    rw [List.getElem?_set, List.getElem?_map, List.getElem?_map]
    by_cases hi : k = i
    · subst hi
      rw [if_pos rfl, List.getElem?_range hk]
      have e : mvalP (c + 1) q S k = va_rf (some (q + (c + 1))) := by
        unfold mvalP
        rw [if_neg (by omega)]
        unfold mval
        split
        · omega
        · omega
        · rw [ho]
      simp [hk, e]
    · rw [if_neg hi]
      by_cases hr : i < 51
      · rw [List.getElem?_range hr]
        show some (mvalP c q S i) = some (mvalP (c + 1) q S i)
        unfold mvalP
        by_cases h3 : 2 ≤ mkd i
        · have h4 : mof i ≠ c + 1 := fun y => hi (minj k hk i hr h2 h3 (by omega))
          have hx : (2 ≤ mkd i ∧ c < mof i) = (2 ≤ mkd i ∧ c + 1 < mof i) := propext (by omega)
          simp only [hx]
        · rw [if_neg (by omega), if_neg (by omega)]
      · rw [List.getElem?_eq_none (by simp; omega)]
        rfl
  · rw [if_neg hq]
    show mclP c d mu S q = mclP (c + 1) d mu S q
    unfold mclP
    rw [if_neg hq, if_neg hq]
theorem mPP_s (hk : k < 51) (h2 : mkd k = 2) (hd : mof k ≤ d) : xast (mPP c d n kc ks mu S) (mu + mof k) 0 x (.int v) = if xin x (mln k) = true then some (mPP c d n kc ks mu (msA S k x.toNatClampNeg v)) else none := by
  obtain ⟨a1, a2, a3⟩ := mfacts k hk (by omega)
  have hc : (mPP c d n kc ks mu S).2.2.2 (mu + mof k) = some (.inl (0, mln k, fun j => .int (S.2.2.1 k j))) := by
    show mclP c d mu S (mu + mof k) = _
    unfold mclP
    rw [if_neg (by omega), if_pos (by omega), Nat.add_sub_cancel_left, a1, if_pos h2]
  unfold xast
  rw [xa_of hc]
  dsimp only
  split
  · congr 1
    refine xH_ext rfl rfl rfl fun q => ?_
    rw [xpa_at hc]
    by_cases hq : q = mu + mof k
    · rw [if_pos hq, hq]
      show _ = mclP c d mu _ (mu + mof k)
      unfold mclP
      rw [if_neg (by omega), if_pos (by omega), Nat.add_sub_cancel_left, a1, if_pos h2]
      refine congrArg (fun F : Nat → Value => (some (Sum.inl (0, mln k, F)) : Option xE)) (funext fun j => ?_)
      unfold updV
      by_cases e : j = x.toNatClampNeg
      · simp [e, msA]
      · simp [e, msA]
    · rw [if_neg hq]
      show mclP c d mu S q = mclP c d mu _ q
      unfold mclP
      by_cases e : q = mu
      · rw [if_pos e, if_pos e]
        rfl
      · rw [if_neg e, if_neg e]
        by_cases e2 : mu < q ∧ q ≤ mu + d
        · rw [if_pos e2, if_pos e2]
          have h5 : miv (q - mu) ≠ k ∨ 38 < q - mu := by
            by_cases h6 : q - mu ≤ 38
            · left
              intro y
              have h7 := mfac2 (q - mu) (by omega) h6
              rw [y] at h7
              omega
            · right
              omega
          rcases h5 with h5 | h5
          · have : ∀ j, (msA S k x.toNatClampNeg v).2.2.1 (miv (q - mu)) j = S.2.2.1 (miv (q - mu)) j := fun j => by simp [msA, h5]
            simp only [this]
            rfl
          · have h8 : miv (q - mu) = 0 := by
              unfold miv
              rw [List.getD_eq_getElem?_getD, List.getElem?_eq_none (by simp; omega)]
              rfl
            have h9 : (0 : Nat) ≠ k := by
              intro y
              rw [← y] at h2
              exact absurd h2 (by decide)
            rw [h8]
            have : ∀ j, (msA S k x.toNatClampNeg v).2.2.1 0 j = S.2.2.1 0 j := fun j => by simp [msA, h9]
            simp only [this]
            rfl
        · rw [if_neg e2, if_neg e2]
  · rfl
theorem mPP_38 : mPP 38 38 n kc ks mu S = mH n kc ks mu S := by
  refine xH_ext rfl rfl rfl fun q => ?_
  show mclP 38 38 mu S q = mcl mu S q
  unfold mclP mcl
  by_cases e : q = mu
  · rw [if_pos e, if_pos e]
    have hm : (List.range 51).map (mvalP 38 mu S) = (List.range 51).map (mval mu S) := by
      apply List.map_congr_left
      intro k hk
      have hk := List.mem_range.mp hk
      unfold mvalP
      rw [if_neg]
      intro y
      have := (mfacts k hk y.1).2.2
      omega
    rw [hm]
  · rw [if_neg e, if_neg e]
def mS0 : MS := (fun _ => 0, fun _ => 0, fun _ _ => 0, fun _ _ => 0)
def mSL : MS := msA (msA (msA (msA (msA (msA (msA (msA (msA (msA mS0 32 0 122) 32 1 98) 32 2 99) 32 3 115) 32 4 105) 32 5 106) 32 6 102) 32 7 100) 32 8 111) 32 9 108
theorem l163_1 : X g 163 4 [.val (va_rf (some mu)), .unset] [] (mPP 0 0 (mu + 1) kc ks mu mS0) = X g 163 12 [.val (va_rf (some mu)), .unset] [] (mPP 1 1 (mu + 2) (kc + 1) (ks + 10) mu mS0) := by
  have h1 := mPP_n2 (c := 0) (d := 0) (k := 2) (kc := kc) (ks := ks) (mu := mu) (S := mS0) (by decide) (by decide) (fun j => rfl)
  have h1' : xnew (mPP 0 0 (mu + 1) kc ks mu mS0) (.inl (0, Int32.toNatClampNeg 10, fun _ => .int 0)) (Int32.toNatClampNeg 10) = mPP 0 1 (mu + 2) (kc + 1) (ks + 10) mu mS0 := h1
  have h2 := mPP_p (c := 0) (d := 1) (k := 2) (n := mu + 2) (kc := kc + 1) (ks := ks + 10) (mu := mu) (S := mS0) (by decide) (by decide) (by decide)
  have h2' : xpf (mPP 0 1 (mu + 2) (kc + 1) (ks + 10) mu mS0) mu 11 2 (va_rf (some (mu + 1))) = mPP 1 1 (mu + 2) (kc + 1) (ks + 10) mu mS0 := h2
  have h3 := mPP_f (c := 0) (d := 1) (k := 2) (n := mu + 2) (kc := kc + 1) (ks := ks + 10) (mu := mu) (S := mS0) (by decide)
  simp only [x163_4, x163_5, x163_7, x163_9, x163_7 (show ¬ (10 : Int32) < 0 by decide) (show ¬ 65536 < Int32.toNatClampNeg 10 by decide), h1', mPP_1, h2', h3, Option.bind_some, Option.toList_some, Option.toList_none, List.cons_append, List.nil_append, Option.isSome_some, if_true, eq_self, or_true, true_or, xb_01, mcl_cl, not_true_eq_false, not_false_eq_true, if_false]
theorem l163_2 : X g 163 12 [.val (va_rf (some mu)), .unset] [] (mPP 1 1 (mu + 2) kc ks mu mS0) = X g 163 20 [.val (va_rf (some mu)), .unset] [] (mPP 2 2 (mu + 3) (kc + 1) (ks + 10) mu mS0) := by
  have h1 := mPP_n2 (c := 1) (d := 1) (k := 3) (kc := kc) (ks := ks) (mu := mu) (S := mS0) (by decide) (by decide) (fun j => rfl)
  have h1' : xnew (mPP 1 1 (mu + 2) kc ks mu mS0) (.inl (0, Int32.toNatClampNeg 10, fun _ => .int 0)) (Int32.toNatClampNeg 10) = mPP 1 2 (mu + 3) (kc + 1) (ks + 10) mu mS0 := h1
  have h2 := mPP_p (c := 1) (d := 2) (k := 3) (n := mu + 3) (kc := kc + 1) (ks := ks + 10) (mu := mu) (S := mS0) (by decide) (by decide) (by decide)
  have h2' : xpf (mPP 1 2 (mu + 3) (kc + 1) (ks + 10) mu mS0) mu 11 3 (va_rf (some (mu + 2))) = mPP 2 2 (mu + 3) (kc + 1) (ks + 10) mu mS0 := h2
  have h3 := mPP_f (c := 1) (d := 2) (k := 3) (n := mu + 3) (kc := kc + 1) (ks := ks + 10) (mu := mu) (S := mS0) (by decide)
  simp only [x163_12, x163_13, x163_15, x163_17, x163_15 (show ¬ (10 : Int32) < 0 by decide) (show ¬ 65536 < Int32.toNatClampNeg 10 by decide), h1', mPP_1, h2', h3, Option.bind_some, Option.toList_some, Option.toList_none, List.cons_append, List.nil_append, Option.isSome_some, if_true, eq_self, or_true, true_or, xb_01, mcl_cl, not_true_eq_false, not_false_eq_true, if_false]
theorem l163_3 : X g 163 20 [.val (va_rf (some mu)), .unset] [] (mPP 2 2 (mu + 3) kc ks mu mS0) = X g 163 28 [.val (va_rf (some mu)), .unset] [] (mPP 3 3 (mu + 4) (kc + 1) (ks + 10) mu mS0) := by
  have h1 := mPP_n2 (c := 2) (d := 2) (k := 4) (kc := kc) (ks := ks) (mu := mu) (S := mS0) (by decide) (by decide) (fun j => rfl)
  have h1' : xnew (mPP 2 2 (mu + 3) kc ks mu mS0) (.inl (0, Int32.toNatClampNeg 10, fun _ => .int 0)) (Int32.toNatClampNeg 10) = mPP 2 3 (mu + 4) (kc + 1) (ks + 10) mu mS0 := h1
  have h2 := mPP_p (c := 2) (d := 3) (k := 4) (n := mu + 4) (kc := kc + 1) (ks := ks + 10) (mu := mu) (S := mS0) (by decide) (by decide) (by decide)
  have h2' : xpf (mPP 2 3 (mu + 4) (kc + 1) (ks + 10) mu mS0) mu 11 4 (va_rf (some (mu + 3))) = mPP 3 3 (mu + 4) (kc + 1) (ks + 10) mu mS0 := h2
  have h3 := mPP_f (c := 2) (d := 3) (k := 4) (n := mu + 4) (kc := kc + 1) (ks := ks + 10) (mu := mu) (S := mS0) (by decide)
  simp only [x163_20, x163_21, x163_23, x163_25, x163_23 (show ¬ (10 : Int32) < 0 by decide) (show ¬ 65536 < Int32.toNatClampNeg 10 by decide), h1', mPP_1, h2', h3, Option.bind_some, Option.toList_some, Option.toList_none, List.cons_append, List.nil_append, Option.isSome_some, if_true, eq_self, or_true, true_or, xb_01, mcl_cl, not_true_eq_false, not_false_eq_true, if_false]
theorem l163_4 : X g 163 28 [.val (va_rf (some mu)), .unset] [] (mPP 3 3 (mu + 4) kc ks mu mS0) = X g 163 37 [.val (va_rf (some mu)), .unset] [] (mPP 4 4 (mu + 5) (kc + 1) (ks + 320) mu mS0) := by
  have h1 := mPP_n2 (c := 3) (d := 3) (k := 5) (kc := kc) (ks := ks) (mu := mu) (S := mS0) (by decide) (by decide) (fun j => rfl)
  have h1' : xnew (mPP 3 3 (mu + 4) kc ks mu mS0) (.inl (0, Int32.toNatClampNeg 320, fun _ => .int 0)) (Int32.toNatClampNeg 320) = mPP 3 4 (mu + 5) (kc + 1) (ks + 320) mu mS0 := h1
  have h2 := mPP_p (c := 3) (d := 4) (k := 5) (n := mu + 5) (kc := kc + 1) (ks := ks + 320) (mu := mu) (S := mS0) (by decide) (by decide) (by decide)
  have h2' : xpf (mPP 3 4 (mu + 5) (kc + 1) (ks + 320) mu mS0) mu 11 5 (va_rf (some (mu + 4))) = mPP 4 4 (mu + 5) (kc + 1) (ks + 320) mu mS0 := h2
  have h3 := mPP_f (c := 3) (d := 4) (k := 5) (n := mu + 5) (kc := kc + 1) (ks := ks + 320) (mu := mu) (S := mS0) (by decide)
  simp only [x163_28, x163_29, x163_32, x163_34, x163_32 (show ¬ (320 : Int32) < 0 by decide) (show ¬ 65536 < Int32.toNatClampNeg 320 by decide), h1', mPP_1, h2', h3, Option.bind_some, Option.toList_some, Option.toList_none, List.cons_append, List.nil_append, Option.isSome_some, if_true, eq_self, or_true, true_or, xb_01, mcl_cl, not_true_eq_false, not_false_eq_true, if_false]
theorem l163_5 : X g 163 37 [.val (va_rf (some mu)), .unset] [] (mPP 4 4 (mu + 5) kc ks mu mS0) = X g 163 46 [.val (va_rf (some mu)), .unset] [] (mPP 5 5 (mu + 6) (kc + 1) (ks + 320) mu mS0) := by
  have h1 := mPP_n3 (c := 4) (d := 4) (k := 6) (kc := kc) (ks := ks) (mu := mu) (S := mS0) (by decide) (by decide) (fun j => rfl)
  have h1' : xnew (mPP 4 4 (mu + 5) kc ks mu mS0) (.inl (1, Int32.toNatClampNeg 320, fun _ => .long 0)) (Int32.toNatClampNeg 320) = mPP 4 5 (mu + 6) (kc + 1) (ks + 320) mu mS0 := h1
  have h2 := mPP_p (c := 4) (d := 5) (k := 6) (n := mu + 6) (kc := kc + 1) (ks := ks + 320) (mu := mu) (S := mS0) (by decide) (by decide) (by decide)
  have h2' : xpf (mPP 4 5 (mu + 6) (kc + 1) (ks + 320) mu mS0) mu 11 6 (va_rf (some (mu + 5))) = mPP 5 5 (mu + 6) (kc + 1) (ks + 320) mu mS0 := h2
  have h3 := mPP_f (c := 4) (d := 5) (k := 6) (n := mu + 6) (kc := kc + 1) (ks := ks + 320) (mu := mu) (S := mS0) (by decide)
  simp only [x163_37, x163_38, x163_41, x163_43, x163_41 (show ¬ (320 : Int32) < 0 by decide) (show ¬ 65536 < Int32.toNatClampNeg 320 by decide), h1', mPP_1, h2', h3, Option.bind_some, Option.toList_some, Option.toList_none, List.cons_append, List.nil_append, Option.isSome_some, if_true, eq_self, or_true, true_or, xb_01, mcl_cl, not_true_eq_false, not_false_eq_true, if_false]
theorem l163_6 : X g 163 46 [.val (va_rf (some mu)), .unset] [] (mPP 5 5 (mu + 6) kc ks mu mS0) = X g 163 54 [.val (va_rf (some mu)), .unset] [] (mPP 6 6 (mu + 7) (kc + 1) (ks + 10) mu mS0) := by
  have h1 := mPP_n2 (c := 5) (d := 5) (k := 7) (kc := kc) (ks := ks) (mu := mu) (S := mS0) (by decide) (by decide) (fun j => rfl)
  have h1' : xnew (mPP 5 5 (mu + 6) kc ks mu mS0) (.inl (0, Int32.toNatClampNeg 10, fun _ => .int 0)) (Int32.toNatClampNeg 10) = mPP 5 6 (mu + 7) (kc + 1) (ks + 10) mu mS0 := h1
  have h2 := mPP_p (c := 5) (d := 6) (k := 7) (n := mu + 7) (kc := kc + 1) (ks := ks + 10) (mu := mu) (S := mS0) (by decide) (by decide) (by decide)
  have h2' : xpf (mPP 5 6 (mu + 7) (kc + 1) (ks + 10) mu mS0) mu 11 7 (va_rf (some (mu + 6))) = mPP 6 6 (mu + 7) (kc + 1) (ks + 10) mu mS0 := h2
  have h3 := mPP_f (c := 5) (d := 6) (k := 7) (n := mu + 7) (kc := kc + 1) (ks := ks + 10) (mu := mu) (S := mS0) (by decide)
  simp only [x163_46, x163_47, x163_49, x163_51, x163_49 (show ¬ (10 : Int32) < 0 by decide) (show ¬ 65536 < Int32.toNatClampNeg 10 by decide), h1', mPP_1, h2', h3, Option.bind_some, Option.toList_some, Option.toList_none, List.cons_append, List.nil_append, Option.isSome_some, if_true, eq_self, or_true, true_or, xb_01, mcl_cl, not_true_eq_false, not_false_eq_true, if_false]
theorem l163_7 : X g 163 54 [.val (va_rf (some mu)), .unset] [] (mPP 6 6 (mu + 7) kc ks mu mS0) = X g 163 62 [.val (va_rf (some mu)), .unset] [] (mPP 7 7 (mu + 8) (kc + 1) (ks + 10) mu mS0) := by
  have h1 := mPP_n2 (c := 6) (d := 6) (k := 8) (kc := kc) (ks := ks) (mu := mu) (S := mS0) (by decide) (by decide) (fun j => rfl)
  have h1' : xnew (mPP 6 6 (mu + 7) kc ks mu mS0) (.inl (0, Int32.toNatClampNeg 10, fun _ => .int 0)) (Int32.toNatClampNeg 10) = mPP 6 7 (mu + 8) (kc + 1) (ks + 10) mu mS0 := h1
  have h2 := mPP_p (c := 6) (d := 7) (k := 8) (n := mu + 8) (kc := kc + 1) (ks := ks + 10) (mu := mu) (S := mS0) (by decide) (by decide) (by decide)
  have h2' : xpf (mPP 6 7 (mu + 8) (kc + 1) (ks + 10) mu mS0) mu 11 8 (va_rf (some (mu + 7))) = mPP 7 7 (mu + 8) (kc + 1) (ks + 10) mu mS0 := h2
  have h3 := mPP_f (c := 6) (d := 7) (k := 8) (n := mu + 8) (kc := kc + 1) (ks := ks + 10) (mu := mu) (S := mS0) (by decide)
  simp only [x163_54, x163_55, x163_57, x163_59, x163_57 (show ¬ (10 : Int32) < 0 by decide) (show ¬ 65536 < Int32.toNatClampNeg 10 by decide), h1', mPP_1, h2', h3, Option.bind_some, Option.toList_some, Option.toList_none, List.cons_append, List.nil_append, Option.isSome_some, if_true, eq_self, or_true, true_or, xb_01, mcl_cl, not_true_eq_false, not_false_eq_true, if_false]
theorem l163_8 : X g 163 62 [.val (va_rf (some mu)), .unset] [] (mPP 7 7 (mu + 8) kc ks mu mS0) = X g 163 69 [.val (va_rf (some mu)), .unset] [] (mPP 8 8 (mu + 9) (kc + 1) (ks + 3) mu mS0) := by
  have h1 := mPP_n2 (c := 7) (d := 7) (k := 9) (kc := kc) (ks := ks) (mu := mu) (S := mS0) (by decide) (by decide) (fun j => rfl)
  have h1' : xnew (mPP 7 7 (mu + 8) kc ks mu mS0) (.inl (0, Int32.toNatClampNeg 3, fun _ => .int 0)) (Int32.toNatClampNeg 3) = mPP 7 8 (mu + 9) (kc + 1) (ks + 3) mu mS0 := h1
  have h2 := mPP_p (c := 7) (d := 8) (k := 9) (n := mu + 9) (kc := kc + 1) (ks := ks + 3) (mu := mu) (S := mS0) (by decide) (by decide) (by decide)
  have h2' : xpf (mPP 7 8 (mu + 9) (kc + 1) (ks + 3) mu mS0) mu 11 9 (va_rf (some (mu + 8))) = mPP 8 8 (mu + 9) (kc + 1) (ks + 3) mu mS0 := h2
  have h3 := mPP_f (c := 7) (d := 8) (k := 9) (n := mu + 9) (kc := kc + 1) (ks := ks + 3) (mu := mu) (S := mS0) (by decide)
  simp only [x163_62, x163_63, x163_64, x163_66, x163_64 (show ¬ (3 : Int32) < 0 by decide) (show ¬ 65536 < Int32.toNatClampNeg 3 by decide), h1', mPP_1, h2', h3, Option.bind_some, Option.toList_some, Option.toList_none, List.cons_append, List.nil_append, Option.isSome_some, if_true, eq_self, or_true, true_or, xb_01, mcl_cl, not_true_eq_false, not_false_eq_true, if_false]
theorem l163_9 : X g 163 69 [.val (va_rf (some mu)), .unset] [] (mPP 8 8 (mu + 9) kc ks mu mS0) = X g 163 77 [.val (va_rf (some mu)), .unset] [] (mPP 9 9 (mu + 10) (kc + 1) (ks + 30) mu mS0) := by
  have h1 := mPP_n2 (c := 8) (d := 8) (k := 12) (kc := kc) (ks := ks) (mu := mu) (S := mS0) (by decide) (by decide) (fun j => rfl)
  have h1' : xnew (mPP 8 8 (mu + 9) kc ks mu mS0) (.inl (0, Int32.toNatClampNeg 30, fun _ => .int 0)) (Int32.toNatClampNeg 30) = mPP 8 9 (mu + 10) (kc + 1) (ks + 30) mu mS0 := h1
  have h2 := mPP_p (c := 8) (d := 9) (k := 12) (n := mu + 10) (kc := kc + 1) (ks := ks + 30) (mu := mu) (S := mS0) (by decide) (by decide) (by decide)
  have h2' : xpf (mPP 8 9 (mu + 10) (kc + 1) (ks + 30) mu mS0) mu 11 12 (va_rf (some (mu + 9))) = mPP 9 9 (mu + 10) (kc + 1) (ks + 30) mu mS0 := h2
  have h3 := mPP_f (c := 8) (d := 9) (k := 12) (n := mu + 10) (kc := kc + 1) (ks := ks + 30) (mu := mu) (S := mS0) (by decide)
  simp only [x163_69, x163_70, x163_72, x163_74, x163_72 (show ¬ (30 : Int32) < 0 by decide) (show ¬ 65536 < Int32.toNatClampNeg 30 by decide), h1', mPP_1, h2', h3, Option.bind_some, Option.toList_some, Option.toList_none, List.cons_append, List.nil_append, Option.isSome_some, if_true, eq_self, or_true, true_or, xb_01, mcl_cl, not_true_eq_false, not_false_eq_true, if_false]
theorem l163_10 : X g 163 77 [.val (va_rf (some mu)), .unset] [] (mPP 9 9 (mu + 10) kc ks mu mS0) = X g 163 85 [.val (va_rf (some mu)), .unset] [] (mPP 10 10 (mu + 11) (kc + 1) (ks + 64) mu mS0) := by
  have h1 := mPP_n2 (c := 9) (d := 9) (k := 13) (kc := kc) (ks := ks) (mu := mu) (S := mS0) (by decide) (by decide) (fun j => rfl)
  have h1' : xnew (mPP 9 9 (mu + 10) kc ks mu mS0) (.inl (0, Int32.toNatClampNeg 64, fun _ => .int 0)) (Int32.toNatClampNeg 64) = mPP 9 10 (mu + 11) (kc + 1) (ks + 64) mu mS0 := h1
  have h2 := mPP_p (c := 9) (d := 10) (k := 13) (n := mu + 11) (kc := kc + 1) (ks := ks + 64) (mu := mu) (S := mS0) (by decide) (by decide) (by decide)
  have h2' : xpf (mPP 9 10 (mu + 11) (kc + 1) (ks + 64) mu mS0) mu 11 13 (va_rf (some (mu + 10))) = mPP 10 10 (mu + 11) (kc + 1) (ks + 64) mu mS0 := h2
  have h3 := mPP_f (c := 9) (d := 10) (k := 13) (n := mu + 11) (kc := kc + 1) (ks := ks + 64) (mu := mu) (S := mS0) (by decide)
  simp only [x163_77, x163_78, x163_80, x163_82, x163_80 (show ¬ (64 : Int32) < 0 by decide) (show ¬ 65536 < Int32.toNatClampNeg 64 by decide), h1', mPP_1, h2', h3, Option.bind_some, Option.toList_some, Option.toList_none, List.cons_append, List.nil_append, Option.isSome_some, if_true, eq_self, or_true, true_or, xb_01, mcl_cl, not_true_eq_false, not_false_eq_true, if_false]
theorem l163_11 : X g 163 85 [.val (va_rf (some mu)), .unset] [] (mPP 10 10 (mu + 11) kc ks mu mS0) = X g 163 93 [.val (va_rf (some mu)), .unset] [] (mPP 11 11 (mu + 12) (kc + 1) (ks + 64) mu mS0) := by
  have h1 := mPP_n2 (c := 10) (d := 10) (k := 14) (kc := kc) (ks := ks) (mu := mu) (S := mS0) (by decide) (by decide) (fun j => rfl)
  have h1' : xnew (mPP 10 10 (mu + 11) kc ks mu mS0) (.inl (0, Int32.toNatClampNeg 64, fun _ => .int 0)) (Int32.toNatClampNeg 64) = mPP 10 11 (mu + 12) (kc + 1) (ks + 64) mu mS0 := h1
  have h2 := mPP_p (c := 10) (d := 11) (k := 14) (n := mu + 12) (kc := kc + 1) (ks := ks + 64) (mu := mu) (S := mS0) (by decide) (by decide) (by decide)
  have h2' : xpf (mPP 10 11 (mu + 12) (kc + 1) (ks + 64) mu mS0) mu 11 14 (va_rf (some (mu + 11))) = mPP 11 11 (mu + 12) (kc + 1) (ks + 64) mu mS0 := h2
  have h3 := mPP_f (c := 10) (d := 11) (k := 14) (n := mu + 12) (kc := kc + 1) (ks := ks + 64) (mu := mu) (S := mS0) (by decide)
  simp only [x163_85, x163_86, x163_88, x163_90, x163_88 (show ¬ (64 : Int32) < 0 by decide) (show ¬ 65536 < Int32.toNatClampNeg 64 by decide), h1', mPP_1, h2', h3, Option.bind_some, Option.toList_some, Option.toList_none, List.cons_append, List.nil_append, Option.isSome_some, if_true, eq_self, or_true, true_or, xb_01, mcl_cl, not_true_eq_false, not_false_eq_true, if_false]
theorem l163_12 : X g 163 93 [.val (va_rf (some mu)), .unset] [] (mPP 11 11 (mu + 12) kc ks mu mS0) = X g 163 101 [.val (va_rf (some mu)), .unset] [] (mPP 12 12 (mu + 13) (kc + 1) (ks + 64) mu mS0) := by
  have h1 := mPP_n3 (c := 11) (d := 11) (k := 15) (kc := kc) (ks := ks) (mu := mu) (S := mS0) (by decide) (by decide) (fun j => rfl)
  have h1' : xnew (mPP 11 11 (mu + 12) kc ks mu mS0) (.inl (1, Int32.toNatClampNeg 64, fun _ => .long 0)) (Int32.toNatClampNeg 64) = mPP 11 12 (mu + 13) (kc + 1) (ks + 64) mu mS0 := h1
  have h2 := mPP_p (c := 11) (d := 12) (k := 15) (n := mu + 13) (kc := kc + 1) (ks := ks + 64) (mu := mu) (S := mS0) (by decide) (by decide) (by decide)
  have h2' : xpf (mPP 11 12 (mu + 13) (kc + 1) (ks + 64) mu mS0) mu 11 15 (va_rf (some (mu + 12))) = mPP 12 12 (mu + 13) (kc + 1) (ks + 64) mu mS0 := h2
  have h3 := mPP_f (c := 11) (d := 12) (k := 15) (n := mu + 13) (kc := kc + 1) (ks := ks + 64) (mu := mu) (S := mS0) (by decide)
  simp only [x163_93, x163_94, x163_96, x163_98, x163_96 (show ¬ (64 : Int32) < 0 by decide) (show ¬ 65536 < Int32.toNatClampNeg 64 by decide), h1', mPP_1, h2', h3, Option.bind_some, Option.toList_some, Option.toList_none, List.cons_append, List.nil_append, Option.isSome_some, if_true, eq_self, or_true, true_or, xb_01, mcl_cl, not_true_eq_false, not_false_eq_true, if_false]
theorem l163_13 : X g 163 101 [.val (va_rf (some mu)), .unset] [] (mPP 12 12 (mu + 13) kc ks mu mS0) = X g 163 110 [.val (va_rf (some mu)), .unset] [] (mPP 13 13 (mu + 14) (kc + 1) (ks + 1536) mu mS0) := by
  have h1 := mPP_n2 (c := 12) (d := 12) (k := 17) (kc := kc) (ks := ks) (mu := mu) (S := mS0) (by decide) (by decide) (fun j => rfl)
  have h1' : xnew (mPP 12 12 (mu + 13) kc ks mu mS0) (.inl (0, Int32.toNatClampNeg 1536, fun _ => .int 0)) (Int32.toNatClampNeg 1536) = mPP 12 13 (mu + 14) (kc + 1) (ks + 1536) mu mS0 := h1
  have h2 := mPP_p (c := 12) (d := 13) (k := 17) (n := mu + 14) (kc := kc + 1) (ks := ks + 1536) (mu := mu) (S := mS0) (by decide) (by decide) (by decide)
  have h2' : xpf (mPP 12 13 (mu + 14) (kc + 1) (ks + 1536) mu mS0) mu 11 17 (va_rf (some (mu + 13))) = mPP 13 13 (mu + 14) (kc + 1) (ks + 1536) mu mS0 := h2
  have h3 := mPP_f (c := 12) (d := 13) (k := 17) (n := mu + 14) (kc := kc + 1) (ks := ks + 1536) (mu := mu) (S := mS0) (by decide)
  simp only [x163_101, x163_102, x163_105, x163_107, x163_105 (show ¬ (1536 : Int32) < 0 by decide) (show ¬ 65536 < Int32.toNatClampNeg 1536 by decide), h1', mPP_1, h2', h3, Option.bind_some, Option.toList_some, Option.toList_none, List.cons_append, List.nil_append, Option.isSome_some, if_true, eq_self, or_true, true_or, xb_01, mcl_cl, not_true_eq_false, not_false_eq_true, if_false]
theorem l163_14 : X g 163 110 [.val (va_rf (some mu)), .unset] [] (mPP 13 13 (mu + 14) kc ks mu mS0) = X g 163 119 [.val (va_rf (some mu)), .unset] [] (mPP 14 14 (mu + 15) (kc + 1) (ks + 1536) mu mS0) := by
  have h1 := mPP_n2 (c := 13) (d := 13) (k := 18) (kc := kc) (ks := ks) (mu := mu) (S := mS0) (by decide) (by decide) (fun j => rfl)
  have h1' : xnew (mPP 13 13 (mu + 14) kc ks mu mS0) (.inl (0, Int32.toNatClampNeg 1536, fun _ => .int 0)) (Int32.toNatClampNeg 1536) = mPP 13 14 (mu + 15) (kc + 1) (ks + 1536) mu mS0 := h1
  have h2 := mPP_p (c := 13) (d := 14) (k := 18) (n := mu + 15) (kc := kc + 1) (ks := ks + 1536) (mu := mu) (S := mS0) (by decide) (by decide) (by decide)
  have h2' : xpf (mPP 13 14 (mu + 15) (kc + 1) (ks + 1536) mu mS0) mu 11 18 (va_rf (some (mu + 14))) = mPP 14 14 (mu + 15) (kc + 1) (ks + 1536) mu mS0 := h2
  have h3 := mPP_f (c := 13) (d := 14) (k := 18) (n := mu + 15) (kc := kc + 1) (ks := ks + 1536) (mu := mu) (S := mS0) (by decide)
  simp only [x163_110, x163_111, x163_114, x163_116, x163_114 (show ¬ (1536 : Int32) < 0 by decide) (show ¬ 65536 < Int32.toNatClampNeg 1536 by decide), h1', mPP_1, h2', h3, Option.bind_some, Option.toList_some, Option.toList_none, List.cons_append, List.nil_append, Option.isSome_some, if_true, eq_self, or_true, true_or, xb_01, mcl_cl, not_true_eq_false, not_false_eq_true, if_false]
theorem l163_15 : X g 163 119 [.val (va_rf (some mu)), .unset] [] (mPP 14 14 (mu + 15) kc ks mu mS0) = X g 163 128 [.val (va_rf (some mu)), .unset] [] (mPP 15 15 (mu + 16) (kc + 1) (ks + 1536) mu mS0) := by
  have h1 := mPP_n3 (c := 14) (d := 14) (k := 19) (kc := kc) (ks := ks) (mu := mu) (S := mS0) (by decide) (by decide) (fun j => rfl)
  have h1' : xnew (mPP 14 14 (mu + 15) kc ks mu mS0) (.inl (1, Int32.toNatClampNeg 1536, fun _ => .long 0)) (Int32.toNatClampNeg 1536) = mPP 14 15 (mu + 16) (kc + 1) (ks + 1536) mu mS0 := h1
  have h2 := mPP_p (c := 14) (d := 15) (k := 19) (n := mu + 16) (kc := kc + 1) (ks := ks + 1536) (mu := mu) (S := mS0) (by decide) (by decide) (by decide)
  have h2' : xpf (mPP 14 15 (mu + 16) (kc + 1) (ks + 1536) mu mS0) mu 11 19 (va_rf (some (mu + 15))) = mPP 15 15 (mu + 16) (kc + 1) (ks + 1536) mu mS0 := h2
  have h3 := mPP_f (c := 14) (d := 15) (k := 19) (n := mu + 16) (kc := kc + 1) (ks := ks + 1536) (mu := mu) (S := mS0) (by decide)
  simp only [x163_119, x163_120, x163_123, x163_125, x163_123 (show ¬ (1536 : Int32) < 0 by decide) (show ¬ 65536 < Int32.toNatClampNeg 1536 by decide), h1', mPP_1, h2', h3, Option.bind_some, Option.toList_some, Option.toList_none, List.cons_append, List.nil_append, Option.isSome_some, if_true, eq_self, or_true, true_or, xb_01, mcl_cl, not_true_eq_false, not_false_eq_true, if_false]
theorem l163_16 : X g 163 128 [.val (va_rf (some mu)), .unset] [] (mPP 15 15 (mu + 16) kc ks mu mS0) = X g 163 137 [.val (va_rf (some mu)), .unset] [] (mPP 16 16 (mu + 17) (kc + 1) (ks + 1536) mu mS0) := by
  have h1 := mPP_n2 (c := 15) (d := 15) (k := 20) (kc := kc) (ks := ks) (mu := mu) (S := mS0) (by decide) (by decide) (fun j => rfl)
  have h1' : xnew (mPP 15 15 (mu + 16) kc ks mu mS0) (.inl (0, Int32.toNatClampNeg 1536, fun _ => .int 0)) (Int32.toNatClampNeg 1536) = mPP 15 16 (mu + 17) (kc + 1) (ks + 1536) mu mS0 := h1
  have h2 := mPP_p (c := 15) (d := 16) (k := 20) (n := mu + 17) (kc := kc + 1) (ks := ks + 1536) (mu := mu) (S := mS0) (by decide) (by decide) (by decide)
  have h2' : xpf (mPP 15 16 (mu + 17) (kc + 1) (ks + 1536) mu mS0) mu 11 20 (va_rf (some (mu + 16))) = mPP 16 16 (mu + 17) (kc + 1) (ks + 1536) mu mS0 := h2
  have h3 := mPP_f (c := 15) (d := 16) (k := 20) (n := mu + 17) (kc := kc + 1) (ks := ks + 1536) (mu := mu) (S := mS0) (by decide)
  simp only [x163_128, x163_129, x163_132, x163_134, x163_132 (show ¬ (1536 : Int32) < 0 by decide) (show ¬ 65536 < Int32.toNatClampNeg 1536 by decide), h1', mPP_1, h2', h3, Option.bind_some, Option.toList_some, Option.toList_none, List.cons_append, List.nil_append, Option.isSome_some, if_true, eq_self, or_true, true_or, xb_01, mcl_cl, not_true_eq_false, not_false_eq_true, if_false]
theorem l163_17 : X g 163 137 [.val (va_rf (some mu)), .unset] [] (mPP 16 16 (mu + 17) kc ks mu mS0) = X g 163 146 [.val (va_rf (some mu)), .unset] [] (mPP 17 17 (mu + 18) (kc + 1) (ks + 1536) mu mS0) := by
  have h1 := mPP_n3 (c := 16) (d := 16) (k := 21) (kc := kc) (ks := ks) (mu := mu) (S := mS0) (by decide) (by decide) (fun j => rfl)
  have h1' : xnew (mPP 16 16 (mu + 17) kc ks mu mS0) (.inl (1, Int32.toNatClampNeg 1536, fun _ => .long 0)) (Int32.toNatClampNeg 1536) = mPP 16 17 (mu + 18) (kc + 1) (ks + 1536) mu mS0 := h1
  have h2 := mPP_p (c := 16) (d := 17) (k := 21) (n := mu + 18) (kc := kc + 1) (ks := ks + 1536) (mu := mu) (S := mS0) (by decide) (by decide) (by decide)
  have h2' : xpf (mPP 16 17 (mu + 18) (kc + 1) (ks + 1536) mu mS0) mu 11 21 (va_rf (some (mu + 17))) = mPP 17 17 (mu + 18) (kc + 1) (ks + 1536) mu mS0 := h2
  have h3 := mPP_f (c := 16) (d := 17) (k := 21) (n := mu + 18) (kc := kc + 1) (ks := ks + 1536) (mu := mu) (S := mS0) (by decide)
  simp only [x163_137, x163_138, x163_141, x163_143, x163_141 (show ¬ (1536 : Int32) < 0 by decide) (show ¬ 65536 < Int32.toNatClampNeg 1536 by decide), h1', mPP_1, h2', h3, Option.bind_some, Option.toList_some, Option.toList_none, List.cons_append, List.nil_append, Option.isSome_some, if_true, eq_self, or_true, true_or, xb_01, mcl_cl, not_true_eq_false, not_false_eq_true, if_false]
theorem l163_18 : X g 163 146 [.val (va_rf (some mu)), .unset] [] (mPP 17 17 (mu + 18) kc ks mu mS0) = X g 163 154 [.val (va_rf (some mu)), .unset] [] (mPP 18 18 (mu + 19) (kc + 1) (ks + 24) mu mS0) := by
  have h1 := mPP_n2 (c := 17) (d := 17) (k := 22) (kc := kc) (ks := ks) (mu := mu) (S := mS0) (by decide) (by decide) (fun j => rfl)
  have h1' : xnew (mPP 17 17 (mu + 18) kc ks mu mS0) (.inl (0, Int32.toNatClampNeg 24, fun _ => .int 0)) (Int32.toNatClampNeg 24) = mPP 17 18 (mu + 19) (kc + 1) (ks + 24) mu mS0 := h1
  have h2 := mPP_p (c := 17) (d := 18) (k := 22) (n := mu + 19) (kc := kc + 1) (ks := ks + 24) (mu := mu) (S := mS0) (by decide) (by decide) (by decide)
  have h2' : xpf (mPP 17 18 (mu + 19) (kc + 1) (ks + 24) mu mS0) mu 11 22 (va_rf (some (mu + 18))) = mPP 18 18 (mu + 19) (kc + 1) (ks + 24) mu mS0 := h2
  have h3 := mPP_f (c := 17) (d := 18) (k := 22) (n := mu + 19) (kc := kc + 1) (ks := ks + 24) (mu := mu) (S := mS0) (by decide)
  simp only [x163_146, x163_147, x163_149, x163_151, x163_149 (show ¬ (24 : Int32) < 0 by decide) (show ¬ 65536 < Int32.toNatClampNeg 24 by decide), h1', mPP_1, h2', h3, Option.bind_some, Option.toList_some, Option.toList_none, List.cons_append, List.nil_append, Option.isSome_some, if_true, eq_self, or_true, true_or, xb_01, mcl_cl, not_true_eq_false, not_false_eq_true, if_false]
theorem l163_19 : X g 163 154 [.val (va_rf (some mu)), .unset] [] (mPP 18 18 (mu + 19) kc ks mu mS0) = X g 163 161 [.val (va_rf (some mu)), .unset] [] (mPP 19 19 (mu + 20) (kc + 1) (ks + 3) mu mS0) := by
  have h1 := mPP_n2 (c := 18) (d := 18) (k := 26) (kc := kc) (ks := ks) (mu := mu) (S := mS0) (by decide) (by decide) (fun j => rfl)
  have h1' : xnew (mPP 18 18 (mu + 19) kc ks mu mS0) (.inl (0, Int32.toNatClampNeg 3, fun _ => .int 0)) (Int32.toNatClampNeg 3) = mPP 18 19 (mu + 20) (kc + 1) (ks + 3) mu mS0 := h1
  have h2 := mPP_p (c := 18) (d := 19) (k := 26) (n := mu + 20) (kc := kc + 1) (ks := ks + 3) (mu := mu) (S := mS0) (by decide) (by decide) (by decide)
  have h2' : xpf (mPP 18 19 (mu + 20) (kc + 1) (ks + 3) mu mS0) mu 11 26 (va_rf (some (mu + 19))) = mPP 19 19 (mu + 20) (kc + 1) (ks + 3) mu mS0 := h2
  have h3 := mPP_f (c := 18) (d := 19) (k := 26) (n := mu + 20) (kc := kc + 1) (ks := ks + 3) (mu := mu) (S := mS0) (by decide)
  simp only [x163_154, x163_155, x163_156, x163_158, x163_156 (show ¬ (3 : Int32) < 0 by decide) (show ¬ 65536 < Int32.toNatClampNeg 3 by decide), h1', mPP_1, h2', h3, Option.bind_some, Option.toList_some, Option.toList_none, List.cons_append, List.nil_append, Option.isSome_some, if_true, eq_self, or_true, true_or, xb_01, mcl_cl, not_true_eq_false, not_false_eq_true, if_false]
theorem l163_20 : X g 163 161 [.val (va_rf (some mu)), .unset] [] (mPP 19 19 (mu + 20) kc ks mu mS0) = X g 163 169 [.val (va_rf (some mu)), .unset] [] (mPP 20 20 (mu + 21) (kc + 1) (ks + 32) mu mS0) := by
  have h1 := mPP_n2 (c := 19) (d := 19) (k := 27) (kc := kc) (ks := ks) (mu := mu) (S := mS0) (by decide) (by decide) (fun j => rfl)
  have h1' : xnew (mPP 19 19 (mu + 20) kc ks mu mS0) (.inl (0, Int32.toNatClampNeg 32, fun _ => .int 0)) (Int32.toNatClampNeg 32) = mPP 19 20 (mu + 21) (kc + 1) (ks + 32) mu mS0 := h1
  have h2 := mPP_p (c := 19) (d := 20) (k := 27) (n := mu + 21) (kc := kc + 1) (ks := ks + 32) (mu := mu) (S := mS0) (by decide) (by decide) (by decide)
  have h2' : xpf (mPP 19 20 (mu + 21) (kc + 1) (ks + 32) mu mS0) mu 11 27 (va_rf (some (mu + 20))) = mPP 20 20 (mu + 21) (kc + 1) (ks + 32) mu mS0 := h2
  have h3 := mPP_f (c := 19) (d := 20) (k := 27) (n := mu + 21) (kc := kc + 1) (ks := ks + 32) (mu := mu) (S := mS0) (by decide)
  simp only [x163_161, x163_162, x163_164, x163_166, x163_164 (show ¬ (32 : Int32) < 0 by decide) (show ¬ 65536 < Int32.toNatClampNeg 32 by decide), h1', mPP_1, h2', h3, Option.bind_some, Option.toList_some, Option.toList_none, List.cons_append, List.nil_append, Option.isSome_some, if_true, eq_self, or_true, true_or, xb_01, mcl_cl, not_true_eq_false, not_false_eq_true, if_false]
theorem l163_21 : X g 163 169 [.val (va_rf (some mu)), .unset] [] (mPP 20 20 (mu + 21) kc ks mu mS0) = X g 163 177 [.val (va_rf (some mu)), .unset] [] (mPP 21 21 (mu + 22) (kc + 1) (ks + 32) mu mS0) := by
  have h1 := mPP_n3 (c := 20) (d := 20) (k := 28) (kc := kc) (ks := ks) (mu := mu) (S := mS0) (by decide) (by decide) (fun j => rfl)
  have h1' : xnew (mPP 20 20 (mu + 21) kc ks mu mS0) (.inl (1, Int32.toNatClampNeg 32, fun _ => .long 0)) (Int32.toNatClampNeg 32) = mPP 20 21 (mu + 22) (kc + 1) (ks + 32) mu mS0 := h1
  have h2 := mPP_p (c := 20) (d := 21) (k := 28) (n := mu + 22) (kc := kc + 1) (ks := ks + 32) (mu := mu) (S := mS0) (by decide) (by decide) (by decide)
  have h2' : xpf (mPP 20 21 (mu + 22) (kc + 1) (ks + 32) mu mS0) mu 11 28 (va_rf (some (mu + 21))) = mPP 21 21 (mu + 22) (kc + 1) (ks + 32) mu mS0 := h2
  have h3 := mPP_f (c := 20) (d := 21) (k := 28) (n := mu + 22) (kc := kc + 1) (ks := ks + 32) (mu := mu) (S := mS0) (by decide)
  simp only [x163_169, x163_170, x163_172, x163_174, x163_172 (show ¬ (32 : Int32) < 0 by decide) (show ¬ 65536 < Int32.toNatClampNeg 32 by decide), h1', mPP_1, h2', h3, Option.bind_some, Option.toList_some, Option.toList_none, List.cons_append, List.nil_append, Option.isSome_some, if_true, eq_self, or_true, true_or, xb_01, mcl_cl, not_true_eq_false, not_false_eq_true, if_false]
theorem l163_22 : X g 163 177 [.val (va_rf (some mu)), .unset] [] (mPP 21 21 (mu + 22) kc ks mu mS0) = X g 163 186 [.val (va_rf (some mu)), .unset] [] (mPP 22 22 (mu + 23) (kc + 1) (ks + 800) mu mS0) := by
  have h1 := mPP_n2 (c := 21) (d := 21) (k := 29) (kc := kc) (ks := ks) (mu := mu) (S := mS0) (by decide) (by decide) (fun j => rfl)
  have h1' : xnew (mPP 21 21 (mu + 22) kc ks mu mS0) (.inl (0, Int32.toNatClampNeg 800, fun _ => .int 0)) (Int32.toNatClampNeg 800) = mPP 21 22 (mu + 23) (kc + 1) (ks + 800) mu mS0 := h1
  have h2 := mPP_p (c := 21) (d := 22) (k := 29) (n := mu + 23) (kc := kc + 1) (ks := ks + 800) (mu := mu) (S := mS0) (by decide) (by decide) (by decide)
  have h2' : xpf (mPP 21 22 (mu + 23) (kc + 1) (ks + 800) mu mS0) mu 11 29 (va_rf (some (mu + 22))) = mPP 22 22 (mu + 23) (kc + 1) (ks + 800) mu mS0 := h2
  have h3 := mPP_f (c := 21) (d := 22) (k := 29) (n := mu + 23) (kc := kc + 1) (ks := ks + 800) (mu := mu) (S := mS0) (by decide)
  simp only [x163_177, x163_178, x163_181, x163_183, x163_181 (show ¬ (800 : Int32) < 0 by decide) (show ¬ 65536 < Int32.toNatClampNeg 800 by decide), h1', mPP_1, h2', h3, Option.bind_some, Option.toList_some, Option.toList_none, List.cons_append, List.nil_append, Option.isSome_some, if_true, eq_self, or_true, true_or, xb_01, mcl_cl, not_true_eq_false, not_false_eq_true, if_false]
theorem l163_23 : X g 163 186 [.val (va_rf (some mu)), .unset] [] (mPP 22 22 (mu + 23) kc ks mu mS0) = X g 163 194 [.val (va_rf (some mu)), .unset] [] (mPP 23 23 (mu + 24) (kc + 1) (ks + 20) mu mS0) := by
  have h1 := mPP_n2 (c := 22) (d := 22) (k := 31) (kc := kc) (ks := ks) (mu := mu) (S := mS0) (by decide) (by decide) (fun j => rfl)
  have h1' : xnew (mPP 22 22 (mu + 23) kc ks mu mS0) (.inl (0, Int32.toNatClampNeg 20, fun _ => .int 0)) (Int32.toNatClampNeg 20) = mPP 22 23 (mu + 24) (kc + 1) (ks + 20) mu mS0 := h1
  have h2 := mPP_p (c := 22) (d := 23) (k := 31) (n := mu + 24) (kc := kc + 1) (ks := ks + 20) (mu := mu) (S := mS0) (by decide) (by decide) (by decide)
  have h2' : xpf (mPP 22 23 (mu + 24) (kc + 1) (ks + 20) mu mS0) mu 11 31 (va_rf (some (mu + 23))) = mPP 23 23 (mu + 24) (kc + 1) (ks + 20) mu mS0 := h2
  have h3 := mPP_f (c := 22) (d := 23) (k := 31) (n := mu + 24) (kc := kc + 1) (ks := ks + 20) (mu := mu) (S := mS0) (by decide)
  simp only [x163_186, x163_187, x163_189, x163_191, x163_189 (show ¬ (20 : Int32) < 0 by decide) (show ¬ 65536 < Int32.toNatClampNeg 20 by decide), h1', mPP_1, h2', h3, Option.bind_some, Option.toList_some, Option.toList_none, List.cons_append, List.nil_append, Option.isSome_some, if_true, eq_self, or_true, true_or, xb_01, mcl_cl, not_true_eq_false, not_false_eq_true, if_false]
theorem l163_24 : X g 163 194 [.val (va_rf (some mu)), .unset] [] (mPP 23 23 (mu + 24) kc ks mu mS0) = X g 163 256 [.val (va_rf (some mu)), .unset] [] (mPP 24 24 (mu + 25) (kc + 1) (ks + 10) mu mSL) := by
  have h1 := mPP_n2 (c := 23) (d := 23) (k := 32) (kc := kc) (ks := ks) (mu := mu) (S := mS0) (by decide) (by decide) (fun j => rfl)
  have h1' : xnew (mPP 23 23 (mu + 24) kc ks mu mS0) (.inl (0, Int32.toNatClampNeg 10, fun _ => .int 0)) (Int32.toNatClampNeg 10) = mPP 23 24 (mu + 25) (kc + 1) (ks + 10) mu mS0 := h1
  have h2 := mPP_p (c := 23) (d := 24) (k := 32) (n := mu + 25) (kc := kc + 1) (ks := ks + 10) (mu := mu) (S := mSL) (by decide) (by decide) (by decide)
  have h2' : xpf (mPP 23 24 (mu + 25) (kc + 1) (ks + 10) mu mSL) mu 11 32 (va_rf (some (mu + 24))) = mPP 24 24 (mu + 25) (kc + 1) (ks + 10) mu mSL := h2
  have h3 := mPP_f (c := 23) (d := 24) (k := 32) (n := mu + 25) (kc := kc + 1) (ks := ks + 10) (mu := mu) (S := mSL) (by decide)
  have s0 : xast (mPP 23 24 (mu + 25) (kc + 1) (ks + 10) mu (mS0)) (mu + 24) 0 0 (.int 122) = some (mPP 23 24 (mu + 25) (kc + 1) (ks + 10) mu (msA (mS0) 32 0 122)) := mPP_s (k := 32) (by decide) (by decide) (by decide)
  have s1 : xast (mPP 23 24 (mu + 25) (kc + 1) (ks + 10) mu (msA (mS0) 32 0 122)) (mu + 24) 0 1 (.int 98) = some (mPP 23 24 (mu + 25) (kc + 1) (ks + 10) mu (msA (msA (mS0) 32 0 122) 32 1 98)) := mPP_s (k := 32) (by decide) (by decide) (by decide)
  have s2 : xast (mPP 23 24 (mu + 25) (kc + 1) (ks + 10) mu (msA (msA (mS0) 32 0 122) 32 1 98)) (mu + 24) 0 2 (.int 99) = some (mPP 23 24 (mu + 25) (kc + 1) (ks + 10) mu (msA (msA (msA (mS0) 32 0 122) 32 1 98) 32 2 99)) := mPP_s (k := 32) (by decide) (by decide) (by decide)
  have s3 : xast (mPP 23 24 (mu + 25) (kc + 1) (ks + 10) mu (msA (msA (msA (mS0) 32 0 122) 32 1 98) 32 2 99)) (mu + 24) 0 3 (.int 115) = some (mPP 23 24 (mu + 25) (kc + 1) (ks + 10) mu (msA (msA (msA (msA (mS0) 32 0 122) 32 1 98) 32 2 99) 32 3 115)) := mPP_s (k := 32) (by decide) (by decide) (by decide)
  have s4 : xast (mPP 23 24 (mu + 25) (kc + 1) (ks + 10) mu (msA (msA (msA (msA (mS0) 32 0 122) 32 1 98) 32 2 99) 32 3 115)) (mu + 24) 0 4 (.int 105) = some (mPP 23 24 (mu + 25) (kc + 1) (ks + 10) mu (msA (msA (msA (msA (msA (mS0) 32 0 122) 32 1 98) 32 2 99) 32 3 115) 32 4 105)) := mPP_s (k := 32) (by decide) (by decide) (by decide)
  have s5 : xast (mPP 23 24 (mu + 25) (kc + 1) (ks + 10) mu (msA (msA (msA (msA (msA (mS0) 32 0 122) 32 1 98) 32 2 99) 32 3 115) 32 4 105)) (mu + 24) 0 5 (.int 106) = some (mPP 23 24 (mu + 25) (kc + 1) (ks + 10) mu (msA (msA (msA (msA (msA (msA (mS0) 32 0 122) 32 1 98) 32 2 99) 32 3 115) 32 4 105) 32 5 106)) := mPP_s (k := 32) (by decide) (by decide) (by decide)
  have s6 : xast (mPP 23 24 (mu + 25) (kc + 1) (ks + 10) mu (msA (msA (msA (msA (msA (msA (mS0) 32 0 122) 32 1 98) 32 2 99) 32 3 115) 32 4 105) 32 5 106)) (mu + 24) 0 6 (.int 102) = some (mPP 23 24 (mu + 25) (kc + 1) (ks + 10) mu (msA (msA (msA (msA (msA (msA (msA (mS0) 32 0 122) 32 1 98) 32 2 99) 32 3 115) 32 4 105) 32 5 106) 32 6 102)) := mPP_s (k := 32) (by decide) (by decide) (by decide)
  have s7 : xast (mPP 23 24 (mu + 25) (kc + 1) (ks + 10) mu (msA (msA (msA (msA (msA (msA (msA (mS0) 32 0 122) 32 1 98) 32 2 99) 32 3 115) 32 4 105) 32 5 106) 32 6 102)) (mu + 24) 0 7 (.int 100) = some (mPP 23 24 (mu + 25) (kc + 1) (ks + 10) mu (msA (msA (msA (msA (msA (msA (msA (msA (mS0) 32 0 122) 32 1 98) 32 2 99) 32 3 115) 32 4 105) 32 5 106) 32 6 102) 32 7 100)) := mPP_s (k := 32) (by decide) (by decide) (by decide)
  have s8 : xast (mPP 23 24 (mu + 25) (kc + 1) (ks + 10) mu (msA (msA (msA (msA (msA (msA (msA (msA (mS0) 32 0 122) 32 1 98) 32 2 99) 32 3 115) 32 4 105) 32 5 106) 32 6 102) 32 7 100)) (mu + 24) 0 8 (.int 111) = some (mPP 23 24 (mu + 25) (kc + 1) (ks + 10) mu (msA (msA (msA (msA (msA (msA (msA (msA (msA (mS0) 32 0 122) 32 1 98) 32 2 99) 32 3 115) 32 4 105) 32 5 106) 32 6 102) 32 7 100) 32 8 111)) := mPP_s (k := 32) (by decide) (by decide) (by decide)
  have s9 : xast (mPP 23 24 (mu + 25) (kc + 1) (ks + 10) mu (msA (msA (msA (msA (msA (msA (msA (msA (msA (mS0) 32 0 122) 32 1 98) 32 2 99) 32 3 115) 32 4 105) 32 5 106) 32 6 102) 32 7 100) 32 8 111)) (mu + 24) 0 9 (.int 108) = some (mPP 23 24 (mu + 25) (kc + 1) (ks + 10) mu (msA (msA (msA (msA (msA (msA (msA (msA (msA (msA (mS0) 32 0 122) 32 1 98) 32 2 99) 32 3 115) 32 4 105) 32 5 106) 32 6 102) 32 7 100) 32 8 111) 32 9 108)) := mPP_s (k := 32) (by decide) (by decide) (by decide)
  have h2'' : xpf (mPP 23 24 (mu + 25) (kc + 1) (ks + 10) mu (msA (msA (msA (msA (msA (msA (msA (msA (msA (msA (mS0) 32 0 122) 32 1 98) 32 2 99) 32 3 115) 32 4 105) 32 5 106) 32 6 102) 32 7 100) 32 8 111) 32 9 108)) mu 11 32 (va_rf (some (mu + 24))) = mPP 24 24 (mu + 25) (kc + 1) (ks + 10) mu mSL := h2'
  have h3'' : (xf (mPP 23 24 (mu + 25) (kc + 1) (ks + 10) mu (msA (msA (msA (msA (msA (msA (msA (msA (msA (msA (mS0) 32 0 122) 32 1 98) 32 2 99) 32 3 115) 32 4 105) 32 5 106) 32 6 102) 32 7 100) 32 8 111) 32 9 108)) mu 11 32).isSome = true := h3
  simp only [x163_194, x163_195, x163_197, x163_199, x163_200, x163_201, x163_203, x163_204, x163_205, x163_206, x163_208, x163_209, x163_210, x163_211, x163_213, x163_214, x163_215, x163_216, x163_218, x163_219, x163_220, x163_221, x163_223, x163_224, x163_225, x163_226, x163_228, x163_229, x163_230, x163_232, x163_234, x163_235, x163_236, x163_238, x163_240, x163_241, x163_242, x163_244, x163_246, x163_247, x163_248, x163_250, x163_252, x163_253, x163_197 (show ¬ (10 : Int32) < 0 by decide) (show ¬ 65536 < Int32.toNatClampNeg 10 by decide), h1', mPP_1, s0, s1, s2, s3, s4, s5, s6, s7, s8, s9, h2'', h3'', Option.bind_some, Option.toList_some, Option.toList_none, List.cons_append, List.nil_append, Option.isSome_some, if_true, eq_self, or_true, true_or, xb_01, mcl_cl, not_true_eq_false, not_false_eq_true, if_false]
theorem l163_25 : X g 163 256 [.val (va_rf (some mu)), .unset] [] (mPP 24 24 (mu + 25) kc ks mu mSL) = X g 163 264 [.val (va_rf (some mu)), .unset] [] (mPP 25 25 (mu + 26) (kc + 1) (ks + 120) mu mSL) := by
  have h1 := mPP_n2 (c := 24) (d := 24) (k := 33) (kc := kc) (ks := ks) (mu := mu) (S := mSL) (by decide) (by decide) (fun j => by simp [mSL, msA, mS0])
  have h1' : xnew (mPP 24 24 (mu + 25) kc ks mu mSL) (.inl (0, Int32.toNatClampNeg 120, fun _ => .int 0)) (Int32.toNatClampNeg 120) = mPP 24 25 (mu + 26) (kc + 1) (ks + 120) mu mSL := h1
  have h2 := mPP_p (c := 24) (d := 25) (k := 33) (n := mu + 26) (kc := kc + 1) (ks := ks + 120) (mu := mu) (S := mSL) (by decide) (by decide) (by decide)
  have h2' : xpf (mPP 24 25 (mu + 26) (kc + 1) (ks + 120) mu mSL) mu 11 33 (va_rf (some (mu + 25))) = mPP 25 25 (mu + 26) (kc + 1) (ks + 120) mu mSL := h2
  have h3 := mPP_f (c := 24) (d := 25) (k := 33) (n := mu + 26) (kc := kc + 1) (ks := ks + 120) (mu := mu) (S := mSL) (by decide)
  simp only [x163_256, x163_257, x163_259, x163_261, x163_259 (show ¬ (120 : Int32) < 0 by decide) (show ¬ 65536 < Int32.toNatClampNeg 120 by decide), h1', mPP_1, h2', h3, Option.bind_some, Option.toList_some, Option.toList_none, List.cons_append, List.nil_append, Option.isSome_some, if_true, eq_self, or_true, true_or, xb_01, mcl_cl, not_true_eq_false, not_false_eq_true, if_false]
theorem l163_26 : X g 163 264 [.val (va_rf (some mu)), .unset] [] (mPP 25 25 (mu + 26) kc ks mu mSL) = X g 163 272 [.val (va_rf (some mu)), .unset] [] (mPP 26 26 (mu + 27) (kc + 1) (ks + 40) mu mSL) := by
  have h1 := mPP_n2 (c := 25) (d := 25) (k := 37) (kc := kc) (ks := ks) (mu := mu) (S := mSL) (by decide) (by decide) (fun j => by simp [mSL, msA, mS0])
  have h1' : xnew (mPP 25 25 (mu + 26) kc ks mu mSL) (.inl (0, Int32.toNatClampNeg 40, fun _ => .int 0)) (Int32.toNatClampNeg 40) = mPP 25 26 (mu + 27) (kc + 1) (ks + 40) mu mSL := h1
  have h2 := mPP_p (c := 25) (d := 26) (k := 37) (n := mu + 27) (kc := kc + 1) (ks := ks + 40) (mu := mu) (S := mSL) (by decide) (by decide) (by decide)
  have h2' : xpf (mPP 25 26 (mu + 27) (kc + 1) (ks + 40) mu mSL) mu 11 37 (va_rf (some (mu + 26))) = mPP 26 26 (mu + 27) (kc + 1) (ks + 40) mu mSL := h2
  have h3 := mPP_f (c := 25) (d := 26) (k := 37) (n := mu + 27) (kc := kc + 1) (ks := ks + 40) (mu := mu) (S := mSL) (by decide)
  simp only [x163_264, x163_265, x163_267, x163_269, x163_267 (show ¬ (40 : Int32) < 0 by decide) (show ¬ 65536 < Int32.toNatClampNeg 40 by decide), h1', mPP_1, h2', h3, Option.bind_some, Option.toList_some, Option.toList_none, List.cons_append, List.nil_append, Option.isSome_some, if_true, eq_self, or_true, true_or, xb_01, mcl_cl, not_true_eq_false, not_false_eq_true, if_false]
theorem l163_27 : X g 163 272 [.val (va_rf (some mu)), .unset] [] (mPP 26 26 (mu + 27) kc ks mu mSL) = X g 163 280 [.val (va_rf (some mu)), .unset] [] (mPP 27 27 (mu + 28) (kc + 1) (ks + 40) mu mSL) := by
  have h1 := mPP_n2 (c := 26) (d := 26) (k := 38) (kc := kc) (ks := ks) (mu := mu) (S := mSL) (by decide) (by decide) (fun j => by simp [mSL, msA, mS0])
  have h1' : xnew (mPP 26 26 (mu + 27) kc ks mu mSL) (.inl (0, Int32.toNatClampNeg 40, fun _ => .int 0)) (Int32.toNatClampNeg 40) = mPP 26 27 (mu + 28) (kc + 1) (ks + 40) mu mSL := h1
  have h2 := mPP_p (c := 26) (d := 27) (k := 38) (n := mu + 28) (kc := kc + 1) (ks := ks + 40) (mu := mu) (S := mSL) (by decide) (by decide) (by decide)
  have h2' : xpf (mPP 26 27 (mu + 28) (kc + 1) (ks + 40) mu mSL) mu 11 38 (va_rf (some (mu + 27))) = mPP 27 27 (mu + 28) (kc + 1) (ks + 40) mu mSL := h2
  have h3 := mPP_f (c := 26) (d := 27) (k := 38) (n := mu + 28) (kc := kc + 1) (ks := ks + 40) (mu := mu) (S := mSL) (by decide)
  simp only [x163_272, x163_273, x163_275, x163_277, x163_275 (show ¬ (40 : Int32) < 0 by decide) (show ¬ 65536 < Int32.toNatClampNeg 40 by decide), h1', mPP_1, h2', h3, Option.bind_some, Option.toList_some, Option.toList_none, List.cons_append, List.nil_append, Option.isSome_some, if_true, eq_self, or_true, true_or, xb_01, mcl_cl, not_true_eq_false, not_false_eq_true, if_false]
theorem l163_28 : X g 163 280 [.val (va_rf (some mu)), .unset] [] (mPP 27 27 (mu + 28) kc ks mu mSL) = X g 163 288 [.val (va_rf (some mu)), .unset] [] (mPP 28 28 (mu + 29) (kc + 1) (ks + 40) mu mSL) := by
  have h1 := mPP_n2 (c := 27) (d := 27) (k := 39) (kc := kc) (ks := ks) (mu := mu) (S := mSL) (by decide) (by decide) (fun j => by simp [mSL, msA, mS0])
  have h1' : xnew (mPP 27 27 (mu + 28) kc ks mu mSL) (.inl (0, Int32.toNatClampNeg 40, fun _ => .int 0)) (Int32.toNatClampNeg 40) = mPP 27 28 (mu + 29) (kc + 1) (ks + 40) mu mSL := h1
  have h2 := mPP_p (c := 27) (d := 28) (k := 39) (n := mu + 29) (kc := kc + 1) (ks := ks + 40) (mu := mu) (S := mSL) (by decide) (by decide) (by decide)
  have h2' : xpf (mPP 27 28 (mu + 29) (kc + 1) (ks + 40) mu mSL) mu 11 39 (va_rf (some (mu + 28))) = mPP 28 28 (mu + 29) (kc + 1) (ks + 40) mu mSL := h2
  have h3 := mPP_f (c := 27) (d := 28) (k := 39) (n := mu + 29) (kc := kc + 1) (ks := ks + 40) (mu := mu) (S := mSL) (by decide)
  simp only [x163_280, x163_281, x163_283, x163_285, x163_283 (show ¬ (40 : Int32) < 0 by decide) (show ¬ 65536 < Int32.toNatClampNeg 40 by decide), h1', mPP_1, h2', h3, Option.bind_some, Option.toList_some, Option.toList_none, List.cons_append, List.nil_append, Option.isSome_some, if_true, eq_self, or_true, true_or, xb_01, mcl_cl, not_true_eq_false, not_false_eq_true, if_false]
theorem l163_29 : X g 163 288 [.val (va_rf (some mu)), .unset] [] (mPP 28 28 (mu + 29) kc ks mu mSL) = X g 163 296 [.val (va_rf (some mu)), .unset] [] (mPP 29 29 (mu + 30) (kc + 1) (ks + 40) mu mSL) := by
  have h1 := mPP_n2 (c := 28) (d := 28) (k := 40) (kc := kc) (ks := ks) (mu := mu) (S := mSL) (by decide) (by decide) (fun j => by simp [mSL, msA, mS0])
  have h1' : xnew (mPP 28 28 (mu + 29) kc ks mu mSL) (.inl (0, Int32.toNatClampNeg 40, fun _ => .int 0)) (Int32.toNatClampNeg 40) = mPP 28 29 (mu + 30) (kc + 1) (ks + 40) mu mSL := h1
  have h2 := mPP_p (c := 28) (d := 29) (k := 40) (n := mu + 30) (kc := kc + 1) (ks := ks + 40) (mu := mu) (S := mSL) (by decide) (by decide) (by decide)
  have h2' : xpf (mPP 28 29 (mu + 30) (kc + 1) (ks + 40) mu mSL) mu 11 40 (va_rf (some (mu + 29))) = mPP 29 29 (mu + 30) (kc + 1) (ks + 40) mu mSL := h2
  have h3 := mPP_f (c := 28) (d := 29) (k := 40) (n := mu + 30) (kc := kc + 1) (ks := ks + 40) (mu := mu) (S := mSL) (by decide)
  simp only [x163_288, x163_289, x163_291, x163_293, x163_291 (show ¬ (40 : Int32) < 0 by decide) (show ¬ 65536 < Int32.toNatClampNeg 40 by decide), h1', mPP_1, h2', h3, Option.bind_some, Option.toList_some, Option.toList_none, List.cons_append, List.nil_append, Option.isSome_some, if_true, eq_self, or_true, true_or, xb_01, mcl_cl, not_true_eq_false, not_false_eq_true, if_false]
theorem l163_30 : X g 163 296 [.val (va_rf (some mu)), .unset] [] (mPP 29 29 (mu + 30) kc ks mu mSL) = X g 163 304 [.val (va_rf (some mu)), .unset] [] (mPP 30 30 (mu + 31) (kc + 1) (ks + 40) mu mSL) := by
  have h1 := mPP_n2 (c := 29) (d := 29) (k := 41) (kc := kc) (ks := ks) (mu := mu) (S := mSL) (by decide) (by decide) (fun j => by simp [mSL, msA, mS0])
  have h1' : xnew (mPP 29 29 (mu + 30) kc ks mu mSL) (.inl (0, Int32.toNatClampNeg 40, fun _ => .int 0)) (Int32.toNatClampNeg 40) = mPP 29 30 (mu + 31) (kc + 1) (ks + 40) mu mSL := h1
  have h2 := mPP_p (c := 29) (d := 30) (k := 41) (n := mu + 31) (kc := kc + 1) (ks := ks + 40) (mu := mu) (S := mSL) (by decide) (by decide) (by decide)
  have h2' : xpf (mPP 29 30 (mu + 31) (kc + 1) (ks + 40) mu mSL) mu 11 41 (va_rf (some (mu + 30))) = mPP 30 30 (mu + 31) (kc + 1) (ks + 40) mu mSL := h2
  have h3 := mPP_f (c := 29) (d := 30) (k := 41) (n := mu + 31) (kc := kc + 1) (ks := ks + 40) (mu := mu) (S := mSL) (by decide)
  simp only [x163_296, x163_297, x163_299, x163_301, x163_299 (show ¬ (40 : Int32) < 0 by decide) (show ¬ 65536 < Int32.toNatClampNeg 40 by decide), h1', mPP_1, h2', h3, Option.bind_some, Option.toList_some, Option.toList_none, List.cons_append, List.nil_append, Option.isSome_some, if_true, eq_self, or_true, true_or, xb_01, mcl_cl, not_true_eq_false, not_false_eq_true, if_false]
theorem l163_31 : X g 163 304 [.val (va_rf (some mu)), .unset] [] (mPP 30 30 (mu + 31) kc ks mu mSL) = X g 163 312 [.val (va_rf (some mu)), .unset] [] (mPP 31 31 (mu + 32) (kc + 1) (ks + 40) mu mSL) := by
  have h1 := mPP_n3 (c := 30) (d := 30) (k := 42) (kc := kc) (ks := ks) (mu := mu) (S := mSL) (by decide) (by decide) (fun j => rfl)
  have h1' : xnew (mPP 30 30 (mu + 31) kc ks mu mSL) (.inl (1, Int32.toNatClampNeg 40, fun _ => .long 0)) (Int32.toNatClampNeg 40) = mPP 30 31 (mu + 32) (kc + 1) (ks + 40) mu mSL := h1
  have h2 := mPP_p (c := 30) (d := 31) (k := 42) (n := mu + 32) (kc := kc + 1) (ks := ks + 40) (mu := mu) (S := mSL) (by decide) (by decide) (by decide)
  have h2' : xpf (mPP 30 31 (mu + 32) (kc + 1) (ks + 40) mu mSL) mu 11 42 (va_rf (some (mu + 31))) = mPP 31 31 (mu + 32) (kc + 1) (ks + 40) mu mSL := h2
  have h3 := mPP_f (c := 30) (d := 31) (k := 42) (n := mu + 32) (kc := kc + 1) (ks := ks + 40) (mu := mu) (S := mSL) (by decide)
  simp only [x163_304, x163_305, x163_307, x163_309, x163_307 (show ¬ (40 : Int32) < 0 by decide) (show ¬ 65536 < Int32.toNatClampNeg 40 by decide), h1', mPP_1, h2', h3, Option.bind_some, Option.toList_some, Option.toList_none, List.cons_append, List.nil_append, Option.isSome_some, if_true, eq_self, or_true, true_or, xb_01, mcl_cl, not_true_eq_false, not_false_eq_true, if_false]
theorem l163_32 : X g 163 312 [.val (va_rf (some mu)), .unset] [] (mPP 31 31 (mu + 32) kc ks mu mSL) = X g 163 320 [.val (va_rf (some mu)), .unset] [] (mPP 32 32 (mu + 33) (kc + 1) (ks + 10) mu mSL) := by
  have h1 := mPP_n2 (c := 31) (d := 31) (k := 44) (kc := kc) (ks := ks) (mu := mu) (S := mSL) (by decide) (by decide) (fun j => by simp [mSL, msA, mS0])
  have h1' : xnew (mPP 31 31 (mu + 32) kc ks mu mSL) (.inl (0, Int32.toNatClampNeg 10, fun _ => .int 0)) (Int32.toNatClampNeg 10) = mPP 31 32 (mu + 33) (kc + 1) (ks + 10) mu mSL := h1
  have h2 := mPP_p (c := 31) (d := 32) (k := 44) (n := mu + 33) (kc := kc + 1) (ks := ks + 10) (mu := mu) (S := mSL) (by decide) (by decide) (by decide)
  have h2' : xpf (mPP 31 32 (mu + 33) (kc + 1) (ks + 10) mu mSL) mu 11 44 (va_rf (some (mu + 32))) = mPP 32 32 (mu + 33) (kc + 1) (ks + 10) mu mSL := h2
  have h3 := mPP_f (c := 31) (d := 32) (k := 44) (n := mu + 33) (kc := kc + 1) (ks := ks + 10) (mu := mu) (S := mSL) (by decide)
  simp only [x163_312, x163_313, x163_315, x163_317, x163_315 (show ¬ (10 : Int32) < 0 by decide) (show ¬ 65536 < Int32.toNatClampNeg 10 by decide), h1', mPP_1, h2', h3, Option.bind_some, Option.toList_some, Option.toList_none, List.cons_append, List.nil_append, Option.isSome_some, if_true, eq_self, or_true, true_or, xb_01, mcl_cl, not_true_eq_false, not_false_eq_true, if_false]
theorem l163_33 : X g 163 320 [.val (va_rf (some mu)), .unset] [] (mPP 32 32 (mu + 33) kc ks mu mSL) = X g 163 328 [.val (va_rf (some mu)), .unset] [] (mPP 33 33 (mu + 34) (kc + 1) (ks + 10) mu mSL) := by
  have h1 := mPP_n2 (c := 32) (d := 32) (k := 45) (kc := kc) (ks := ks) (mu := mu) (S := mSL) (by decide) (by decide) (fun j => by simp [mSL, msA, mS0])
  have h1' : xnew (mPP 32 32 (mu + 33) kc ks mu mSL) (.inl (0, Int32.toNatClampNeg 10, fun _ => .int 0)) (Int32.toNatClampNeg 10) = mPP 32 33 (mu + 34) (kc + 1) (ks + 10) mu mSL := h1
  have h2 := mPP_p (c := 32) (d := 33) (k := 45) (n := mu + 34) (kc := kc + 1) (ks := ks + 10) (mu := mu) (S := mSL) (by decide) (by decide) (by decide)
  have h2' : xpf (mPP 32 33 (mu + 34) (kc + 1) (ks + 10) mu mSL) mu 11 45 (va_rf (some (mu + 33))) = mPP 33 33 (mu + 34) (kc + 1) (ks + 10) mu mSL := h2
  have h3 := mPP_f (c := 32) (d := 33) (k := 45) (n := mu + 34) (kc := kc + 1) (ks := ks + 10) (mu := mu) (S := mSL) (by decide)
  simp only [x163_320, x163_321, x163_323, x163_325, x163_323 (show ¬ (10 : Int32) < 0 by decide) (show ¬ 65536 < Int32.toNatClampNeg 10 by decide), h1', mPP_1, h2', h3, Option.bind_some, Option.toList_some, Option.toList_none, List.cons_append, List.nil_append, Option.isSome_some, if_true, eq_self, or_true, true_or, xb_01, mcl_cl, not_true_eq_false, not_false_eq_true, if_false]
theorem l163_34 : X g 163 328 [.val (va_rf (some mu)), .unset] [] (mPP 33 33 (mu + 34) kc ks mu mSL) = X g 163 337 [.val (va_rf (some mu)), .unset] [] (mPP 34 34 (mu + 35) (kc + 1) (ks + 320) mu mSL) := by
  have h1 := mPP_n2 (c := 33) (d := 33) (k := 46) (kc := kc) (ks := ks) (mu := mu) (S := mSL) (by decide) (by decide) (fun j => by simp [mSL, msA, mS0])
  have h1' : xnew (mPP 33 33 (mu + 34) kc ks mu mSL) (.inl (0, Int32.toNatClampNeg 320, fun _ => .int 0)) (Int32.toNatClampNeg 320) = mPP 33 34 (mu + 35) (kc + 1) (ks + 320) mu mSL := h1
  have h2 := mPP_p (c := 33) (d := 34) (k := 46) (n := mu + 35) (kc := kc + 1) (ks := ks + 320) (mu := mu) (S := mSL) (by decide) (by decide) (by decide)
  have h2' : xpf (mPP 33 34 (mu + 35) (kc + 1) (ks + 320) mu mSL) mu 11 46 (va_rf (some (mu + 34))) = mPP 34 34 (mu + 35) (kc + 1) (ks + 320) mu mSL := h2
  have h3 := mPP_f (c := 33) (d := 34) (k := 46) (n := mu + 35) (kc := kc + 1) (ks := ks + 320) (mu := mu) (S := mSL) (by decide)
  simp only [x163_328, x163_329, x163_332, x163_334, x163_332 (show ¬ (320 : Int32) < 0 by decide) (show ¬ 65536 < Int32.toNatClampNeg 320 by decide), h1', mPP_1, h2', h3, Option.bind_some, Option.toList_some, Option.toList_none, List.cons_append, List.nil_append, Option.isSome_some, if_true, eq_self, or_true, true_or, xb_01, mcl_cl, not_true_eq_false, not_false_eq_true, if_false]
theorem l163_35 : X g 163 337 [.val (va_rf (some mu)), .unset] [] (mPP 34 34 (mu + 35) kc ks mu mSL) = X g 163 346 [.val (va_rf (some mu)), .unset] [] (mPP 35 35 (mu + 36) (kc + 1) (ks + 320) mu mSL) := by
  have h1 := mPP_n3 (c := 34) (d := 34) (k := 47) (kc := kc) (ks := ks) (mu := mu) (S := mSL) (by decide) (by decide) (fun j => rfl)
  have h1' : xnew (mPP 34 34 (mu + 35) kc ks mu mSL) (.inl (1, Int32.toNatClampNeg 320, fun _ => .long 0)) (Int32.toNatClampNeg 320) = mPP 34 35 (mu + 36) (kc + 1) (ks + 320) mu mSL := h1
  have h2 := mPP_p (c := 34) (d := 35) (k := 47) (n := mu + 36) (kc := kc + 1) (ks := ks + 320) (mu := mu) (S := mSL) (by decide) (by decide) (by decide)
  have h2' : xpf (mPP 34 35 (mu + 36) (kc + 1) (ks + 320) mu mSL) mu 11 47 (va_rf (some (mu + 35))) = mPP 35 35 (mu + 36) (kc + 1) (ks + 320) mu mSL := h2
  have h3 := mPP_f (c := 34) (d := 35) (k := 47) (n := mu + 36) (kc := kc + 1) (ks := ks + 320) (mu := mu) (S := mSL) (by decide)
  simp only [x163_337, x163_338, x163_341, x163_343, x163_341 (show ¬ (320 : Int32) < 0 by decide) (show ¬ 65536 < Int32.toNatClampNeg 320 by decide), h1', mPP_1, h2', h3, Option.bind_some, Option.toList_some, Option.toList_none, List.cons_append, List.nil_append, Option.isSome_some, if_true, eq_self, or_true, true_or, xb_01, mcl_cl, not_true_eq_false, not_false_eq_true, if_false]
theorem l163_36 : X g 163 346 [.val (va_rf (some mu)), .unset] [] (mPP 35 35 (mu + 36) kc ks mu mSL) = X g 163 354 [.val (va_rf (some mu)), .unset] [] (mPP 36 36 (mu + 37) (kc + 1) (ks + 10) mu mSL) := by
  have h1 := mPP_n2 (c := 35) (d := 35) (k := 48) (kc := kc) (ks := ks) (mu := mu) (S := mSL) (by decide) (by decide) (fun j => by simp [mSL, msA, mS0])
  have h1' : xnew (mPP 35 35 (mu + 36) kc ks mu mSL) (.inl (0, Int32.toNatClampNeg 10, fun _ => .int 0)) (Int32.toNatClampNeg 10) = mPP 35 36 (mu + 37) (kc + 1) (ks + 10) mu mSL := h1
  have h2 := mPP_p (c := 35) (d := 36) (k := 48) (n := mu + 37) (kc := kc + 1) (ks := ks + 10) (mu := mu) (S := mSL) (by decide) (by decide) (by decide)
  have h2' : xpf (mPP 35 36 (mu + 37) (kc + 1) (ks + 10) mu mSL) mu 11 48 (va_rf (some (mu + 36))) = mPP 36 36 (mu + 37) (kc + 1) (ks + 10) mu mSL := h2
  have h3 := mPP_f (c := 35) (d := 36) (k := 48) (n := mu + 37) (kc := kc + 1) (ks := ks + 10) (mu := mu) (S := mSL) (by decide)
  simp only [x163_346, x163_347, x163_349, x163_351, x163_349 (show ¬ (10 : Int32) < 0 by decide) (show ¬ 65536 < Int32.toNatClampNeg 10 by decide), h1', mPP_1, h2', h3, Option.bind_some, Option.toList_some, Option.toList_none, List.cons_append, List.nil_append, Option.isSome_some, if_true, eq_self, or_true, true_or, xb_01, mcl_cl, not_true_eq_false, not_false_eq_true, if_false]
theorem l163_37 : X g 163 354 [.val (va_rf (some mu)), .unset] [] (mPP 36 36 (mu + 37) kc ks mu mSL) = X g 163 362 [.val (va_rf (some mu)), .unset] [] (mPP 37 37 (mu + 38) (kc + 1) (ks + 10) mu mSL) := by
  have h1 := mPP_n2 (c := 36) (d := 36) (k := 49) (kc := kc) (ks := ks) (mu := mu) (S := mSL) (by decide) (by decide) (fun j => by simp [mSL, msA, mS0])
  have h1' : xnew (mPP 36 36 (mu + 37) kc ks mu mSL) (.inl (0, Int32.toNatClampNeg 10, fun _ => .int 0)) (Int32.toNatClampNeg 10) = mPP 36 37 (mu + 38) (kc + 1) (ks + 10) mu mSL := h1
  have h2 := mPP_p (c := 36) (d := 37) (k := 49) (n := mu + 38) (kc := kc + 1) (ks := ks + 10) (mu := mu) (S := mSL) (by decide) (by decide) (by decide)
  have h2' : xpf (mPP 36 37 (mu + 38) (kc + 1) (ks + 10) mu mSL) mu 11 49 (va_rf (some (mu + 37))) = mPP 37 37 (mu + 38) (kc + 1) (ks + 10) mu mSL := h2
  have h3 := mPP_f (c := 36) (d := 37) (k := 49) (n := mu + 38) (kc := kc + 1) (ks := ks + 10) (mu := mu) (S := mSL) (by decide)
  simp only [x163_354, x163_355, x163_357, x163_359, x163_357 (show ¬ (10 : Int32) < 0 by decide) (show ¬ 65536 < Int32.toNatClampNeg 10 by decide), h1', mPP_1, h2', h3, Option.bind_some, Option.toList_some, Option.toList_none, List.cons_append, List.nil_append, Option.isSome_some, if_true, eq_self, or_true, true_or, xb_01, mcl_cl, not_true_eq_false, not_false_eq_true, if_false]
theorem l163_38 : X g 163 362 [.val (va_rf (some mu)), .unset] [] (mPP 37 37 (mu + 38) kc ks mu mSL) = X g 163 370 [.val (va_rf (some mu)), .unset] [] (mPP 38 38 (mu + 39) (kc + 1) (ks + 30) mu mSL) := by
  have h1 := mPP_n2 (c := 37) (d := 37) (k := 50) (kc := kc) (ks := ks) (mu := mu) (S := mSL) (by decide) (by decide) (fun j => by simp [mSL, msA, mS0])
  have h1' : xnew (mPP 37 37 (mu + 38) kc ks mu mSL) (.inl (0, Int32.toNatClampNeg 30, fun _ => .int 0)) (Int32.toNatClampNeg 30) = mPP 37 38 (mu + 39) (kc + 1) (ks + 30) mu mSL := h1
  have h2 := mPP_p (c := 37) (d := 38) (k := 50) (n := mu + 39) (kc := kc + 1) (ks := ks + 30) (mu := mu) (S := mSL) (by decide) (by decide) (by decide)
  have h2' : xpf (mPP 37 38 (mu + 39) (kc + 1) (ks + 30) mu mSL) mu 11 50 (va_rf (some (mu + 38))) = mPP 38 38 (mu + 39) (kc + 1) (ks + 30) mu mSL := h2
  have h3 := mPP_f (c := 37) (d := 38) (k := 50) (n := mu + 39) (kc := kc + 1) (ks := ks + 30) (mu := mu) (S := mSL) (by decide)
  simp only [x163_362, x163_363, x163_365, x163_367, x163_365 (show ¬ (30 : Int32) < 0 by decide) (show ¬ 65536 < Int32.toNatClampNeg 30 by decide), h1', mPP_1, h2', h3, Option.bind_some, Option.toList_some, Option.toList_none, List.cons_append, List.nil_append, Option.isSome_some, if_true, eq_self, or_true, true_or, xb_01, mcl_cl, not_true_eq_false, not_false_eq_true, if_false]
theorem l163 : X g 163 0 [.val (va_rf (some mu)), .unset] [] (mPP 0 0 (mu + 1) kc ks mu mS0) = X g 163 370 [.val (va_rf (some mu)), .unset] [] (mH (mu + 39) (kc + 1 + 1 + 1 + 1 + 1 + 1 + 1 + 1 + 1 + 1 + 1 + 1 + 1 + 1 + 1 + 1 + 1 + 1 + 1 + 1 + 1 + 1 + 1 + 1 + 1 + 1 + 1 + 1 + 1 + 1 + 1 + 1 + 1 + 1 + 1 + 1 + 1 + 1) (ks + 10 + 10 + 10 + 320 + 320 + 10 + 10 + 3 + 30 + 64 + 64 + 64 + 1536 + 1536 + 1536 + 1536 + 1536 + 24 + 3 + 32 + 32 + 800 + 20 + 10 + 120 + 40 + 40 + 40 + 40 + 40 + 40 + 10 + 10 + 320 + 320 + 10 + 10 + 30) mu mSL) := by
  simp only [x163_0, x163_1, Option.bind_some, Option.toList_some, Option.toList_none, List.cons_append, List.nil_append, Option.isSome_some, if_true, eq_self, or_true, true_or, xb_01, mcl_cl, not_true_eq_false, not_false_eq_true, if_false]
  rw [l163_1, l163_2, l163_3, l163_4, l163_5, l163_6, l163_7, l163_8, l163_9, l163_10, l163_11, l163_12, l163_13, l163_14, l163_15, l163_16, l163_17, l163_18, l163_19, l163_20, l163_21, l163_22, l163_23, l163_24, l163_25, l163_26, l163_27, l163_28, l163_29, l163_30, l163_31, l163_32, l163_33, l163_34, l163_35, l163_36, l163_37, l163_38, mPP_38]
def mHo (S : MS) (c : Nat) : MS := (S.1, S.2.1, fun q i => if q = 7 ∧ i < c then -11 else S.2.2.1 q i, S.2.2.2)
theorem mHo_0 : mHo S 0 = S := by
  refine Prod.ext rfl (Prod.ext rfl (Prod.ext ?_ rfl))
  funext q i
  simp [mHo]
theorem mHo_s : msA (mHo S c) 7 c (-11) = mHo S (c + 1) := by
  refine Prod.ext rfl (Prod.ext rfl (Prod.ext ?_ rfl))
  funext q i
  simp only [mHo, msA]
  by_cases e : i = c
  · subst e
    by_cases e2 : q = 7
    · simp [e2]
    · simp [e2]
  · have hx : (i < c + 1) = (i < c) := propext (by omega)
    simp only [hx, e, and_false, if_false]
theorem l163a : ∀ d c, c + d = 10 → X g 163 372 [.val (va_rf (some mu)), .val (.int (nI c))] [] (mH n kc ks mu (mHo S c)) = X g 163 392 [.val (va_rf (some mu)), .val (.int 10)] [] (mH n kc ks mu (mHo S 10)) := by
  intro d
  induction d with
  | zero =>
    intro c hc
    have e : c = 10 := by omega
    subst e
    have h1 : (10 : Int32) ≤ nI 10 := by decide
    simp only [x163_372, x163_373, x163_375, x163_378, x163_379, x163_382, x163_383, x163_385, h1, Option.bind_some, Option.toList_some, Option.toList_none, List.cons_append, List.nil_append, Option.isSome_some, if_true, eq_self, or_true, true_or, xb_01, mcl_cl, not_true_eq_false, not_false_eq_true, if_false]
    rfl
  | succ d ih =>
    intro c hc
    have h1 : ¬ (10 : Int32) ≤ nI c := nI_ge (b := 10) (by omega) (by decide)
    have h2 : c < 10 := by omega
    have h3 := ih (c + 1) (by omega)
    rw [← mHo_s] at h3
    simp only [x163_372, x163_373, x163_375, x163_378, x163_379, x163_382, x163_383, x163_385, h1, mf_7, ms_7, xin_nI h2 (by decide), nI_clamp (lt31 h2 (by decide)), Option.bind_some, Option.toList_some, Option.toList_none, List.cons_append, List.nil_append, Option.isSome_some, if_true, eq_self, or_true, true_or, xb_01, mcl_cl, not_true_eq_false, not_false_eq_true, if_false]
    simp only [x163_386, x163_389, nI_1]
    exact h3
/-- windows as they are at first -/
def mWi (S : MS) : Nat → MS
  | 0 => S
  | c + 1 => msA (msA (mWi S c) 12 (5 * c + 2) 1) 12 (5 * c + 4) 8
theorem l163b : ∀ d c, c + d = 6 → X g 163 394 [.val (va_rf (some mu)), .val (.int (nI c))] [] (mH n kc ks mu (mWi S c)) = some (none, mH n kc ks mu (msI (mIs (mWi S 6) 8 0) 10 8)) := by
  intro d
  induction d with
  | zero =>
    intro c hc
    have e : c = 6 := by omega
    subst e
    have h1 : (6 : Int32) ≤ nI 6 := by decide
    simp only [x163_394, x163_395, x163_397, x163_400, x163_401, x163_404, x163_405, x163_406, x163_407, x163_408, x163_409, x163_410, x163_411, x163_412, x163_415, x163_416, x163_417, x163_418, x163_419, x163_420, x163_422, x163_429, x163_430, x163_432, x163_433, x163_436, x163_437, x163_439, x163_442, h1, c155', mf_10, mp_10, Option.bind_some, Option.toList_some, Option.toList_none, List.cons_append, List.nil_append, Option.isSome_some, if_true, eq_self, or_true, true_or, xb_01, mcl_cl, not_true_eq_false, not_false_eq_true, if_false]
  | succ d ih =>
    intro c hc
    have h1 : ¬ (6 : Int32) ≤ nI c := nI_ge (b := 6) (by omega) (by decide)
    have h2 : 5 * c + 2 < 30 := by omega
    have h4 : 5 * c + 4 < 30 := by omega
    have h3 := ih (c + 1) (by omega)
    rw [mWi] at h3
    have e2 : (5 : Int32) * nI c + 2 = nI (5 * c + 2) := by
      rw [show (5 : Int32) = nI 5 from rfl, pk_mul, show (2 : Int32) = nI 2 from rfl, nI_add]
    have e4 : (5 : Int32) * nI c + 4 = nI (5 * c + 4) := by
      rw [show (5 : Int32) = nI 5 from rfl, pk_mul, show (4 : Int32) = nI 4 from rfl, nI_add]
    simp only [x163_394, x163_395, x163_397, x163_400, x163_401, x163_404, x163_405, x163_406, x163_407, x163_408, x163_409, x163_410, x163_411, x163_412, x163_415, x163_416, x163_417, x163_418, x163_419, x163_420, x163_422, h1, mf_12, ms_12, e2, e4, xin_nI h2 (by decide), nI_clamp (lt31 h2 (by decide)), xin_nI h4 (by decide), nI_clamp (lt31 h4 (by decide)), Option.bind_some, Option.toList_some, Option.toList_none, List.cons_append, List.nil_append, Option.isSome_some, if_true, eq_self, or_true, true_or, xb_01, mcl_cl, not_true_eq_false, not_false_eq_true, if_false]
    simp only [x163_423, x163_426, nI_1]
    exact h3
/-- a new reference -/
def mNew : MS := msI (mIs (mWi (mHo mSL 10) 6) 8 0) 10 8
theorem l163c : X g 163 370 [.val (va_rf (some mu)), .unset] [] (mH n kc ks mu mSL) = some (none, mH n kc ks mu mNew) := by
  have h1 := l163a (g := g) (n := n) (kc := kc) (ks := ks) (mu := mu) (S := mSL) 10 0 (by omega)
  rw [mHo_0] at h1
  have h1' : X g 163 372 [.val (va_rf (some mu)), .val (.int 0)] [] (mH n kc ks mu mSL) = _ := h1
  have h2 := l163b (g := g) (n := n) (kc := kc) (ks := ks) (mu := mu) (S := mHo mSL 10) 6 0 (by omega)
  rw [mWi] at h2
  have h2' : X g 163 394 [.val (va_rf (some mu)), .val (.int 0)] [] (mH n kc ks mu (mHo mSL 10)) = some (none, mH n kc ks mu mNew) := h2
  simp only [x163_370, x163_371, h1', Option.bind_some, Option.toList_some, Option.toList_none, List.cons_append, List.nil_append, Option.isSome_some, if_true, eq_self, or_true, true_or, xb_01, mcl_cl, not_true_eq_false, not_false_eq_true, if_false]
  simp only [x163_392, x163_393, h2', Option.bind_some, Option.toList_some, Option.toList_none, List.cons_append, List.nil_append, Option.isSome_some, if_true, eq_self, or_true, true_or, xb_01, mcl_cl, not_true_eq_false, not_false_eq_true, if_false]
theorem e163 : X g 163 0 [.val (va_rf (some mu)), .unset] [] (mPP 0 0 (mu + 1) kc ks mu mS0) = some (none, mH (mu + 39) (kc + 1 + 1 + 1 + 1 + 1 + 1 + 1 + 1 + 1 + 1 + 1 + 1 + 1 + 1 + 1 + 1 + 1 + 1 + 1 + 1 + 1 + 1 + 1 + 1 + 1 + 1 + 1 + 1 + 1 + 1 + 1 + 1 + 1 + 1 + 1 + 1 + 1 + 1) (ks + 10 + 10 + 10 + 320 + 320 + 10 + 10 + 3 + 30 + 64 + 64 + 64 + 1536 + 1536 + 1536 + 1536 + 1536 + 24 + 3 + 32 + 32 + 800 + 20 + 10 + 120 + 40 + 40 + 40 + 40 + 40 + 40 + 10 + 10 + 320 + 320 + 10 + 10 + 30) mu mNew) := by
  rw [l163]
  exact l163c
end M25
