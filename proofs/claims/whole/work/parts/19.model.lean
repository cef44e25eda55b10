/-! THE REFERENCE: its one object and its arrays, as a heap made of functions -/
abbrev MS : Type := (Nat → Int32) × (Nat → Int64) × (Nat → Nat → Int32) × (Nat → Nat → Int64)
def mkd (k : Nat) : Nat := ([0, 1, 2, 2, 2, 2, 3, 2, 2, 2, 0, 1, 2, 2, 2, 3, 0, 2, 2, 3, 2, 3, 2, 0, 0, 0, 2, 2, 3, 2, 0, 2, 2, 2, 0, 0, 0, 2, 2, 2, 2, 2, 3, 0, 2, 2, 2, 3, 2, 2, 2] : List Nat).getD k 9
def mof (k : Nat) : Nat := ([0, 0, 1, 2, 3, 4, 5, 6, 7, 8, 0, 0, 9, 10, 11, 12, 0, 13, 14, 15, 16, 17, 18, 0, 0, 0, 19, 20, 21, 22, 0, 23, 24, 25, 0, 0, 0, 26, 27, 28, 29, 30, 31, 0, 32, 33, 34, 35, 36, 37, 38] : List Nat).getD k 0
def mln (k : Nat) : Nat := ([0, 0, 10, 10, 10, 320, 320, 10, 10, 3, 0, 0, 30, 64, 64, 64, 0, 1536, 1536, 1536, 1536, 1536, 24, 0, 0, 0, 3, 32, 32, 800, 0, 20, 10, 120, 0, 0, 0, 40, 40, 40, 40, 40, 40, 0, 10, 10, 320, 320, 10, 10, 30] : List Nat).getD k 0
def miv (q : Nat) : Nat := ([0, 2, 3, 4, 5, 6, 7, 8, 9, 12, 13, 14, 15, 17, 18, 19, 20, 21, 22, 26, 27, 28, 29, 31, 32, 33, 37, 38, 39, 40, 41, 42, 44, 45, 46, 47, 48, 49, 50] : List Nat).getD q 0
def mval (mu : Nat) (S : MS) (k : Nat) : Value := match mkd k with
  | 0 => .int (S.1 k)
  | 1 => .long (S.2.1 k)
  | _ => va_rf (some (mu + mof k))
def mcl (mu : Nat) (S : MS) (q : Nat) : Option xE := if q = mu then some (.inr (11, (List.range 51).map (mval mu S))) else if mu < q ∧ q ≤ mu + 38 then (if mkd (miv (q - mu)) = 2 then some (.inl (0, mln (miv (q - mu)), fun j => .int (S.2.2.1 (miv (q - mu)) j))) else some (.inl (1, mln (miv (q - mu)), fun j => .long (S.2.2.2 (miv (q - mu)) j)))) else none
/-- the heap that holds the reference alone -/
def mH (n kc ks mu : Nat) (S : MS) : xH := (n, kc, ks, mcl mu S)
def msI (S : MS) (k : Nat) (v : Int32) : MS := (fun q => if q = k then v else S.1 q, S.2.1, S.2.2.1, S.2.2.2)
def msL (S : MS) (k : Nat) (v : Int64) : MS := (S.1, fun q => if q = k then v else S.2.1 q, S.2.2.1, S.2.2.2)
def msA (S : MS) (k j : Nat) (v : Int32) : MS := (S.1, S.2.1, fun q i => if q = k ∧ i = j then v else S.2.2.1 q i, S.2.2.2)
def msB (S : MS) (k j : Nat) (v : Int64) : MS := (S.1, S.2.1, S.2.2.1, fun q i => if q = k ∧ i = j then v else S.2.2.2 q i)
section MH
variable {n kc ks mu k j : Nat} {S : MS} {v : Int32} {w : Int64}
theorem mcl_self : (mH n kc ks mu S).2.2.2 mu = some (.inr (11, (List.range 51).map (mval mu S))) := by
  show mcl mu S mu = _
  unfold mcl
  rw [if_pos rfl]
theorem mf_gen (hk : k < 51) : xf (mH n kc ks mu S) mu 11 k = some (mval mu S k) := by
  unfold xf
  rw [mcl_self]
  dsimp only
  rw [if_pos rfl, List.getElem?_map, List.getElem?_range hk]
  rfl
theorem mcl_cl : xcl (mH n kc ks mu S) mu = some 11 := by
  unfold xcl
  rw [mcl_self]
theorem mfacts : ∀ k, k < 51 → 2 ≤ mkd k → miv (mof k) = k ∧ 1 ≤ mof k ∧ mof k ≤ 38 := by decide +kernel
theorem minj : ∀ k, k < 51 → ∀ q, q < 51 → 2 ≤ mkd k → 2 ≤ mkd q → mof k = mof q → k = q := by decide +kernel
theorem marr_gen (hk : k < 51) (h2 : 2 ≤ mkd k) : (mH n kc ks mu S).2.2.2 (mu + mof k) = if mkd k = 2 then some (.inl (0, mln k, fun j => .int (S.2.2.1 k j))) else some (.inl (1, mln k, fun j => .long (S.2.2.2 k j))) := by
  obtain ⟨a1, a2, a3⟩ := mfacts k hk h2
  show mcl mu S (mu + mof k) = _
  unfold mcl
  rw [if_neg (by omega), if_pos (by omega), Nat.add_sub_cancel_left, a1]
theorem ma_gen2 (hk : k < 51) (h2 : mkd k = 2) : xa (mH n kc ks mu S) (mu + mof k) 0 = some (mln k, fun j => .int (S.2.2.1 k j)) := by
  refine xa_of ?_
  rw [marr_gen hk (by omega), if_pos h2]
theorem ma_gen3 (hk : k < 51) (h2 : mkd k = 3) : xa (mH n kc ks mu S) (mu + mof k) 1 = some (mln k, fun j => .long (S.2.2.2 k j)) := by
  refine xa_of ?_
  rw [marr_gen hk (by omega), if_neg (by omega)]
theorem xH_ext {a b : xH} (h1 : a.1 = b.1) (h2 : a.2.1 = b.2.1) (h3 : a.2.2.1 = b.2.2.1) (h4 : ∀ q, a.2.2.2 q = b.2.2.2 q) : a = b := by
  obtain ⟨a1, a2, a3, a4⟩ := a
  obtain ⟨b1, b2, b3, b4⟩ := b
  simp only at h1 h2 h3
  subst h1; subst h2; subst h3
  have : a4 = b4 := funext h4
  subst this
  rfl
theorem mp_cell {S' : MS} (ha : S'.2.2.1 = S.2.2.1) (hb : S'.2.2.2 = S.2.2.2) {q : Nat} (hq : q ≠ mu) : mcl mu S' q = mcl mu S q := by
  unfold mcl
  rw [if_neg hq, if_neg hq, ha, hb]
theorem mp_gen {S' : MS} {z : Value} (hk : k < 51) (ha : S'.2.2.1 = S.2.2.1) (hb : S'.2.2.2 = S.2.2.2) (hz : mval mu S' k = z) (ho : ∀ q, q ≠ k → mval mu S' q = mval mu S q) : xpf (mH n kc ks mu S) mu 11 k z = mH n kc ks mu S' := by
  refine xH_ext rfl rfl rfl fun q => ?_
  rw [xpf_at mcl_self]
  by_cases hq : q = mu
  · subst hq
    rw [if_pos rfl, mcl_self]
    congr 3
    apply List.ext_getElem?
    intro i
    rw [List.getElem?_set, List.getElem?_map, List.getElem?_map]
    by_cases hi : k = i
    · subst hi
      rw [if_pos rfl, List.getElem?_range hk]
      simp [hk, hz]
    · rw [if_neg hi]
      cases hr : (List.range 51)[i]? with
      | none => rfl
      | some x =>
        have hx : i = x := by
          have := List.getElem?_eq_some_iff.mp hr
          obtain ⟨h1, h2⟩ := this
          simpa using h2
        subst hx
        simp [ho i (fun e => hi e.symm)]
  · rw [if_neg hq]
    exact (mp_cell ha hb hq).symm
theorem mp_gen0 (hk : k < 51) (h0 : mkd k = 0) : xpf (mH n kc ks mu S) mu 11 k (.int v) = mH n kc ks mu (msI S k v) := by
  refine mp_gen hk rfl rfl ?_ ?_
  · unfold mval
    rw [h0]
    simp [msI]
  · intro q hq
    unfold mval
    split <;> simp [msI, hq]
theorem mp_gen1 (hk : k < 51) (h0 : mkd k = 1) : xpf (mH n kc ks mu S) mu 11 k (.long w) = mH n kc ks mu (msL S k w) := by
  refine mp_gen hk rfl rfl ?_ ?_
  · unfold mval
    rw [h0]
    simp [msL]
  · intro q hq
    unfold mval
    split <;> simp [msL, hq]
theorem ms_cell {S' : MS} (h1 : S'.1 = S.1) (h2 : S'.2.1 = S.2.1) (hk : k < 51) (hk2 : 2 ≤ mkd k) (ha : ∀ q, q ≠ k → S'.2.2.1 q = S.2.2.1 q) (hb : ∀ q, q ≠ k → S'.2.2.2 q = S.2.2.2 q) {q : Nat} (hq : q ≠ mu + mof k) : mcl mu S' q = mcl mu S q := by
  unfold mcl
  by_cases z : q = mu
  · rw [if_pos z, if_pos z]
    congr 3
    apply List.map_congr_left
    intro x _
    unfold mval
    rw [h1, h2]
  · rw [if_neg z, if_neg z]
    by_cases z2 : mu < q ∧ q ≤ mu + 38
    · rw [if_pos z2, if_pos z2]
      have hne : miv (q - mu) ≠ k := by
        intro e
        have hi : ∀ x, x < 39 → 1 ≤ x → mof (miv x) = x := by decide +kernel
        have h3 := hi (q - mu) (by omega) (by omega)
        rw [e] at h3
        exact hq (by omega)
      rw [ha _ hne, hb _ hne]
    · rw [if_neg z2, if_neg z2]
theorem ms_gen2 (hk : k < 51) (h2 : mkd k = 2) : xpa (mH n kc ks mu S) (mu + mof k) 0 j (.int v) = mH n kc ks mu (msA S k j v) := by
  have hc : (mH n kc ks mu S).2.2.2 (mu + mof k) = some (.inl (0, mln k, fun j => .int (S.2.2.1 k j))) := by rw [marr_gen hk (by omega), if_pos h2]
  have hc2 : (mH n kc ks mu (msA S k j v)).2.2.2 (mu + mof k) = some (.inl (0, mln k, fun i => .int ((msA S k j v).2.2.1 k i))) := by rw [marr_gen hk (by omega), if_pos h2]
  refine xH_ext rfl rfl rfl fun q => ?_
  rw [xpa_at hc]
  by_cases hq : q = mu + mof k
  · subst hq
    rw [if_pos rfl, hc2]
    congr 4
    funext i
    unfold updV msA
    by_cases hi : i = j <;> simp [hi]
  · rw [if_neg hq]
    refine (ms_cell (S := S) (S' := msA S k j v) rfl rfl hk (by omega) ?_ ?_ hq).symm
    · intro x hx
      funext i
      simp [msA, hx]
    · intro x _
      rfl
theorem ms_gen3 (hk : k < 51) (h2 : mkd k = 3) : xpa (mH n kc ks mu S) (mu + mof k) 1 j (.long w) = mH n kc ks mu (msB S k j w) := by
  have hc : (mH n kc ks mu S).2.2.2 (mu + mof k) = some (.inl (1, mln k, fun j => .long (S.2.2.2 k j))) := by rw [marr_gen hk (by omega), if_neg (by omega)]
  have hc2 : (mH n kc ks mu (msB S k j w)).2.2.2 (mu + mof k) = some (.inl (1, mln k, fun i => .long ((msB S k j w).2.2.2 k i))) := by rw [marr_gen hk (by omega), if_neg (by omega)]
  refine xH_ext rfl rfl rfl fun q => ?_
  rw [xpa_at hc]
  by_cases hq : q = mu + mof k
  · subst hq
    rw [if_pos rfl, hc2]
    congr 4
    funext i
    unfold updV msB
    by_cases hi : i = j <;> simp [hi]
  · rw [if_neg hq]
    refine (ms_cell (S := S) (S' := msB S k j w) rfl rfl hk (by omega) ?_ ?_ hq).symm
    · intro x _
      rfl
    · intro x hx
      funext i
      simp [msB, hx]
end MH
section MF
variable {n kc ks mu : Nat} {S : MS} {g : xG} {x : Int32} {v : Int32} {w : Int64}
theorem mf_0 : xf (mH n kc ks mu S) mu 11 0 = some (.int (S.1 0)) := mf_gen (by decide)
theorem mp_0 : xpf (mH n kc ks mu S) mu 11 0 (.int v) = mH n kc ks mu (msI S 0 v) := mp_gen0 (by decide) (by decide)
theorem mf_1 : xf (mH n kc ks mu S) mu 11 1 = some (.long (S.2.1 1)) := mf_gen (by decide)
theorem mp_1 : xpf (mH n kc ks mu S) mu 11 1 (.long w) = mH n kc ks mu (msL S 1 w) := mp_gen1 (by decide) (by decide)
theorem mf_2 : xf (mH n kc ks mu S) mu 11 2 = some (va_rf (some (mu + 1))) := mf_gen (by decide)
theorem mq_2 : xa (mH n kc ks mu S) (mu + 1) 0 = some (10, fun j => .int (S.2.2.1 2 j)) := ma_gen2 (k := 2) (by decide) (by decide)
theorem ml_2 : xaldi g (mH n kc ks mu S) (mu + 1) x = if xin x 10 = true then some (.int (S.2.2.1 2 x.toNatClampNeg)) else none := by unfold xaldi; rw [mq_2]
theorem ms_2 : xast (mH n kc ks mu S) (mu + 1) 0 x (.int v) = if xin x 10 = true then some (mH n kc ks mu (msA S 2 x.toNatClampNeg v)) else none := by unfold xast; rw [mq_2]; dsimp only; rw [show xpa (mH n kc ks mu S) (mu + 1) 0 x.toNatClampNeg (.int v) = _ from ms_gen2 (k := 2) (by decide) (by decide)]
theorem mn_2 : xlen g (mH n kc ks mu S) (mu + 1) = some 10 := xlen_of mq_2
theorem mf_3 : xf (mH n kc ks mu S) mu 11 3 = some (va_rf (some (mu + 2))) := mf_gen (by decide)
theorem mq_3 : xa (mH n kc ks mu S) (mu + 2) 0 = some (10, fun j => .int (S.2.2.1 3 j)) := ma_gen2 (k := 3) (by decide) (by decide)
theorem ml_3 : xaldi g (mH n kc ks mu S) (mu + 2) x = if xin x 10 = true then some (.int (S.2.2.1 3 x.toNatClampNeg)) else none := by unfold xaldi; rw [mq_3]
theorem ms_3 : xast (mH n kc ks mu S) (mu + 2) 0 x (.int v) = if xin x 10 = true then some (mH n kc ks mu (msA S 3 x.toNatClampNeg v)) else none := by unfold xast; rw [mq_3]; dsimp only; rw [show xpa (mH n kc ks mu S) (mu + 2) 0 x.toNatClampNeg (.int v) = _ from ms_gen2 (k := 3) (by decide) (by decide)]
theorem mn_3 : xlen g (mH n kc ks mu S) (mu + 2) = some 10 := xlen_of mq_3
theorem mf_4 : xf (mH n kc ks mu S) mu 11 4 = some (va_rf (some (mu + 3))) := mf_gen (by decide)
theorem mq_4 : xa (mH n kc ks mu S) (mu + 3) 0 = some (10, fun j => .int (S.2.2.1 4 j)) := ma_gen2 (k := 4) (by decide) (by decide)
theorem ml_4 : xaldi g (mH n kc ks mu S) (mu + 3) x = if xin x 10 = true then some (.int (S.2.2.1 4 x.toNatClampNeg)) else none := by unfold xaldi; rw [mq_4]
theorem ms_4 : xast (mH n kc ks mu S) (mu + 3) 0 x (.int v) = if xin x 10 = true then some (mH n kc ks mu (msA S 4 x.toNatClampNeg v)) else none := by unfold xast; rw [mq_4]; dsimp only; rw [show xpa (mH n kc ks mu S) (mu + 3) 0 x.toNatClampNeg (.int v) = _ from ms_gen2 (k := 4) (by decide) (by decide)]
theorem mn_4 : xlen g (mH n kc ks mu S) (mu + 3) = some 10 := xlen_of mq_4
theorem mf_5 : xf (mH n kc ks mu S) mu 11 5 = some (va_rf (some (mu + 4))) := mf_gen (by decide)
theorem mq_5 : xa (mH n kc ks mu S) (mu + 4) 0 = some (320, fun j => .int (S.2.2.1 5 j)) := ma_gen2 (k := 5) (by decide) (by decide)
theorem ml_5 : xaldi g (mH n kc ks mu S) (mu + 4) x = if xin x 320 = true then some (.int (S.2.2.1 5 x.toNatClampNeg)) else none := by unfold xaldi; rw [mq_5]
theorem ms_5 : xast (mH n kc ks mu S) (mu + 4) 0 x (.int v) = if xin x 320 = true then some (mH n kc ks mu (msA S 5 x.toNatClampNeg v)) else none := by unfold xast; rw [mq_5]; dsimp only; rw [show xpa (mH n kc ks mu S) (mu + 4) 0 x.toNatClampNeg (.int v) = _ from ms_gen2 (k := 5) (by decide) (by decide)]
theorem mn_5 : xlen g (mH n kc ks mu S) (mu + 4) = some 320 := xlen_of mq_5
theorem mf_6 : xf (mH n kc ks mu S) mu 11 6 = some (va_rf (some (mu + 5))) := mf_gen (by decide)
theorem mq_6 : xa (mH n kc ks mu S) (mu + 5) 1 = some (320, fun j => .long (S.2.2.2 6 j)) := ma_gen3 (k := 6) (by decide) (by decide)
theorem ml_6 : xald (mH n kc ks mu S) (mu + 5) 1 x = if xin x 320 = true then some (.long (S.2.2.2 6 x.toNatClampNeg)) else none := by unfold xald; rw [mq_6]
theorem ms_6 : xast (mH n kc ks mu S) (mu + 5) 1 x (.long w) = if xin x 320 = true then some (mH n kc ks mu (msB S 6 x.toNatClampNeg w)) else none := by unfold xast; rw [mq_6]; dsimp only; rw [show xpa (mH n kc ks mu S) (mu + 5) 1 x.toNatClampNeg (.long w) = _ from ms_gen3 (k := 6) (by decide) (by decide)]
theorem mn_6 : xlen g (mH n kc ks mu S) (mu + 5) = some 320 := xlen_of mq_6
theorem mf_7 : xf (mH n kc ks mu S) mu 11 7 = some (va_rf (some (mu + 6))) := mf_gen (by decide)
theorem mq_7 : xa (mH n kc ks mu S) (mu + 6) 0 = some (10, fun j => .int (S.2.2.1 7 j)) := ma_gen2 (k := 7) (by decide) (by decide)
theorem ml_7 : xaldi g (mH n kc ks mu S) (mu + 6) x = if xin x 10 = true then some (.int (S.2.2.1 7 x.toNatClampNeg)) else none := by unfold xaldi; rw [mq_7]
theorem ms_7 : xast (mH n kc ks mu S) (mu + 6) 0 x (.int v) = if xin x 10 = true then some (mH n kc ks mu (msA S 7 x.toNatClampNeg v)) else none := by unfold xast; rw [mq_7]; dsimp only; rw [show xpa (mH n kc ks mu S) (mu + 6) 0 x.toNatClampNeg (.int v) = _ from ms_gen2 (k := 7) (by decide) (by decide)]
theorem mn_7 : xlen g (mH n kc ks mu S) (mu + 6) = some 10 := xlen_of mq_7
theorem mf_8 : xf (mH n kc ks mu S) mu 11 8 = some (va_rf (some (mu + 7))) := mf_gen (by decide)
theorem mq_8 : xa (mH n kc ks mu S) (mu + 7) 0 = some (10, fun j => .int (S.2.2.1 8 j)) := ma_gen2 (k := 8) (by decide) (by decide)
theorem ml_8 : xaldi g (mH n kc ks mu S) (mu + 7) x = if xin x 10 = true then some (.int (S.2.2.1 8 x.toNatClampNeg)) else none := by unfold xaldi; rw [mq_8]
theorem ms_8 : xast (mH n kc ks mu S) (mu + 7) 0 x (.int v) = if xin x 10 = true then some (mH n kc ks mu (msA S 8 x.toNatClampNeg v)) else none := by unfold xast; rw [mq_8]; dsimp only; rw [show xpa (mH n kc ks mu S) (mu + 7) 0 x.toNatClampNeg (.int v) = _ from ms_gen2 (k := 8) (by decide) (by decide)]
theorem mn_8 : xlen g (mH n kc ks mu S) (mu + 7) = some 10 := xlen_of mq_8
theorem mf_9 : xf (mH n kc ks mu S) mu 11 9 = some (va_rf (some (mu + 8))) := mf_gen (by decide)
theorem mq_9 : xa (mH n kc ks mu S) (mu + 8) 0 = some (3, fun j => .int (S.2.2.1 9 j)) := ma_gen2 (k := 9) (by decide) (by decide)
theorem ml_9 : xaldi g (mH n kc ks mu S) (mu + 8) x = if xin x 3 = true then some (.int (S.2.2.1 9 x.toNatClampNeg)) else none := by unfold xaldi; rw [mq_9]
theorem ms_9 : xast (mH n kc ks mu S) (mu + 8) 0 x (.int v) = if xin x 3 = true then some (mH n kc ks mu (msA S 9 x.toNatClampNeg v)) else none := by unfold xast; rw [mq_9]; dsimp only; rw [show xpa (mH n kc ks mu S) (mu + 8) 0 x.toNatClampNeg (.int v) = _ from ms_gen2 (k := 9) (by decide) (by decide)]
theorem mn_9 : xlen g (mH n kc ks mu S) (mu + 8) = some 3 := xlen_of mq_9
theorem mf_10 : xf (mH n kc ks mu S) mu 11 10 = some (.int (S.1 10)) := mf_gen (by decide)
theorem mp_10 : xpf (mH n kc ks mu S) mu 11 10 (.int v) = mH n kc ks mu (msI S 10 v) := mp_gen0 (by decide) (by decide)
theorem mf_11 : xf (mH n kc ks mu S) mu 11 11 = some (.long (S.2.1 11)) := mf_gen (by decide)
theorem mp_11 : xpf (mH n kc ks mu S) mu 11 11 (.long w) = mH n kc ks mu (msL S 11 w) := mp_gen1 (by decide) (by decide)
theorem mf_12 : xf (mH n kc ks mu S) mu 11 12 = some (va_rf (some (mu + 9))) := mf_gen (by decide)
theorem mq_12 : xa (mH n kc ks mu S) (mu + 9) 0 = some (30, fun j => .int (S.2.2.1 12 j)) := ma_gen2 (k := 12) (by decide) (by decide)
theorem ml_12 : xaldi g (mH n kc ks mu S) (mu + 9) x = if xin x 30 = true then some (.int (S.2.2.1 12 x.toNatClampNeg)) else none := by unfold xaldi; rw [mq_12]
theorem ms_12 : xast (mH n kc ks mu S) (mu + 9) 0 x (.int v) = if xin x 30 = true then some (mH n kc ks mu (msA S 12 x.toNatClampNeg v)) else none := by unfold xast; rw [mq_12]; dsimp only; rw [show xpa (mH n kc ks mu S) (mu + 9) 0 x.toNatClampNeg (.int v) = _ from ms_gen2 (k := 12) (by decide) (by decide)]
theorem mn_12 : xlen g (mH n kc ks mu S) (mu + 9) = some 30 := xlen_of mq_12
theorem mf_13 : xf (mH n kc ks mu S) mu 11 13 = some (va_rf (some (mu + 10))) := mf_gen (by decide)
theorem mq_13 : xa (mH n kc ks mu S) (mu + 10) 0 = some (64, fun j => .int (S.2.2.1 13 j)) := ma_gen2 (k := 13) (by decide) (by decide)
theorem ml_13 : xaldi g (mH n kc ks mu S) (mu + 10) x = if xin x 64 = true then some (.int (S.2.2.1 13 x.toNatClampNeg)) else none := by unfold xaldi; rw [mq_13]
theorem ms_13 : xast (mH n kc ks mu S) (mu + 10) 0 x (.int v) = if xin x 64 = true then some (mH n kc ks mu (msA S 13 x.toNatClampNeg v)) else none := by unfold xast; rw [mq_13]; dsimp only; rw [show xpa (mH n kc ks mu S) (mu + 10) 0 x.toNatClampNeg (.int v) = _ from ms_gen2 (k := 13) (by decide) (by decide)]
theorem mn_13 : xlen g (mH n kc ks mu S) (mu + 10) = some 64 := xlen_of mq_13
theorem mf_14 : xf (mH n kc ks mu S) mu 11 14 = some (va_rf (some (mu + 11))) := mf_gen (by decide)
theorem mq_14 : xa (mH n kc ks mu S) (mu + 11) 0 = some (64, fun j => .int (S.2.2.1 14 j)) := ma_gen2 (k := 14) (by decide) (by decide)
theorem ml_14 : xaldi g (mH n kc ks mu S) (mu + 11) x = if xin x 64 = true then some (.int (S.2.2.1 14 x.toNatClampNeg)) else none := by unfold xaldi; rw [mq_14]
theorem ms_14 : xast (mH n kc ks mu S) (mu + 11) 0 x (.int v) = if xin x 64 = true then some (mH n kc ks mu (msA S 14 x.toNatClampNeg v)) else none := by unfold xast; rw [mq_14]; dsimp only; rw [show xpa (mH n kc ks mu S) (mu + 11) 0 x.toNatClampNeg (.int v) = _ from ms_gen2 (k := 14) (by decide) (by decide)]
theorem mn_14 : xlen g (mH n kc ks mu S) (mu + 11) = some 64 := xlen_of mq_14
theorem mf_15 : xf (mH n kc ks mu S) mu 11 15 = some (va_rf (some (mu + 12))) := mf_gen (by decide)
theorem mq_15 : xa (mH n kc ks mu S) (mu + 12) 1 = some (64, fun j => .long (S.2.2.2 15 j)) := ma_gen3 (k := 15) (by decide) (by decide)
theorem ml_15 : xald (mH n kc ks mu S) (mu + 12) 1 x = if xin x 64 = true then some (.long (S.2.2.2 15 x.toNatClampNeg)) else none := by unfold xald; rw [mq_15]
theorem ms_15 : xast (mH n kc ks mu S) (mu + 12) 1 x (.long w) = if xin x 64 = true then some (mH n kc ks mu (msB S 15 x.toNatClampNeg w)) else none := by unfold xast; rw [mq_15]; dsimp only; rw [show xpa (mH n kc ks mu S) (mu + 12) 1 x.toNatClampNeg (.long w) = _ from ms_gen3 (k := 15) (by decide) (by decide)]
theorem mn_15 : xlen g (mH n kc ks mu S) (mu + 12) = some 64 := xlen_of mq_15
theorem mf_16 : xf (mH n kc ks mu S) mu 11 16 = some (.int (S.1 16)) := mf_gen (by decide)
theorem mp_16 : xpf (mH n kc ks mu S) mu 11 16 (.int v) = mH n kc ks mu (msI S 16 v) := mp_gen0 (by decide) (by decide)
theorem mf_17 : xf (mH n kc ks mu S) mu 11 17 = some (va_rf (some (mu + 13))) := mf_gen (by decide)
theorem mq_17 : xa (mH n kc ks mu S) (mu + 13) 0 = some (1536, fun j => .int (S.2.2.1 17 j)) := ma_gen2 (k := 17) (by decide) (by decide)
theorem ml_17 : xaldi g (mH n kc ks mu S) (mu + 13) x = if xin x 1536 = true then some (.int (S.2.2.1 17 x.toNatClampNeg)) else none := by unfold xaldi; rw [mq_17]
theorem ms_17 : xast (mH n kc ks mu S) (mu + 13) 0 x (.int v) = if xin x 1536 = true then some (mH n kc ks mu (msA S 17 x.toNatClampNeg v)) else none := by unfold xast; rw [mq_17]; dsimp only; rw [show xpa (mH n kc ks mu S) (mu + 13) 0 x.toNatClampNeg (.int v) = _ from ms_gen2 (k := 17) (by decide) (by decide)]
theorem mn_17 : xlen g (mH n kc ks mu S) (mu + 13) = some 1536 := xlen_of mq_17
theorem mf_18 : xf (mH n kc ks mu S) mu 11 18 = some (va_rf (some (mu + 14))) := mf_gen (by decide)
theorem mq_18 : xa (mH n kc ks mu S) (mu + 14) 0 = some (1536, fun j => .int (S.2.2.1 18 j)) := ma_gen2 (k := 18) (by decide) (by decide)
theorem ml_18 : xaldi g (mH n kc ks mu S) (mu + 14) x = if xin x 1536 = true then some (.int (S.2.2.1 18 x.toNatClampNeg)) else none := by unfold xaldi; rw [mq_18]
theorem ms_18 : xast (mH n kc ks mu S) (mu + 14) 0 x (.int v) = if xin x 1536 = true then some (mH n kc ks mu (msA S 18 x.toNatClampNeg v)) else none := by unfold xast; rw [mq_18]; dsimp only; rw [show xpa (mH n kc ks mu S) (mu + 14) 0 x.toNatClampNeg (.int v) = _ from ms_gen2 (k := 18) (by decide) (by decide)]
theorem mn_18 : xlen g (mH n kc ks mu S) (mu + 14) = some 1536 := xlen_of mq_18
theorem mf_19 : xf (mH n kc ks mu S) mu 11 19 = some (va_rf (some (mu + 15))) := mf_gen (by decide)
theorem mq_19 : xa (mH n kc ks mu S) (mu + 15) 1 = some (1536, fun j => .long (S.2.2.2 19 j)) := ma_gen3 (k := 19) (by decide) (by decide)
theorem ml_19 : xald (mH n kc ks mu S) (mu + 15) 1 x = if xin x 1536 = true then some (.long (S.2.2.2 19 x.toNatClampNeg)) else none := by unfold xald; rw [mq_19]
theorem ms_19 : xast (mH n kc ks mu S) (mu + 15) 1 x (.long w) = if xin x 1536 = true then some (mH n kc ks mu (msB S 19 x.toNatClampNeg w)) else none := by unfold xast; rw [mq_19]; dsimp only; rw [show xpa (mH n kc ks mu S) (mu + 15) 1 x.toNatClampNeg (.long w) = _ from ms_gen3 (k := 19) (by decide) (by decide)]
theorem mn_19 : xlen g (mH n kc ks mu S) (mu + 15) = some 1536 := xlen_of mq_19
theorem mf_20 : xf (mH n kc ks mu S) mu 11 20 = some (va_rf (some (mu + 16))) := mf_gen (by decide)
theorem mq_20 : xa (mH n kc ks mu S) (mu + 16) 0 = some (1536, fun j => .int (S.2.2.1 20 j)) := ma_gen2 (k := 20) (by decide) (by decide)
theorem ml_20 : xaldi g (mH n kc ks mu S) (mu + 16) x = if xin x 1536 = true then some (.int (S.2.2.1 20 x.toNatClampNeg)) else none := by unfold xaldi; rw [mq_20]
theorem ms_20 : xast (mH n kc ks mu S) (mu + 16) 0 x (.int v) = if xin x 1536 = true then some (mH n kc ks mu (msA S 20 x.toNatClampNeg v)) else none := by unfold xast; rw [mq_20]; dsimp only; rw [show xpa (mH n kc ks mu S) (mu + 16) 0 x.toNatClampNeg (.int v) = _ from ms_gen2 (k := 20) (by decide) (by decide)]
theorem mn_20 : xlen g (mH n kc ks mu S) (mu + 16) = some 1536 := xlen_of mq_20
theorem mf_21 : xf (mH n kc ks mu S) mu 11 21 = some (va_rf (some (mu + 17))) := mf_gen (by decide)
theorem mq_21 : xa (mH n kc ks mu S) (mu + 17) 1 = some (1536, fun j => .long (S.2.2.2 21 j)) := ma_gen3 (k := 21) (by decide) (by decide)
theorem ml_21 : xald (mH n kc ks mu S) (mu + 17) 1 x = if xin x 1536 = true then some (.long (S.2.2.2 21 x.toNatClampNeg)) else none := by unfold xald; rw [mq_21]
theorem ms_21 : xast (mH n kc ks mu S) (mu + 17) 1 x (.long w) = if xin x 1536 = true then some (mH n kc ks mu (msB S 21 x.toNatClampNeg w)) else none := by unfold xast; rw [mq_21]; dsimp only; rw [show xpa (mH n kc ks mu S) (mu + 17) 1 x.toNatClampNeg (.long w) = _ from ms_gen3 (k := 21) (by decide) (by decide)]
theorem mn_21 : xlen g (mH n kc ks mu S) (mu + 17) = some 1536 := xlen_of mq_21
theorem mf_22 : xf (mH n kc ks mu S) mu 11 22 = some (va_rf (some (mu + 18))) := mf_gen (by decide)
theorem mq_22 : xa (mH n kc ks mu S) (mu + 18) 0 = some (24, fun j => .int (S.2.2.1 22 j)) := ma_gen2 (k := 22) (by decide) (by decide)
theorem ml_22 : xaldi g (mH n kc ks mu S) (mu + 18) x = if xin x 24 = true then some (.int (S.2.2.1 22 x.toNatClampNeg)) else none := by unfold xaldi; rw [mq_22]
theorem ms_22 : xast (mH n kc ks mu S) (mu + 18) 0 x (.int v) = if xin x 24 = true then some (mH n kc ks mu (msA S 22 x.toNatClampNeg v)) else none := by unfold xast; rw [mq_22]; dsimp only; rw [show xpa (mH n kc ks mu S) (mu + 18) 0 x.toNatClampNeg (.int v) = _ from ms_gen2 (k := 22) (by decide) (by decide)]
theorem mn_22 : xlen g (mH n kc ks mu S) (mu + 18) = some 24 := xlen_of mq_22
theorem mf_23 : xf (mH n kc ks mu S) mu 11 23 = some (.int (S.1 23)) := mf_gen (by decide)
theorem mp_23 : xpf (mH n kc ks mu S) mu 11 23 (.int v) = mH n kc ks mu (msI S 23 v) := mp_gen0 (by decide) (by decide)
theorem mf_24 : xf (mH n kc ks mu S) mu 11 24 = some (.int (S.1 24)) := mf_gen (by decide)
theorem mp_24 : xpf (mH n kc ks mu S) mu 11 24 (.int v) = mH n kc ks mu (msI S 24 v) := mp_gen0 (by decide) (by decide)
theorem mf_25 : xf (mH n kc ks mu S) mu 11 25 = some (.int (S.1 25)) := mf_gen (by decide)
theorem mp_25 : xpf (mH n kc ks mu S) mu 11 25 (.int v) = mH n kc ks mu (msI S 25 v) := mp_gen0 (by decide) (by decide)
theorem mf_26 : xf (mH n kc ks mu S) mu 11 26 = some (va_rf (some (mu + 19))) := mf_gen (by decide)
theorem mq_26 : xa (mH n kc ks mu S) (mu + 19) 0 = some (3, fun j => .int (S.2.2.1 26 j)) := ma_gen2 (k := 26) (by decide) (by decide)
theorem ml_26 : xaldi g (mH n kc ks mu S) (mu + 19) x = if xin x 3 = true then some (.int (S.2.2.1 26 x.toNatClampNeg)) else none := by unfold xaldi; rw [mq_26]
theorem ms_26 : xast (mH n kc ks mu S) (mu + 19) 0 x (.int v) = if xin x 3 = true then some (mH n kc ks mu (msA S 26 x.toNatClampNeg v)) else none := by unfold xast; rw [mq_26]; dsimp only; rw [show xpa (mH n kc ks mu S) (mu + 19) 0 x.toNatClampNeg (.int v) = _ from ms_gen2 (k := 26) (by decide) (by decide)]
theorem mn_26 : xlen g (mH n kc ks mu S) (mu + 19) = some 3 := xlen_of mq_26
theorem mf_27 : xf (mH n kc ks mu S) mu 11 27 = some (va_rf (some (mu + 20))) := mf_gen (by decide)
theorem mq_27 : xa (mH n kc ks mu S) (mu + 20) 0 = some (32, fun j => .int (S.2.2.1 27 j)) := ma_gen2 (k := 27) (by decide) (by decide)
theorem ml_27 : xaldi g (mH n kc ks mu S) (mu + 20) x = if xin x 32 = true then some (.int (S.2.2.1 27 x.toNatClampNeg)) else none := by unfold xaldi; rw [mq_27]
theorem ms_27 : xast (mH n kc ks mu S) (mu + 20) 0 x (.int v) = if xin x 32 = true then some (mH n kc ks mu (msA S 27 x.toNatClampNeg v)) else none := by unfold xast; rw [mq_27]; dsimp only; rw [show xpa (mH n kc ks mu S) (mu + 20) 0 x.toNatClampNeg (.int v) = _ from ms_gen2 (k := 27) (by decide) (by decide)]
theorem mn_27 : xlen g (mH n kc ks mu S) (mu + 20) = some 32 := xlen_of mq_27
theorem mf_28 : xf (mH n kc ks mu S) mu 11 28 = some (va_rf (some (mu + 21))) := mf_gen (by decide)
theorem mq_28 : xa (mH n kc ks mu S) (mu + 21) 1 = some (32, fun j => .long (S.2.2.2 28 j)) := ma_gen3 (k := 28) (by decide) (by decide)
theorem ml_28 : xald (mH n kc ks mu S) (mu + 21) 1 x = if xin x 32 = true then some (.long (S.2.2.2 28 x.toNatClampNeg)) else none := by unfold xald; rw [mq_28]
theorem ms_28 : xast (mH n kc ks mu S) (mu + 21) 1 x (.long w) = if xin x 32 = true then some (mH n kc ks mu (msB S 28 x.toNatClampNeg w)) else none := by unfold xast; rw [mq_28]; dsimp only; rw [show xpa (mH n kc ks mu S) (mu + 21) 1 x.toNatClampNeg (.long w) = _ from ms_gen3 (k := 28) (by decide) (by decide)]
theorem mn_28 : xlen g (mH n kc ks mu S) (mu + 21) = some 32 := xlen_of mq_28
theorem mf_29 : xf (mH n kc ks mu S) mu 11 29 = some (va_rf (some (mu + 22))) := mf_gen (by decide)
theorem mq_29 : xa (mH n kc ks mu S) (mu + 22) 0 = some (800, fun j => .int (S.2.2.1 29 j)) := ma_gen2 (k := 29) (by decide) (by decide)
theorem ml_29 : xaldi g (mH n kc ks mu S) (mu + 22) x = if xin x 800 = true then some (.int (S.2.2.1 29 x.toNatClampNeg)) else none := by unfold xaldi; rw [mq_29]
theorem ms_29 : xast (mH n kc ks mu S) (mu + 22) 0 x (.int v) = if xin x 800 = true then some (mH n kc ks mu (msA S 29 x.toNatClampNeg v)) else none := by unfold xast; rw [mq_29]; dsimp only; rw [show xpa (mH n kc ks mu S) (mu + 22) 0 x.toNatClampNeg (.int v) = _ from ms_gen2 (k := 29) (by decide) (by decide)]
theorem mn_29 : xlen g (mH n kc ks mu S) (mu + 22) = some 800 := xlen_of mq_29
theorem mf_30 : xf (mH n kc ks mu S) mu 11 30 = some (.int (S.1 30)) := mf_gen (by decide)
theorem mp_30 : xpf (mH n kc ks mu S) mu 11 30 (.int v) = mH n kc ks mu (msI S 30 v) := mp_gen0 (by decide) (by decide)
theorem mf_31 : xf (mH n kc ks mu S) mu 11 31 = some (va_rf (some (mu + 23))) := mf_gen (by decide)
theorem mq_31 : xa (mH n kc ks mu S) (mu + 23) 0 = some (20, fun j => .int (S.2.2.1 31 j)) := ma_gen2 (k := 31) (by decide) (by decide)
theorem ml_31 : xaldi g (mH n kc ks mu S) (mu + 23) x = if xin x 20 = true then some (.int (S.2.2.1 31 x.toNatClampNeg)) else none := by unfold xaldi; rw [mq_31]
theorem ms_31 : xast (mH n kc ks mu S) (mu + 23) 0 x (.int v) = if xin x 20 = true then some (mH n kc ks mu (msA S 31 x.toNatClampNeg v)) else none := by unfold xast; rw [mq_31]; dsimp only; rw [show xpa (mH n kc ks mu S) (mu + 23) 0 x.toNatClampNeg (.int v) = _ from ms_gen2 (k := 31) (by decide) (by decide)]
theorem mn_31 : xlen g (mH n kc ks mu S) (mu + 23) = some 20 := xlen_of mq_31
theorem mf_32 : xf (mH n kc ks mu S) mu 11 32 = some (va_rf (some (mu + 24))) := mf_gen (by decide)
theorem mq_32 : xa (mH n kc ks mu S) (mu + 24) 0 = some (10, fun j => .int (S.2.2.1 32 j)) := ma_gen2 (k := 32) (by decide) (by decide)
theorem ml_32 : xaldi g (mH n kc ks mu S) (mu + 24) x = if xin x 10 = true then some (.int (S.2.2.1 32 x.toNatClampNeg)) else none := by unfold xaldi; rw [mq_32]
theorem ms_32 : xast (mH n kc ks mu S) (mu + 24) 0 x (.int v) = if xin x 10 = true then some (mH n kc ks mu (msA S 32 x.toNatClampNeg v)) else none := by unfold xast; rw [mq_32]; dsimp only; rw [show xpa (mH n kc ks mu S) (mu + 24) 0 x.toNatClampNeg (.int v) = _ from ms_gen2 (k := 32) (by decide) (by decide)]
theorem mn_32 : xlen g (mH n kc ks mu S) (mu + 24) = some 10 := xlen_of mq_32
theorem mf_33 : xf (mH n kc ks mu S) mu 11 33 = some (va_rf (some (mu + 25))) := mf_gen (by decide)
theorem mq_33 : xa (mH n kc ks mu S) (mu + 25) 0 = some (120, fun j => .int (S.2.2.1 33 j)) := ma_gen2 (k := 33) (by decide) (by decide)
theorem ml_33 : xaldi g (mH n kc ks mu S) (mu + 25) x = if xin x 120 = true then some (.int (S.2.2.1 33 x.toNatClampNeg)) else none := by unfold xaldi; rw [mq_33]
theorem ms_33 : xast (mH n kc ks mu S) (mu + 25) 0 x (.int v) = if xin x 120 = true then some (mH n kc ks mu (msA S 33 x.toNatClampNeg v)) else none := by unfold xast; rw [mq_33]; dsimp only; rw [show xpa (mH n kc ks mu S) (mu + 25) 0 x.toNatClampNeg (.int v) = _ from ms_gen2 (k := 33) (by decide) (by decide)]
theorem mn_33 : xlen g (mH n kc ks mu S) (mu + 25) = some 120 := xlen_of mq_33
theorem mf_34 : xf (mH n kc ks mu S) mu 11 34 = some (.int (S.1 34)) := mf_gen (by decide)
theorem mp_34 : xpf (mH n kc ks mu S) mu 11 34 (.int v) = mH n kc ks mu (msI S 34 v) := mp_gen0 (by decide) (by decide)
theorem mf_35 : xf (mH n kc ks mu S) mu 11 35 = some (.int (S.1 35)) := mf_gen (by decide)
theorem mp_35 : xpf (mH n kc ks mu S) mu 11 35 (.int v) = mH n kc ks mu (msI S 35 v) := mp_gen0 (by decide) (by decide)
theorem mf_36 : xf (mH n kc ks mu S) mu 11 36 = some (.int (S.1 36)) := mf_gen (by decide)
theorem mp_36 : xpf (mH n kc ks mu S) mu 11 36 (.int v) = mH n kc ks mu (msI S 36 v) := mp_gen0 (by decide) (by decide)
theorem mf_37 : xf (mH n kc ks mu S) mu 11 37 = some (va_rf (some (mu + 26))) := mf_gen (by decide)
theorem mq_37 : xa (mH n kc ks mu S) (mu + 26) 0 = some (40, fun j => .int (S.2.2.1 37 j)) := ma_gen2 (k := 37) (by decide) (by decide)
theorem ml_37 : xaldi g (mH n kc ks mu S) (mu + 26) x = if xin x 40 = true then some (.int (S.2.2.1 37 x.toNatClampNeg)) else none := by unfold xaldi; rw [mq_37]
theorem ms_37 : xast (mH n kc ks mu S) (mu + 26) 0 x (.int v) = if xin x 40 = true then some (mH n kc ks mu (msA S 37 x.toNatClampNeg v)) else none := by unfold xast; rw [mq_37]; dsimp only; rw [show xpa (mH n kc ks mu S) (mu + 26) 0 x.toNatClampNeg (.int v) = _ from ms_gen2 (k := 37) (by decide) (by decide)]
theorem mn_37 : xlen g (mH n kc ks mu S) (mu + 26) = some 40 := xlen_of mq_37
theorem mf_38 : xf (mH n kc ks mu S) mu 11 38 = some (va_rf (some (mu + 27))) := mf_gen (by decide)
theorem mq_38 : xa (mH n kc ks mu S) (mu + 27) 0 = some (40, fun j => .int (S.2.2.1 38 j)) := ma_gen2 (k := 38) (by decide) (by decide)
theorem ml_38 : xaldi g (mH n kc ks mu S) (mu + 27) x = if xin x 40 = true then some (.int (S.2.2.1 38 x.toNatClampNeg)) else none := by unfold xaldi; rw [mq_38]
theorem ms_38 : xast (mH n kc ks mu S) (mu + 27) 0 x (.int v) = if xin x 40 = true then some (mH n kc ks mu (msA S 38 x.toNatClampNeg v)) else none := by unfold xast; rw [mq_38]; dsimp only; rw [show xpa (mH n kc ks mu S) (mu + 27) 0 x.toNatClampNeg (.int v) = _ from ms_gen2 (k := 38) (by decide) (by decide)]
theorem mn_38 : xlen g (mH n kc ks mu S) (mu + 27) = some 40 := xlen_of mq_38
theorem mf_39 : xf (mH n kc ks mu S) mu 11 39 = some (va_rf (some (mu + 28))) := mf_gen (by decide)
theorem mq_39 : xa (mH n kc ks mu S) (mu + 28) 0 = some (40, fun j => .int (S.2.2.1 39 j)) := ma_gen2 (k := 39) (by decide) (by decide)
theorem ml_39 : xaldi g (mH n kc ks mu S) (mu + 28) x = if xin x 40 = true then some (.int (S.2.2.1 39 x.toNatClampNeg)) else none := by unfold xaldi; rw [mq_39]
theorem ms_39 : xast (mH n kc ks mu S) (mu + 28) 0 x (.int v) = if xin x 40 = true then some (mH n kc ks mu (msA S 39 x.toNatClampNeg v)) else none := by unfold xast; rw [mq_39]; dsimp only; rw [show xpa (mH n kc ks mu S) (mu + 28) 0 x.toNatClampNeg (.int v) = _ from ms_gen2 (k := 39) (by decide) (by decide)]
theorem mn_39 : xlen g (mH n kc ks mu S) (mu + 28) = some 40 := xlen_of mq_39
theorem mf_40 : xf (mH n kc ks mu S) mu 11 40 = some (va_rf (some (mu + 29))) := mf_gen (by decide)
theorem mq_40 : xa (mH n kc ks mu S) (mu + 29) 0 = some (40, fun j => .int (S.2.2.1 40 j)) := ma_gen2 (k := 40) (by decide) (by decide)
theorem ml_40 : xaldi g (mH n kc ks mu S) (mu + 29) x = if xin x 40 = true then some (.int (S.2.2.1 40 x.toNatClampNeg)) else none := by unfold xaldi; rw [mq_40]
theorem ms_40 : xast (mH n kc ks mu S) (mu + 29) 0 x (.int v) = if xin x 40 = true then some (mH n kc ks mu (msA S 40 x.toNatClampNeg v)) else none := by unfold xast; rw [mq_40]; dsimp only; rw [show xpa (mH n kc ks mu S) (mu + 29) 0 x.toNatClampNeg (.int v) = _ from ms_gen2 (k := 40) (by decide) (by decide)]
theorem mn_40 : xlen g (mH n kc ks mu S) (mu + 29) = some 40 := xlen_of mq_40
theorem mf_41 : xf (mH n kc ks mu S) mu 11 41 = some (va_rf (some (mu + 30))) := mf_gen (by decide)
theorem mq_41 : xa (mH n kc ks mu S) (mu + 30) 0 = some (40, fun j => .int (S.2.2.1 41 j)) := ma_gen2 (k := 41) (by decide) (by decide)
theorem ml_41 : xaldi g (mH n kc ks mu S) (mu + 30) x = if xin x 40 = true then some (.int (S.2.2.1 41 x.toNatClampNeg)) else none := by unfold xaldi; rw [mq_41]
theorem ms_41 : xast (mH n kc ks mu S) (mu + 30) 0 x (.int v) = if xin x 40 = true then some (mH n kc ks mu (msA S 41 x.toNatClampNeg v)) else none := by unfold xast; rw [mq_41]; dsimp only; rw [show xpa (mH n kc ks mu S) (mu + 30) 0 x.toNatClampNeg (.int v) = _ from ms_gen2 (k := 41) (by decide) (by decide)]
theorem mn_41 : xlen g (mH n kc ks mu S) (mu + 30) = some 40 := xlen_of mq_41
theorem mf_42 : xf (mH n kc ks mu S) mu 11 42 = some (va_rf (some (mu + 31))) := mf_gen (by decide)
theorem mq_42 : xa (mH n kc ks mu S) (mu + 31) 1 = some (40, fun j => .long (S.2.2.2 42 j)) := ma_gen3 (k := 42) (by decide) (by decide)
theorem ml_42 : xald (mH n kc ks mu S) (mu + 31) 1 x = if xin x 40 = true then some (.long (S.2.2.2 42 x.toNatClampNeg)) else none := by unfold xald; rw [mq_42]
theorem ms_42 : xast (mH n kc ks mu S) (mu + 31) 1 x (.long w) = if xin x 40 = true then some (mH n kc ks mu (msB S 42 x.toNatClampNeg w)) else none := by unfold xast; rw [mq_42]; dsimp only; rw [show xpa (mH n kc ks mu S) (mu + 31) 1 x.toNatClampNeg (.long w) = _ from ms_gen3 (k := 42) (by decide) (by decide)]
theorem mn_42 : xlen g (mH n kc ks mu S) (mu + 31) = some 40 := xlen_of mq_42
theorem mf_43 : xf (mH n kc ks mu S) mu 11 43 = some (.int (S.1 43)) := mf_gen (by decide)
theorem mp_43 : xpf (mH n kc ks mu S) mu 11 43 (.int v) = mH n kc ks mu (msI S 43 v) := mp_gen0 (by decide) (by decide)
theorem mf_44 : xf (mH n kc ks mu S) mu 11 44 = some (va_rf (some (mu + 32))) := mf_gen (by decide)
theorem mq_44 : xa (mH n kc ks mu S) (mu + 32) 0 = some (10, fun j => .int (S.2.2.1 44 j)) := ma_gen2 (k := 44) (by decide) (by decide)
theorem ml_44 : xaldi g (mH n kc ks mu S) (mu + 32) x = if xin x 10 = true then some (.int (S.2.2.1 44 x.toNatClampNeg)) else none := by unfold xaldi; rw [mq_44]
theorem ms_44 : xast (mH n kc ks mu S) (mu + 32) 0 x (.int v) = if xin x 10 = true then some (mH n kc ks mu (msA S 44 x.toNatClampNeg v)) else none := by unfold xast; rw [mq_44]; dsimp only; rw [show xpa (mH n kc ks mu S) (mu + 32) 0 x.toNatClampNeg (.int v) = _ from ms_gen2 (k := 44) (by decide) (by decide)]
theorem mn_44 : xlen g (mH n kc ks mu S) (mu + 32) = some 10 := xlen_of mq_44
theorem mf_45 : xf (mH n kc ks mu S) mu 11 45 = some (va_rf (some (mu + 33))) := mf_gen (by decide)
theorem mq_45 : xa (mH n kc ks mu S) (mu + 33) 0 = some (10, fun j => .int (S.2.2.1 45 j)) := ma_gen2 (k := 45) (by decide) (by decide)
theorem ml_45 : xaldi g (mH n kc ks mu S) (mu + 33) x = if xin x 10 = true then some (.int (S.2.2.1 45 x.toNatClampNeg)) else none := by unfold xaldi; rw [mq_45]
theorem ms_45 : xast (mH n kc ks mu S) (mu + 33) 0 x (.int v) = if xin x 10 = true then some (mH n kc ks mu (msA S 45 x.toNatClampNeg v)) else none := by unfold xast; rw [mq_45]; dsimp only; rw [show xpa (mH n kc ks mu S) (mu + 33) 0 x.toNatClampNeg (.int v) = _ from ms_gen2 (k := 45) (by decide) (by decide)]
theorem mn_45 : xlen g (mH n kc ks mu S) (mu + 33) = some 10 := xlen_of mq_45
theorem mf_46 : xf (mH n kc ks mu S) mu 11 46 = some (va_rf (some (mu + 34))) := mf_gen (by decide)
theorem mq_46 : xa (mH n kc ks mu S) (mu + 34) 0 = some (320, fun j => .int (S.2.2.1 46 j)) := ma_gen2 (k := 46) (by decide) (by decide)
theorem ml_46 : xaldi g (mH n kc ks mu S) (mu + 34) x = if xin x 320 = true then some (.int (S.2.2.1 46 x.toNatClampNeg)) else none := by unfold xaldi; rw [mq_46]
theorem ms_46 : xast (mH n kc ks mu S) (mu + 34) 0 x (.int v) = if xin x 320 = true then some (mH n kc ks mu (msA S 46 x.toNatClampNeg v)) else none := by unfold xast; rw [mq_46]; dsimp only; rw [show xpa (mH n kc ks mu S) (mu + 34) 0 x.toNatClampNeg (.int v) = _ from ms_gen2 (k := 46) (by decide) (by decide)]
theorem mn_46 : xlen g (mH n kc ks mu S) (mu + 34) = some 320 := xlen_of mq_46
theorem mf_47 : xf (mH n kc ks mu S) mu 11 47 = some (va_rf (some (mu + 35))) := mf_gen (by decide)
theorem mq_47 : xa (mH n kc ks mu S) (mu + 35) 1 = some (320, fun j => .long (S.2.2.2 47 j)) := ma_gen3 (k := 47) (by decide) (by decide)
theorem ml_47 : xald (mH n kc ks mu S) (mu + 35) 1 x = if xin x 320 = true then some (.long (S.2.2.2 47 x.toNatClampNeg)) else none := by unfold xald; rw [mq_47]
theorem ms_47 : xast (mH n kc ks mu S) (mu + 35) 1 x (.long w) = if xin x 320 = true then some (mH n kc ks mu (msB S 47 x.toNatClampNeg w)) else none := by unfold xast; rw [mq_47]; dsimp only; rw [show xpa (mH n kc ks mu S) (mu + 35) 1 x.toNatClampNeg (.long w) = _ from ms_gen3 (k := 47) (by decide) (by decide)]
theorem mn_47 : xlen g (mH n kc ks mu S) (mu + 35) = some 320 := xlen_of mq_47
theorem mf_48 : xf (mH n kc ks mu S) mu 11 48 = some (va_rf (some (mu + 36))) := mf_gen (by decide)
theorem mq_48 : xa (mH n kc ks mu S) (mu + 36) 0 = some (10, fun j => .int (S.2.2.1 48 j)) := ma_gen2 (k := 48) (by decide) (by decide)
theorem ml_48 : xaldi g (mH n kc ks mu S) (mu + 36) x = if xin x 10 = true then some (.int (S.2.2.1 48 x.toNatClampNeg)) else none := by unfold xaldi; rw [mq_48]
theorem ms_48 : xast (mH n kc ks mu S) (mu + 36) 0 x (.int v) = if xin x 10 = true then some (mH n kc ks mu (msA S 48 x.toNatClampNeg v)) else none := by unfold xast; rw [mq_48]; dsimp only; rw [show xpa (mH n kc ks mu S) (mu + 36) 0 x.toNatClampNeg (.int v) = _ from ms_gen2 (k := 48) (by decide) (by decide)]
theorem mn_48 : xlen g (mH n kc ks mu S) (mu + 36) = some 10 := xlen_of mq_48
theorem mf_49 : xf (mH n kc ks mu S) mu 11 49 = some (va_rf (some (mu + 37))) := mf_gen (by decide)
theorem mq_49 : xa (mH n kc ks mu S) (mu + 37) 0 = some (10, fun j => .int (S.2.2.1 49 j)) := ma_gen2 (k := 49) (by decide) (by decide)
theorem ml_49 : xaldi g (mH n kc ks mu S) (mu + 37) x = if xin x 10 = true then some (.int (S.2.2.1 49 x.toNatClampNeg)) else none := by unfold xaldi; rw [mq_49]
theorem ms_49 : xast (mH n kc ks mu S) (mu + 37) 0 x (.int v) = if xin x 10 = true then some (mH n kc ks mu (msA S 49 x.toNatClampNeg v)) else none := by unfold xast; rw [mq_49]; dsimp only; rw [show xpa (mH n kc ks mu S) (mu + 37) 0 x.toNatClampNeg (.int v) = _ from ms_gen2 (k := 49) (by decide) (by decide)]
theorem mn_49 : xlen g (mH n kc ks mu S) (mu + 37) = some 10 := xlen_of mq_49
theorem mf_50 : xf (mH n kc ks mu S) mu 11 50 = some (va_rf (some (mu + 38))) := mf_gen (by decide)
theorem mq_50 : xa (mH n kc ks mu S) (mu + 38) 0 = some (30, fun j => .int (S.2.2.1 50 j)) := ma_gen2 (k := 50) (by decide) (by decide)
theorem ml_50 : xaldi g (mH n kc ks mu S) (mu + 38) x = if xin x 30 = true then some (.int (S.2.2.1 50 x.toNatClampNeg)) else none := by unfold xaldi; rw [mq_50]
theorem ms_50 : xast (mH n kc ks mu S) (mu + 38) 0 x (.int v) = if xin x 30 = true then some (mH n kc ks mu (msA S 50 x.toNatClampNeg v)) else none := by unfold xast; rw [mq_50]; dsimp only; rw [show xpa (mH n kc ks mu S) (mu + 38) 0 x.toNatClampNeg (.int v) = _ from ms_gen2 (k := 50) (by decide) (by decide)]
theorem mn_50 : xlen g (mH n kc ks mu S) (mu + 38) = some 30 := xlen_of mq_50
end MF
