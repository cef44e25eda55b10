/-! THE REFERENCE's methods, 2 -/
def mCnt (p : Nat → Bool) : Nat → Nat → Nat
  | _, 0 => 0
  | s, d + 1 => (cond (p s) 1 0) + mCnt p (s + 1) d
theorem lt31 {s n : Nat} (h : s < n) (hn : n ≤ 2147483648) : s < 2 ^ 31 := Nat.lt_of_lt_of_le h hn
section M2
variable {g : xG} {n kc ks mu s w q : Nat} {S : MS} {h : xH} {i j k : Int32} {u v : Int64}
def mRow (S : MS) (s : Nat) : Bool := !decide (S.2.2.1 7 s < 0) && !decide (10 ≤ S.2.2.1 7 s)
theorem c165 (hs : s < 10) : X g 165 0 [.val (va_rf (some mu)), .val (.int (nI s))] [] (mH n kc ks mu S) = some (some (.int (xb (mRow S s))), mH n kc ks mu S) := by
  simp only [x165_0, x165_1, x165_4, x165_5, x165_6, x165_9, x165_10, x165_13, x165_14, x165_15, x165_17, x165_20, x165_21, x165_24, x165_25, mf_7, ml_7, xin_nI hs (by decide), nI_clamp (lt31 hs (by decide)), Option.bind_some, Option.toList_some, Option.toList_none, List.cons_append, List.nil_append, Option.isSome_some, if_true, eq_self, or_true, true_or, xb_01, mcl_cl]
  unfold mRow
  by_cases h1 : S.2.2.1 7 s < 0 <;> by_cases h2 : 10 ≤ S.2.2.1 7 s <;> simp [h1, h2, xb]
theorem l166 : ∀ d s m, s + d = 10 → X g 166 4 [.val (va_rf (some mu)), .val (.int i), .val (.int (nI m)), .val (.int (nI s))] [] (mH n kc ks mu S) = some (some (.int (nI (m + mCnt (fun q => decide (S.2.2.1 7 q = i)) s d))), mH n kc ks mu S) := by
  intro d
  induction d with
  | zero =>
    intro s m hs
    have hs : s = 10 := by omega
    subst hs
    have h1 : (10 : Int32) ≤ nI 10 := by decide
    simp only [x166_0, x166_1, x166_2, x166_3, x166_4, x166_5, x166_7, x166_10, x166_11, x166_12, x166_15, x166_16, x166_17, x166_18, x166_21, x166_22, x166_25, x166_26, x166_27, x166_28, x166_34, x166_35, h1, Option.bind_some, Option.toList_some, Option.toList_none, List.cons_append, List.nil_append, Option.isSome_some, if_true, eq_self, or_true, true_or, xb_01, mcl_cl, mCnt, Nat.add_zero]
  | succ d ih =>
    intro s m hs
    have h1 : ¬ (10 : Int32) ≤ nI s := nI_ge (b := 10) (by omega) (by decide)
    have h0 : s < 10 := by omega
    simp only [x166_0, x166_1, x166_2, x166_3, x166_4, x166_5, x166_7, x166_10, x166_11, x166_12, x166_15, x166_16, x166_17, x166_18, x166_21, x166_22, x166_25, x166_26, x166_27, x166_28, x166_34, x166_35, h1, if_false, mf_7, ml_7, xin_nI h0 (by decide), nI_clamp (lt31 h0 (by decide)), Option.bind_some, Option.toList_some, Option.toList_none, List.cons_append, List.nil_append, Option.isSome_some, if_true, eq_self, or_true, true_or, xb_01, mcl_cl]
    by_cases h2 : S.2.2.1 7 s = i
    · simp only [h2, not_true_eq_false, if_false, if_true, x166_31, nI_1]
      rw [ih (s + 1) (m + 1) (by omega)]
      simp [mCnt, h2, Nat.add_assoc]
    · simp only [h2, not_false_eq_true, if_false, if_true, x166_31, nI_1, Int32.add_zero]
      rw [ih (s + 1) m (by omega)]
      simp [mCnt, h2]
def mHolders (S : MS) (r : Int32) : Nat := mCnt (fun q => decide (S.2.2.1 7 q = r)) 0 10
theorem c166 : X g 166 0 [.val (va_rf (some mu)), .val (.int i), .unset, .unset] [] (mH n kc ks mu S) = some (some (.int (nI (mHolders S i))), mH n kc ks mu S) := by
  simp only [x166_0, x166_1, x166_2, x166_3]
  have := l166 (g := g) (n := n) (kc := kc) (ks := ks) (mu := mu) (S := S) (i := i) 10 0 0 rfl
  rw [Nat.zero_add] at this
  exact this
theorem c185 {p : Nat} (hw : w < 6) (hp : p < 5) : X g 185 0 [.val (va_rf (some mu)), .val (.int (nI w)), .val (.int (nI p))] [] (mH n kc ks mu S) = some (some (.int (S.2.2.1 12 (5 * w + p))), mH n kc ks mu S) := by
  have e : (5 : Int32) * nI w + nI p = nI (5 * w + p) := by
    rw [show (5 : Int32) = nI 5 from rfl, pk_mul, nI_add]
  have hb : 5 * w + p < 30 := by omega
  simp only [x185_0, x185_1, x185_4, x185_5, x185_6, x185_7, x185_8, x185_9, x185_10, mf_12, ml_12, e, xin_nI hb (by decide), nI_clamp (lt31 hb (by decide)), Option.bind_some, Option.toList_some, Option.toList_none, List.cons_append, List.nil_append, Option.isSome_some, if_true, eq_self, or_true, true_or, xb_01, mcl_cl]
theorem c188 (hw : w < 6) : X g 188 0 [.val (va_rf (some mu)), .val (.int (nI w)), .val (.int j)] [] (mH n kc ks mu S) = some (some (.int (S.2.2.1 12 (5 * w + 1) + j * S.2.2.1 12 (5 * w + 2))), mH n kc ks mu S) := by
  have h1 := c185 (g := g) (n := n) (kc := kc) (ks := ks) (mu := mu) (S := S) (p := 1) hw (by decide)
  have h2 := c185 (g := g) (n := n) (kc := kc) (ks := ks) (mu := mu) (S := S) (p := 2) hw (by decide)
  rw [show nI 1 = (1 : Int32) from rfl] at h1
  rw [show nI 2 = (2 : Int32) from rfl] at h2
  simp only [x188_0, x188_1, x188_2, x188_3, x188_6, x188_7, x188_8, x188_9, x188_10, x188_13, x188_14, x188_15, h1, h2, Option.bind_some, Option.toList_some, Option.toList_none, List.cons_append, List.nil_append, Option.isSome_some, if_true, eq_self, or_true, true_or, xb_01, mcl_cl]
theorem c199 : X g 199 0 [.val (va_rf (some mu))] [] (mH n kc ks mu S) = some (none, mH n kc ks mu (msI S 16 0)) := by
  simp only [x199_0, x199_1, x199_2, x199_5, mf_16, mp_16, Option.bind_some, Option.toList_some, Option.toList_none, List.cons_append, List.nil_append, Option.isSome_some, if_true, eq_self, or_true, true_or, xb_01, mcl_cl]
def mNone (k : Int32) (v : Int64) : Bool := decide (k = 10) && !mWithin v.toInt 0 9
theorem c156 : X g 156 0 [.val (.int k), .val (.long v), .second] [] h = some (some (.int (xb (mNone k v))), h) := by
  simp only [x156_0, x156_1, x156_3, x156_6, x156_7, x156_8, x156_11, x156_14, x156_17, x156_18, x156_21, x156_22, c154, Option.bind_some, Option.toList_some, Option.toList_none, List.cons_append, List.nil_append, Option.isSome_some, if_true, eq_self, or_true, true_or, xb_01, mcl_cl, xb_eq0, xb_eq1]
  unfold mNone
  by_cases h1 : k = 10 <;> simp [h1, xb] <;> cases h2 : mWithin v.toInt 0 9 <;> simp_all [xb]
theorem c176z : X g 176 0 [.val (va_rf (some mu)), .val (.int 0)] [] (mH n kc ks mu S) = some (some (.int 1), mH n kc ks mu S) := by
  simp only [x176_0, x176_1, x176_4, x176_5, x176_8, x176_10, x176_11, x176_12, x176_13, x176_14, x176_15, x176_16, x176_17, x176_18, x176_19, x176_20, Option.bind_some, Option.toList_some, Option.toList_none, List.cons_append, List.nil_append, Option.isSome_some, if_true, eq_self, or_true, true_or, xb_01, mcl_cl]
theorem c176 {q : Nat} (hq : q < 3) : X g 176 0 [.val (va_rf (some mu)), .val (.int (-11 - nI q))] [] (mH n kc ks mu S) = some (some (.int (-11 - nI q)), mH n kc ks mu (msA S 9 q (S.2.2.1 9 q + 1))) := by
  have h0 : ¬ (-11 - nI q : Int32) = 0 := by
    match q, hq with
    | 0, _ => decide
    | 1, _ => decide
    | 2, _ => decide
  have e : (-11 - (-11 - nI q) : Int32) = nI q := by
    have h9 : q = 0 ∨ q = 1 ∨ q = 2 := by omega
    rcases h9 with rfl | rfl | rfl <;> decide +kernel
  simp only [x176_0, x176_1, x176_4, x176_5, x176_8, x176_10, x176_11, x176_12, x176_13, x176_14, x176_15, x176_16, x176_17, x176_18, x176_19, x176_20, h0, if_false, mf_9, ml_9, ms_9, e, xin_nI hq (by decide), nI_clamp (lt31 hq (by decide)), Option.bind_some, Option.toList_some, Option.toList_none, List.cons_append, List.nil_append, Option.isSome_some, if_true, eq_self, or_true, true_or, xb_01, mcl_cl]
end M2
