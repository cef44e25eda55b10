/-! THE REFERENCE's methods, 19: texts -/
section M21
variable {g : xG} {n kc ks mu s w q p r l o : Nat} {S T : MS} {h : xH} {i j k m v x y : Int32} {u : Int64} {t : Nat → Int32} {z : Nat × Bool}
def mTpe (S : MS) (l : Nat) (t : Nat → Int32) : Prop := S.1 34 = nI l ∧ l ≤ 120 ∧ ∀ i, S.2.2.1 33 i = t i
/-- where reading stands, and whether no fault was met -/
def mQ (S : MS) (z : Nat × Bool) : MS := msI (msI S 35 (nI z.1)) 36 (if z.2 = true then -1 else nI z.1)
def qIs (l : Nat) (t : Nat → Int32) (z : Nat × Bool) (c : Int32) : Bool := z.2 && (decide (z.1 < l) && decide (t z.1 = c))
def qTk (l : Nat) (t : Nat → Int32) (z : Nat × Bool) (c : Int32) : Nat × Bool := if qIs l t z c = true then (z.1 + 1, z.2) else z
def qWt (l : Nat) (t : Nat → Int32) (z : Nat × Bool) (c : Int32) : Nat × Bool := if qIs l t z c = true then (z.1 + 1, z.2) else (z.1, false)
def qFg (l : Nat) (t : Nat → Int32) (z : Nat × Bool) : Bool := z.2 && (decide (z.1 < l) && mWithin (t z.1).toInt 48 57)
def qNl (l : Nat) (t : Nat → Int32) : Nat → Nat × Bool → Int32 → Int32 × (Nat × Bool)
  | 0, z, v => (v, z)
  | m + 1, z, v => if qFg l t z = true then qNl l t m (z.1 + 1, z.2) (10 * v + t z.1 - 48) else (v, z)
def qNm (l : Nat) (t : Nat → Int32) (m : Nat) (z : Nat × Bool) : Int32 × (Nat × Bool) := qNl l t m (if qFg l t z = true then z else (z.1, false)) 0
theorem mQ_A : (mQ S z).2.2.1 = S.2.2.1 := rfl
theorem mQ_35 : (mQ S z).1 35 = nI z.1 := rfl
theorem mQ_36 : (mQ S z).1 36 = if z.2 = true then -1 else nI z.1 := rfl
theorem mQ_34 : (mQ S z).1 34 = S.1 34 := rfl
theorem mQ_go {a : Nat} : msI (mQ S (a, true)) 35 (nI (a + 1)) = mQ S (a + 1, true) := by
  refine Prod.ext ?_ rfl
  funext q
  simp only [mQ, msI]
  by_cases e : q = 35
  · subst e; simp
  · simp [e]
theorem mQ_st : msI (mQ S z) 35 (nI z.1) = mQ S z := by
  refine Prod.ext ?_ rfl
  funext q
  simp only [mQ, msI]
  by_cases e : q = 35
  · subst e; simp
  · simp [e]
theorem mQ_fl {a : Nat} {b : Bool} : msI (mQ S (a, b)) 36 (nI a) = mQ S (a, false) := by
  refine Prod.ext ?_ rfl
  funext q
  simp only [mQ, msI]
  by_cases e : q = 36
  · subst e; simp
  · simp [e]
theorem mQ_msA : msA (mQ S z) q p x = mQ (msA S q p x) z := rfl
theorem mQ_msB : msB (mQ S z) q p u = mQ (msB S q p u) z := rfl
theorem mTpe_A (hq : q ≠ 33) (hT : mTpe S l t) : mTpe (msA S q p x) l t := by
  refine ⟨hT.1, hT.2.1, fun i => ?_⟩
  rw [← hT.2.2 i]
  have : ¬ 33 = q := fun e => hq e.symm
  simp [msA, this]
theorem mTpe_B (hT : mTpe S l t) : mTpe (msB S q p u) l t := hT
theorem c227 (hT : mTpe S l t) (hz : z.1 ≤ l) : X g 227 0 [.val (va_rf (some mu)), .val (.int x)] [] (mH n kc ks mu (mQ S z)) = some (some (.int (xb (qIs l t z x))), mH n kc ks mu (mQ S z)) := by
  obtain ⟨t1, t2, t3⟩ := hT
  obtain ⟨a, b⟩ := z
  have hz : a ≤ l := hz
  unfold qIs
  cases b with
  | false =>
    have h1 : 0 ≤ nI a := nI_le (a := 0) (by omega) (by omega)
    simp only [x227_0, x227_1, x227_4, x227_7, x227_8, x227_11, x227_12, x227_15, x227_18, x227_19, x227_22, x227_23, x227_26, x227_27, x227_28, x227_31, x227_32, x227_35, x227_36, mf_36, mQ_36, h1, Bool.false_and, xb_f, Bool.false_eq_true, Option.bind_some, Option.toList_some, Option.toList_none, List.cons_append, List.nil_append, Option.isSome_some, if_true, eq_self, or_true, true_or, xb_01, mcl_cl, not_true_eq_false, not_false_eq_true, if_false]
  | true =>
    have h1 : ¬ (0 : Int32) ≤ -1 := by decide
    by_cases e1 : a < l
    · have h2 : ¬ nI l ≤ nI a := nI_ge e1 (by omega)
      have h3 : a < 120 := by omega
      by_cases e2 : t a = x
      · simp only [x227_0, x227_1, x227_4, x227_7, x227_8, x227_11, x227_12, x227_15, x227_18, x227_19, x227_22, x227_23, x227_26, x227_27, x227_28, x227_31, x227_32, x227_35, x227_36, mf_36, mf_35, mf_34, mf_33, ml_33, mQ_36, mQ_35, mQ_34, mQ_A, t1, t3, h1, h2, e2, xin_nI h3 (by decide), nI_clamp (lt31 h3 (by decide)), decide_eq_true e1, decide_true, Bool.true_and, xb_t, Bool.and_true, Option.bind_some, Option.toList_some, Option.toList_none, List.cons_append, List.nil_append, Option.isSome_some, if_true, eq_self, or_true, true_or, xb_01, mcl_cl, not_true_eq_false, not_false_eq_true, if_false]
      · simp only [x227_0, x227_1, x227_4, x227_7, x227_8, x227_11, x227_12, x227_15, x227_18, x227_19, x227_22, x227_23, x227_26, x227_27, x227_28, x227_31, x227_32, x227_35, x227_36, mf_36, mf_35, mf_34, mf_33, ml_33, mQ_36, mQ_35, mQ_34, mQ_A, t1, t3, h1, h2, e2, xin_nI h3 (by decide), nI_clamp (lt31 h3 (by decide)), decide_eq_true e1, decide_false, Bool.true_and, Bool.and_false, xb_f, Option.bind_some, Option.toList_some, Option.toList_none, List.cons_append, List.nil_append, Option.isSome_some, if_true, eq_self, or_true, true_or, xb_01, mcl_cl, not_true_eq_false, not_false_eq_true, if_false]
    · have h2 : nI l ≤ nI a := nI_le (by omega) (by omega)
      simp only [x227_0, x227_1, x227_4, x227_7, x227_8, x227_11, x227_12, x227_15, x227_18, x227_19, x227_22, x227_23, x227_26, x227_27, x227_28, x227_31, x227_32, x227_35, x227_36, mf_36, mf_35, mf_34, mQ_36, mQ_35, mQ_34, t1, h1, h2, decide_eq_false e1, Bool.true_and, Bool.false_and, xb_f, Option.bind_some, Option.toList_some, Option.toList_none, List.cons_append, List.nil_append, Option.isSome_some, if_true, eq_self, or_true, true_or, xb_01, mcl_cl, not_true_eq_false, not_false_eq_true, if_false]
theorem c228 (hT : mTpe S l t) (hz : z.1 ≤ l) : X g 228 0 [.val (va_rf (some mu)), .val (.int x), .unset] [] (mH n kc ks mu (mQ S z)) = some (some (.int (xb (qIs l t z x))), mH n kc ks mu (mQ S (qTk l t z x))) := by
  unfold qTk
  cases e : qIs l t z x with
  | false =>
    rw [if_neg (by simp)]
    simp only [x228_0, x228_1, x228_2, x228_5, x228_6, x228_7, x228_8, x228_11, x228_12, x228_15, x228_16, x228_19, x228_20, x228_21, x228_24, x228_25, c227 hT hz, e, xb_f, mf_35, mp_35, mQ_35, Int32.add_zero, mQ_st, Option.bind_some, Option.toList_some, Option.toList_none, List.cons_append, List.nil_append, Option.isSome_some, if_true, eq_self, or_true, true_or, xb_01, mcl_cl, not_true_eq_false, not_false_eq_true, if_false]
  | true =>
    rw [if_pos rfl]
    obtain ⟨a, b⟩ := z
    have hb : b = true := by
      unfold qIs at e
      simp only [Bool.and_eq_true] at e
      exact e.1
    subst hb
    simp only [x228_0, x228_1, x228_2, x228_5, x228_6, x228_7, x228_8, x228_11, x228_12, x228_15, x228_16, x228_19, x228_20, x228_21, x228_24, x228_25, c227 hT hz, e, xb_t, i32_10, mf_35, mp_35, mQ_35, nI_1, mQ_go, Option.bind_some, Option.toList_some, Option.toList_none, List.cons_append, List.nil_append, Option.isSome_some, if_true, eq_self, or_true, true_or, xb_01, mcl_cl, not_true_eq_false, not_false_eq_true, if_false]
theorem c229 (hz : z.1 ≤ 120) : X g 229 0 [.val (va_rf (some mu))] [] (mH n kc ks mu (mQ S z)) = some (none, mH n kc ks mu (mQ S (z.1, false))) := by
  obtain ⟨a, b⟩ := z
  have hz : a ≤ 120 := hz
  cases b with
  | false =>
    have h1 : 0 ≤ nI a := nI_le (a := 0) (by omega) (by omega)
    simp only [x229_0, x229_1, x229_2, x229_5, x229_8, x229_9, x229_12, x229_15, x229_16, x229_19, x229_22, mf_36, mp_36, mQ_36, h1, Bool.false_eq_true, mQ_fl, Option.bind_some, Option.toList_some, Option.toList_none, List.cons_append, List.nil_append, Option.isSome_some, if_true, eq_self, or_true, true_or, xb_01, mcl_cl, not_true_eq_false, not_false_eq_true, if_false]
  | true =>
    have h1 : ¬ (0 : Int32) ≤ -1 := by decide
    simp only [x229_0, x229_1, x229_2, x229_5, x229_8, x229_9, x229_12, x229_15, x229_16, x229_19, x229_22, mf_36, mf_35, mp_36, mQ_36, mQ_35, h1, mQ_fl, Option.bind_some, Option.toList_some, Option.toList_none, List.cons_append, List.nil_append, Option.isSome_some, if_true, eq_self, or_true, true_or, xb_01, mcl_cl, not_true_eq_false, not_false_eq_true, if_false]
theorem c230 (hT : mTpe S l t) (hz : z.1 ≤ l) : X g 230 0 [.val (va_rf (some mu)), .val (.int x)] [] (mH n kc ks mu (mQ S z)) = some (none, mH n kc ks mu (mQ S (qWt l t z x))) := by
  have h120 : z.1 ≤ 120 := Nat.le_trans hz hT.2.1
  unfold qWt
  have h1 := c228 (g := g) (n := n) (kc := kc) (ks := ks) (mu := mu) (x := x) hT hz
  unfold qTk at h1
  cases e : qIs l t z x with
  | false =>
    rw [if_neg (by simp)]
    rw [e, if_neg (by simp)] at h1
    simp only [x230_0, x230_1, x230_2, x230_5, x230_8, x230_9, x230_12, h1, xb_f, c229 h120, Option.bind_some, Option.toList_some, Option.toList_none, List.cons_append, List.nil_append, Option.isSome_some, if_true, eq_self, or_true, true_or, xb_01, mcl_cl, not_true_eq_false, not_false_eq_true, if_false]
  | true =>
    rw [if_pos rfl]
    rw [e, if_pos rfl] at h1
    simp only [x230_0, x230_1, x230_2, x230_5, x230_8, x230_9, x230_12, h1, xb_t, i32_10, Option.bind_some, Option.toList_some, Option.toList_none, List.cons_append, List.nil_append, Option.isSome_some, if_true, eq_self, or_true, true_or, xb_01, mcl_cl, not_true_eq_false, not_false_eq_true, if_false]
theorem c231 (hT : mTpe S l t) (hz : z.1 ≤ l) : X g 231 0 [.val (va_rf (some mu))] [] (mH n kc ks mu (mQ S z)) = some (some (.int (xb (qFg l t z))), mH n kc ks mu (mQ S z)) := by
  obtain ⟨t1, t2, t3⟩ := hT
  obtain ⟨a, b⟩ := z
  have hz : a ≤ l := hz
  unfold qFg
  cases b with
  | false =>
    have h1 : 0 ≤ nI a := nI_le (a := 0) (by omega) (by omega)
    simp only [x231_0, x231_1, x231_4, x231_7, x231_8, x231_11, x231_12, x231_15, x231_18, x231_19, x231_22, x231_23, x231_26, x231_27, x231_28, x231_31, x231_34, x231_37, x231_40, x231_41, x231_44, x231_45, mf_36, mQ_36, h1, Bool.false_and, xb_f, Bool.false_eq_true, Option.bind_some, Option.toList_some, Option.toList_none, List.cons_append, List.nil_append, Option.isSome_some, if_true, eq_self, or_true, true_or, xb_01, mcl_cl, not_true_eq_false, not_false_eq_true, if_false]
  | true =>
    have h1 : ¬ (0 : Int32) ≤ -1 := by decide
    by_cases e1 : a < l
    · have h2 : ¬ nI l ≤ nI a := nI_ge e1 (by omega)
      have h3 : a < 120 := by omega
      cases e2 : mWithin (t a).toInt 48 57 with
      | true =>
        have e3 : mWithin (t a).toInt (Int64.toInt 48) (Int64.toInt 57) = true := e2
        simp only [x231_0, x231_1, x231_4, x231_7, x231_8, x231_11, x231_12, x231_15, x231_18, x231_19, x231_22, x231_23, x231_26, x231_27, x231_28, x231_31, x231_34, x231_37, x231_40, x231_41, x231_44, x231_45, mf_36, mf_35, mf_34, mf_33, ml_33, c154, i32_64, mQ_36, mQ_35, mQ_34, mQ_A, t1, t3, h1, h2, e2, e3, xin_nI h3 (by decide), nI_clamp (lt31 h3 (by decide)), decide_eq_true e1, Bool.true_and, xb_t, i32_10, Bool.and_true, Option.bind_some, Option.toList_some, Option.toList_none, List.cons_append, List.nil_append, Option.isSome_some, if_true, eq_self, or_true, true_or, xb_01, mcl_cl, not_true_eq_false, not_false_eq_true, if_false]
      | false =>
        have e3 : mWithin (t a).toInt (Int64.toInt 48) (Int64.toInt 57) = false := e2
        simp only [x231_0, x231_1, x231_4, x231_7, x231_8, x231_11, x231_12, x231_15, x231_18, x231_19, x231_22, x231_23, x231_26, x231_27, x231_28, x231_31, x231_34, x231_37, x231_40, x231_41, x231_44, x231_45, mf_36, mf_35, mf_34, mf_33, ml_33, c154, i32_64, mQ_36, mQ_35, mQ_34, mQ_A, t1, t3, h1, h2, e2, e3, xin_nI h3 (by decide), nI_clamp (lt31 h3 (by decide)), decide_eq_true e1, Bool.true_and, Bool.and_false, xb_f, Option.bind_some, Option.toList_some, Option.toList_none, List.cons_append, List.nil_append, Option.isSome_some, if_true, eq_self, or_true, true_or, xb_01, mcl_cl, not_true_eq_false, not_false_eq_true, if_false]
    · have h2 : nI l ≤ nI a := nI_le (by omega) (by omega)
      simp only [x231_0, x231_1, x231_4, x231_7, x231_8, x231_11, x231_12, x231_15, x231_18, x231_19, x231_22, x231_23, x231_26, x231_27, x231_28, x231_31, x231_34, x231_37, x231_40, x231_41, x231_44, x231_45, mf_36, mf_35, mf_34, mQ_36, mQ_35, mQ_34, t1, h1, h2, decide_eq_false e1, Bool.true_and, Bool.false_and, xb_f, Option.bind_some, Option.toList_some, Option.toList_none, List.cons_append, List.nil_append, Option.isSome_some, if_true, eq_self, or_true, true_or, xb_01, mcl_cl, not_true_eq_false, not_false_eq_true, if_false]
theorem qFg_t (h : qFg l t z = true) : z.2 = true ∧ z.1 < l := by
  unfold qFg at h
  simp only [Bool.and_eq_true, decide_eq_true_eq] at h
  exact ⟨h.1, h.2.1⟩
theorem qIs_t (h : qIs l t z x = true) : z.2 = true ∧ z.1 < l := by
  unfold qIs at h
  simp only [Bool.and_eq_true, decide_eq_true_eq] at h
  exact ⟨h.1, h.2.1⟩
theorem l232 (hT : mTpe S l t) {M : Nat} (hM : M < 100) : ∀ d c z v, c + d = M → z.1 ≤ l → X g 232 15 [.val (va_rf (some mu)), .val (.int (nI M)), .val (.int v), .val (.int (nI c))] [] (mH n kc ks mu (mQ S z)) = some (some (.int (qNl l t d z v).1), mH n kc ks mu (mQ S (qNl l t d z v).2)) := by
  intro d
  induction d with
  | zero =>
    intro c z v hc hz
    have h1 : nI M ≤ nI c := nI_le (by omega) (by omega)
    simp only [x232_15, x232_16, x232_17, x232_20, x232_21, x232_24, x232_27, x232_29, x232_30, x232_31, x232_32, x232_35, x232_36, x232_39, x232_40, x232_41, x232_43, x232_44, x232_45, x232_46, x232_47, x232_50, x232_51, x232_52, x232_55, x232_61, x232_62, h1, qNl, Option.bind_some, Option.toList_some, Option.toList_none, List.cons_append, List.nil_append, Option.isSome_some, if_true, eq_self, or_true, true_or, xb_01, mcl_cl, not_true_eq_false, not_false_eq_true, if_false]
  | succ d ih =>
    intro c z v hc hz
    have h1 : ¬ nI M ≤ nI c := nI_ge (by omega) (by omega)
    cases e : qFg l t z with
    | false =>
      rw [qNl, e, if_neg (by simp)]
      simp only [x232_15, x232_16, x232_17, x232_20, x232_21, x232_24, x232_27, x232_29, x232_30, x232_31, x232_32, x232_35, x232_36, x232_39, x232_40, x232_41, x232_43, x232_44, x232_45, x232_46, x232_47, x232_50, x232_51, x232_52, x232_55, x232_61, x232_62, h1, c231 hT hz, e, xb_f, Option.bind_some, Option.toList_some, Option.toList_none, List.cons_append, List.nil_append, Option.isSome_some, if_true, eq_self, or_true, true_or, xb_01, mcl_cl, not_true_eq_false, not_false_eq_true, if_false]
    | true =>
      rw [qNl, e, if_pos rfl]
      obtain ⟨e1, e2⟩ := qFg_t e
      obtain ⟨a, b⟩ := z
      have e1 : b = true := e1
      have e2 : a < l := e2
      subst e1
      have h3 : a < 120 := by have := hT.2.1; omega
      have h9 := ih (c + 1) (a + 1, true) (10 * v + t a - 48) (by omega) e2
      simp only [x232_15, x232_16, x232_17, x232_20, x232_21, x232_24, x232_27, x232_29, x232_30, x232_31, x232_32, x232_35, x232_36, x232_39, x232_40, x232_41, x232_43, x232_44, x232_45, x232_46, x232_47, x232_50, x232_51, x232_52, x232_55, h1, c231 hT hz, e, xb_t, i32_10, mf_33, ml_33, mf_35, mp_35, mQ_35, mQ_A, hT.2.2, xin_nI h3 (by decide), nI_clamp (lt31 h3 (by decide)), nI_1, mQ_go, Option.bind_some, Option.toList_some, Option.toList_none, List.cons_append, List.nil_append, Option.isSome_some, if_true, eq_self, or_true, true_or, xb_01, mcl_cl, not_true_eq_false, not_false_eq_true, if_false]
      simp only [x232_58]
      exact h9
theorem c232 (hT : mTpe S l t) {M : Nat} (hM : M < 100) (hz : z.1 ≤ l) : X g 232 0 [.val (va_rf (some mu)), .val (.int (nI M)), .unset, .unset] [] (mH n kc ks mu (mQ S z)) = some (some (.int (qNm l t M z).1), mH n kc ks mu (mQ S (qNm l t M z).2)) := by
  have h120 : z.1 ≤ 120 := Nat.le_trans hz hT.2.1
  unfold qNm
  cases e : qFg l t z with
  | false =>
    rw [if_neg (by simp)]
    have h1 := l232 (g := g) (n := n) (kc := kc) (ks := ks) (mu := mu) hT hM M 0 (z.1, false) 0 (by omega) hz
    have h1' : X g 232 15 [.val (va_rf (some mu)), .val (.int (nI M)), .val (.int 0), .val (.int 0)] [] (mH n kc ks mu (mQ S (z.1, false))) = _ := h1
    simp only [x232_0, x232_1, x232_4, x232_7, x232_8, x232_11, x232_12, x232_13, x232_14, c231 hT hz, e, xb_f, c229 h120, h1', Option.bind_some, Option.toList_some, Option.toList_none, List.cons_append, List.nil_append, Option.isSome_some, if_true, eq_self, or_true, true_or, xb_01, mcl_cl, not_true_eq_false, not_false_eq_true, if_false]
  | true =>
    rw [if_pos rfl]
    have h1 := l232 (g := g) (n := n) (kc := kc) (ks := ks) (mu := mu) hT hM M 0 z 0 (by omega) hz
    have h1' : X g 232 15 [.val (va_rf (some mu)), .val (.int (nI M)), .val (.int 0), .val (.int 0)] [] (mH n kc ks mu (mQ S z)) = _ := h1
    simp only [x232_0, x232_1, x232_4, x232_7, x232_8, x232_11, x232_12, x232_13, x232_14, c231 hT hz, e, xb_t, i32_10, h1', Option.bind_some, Option.toList_some, Option.toList_none, List.cons_append, List.nil_append, Option.isSome_some, if_true, eq_self, or_true, true_or, xb_01, mcl_cl, not_true_eq_false, not_false_eq_true, if_false]
theorem d232_1 (hT : mTpe S l t) (hz : z.1 ≤ l) : X g 232 0 [.val (va_rf (some mu)), .val (.int 1), .unset, .unset] [] (mH n kc ks mu (mQ S z)) = some (some (.int (qNm l t 1 z).1), mH n kc ks mu (mQ S (qNm l t 1 z).2)) := c232 (M := 1) hT (by decide) hz
theorem d232_2 (hT : mTpe S l t) (hz : z.1 ≤ l) : X g 232 0 [.val (va_rf (some mu)), .val (.int 2), .unset, .unset] [] (mH n kc ks mu (mQ S z)) = some (some (.int (qNm l t 2 z).1), mH n kc ks mu (mQ S (qNm l t 2 z).2)) := c232 (M := 2) hT (by decide) hz
theorem d232_9 (hT : mTpe S l t) (hz : z.1 ≤ l) : X g 232 0 [.val (va_rf (some mu)), .val (.int 9), .unset, .unset] [] (mH n kc ks mu (mQ S z)) = some (some (.int (qNm l t 9 z).1), mH n kc ks mu (mQ S (qNm l t 9 z).2)) := c232 (M := 9) hT (by decide) hz
theorem qTk_le (hz : z.1 ≤ l) : (qTk l t z x).1 ≤ l := by
  unfold qTk
  split
  · rename_i e
    exact (qIs_t e).2
  · exact hz
theorem qWt_le (hz : z.1 ≤ l) : (qWt l t z x).1 ≤ l := by
  unfold qWt
  split
  · rename_i e
    exact (qIs_t e).2
  · exact hz
theorem qNl_le : ∀ m (z : Nat × Bool) v, z.1 ≤ l → (qNl l t m z v).2.1 ≤ l := by
  intro m
  induction m with
  | zero => intro z v hz; exact hz
  | succ m ih =>
    intro z v hz
    rw [qNl]
    split
    · rename_i e
      exact ih _ _ (qFg_t e).2
    · exact hz
theorem qNm_le {m : Nat} (hz : z.1 ≤ l) : (qNm l t m z).2.1 ≤ l := by
  unfold qNm
  apply qNl_le
  split
  · exact hz
  · exact hz
/-- a line that reads: its source -/
def qV1 (l : Nat) (t : Nat → Int32) (z : Nat × Bool) : Nat × Bool := qWt l t (qNm l t 1 z).2 46
def qV2 (l : Nat) (t : Nat → Int32) (z : Nat × Bool) : Nat × Bool := qWt l t (qNm l t 2 (qV1 l t z)).2 58
def qV3 (l : Nat) (t : Nat → Int32) (z : Nat × Bool) : Nat × Bool := if qIs l t (qV2 l t z) 57 = true then ((qV2 l t z).1, false) else qV2 l t z
def mVw (S : MS) (l : Nat) (t : Nat → Int32) (z : Nat × Bool) (k : Nat) : MS := msA (msA (msA S 39 k (qNm l t 1 z).1) 40 k (qNm l t 2 (qV1 l t z)).1) 41 k (qNm l t 1 (qV3 l t z)).1
theorem qV3_le (hz : z.1 ≤ l) : (qV1 l t z).1 ≤ l ∧ (qV2 l t z).1 ≤ l ∧ (qV3 l t z).1 ≤ l := by
  have h1 : (qV1 l t z).1 ≤ l := qWt_le (qNm_le hz)
  have h2 : (qV2 l t z).1 ≤ l := qWt_le (qNm_le h1)
  refine ⟨h1, h2, ?_⟩
  unfold qV3
  split
  · exact h2
  · exact h2
theorem c233 {c : Nat} (hT : mTpe S l t) (hz : z.1 ≤ l) (hc : c < 40) : X g 233 0 [.val (va_rf (some mu)), .val (.int (nI c))] [] (mH n kc ks mu (mQ S z)) = some (none, mH n kc ks mu (mQ (mVw S l t z c) (qNm l t 1 (qV3 l t z)).2)) := by
  obtain ⟨v1, v2, v3⟩ := qV3_le (t := t) hz
  have q1 := xin_nI hc (n := 40) (by decide)
  have q2 := nI_clamp (lt31 hc (by decide))
  have hT1 : mTpe (msA S 39 c (qNm l t 1 z).1) l t := mTpe_A (by decide) hT
  have hT2 : mTpe (msA (msA S 39 c (qNm l t 1 z).1) 40 c (qNm l t 2 (qV1 l t z)).1) l t := mTpe_A (by decide) hT1
  have w1 := c230 (g := g) (n := n) (kc := kc) (ks := ks) (mu := mu) (x := 46) hT1 (qNm_le (t := t) (m := 1) hz)
  have w1' : X g 230 0 [.val (va_rf (some mu)), .val (.int 46)] [] (mH n kc ks mu (mQ (msA S 39 c (qNm l t 1 z).1) (qNm l t 1 z).2)) = some (none, mH n kc ks mu (mQ (msA S 39 c (qNm l t 1 z).1) (qV1 l t z))) := w1
  have w2 := c230 (g := g) (n := n) (kc := kc) (ks := ks) (mu := mu) (x := 58) hT2 (qNm_le (t := t) (m := 2) v1)
  have w2' : X g 230 0 [.val (va_rf (some mu)), .val (.int 58)] [] (mH n kc ks mu (mQ (msA (msA S 39 c (qNm l t 1 z).1) 40 c (qNm l t 2 (qV1 l t z)).1) (qNm l t 2 (qV1 l t z)).2)) = some (none, mH n kc ks mu (mQ (msA (msA S 39 c (qNm l t 1 z).1) 40 c (qNm l t 2 (qV1 l t z)).1) (qV2 l t z))) := w2
  have w3 := c227 (g := g) (n := n) (kc := kc) (ks := ks) (mu := mu) (x := 57) hT2 v2
  have w4 := d232_1 (g := g) (n := n) (kc := kc) (ks := ks) (mu := mu) hT2 v3
  unfold mVw
  cases e : qIs l t (qV2 l t z) 57 with
  | false =>
    have e3 : qV3 l t z = qV2 l t z := by unfold qV3; rw [e, if_neg (by simp)]
    rw [e3] at w4 ⊢
    simp only [x233_0, x233_1, x233_4, x233_5, x233_6, x233_7, x233_10, x233_11, x233_12, x233_14, x233_17, x233_18, x233_21, x233_22, x233_23, x233_24, x233_27, x233_28, x233_29, x233_31, x233_34, x233_35, x233_37, x233_40, x233_43, x233_44, x233_47, x233_48, x233_51, x233_52, x233_53, x233_54, x233_57, x233_58, mf_39, ms_39, mf_40, ms_40, mf_41, ms_41, d232_1 hT hz, d232_2 hT1 v1, w1', w2', w3, w4, e, xb_f, q1, q2, mQ_msA, Option.bind_some, Option.toList_some, Option.toList_none, List.cons_append, List.nil_append, Option.isSome_some, if_true, eq_self, or_true, true_or, xb_01, mcl_cl, not_true_eq_false, not_false_eq_true, if_false]
  | true =>
    have e3 : qV3 l t z = ((qV2 l t z).1, false) := by unfold qV3; rw [e, if_pos rfl]
    rw [e3] at w4 ⊢
    have h120 : (qV2 l t z).1 ≤ 120 := Nat.le_trans v2 hT.2.1
    simp only [x233_0, x233_1, x233_4, x233_5, x233_6, x233_7, x233_10, x233_11, x233_12, x233_14, x233_17, x233_18, x233_21, x233_22, x233_23, x233_24, x233_27, x233_28, x233_29, x233_31, x233_34, x233_35, x233_37, x233_40, x233_43, x233_44, x233_47, x233_48, x233_51, x233_52, x233_53, x233_54, x233_57, x233_58, mf_39, ms_39, mf_40, ms_40, mf_41, ms_41, d232_1 hT hz, d232_2 hT1 v1, w1', w2', w3, w4, e, xb_t, i32_10, c229 h120, q1, q2, mQ_msA, Option.bind_some, Option.toList_some, Option.toList_none, List.cons_append, List.nil_append, Option.isSome_some, if_true, eq_self, or_true, true_or, xb_01, mcl_cl, not_true_eq_false, not_false_eq_true, if_false]
/-- a line that boxes: its box -/
def mBx (S : MS) (l : Nat) (t : Nat → Int32) (z : Nat × Bool) (k : Nat) : MS × (Nat × Bool) := if (qNm l t 1 z).1 = 8 then (msA (msA S 39 k (qNm l t 1 z).1) 41 k (-1), (qNm l t 1 z).2) else (msB (msA (msA S 39 k (qNm l t 1 z).1) 41 k (-1)) 42 k (if qIs l t (qNm l t 1 z).2 45 = true then -(qNm l t 9 (qTk l t (qNm l t 1 z).2 45)).1 else (qNm l t 9 (qTk l t (qNm l t 1 z).2 45)).1).toInt64, (qNm l t 9 (qTk l t (qNm l t 1 z).2 45)).2)
theorem c234 {c : Nat} (hT : mTpe S l t) (hz : z.1 ≤ l) (hc : c < 40) : X g 234 0 [.val (va_rf (some mu)), .val (.int (nI c)), .unset, .unset] [] (mH n kc ks mu (mQ S z)) = some (none, mH n kc ks mu (mQ (mBx S l t z c).1 (mBx S l t z c).2)) := by
  have q1 := xin_nI hc (n := 40) (by decide)
  have q2 := nI_clamp (lt31 hc (by decide))
  have h1 := qNm_le (t := t) (m := 1) hz
  have hT1 : mTpe (msA (msA S 39 c (qNm l t 1 z).1) 41 c (-1)) l t := mTpe_A (by decide) (mTpe_A (by decide) hT)
  have w1 := c228 (g := g) (n := n) (kc := kc) (ks := ks) (mu := mu) (x := 45) hT1 h1
  have w2 := d232_9 (g := g) (n := n) (kc := kc) (ks := ks) (mu := mu) hT1 (qTk_le (t := t) (x := 45) h1)
  have a9 : (msA (msA S 39 c (qNm l t 1 z).1) 41 c (-1)).2.2.1 39 c = (qNm l t 1 z).1 := by simp [msA]
  unfold mBx
  by_cases e : (qNm l t 1 z).1 = 8
  · rw [if_pos e]
    rw [e] at a9
    simp only [x234_0, x234_1, x234_4, x234_5, x234_6, x234_7, x234_10, x234_11, x234_12, x234_15, x234_16, x234_17, x234_18, x234_19, x234_22, x234_23, x234_24, x234_26, x234_29, x234_30, x234_31, x234_33, x234_36, x234_37, x234_38, x234_40, x234_43, x234_44, x234_45, x234_48, x234_49, x234_50, x234_53, x234_54, x234_55, x234_56, x234_59, x234_60, x234_61, x234_62, mf_39, ms_39, ml_39, mf_41, ms_41, d232_1 hT hz, q1, q2, mQ_msA, mQ_A, e, a9, Option.bind_some, Option.toList_some, Option.toList_none, List.cons_append, List.nil_append, Option.isSome_some, if_true, eq_self, or_true, true_or, xb_01, mcl_cl, not_true_eq_false, not_false_eq_true, if_false]
  · rw [if_neg e]
    cases e2 : qIs l t (qNm l t 1 z).2 45 with
    | false =>
      simp only [x234_0, x234_1, x234_4, x234_5, x234_6, x234_7, x234_10, x234_11, x234_12, x234_15, x234_16, x234_17, x234_18, x234_19, x234_22, x234_23, x234_24, x234_26, x234_29, x234_30, x234_31, x234_33, x234_36, x234_37, x234_38, x234_40, x234_43, x234_44, x234_45, x234_48, x234_49, x234_50, x234_53, x234_54, x234_55, x234_56, x234_59, x234_60, x234_61, x234_62, mf_39, ms_39, ml_39, mf_41, ms_41, mf_42, ms_42, d232_1 hT hz, q1, q2, mQ_msA, mQ_msB, mQ_A, a9, e, w1, w2, e2, xb_f, Bool.false_eq_true, Option.bind_some, Option.toList_some, Option.toList_none, List.cons_append, List.nil_append, Option.isSome_some, if_true, eq_self, or_true, true_or, xb_01, mcl_cl, not_true_eq_false, not_false_eq_true, if_false]
    | true =>
      simp only [x234_0, x234_1, x234_4, x234_5, x234_6, x234_7, x234_10, x234_11, x234_12, x234_15, x234_16, x234_17, x234_18, x234_19, x234_22, x234_23, x234_24, x234_26, x234_29, x234_30, x234_31, x234_33, x234_36, x234_37, x234_38, x234_40, x234_43, x234_44, x234_45, x234_48, x234_49, x234_50, x234_53, x234_54, x234_55, x234_56, x234_59, x234_60, x234_61, x234_62, mf_39, ms_39, ml_39, mf_41, ms_41, mf_42, ms_42, d232_1 hT hz, q1, q2, mQ_msA, mQ_msB, mQ_A, a9, e, w1, w2, e2, xb_t, i32_10, Option.bind_some, Option.toList_some, Option.toList_none, List.cons_append, List.nil_append, Option.isSome_some, if_true, eq_self, or_true, true_or, xb_01, mcl_cl, not_true_eq_false, not_false_eq_true, if_false]
theorem mBx_le {c : Nat} (hz : z.1 ≤ l) : (mBx S l t z c).2.1 ≤ l := by
  unfold mBx
  split
  · exact qNm_le hz
  · exact qNm_le (qTk_le (qNm_le hz))
/-- one line -/
def qL1 (l : Nat) (t : Nat → Int32) (z : Nat × Bool) : Nat × Bool := qWt l t (qNm l t 1 z).2 46
def qL2 (l : Nat) (t : Nat → Int32) (z : Nat × Bool) : Nat × Bool := (qNm l t 2 (qL1 l t z)).2
def mLh (S : MS) (l : Nat) (t : Nat → Int32) (z : Nat × Bool) (k : Nat) : MS := msA (msA S 37 k (qNm l t 1 z).1) 38 k (qNm l t 2 (qL1 l t z)).1
def mLine (S : MS) (l : Nat) (t : Nat → Int32) (z : Nat × Bool) (k : Nat) : MS × (Nat × Bool) := if qIs l t (qL2 l t z) 61 = true then (mVw (mLh S l t z k) l t (qTk l t (qL2 l t z) 61) k, (qNm l t 1 (qV3 l t (qTk l t (qL2 l t z) 61))).2) else if qIs l t (qL2 l t z) 60 = true then mBx (mLh S l t z k) l t (qTk l t (qL2 l t z) 60) k else (mLh S l t z k, ((qL2 l t z).1, false))
theorem qL2_le (hz : z.1 ≤ l) : (qL1 l t z).1 ≤ l ∧ (qL2 l t z).1 ≤ l := by
  have h1 : (qL1 l t z).1 ≤ l := qWt_le (qNm_le hz)
  exact ⟨h1, qNm_le h1⟩
theorem c235 {c : Nat} (hT : mTpe S l t) (hz : z.1 ≤ l) (hc : c < 40) : X g 235 0 [.val (va_rf (some mu)), .val (.int (nI c))] [] (mH n kc ks mu (mQ S z)) = some (none, mH n kc ks mu (mQ (mLine S l t z c).1 (mLine S l t z c).2)) := by
  have q1 := xin_nI hc (n := 40) (by decide)
  have q2 := nI_clamp (lt31 hc (by decide))
  obtain ⟨v1, v2⟩ := qL2_le (t := t) hz
  have hT1 : mTpe (msA S 37 c (qNm l t 1 z).1) l t := mTpe_A (by decide) hT
  have hT2 : mTpe (mLh S l t z c) l t := mTpe_A (by decide) hT1
  have w1 := c230 (g := g) (n := n) (kc := kc) (ks := ks) (mu := mu) (x := 46) hT1 (qNm_le (t := t) (m := 1) hz)
  have w1' : X g 230 0 [.val (va_rf (some mu)), .val (.int 46)] [] (mH n kc ks mu (mQ (msA S 37 c (qNm l t 1 z).1) (qNm l t 1 z).2)) = some (none, mH n kc ks mu (mQ (msA S 37 c (qNm l t 1 z).1) (qL1 l t z))) := w1
  have w2 := c228 (g := g) (n := n) (kc := kc) (ks := ks) (mu := mu) (x := 61) hT2 v2
  have w2' : X g 228 0 [.val (va_rf (some mu)), .val (.int 61), .unset] [] (mH n kc ks mu (mQ (msA (msA S 37 c (qNm l t 1 z).1) 38 c (qNm l t 2 (qL1 l t z)).1) (qNm l t 2 (qL1 l t z)).2)) = some (some (.int (xb (qIs l t (qL2 l t z) 61))), mH n kc ks mu (mQ (mLh S l t z c) (qTk l t (qL2 l t z) 61))) := w2
  have w3 := c228 (g := g) (n := n) (kc := kc) (ks := ks) (mu := mu) (x := 60) hT2 v2
  unfold mLine
  cases e : qIs l t (qL2 l t z) 61 with
  | true =>
    rw [if_pos rfl]
    have w4 := c233 (g := g) (n := n) (kc := kc) (ks := ks) (mu := mu) hT2 (qTk_le (t := t) (x := 61) v2) hc
    simp only [x235_0, x235_1, x235_4, x235_5, x235_6, x235_7, x235_10, x235_11, x235_12, x235_14, x235_17, x235_18, x235_21, x235_22, x235_23, x235_24, x235_27, x235_28, x235_29, x235_31, x235_34, x235_37, x235_38, x235_39, x235_42, x235_45, x235_46, x235_48, x235_51, x235_54, x235_55, x235_56, x235_59, x235_62, x235_63, x235_66, mf_37, ms_37, mf_38, ms_38, d232_1 hT hz, d232_2 hT1 v1, q1, q2, mQ_msA, w1', w2', e, xb_t, i32_10, w4, Option.bind_some, Option.toList_some, Option.toList_none, List.cons_append, List.nil_append, Option.isSome_some, if_true, eq_self, or_true, true_or, xb_01, mcl_cl, not_true_eq_false, not_false_eq_true, if_false]
  | false =>
    rw [if_neg (by simp)]
    have e5 : qTk l t (qL2 l t z) 61 = qL2 l t z := by unfold qTk; rw [e, if_neg (by simp)]
    rw [e5] at w2'
    cases e2 : qIs l t (qL2 l t z) 60 with
    | true =>
      rw [if_pos rfl]
      have w4 := c234 (g := g) (n := n) (kc := kc) (ks := ks) (mu := mu) hT2 (qTk_le (t := t) (x := 60) v2) hc
      simp only [x235_0, x235_1, x235_4, x235_5, x235_6, x235_7, x235_10, x235_11, x235_12, x235_14, x235_17, x235_18, x235_21, x235_22, x235_23, x235_24, x235_27, x235_28, x235_29, x235_31, x235_34, x235_37, x235_38, x235_39, x235_42, x235_45, x235_46, x235_48, x235_51, x235_54, x235_55, x235_56, x235_59, x235_62, x235_63, x235_66, mf_37, ms_37, mf_38, ms_38, d232_1 hT hz, d232_2 hT1 v1, q1, q2, mQ_msA, w1', w2', w3, e, e2, xb_t, xb_f, i32_10, w4, Option.bind_some, Option.toList_some, Option.toList_none, List.cons_append, List.nil_append, Option.isSome_some, if_true, eq_self, or_true, true_or, xb_01, mcl_cl, not_true_eq_false, not_false_eq_true, if_false]
    | false =>
      rw [if_neg (by simp)]
      have e6 : qTk l t (qL2 l t z) 60 = qL2 l t z := by unfold qTk; rw [e2, if_neg (by simp)]
      rw [e6] at w3
      have h120 : (qL2 l t z).1 ≤ 120 := Nat.le_trans v2 hT.2.1
      simp only [x235_0, x235_1, x235_4, x235_5, x235_6, x235_7, x235_10, x235_11, x235_12, x235_14, x235_17, x235_18, x235_21, x235_22, x235_23, x235_24, x235_27, x235_28, x235_29, x235_31, x235_34, x235_37, x235_38, x235_39, x235_42, x235_45, x235_46, x235_48, x235_51, x235_54, x235_55, x235_56, x235_59, x235_62, x235_63, x235_66, mf_37, ms_37, mf_38, ms_38, d232_1 hT hz, d232_2 hT1 v1, q1, q2, mQ_msA, w1', w2', w3, e, e2, xb_f, c229 h120, Option.bind_some, Option.toList_some, Option.toList_none, List.cons_append, List.nil_append, Option.isSome_some, if_true, eq_self, or_true, true_or, xb_01, mcl_cl, not_true_eq_false, not_false_eq_true, if_false]
theorem mLine_le {c : Nat} (hz : z.1 ≤ l) : (mLine S l t z c).2.1 ≤ l := by
  obtain ⟨v1, v2⟩ := qL2_le (t := t) hz
  unfold mLine
  split
  · exact qNm_le (qV3_le (qTk_le v2)).2.2
  · split
    · exact mBx_le (qTk_le v2)
    · exact v2
theorem mLine_T {c : Nat} (hT : mTpe S l t) : mTpe (mLine S l t z c).1 l t := by
  have h1 : mTpe (mLh S l t z c) l t := mTpe_A (by decide) (mTpe_A (by decide) hT)
  unfold mLine
  split
  · exact mTpe_A (by decide) (mTpe_A (by decide) (mTpe_A (by decide) h1))
  · split
    · unfold mBx
      split
      · exact mTpe_A (by decide) (mTpe_A (by decide) h1)
      · exact mTpe_B (mTpe_A (by decide) (mTpe_A (by decide) h1))
    · exact h1
/-- what a fault left -/
theorem qIs_f {a : Nat} : qIs l t (a, false) x = false := rfl
theorem qFg_f {a : Nat} : qFg l t (a, false) = false := rfl
theorem qNm_f {a m : Nat} : qNm l t m (a, false) = (0, (a, false)) := by
  unfold qNm
  rw [qFg_f, if_neg (by simp)]
  cases m with
  | zero => rfl
  | succ m => rw [qNl, qFg_f, if_neg (by simp)]
theorem qWt_f {a : Nat} : qWt l t (a, false) x = (a, false) := by
  unfold qWt
  rw [qIs_f, if_neg (by simp)]
theorem qTk_f {a : Nat} : qTk l t (a, false) x = (a, false) := by
  unfold qTk
  rw [qIs_f, if_neg (by simp)]
/-- a number consumes a letter, or is a fault -/
theorem qNl_ge : ∀ m (z : Nat × Bool) v, z.1 ≤ (qNl l t m z v).2.1 ∧ (qNl l t m z v).2.2 = z.2 := by
  intro m
  induction m with
  | zero => intro z v; exact ⟨Nat.le_refl _, rfl⟩
  | succ m ih =>
    intro z v
    rw [qNl]
    split
    · obtain ⟨h1, h2⟩ := ih (z.1 + 1, z.2) (10 * v + t z.1 - 48)
      exact ⟨by have : z.1 + 1 ≤ _ := h1; omega, h2⟩
    · exact ⟨Nat.le_refl _, rfl⟩
theorem qNm_go {m : Nat} (h : (qNm l t (m + 1) z).2.2 = true) : z.2 = true ∧ z.1 + 1 ≤ (qNm l t (m + 1) z).2.1 := by
  unfold qNm at h ⊢
  cases e : qFg l t z with
  | false =>
    rw [e, if_neg (by simp)] at h
    have := (qNl_ge (l := l) (t := t) (m + 1) (z.1, false) 0).2
    rw [this] at h
    exact absurd h (by simp)
  | true =>
    rw [if_pos rfl, qNl, e, if_pos rfl]
    exact ⟨(qFg_t e).1, (qNl_ge m (z.1 + 1, z.2) _).1⟩
theorem qNm_g1 (h : (qNm l t 1 z).2.2 = true) : z.2 = true ∧ z.1 + 1 ≤ (qNm l t 1 z).2.1 := qNm_go (m := 0) h
theorem qNm_g2 (h : (qNm l t 2 z).2.2 = true) : z.2 = true ∧ z.1 + 1 ≤ (qNm l t 2 z).2.1 := qNm_go (m := 1) h
theorem qNm_g9 (h : (qNm l t 9 z).2.2 = true) : z.2 = true ∧ z.1 + 1 ≤ (qNm l t 9 z).2.1 := qNm_go (m := 8) h
theorem qWt_go (h : (qWt l t z x).2 = true) : z.2 = true ∧ (qWt l t z x).1 = z.1 + 1 := by
  unfold qWt at h ⊢
  cases e : qIs l t z x with
  | false =>
    rw [e, if_neg (by simp)] at h
    exact absurd h (by simp)
  | true =>
    rw [if_pos rfl]
    exact ⟨(qIs_t e).1, rfl⟩
theorem qTk_go (h : (qTk l t z x).2 = true) : z.2 = true ∧ z.1 ≤ (qTk l t z x).1 := by
  unfold qTk at h ⊢
  split at h
  · rename_i e
    rw [if_pos e]
    exact ⟨h, Nat.le_succ _⟩
  · rename_i e
    rw [if_neg e]
    exact ⟨h, Nat.le_refl _⟩
theorem mLine_go {c : Nat} (h : (mLine S l t z c).2.2 = true) : z.2 = true ∧ z.1 + 5 ≤ (mLine S l t z c).2.1 := by
  have base : (qL2 l t z).2 = true → z.2 = true ∧ z.1 + 3 ≤ (qL2 l t z).1 := by
    intro h1
    obtain ⟨a1, a2⟩ := qNm_g2 h1
    obtain ⟨b1, b2⟩ := qWt_go a1
    obtain ⟨c1, c2⟩ := qNm_g1 b1
    refine ⟨c1, ?_⟩
    have a2' : (qL1 l t z).1 + 1 ≤ (qL2 l t z).1 := a2
    have b2' : (qL1 l t z).1 = (qNm l t 1 z).2.1 + 1 := b2
    omega
  unfold mLine at h ⊢
  cases e : qIs l t (qL2 l t z) 61 with
  | true =>
    rw [e, if_pos rfl] at h
    rw [if_pos rfl]
    obtain ⟨i1, i2⟩ := qIs_t e
    obtain ⟨b1, b2⟩ := base i1
    have e3 : qTk l t (qL2 l t z) 61 = ((qL2 l t z).1 + 1, (qL2 l t z).2) := by unfold qTk; rw [e, if_pos rfl]
    obtain ⟨d1, d2⟩ := qNm_g1 h
    rw [e3] at d1 d2 ⊢
    have d3 : (qV3 l t ((qL2 l t z).1 + 1, (qL2 l t z).2)).1 = (qV2 l t ((qL2 l t z).1 + 1, (qL2 l t z).2)).1 := by
      unfold qV3
      split <;> rfl
    have d4 : (qV2 l t ((qL2 l t z).1 + 1, (qL2 l t z).2)).2 = true := by
      unfold qV3 at d1
      split at d1
      · exact absurd d1 (by simp)
      · exact d1
    obtain ⟨f1, f2⟩ := qWt_go d4
    obtain ⟨g1, g2⟩ := qNm_g2 f1
    obtain ⟨h1, h2⟩ := qWt_go g1
    obtain ⟨k1, k2⟩ := qNm_g1 h1
    refine ⟨b1, ?_⟩
    have f2' : (qV2 l t ((qL2 l t z).1 + 1, (qL2 l t z).2)).1 = (qNm l t 2 (qV1 l t ((qL2 l t z).1 + 1, (qL2 l t z).2))).2.1 + 1 := f2
    have h2' : (qV1 l t ((qL2 l t z).1 + 1, (qL2 l t z).2)).1 = (qNm l t 1 ((qL2 l t z).1 + 1, (qL2 l t z).2)).2.1 + 1 := h2
    have k2' : (qL2 l t z).1 + 1 + 1 ≤ (qNm l t 1 ((qL2 l t z).1 + 1, (qL2 l t z).2)).2.1 := k2
    show z.1 + 5 ≤ (qNm l t 1 (qV3 l t ((qL2 l t z).1 + 1, (qL2 l t z).2))).2.1
    omega
  | false =>
    rw [e, if_neg (by simp)] at h
    rw [if_neg (by simp)]
    cases e2 : qIs l t (qL2 l t z) 60 with
    | true =>
      rw [e2, if_pos rfl] at h
      rw [if_pos rfl]
      obtain ⟨i1, i2⟩ := qIs_t e2
      obtain ⟨b1, b2⟩ := base i1
      have e3 : qTk l t (qL2 l t z) 60 = ((qL2 l t z).1 + 1, (qL2 l t z).2) := by unfold qTk; rw [e2, if_pos rfl]
      rw [e3] at h ⊢
      refine ⟨b1, ?_⟩
      unfold mBx at h ⊢
      split at h
      · rename_i e8
        rw [if_pos e8]
        have := (qNm_g1 h).2
        have this' : (qL2 l t z).1 + 1 + 1 ≤ (qNm l t 1 ((qL2 l t z).1 + 1, (qL2 l t z).2)).2.1 := this
        show z.1 + 5 ≤ (qNm l t 1 ((qL2 l t z).1 + 1, (qL2 l t z).2)).2.1
        omega
      · rename_i e8
        rw [if_neg e8]
        obtain ⟨m1, m2⟩ := qNm_g9 h
        obtain ⟨m3, m4⟩ := qTk_go m1
        have := (qNm_g1 m3).2
        have this' : (qL2 l t z).1 + 1 + 1 ≤ (qNm l t 1 ((qL2 l t z).1 + 1, (qL2 l t z).2)).2.1 := this
        show z.1 + 5 ≤ (qNm l t 9 (qTk l t (qNm l t 1 ((qL2 l t z).1 + 1, (qL2 l t z).2)).2 45)).2.1
        omega
    | false =>
      rw [e2, if_neg (by simp)] at h
      exact absurd h (by simp)
/-- all lines: the state, where reading stands, how many -/
def mAll (l : Nat) (t : Nat → Int32) : Nat → MS → Nat × Bool → Nat → MS × (Nat × Bool) × Nat
  | 0, S, z, k => (S, z, k)
  | f + 1, S, z, k => if qIs l t (mLine S l t z k).2 59 = true then mAll l t f (mLine S l t z k).1 (qTk l t (mLine S l t z k).2 59) (k + 1) else ((mLine S l t z k).1, if (mLine S l t z k).2.1 < l then ((mLine S l t z k).2.1, false) else (mLine S l t z k).2, k + 1)
theorem l236 : ∀ f (S : MS) (z : Nat × Bool) c, mTpe S l t → z.1 ≤ l → 6 * c ≤ z.1 → l + 1 ≤ z.1 + f → X g 236 12 [.val (va_rf (some mu)), .val (.int (nI c))] [] (mH n kc ks mu (mQ S z)) = some (some (.int (nI (mAll l t f S z c).2.2)), mH n kc ks mu (mQ (mAll l t f S z c).1 (mAll l t f S z c).2.1)) := by
  intro f
  induction f with
  | zero => intro S z c _ hz _ hf; omega
  | succ f ih =>
    intro S z c hT hz hc hf
    have hl := hT.2.1
    have c40 : c < 40 := by omega
    have hT2 := mLine_T (z := z) (c := c) hT
    have hz2 := mLine_le (S := S) (t := t) (c := c) hz
    have w1 := c235 (g := g) (n := n) (kc := kc) (ks := ks) (mu := mu) hT hz c40
    have w2 := c228 (g := g) (n := n) (kc := kc) (ks := ks) (mu := mu) (x := 59) hT2 hz2
    rw [mAll]
    cases e : qIs l t (mLine S l t z c).2 59 with
    | true =>
      rw [if_pos rfl]
      obtain ⟨i1, i2⟩ := qIs_t e
      obtain ⟨g1, g2⟩ := mLine_go i1
      have e3 : qTk l t (mLine S l t z c).2 59 = ((mLine S l t z c).2.1 + 1, (mLine S l t z c).2.2) := by unfold qTk; rw [e, if_pos rfl]
      rw [e3] at w2 ⊢
      have h9 := ih (mLine S l t z c).1 ((mLine S l t z c).2.1 + 1, (mLine S l t z c).2.2) (c + 1) hT2 i2 (by show 6 * (c + 1) ≤ (mLine S l t z c).2.1 + 1; omega) (by show l + 1 ≤ (mLine S l t z c).2.1 + 1 + f; omega)
      simp only [x236_12, x236_13, x236_14, x236_17, x236_20, x236_21, x236_23, w1, w2, e, xb_t, nI_1, Option.bind_some, Option.toList_some, Option.toList_none, List.cons_append, List.nil_append, Option.isSome_some, if_true, eq_self, or_true, true_or, xb_01, mcl_cl, not_true_eq_false, not_false_eq_true, if_false]
      simp only [x236_26, i32_10, Option.bind_some, Option.toList_some, Option.toList_none, List.cons_append, List.nil_append, Option.isSome_some, if_true, eq_self, or_true, true_or, xb_01, mcl_cl, not_true_eq_false, not_false_eq_true, if_false]
      exact h9
    | false =>
      rw [if_neg (by simp)]
      have e3 : qTk l t (mLine S l t z c).2 59 = (mLine S l t z c).2 := by unfold qTk; rw [e, if_neg (by simp)]
      rw [e3] at w2
      by_cases e4 : (mLine S l t z c).2.1 < l
      · rw [if_pos e4]
        have h2 : ¬ nI l ≤ nI (mLine S l t z c).2.1 := nI_ge e4 (by omega)
        have h120 : (mLine S l t z c).2.1 ≤ 120 := by omega
        simp only [x236_12, x236_13, x236_14, x236_17, x236_20, x236_21, x236_23, w1, w2, e, xb_f, nI_1, Option.bind_some, Option.toList_some, Option.toList_none, List.cons_append, List.nil_append, Option.isSome_some, if_true, eq_self, or_true, true_or, xb_01, mcl_cl, not_true_eq_false, not_false_eq_true, if_false]
        simp only [x236_26, x236_29, x236_30, x236_33, x236_34, x236_37, x236_40, x236_41, x236_44, x236_45, mf_35, mf_34, mQ_35, mQ_34, hT2.1, h2, c229 h120, Option.bind_some, Option.toList_some, Option.toList_none, List.cons_append, List.nil_append, Option.isSome_some, if_true, eq_self, or_true, true_or, xb_01, mcl_cl, not_true_eq_false, not_false_eq_true, if_false]
      · rw [if_neg e4]
        have h2 : nI l ≤ nI (mLine S l t z c).2.1 := nI_le (by omega) (by omega)
        simp only [x236_12, x236_13, x236_14, x236_17, x236_20, x236_21, x236_23, w1, w2, e, xb_f, nI_1, Option.bind_some, Option.toList_some, Option.toList_none, List.cons_append, List.nil_append, Option.isSome_some, if_true, eq_self, or_true, true_or, xb_01, mcl_cl, not_true_eq_false, not_false_eq_true, if_false]
        simp only [x236_26, x236_29, x236_30, x236_33, x236_34, x236_37, x236_40, x236_41, x236_44, x236_45, mf_35, mf_34, mQ_35, mQ_34, hT2.1, h2, Option.bind_some, Option.toList_some, Option.toList_none, List.cons_append, List.nil_append, Option.isSome_some, if_true, eq_self, or_true, true_or, xb_01, mcl_cl, not_true_eq_false, not_false_eq_true, if_false]
theorem e236 (hT : mTpe S l t) : X g 236 0 [.val (va_rf (some mu)), .unset] [] (mH n kc ks mu S) = some (some (.int (nI (mAll l t (l + 1) S (0, true) 0).2.2)), mH n kc ks mu (mQ (mAll l t (l + 1) S (0, true) 0).1 (mAll l t (l + 1) S (0, true) 0).2.1)) := by
  have h1 := l236 (g := g) (n := n) (kc := kc) (ks := ks) (mu := mu) (l + 1) S (0, true) 0 hT (by omega) (by omega) (by show l + 1 ≤ 0 + (l + 1); omega)
  have h1' : X g 236 12 [.val (va_rf (some mu)), .val (.int 0)] [] (mH n kc ks mu (msI (msI S 35 0) 36 (-1))) = _ := h1
  simp only [x236_0, x236_1, x236_2, x236_5, x236_6, x236_7, x236_10, x236_11, mf_35, mp_35, mf_36, mp_36, h1', Option.bind_some, Option.toList_some, Option.toList_none, List.cons_append, List.nil_append, Option.isSome_some, if_true, eq_self, or_true, true_or, xb_01, mcl_cl, not_true_eq_false, not_false_eq_true, if_false]
end M21
