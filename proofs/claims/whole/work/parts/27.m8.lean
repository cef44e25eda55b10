/-! THE REFERENCE's methods, 7: sums, orders, finding; what is read is a number that may be -/
theorem ofN32 (f : UInt32) : f.toInt32.toInt64.toInt32.toUInt32 = f := by
  rw [Int32.toInt32_toInt64]
  rfl
theorem ofN64 (f : UInt64) : f.toInt64.toUInt64 = f := rfl
theorem okv_l2f (v : Int64) : okv 6 (FP.l2f v).toInt32.toInt64 := by
  refine ⟨fun _ => ?_, fun e => absurd e (by decide)⟩
  rw [ofN32]
  refine ⟨by rw [Int32.toInt32_toInt64], ?_⟩
  by_cases e : v.toInt = 0
  · left
    have : v = 0 := Int64.toInt_inj.mp e
    subst this
    decide +kernel
  · right
    have : 127 * 2 ^ 23 ≤ (FP.l2f v).toNat % 2 ^ 31 ∧ (FP.l2f v).toNat % 2 ^ 31 < 255 * 2 ^ 23 := FP.Core.l2f_big e
    omega
theorem okv_7 {d : UInt64} (h : FP.Core.DFin d) : okv 7 d.toInt64 := by
  refine ⟨fun e => absurd e (by decide), fun _ => ?_⟩
  rw [FP.Core.fin_bits] at h
  rw [ofN64]
  omega
theorem okv_o {k : Int32} {v : Int64} (h6 : ¬ k = 6) (h7 : ¬ k = 7) : okv k v := ⟨fun e => absurd e h6, fun e => absurd e h7⟩
theorem okv_view {k : Int32} {v : Int64} {a : Int32} (h : okv k v) : okv a (pView k v a) := by
  unfold pView
  by_cases e1 : k = a
  · rw [if_pos e1]
    exact e1 ▸ h
  · rw [if_neg e1]
    by_cases e2 : a < 6
    · rw [if_pos e2]
      refine okv_o ?_ ?_
      · intro z
        rw [z] at e2
        exact absurd e2 (by decide)
      · intro z
        rw [z] at e2
        exact absurd e2 (by decide)
    · rw [if_neg e2]
      by_cases e6 : a = 6
      · rw [if_pos e6]
        exact e6 ▸ okv_l2f v
      · rw [if_neg e6]
        by_cases e7 : a = 7
        · subst e7
          exact okv_7 (okv_fin h)
        · exact okv_o e6 e7
theorem okv_by (k : Int32) (v : Int64) : okv k (pBy k v) := by
  by_cases e6 : k = 6
  · subst e6
    exact okv_l2f v
  · by_cases e7 : k = 7
    · subst e7
      exact okv_7 (FP.Core.l2d_fin v)
    · exact okv_o e6 e7
theorem mFst_none {f : Nat → Bool} : ∀ d s, s + d < 2 ^ 31 → mFst f s d = -5 → ∀ q, s ≤ q → q < s + d → f q = false := by
  intro d
  induction d with
  | zero => intro s _ _ q h1 h2; omega
  | succ d ih =>
    intro s hs he q h1 h2
    unfold mFst at he
    by_cases e : f s = true
    · rw [if_pos e] at he
      have := congrArg Int32.toInt he
      rw [nI_toInt (by omega)] at this
      have e5 : (-5 : Int32).toInt = -5 := rfl
      rw [e5] at this
      omega
    · rw [if_neg e] at he
      by_cases hq : q = s
      · subst hq
        simpa using e
      · exact ih (s + 1) (by omega) he q (by omega) (by omega)
theorem mFst_some {f : Nat → Bool} : ∀ d s, mFst f s d ≠ -5 → ∃ q, s ≤ q ∧ q < s + d ∧ mFst f s d = nI q ∧ f q = true := by
  intro d
  induction d with
  | zero => intro s h; exact absurd rfl h
  | succ d ih =>
    intro s h
    unfold mFst at h ⊢
    by_cases e : f s = true
    · rw [if_pos e]
      exact ⟨s, by omega, by omega, rfl, e⟩
    · rw [if_neg e] at h ⊢
      obtain ⟨q, h1, h2, h3, h4⟩ := ih (s + 1) h
      exact ⟨q, by omega, by omega, h3, h4⟩
section M8
variable {g : xG} {n kc ks mu s w q p : Nat} {S : MS} {h : xH} {i j k v : Int32} {u : Int64} {a : Int32} {b : Int64}
theorem sRead_0 (h : sRead S s i v = 0) : mRow S s = true ∧ mIn S (mr S s) i = true ∧ (v ≠ 8 → S.2.2.1 2 (mr S s) < 8 ∧ pMay (S.2.2.1 2 (mr S s)) v = true) := by
  unfold sRead at h
  by_cases e1 : S.2.2.1 7 s = -11
  · rw [if_pos e1] at h
    exact absurd h (by decide)
  · rw [if_neg e1] at h
    by_cases e2 : mRow S s = false
    · rw [if_pos e2] at h
      exact absurd h (by decide)
    · rw [if_neg e2] at h
      by_cases e3 : v ≠ 8 ∧ 8 ≤ S.2.2.1 2 (mr S s)
      · rw [if_pos e3] at h
        exact absurd h (by decide)
      · rw [if_neg e3] at h
        by_cases e4 : mIn S (mr S s) i = false
        · rw [if_pos e4] at h
          exact absurd h (by decide)
        · rw [if_neg e4] at h
          refine ⟨by simpa using e2, by simpa using e4, fun hv => ?_⟩
          rw [if_neg hv] at h
          refine ⟨Int32.not_le.mp fun z => e3 ⟨hv, z⟩, ?_⟩
          by_cases e5 : pMay (S.2.2.1 2 (mr S s)) v = false
          · rw [if_pos e5] at h
            exact absurd h (by decide)
          · simpa using e5
theorem okv_read (hz : mZ S) (hv : mV S) (hk : mKd S) (h : sRead S s i v = 0) : okv (sBk S s i v) (sBv S s i v) := by
  obtain ⟨h1, h2, h3⟩ := sRead_0 h
  obtain ⟨e3, hr⟩ := mRow_eq h1
  obtain ⟨z1, z2, _⟩ := mIn_eq hz hr h2
  unfold sBk sBv sAt
  by_cases e : v = 8
  · rw [if_pos e, if_pos e]
    exact hv _ (by omega)
  · rw [if_neg e, if_neg e]
    obtain ⟨y1, y2⟩ := h3 e
    exact okv_view (row_okv hv hk hr z2 y1)
theorem okv_look (hz : mZ S) (hv : mV S) (hk : mKd S) (h : sLook S w j v = 0) : okv (sLk S w j v) (sLv S w j v) := by
  unfold sLook at h
  by_cases e : sHas S w j = true
  · rw [if_pos e] at h
    exact okv_read hz hv hk h
  · rw [if_neg e] at h
    exact absurd h (by decide)
theorem sFa_0 (h : sFa S w j = 0) : sLook S w j (S.2.2.1 12 (5 * w + 4)) = 0 ∧ sLk S w j (S.2.2.1 12 (5 * w + 4)) < 8 := by
  unfold sFa at h
  by_cases e : sLook S w j (S.2.2.1 12 (5 * w + 4)) = 0 ∧ 8 ≤ sLk S w j (S.2.2.1 12 (5 * w + 4))
  · rw [if_pos e] at h
    exact absurd h (by decide)
  · rw [if_neg e] at h
    exact ⟨h, Int32.not_le.mp fun z => e ⟨h, z⟩⟩
theorem sFf_none (hW : mW S) (hw : w < 6) (h : sFf S w = -5) : ∀ q, q < sMany S w → sFa S w (nI q) = 0 := by
  intro q hq
  have := (sMany_eq hW hw).2
  have := mFst_none (sMany S w) 0 (by omega) h q (by omega) (by omega)
  simpa using this
def mSl (i : Int32) : Bool := mWithin i.toInt 0 5
theorem mSl_eq (h : mSl i = true) : i = nI (tn i) ∧ tn i < 6 := by
  have := mWithin_iff.mp h
  exact ⟨nI_tn this.1, by unfold tn; omega⟩
theorem mSlot_eq (h : mSlot i = true) : i = nI (tn i) ∧ tn i < 10 := by
  have := mWithin_iff.mp h
  exact ⟨nI_tn this.1, by unfold tn; omega⟩
theorem c184' : X g 184 0 [.val (.int i)] [] h = some (some (.int (xb (mSl i))), h) := c184
/-- the amount of a cell of a window -/
def sAm (S : MS) (w q : Nat) : Int64 := pAmt (sLk S w (nI q) (S.2.2.1 12 (5 * w + 4))) (sLv S w (nI q) (S.2.2.1 12 (5 * w + 4)))
theorem l194 (hw : w < 6) (hW : mW S) (hz : mZ S) (hv : mV S) (hk : mKd S) (hf : ∀ q, q < sMany S w → sFa S w (nI q) = 0) : ∀ d s a b z, s + d = sMany S w → ∃ a' b', X g 194 26 [.val (va_rf (some mu)), .val (.int (nI w)), .val (.long z), .second, .val (.int (nI s))] [] (mH n kc ks mu (mIs S a b)) = some (some (.long (mSum (sAm S w) s d z)), mH n kc ks mu (mIs S a' b')) := by
  obtain ⟨m1, m2⟩ := sMany_eq hW hw
  intro d
  induction d with
  | zero =>
    intro s a b z hs
    have h1 : nI (sMany S w) ≤ nI s := nI_le (by omega) (by omega)
    refine ⟨a, b, ?_⟩
    simp only [x194_0, x194_1, x194_4, x194_7, x194_8, x194_9, x194_12, x194_14, x194_17, x194_20, x194_21, x194_22, x194_23, x194_24, x194_26, x194_28, x194_29, x194_30, x194_31, x194_34, x194_37, x194_38, x194_39, x194_41, x194_42, x194_43, x194_44, x194_47, x194_50, x194_51, x194_52, x194_53, x194_56, x194_57, x194_60, x194_63, x194_64, x194_65, x194_71, x194_72, d185_3 hw, mIs3, m1, h1, mSum, Option.bind_some, Option.toList_some, Option.toList_none, List.cons_append, List.nil_append, Option.isSome_some, if_true, eq_self, or_true, true_or, xb_01, mcl_cl, not_true_eq_false, not_false_eq_true, if_false]
  | succ d ih =>
    intro s a b z hs
    have h1 : ¬ nI (sMany S w) ≤ nI s := nI_ge (by omega) (by omega)
    obtain ⟨y1, y2⟩ := sFa_0 (hf s (by omega))
    obtain ⟨a1, b1, h2, h3⟩ := e189 (g := g) (n := n) (kc := kc) (ks := ks) (mu := mu) (j := nI s) (v := S.2.2.1 12 (5 * w + 4)) hw hW hz hv hk a b
    obtain ⟨h4, h5⟩ := h3 y1
    subst h4
    subst h5
    obtain ⟨a2, b2, h6⟩ := ih (s + 1) _ _ (z + sAm S w s) (by omega)
    refine ⟨a2, b2, ?_⟩
    simp only [x194_0, x194_1, x194_4, x194_7, x194_8, x194_9, x194_12, x194_14, x194_17, x194_20, x194_21, x194_22, x194_23, x194_24, x194_26, x194_28, x194_29, x194_30, x194_31, x194_34, x194_37, x194_38, x194_39, x194_41, x194_42, x194_43, x194_44, x194_47, x194_50, x194_51, x194_52, x194_53, x194_56, x194_57, x194_60, x194_63, x194_64, x194_65, x194_71, x194_72, d185_3 hw, d185_4 hw, mIs3, m1, h1, h2, mf_0, mf_1, mIs1, mIs2, d161 y2 (okv_look hz hv hk y1), if_false, Option.bind_some, Option.toList_some, Option.toList_none, List.cons_append, List.nil_append, Option.isSome_some, if_true, eq_self, or_true, true_or, xb_01, mcl_cl, not_true_eq_false, not_false_eq_true, if_false]
    simp only [x194_68, nI_1]
    exact h6
/-- what sum answers -/
def fSum (S : MS) (i : Int32) : Int64 := if mSl i = false then -9223372036854775808 else if ¬ sFf S (tn i) = -5 then -9223372036854775808 else mSum (sAm S (tn i)) 0 (sMany S (tn i)) 0
theorem e194 (hW : mW S) (hz : mZ S) (hv : mV S) (hk : mKd S) : ∃ a b, X g 194 0 [.val (va_rf (some mu)), .val (.int i), .unset, .unset, .unset] [] (mH n kc ks mu S) = some (some (.long (fSum S i)), mH n kc ks mu (mIs S a b)) := by
  unfold fSum
  by_cases e1 : mSl i = false
  · refine ⟨S.1 0, S.2.1 1, ?_⟩
    rw [mIs_self]
    simp only [x194_0, x194_1, x194_4, x194_7, x194_8, x194_9, x194_12, x194_14, x194_17, x194_20, x194_21, x194_22, x194_23, x194_24, x194_26, x194_28, x194_29, x194_30, x194_31, x194_34, x194_37, x194_38, x194_39, x194_41, x194_42, x194_43, x194_44, x194_47, x194_50, x194_51, x194_52, x194_53, x194_56, x194_57, x194_60, x194_63, x194_64, x194_65, x194_71, x194_72, c184', e1, xb_f, Option.bind_some, Option.toList_some, Option.toList_none, List.cons_append, List.nil_append, Option.isSome_some, if_true, eq_self, or_true, true_or, xb_01, mcl_cl, not_true_eq_false, not_false_eq_true, if_false]
  · have e1 : mSl i = true := by simpa using e1
    obtain ⟨e2, e3⟩ := mSl_eq e1
    obtain ⟨a1, b1, h1⟩ := e193 (g := g) (n := n) (kc := kc) (ks := ks) (mu := mu) e3 hW hz hv hk (S.1 0) (S.2.1 1)
    rw [mIs_self] at h1
    rw [if_neg (by rw [e1]; simp)]
    rw [e2] at e1
    by_cases e4 : sFf S (tn i) = -5
    · rw [if_neg (fun z => z e4)]
      obtain ⟨a2, b2, h2⟩ := l194 (g := g) (n := n) (kc := kc) (ks := ks) (mu := mu) e3 hW hz hv hk (sFf_none hW e3 e4) (sMany S (tn i)) 0 a1 b1 0 (by omega)
      refine ⟨a2, b2, ?_⟩
      rw [← h2]
      generalize tn i = w at *
      subst e2
      simp only [x194_0, x194_1, x194_4, x194_7, x194_8, x194_9, x194_12, x194_14, x194_21, x194_22, x194_23, x194_24, c184', e1, xb_t, i32_10, h1, e4, if_false, not_true_eq_false, Option.bind_some, Option.toList_some, Option.toList_none, List.cons_append, List.nil_append, Option.isSome_some, if_true, eq_self, or_true, true_or, xb_01, mcl_cl, not_true_eq_false, not_false_eq_true, if_false]
      rfl
    · rw [if_pos e4]
      refine ⟨a1, b1, ?_⟩
      generalize tn i = w at *
      subst e2
      simp only [x194_0, x194_1, x194_4, x194_7, x194_8, x194_9, x194_12, x194_14, x194_17, x194_20, x194_21, x194_22, x194_23, x194_24, x194_26, x194_28, x194_29, x194_30, x194_31, x194_34, x194_37, x194_38, x194_39, x194_41, x194_42, x194_43, x194_44, x194_47, x194_50, x194_51, x194_52, x194_53, x194_56, x194_57, x194_60, x194_63, x194_64, x194_65, x194_71, x194_72, c184', e1, xb_t, i32_10, h1, e4, if_false, not_false_eq_true, Option.bind_some, Option.toList_some, Option.toList_none, List.cons_append, List.nil_append, Option.isSome_some, if_true, eq_self, or_true, true_or, xb_01, mcl_cl, not_true_eq_false, not_false_eq_true, if_false]
def fFault (S : MS) (i j : Int32) : Int32 := if mSl i = false then -1 else if mWithin j.toInt 0 1 = false then -1 else if sFf S (tn i) = -5 then -5 else if j = 0 then sFf S (tn i) else sFa S (tn i) (sFf S (tn i))
theorem e195 (hW : mW S) (hz : mZ S) (hv : mV S) (hk : mKd S) : ∃ a b, X g 195 0 [.val (va_rf (some mu)), .val (.int i), .val (.int j), .unset] [] (mH n kc ks mu S) = some (some (.int (fFault S i j)), mH n kc ks mu (mIs S a b)) := by
  unfold fFault
  by_cases e1 : mSl i = false
  · refine ⟨S.1 0, S.2.1 1, ?_⟩
    rw [mIs_self]
    simp only [x195_0, x195_1, x195_4, x195_7, x195_8, x195_9, x195_10, x195_11, x195_14, x195_17, x195_18, x195_19, x195_20, x195_21, x195_24, x195_25, x195_26, x195_28, x195_31, x195_32, x195_35, x195_36, x195_39, x195_40, x195_41, x195_42, x195_45, c184', e1, xb_f, Option.bind_some, Option.toList_some, Option.toList_none, List.cons_append, List.nil_append, Option.isSome_some, if_true, eq_self, or_true, true_or, xb_01, mcl_cl, not_true_eq_false, not_false_eq_true, if_false]
  · have e1 : mSl i = true := by simpa using e1
    rw [if_neg (by rw [e1]; simp)]
    by_cases e5 : mWithin j.toInt 0 1 = false
    · refine ⟨S.1 0, S.2.1 1, ?_⟩
      rw [mIs_self, if_pos e5]
      have e6 : mWithin j.toInt (Int64.toInt 0) (Int64.toInt 1) = false := e5
      simp only [x195_0, x195_1, x195_4, x195_7, x195_8, x195_9, x195_10, x195_11, x195_14, x195_17, x195_18, x195_19, x195_20, x195_21, x195_24, x195_25, x195_26, x195_28, x195_31, x195_32, x195_35, x195_36, x195_39, x195_40, x195_41, x195_42, x195_45, c184', c154, i32_64, e1, e6, xb_t, xb_f, i32_10, if_false, Option.bind_some, Option.toList_some, Option.toList_none, List.cons_append, List.nil_append, Option.isSome_some, if_true, eq_self, or_true, true_or, xb_01, mcl_cl, not_true_eq_false, not_false_eq_true, if_false]
    · have e5 : mWithin j.toInt 0 1 = true := by simpa using e5
      have e6 : mWithin j.toInt (Int64.toInt 0) (Int64.toInt 1) = true := e5
      rw [if_neg (by rw [e5]; simp)]
      obtain ⟨e2, e3⟩ := mSl_eq e1
      obtain ⟨a1, b1, h1⟩ := e193 (g := g) (n := n) (kc := kc) (ks := ks) (mu := mu) e3 hW hz hv hk (S.1 0) (S.2.1 1)
      rw [mIs_self] at h1
      obtain ⟨a2, b2, h2⟩ := e192 (g := g) (n := n) (kc := kc) (ks := ks) (mu := mu) (j := sFf S (tn i)) e3 hW hz hv hk a1 b1
      rw [e2] at e1
      generalize tn i = w at *
      subst e2
      by_cases e4 : sFf S w = -5
      · refine ⟨a1, b1, ?_⟩
        simp only [x195_0, x195_1, x195_4, x195_7, x195_8, x195_9, x195_10, x195_11, x195_14, x195_17, x195_18, x195_19, x195_20, x195_21, x195_24, x195_25, x195_26, x195_28, x195_31, x195_32, x195_35, x195_36, x195_39, x195_40, x195_41, x195_42, x195_45, c184', c154, i32_64, e1, e6, xb_t, i32_10, h1, e4, if_false, Option.bind_some, Option.toList_some, Option.toList_none, List.cons_append, List.nil_append, Option.isSome_some, if_true, eq_self, or_true, true_or, xb_01, mcl_cl, not_true_eq_false, not_false_eq_true, if_false]
      · by_cases e7 : j = 0
        · refine ⟨a1, b1, ?_⟩
          subst e7
          simp only [x195_0, x195_1, x195_4, x195_7, x195_8, x195_9, x195_10, x195_11, x195_14, x195_17, x195_18, x195_19, x195_20, x195_21, x195_24, x195_25, x195_26, x195_28, x195_31, x195_32, x195_35, x195_36, x195_39, x195_40, x195_41, x195_42, x195_45, c184', c154, i32_64, e1, e6, xb_t, i32_10, h1, e4, if_false, not_true_eq_false, Option.bind_some, Option.toList_some, Option.toList_none, List.cons_append, List.nil_append, Option.isSome_some, if_true, eq_self, or_true, true_or, xb_01, mcl_cl, not_true_eq_false, not_false_eq_true, if_false]
        · refine ⟨a2, b2, ?_⟩
          simp only [x195_0, x195_1, x195_4, x195_7, x195_8, x195_9, x195_10, x195_11, x195_14, x195_17, x195_18, x195_19, x195_20, x195_21, x195_24, x195_25, x195_26, x195_28, x195_31, x195_32, x195_35, x195_36, x195_39, x195_40, x195_41, x195_42, x195_45, c184', c154, i32_64, e1, e6, xb_t, i32_10, h1, h2, e4, e7, if_false, not_false_eq_true, Option.bind_some, Option.toList_some, Option.toList_none, List.cons_append, List.nil_append, Option.isSome_some, if_true, eq_self, or_true, true_or, xb_01, mcl_cl, not_true_eq_false, not_false_eq_true, if_false]
end M8
