/-! THE REFERENCE's methods, 10: in thought -/
def mOr (f : Nat → Bool) : Nat → Nat → Int32 → Int32
  | _, 0, z => z
  | s, d + 1, z => mOr f (s + 1) d (if f s = true then z ||| (1 <<< (nI s &&& 31)) else z)
def mDig (f : Nat → Int32) (e : Nat → Int64) : Nat → Nat → Int64 → Int64
  | _, 0, z => z
  | s, d + 1, z => mDig f e (s + 1) d (31 * (31 * z + (f s).toInt64) + e s)
def mUnl (f : Nat → Bool) : Nat → Nat → Nat
  | s, 0 => s
  | s, d + 1 => if f s = true then mUnl f (s + 1) d else s
def mFold (f : Nat → Int64) : Nat → Nat → Int64 → Int64
  | _, 0, z => z
  | s, d + 1, z => mFold f (s + 1) d (31 * z + f s)
section M11
variable {g : xG} {n kc ks mu s w q p r : Nat} {S : MS} {h : xH} {i j k m v x : Int32} {u : Int64} {a : Int32} {b : Int64}
def mz (S : MS) (r : Nat) : Nat := tn (S.2.2.1 3 r)
theorem mz_eq (hz : mZ S) (hr : r < 10) : S.2.2.1 3 r = nI (mz S r) ∧ mz S r ≤ 32 := by
  obtain ⟨h1, h2⟩ := hz r hr
  exact ⟨nI_tn h1, by unfold mz tn; omega⟩
theorem mRow_n11 (h : mRow S s = true) : ¬ S.2.2.1 7 s = -11 := by
  obtain ⟨e3, hr⟩ := mRow_eq h
  rw [e3]
  intro z
  have := congrArg Int32.toInt z
  rw [nI_toInt (by omega)] at this
  have e : (-11 : Int32).toInt = -11 := rfl
  rw [e] at this
  omega
theorem l216 (hs : s < 10) (h2 : mRow S s = true) : ∀ d t z (s4 : Slot), t + d = 8 → X g 216 19 [.val (va_rf (some mu)), .val (.int (nI s)), .val (.int 0), .val (.int z), .val (.int (nI t))] [] (mH n kc ks mu S) = some (some (.int (mOr (fun t => pMay (S.2.2.1 2 (mr S s)) (nI t)) t d z)), mH n kc ks mu S) := by
  obtain ⟨e3, hr⟩ := mRow_eq h2
  intro d
  induction d with
  | zero =>
    intro t z s4 ht
    have ht : t = 8 := by omega
    subst ht
    have h1 : (7 : Int32) < nI 8 := by decide
    simp only [x216_0, x216_1, x216_2, x216_5, x216_6, x216_7, x216_10, x216_11, x216_12, x216_15, x216_16, x216_17, x216_19, x216_21, x216_23, x216_26, x216_27, x216_28, x216_31, x216_32, x216_35, x216_36, x216_37, x216_38, x216_40, x216_43, x216_46, x216_47, x216_49, x216_50, x216_53, x216_54, x216_55, x216_56, x216_62, x216_63, h1, mOr, Option.bind_some, Option.toList_some, Option.toList_none, List.cons_append, List.nil_append, Option.isSome_some, if_true, eq_self, or_true, true_or, xb_01, mcl_cl, not_true_eq_false, not_false_eq_true, if_false]
  | succ d ih =>
    intro t z s4 ht
    have h1 : ¬ (7 : Int32) < nI t := nI_nlt (a := 7) (b := t) (by omega) (by decide)
    cases e : pMay (S.2.2.1 2 (mr S s)) (nI t) with
    | true =>
      simp only [x216_0, x216_1, x216_2, x216_5, x216_6, x216_7, x216_10, x216_11, x216_12, x216_15, x216_16, x216_17, x216_19, x216_21, x216_23, x216_26, x216_27, x216_28, x216_31, x216_32, x216_35, x216_36, x216_37, x216_38, x216_40, x216_43, x216_46, x216_47, x216_49, x216_50, x216_53, x216_54, x216_55, x216_56, x216_62, x216_63, h1, mf_2, ml_2, mf_7, ml_7, xin_nI hs (by decide), nI_clamp (lt31 hs (by decide)), e3, xin_nI hr (by decide), nI_clamp (lt31 hr (by decide)), c158, e, xb_t, i32_10, Option.bind_some, Option.toList_some, Option.toList_none, List.cons_append, List.nil_append, Option.isSome_some, if_true, eq_self, or_true, true_or, xb_01, mcl_cl, not_true_eq_false, not_false_eq_true, if_false]
      simp only [x216_59, nI_1]
      rw [ih (t + 1) _ s4 (by omega)]
      simp only [mOr, e, if_true]
    | false =>
      simp only [x216_0, x216_1, x216_2, x216_5, x216_6, x216_7, x216_10, x216_11, x216_12, x216_15, x216_16, x216_17, x216_19, x216_21, x216_23, x216_26, x216_27, x216_28, x216_31, x216_32, x216_35, x216_36, x216_37, x216_38, x216_40, x216_43, x216_46, x216_47, x216_49, x216_50, x216_53, x216_54, x216_55, x216_56, x216_62, x216_63, h1, mf_2, ml_2, mf_7, ml_7, xin_nI hs (by decide), nI_clamp (lt31 hs (by decide)), e3, xin_nI hr (by decide), nI_clamp (lt31 hr (by decide)), c158, e, xb_f, i32_10, Int32.or_zero, Option.bind_some, Option.toList_some, Option.toList_none, List.cons_append, List.nil_append, Option.isSome_some, if_true, eq_self, or_true, true_or, xb_01, mcl_cl, not_true_eq_false, not_false_eq_true, if_false]
      simp only [x216_59, nI_1]
      rw [ih (t + 1) _ s4 (by omega)]
      simp only [mOr, e, b_ft, if_false]
def fViews (S : MS) (i : Int32) : Int32 := if ¬ sNo S i = 0 then sNo S i else mOr (fun t => pMay (S.2.2.1 2 (mr S (tn i))) (nI t)) 0 8 256
theorem e216 : X g 216 0 [.val (va_rf (some mu)), .val (.int i), .unset, .unset, .unset] [] (mH n kc ks mu S) = some (some (.int (fViews S i)), mH n kc ks mu S) := by
  unfold fViews
  by_cases e : sNo S i = 0
  · obtain ⟨e2, e3, e4⟩ := sNo_0 e
    rw [if_neg (fun z => z e)]
    have h1 := l216 (g := g) (n := n) (kc := kc) (ks := ks) (mu := mu) e3 e4 8 0 256 .unset rfl
    rw [← e2] at h1
    have h1' : X g 216 19 [.val (va_rf (some mu)), .val (.int i), .val (.int 0), .val (.int 256), .val (.int 0)] [] (mH n kc ks mu S) = some (some (.int (mOr (fun t => pMay (S.2.2.1 2 (mr S (tn i))) (nI t)) 0 8 256)), mH n kc ks mu S) := h1
    simp only [x216_0, x216_1, x216_2, x216_5, x216_6, x216_7, x216_10, x216_11, x216_12, x216_15, x216_16, x216_17, e215, e, h1', Option.bind_some, Option.toList_some, Option.toList_none, List.cons_append, List.nil_append, Option.isSome_some, if_true, eq_self, or_true, true_or, xb_01, mcl_cl, not_true_eq_false, not_false_eq_true, if_false]
  · rw [if_pos e]
    simp only [x216_0, x216_1, x216_2, x216_5, x216_6, x216_7, x216_10, x216_11, x216_12, x216_15, x216_16, x216_17, e215, e, Option.bind_some, Option.toList_some, Option.toList_none, List.cons_append, List.nil_append, Option.isSome_some, if_true, eq_self, or_true, true_or, xb_01, mcl_cl, not_true_eq_false, not_false_eq_true, if_false]
def fTakes (S : MS) (i k : Int32) : Int32 := if mSlot i = false then -1 else if mWithin k.toInt 0 10 = false then -1 else if ¬ sNo S i = 0 then sNo S i else xb (sAdm (S.2.2.1 2 (mr S (tn i))) k)
theorem kind_89 (h8 : ¬ k < 8) (hk : k.toInt ≤ 9) : k = 8 ∨ k = 9 := by
  have : ¬ k.toInt < 8 := fun z => h8 (Int32.lt_iff_toInt_lt.mpr z)
  have : k.toInt = 8 ∨ k.toInt = 9 := by omega
  rcases this with e | e
  · exact Or.inl (Int32.toInt_inj.mp e)
  · exact Or.inr (Int32.toInt_inj.mp e)
/-- kinds of rows are from 0 to 9 -/
def mK (S : MS) : Prop := ∀ r, r < 10 → 0 ≤ (S.2.2.1 2 r).toInt ∧ (S.2.2.1 2 r).toInt ≤ 9
theorem e217 (hK : mK S) : X g 217 0 [.val (va_rf (some mu)), .val (.int i), .val (.int k), .unset, .unset, .unset] [] (mH n kc ks mu S) = some (some (.int (fTakes S i k)), mH n kc ks mu S) := by
  unfold fTakes
  by_cases e1 : mSlot i = false
  · rw [if_pos e1]
    simp only [x217_0, x217_1, x217_4, x217_7, x217_8, x217_9, x217_10, x217_13, x217_16, x217_19, x217_20, x217_21, x217_22, x217_23, x217_26, x217_27, x217_28, x217_31, x217_32, x217_33, x217_34, x217_37, x217_38, x217_41, x217_42, x217_43, x217_44, x217_46, x217_48, x217_50, x217_53, x217_54, x217_56, x217_59, x217_62, x217_64, x217_66, x217_69, x217_70, x217_72, x217_75, x217_76, x217_78, x217_81, x217_82, x217_85, x217_86, x217_88, x217_90, x217_93, x217_94, x217_97, x217_98, c164, e1, xb_f, Option.bind_some, Option.toList_some, Option.toList_none, List.cons_append, List.nil_append, Option.isSome_some, if_true, eq_self, or_true, true_or, xb_01, mcl_cl, not_true_eq_false, not_false_eq_true, if_false]
  · have e1 : mSlot i = true := by simpa using e1
    rw [if_neg (by rw [e1]; simp)]
    by_cases e6 : mWithin k.toInt 0 10 = false
    · have e7 : mWithin k.toInt (Int64.toInt 0) (Int64.toInt 10) = false := e6
      rw [if_pos e6]
      simp only [x217_0, x217_1, x217_4, x217_7, x217_8, x217_9, x217_10, x217_13, x217_16, x217_19, x217_20, x217_21, x217_22, x217_23, x217_26, x217_27, x217_28, x217_31, x217_32, x217_33, x217_34, x217_37, x217_38, x217_41, x217_42, x217_43, x217_44, x217_46, x217_48, x217_50, x217_53, x217_54, x217_56, x217_59, x217_62, x217_64, x217_66, x217_69, x217_70, x217_72, x217_75, x217_76, x217_78, x217_81, x217_82, x217_85, x217_86, x217_88, x217_90, x217_93, x217_94, x217_97, x217_98, c164, c154, i32_64, e1, e7, xb_t, xb_f, i32_10, Option.bind_some, Option.toList_some, Option.toList_none, List.cons_append, List.nil_append, Option.isSome_some, if_true, eq_self, or_true, true_or, xb_01, mcl_cl, not_true_eq_false, not_false_eq_true, if_false]
    · have e6 : mWithin k.toInt 0 10 = true := by simpa using e6
      have e7 : mWithin k.toInt (Int64.toInt 0) (Int64.toInt 10) = true := e6
      rw [if_neg (by rw [e6]; simp)]
      by_cases e : sNo S i = 0
      · obtain ⟨e2, e3, e4⟩ := sNo_0 e
        rw [if_neg (fun z => z e)]
        obtain ⟨e5, hr⟩ := mRow_eq e4
        have hk9 := (hK _ hr).2
        rw [e2] at e1 e
        generalize tn i = s at *
        subst e2
        generalize mr S s = r at *
        unfold sAdm
        by_cases e8 : S.2.2.1 2 r < 8
        · have e9 : ¬ (8 : Int32) ≤ S.2.2.1 2 r := Int32.not_le.mpr e8
          cases y : pMay k (S.2.2.1 2 r) <;> simp only [x217_0, x217_1, x217_4, x217_7, x217_8, x217_9, x217_10, x217_13, x217_16, x217_19, x217_20, x217_21, x217_22, x217_23, x217_26, x217_27, x217_28, x217_31, x217_32, x217_33, x217_34, x217_37, x217_38, x217_41, x217_42, x217_43, x217_44, x217_46, x217_48, x217_50, x217_53, x217_54, x217_56, x217_59, x217_62, x217_64, x217_66, x217_69, x217_70, x217_72, x217_75, x217_76, x217_78, x217_81, x217_82, x217_85, x217_86, x217_88, x217_90, x217_93, x217_94, x217_97, x217_98, c164, c154, c158, i32_64, e1, e7, e215, e, mf_7, ml_7, xin_nI e3 (by decide), nI_clamp (lt31 e3 (by decide)), e5, mf_2, ml_2, xin_nI hr (by decide), nI_clamp (lt31 hr (by decide)), e8, e9, y, xb_t, xb_f, i32_10, Option.bind_some, Option.toList_some, Option.toList_none, List.cons_append, List.nil_append, Option.isSome_some, if_true, eq_self, or_true, true_or, xb_01, mcl_cl, not_true_eq_false, not_false_eq_true, if_false]
        · have e9 : (8 : Int32) ≤ S.2.2.1 2 r := Int32.not_lt.mp e8
          rcases kind_89 e8 hk9 with y | y
          · have z1 : ¬ ((8 : Int32) = 9) := by decide
            have z2 : ¬ ((8 : Int32) < 8) := by decide
            have z3 : (8 : Int32) ≤ 8 := by decide
            simp only [x217_0, x217_1, x217_4, x217_7, x217_8, x217_9, x217_10, x217_13, x217_16, x217_19, x217_20, x217_21, x217_22, x217_23, x217_26, x217_27, x217_28, x217_31, x217_32, x217_33, x217_34, x217_37, x217_38, x217_41, x217_42, x217_43, x217_44, x217_46, x217_48, x217_50, x217_53, x217_54, x217_56, x217_59, x217_62, x217_64, x217_66, x217_69, x217_70, x217_72, x217_75, x217_76, x217_78, x217_81, x217_82, x217_85, x217_86, x217_88, x217_90, x217_93, x217_94, x217_97, x217_98, c164, c154, c158, i32_64, e1, e7, e215, e, mf_7, ml_7, xin_nI e3 (by decide), nI_clamp (lt31 e3 (by decide)), e5, mf_2, ml_2, xin_nI hr (by decide), nI_clamp (lt31 hr (by decide)), y, z1, z2, z3, xb_t, xb_f, i32_10, Option.bind_some, Option.toList_some, Option.toList_none, List.cons_append, List.nil_append, Option.isSome_some, if_true, eq_self, or_true, true_or, xb_01, mcl_cl, not_true_eq_false, not_false_eq_true, if_false]
          · have z1 : ¬ ((9 : Int32) = 8) := by decide
            have z2 : ¬ ((9 : Int32) < 8) := by decide
            have z3 : (8 : Int32) ≤ 9 := by decide
            by_cases w1 : k = 9
            · simp only [x217_0, x217_1, x217_4, x217_7, x217_8, x217_9, x217_10, x217_13, x217_16, x217_19, x217_20, x217_21, x217_22, x217_23, x217_26, x217_27, x217_28, x217_31, x217_32, x217_33, x217_34, x217_37, x217_38, x217_41, x217_42, x217_43, x217_44, x217_46, x217_48, x217_50, x217_53, x217_54, x217_56, x217_59, x217_62, x217_64, x217_66, x217_69, x217_70, x217_72, x217_75, x217_76, x217_78, x217_81, x217_82, x217_85, x217_86, x217_88, x217_90, x217_93, x217_94, x217_97, x217_98, c164, c154, c158, i32_64, e1, w1 ▸ e7, e7, e215, e, mf_7, ml_7, xin_nI e3 (by decide), nI_clamp (lt31 e3 (by decide)), e5, mf_2, ml_2, xin_nI hr (by decide), nI_clamp (lt31 hr (by decide)), y, z1, z2, z3, w1, xb_t, xb_f, i32_10, decide_true, Bool.true_or, Option.bind_some, Option.toList_some, Option.toList_none, List.cons_append, List.nil_append, Option.isSome_some, if_true, eq_self, or_true, true_or, xb_01, mcl_cl, not_true_eq_false, not_false_eq_true, if_false]
            · by_cases w2 : k = 8
              · have w3 : ¬ ((8 : Int32) = 9) := by decide
                simp only [x217_0, x217_1, x217_4, x217_7, x217_8, x217_9, x217_10, x217_13, x217_16, x217_19, x217_20, x217_21, x217_22, x217_23, x217_26, x217_27, x217_28, x217_31, x217_32, x217_33, x217_34, x217_37, x217_38, x217_41, x217_42, x217_43, x217_44, x217_46, x217_48, x217_50, x217_53, x217_54, x217_56, x217_59, x217_62, x217_64, x217_66, x217_69, x217_70, x217_72, x217_75, x217_76, x217_78, x217_81, x217_82, x217_85, x217_86, x217_88, x217_90, x217_93, x217_94, x217_97, x217_98, c164, c154, c158, i32_64, e1, w2 ▸ e7, e7, e215, e, mf_7, ml_7, xin_nI e3 (by decide), nI_clamp (lt31 e3 (by decide)), e5, mf_2, ml_2, xin_nI hr (by decide), nI_clamp (lt31 hr (by decide)), y, z1, z2, z3, w2, w3, xb_t, xb_f, i32_10, decide_true, decide_false, Bool.or_true, Option.bind_some, Option.toList_some, Option.toList_none, List.cons_append, List.nil_append, Option.isSome_some, if_true, eq_self, or_true, true_or, xb_01, mcl_cl, not_true_eq_false, not_false_eq_true, if_false]
              · simp only [x217_0, x217_1, x217_4, x217_7, x217_8, x217_9, x217_10, x217_13, x217_16, x217_19, x217_20, x217_21, x217_22, x217_23, x217_26, x217_27, x217_28, x217_31, x217_32, x217_33, x217_34, x217_37, x217_38, x217_41, x217_42, x217_43, x217_44, x217_46, x217_48, x217_50, x217_53, x217_54, x217_56, x217_59, x217_62, x217_64, x217_66, x217_69, x217_70, x217_72, x217_75, x217_76, x217_78, x217_81, x217_82, x217_85, x217_86, x217_88, x217_90, x217_93, x217_94, x217_97, x217_98, c164, c154, c158, i32_64, e1, e7, e215, e, mf_7, ml_7, xin_nI e3 (by decide), nI_clamp (lt31 e3 (by decide)), e5, mf_2, ml_2, xin_nI hr (by decide), nI_clamp (lt31 hr (by decide)), y, z1, z2, z3, w1, w2, xb_t, xb_f, i32_10, decide_false, Bool.or_false, Option.bind_some, Option.toList_some, Option.toList_none, List.cons_append, List.nil_append, Option.isSome_some, if_true, eq_self, or_true, true_or, xb_01, mcl_cl, not_true_eq_false, not_false_eq_true, if_false]
      · rw [if_pos e]
        simp only [x217_0, x217_1, x217_4, x217_7, x217_8, x217_9, x217_10, x217_13, x217_16, x217_19, x217_20, x217_21, x217_22, x217_23, x217_26, x217_27, x217_28, x217_31, x217_32, x217_33, x217_34, x217_37, x217_38, x217_41, x217_42, x217_43, x217_44, x217_46, x217_48, x217_50, x217_53, x217_54, x217_56, x217_59, x217_62, x217_64, x217_66, x217_69, x217_70, x217_72, x217_75, x217_76, x217_78, x217_81, x217_82, x217_85, x217_86, x217_88, x217_90, x217_93, x217_94, x217_97, x217_98, c164, c154, i32_64, e1, e7, e215, e, xb_t, i32_10, Option.bind_some, Option.toList_some, Option.toList_none, List.cons_append, List.nil_append, Option.isSome_some, if_true, eq_self, or_true, true_or, xb_01, mcl_cl, not_true_eq_false, not_false_eq_true, if_false]
def sEx (S : MS) (r : Nat) (v : Int32) (p : Nat) : Bool := decide (pAmt (S.2.2.1 2 r) (S.2.2.2 6 (32 * r + p)) = pAmt v (pView (S.2.2.1 2 r) (S.2.2.2 6 (32 * r + p)) v))
theorem l218 (hz : mZ S) (hv : mV S) (hk : mKd S) (hr : r < 10) (h8 : S.2.2.1 2 r < 8) (hv8 : v < 8) (i0 i3 : Int32) : ∀ d t m (s7 s8 : Slot), t + d = mz S r → X g 218 64 [.val (va_rf (some mu)), .val (.int i0), .val (.int v), .val (.int i3), .val (.int (nI r)), .val (.int (nI m)), .val (.int (nI t)), s7, s8] [] (mH n kc ks mu S) = some (some (.int (nI (m + mCnt (sEx S r v) t d))), mH n kc ks mu S) := by
  obtain ⟨z1, z2⟩ := mz_eq hz hr
  intro d
  induction d with
  | zero =>
    intro t m s7 s8 ht
    have h1 : nI (mz S r) ≤ nI t := nI_le (by omega) (by omega)
    simp only [x218_0, x218_1, x218_4, x218_7, x218_8, x218_9, x218_10, x218_13, x218_16, x218_19, x218_20, x218_21, x218_22, x218_23, x218_26, x218_27, x218_28, x218_31, x218_32, x218_33, x218_34, x218_37, x218_38, x218_39, x218_41, x218_42, x218_45, x218_47, x218_48, x218_49, x218_52, x218_55, x218_57, x218_58, x218_59, x218_61, x218_62, x218_64, x218_66, x218_67, x218_70, x218_72, x218_73, x218_76, x218_77, x218_80, x218_82, x218_84, x218_85, x218_87, x218_88, x218_89, x218_91, x218_93, x218_94, x218_97, x218_99, x218_100, x218_102, x218_105, x218_106, x218_107, x218_110, x218_112, x218_113, x218_115, x218_116, x218_119, x218_122, x218_123, x218_126, x218_127, x218_130, x218_131, x218_132, x218_134, x218_140, x218_142, mf_3, ml_3, xin_nI hr (by decide), nI_clamp (lt31 hr (by decide)), z1, h1, mCnt, Nat.add_zero, Option.bind_some, Option.toList_some, Option.toList_none, List.cons_append, List.nil_append, Option.isSome_some, if_true, eq_self, or_true, true_or, xb_01, mcl_cl, not_true_eq_false, not_false_eq_true, if_false]
  | succ d ih =>
    intro t m s7 s8 ht
    have h1 : ¬ nI (mz S r) ≤ nI t := nI_ge (by omega) (by omega)
    have c1 : 32 * r + t < 320 := by omega
    have ho := row_okv hv hk (p := t) hr (by omega) h8
    have hx : sEx S r v t = decide (pAmt (S.2.2.1 2 r) (S.2.2.2 6 (32 * r + t)) = pAmt v (pView (S.2.2.1 2 r) (S.2.2.2 6 (32 * r + t)) v)) := rfl
    by_cases e : pAmt (S.2.2.1 2 r) (S.2.2.2 6 (32 * r + t)) = pAmt v (pView (S.2.2.1 2 r) (S.2.2.2 6 (32 * r + t)) v)
    · simp only [x218_0, x218_1, x218_4, x218_7, x218_8, x218_9, x218_10, x218_13, x218_16, x218_19, x218_20, x218_21, x218_22, x218_23, x218_26, x218_27, x218_28, x218_31, x218_32, x218_33, x218_34, x218_37, x218_38, x218_39, x218_41, x218_42, x218_45, x218_47, x218_48, x218_49, x218_52, x218_55, x218_57, x218_58, x218_59, x218_61, x218_62, x218_64, x218_66, x218_67, x218_70, x218_72, x218_73, x218_76, x218_77, x218_80, x218_82, x218_84, x218_85, x218_87, x218_88, x218_89, x218_91, x218_93, x218_94, x218_97, x218_99, x218_100, x218_102, x218_105, x218_106, x218_107, x218_110, x218_112, x218_113, x218_115, x218_116, x218_119, x218_122, x218_123, x218_126, x218_127, x218_130, x218_131, x218_132, x218_134, x218_140, x218_142, mf_3, ml_3, mf_2, ml_2, mf_6, ml_6, xin_nI hr (by decide), nI_clamp (lt31 hr (by decide)), z1, h1, nI_cell, xin_nI c1 (by decide), nI_clamp (lt31 c1 (by decide)), d160 ho, d161 h8 ho, d161 hv8 (okv_view ho), lcmp_eq0, e, Option.bind_some, Option.toList_some, Option.toList_none, List.cons_append, List.nil_append, Option.isSome_some, if_true, eq_self, or_true, true_or, xb_01, mcl_cl, not_true_eq_false, not_false_eq_true, if_false]
      simp only [x218_137, nI_1]
      rw [ih (t + 1) (m + 1) _ _ (by omega)]
      rw [mCnt, hx, decide_eq_true e, Nat.add_assoc]
      rfl
    · simp only [x218_0, x218_1, x218_4, x218_7, x218_8, x218_9, x218_10, x218_13, x218_16, x218_19, x218_20, x218_21, x218_22, x218_23, x218_26, x218_27, x218_28, x218_31, x218_32, x218_33, x218_34, x218_37, x218_38, x218_39, x218_41, x218_42, x218_45, x218_47, x218_48, x218_49, x218_52, x218_55, x218_57, x218_58, x218_59, x218_61, x218_62, x218_64, x218_66, x218_67, x218_70, x218_72, x218_73, x218_76, x218_77, x218_80, x218_82, x218_84, x218_85, x218_87, x218_88, x218_89, x218_91, x218_93, x218_94, x218_97, x218_99, x218_100, x218_102, x218_105, x218_106, x218_107, x218_110, x218_112, x218_113, x218_115, x218_116, x218_119, x218_122, x218_123, x218_126, x218_127, x218_130, x218_131, x218_132, x218_134, x218_140, x218_142, mf_3, ml_3, mf_2, ml_2, mf_6, ml_6, xin_nI hr (by decide), nI_clamp (lt31 hr (by decide)), z1, h1, nI_cell, xin_nI c1 (by decide), nI_clamp (lt31 c1 (by decide)), d160 ho, d161 h8 ho, d161 hv8 (okv_view ho), lcmp_eq0, e, Int32.add_zero, Option.bind_some, Option.toList_some, Option.toList_none, List.cons_append, List.nil_append, Option.isSome_some, if_true, eq_self, or_true, true_or, xb_01, mcl_cl, not_true_eq_false, not_false_eq_true, if_false]
      simp only [x218_137, nI_1]
      rw [ih (t + 1) m _ _ (by omega)]
      rw [mCnt, hx, decide_eq_false e]
      simp
def fExact (S : MS) (i v : Int32) : Int32 := if mSlot i = false then -1 else if mWithin v.toInt 0 7 = false then -1 else if ¬ sNo S i = 0 then sNo S i else if pMay (S.2.2.1 2 (mr S (tn i))) v = false then -12 else nI (mCnt (sEx S (mr S (tn i)) v) 0 (mz S (mr S (tn i))))
theorem pMay_lt (h : pMay k v = true) : 0 ≤ k.toInt ∧ k.toInt ≤ 7 ∧ 0 ≤ v.toInt ∧ v.toInt ≤ 7 := by
  have L : ∀ a b : Int32, a = b → a.toInt = b.toInt := fun a b e => by rw [e]
  unfold pMay at h
  split at h
  · rename_i e
    subst e
    have := mWithin_iff.mp h
    omega
  · split at h
    · rename_i e
      have := mWithin_iff.mp h
      have e := L _ _ e
      simp at e
      omega
    · split at h
      · rename_i e
        have := mWithin_iff.mp h
        have e := L _ _ e
        simp at e
        omega
      · split at h
        · rename_i e
          have := mWithin_iff.mp h
          have e := L _ _ e
          simp at e
          omega
        · split at h
          · rename_i e
            have := mWithin_iff.mp h
            have e := L _ _ e
            simp at e
            omega
          · split at h
            · rename_i e
              have := mWithin_iff.mp h
              have e := L _ _ e
              simp at e
              omega
            · split at h
              · rename_i e
                have e2 := L _ _ (of_decide_eq_true h)
                have e := L _ _ e
                simp at e e2
                omega
              · exact absurd h (by simp)
theorem lt8_of (h : k.toInt ≤ 7) : k < 8 := Int32.lt_iff_toInt_lt.mpr (by
  have : (8 : Int32).toInt = 8 := rfl
  omega)
theorem e218 (hz : mZ S) (hv : mV S) (hk : mKd S) : X g 218 0 [.val (va_rf (some mu)), .val (.int i), .val (.int v), .unset, .unset, .unset, .unset, .unset, .unset] [] (mH n kc ks mu S) = some (some (.int (fExact S i v)), mH n kc ks mu S) := by
  unfold fExact
  by_cases e1 : mSlot i = false
  · rw [if_pos e1]
    simp only [x218_0, x218_1, x218_4, x218_7, x218_8, x218_9, x218_10, x218_13, x218_16, x218_19, x218_20, x218_21, x218_22, x218_23, x218_26, x218_27, x218_28, x218_31, x218_32, x218_33, x218_34, x218_37, x218_38, x218_39, x218_41, x218_42, x218_45, x218_47, x218_48, x218_49, x218_52, x218_55, x218_57, x218_58, x218_59, x218_61, x218_62, c164, e1, xb_f, Option.bind_some, Option.toList_some, Option.toList_none, List.cons_append, List.nil_append, Option.isSome_some, if_true, eq_self, or_true, true_or, xb_01, mcl_cl, not_true_eq_false, not_false_eq_true, if_false]
  · have e1 : mSlot i = true := by simpa using e1
    rw [if_neg (by rw [e1]; simp)]
    by_cases e6 : mWithin v.toInt 0 7 = false
    · have e7 : mWithin v.toInt (Int64.toInt 0) (Int64.toInt 7) = false := e6
      rw [if_pos e6]
      simp only [x218_0, x218_1, x218_4, x218_7, x218_8, x218_9, x218_10, x218_13, x218_16, x218_19, x218_20, x218_21, x218_22, x218_23, x218_26, x218_27, x218_28, x218_31, x218_32, x218_33, x218_34, x218_37, x218_38, x218_39, x218_41, x218_42, x218_45, x218_47, x218_48, x218_49, x218_52, x218_55, x218_57, x218_58, x218_59, x218_61, x218_62, c164, c154, i32_64, e1, e7, xb_t, xb_f, i32_10, Option.bind_some, Option.toList_some, Option.toList_none, List.cons_append, List.nil_append, Option.isSome_some, if_true, eq_self, or_true, true_or, xb_01, mcl_cl, not_true_eq_false, not_false_eq_true, if_false]
    · have e6 : mWithin v.toInt 0 7 = true := by simpa using e6
      have e7 : mWithin v.toInt (Int64.toInt 0) (Int64.toInt 7) = true := e6
      rw [if_neg (by rw [e6]; simp)]
      by_cases e : sNo S i = 0
      · obtain ⟨e2, e3, e4⟩ := sNo_0 e
        rw [if_neg (fun z => z e)]
        obtain ⟨e5, hr⟩ := mRow_eq e4
        rw [e2] at e1 e
        generalize tn i = s at *
        subst e2
        generalize mr S s = r at *
        by_cases y : pMay (S.2.2.1 2 r) v = false
        · rw [if_pos y]
          simp only [x218_0, x218_1, x218_4, x218_7, x218_8, x218_9, x218_10, x218_13, x218_16, x218_19, x218_20, x218_21, x218_22, x218_23, x218_26, x218_27, x218_28, x218_31, x218_32, x218_33, x218_34, x218_37, x218_38, x218_39, x218_41, x218_42, x218_45, x218_47, x218_48, x218_49, x218_52, x218_55, x218_57, x218_58, x218_59, x218_61, x218_62, c164, c154, c158, i32_64, e1, e7, e215, e, mf_7, ml_7, xin_nI e3 (by decide), nI_clamp (lt31 e3 (by decide)), e5, mf_2, ml_2, xin_nI hr (by decide), nI_clamp (lt31 hr (by decide)), y, xb_t, xb_f, i32_10, Option.bind_some, Option.toList_some, Option.toList_none, List.cons_append, List.nil_append, Option.isSome_some, if_true, eq_self, or_true, true_or, xb_01, mcl_cl, not_true_eq_false, not_false_eq_true, if_false]
        · have y : pMay (S.2.2.1 2 r) v = true := by simpa using y
          rw [if_neg (by rw [y]; simp)]
          obtain ⟨_, y2, _, y4⟩ := pMay_lt y
          have h1 := l218 (g := g) (n := n) (kc := kc) (ks := ks) (mu := mu) hz hv hk hr (lt8_of y2) (lt8_of y4) (nI s) 0 (mz S r) 0 0 .unset .unset (by omega)
          rw [Nat.zero_add] at h1
          have h1' : X g 218 64 [.val (va_rf (some mu)), .val (.int (nI s)), .val (.int v), .val (.int 0), .val (.int (nI r)), .val (.int 0), .val (.int 0), .unset, .unset] [] (mH n kc ks mu S) = some (some (.int (nI (mCnt (sEx S r v) 0 (mz S r)))), mH n kc ks mu S) := h1
          simp only [x218_0, x218_1, x218_4, x218_7, x218_8, x218_9, x218_10, x218_13, x218_16, x218_19, x218_20, x218_21, x218_22, x218_23, x218_26, x218_27, x218_28, x218_31, x218_32, x218_33, x218_34, x218_37, x218_38, x218_39, x218_41, x218_42, x218_45, x218_47, x218_48, x218_49, x218_52, x218_55, x218_57, x218_58, x218_59, x218_61, x218_62, c164, c154, c158, i32_64, e1, e7, e215, e, mf_7, ml_7, xin_nI e3 (by decide), nI_clamp (lt31 e3 (by decide)), e5, mf_2, ml_2, xin_nI hr (by decide), nI_clamp (lt31 hr (by decide)), y, xb_t, xb_f, i32_10, h1', Option.bind_some, Option.toList_some, Option.toList_none, List.cons_append, List.nil_append, Option.isSome_some, if_true, eq_self, or_true, true_or, xb_01, mcl_cl, not_true_eq_false, not_false_eq_true, if_false]
      · rw [if_pos e]
        simp only [x218_0, x218_1, x218_4, x218_7, x218_8, x218_9, x218_10, x218_13, x218_16, x218_19, x218_20, x218_21, x218_22, x218_23, x218_26, x218_27, x218_28, x218_31, x218_32, x218_33, x218_34, x218_37, x218_38, x218_39, x218_41, x218_42, x218_45, x218_47, x218_48, x218_49, x218_52, x218_55, x218_57, x218_58, x218_59, x218_61, x218_62, c164, c154, i32_64, e1, e7, e215, e, xb_t, i32_10, Option.bind_some, Option.toList_some, Option.toList_none, List.cons_append, List.nil_append, Option.isSome_some, if_true, eq_self, or_true, true_or, xb_01, mcl_cl, not_true_eq_false, not_false_eq_true, if_false]
end M11
