/-! THE REFERENCE's methods, 9: reading, latching, windows, what a slot holds -/
def sWhy (x : Int32) : Prop := x = 0 ∨ x = -11 ∨ x = -12 ∨ x = -13
def mCtd (S : MS) (x : Int32) : MS := msA S 9 (tn (-11 - x)) (S.2.2.1 9 (tn (-11 - x)) + 1)
def sAns (x : Int32) : Int32 := if x = 0 then 1 else x
theorem sRead_why (S : MS) (s : Nat) (i v : Int32) : sWhy (sRead S s i v) := by
  unfold sRead sWhy
  repeat' split
  all_goals simp
theorem sPutBy_why (S : MS) (s : Nat) (i v b : Int32) : sWhy (sPutBy S s i v b) := by
  unfold sPutBy sWhy
  repeat' split
  all_goals simp
theorem sLook_why (S : MS) (w : Nat) (j v : Int32) : sWhy (sLook S w j v) := by
  unfold sLook
  split
  · exact sRead_why _ _ _ _
  · exact Or.inr (Or.inr (Or.inr rfl))
section M10
variable {g : xG} {n kc ks mu s w q p : Nat} {S : MS} {h : xH} {i j k m v x : Int32} {u : Int64} {a : Int32} {b : Int64}
theorem e176 (hx : sWhy x) : X g 176 0 [.val (va_rf (some mu)), .val (.int x)] [] (mH n kc ks mu S) = some (some (.int (sAns x)), mH n kc ks mu (if x = 0 then S else mCtd S x)) := by
  rcases hx with rfl | rfl | rfl | rfl
  · exact c176z
  · exact c176 (q := 0) (by decide)
  · exact c176 (q := 1) (by decide)
  · exact c176 (q := 2) (by decide)
def mLat (S : MS) (x : Int32) : MS := if x = 0 then msL (msI S 10 (S.1 0)) 11 (S.2.1 1) else mCtd S x
theorem e177 (hx : sWhy x) : X g 177 0 [.val (va_rf (some mu)), .val (.int x)] [] (mH n kc ks mu S) = some (some (.int (sAns x)), mH n kc ks mu (mLat S x)) := by
  unfold mLat
  by_cases e : x = 0
  · subst e
    simp only [x177_0, x177_1, x177_4, x177_5, x177_6, x177_9, x177_12, x177_13, x177_14, x177_17, x177_20, x177_21, x177_22, x177_25, mf_0, mp_10, mf_10, mf_1, mp_11, mf_11, msI2, e176 (x := 0) (Or.inl rfl), Option.bind_some, Option.toList_some, Option.toList_none, List.cons_append, List.nil_append, Option.isSome_some, if_true, eq_self, or_true, true_or, xb_01, mcl_cl, not_true_eq_false, not_false_eq_true, if_false]
  · simp only [x177_0, x177_1, x177_4, x177_5, x177_6, x177_9, x177_12, x177_13, x177_14, x177_17, x177_20, x177_21, x177_22, x177_25, e176 hx, e, Option.bind_some, Option.toList_some, Option.toList_none, List.cons_append, List.nil_append, Option.isSome_some, if_true, eq_self, or_true, true_or, xb_01, mcl_cl, not_true_eq_false, not_false_eq_true, if_false]
def fRead (S : MS) (i j v : Int32) : Int32 × MS := if mSlot i = false then (-1, S) else if mWithin v.toInt 0 8 = false then (-1, S) else (sAns (sRead S (tn i) j v), mLat (mRd S (tn i) j v) (sRead S (tn i) j v))
theorem e178 (hz : mZ S) (hv : mV S) (hk : mKd S) : X g 178 0 [.val (va_rf (some mu)), .val (.int i), .val (.int j), .val (.int v)] [] (mH n kc ks mu S) = some (some (.int (fRead S i j v).1), mH n kc ks mu (fRead S i j v).2) := by
  unfold fRead
  by_cases e1 : mSlot i = false
  · rw [if_pos e1]
    simp only [x178_0, x178_1, x178_4, x178_7, x178_8, x178_9, x178_10, x178_13, x178_16, x178_19, x178_20, x178_21, x178_22, x178_23, x178_24, x178_25, x178_26, x178_29, x178_32, c164, e1, xb_f, Option.bind_some, Option.toList_some, Option.toList_none, List.cons_append, List.nil_append, Option.isSome_some, if_true, eq_self, or_true, true_or, xb_01, mcl_cl, not_true_eq_false, not_false_eq_true, if_false]
  · have e1 : mSlot i = true := by simpa using e1
    obtain ⟨e2, e3⟩ := mSlot_eq e1
    rw [if_neg (by rw [e1]; simp)]
    by_cases e4 : mWithin v.toInt 0 8 = false
    · have e5 : mWithin v.toInt (Int64.toInt 0) (Int64.toInt 8) = false := e4
      rw [if_pos e4]
      simp only [x178_0, x178_1, x178_4, x178_7, x178_8, x178_9, x178_10, x178_13, x178_16, x178_19, x178_20, x178_21, x178_22, x178_23, x178_24, x178_25, x178_26, x178_29, x178_32, c164, c154, i32_64, e1, e5, xb_t, xb_f, i32_10, Option.bind_some, Option.toList_some, Option.toList_none, List.cons_append, List.nil_append, Option.isSome_some, if_true, eq_self, or_true, true_or, xb_01, mcl_cl, not_true_eq_false, not_false_eq_true, if_false]
    · have e4 : mWithin v.toInt 0 8 = true := by simpa using e4
      have e5 : mWithin v.toInt (Int64.toInt 0) (Int64.toInt 8) = true := e4
      rw [if_neg (by rw [e4]; simp)]
      rw [e2] at e1
      generalize tn i = s at *
      subst e2
      simp only [x178_0, x178_1, x178_4, x178_7, x178_8, x178_9, x178_10, x178_13, x178_16, x178_19, x178_20, x178_21, x178_22, x178_23, x178_24, x178_25, x178_26, x178_29, x178_32, c164, c154, i32_64, e1, e5, c173 e3 hz hv hk, e177 (sRead_why _ _ _ _), xb_t, i32_10, Option.bind_some, Option.toList_some, Option.toList_none, List.cons_append, List.nil_append, Option.isSome_some, if_true, eq_self, or_true, true_or, xb_01, mcl_cl, not_true_eq_false, not_false_eq_true, if_false]
def fLatch (S : MS) (i : Int32) : Int64 := if i = 0 then (S.1 10).toInt64 else if i = 1 then S.2.1 11 else if i = 2 then (if S.1 10 < 8 then pAmt (S.1 10) (S.2.1 11) else -9223372036854775808) else -9223372036854775808
theorem sw02 {k : Int32} (h0 : ¬ k = 0) (h1 : ¬ k = 1) (h2 : ¬ k = 2) : k.toInt < 0 ∨ 2 < k.toInt := by
  have a0 := i32_ne h0
  have a1 := i32_ne h1
  have a2 := i32_ne h2
  simp at a0 a1 a2
  omega
theorem e179 (hb : okv (S.1 10) (S.2.1 11)) : X g 179 0 [.val (va_rf (some mu)), .val (.int i)] [] (mH n kc ks mu S) = some (some (.long (fLatch S i)), mH n kc ks mu S) := by
  unfold fLatch
  by_cases e0 : i = 0
  · subst e0
    simp only [x179_0, x179_1_v0, x179_1_v1, x179_1_v2, x179_1_d, x179_28, x179_29, x179_32, x179_33, x179_34, x179_35, x179_38, x179_39, x179_40, x179_43, x179_45, x179_48, x179_49, x179_52, x179_53, x179_56, x179_59, x179_62, x179_65, x179_66, x179_69, mf_10, Option.bind_some, Option.toList_some, Option.toList_none, List.cons_append, List.nil_append, Option.isSome_some, if_true, eq_self, or_true, true_or, xb_01, mcl_cl, not_true_eq_false, not_false_eq_true, if_false]
  by_cases e1 : i = 1
  · subst e1
    simp only [x179_0, x179_1_v0, x179_1_v1, x179_1_v2, x179_1_d, x179_28, x179_29, x179_32, x179_33, x179_34, x179_35, x179_38, x179_39, x179_40, x179_43, x179_45, x179_48, x179_49, x179_52, x179_53, x179_56, x179_59, x179_62, x179_65, x179_66, x179_69, mf_11, e0, Option.bind_some, Option.toList_some, Option.toList_none, List.cons_append, List.nil_append, Option.isSome_some, if_true, eq_self, or_true, true_or, xb_01, mcl_cl, not_true_eq_false, not_false_eq_true, if_false]
  by_cases e2 : i = 2
  · subst e2
    by_cases e3 : S.1 10 < 8
    · have e4 : ¬ (8 : Int32) ≤ S.1 10 := Int32.not_le.mpr e3
      simp only [x179_0, x179_1_v0, x179_1_v1, x179_1_v2, x179_1_d, x179_28, x179_29, x179_32, x179_33, x179_34, x179_35, x179_38, x179_39, x179_40, x179_43, x179_45, x179_48, x179_49, x179_52, x179_53, x179_56, x179_59, x179_62, x179_65, x179_66, x179_69, mf_10, mf_11, d161 e3 hb, e0, e1, e3, e4, Option.bind_some, Option.toList_some, Option.toList_none, List.cons_append, List.nil_append, Option.isSome_some, if_true, eq_self, or_true, true_or, xb_01, mcl_cl, not_true_eq_false, not_false_eq_true, if_false]
    · have e4 : (8 : Int32) ≤ S.1 10 := Int32.not_lt.mp e3
      simp only [x179_0, x179_1_v0, x179_1_v1, x179_1_v2, x179_1_d, x179_28, x179_29, x179_32, x179_33, x179_34, x179_35, x179_38, x179_39, x179_40, x179_43, x179_45, x179_48, x179_49, x179_52, x179_53, x179_56, x179_59, x179_62, x179_65, x179_66, x179_69, mf_10, mf_11, e0, e1, e3, e4, Option.bind_some, Option.toList_some, Option.toList_none, List.cons_append, List.nil_append, Option.isSome_some, if_true, eq_self, or_true, true_or, xb_01, mcl_cl, not_true_eq_false, not_false_eq_true, if_false]
  · simp only [x179_0, x179_1_v0, x179_1_v1, x179_1_v2, x179_1_d, x179_28, x179_29, x179_32, x179_33, x179_34, x179_35, x179_38, x179_39, x179_40, x179_43, x179_45, x179_48, x179_49, x179_52, x179_53, x179_56, x179_59, x179_62, x179_65, x179_66, x179_69, x179_1_d (sw02 e0 e1 e2), e0, e1, e2, Option.bind_some, Option.toList_some, Option.toList_none, List.cons_append, List.nil_append, Option.isSome_some, if_true, eq_self, or_true, true_or, xb_01, mcl_cl, not_true_eq_false, not_false_eq_true, if_false]
def mWin (S : MS) (w : Nat) (j k m x v : Int32) : MS := msA (msA (msA (msA (msA S 12 (5 * w) j) 12 (5 * w + 1) k) 12 (5 * w + 2) m) 12 (5 * w + 3) x) 12 (5 * w + 4) v
def fWin (S : MS) (i j k m x v : Int32) : Int32 × MS := if mSl i = false then (-1, S) else if mSlot j = false then (-1, S) else if (mWithin k.toInt (-9) 40 && mWithin m.toInt (-3) 3 && mWithin x.toInt 0 32 && mWithin v.toInt 0 8) = false then (-2, S) else (1, mWin S (tn i) j k m x v)
theorem nI_5 (w p : Nat) : (5 : Int32) * nI w + nI p = nI (5 * w + p) := by
  rw [show (5 : Int32) = nI 5 from rfl, pk_mul, nI_add]
theorem e186 : X g 186 0 [.val (va_rf (some mu)), .val (.int i), .val (.int j), .val (.int k), .val (.int m), .val (.int x), .val (.int v)] [] (mH n kc ks mu S) = some (some (.int (fWin S i j k m x v).1), mH n kc ks mu (fWin S i j k m x v).2) := by
  unfold fWin
  by_cases e1 : mSl i = false
  · rw [if_pos e1]
    simp only [x186_0, x186_1, x186_4, x186_7, x186_8, x186_11, x186_14, x186_15, x186_16, x186_17, x186_18, x186_21, x186_24, x186_27, x186_30, x186_32, x186_33, x186_36, x186_39, x186_42, x186_45, x186_47, x186_48, x186_49, x186_52, x186_55, x186_58, x186_60, x186_61, x186_62, x186_65, x186_68, x186_71, x186_73, x186_74, x186_75, x186_78, x186_79, x186_80, x186_81, x186_82, x186_83, x186_84, x186_87, x186_88, x186_89, x186_90, x186_91, x186_92, x186_93, x186_94, x186_95, x186_98, x186_99, x186_100, x186_101, x186_102, x186_103, x186_105, x186_106, x186_107, x186_110, x186_111, x186_112, x186_113, x186_114, x186_115, x186_117, x186_118, x186_119, x186_122, x186_123, x186_124, x186_125, x186_126, x186_127, x186_129, x186_130, x186_131, c184', e1, xb_f, Option.bind_some, Option.toList_some, Option.toList_none, List.cons_append, List.nil_append, Option.isSome_some, if_true, eq_self, or_true, true_or, xb_01, mcl_cl, not_true_eq_false, not_false_eq_true, if_false]
  · have e1 : mSl i = true := by simpa using e1
    obtain ⟨e2, e3⟩ := mSl_eq e1
    rw [if_neg (by rw [e1]; simp)]
    by_cases e4 : mSlot j = false
    · rw [if_pos e4]
      simp only [x186_0, x186_1, x186_4, x186_7, x186_8, x186_11, x186_14, x186_15, x186_16, x186_17, x186_18, x186_21, x186_24, x186_27, x186_30, x186_32, x186_33, x186_36, x186_39, x186_42, x186_45, x186_47, x186_48, x186_49, x186_52, x186_55, x186_58, x186_60, x186_61, x186_62, x186_65, x186_68, x186_71, x186_73, x186_74, x186_75, x186_78, x186_79, x186_80, x186_81, x186_82, x186_83, x186_84, x186_87, x186_88, x186_89, x186_90, x186_91, x186_92, x186_93, x186_94, x186_95, x186_98, x186_99, x186_100, x186_101, x186_102, x186_103, x186_105, x186_106, x186_107, x186_110, x186_111, x186_112, x186_113, x186_114, x186_115, x186_117, x186_118, x186_119, x186_122, x186_123, x186_124, x186_125, x186_126, x186_127, x186_129, x186_130, x186_131, c184', c164, e1, e4, xb_t, xb_f, i32_10, Option.bind_some, Option.toList_some, Option.toList_none, List.cons_append, List.nil_append, Option.isSome_some, if_true, eq_self, or_true, true_or, xb_01, mcl_cl, not_true_eq_false, not_false_eq_true, if_false]
    · have e4 : mSlot j = true := by simpa using e4
      rw [if_neg (by rw [e4]; simp)]
      rw [e2] at e1
      generalize tn i = w at *
      subst e2
      have f1 : mWithin k.toInt (Int64.toInt (-9)) (Int64.toInt 40) = mWithin k.toInt (-9) 40 := rfl
      have f2 : mWithin m.toInt (Int64.toInt (-3)) (Int64.toInt 3) = mWithin m.toInt (-3) 3 := rfl
      have f3 : mWithin x.toInt (Int64.toInt 0) (Int64.toInt 32) = mWithin x.toInt 0 32 := rfl
      have f4 : mWithin v.toInt (Int64.toInt 0) (Int64.toInt 8) = mWithin v.toInt 0 8 := rfl
      cases g1 : mWithin k.toInt (-9) 40 with
      | false => simp only [x186_0, x186_1, x186_4, x186_7, x186_8, x186_11, x186_14, x186_15, x186_16, x186_17, x186_18, x186_21, x186_24, x186_27, x186_30, x186_32, x186_33, x186_36, x186_39, x186_42, x186_45, x186_47, x186_48, x186_49, x186_52, x186_55, x186_58, x186_60, x186_61, x186_62, x186_65, x186_68, x186_71, x186_73, x186_74, x186_75, x186_78, x186_79, x186_80, x186_81, x186_82, x186_83, x186_84, x186_87, x186_88, x186_89, x186_90, x186_91, x186_92, x186_93, x186_94, x186_95, x186_98, x186_99, x186_100, x186_101, x186_102, x186_103, x186_105, x186_106, x186_107, x186_110, x186_111, x186_112, x186_113, x186_114, x186_115, x186_117, x186_118, x186_119, x186_122, x186_123, x186_124, x186_125, x186_126, x186_127, x186_129, x186_130, x186_131, c184', c164, c154, i32_64, e1, e4, f1, g1, xb_t, xb_f, i32_10, Bool.false_and, Option.bind_some, Option.toList_some, Option.toList_none, List.cons_append, List.nil_append, Option.isSome_some, if_true, eq_self, or_true, true_or, xb_01, mcl_cl, not_true_eq_false, not_false_eq_true, if_false]
      | true =>
        cases g2 : mWithin m.toInt (-3) 3 with
        | false => simp only [x186_0, x186_1, x186_4, x186_7, x186_8, x186_11, x186_14, x186_15, x186_16, x186_17, x186_18, x186_21, x186_24, x186_27, x186_30, x186_32, x186_33, x186_36, x186_39, x186_42, x186_45, x186_47, x186_48, x186_49, x186_52, x186_55, x186_58, x186_60, x186_61, x186_62, x186_65, x186_68, x186_71, x186_73, x186_74, x186_75, x186_78, x186_79, x186_80, x186_81, x186_82, x186_83, x186_84, x186_87, x186_88, x186_89, x186_90, x186_91, x186_92, x186_93, x186_94, x186_95, x186_98, x186_99, x186_100, x186_101, x186_102, x186_103, x186_105, x186_106, x186_107, x186_110, x186_111, x186_112, x186_113, x186_114, x186_115, x186_117, x186_118, x186_119, x186_122, x186_123, x186_124, x186_125, x186_126, x186_127, x186_129, x186_130, x186_131, c184', c164, c154, i32_64, e1, e4, f1, f2, g1, g2, xb_t, xb_f, i32_10, Bool.false_and, Bool.and_false, Option.bind_some, Option.toList_some, Option.toList_none, List.cons_append, List.nil_append, Option.isSome_some, if_true, eq_self, or_true, true_or, xb_01, mcl_cl, not_true_eq_false, not_false_eq_true, if_false]
        | true =>
          cases g3 : mWithin x.toInt 0 32 with
          | false => simp only [x186_0, x186_1, x186_4, x186_7, x186_8, x186_11, x186_14, x186_15, x186_16, x186_17, x186_18, x186_21, x186_24, x186_27, x186_30, x186_32, x186_33, x186_36, x186_39, x186_42, x186_45, x186_47, x186_48, x186_49, x186_52, x186_55, x186_58, x186_60, x186_61, x186_62, x186_65, x186_68, x186_71, x186_73, x186_74, x186_75, x186_78, x186_79, x186_80, x186_81, x186_82, x186_83, x186_84, x186_87, x186_88, x186_89, x186_90, x186_91, x186_92, x186_93, x186_94, x186_95, x186_98, x186_99, x186_100, x186_101, x186_102, x186_103, x186_105, x186_106, x186_107, x186_110, x186_111, x186_112, x186_113, x186_114, x186_115, x186_117, x186_118, x186_119, x186_122, x186_123, x186_124, x186_125, x186_126, x186_127, x186_129, x186_130, x186_131, c184', c164, c154, i32_64, e1, e4, f1, f2, f3, g1, g2, g3, xb_t, xb_f, i32_10, Bool.false_and, Bool.and_false, Option.bind_some, Option.toList_some, Option.toList_none, List.cons_append, List.nil_append, Option.isSome_some, if_true, eq_self, or_true, true_or, xb_01, mcl_cl, not_true_eq_false, not_false_eq_true, if_false]
          | true =>
            cases g4 : mWithin v.toInt 0 8 with
            | false => simp only [x186_0, x186_1, x186_4, x186_7, x186_8, x186_11, x186_14, x186_15, x186_16, x186_17, x186_18, x186_21, x186_24, x186_27, x186_30, x186_32, x186_33, x186_36, x186_39, x186_42, x186_45, x186_47, x186_48, x186_49, x186_52, x186_55, x186_58, x186_60, x186_61, x186_62, x186_65, x186_68, x186_71, x186_73, x186_74, x186_75, x186_78, x186_79, x186_80, x186_81, x186_82, x186_83, x186_84, x186_87, x186_88, x186_89, x186_90, x186_91, x186_92, x186_93, x186_94, x186_95, x186_98, x186_99, x186_100, x186_101, x186_102, x186_103, x186_105, x186_106, x186_107, x186_110, x186_111, x186_112, x186_113, x186_114, x186_115, x186_117, x186_118, x186_119, x186_122, x186_123, x186_124, x186_125, x186_126, x186_127, x186_129, x186_130, x186_131, c184', c164, c154, i32_64, e1, e4, f1, f2, f3, f4, g1, g2, g3, g4, xb_t, xb_f, i32_10, Bool.false_and, Bool.and_false, Option.bind_some, Option.toList_some, Option.toList_none, List.cons_append, List.nil_append, Option.isSome_some, if_true, eq_self, or_true, true_or, xb_01, mcl_cl, not_true_eq_false, not_false_eq_true, if_false]
            | true =>
              have q0 : (5 : Int32) * nI w = nI (5 * w) := pk_mul 5 w
              have q1 : nI (5 * w) + 1 = nI (5 * w + 1) := nI_1 _
              have q2 : nI (5 * w) + 2 = nI (5 * w + 2) := nI_add _ 2
              have q3 : nI (5 * w) + 3 = nI (5 * w + 3) := nI_add _ 3
              have q4 : nI (5 * w) + 4 = nI (5 * w + 4) := nI_add _ 4
              have b0 : 5 * w < 30 := by omega
              have b1 : 5 * w + 1 < 30 := by omega
              have b2 : 5 * w + 2 < 30 := by omega
              have b3 : 5 * w + 3 < 30 := by omega
              have b4 : 5 * w + 4 < 30 := by omega
              simp only [x186_0, x186_1, x186_4, x186_7, x186_8, x186_11, x186_14, x186_15, x186_16, x186_17, x186_18, x186_21, x186_24, x186_27, x186_30, x186_32, x186_33, x186_36, x186_39, x186_42, x186_45, x186_47, x186_48, x186_49, x186_52, x186_55, x186_58, x186_60, x186_61, x186_62, x186_65, x186_68, x186_71, x186_73, x186_74, x186_75, x186_78, x186_79, x186_80, x186_81, x186_82, x186_83, x186_84, x186_87, x186_88, x186_89, x186_90, x186_91, x186_92, x186_93, x186_94, x186_95, x186_98, x186_99, x186_100, x186_101, x186_102, x186_103, x186_105, x186_106, x186_107, x186_110, x186_111, x186_112, x186_113, x186_114, x186_115, x186_117, x186_118, x186_119, x186_122, x186_123, x186_124, x186_125, x186_126, x186_127, x186_129, x186_130, x186_131, c184', c164, c154, i32_64, e1, e4, f1, f2, f3, f4, g1, g2, g3, g4, xb_t, xb_f, i32_10, mf_12, ms_12, q0, q1, q2, q3, q4, xin_nI b0 (by decide), nI_clamp (lt31 b0 (by decide)), xin_nI b1 (by decide), nI_clamp (lt31 b1 (by decide)), xin_nI b2 (by decide), nI_clamp (lt31 b2 (by decide)), xin_nI b3 (by decide), nI_clamp (lt31 b3 (by decide)), xin_nI b4 (by decide), nI_clamp (lt31 b4 (by decide)), Bool.and_self, b_tf, Option.bind_some, Option.toList_some, Option.toList_none, List.cons_append, List.nil_append, Option.isSome_some, if_true, eq_self, or_true, true_or, xb_01, mcl_cl, not_true_eq_false, not_false_eq_true, if_false]
              rfl
def fWinOf (S : MS) (i j : Int32) : Int32 := if mSl i = false then -1 else if mWithin j.toInt 0 4 = false then -1 else S.2.2.1 12 (5 * tn i + tn j)
theorem e187 : X g 187 0 [.val (va_rf (some mu)), .val (.int i), .val (.int j)] [] (mH n kc ks mu S) = some (some (.int (fWinOf S i j)), mH n kc ks mu S) := by
  unfold fWinOf
  by_cases e1 : mSl i = false
  · rw [if_pos e1]
    simp only [x187_0, x187_1, x187_4, x187_7, x187_8, x187_9, x187_10, x187_13, x187_16, x187_19, x187_20, x187_21, x187_22, x187_25, x187_28, x187_29, c184', e1, xb_f, Option.bind_some, Option.toList_some, Option.toList_none, List.cons_append, List.nil_append, Option.isSome_some, if_true, eq_self, or_true, true_or, xb_01, mcl_cl, not_true_eq_false, not_false_eq_true, if_false]
  · have e1 : mSl i = true := by simpa using e1
    obtain ⟨e2, e3⟩ := mSl_eq e1
    rw [if_neg (by rw [e1]; simp)]
    by_cases e4 : mWithin j.toInt 0 4 = false
    · have e5 : mWithin j.toInt (Int64.toInt 0) (Int64.toInt 4) = false := e4
      rw [if_pos e4]
      simp only [x187_0, x187_1, x187_4, x187_7, x187_8, x187_9, x187_10, x187_13, x187_16, x187_19, x187_20, x187_21, x187_22, x187_25, x187_28, x187_29, c184', c154, i32_64, e1, e5, xb_t, xb_f, i32_10, Option.bind_some, Option.toList_some, Option.toList_none, List.cons_append, List.nil_append, Option.isSome_some, if_true, eq_self, or_true, true_or, xb_01, mcl_cl, not_true_eq_false, not_false_eq_true, if_false]
    · have e4 : mWithin j.toInt 0 4 = true := by simpa using e4
      have e5 : mWithin j.toInt (Int64.toInt 0) (Int64.toInt 4) = true := e4
      rw [if_neg (by rw [e4]; simp)]
      have hj := mWithin_iff.mp e4
      have e6 := nI_tn hj.1
      have e7 : tn j < 5 := by unfold tn; omega
      rw [e2] at e1
      generalize tn i = w at *
      rw [e6] at e5
      generalize tn j = z at *
      subst e2
      subst e6
      simp only [x187_0, x187_1, x187_4, x187_7, x187_8, x187_9, x187_10, x187_13, x187_16, x187_19, x187_20, x187_21, x187_22, x187_25, x187_28, x187_29, c184', c154, c185 e3 e7, i32_64, e1, e5, xb_t, xb_f, i32_10, Option.bind_some, Option.toList_some, Option.toList_none, List.cons_append, List.nil_append, Option.isSome_some, if_true, eq_self, or_true, true_or, xb_01, mcl_cl, not_true_eq_false, not_false_eq_true, if_false]
def fLook (S : MS) (i j : Int32) : Int32 × MS := if mSl i = false then (-1, S) else (sAns (sLook S (tn i) j (sVw S (tn i))), if sLook S (tn i) j (sVw S (tn i)) = 0 then mLat (mIs S (sLk S (tn i) j (sVw S (tn i))) (sLv S (tn i) j (sVw S (tn i)))) 0 else mCtd S (sLook S (tn i) j (sVw S (tn i))))
theorem mCtd_is (x : Int32) : mCtd (mIs S a b) x = mIs (mCtd S x) a b := rfl
theorem e191 (hW : mW S) (hz : mZ S) (hv : mV S) (hk : mKd S) : ∃ a b, X g 191 0 [.val (va_rf (some mu)), .val (.int i), .val (.int j)] [] (mH n kc ks mu S) = some (some (.int (fLook S i j).1), mH n kc ks mu (mIs (fLook S i j).2 a b)) := by
  unfold fLook
  by_cases e1 : mSl i = false
  · refine ⟨S.1 0, S.2.1 1, ?_⟩
    rw [if_pos e1, mIs_self]
    simp only [x191_0, x191_1, x191_4, x191_7, x191_8, x191_9, x191_10, x191_11, x191_12, x191_13, x191_14, x191_17, x191_20, x191_23, x191_26, x191_27, c184', e1, xb_f, Option.bind_some, Option.toList_some, Option.toList_none, List.cons_append, List.nil_append, Option.isSome_some, if_true, eq_self, or_true, true_or, xb_01, mcl_cl, not_true_eq_false, not_false_eq_true, if_false]
  · have e1 : mSl i = true := by simpa using e1
    obtain ⟨e2, e3⟩ := mSl_eq e1
    rw [if_neg (by rw [e1]; simp)]
    obtain ⟨a1, b1, h1, h2⟩ := e189 (g := g) (n := n) (kc := kc) (ks := ks) (mu := mu) (j := j) (v := sVw S (tn i)) e3 hW hz hv hk (S.1 0) (S.2.1 1)
    rw [mIs_self] at h1
    rw [e2] at e1
    generalize tn i = w at *
    subst e2
    have e9 : S.2.2.1 12 (5 * w + 4) = sVw S w := rfl
    by_cases e : sLook S w j (sVw S w) = 0
    · obtain ⟨y1, y2⟩ := h2 e
      refine ⟨a1, b1, ?_⟩
      rw [if_pos e]
      have z : mIs (mLat (mIs S (sLk S w j (sVw S w)) (sLv S w j (sVw S w))) 0) a1 b1 = mLat (mIs S a1 b1) 0 := by
        rw [← y1, ← y2]
        exact mIs_self (mLat (mIs S a1 b1) 0)
      dsimp only
      rw [z]
      rw [e] at h1 ⊢
      simp only [x191_0, x191_1, x191_4, x191_7, x191_8, x191_9, x191_10, x191_11, x191_12, x191_13, x191_14, x191_17, x191_20, x191_23, x191_26, x191_27, c184', d185_4 e3, e9, e1, h1, e177 (x := 0) (Or.inl rfl), xb_t, i32_10, Option.bind_some, Option.toList_some, Option.toList_none, List.cons_append, List.nil_append, Option.isSome_some, if_true, eq_self, or_true, true_or, xb_01, mcl_cl, not_true_eq_false, not_false_eq_true, if_false]
    · refine ⟨a1, b1, ?_⟩
      rw [if_neg e]
      dsimp only
      rw [← mCtd_is]
      have hm : mLat (mIs S a1 b1) (sLook S w j (sVw S w)) = mCtd (mIs S a1 b1) (sLook S w j (sVw S w)) := if_neg e
      simp only [x191_0, x191_1, x191_4, x191_7, x191_8, x191_9, x191_10, x191_11, x191_12, x191_13, x191_14, x191_17, x191_20, x191_23, x191_26, x191_27, c184', d185_4 e3, e9, e1, h1, e177 (sLook_why _ _ _ _), hm, xb_t, i32_10, Option.bind_some, Option.toList_some, Option.toList_none, List.cons_append, List.nil_append, Option.isSome_some, if_true, eq_self, or_true, true_or, xb_01, mcl_cl, not_true_eq_false, not_false_eq_true, if_false]
-- a slot's row, or why there is none
def sNo (S : MS) (i : Int32) : Int32 := if mSlot i = false then -1 else if S.2.2.1 7 (tn i) = -11 then -11 else if mRow S (tn i) = true then 0 else -12
theorem e215 : X g 215 0 [.val (va_rf (some mu)), .val (.int i)] [] (mH n kc ks mu S) = some (some (.int (sNo S i)), mH n kc ks mu S) := by
  unfold sNo
  by_cases e1 : mSlot i = false
  · rw [if_pos e1]
    simp only [x215_0, x215_1, x215_4, x215_7, x215_8, x215_11, x215_12, x215_15, x215_16, x215_17, x215_19, x215_22, x215_24, x215_27, x215_28, x215_29, x215_32, x215_35, x215_36, x215_39, x215_41, c164, e1, xb_f, Option.bind_some, Option.toList_some, Option.toList_none, List.cons_append, List.nil_append, Option.isSome_some, if_true, eq_self, or_true, true_or, xb_01, mcl_cl, not_true_eq_false, not_false_eq_true, if_false]
  · have e1 : mSlot i = true := by simpa using e1
    obtain ⟨e2, e3⟩ := mSlot_eq e1
    rw [if_neg (by rw [e1]; simp)]
    rw [e2] at e1
    generalize tn i = s at *
    subst e2
    by_cases e4 : S.2.2.1 7 s = -11
    · simp only [x215_0, x215_1, x215_4, x215_7, x215_8, x215_11, x215_12, x215_15, x215_16, x215_17, x215_19, x215_22, x215_24, x215_27, x215_28, x215_29, x215_32, x215_35, x215_36, x215_39, x215_41, c164, c165 e3, e1, mf_7, ml_7, xin_nI e3 (by decide), nI_clamp (lt31 e3 (by decide)), e4, xb_t, i32_10, Option.bind_some, Option.toList_some, Option.toList_none, List.cons_append, List.nil_append, Option.isSome_some, if_true, eq_self, or_true, true_or, xb_01, mcl_cl, not_true_eq_false, not_false_eq_true, if_false]
    · cases e5 : mRow S s <;> simp only [x215_0, x215_1, x215_4, x215_7, x215_8, x215_11, x215_12, x215_15, x215_16, x215_17, x215_19, x215_22, x215_24, x215_27, x215_28, x215_29, x215_32, x215_35, x215_36, x215_39, x215_41, c164, c165 e3, e1, e5, mf_7, ml_7, xin_nI e3 (by decide), nI_clamp (lt31 e3 (by decide)), e4, xb_t, xb_f, i32_10, b_ft, Option.bind_some, Option.toList_some, Option.toList_none, List.cons_append, List.nil_append, Option.isSome_some, if_true, eq_self, or_true, true_or, xb_01, mcl_cl, not_true_eq_false, not_false_eq_true, if_false]
theorem sNo_0 (h : sNo S i = 0) : i = nI (tn i) ∧ tn i < 10 ∧ mRow S (tn i) = true := by
  unfold sNo at h
  by_cases e1 : mSlot i = false
  · rw [if_pos e1] at h
    exact absurd h (by decide)
  · have e1' : mSlot i = true := by simpa using e1
    rw [if_neg e1] at h
    by_cases e4 : S.2.2.1 7 (tn i) = -11
    · rw [if_pos e4] at h
      exact absurd h (by decide)
    · rw [if_neg e4] at h
      by_cases e5 : mRow S (tn i) = true
      · exact ⟨(mSlot_eq e1').1, (mSlot_eq e1').2, e5⟩
      · rw [if_neg e5] at h
        exact absurd h (by decide)
end M10
