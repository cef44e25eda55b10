/-! THE REFERENCE's methods, 8: orders, finding, reading, windows set -/
def pLt (d e : UInt64) : Bool := decide (Op.cmpValue (FP.dcmp d e) .g < 0)
/-- whether a number comes ahead of another one, by the view -/
def sLs (v : Int32) (x y : Int64) (j k : Nat) : Bool := if 6 ≤ v then (pLt (pReal v x) (pReal v y) || (pSame (pReal v x) (pReal v y) && decide (j < k))) else if x = y then decide (j < k) else decide (x.toInt < y.toInt)
section M9
variable {g : xG} {n kc ks mu s w q p : Nat} {S : MS} {h : xH} {i j k v : Int32} {u : Int64} {a : Int32} {b : Int64}
theorem lcmp_ge0 (x y : Int64) : (0 ≤ lg_cmp x y) = ¬ (x.toInt < y.toInt) := by
  rw [← lcmp_lt0]
  exact propext Int32.not_lt.symm
theorem e196 {y z : Nat} (hw : w < 6) (hW : mW S) (hz : mZ S) (hv : mV S) (hk : mKd S) (hy : y < 32) (hzz : z < 32) (h8 : S.2.2.1 12 (5 * w + 4) ≠ 8) (f1 : sLook S w (nI y) (S.2.2.1 12 (5 * w + 4)) = 0) (f2 : sLook S w (nI z) (S.2.2.1 12 (5 * w + 4)) = 0) (a : Int32) (b : Int64) : ∃ a' b', X g 196 0 [.val (va_rf (some mu)), .val (.int (nI w)), .val (.int (nI y)), .val (.int (nI z)), .unset, .unset, .unset, .unset, .unset, .unset, .unset] [] (mH n kc ks mu (mIs S a b)) = some (some (.int (xb (sLs (S.2.2.1 12 (5 * w + 4)) (sLv S w (nI y) (S.2.2.1 12 (5 * w + 4))) (sLv S w (nI z) (S.2.2.1 12 (5 * w + 4))) y z))), mH n kc ks mu (mIs S a' b')) := by
  obtain ⟨a1, b1, h1, h2⟩ := e189 (g := g) (n := n) (kc := kc) (ks := ks) (mu := mu) (j := nI y) (v := S.2.2.1 12 (5 * w + 4)) hw hW hz hv hk a b
  obtain ⟨y1, y2⟩ := h2 f1
  subst y1
  subst y2
  obtain ⟨a2, b2, h3, h4⟩ := e189 (g := g) (n := n) (kc := kc) (ks := ks) (mu := mu) (j := nI z) (v := S.2.2.1 12 (5 * w + 4)) hw hW hz hv hk (sLk S w (nI y) (S.2.2.1 12 (5 * w + 4))) (sLv S w (nI y) (S.2.2.1 12 (5 * w + 4)))
  obtain ⟨y1, y2⟩ := h4 f2
  subst y1
  subst y2
  have o1 := okv_look hz hv hk f1
  have o2 := okv_look hz hv hk f2
  have k1 : sLk S w (nI y) (S.2.2.1 12 (5 * w + 4)) = S.2.2.1 12 (5 * w + 4) := if_neg h8
  have k2 : sLk S w (nI z) (S.2.2.1 12 (5 * w + 4)) = S.2.2.1 12 (5 * w + 4) := if_neg h8
  rw [k1] at o1
  rw [k2] at o2
  refine ⟨sLk S w (nI z) (S.2.2.1 12 (5 * w + 4)), sLv S w (nI z) (S.2.2.1 12 (5 * w + 4)), ?_⟩
  unfold sLs
  have hl : (nI z ≤ nI y) = (z ≤ y) := propext (nI_leI (by omega) (by omega))
  by_cases e6 : (6 : Int32) ≤ S.2.2.1 12 (5 * w + 4)
  · have e7 : ¬ S.2.2.1 12 (5 * w + 4) < 6 := Int32.not_lt.mpr e6
    simp only [x196_0, x196_1, x196_2, x196_3, x196_6, x196_8, x196_9, x196_10, x196_11, x196_13, x196_16, x196_17, x196_18, x196_21, x196_23, x196_24, x196_25, x196_26, x196_28, x196_31, x196_32, x196_34, x196_36, x196_39, x196_41, x196_43, x196_46, x196_48, x196_50, x196_51, x196_54, x196_57, x196_59, x196_61, x196_63, x196_64, x196_67, x196_69, x196_71, x196_72, x196_75, x196_76, x196_77, x196_80, x196_81, x196_84, x196_85, x196_86, x196_88, x196_89, x196_92, x196_93, x196_96, x196_98, x196_99, x196_102, x196_103, x196_106, x196_107, x196_110, x196_111, x196_114, x196_115, x196_116, x196_119, x196_120, x196_123, x196_124, d185_4 hw, mIs3, h1, h3, mf_1, mIs2, e6, e7, d159 o1, d159 o2, hl, Option.bind_some, Option.toList_some, Option.toList_none, List.cons_append, List.nil_append, Option.isSome_some, if_true, eq_self, or_true, true_or, xb_01, mcl_cl, not_true_eq_false, not_false_eq_true, if_false]
    unfold pLt pSame
    by_cases z1 : Op.cmpValue (FP.dcmp (pReal (S.2.2.1 12 (5 * w + 4)) (sLv S w (nI y) (S.2.2.1 12 (5 * w + 4)))) (pReal (S.2.2.1 12 (5 * w + 4)) (sLv S w (nI z) (S.2.2.1 12 (5 * w + 4))))) .g < 0
    · simp [z1, xb]
    · by_cases z2 : Op.cmpValue (FP.dcmp (pReal (S.2.2.1 12 (5 * w + 4)) (sLv S w (nI y) (S.2.2.1 12 (5 * w + 4)))) (pReal (S.2.2.1 12 (5 * w + 4)) (sLv S w (nI z) (S.2.2.1 12 (5 * w + 4))))) .l = 0
      · by_cases z3 : y < z
        · have z4 : ¬ z ≤ y := by omega
          simp [z1, z2, z3, z4, xb]
        · have z4 : z ≤ y := by omega
          simp [z1, z2, z3, z4, xb]
      · simp [z1, z2, xb]
  · have e7 : S.2.2.1 12 (5 * w + 4) < 6 := Int32.not_le.mp e6
    simp only [x196_0, x196_1, x196_2, x196_3, x196_6, x196_8, x196_9, x196_10, x196_11, x196_13, x196_16, x196_17, x196_18, x196_21, x196_23, x196_24, x196_25, x196_26, x196_28, x196_31, x196_32, x196_34, x196_36, x196_39, x196_41, x196_43, x196_46, x196_48, x196_50, x196_51, x196_54, x196_57, x196_59, x196_61, x196_63, x196_64, x196_67, x196_69, x196_71, x196_72, x196_75, x196_76, x196_77, x196_80, x196_81, x196_84, x196_85, x196_86, x196_88, x196_89, x196_92, x196_93, x196_96, x196_98, x196_99, x196_102, x196_103, x196_106, x196_107, x196_110, x196_111, x196_114, x196_115, x196_116, x196_119, x196_120, x196_123, x196_124, d185_4 hw, mIs3, h1, h3, mf_1, mIs2, e6, e7, hl, lcmp_eq0, lcmp_ge0, Option.bind_some, Option.toList_some, Option.toList_none, List.cons_append, List.nil_append, Option.isSome_some, if_true, eq_self, or_true, true_or, xb_01, mcl_cl, not_true_eq_false, not_false_eq_true, if_false]
    by_cases z1 : sLv S w (nI y) (S.2.2.1 12 (5 * w + 4)) = sLv S w (nI z) (S.2.2.1 12 (5 * w + 4))
    · by_cases z3 : y < z
      · have z4 : ¬ z ≤ y := by omega
        simp [z1, z3, z4, xb]
      · have z4 : z ≤ y := by omega
        simp [z1, z3, z4, xb]
    · by_cases z3 : (sLv S w (nI y) (S.2.2.1 12 (5 * w + 4))).toInt < (sLv S w (nI z) (S.2.2.1 12 (5 * w + 4))).toInt <;> simp [z1, z3, xb]
def sVw (S : MS) (w : Nat) : Int32 := S.2.2.1 12 (5 * w + 4)
/-- how many cells of a window come ahead of one -/
def sAhead (S : MS) (w z : Nat) : Nat → Nat → Nat := mCnt (fun y => !decide (y = z) && sLs (sVw S w) (sLv S w (nI y) (sVw S w)) (sLv S w (nI z) (sVw S w)) y z)
theorem l197a {z : Nat} (hw : w < 6) (hW : mW S) (hz : mZ S) (hv : mV S) (hk : mKd S) (h8 : S.2.2.1 12 (5 * w + 4) ≠ 8) (hf : ∀ q, q < sMany S w → sFa S w (nI q) = 0) (hzz : z < sMany S w) (f : Int32) : ∀ d s m a b, s + d = sMany S w → ∃ a' b', X g 197 66 [.val (va_rf (some mu)), .val (.int (nI w)), .val (.int i), .val (.int f), .val (.int (nI z)), .val (.int (nI m)), .val (.int (nI s))] [] (mH n kc ks mu (mIs S a b)) = X g 197 112 [.val (va_rf (some mu)), .val (.int (nI w)), .val (.int i), .val (.int f), .val (.int (nI z)), .val (.int (nI (m + sAhead S w z s d))), .val (.int (nI (sMany S w)))] [] (mH n kc ks mu (mIs S a' b')) := by
  obtain ⟨m1, m2⟩ := sMany_eq hW hw
  intro d
  induction d with
  | zero =>
    intro s m a b hs
    have h1 : nI (sMany S w) ≤ nI s := nI_le (by omega) (by omega)
    have e : s = sMany S w := by omega
    subst e
    refine ⟨a, b, ?_⟩
    simp only [x197_66, x197_68, x197_69, x197_70, x197_71, x197_74, x197_77, x197_79, x197_81, x197_83, x197_86, x197_87, x197_88, x197_90, x197_92, x197_95, x197_98, x197_99, x197_102, x197_103, x197_104, x197_106, d185_3 hw, mIs3, m1, h1, sAhead, mCnt, Nat.add_zero, Option.bind_some, Option.toList_some, Option.toList_none, List.cons_append, List.nil_append, Option.isSome_some, if_true, eq_self, or_true, true_or, xb_01, mcl_cl, not_true_eq_false, not_false_eq_true, if_false]
  | succ d ih =>
    intro s m a b hs
    have h1 : ¬ nI (sMany S w) ≤ nI s := nI_ge (by omega) (by omega)
    obtain ⟨y1, _⟩ := sFa_0 (hf s (by omega))
    obtain ⟨y2, _⟩ := sFa_0 (hf z (by omega))
    obtain ⟨a1, b1, h2⟩ := e196 (g := g) (n := n) (kc := kc) (ks := ks) (mu := mu) (y := s) (z := z) hw hW hz hv hk (by omega) (by omega) h8 y1 y2 a b
    have hl : (nI s = nI z) = (s = z) := propext (nI_eq (by omega) (by omega))
    by_cases e1 : s = z
    · subst e1
      obtain ⟨a2, b2, h3⟩ := ih (s + 1) m a b (by omega)
      refine ⟨a2, b2, ?_⟩
      simp only [x197_66, x197_68, x197_69, x197_70, x197_71, x197_74, x197_77, x197_79, x197_81, x197_83, x197_86, x197_87, x197_88, x197_90, x197_92, x197_95, x197_98, x197_99, x197_102, x197_103, x197_104, x197_106, d185_3 hw, mIs3, m1, h1, Int32.add_zero, Option.bind_some, Option.toList_some, Option.toList_none, List.cons_append, List.nil_append, Option.isSome_some, if_true, eq_self, or_true, true_or, xb_01, mcl_cl, not_true_eq_false, not_false_eq_true, if_false]
      simp only [x197_109, x197_124, nI_1]
      rw [h3]
      have : sAhead S w s s (d + 1) = sAhead S w s (s + 1) d := by simp [sAhead, mCnt]
      rw [this]
    · cases e2 : sLs (S.2.2.1 12 (5 * w + 4)) (sLv S w (nI s) (S.2.2.1 12 (5 * w + 4))) (sLv S w (nI z) (S.2.2.1 12 (5 * w + 4))) s z with
      | false =>
        obtain ⟨a2, b2, h3⟩ := ih (s + 1) m a1 b1 (by omega)
        refine ⟨a2, b2, ?_⟩
        rw [e2] at h2
        simp only [x197_66, x197_68, x197_69, x197_70, x197_71, x197_74, x197_77, x197_79, x197_81, x197_83, x197_86, x197_87, x197_88, x197_90, x197_92, x197_95, x197_98, x197_99, x197_102, x197_103, x197_104, x197_106, d185_3 hw, mIs3, m1, h1, hl, e1, h2, xb_f, Int32.add_zero, Option.bind_some, Option.toList_some, Option.toList_none, List.cons_append, List.nil_append, Option.isSome_some, if_true, eq_self, or_true, true_or, xb_01, mcl_cl, not_true_eq_false, not_false_eq_true, if_false]
        simp only [x197_109, x197_124, nI_1]
        rw [h3]
        have : sAhead S w z s (d + 1) = sAhead S w z (s + 1) d := by simp [sAhead, mCnt, e1, sVw, e2]
        rw [this]
      | true =>
        obtain ⟨a2, b2, h3⟩ := ih (s + 1) (m + 1) a1 b1 (by omega)
        refine ⟨a2, b2, ?_⟩
        rw [e2] at h2
        simp only [x197_66, x197_68, x197_69, x197_70, x197_71, x197_74, x197_77, x197_79, x197_81, x197_83, x197_86, x197_87, x197_88, x197_90, x197_92, x197_95, x197_98, x197_99, x197_102, x197_103, x197_104, x197_106, d185_3 hw, mIs3, m1, h1, hl, e1, h2, xb_t, i32_10, Option.bind_some, Option.toList_some, Option.toList_none, List.cons_append, List.nil_append, Option.isSome_some, if_true, eq_self, or_true, true_or, xb_01, mcl_cl, not_true_eq_false, not_false_eq_true, if_false]
        simp only [x197_109, x197_124, nI_1]
        rw [h3]
        have : m + 1 + sAhead S w z (s + 1) d = m + sAhead S w z s (d + 1) := by simp [sAhead, mCnt, e1, sVw, e2, Nat.add_assoc]
        rw [this]
/-- the place that has so many ahead, or -5 -/
def sRank (S : MS) (w : Nat) (i : Int32) : Nat → Nat → Int32 := mFst (fun z => decide (nI (sAhead S w z 0 (sMany S w)) = i))
theorem l197 (hw : w < 6) (hW : mW S) (hz : mZ S) (hv : mV S) (hk : mKd S) (h8 : S.2.2.1 12 (5 * w + 4) ≠ 8) (hf : ∀ q, q < sMany S w → sFa S w (nI q) = 0) (f : Int32) : ∀ d s a b (s5 s6 : Slot), s + d = sMany S w → ∃ a' b', X g 197 49 [.val (va_rf (some mu)), .val (.int (nI w)), .val (.int i), .val (.int f), .val (.int (nI s)), s5, s6] [] (mH n kc ks mu (mIs S a b)) = some (some (.int (sRank S w i s d)), mH n kc ks mu (mIs S a' b')) := by
  obtain ⟨m1, m2⟩ := sMany_eq hW hw
  intro d
  induction d with
  | zero =>
    intro s a b s5 s6 hs
    have h1 : nI (sMany S w) ≤ nI s := nI_le (by omega) (by omega)
    refine ⟨a, b, ?_⟩
    simp only [x197_49, x197_51, x197_52, x197_53, x197_54, x197_57, x197_60, x197_127, x197_129, d185_3 hw, mIs3, m1, h1, sRank, mFst, Option.bind_some, Option.toList_some, Option.toList_none, List.cons_append, List.nil_append, Option.isSome_some, if_true, eq_self, or_true, true_or, xb_01, mcl_cl, not_true_eq_false, not_false_eq_true, if_false]
  | succ d ih =>
    intro s a b s5 s6 hs
    have h1 : ¬ nI (sMany S w) ≤ nI s := nI_ge (by omega) (by omega)
    obtain ⟨a1, b1, h2⟩ := l197a (g := g) (n := n) (kc := kc) (ks := ks) (mu := mu) (i := i) (z := s) hw hW hz hv hk h8 hf (by omega) f (sMany S w) 0 0 a b (by omega)
    rw [Nat.zero_add] at h2
    have h2' : X g 197 66 [.val (va_rf (some mu)), .val (.int (nI w)), .val (.int i), .val (.int f), .val (.int (nI s)), .val (.int 0), .val (.int 0)] [] (mH n kc ks mu (mIs S a b)) = X g 197 112 [.val (va_rf (some mu)), .val (.int (nI w)), .val (.int i), .val (.int f), .val (.int (nI s)), .val (.int (nI (sAhead S w s 0 (sMany S w)))), .val (.int (nI (sMany S w)))] [] (mH n kc ks mu (mIs S a1 b1)) := h2
    by_cases h3 : nI (sAhead S w s 0 (sMany S w)) = i
    · refine ⟨a1, b1, ?_⟩
      simp only [x197_49, x197_51, x197_52, x197_53, x197_54, x197_57, x197_60, x197_61, x197_63, x197_64, d185_3 hw, mIs3, m1, h1, h2', Option.bind_some, Option.toList_some, Option.toList_none, List.cons_append, List.nil_append, Option.isSome_some, if_true, eq_self, or_true, true_or, xb_01, mcl_cl, not_true_eq_false, not_false_eq_true, if_false]
      simp only [x197_112, x197_114, x197_115, x197_118, x197_120, x197_121, h3, Option.bind_some, Option.toList_some, Option.toList_none, List.cons_append, List.nil_append, Option.isSome_some, if_true, eq_self, or_true, true_or, xb_01, mcl_cl, not_true_eq_false, not_false_eq_true, if_false]
      simp [sRank, mFst, h3]
    · obtain ⟨a2, b2, h4⟩ := ih (s + 1) a1 b1 _ _ (by omega)
      refine ⟨a2, b2, ?_⟩
      simp only [x197_49, x197_51, x197_52, x197_53, x197_54, x197_57, x197_60, x197_61, x197_63, x197_64, d185_3 hw, mIs3, m1, h1, h2', Option.bind_some, Option.toList_some, Option.toList_none, List.cons_append, List.nil_append, Option.isSome_some, if_true, eq_self, or_true, true_or, xb_01, mcl_cl, not_true_eq_false, not_false_eq_true, if_false]
      simp only [x197_112, x197_114, x197_115, x197_118, x197_120, x197_121, h3, Option.bind_some, Option.toList_some, Option.toList_none, List.cons_append, List.nil_append, Option.isSome_some, if_true, eq_self, or_true, true_or, xb_01, mcl_cl, not_true_eq_false, not_false_eq_true, if_false]
      simp only [x197_124, nI_1]
      rw [h4]
      simp [sRank, mFst, h3]
def fLeast (S : MS) (i j : Int32) : Int32 := if mSl i = false then -1 else if j < 0 then -1 else if sVw S (tn i) = 8 then -2 else if sFf S (tn i) = -5 then sRank S (tn i) j 0 (sMany S (tn i)) else sFa S (tn i) (sFf S (tn i))
theorem e197 (hW : mW S) (hz : mZ S) (hv : mV S) (hk : mKd S) : ∃ a b, X g 197 0 [.val (va_rf (some mu)), .val (.int i), .val (.int j), .unset, .unset, .unset, .unset] [] (mH n kc ks mu S) = some (some (.int (fLeast S i j)), mH n kc ks mu (mIs S a b)) := by
  unfold fLeast
  by_cases e1 : mSl i = false
  · refine ⟨S.1 0, S.2.1 1, ?_⟩
    rw [mIs_self]
    simp only [x197_0, x197_1, x197_4, x197_7, x197_8, x197_11, x197_12, x197_13, x197_14, x197_15, x197_16, x197_19, x197_21, x197_24, x197_26, x197_27, x197_28, x197_29, x197_32, x197_33, x197_34, x197_36, x197_39, x197_40, x197_41, x197_42, x197_45, x197_46, x197_47, c184', e1, xb_f, Option.bind_some, Option.toList_some, Option.toList_none, List.cons_append, List.nil_append, Option.isSome_some, if_true, eq_self, or_true, true_or, xb_01, mcl_cl, not_true_eq_false, not_false_eq_true, if_false]
  · have e1 : mSl i = true := by simpa using e1
    rw [if_neg (by rw [e1]; simp)]
    obtain ⟨e2, e3⟩ := mSl_eq e1
    by_cases e5 : j < 0
    · have e6 : ¬ (0 : Int32) ≤ j := Int32.not_le.mpr e5
      refine ⟨S.1 0, S.2.1 1, ?_⟩
      rw [mIs_self, if_pos e5]
      simp only [x197_0, x197_1, x197_4, x197_7, x197_8, x197_11, x197_12, x197_13, x197_14, x197_15, x197_16, x197_19, x197_21, x197_24, x197_26, x197_27, x197_28, x197_29, x197_32, x197_33, x197_34, x197_36, x197_39, x197_40, x197_41, x197_42, x197_45, x197_46, x197_47, c184', e1, e6, xb_t, i32_10, Option.bind_some, Option.toList_some, Option.toList_none, List.cons_append, List.nil_append, Option.isSome_some, if_true, eq_self, or_true, true_or, xb_01, mcl_cl, not_true_eq_false, not_false_eq_true, if_false]
    · have e6 : (0 : Int32) ≤ j := Int32.not_lt.mp e5
      rw [if_neg e5]
      obtain ⟨a1, b1, h1⟩ := e193 (g := g) (n := n) (kc := kc) (ks := ks) (mu := mu) e3 hW hz hv hk (S.1 0) (S.2.1 1)
      rw [mIs_self] at h1
      obtain ⟨a2, b2, h2⟩ := e192 (g := g) (n := n) (kc := kc) (ks := ks) (mu := mu) (j := sFf S (tn i)) e3 hW hz hv hk a1 b1
      rw [e2] at e1
      have h3 := sFf_none (S := S) hW e3
      generalize tn i = w at *
      subst e2
      by_cases e7 : sVw S w = 8
      · refine ⟨S.1 0, S.2.1 1, ?_⟩
        rw [mIs_self, if_pos e7]
        have e8 : S.2.2.1 12 (5 * w + 4) = 8 := e7
        simp only [x197_0, x197_1, x197_4, x197_7, x197_8, x197_11, x197_12, x197_13, x197_14, x197_15, x197_16, x197_19, x197_21, x197_24, x197_26, x197_27, x197_28, x197_29, x197_32, x197_33, x197_34, x197_36, x197_39, x197_40, x197_41, x197_42, x197_45, x197_46, x197_47, c184', e1, e6, d185_4 e3, e8, xb_t, i32_10, Option.bind_some, Option.toList_some, Option.toList_none, List.cons_append, List.nil_append, Option.isSome_some, if_true, eq_self, or_true, true_or, xb_01, mcl_cl, not_true_eq_false, not_false_eq_true, if_false]
      · have e8 : ¬ S.2.2.1 12 (5 * w + 4) = 8 := e7
        rw [if_neg e7]
        by_cases e4 : sFf S w = -5
        · obtain ⟨a3, b3, h4⟩ := l197 (g := g) (n := n) (kc := kc) (ks := ks) (mu := mu) (i := j) e3 hW hz hv hk e8 (h3 e4) (-5) (sMany S w) 0 a1 b1 .unset .unset (by omega)
          have h4' : X g 197 49 [.val (va_rf (some mu)), .val (.int (nI w)), .val (.int j), .val (.int (-5)), .val (.int 0), .unset, .unset] [] (mH n kc ks mu (mIs S a1 b1)) = some (some (.int (sRank S w j 0 (sMany S w))), mH n kc ks mu (mIs S a3 b3)) := h4
          refine ⟨a3, b3, ?_⟩
          rw [if_pos e4]
          simp only [x197_0, x197_1, x197_4, x197_7, x197_8, x197_11, x197_12, x197_13, x197_14, x197_15, x197_16, x197_19, x197_21, x197_24, x197_26, x197_27, x197_28, x197_29, x197_32, x197_33, x197_34, x197_36, x197_39, x197_40, x197_41, x197_42, x197_45, x197_46, x197_47, c184', e1, e6, d185_4 e3, e8, h1, e4, xb_t, i32_10, h4', Option.bind_some, Option.toList_some, Option.toList_none, List.cons_append, List.nil_append, Option.isSome_some, if_true, eq_self, or_true, true_or, xb_01, mcl_cl, not_true_eq_false, not_false_eq_true, if_false]
        · refine ⟨a2, b2, ?_⟩
          rw [if_neg e4]
          simp only [x197_0, x197_1, x197_4, x197_7, x197_8, x197_11, x197_12, x197_13, x197_14, x197_15, x197_16, x197_19, x197_21, x197_24, x197_26, x197_27, x197_28, x197_29, x197_32, x197_33, x197_34, x197_36, x197_39, x197_40, x197_41, x197_42, x197_45, x197_46, x197_47, c184', e1, e6, d185_4 e3, e8, h1, h2, e4, xb_t, i32_10, Option.bind_some, Option.toList_some, Option.toList_none, List.cons_append, List.nil_append, Option.isSome_some, if_true, eq_self, or_true, true_or, xb_01, mcl_cl, not_true_eq_false, not_false_eq_true, if_false]
def sFind (S : MS) (w : Nat) (k : Int32) (x : Int64) (j : Nat) : Bool := decide (sLook S w (nI j) (sVw S w) = 0) && pAlike (sLk S w (nI j) (sVw S w)) (sLv S w (nI j) (sVw S w)) k x
theorem l198 (hw : w < 6) (hW : mW S) (hz : mZ S) (hv : mV S) (hk : mKd S) {x : Int64} (hx : okv k x) (i0 : Int32) (j0 : Int64) : ∀ d s a b, s + d = sMany S w ∨ (d = 0 ∧ sMany S w ≤ s) → s < 2 ^ 31 → ∃ a' b', X g 198 53 [.val (va_rf (some mu)), .val (.int (nI w)), .val (.int i0), .val (.int k), .val (.long j0), .second, .val (.long x), .second, .val (.int (nI s))] [] (mH n kc ks mu (mIs S a b)) = some (some (.int (mFst (sFind S w k x) s d)), mH n kc ks mu (mIs S a' b')) := by
  obtain ⟨m1, m2⟩ := sMany_eq hW hw
  intro d
  induction d with
  | zero =>
    intro s a b hs hs2
    have h1 : nI (sMany S w) ≤ nI s := nI_le (by omega) (by omega)
    refine ⟨a, b, ?_⟩
    simp only [x198_53, x198_55, x198_56, x198_57, x198_58, x198_61, x198_64, x198_65, x198_66, x198_68, x198_69, x198_70, x198_71, x198_74, x198_77, x198_80, x198_81, x198_84, x198_85, x198_88, x198_89, x198_91, x198_94, x198_97, x198_99, x198_100, x198_106, x198_108, d185_3 hw, mIs3, m1, h1, mFst, Option.bind_some, Option.toList_some, Option.toList_none, List.cons_append, List.nil_append, Option.isSome_some, if_true, eq_self, or_true, true_or, xb_01, mcl_cl, not_true_eq_false, not_false_eq_true, if_false]
  | succ d ih =>
    intro s a b hs hs2
    have h1 : ¬ nI (sMany S w) ≤ nI s := nI_ge (by omega) (by omega)
    obtain ⟨a1, b1, h2, h3⟩ := e189 (g := g) (n := n) (kc := kc) (ks := ks) (mu := mu) (j := nI s) (v := S.2.2.1 12 (5 * w + 4)) hw hW hz hv hk a b
    by_cases e : sLook S w (nI s) (S.2.2.1 12 (5 * w + 4)) = 0
    · obtain ⟨y1, y2⟩ := h3 e
      subst y1
      subst y2
      cases e2 : pAlike (sLk S w (nI s) (S.2.2.1 12 (5 * w + 4))) (sLv S w (nI s) (S.2.2.1 12 (5 * w + 4))) k x with
      | true =>
        refine ⟨sLk S w (nI s) (S.2.2.1 12 (5 * w + 4)), sLv S w (nI s) (S.2.2.1 12 (5 * w + 4)), ?_⟩
        simp only [x198_53, x198_55, x198_56, x198_57, x198_58, x198_61, x198_64, x198_65, x198_66, x198_68, x198_69, x198_70, x198_71, x198_74, x198_77, x198_80, x198_81, x198_84, x198_85, x198_88, x198_89, x198_91, x198_94, x198_97, x198_99, x198_100, d185_3 hw, d185_4 hw, mIs3, m1, h1, h2, e, mf_0, mf_1, mIs1, mIs2, d162 (okv_look hz hv hk e) hx, e2, xb_t, i32_10, Option.bind_some, Option.toList_some, Option.toList_none, List.cons_append, List.nil_append, Option.isSome_some, if_true, eq_self, or_true, true_or, xb_01, mcl_cl, not_true_eq_false, not_false_eq_true, if_false]
        simp [mFst, sFind, sVw, e, e2]
      | false =>
        obtain ⟨a2, b2, h4⟩ := ih (s + 1) (sLk S w (nI s) (S.2.2.1 12 (5 * w + 4))) (sLv S w (nI s) (S.2.2.1 12 (5 * w + 4))) (by omega) (by omega)
        refine ⟨a2, b2, ?_⟩
        simp only [x198_53, x198_55, x198_56, x198_57, x198_58, x198_61, x198_64, x198_65, x198_66, x198_68, x198_69, x198_70, x198_71, x198_74, x198_77, x198_80, x198_81, x198_84, x198_85, x198_88, x198_89, x198_91, x198_94, x198_97, x198_99, x198_100, d185_3 hw, d185_4 hw, mIs3, m1, h1, h2, e, mf_0, mf_1, mIs1, mIs2, d162 (okv_look hz hv hk e) hx, e2, xb_f, i32_10, Option.bind_some, Option.toList_some, Option.toList_none, List.cons_append, List.nil_append, Option.isSome_some, if_true, eq_self, or_true, true_or, xb_01, mcl_cl, not_true_eq_false, not_false_eq_true, if_false]
        simp only [x198_103, nI_1]
        rw [h4]
        simp [mFst, sFind, sVw, e2]
    · obtain ⟨a2, b2, h4⟩ := ih (s + 1) a1 b1 (by omega) (by omega)
      refine ⟨a2, b2, ?_⟩
      simp only [x198_53, x198_55, x198_56, x198_57, x198_58, x198_61, x198_64, x198_65, x198_66, x198_68, x198_69, x198_70, x198_71, x198_74, x198_77, x198_80, x198_81, x198_84, x198_85, x198_88, x198_89, x198_91, x198_94, x198_97, x198_99, x198_100, d185_3 hw, d185_4 hw, mIs3, m1, h1, h2, e, Option.bind_some, Option.toList_some, Option.toList_none, List.cons_append, List.nil_append, Option.isSome_some, if_true, eq_self, or_true, true_or, xb_01, mcl_cl, not_true_eq_false, not_false_eq_true, if_false]
      simp only [x198_103, nI_1]
      rw [h4]
      simp [mFst, sFind, sVw, e]
def fFind (S : MS) (i j k : Int32) (u : Int64) : Int32 := if mSl i = false then -1 else if j < 0 then -1 else if mWithin k.toInt 0 10 = false then -1 else if mNone k u = true then -2 else mFst (sFind S (tn i) k (pBy k u)) (tn j) (sMany S (tn i) - tn j)
theorem e198 (hW : mW S) (hz : mZ S) (hv : mV S) (hk : mKd S) : ∃ a b, X g 198 0 [.val (va_rf (some mu)), .val (.int i), .val (.int j), .val (.int k), .val (.long u), .second, .unset, .unset, .unset] [] (mH n kc ks mu S) = some (some (.int (fFind S i j k u)), mH n kc ks mu (mIs S a b)) := by
  unfold fFind
  by_cases e1 : mSl i = false
  · refine ⟨S.1 0, S.2.1 1, ?_⟩
    rw [mIs_self]
    simp only [x198_0, x198_1, x198_4, x198_7, x198_8, x198_11, x198_12, x198_13, x198_14, x198_17, x198_20, x198_23, x198_24, x198_25, x198_26, x198_28, x198_31, x198_34, x198_36, x198_37, x198_38, x198_39, x198_41, x198_44, x198_45, x198_48, x198_50, x198_51, c184', e1, xb_f, Option.bind_some, Option.toList_some, Option.toList_none, List.cons_append, List.nil_append, Option.isSome_some, if_true, eq_self, or_true, true_or, xb_01, mcl_cl, not_true_eq_false, not_false_eq_true, if_false]
  · have e1 : mSl i = true := by simpa using e1
    rw [if_neg (by rw [e1]; simp)]
    obtain ⟨e2, e3⟩ := mSl_eq e1
    by_cases e5 : j < 0
    · refine ⟨S.1 0, S.2.1 1, ?_⟩
      rw [mIs_self, if_pos e5]
      simp only [x198_0, x198_1, x198_4, x198_7, x198_8, x198_11, x198_12, x198_13, x198_14, x198_17, x198_20, x198_23, x198_24, x198_25, x198_26, x198_28, x198_31, x198_34, x198_36, x198_37, x198_38, x198_39, x198_41, x198_44, x198_45, x198_48, x198_50, x198_51, c184', e1, e5, xb_t, i32_10, Option.bind_some, Option.toList_some, Option.toList_none, List.cons_append, List.nil_append, Option.isSome_some, if_true, eq_self, or_true, true_or, xb_01, mcl_cl, not_true_eq_false, not_false_eq_true, if_false]
    · rw [if_neg e5]
      by_cases e6 : mWithin k.toInt 0 10 = false
      · have e7 : mWithin k.toInt (Int64.toInt 0) (Int64.toInt 10) = false := e6
        refine ⟨S.1 0, S.2.1 1, ?_⟩
        rw [mIs_self, if_pos e6]
        simp only [x198_0, x198_1, x198_4, x198_7, x198_8, x198_11, x198_12, x198_13, x198_14, x198_17, x198_20, x198_23, x198_24, x198_25, x198_26, x198_28, x198_31, x198_34, x198_36, x198_37, x198_38, x198_39, x198_41, x198_44, x198_45, x198_48, x198_50, x198_51, c184', c154, i32_64, e1, e5, e7, xb_t, xb_f, i32_10, Option.bind_some, Option.toList_some, Option.toList_none, List.cons_append, List.nil_append, Option.isSome_some, if_true, eq_self, or_true, true_or, xb_01, mcl_cl, not_true_eq_false, not_false_eq_true, if_false]
      · have e6 : mWithin k.toInt 0 10 = true := by simpa using e6
        have e7 : mWithin k.toInt (Int64.toInt 0) (Int64.toInt 10) = true := e6
        rw [if_neg (by rw [e6]; simp)]
        by_cases e8 : mNone k u = true
        · refine ⟨S.1 0, S.2.1 1, ?_⟩
          rw [mIs_self, if_pos e8]
          simp only [x198_0, x198_1, x198_4, x198_7, x198_8, x198_11, x198_12, x198_13, x198_14, x198_17, x198_20, x198_23, x198_24, x198_25, x198_26, x198_28, x198_31, x198_34, x198_36, x198_37, x198_38, x198_39, x198_41, x198_44, x198_45, x198_48, x198_50, x198_51, c184', c154, c156, i32_64, e1, e5, e7, e8, xb_t, i32_10, Option.bind_some, Option.toList_some, Option.toList_none, List.cons_append, List.nil_append, Option.isSome_some, if_true, eq_self, or_true, true_or, xb_01, mcl_cl, not_true_eq_false, not_false_eq_true, if_false]
        · have e8 : mNone k u = false := by simpa using e8
          rw [if_neg (by rw [e8]; simp)]
          have hj : j = nI (tn j) := nI_tn (by
            have := Int32.not_lt.mp e5
            exact Int32.le_iff_toInt_le.mp this)
          have hj2 : tn j < 2 ^ 31 := by
            have := Int32.toInt_lt j
            unfold tn
            omega
          obtain ⟨a1, b1, h1⟩ := l198 (g := g) (n := n) (kc := kc) (ks := ks) (mu := mu) (k := k) e3 hW hz hv hk (okv_by k u) j u (sMany S (tn i) - tn j) (tn j) k (pBy k u) (by omega) hj2
          rw [← hj] at h1
          refine ⟨a1, b1, ?_⟩
          rw [← e2] at h1
          simp only [x198_0, x198_1, x198_4, x198_7, x198_8, x198_11, x198_12, x198_13, x198_14, x198_17, x198_20, x198_23, x198_24, x198_25, x198_26, x198_28, x198_31, x198_34, x198_36, x198_37, x198_38, x198_39, x198_41, x198_44, x198_45, x198_48, x198_50, x198_51, c184', c154, c156, d157, i32_64, mf_1, mIs2, e1, e5, e7, e8, h1, xb_t, xb_f, i32_10, Option.bind_some, Option.toList_some, Option.toList_none, List.cons_append, List.nil_append, Option.isSome_some, if_true, eq_self, or_true, true_or, xb_01, mcl_cl, not_true_eq_false, not_false_eq_true, if_false]
end M9
