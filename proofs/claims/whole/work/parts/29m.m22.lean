/-! THE REFERENCE's methods, 20: a text run -/
section M22
variable {g : xG} {n kc ks mu s w q p r l o : Nat} {S T : MS} {h : xH} {i j k m v x y a : Int32} {u b : Int64} {t : Nat → Int32} {z : Nat × Bool}
/-- a line is sound -/
def mLk (S : MS) (k : Nat) : Prop := S.2.2.1 37 k = nI (tn (S.2.2.1 37 k)) ∧ tn (S.2.2.1 37 k) < 10 ∧ S.2.2.1 39 k = nI (tn (S.2.2.1 39 k)) ∧ tn (S.2.2.1 39 k) < 10
/-- one line done -/
def stD (k : Nat) (S : MS) : Int32 × Int32 × MS := if S.2.2.1 41 k = -1 then (1, sPutBy S (tn (S.2.2.1 37 k)) (S.2.2.1 38 k) 8 (S.2.2.1 39 k), mPb S (tn (S.2.2.1 37 k)) (S.2.2.1 38 k) 8 (S.2.2.1 39 k) (pBy (S.2.2.1 39 k) (S.2.2.2 42 k))) else if ¬ sRead S (tn (S.2.2.1 39 k)) (S.2.2.1 40 k) (S.2.2.1 41 k) = 0 then (0, sRead S (tn (S.2.2.1 39 k)) (S.2.2.1 40 k) (S.2.2.1 41 k), S) else (1, sPutBy S (tn (S.2.2.1 37 k)) (S.2.2.1 38 k) (S.2.2.1 41 k) (sBk S (tn (S.2.2.1 39 k)) (S.2.2.1 40 k) (S.2.2.1 41 k)), mPb S (tn (S.2.2.1 37 k)) (S.2.2.1 38 k) (S.2.2.1 41 k) (sBk S (tn (S.2.2.1 39 k)) (S.2.2.1 40 k) (S.2.2.1 41 k)) (sBv S (tn (S.2.2.1 39 k)) (S.2.2.1 40 k) (S.2.2.1 41 k)))
theorem mPb_no (e : ¬ sPutBy S s i v a = 0) : mPb S s i v a b = S := by
  unfold mPb
  rw [if_neg e]
theorem mPb_B {z : Nat} (h6 : z ≠ 6) (h15 : z ≠ 15) (t : Nat) : (mPb S s i v a b).2.2.2 z t = S.2.2.2 z t := by
  unfold mPb
  split
  · simp [mPut, mNote, msA, msB, msI, h6, h15]
  · rfl
theorem n100 {c : Nat} (hc : c < 100) : ¬ (-100 : Int32) - nI c = 0 := by
  intro z
  have h1 := congrArg Int32.toInt z
  have e : (-100 : Int32).toInt = -100 := rfl
  rw [Int32.toInt_sub, e, nI_toInt (by omega), Int.bmod_def, show (0 : Int32).toInt = 0 from rfl] at h1
  omega
theorem c237 {c : Nat} (hc : c < 40) (hO : mOk S) (hp : mPd S c) (hL : mLk S c) (a : Int32) (b : Int64) : ∃ a' b', X g 237 0 [.val (va_rf (some mu)), .val (.int (nI c)), .unset] [] (mH n kc ks mu (mIs S a b)) = (if (stD c S).2.1 = 0 then some (some (.int 0), mH n kc ks mu (mIs (stD c S).2.2 a' b')) else some (some (.int (-100 - nI c)), mH n kc ks mu (mIs (mStop (stD c S).2.2 (tn ((stD c S).2.2.1 16)) (nI c) (stD c S).1 (stD c S).2.1) a' b'))) ∧ mOk (stD c S).2.2 ∧ ((stD c S).2.1 = 0 → mPd (stD c S).2.2 (c + 1)) ∧ (∀ q, q ≠ 16 → (stD c S).2.2.1 q = S.1 q) ∧ (∀ q t, 36 < q → (stD c S).2.2.2.2.1 q t = S.2.2.1 q t) := by
  obtain ⟨l1, l2, l3, l4⟩ := hL
  have q1 := xin_nI hc (n := 40) (by decide)
  have q2 := nI_clamp (lt31 hc (by decide))
  generalize hs : tn (S.2.2.1 37 c) = s1 at l1 l2
  generalize hf : tn (S.2.2.1 39 c) = f1 at l3 l4
  unfold stD
  rw [hs, hf]
  by_cases e1 : S.2.2.1 41 c = -1
  · rw [if_pos e1]
    have hb : okb (nI f1) (pBy (nI f1) (S.2.2.2 42 c)) := by
      refine okb_by (by rw [nI_toInt (by omega)]; omega) (by rw [nI_toInt (by omega)]; omega) ?_
      unfold mNone
      have : ¬ nI f1 = 10 := by
        intro z
        have := (nI_eq (a := f1) (b := 10) (by omega) (by omega)).mp z
        omega
      simp [this]
    rw [l3]
    have h1 := d174 (g := g) (n := n) (kc := kc) (ks := ks) (mu := mu) (i := S.2.2.1 38 c) (s := s1) l2 hO (by omega) hp hb
    refine ⟨nI f1, pBy (nI f1) (S.2.2.2 42 c), ?_, mPb_ok hO hb, fun e => mPb_pd hO hb (by omega) hp e, fun q hq => mPb_I hq, fun q t hq => mPb_A (by omega) (by omega) (by omega) t⟩
    by_cases e2 : sPutBy S s1 (S.2.2.1 38 c) 8 (nI f1) = 0
    · rw [if_pos e2]
      simp only [x237_0, x237_1, x237_4, x237_5, x237_6, x237_7, x237_10, x237_11, x237_12, x237_15, x237_16, x237_17, x237_18, x237_21, x237_22, x237_23, x237_26, x237_27, x237_28, x237_31, x237_32, x237_33, x237_34, x237_37, x237_38, x237_39, x237_42, x237_43, x237_44, x237_47, x237_48, x237_51, x237_52, x237_53, x237_54, x237_55, x237_58, x237_59, x237_60, x237_61, x237_64, x237_65, x237_66, x237_67, x237_70, x237_71, x237_72, x237_73, x237_76, x237_77, x237_78, x237_81, x237_82, x237_83, x237_86, x237_87, x237_88, x237_89, x237_90, x237_93, x237_94, x237_95, x237_96, x237_99, x237_100, x237_101, x237_102, x237_105, x237_106, x237_107, x237_108, x237_111, x237_112, x237_113, x237_116, x237_117, x237_118, x237_121, x237_122, x237_125, x237_126, x237_127, x237_128, x237_129, x237_132, mf_41, ml_41, mf_39, ml_39, mf_42, ml_42, mf_37, ml_37, mf_38, ml_38, mIs3, mIs4, q1, q2, e1, l1, l3, d157, mIs_mIs, h1, e2, Option.bind_some, Option.toList_some, Option.toList_none, List.cons_append, List.nil_append, Option.isSome_some, if_true, eq_self, or_true, true_or, xb_01, mcl_cl, not_true_eq_false, not_false_eq_true, if_false]
    · rw [if_neg e2]
      rw [mPb_no e2] at h1 ⊢
      have h5 := d208 (g := g) (n := n) (kc := kc) (ks := ks) (mu := mu) (i := nI c) (j := 1) (k := sPutBy S s1 (S.2.2.1 38 c) 8 (nI f1)) (a := nI f1) (b := pBy (nI f1) (S.2.2.2 42 c)) (p := c) (by omega) hp
      simp only [x237_0, x237_1, x237_4, x237_5, x237_6, x237_7, x237_10, x237_11, x237_12, x237_15, x237_16, x237_17, x237_18, x237_21, x237_22, x237_23, x237_26, x237_27, x237_28, x237_31, x237_32, x237_33, x237_34, x237_37, x237_38, x237_39, x237_42, x237_43, x237_44, x237_47, x237_48, x237_51, x237_52, x237_53, x237_54, x237_55, x237_58, x237_59, x237_60, x237_61, x237_64, x237_65, x237_66, x237_67, x237_70, x237_71, x237_72, x237_73, x237_76, x237_77, x237_78, x237_81, x237_82, x237_83, x237_86, x237_87, x237_88, x237_89, x237_90, x237_93, x237_94, x237_95, x237_96, x237_99, x237_100, x237_101, x237_102, x237_105, x237_106, x237_107, x237_108, x237_111, x237_112, x237_113, x237_116, x237_117, x237_118, x237_121, x237_122, x237_125, x237_126, x237_127, x237_128, x237_129, x237_132, mf_41, ml_41, mf_39, ml_39, mf_42, ml_42, mf_37, ml_37, mf_38, ml_38, mIs3, mIs4, q1, q2, e1, l1, l3, d157, mIs_mIs, h1, e2, h5, Option.bind_some, Option.toList_some, Option.toList_none, List.cons_append, List.nil_append, Option.isSome_some, if_true, eq_self, or_true, true_or, xb_01, mcl_cl, not_true_eq_false, not_false_eq_true, if_false]
  · rw [if_neg e1]
    obtain ⟨a1, b1, h1, h2⟩ := e173 (g := g) (n := n) (kc := kc) (ks := ks) (mu := mu) (i := S.2.2.1 40 c) (v := S.2.2.1 41 c) (s := f1) l4 hO.1 hO.2.1 hO.2.2.1 a b
    by_cases e2 : sRead S f1 (S.2.2.1 40 c) (S.2.2.1 41 c) = 0
    · rw [if_neg (fun z => z e2)]
      obtain ⟨ea, eb⟩ := h2 e2
      subst ea eb
      have hb := okb_read hO.1 hO.2.1 hO.2.2.1 hO.2.2.2.2.2 e2
      have h3 := d175 (g := g) (n := n) (kc := kc) (ks := ks) (mu := mu) (i := S.2.2.1 38 c) (v := S.2.2.1 41 c) (s := s1) l2 hO (by omega) hp hb
      refine ⟨sBk S f1 (S.2.2.1 40 c) (S.2.2.1 41 c), sBv S f1 (S.2.2.1 40 c) (S.2.2.1 41 c), ?_, mPb_ok hO hb, fun e => mPb_pd hO hb (by omega) hp e, fun q hq => mPb_I hq, fun q t hq => mPb_A (by omega) (by omega) (by omega) t⟩
      by_cases e3 : sPutBy S s1 (S.2.2.1 38 c) (S.2.2.1 41 c) (sBk S f1 (S.2.2.1 40 c) (S.2.2.1 41 c)) = 0
      · rw [if_pos e3]
        simp only [x237_0, x237_1, x237_4, x237_5, x237_6, x237_7, x237_10, x237_11, x237_12, x237_15, x237_16, x237_17, x237_18, x237_21, x237_22, x237_23, x237_26, x237_27, x237_28, x237_31, x237_32, x237_33, x237_34, x237_37, x237_38, x237_39, x237_42, x237_43, x237_44, x237_47, x237_48, x237_51, x237_52, x237_53, x237_54, x237_55, x237_58, x237_59, x237_60, x237_61, x237_64, x237_65, x237_66, x237_67, x237_70, x237_71, x237_72, x237_73, x237_76, x237_77, x237_78, x237_81, x237_82, x237_83, x237_86, x237_87, x237_88, x237_89, x237_90, x237_93, x237_94, x237_95, x237_96, x237_99, x237_100, x237_101, x237_102, x237_105, x237_106, x237_107, x237_108, x237_111, x237_112, x237_113, x237_116, x237_117, x237_118, x237_121, x237_122, x237_125, x237_126, x237_127, x237_128, x237_129, x237_132, mf_41, ml_41, mf_39, ml_39, mf_40, ml_40, mf_37, ml_37, mf_38, ml_38, mIs3, mIs4, q1, q2, e1, l1, l3, h1, e2, h3, e3, Option.bind_some, Option.toList_some, Option.toList_none, List.cons_append, List.nil_append, Option.isSome_some, if_true, eq_self, or_true, true_or, xb_01, mcl_cl, not_true_eq_false, not_false_eq_true, if_false]
      · rw [if_neg e3]
        rw [mPb_no e3] at h3 ⊢
        have h5 := d208 (g := g) (n := n) (kc := kc) (ks := ks) (mu := mu) (i := nI c) (j := 1) (k := sPutBy S s1 (S.2.2.1 38 c) (S.2.2.1 41 c) (sBk S f1 (S.2.2.1 40 c) (S.2.2.1 41 c))) (a := sBk S f1 (S.2.2.1 40 c) (S.2.2.1 41 c)) (b := sBv S f1 (S.2.2.1 40 c) (S.2.2.1 41 c)) (p := c) (by omega) hp
        simp only [x237_0, x237_1, x237_4, x237_5, x237_6, x237_7, x237_10, x237_11, x237_12, x237_15, x237_16, x237_17, x237_18, x237_21, x237_22, x237_23, x237_26, x237_27, x237_28, x237_31, x237_32, x237_33, x237_34, x237_37, x237_38, x237_39, x237_42, x237_43, x237_44, x237_47, x237_48, x237_51, x237_52, x237_53, x237_54, x237_55, x237_58, x237_59, x237_60, x237_61, x237_64, x237_65, x237_66, x237_67, x237_70, x237_71, x237_72, x237_73, x237_76, x237_77, x237_78, x237_81, x237_82, x237_83, x237_86, x237_87, x237_88, x237_89, x237_90, x237_93, x237_94, x237_95, x237_96, x237_99, x237_100, x237_101, x237_102, x237_105, x237_106, x237_107, x237_108, x237_111, x237_112, x237_113, x237_116, x237_117, x237_118, x237_121, x237_122, x237_125, x237_126, x237_127, x237_128, x237_129, x237_132, mf_41, ml_41, mf_39, ml_39, mf_40, ml_40, mf_37, ml_37, mf_38, ml_38, mIs3, mIs4, q1, q2, e1, l1, l3, h1, e2, h3, e3, h5, Option.bind_some, Option.toList_some, Option.toList_none, List.cons_append, List.nil_append, Option.isSome_some, if_true, eq_self, or_true, true_or, xb_01, mcl_cl, not_true_eq_false, not_false_eq_true, if_false]
    · rw [if_pos e2]
      refine ⟨a1, b1, ?_, hO, fun e => absurd e e2, fun q hq => rfl, fun q t hq => rfl⟩
      rw [if_neg e2]
      have h5 := d208 (g := g) (n := n) (kc := kc) (ks := ks) (mu := mu) (i := nI c) (j := 0) (k := sRead S f1 (S.2.2.1 40 c) (S.2.2.1 41 c)) (a := a1) (b := b1) (p := c) (by omega) hp
      simp only [x237_0, x237_1, x237_4, x237_5, x237_6, x237_7, x237_10, x237_11, x237_12, x237_15, x237_16, x237_17, x237_18, x237_21, x237_22, x237_23, x237_26, x237_27, x237_28, x237_31, x237_32, x237_33, x237_34, x237_37, x237_38, x237_39, x237_42, x237_43, x237_44, x237_47, x237_48, x237_51, x237_52, x237_53, x237_54, x237_55, x237_58, x237_59, x237_60, x237_61, x237_64, x237_65, x237_66, x237_67, x237_70, x237_71, x237_72, x237_73, x237_76, x237_77, x237_78, x237_81, x237_82, x237_83, x237_86, x237_87, x237_88, x237_89, x237_90, x237_93, x237_94, x237_95, x237_96, x237_99, x237_100, x237_101, x237_102, x237_105, x237_106, x237_107, x237_108, x237_111, x237_112, x237_113, x237_116, x237_117, x237_118, x237_121, x237_122, x237_125, x237_126, x237_127, x237_128, x237_129, x237_132, mf_41, ml_41, mf_39, ml_39, mf_40, ml_40, mIs3, mIs4, q1, q2, e1, l3, h1, e2, h5, Option.bind_some, Option.toList_some, Option.toList_none, List.cons_append, List.nil_append, Option.isSome_some, if_true, eq_self, or_true, true_or, xb_01, mcl_cl, not_true_eq_false, not_false_eq_true, if_false]
theorem l238 {dd N : Nat} (h24 : dd ≤ 24) (hN : N ≤ 40) : ∀ d c (S : MS) (s3 : Slot) a b, c + d = N → mOk S → mPd S c → S.1 24 = nI dd → (∀ x, x < N → mLk S x) → ∃ a' b', X g 238 32 [.val (va_rf (some mu)), .val (.int (nI N)), .val (.int (nI c)), s3] [] (mH n kc ks mu (mIs S a b)) = some (some (.int (fMv (nI N) (mvL stD c d S)).1), mH n kc ks mu (mIs (fMv (nI N) (mvL stD c d S)).2 a' b')) := by
  intro d
  induction d with
  | zero =>
    intro c S s3 a b hc hO hp hd _
    refine ⟨a, b, ?_⟩
    have h1 : nI N ≤ nI c := nI_le (by omega) (by omega)
    have h2 := d202 (g := g) (n := n) (kc := kc) (ks := ks) (mu := mu) (a := a) (b := b) hd h24 (by omega) hp
    simp only [x238_32, x238_33, x238_34, x238_55, x238_56, x238_59, x238_60, h1, h2, mvL, fMv_0, Option.bind_some, Option.toList_some, Option.toList_none, List.cons_append, List.nil_append, Option.isSome_some, if_true, eq_self, or_true, true_or, xb_01, mcl_cl, not_true_eq_false, not_false_eq_true, if_false]
  | succ d ih =>
    intro c S s3 a b hc hO hp hd hL
    have h1 : ¬ nI N ≤ nI c := nI_ge (by omega) (by omega)
    obtain ⟨a1, b1, h2, h3, h4, h5, h6⟩ := c237 (g := g) (n := n) (kc := kc) (ks := ks) (mu := mu) (show c < 40 by omega) hO hp (hL c (by omega)) a b
    generalize hst : stD c S = st at h2 h3 h4 h5 h6
    obtain ⟨y1, y2, T⟩ := st
    by_cases e : y2 = 0
    · subst e
      rw [if_pos rfl] at h2
      obtain ⟨a2, b2, h7⟩ := ih (c + 1) T (.val (.int 0)) a1 b1 (by omega) h3 (h4 rfl) (by rw [h5 24 (by decide)]; exact hd) (by
        intro x hx
        have := hL x hx
        unfold mLk at this ⊢
        have g37 := h6 37 x (by decide)
        have g39 := h6 39 x (by decide)
        rw [g37, g39]
        exact this)
      refine ⟨a2, b2, ?_⟩
      rw [mvL_go hst]
      simp only [x238_32, x238_33, x238_34, x238_37, x238_38, x238_39, x238_42, x238_43, x238_44, x238_47, x238_48, x238_49, h1, h2, Option.bind_some, Option.toList_some, Option.toList_none, List.cons_append, List.nil_append, Option.isSome_some, if_true, eq_self, or_true, true_or, xb_01, mcl_cl, not_true_eq_false, not_false_eq_true, if_false]
      simp only [x238_52, nI_1]
      exact h7
    · rw [if_neg e] at h2
      refine ⟨a1, b1, ?_⟩
      rw [mvL_no hst e, fMv_1 e]
      have h9 := n100 (c := c) (by omega)
      simp only [x238_32, x238_33, x238_34, x238_37, x238_38, x238_39, x238_42, x238_43, x238_44, x238_47, x238_48, x238_49, h1, h2, h9, Option.bind_some, Option.toList_some, Option.toList_none, List.cons_append, List.nil_append, Option.isSome_some, if_true, eq_self, or_true, true_or, xb_01, mcl_cl, not_true_eq_false, not_false_eq_true, if_false]
/-- a figure's value -/
theorem fig_val (h : mWithin x.toInt 48 57 = true) : 10 * 0 + x - 48 = nI (tn (x - 48)) ∧ tn (x - 48) < 10 ∧ 10 * 0 + x - 48 = x - 48 := by
  have h1 := mWithin_iff.mp h
  have e0 : (10 * 0 + x - 48 : Int32) = x - 48 := by
    rw [show (10 * 0 : Int32) = 0 from rfl, Int32.zero_add]
  have e1 : (x - 48).toInt = x.toInt - 48 := by
    have e : (48 : Int32).toInt = 48 := rfl
    rw [Int32.toInt_sub, e, Int.bmod_def]
    omega
  refine ⟨?_, ?_, e0⟩
  · rw [e0]
    exact nI_tn (by omega)
  · unfold tn
    omega
theorem qNm_1 (hh : (qNm l t 1 z).2.2 = true) : (qNm l t 1 z).1 = nI (tn (qNm l t 1 z).1) ∧ tn (qNm l t 1 z).1 < 10 ∧ (qNm l t 1 z).1 = t z.1 - 48 ∧ (qNm l t 1 z).2.1 = z.1 + 1 ∧ qFg l t z = true := by
  unfold qNm at hh ⊢
  cases e : qFg l t z with
  | false =>
    rw [e, if_neg (by simp)] at hh
    have := (qNl_ge (l := l) (t := t) 1 (z.1, false) 0).2
    rw [this] at hh
    exact absurd hh (by simp)
  | true =>
    have e9 : mWithin (t z.1).toInt 48 57 = true := by
      unfold qFg at e
      simp only [Bool.and_eq_true] at e
      exact e.2.2
    obtain ⟨f1, f2, f3⟩ := fig_val e9
    rw [if_pos rfl, qNl, e, if_pos rfl, qNl]
    refine ⟨?_, ?_, f3, rfl, rfl⟩
    · show 10 * 0 + t z.1 - 48 = nI (tn (10 * 0 + t z.1 - 48))
      rw [f3, ← f1, f3]
    · show tn (10 * 0 + t z.1 - 48) < 10
      rw [f3]
      exact f2
/-- what one line changes -/
theorem mLine_A {c d : Nat} (hq : ¬ (37 ≤ q ∧ q ≤ 41 ∧ d = c)) : (mLine S l t z c).1.2.2.1 q d = S.2.2.1 q d := by
  have hA : ∀ (T : MS) (e : Nat) (x : Int32), 37 ≤ e → e ≤ 41 → (msA T e c x).2.2.1 q d = T.2.2.1 q d := by
    intro T e x h1 h2
    have : ¬ (q = e ∧ d = c) := fun z => hq ⟨by omega, by omega, z.2⟩
    simp only [msA]
    rw [if_neg this]
  unfold mLine
  split
  · unfold mVw mLh
    rw [hA _ _ _ (by decide) (by decide), hA _ _ _ (by decide) (by decide), hA _ _ _ (by decide) (by decide), hA _ _ _ (by decide) (by decide), hA _ _ _ (by decide) (by decide)]
  · split
    · unfold mBx mLh
      split
      · rw [hA _ _ _ (by decide) (by decide), hA _ _ _ (by decide) (by decide), hA _ _ _ (by decide) (by decide), hA _ _ _ (by decide) (by decide)]
      · show (msA _ 41 c _).2.2.1 q d = _
        rw [hA _ _ _ (by decide) (by decide), hA _ _ _ (by decide) (by decide), hA _ _ _ (by decide) (by decide), hA _ _ _ (by decide) (by decide)]
    · unfold mLh
      rw [hA _ _ _ (by decide) (by decide), hA _ _ _ (by decide) (by decide)]
theorem mLine_o {c : Nat} : (mLine S l t z c).1.1 = S.1 ∧ (mLine S l t z c).1.2.1 = S.2.1 ∧ ∀ q d, ¬ (q = 42 ∧ d = c) → (mLine S l t z c).1.2.2.2 q d = S.2.2.2 q d := by
  unfold mLine
  split
  · exact ⟨rfl, rfl, fun _ _ _ => rfl⟩
  · split
    · unfold mBx
      split
      · exact ⟨rfl, rfl, fun _ _ _ => rfl⟩
      · refine ⟨rfl, rfl, fun q d h => ?_⟩
        simp only [msB]
        rw [if_neg h]
        rfl
    · exact ⟨rfl, rfl, fun _ _ _ => rfl⟩
theorem mLine_k {c : Nat} (hh : (mLine S l t z c).2.2 = true) : mLk (mLine S l t z c).1 c := by
  have base : (qL2 l t z).2 = true → (qNm l t 1 z).2.2 = true := by
    intro h1
    obtain ⟨a1, a2⟩ := qNm_g2 h1
    exact (qWt_go a1).1
  unfold mLine at hh ⊢
  unfold mLk
  cases e : qIs l t (qL2 l t z) 61 with
  | true =>
    rw [e, if_pos rfl] at hh
    rw [if_pos rfl]
    obtain ⟨i1, i2⟩ := qIs_t e
    obtain ⟨f1, f2, _⟩ := qNm_1 (base i1)
    obtain ⟨d1, d2⟩ := qNm_g1 hh
    generalize qTk l t (qL2 l t z) 61 = y at *
    have d4 : (qV2 l t y).2 = true := by
      unfold qV3 at d1
      split at d1
      · exact absurd d1 (by simp)
      · exact d1
    obtain ⟨g1, g2⟩ := qWt_go d4
    obtain ⟨h1, h2⟩ := qNm_g2 g1
    obtain ⟨k1, k2⟩ := qWt_go h1
    obtain ⟨n1, n2, _⟩ := qNm_1 k1
    have e37 : (mVw (mLh S l t z c) l t y c).2.2.1 37 c = (qNm l t 1 z).1 := by simp [mVw, mLh, msA]
    have e39 : (mVw (mLh S l t z c) l t y c).2.2.1 39 c = (qNm l t 1 y).1 := by simp [mVw, mLh, msA]
    rw [e37, e39]
    exact ⟨f1, f2, n1, n2⟩
  | false =>
    rw [e, if_neg (by simp)] at hh
    rw [if_neg (by simp)]
    cases e2 : qIs l t (qL2 l t z) 60 with
    | true =>
      rw [e2, if_pos rfl] at hh
      rw [if_pos rfl]
      obtain ⟨i1, i2⟩ := qIs_t e2
      obtain ⟨f1, f2, _⟩ := qNm_1 (base i1)
      generalize qTk l t (qL2 l t z) 60 = y at *
      have e37 : (mBx (mLh S l t z c) l t y c).1.2.2.1 37 c = (qNm l t 1 z).1 := by
        unfold mBx
        split <;> simp [mLh, msA, msB]
      have e39 : (mBx (mLh S l t z c) l t y c).1.2.2.1 39 c = (qNm l t 1 y).1 := by
        unfold mBx
        split <;> simp [mLh, msA, msB]
      rw [e37, e39]
      have k1 : (qNm l t 1 y).2.2 = true := by
        unfold mBx at hh
        split at hh
        · exact hh
        · obtain ⟨m1, m2⟩ := qNm_g9 hh
          exact (qTk_go m1).1
      obtain ⟨n1, n2, _⟩ := qNm_1 k1
      exact ⟨f1, f2, n1, n2⟩
    | false =>
      rw [e2, if_neg (by simp)] at hh
      exact absurd hh (by simp)
/-- after all lines -/
theorem mAll_ok : ∀ f (S : MS) (z : Nat × Bool) c, mTpe S l t → z.1 ≤ l → 6 * c ≤ z.1 → l + 1 ≤ z.1 + f → (∀ x, x < c → mLk S x) → ((mAll l t f S z c).2.1.2 = true → ∀ x, x < (mAll l t f S z c).2.2 → mLk (mAll l t f S z c).1 x) ∧ (mAll l t f S z c).1.1 = S.1 ∧ (mAll l t f S z c).1.2.1 = S.2.1 ∧ (∀ q d, ¬ (37 ≤ q ∧ q ≤ 41) → (mAll l t f S z c).1.2.2.1 q d = S.2.2.1 q d) ∧ (∀ q d, q ≠ 42 → (mAll l t f S z c).1.2.2.2 q d = S.2.2.2 q d) ∧ (mAll l t f S z c).2.2 ≤ 40 := by
  intro f
  induction f with
  | zero => intro S z c _ hz _ hf; omega
  | succ f ih =>
    intro S z c hT hz hc hf hL
    have hl := hT.2.1
    have hT2 := mLine_T (z := z) (c := c) hT
    have hz2 := mLine_le (S := S) (t := t) (c := c) hz
    obtain ⟨o1, o2, o3⟩ := mLine_o (S := S) (l := l) (t := t) (z := z) (c := c)
    have oA : ∀ q d, ¬ (37 ≤ q ∧ q ≤ 41) → (mLine S l t z c).1.2.2.1 q d = S.2.2.1 q d := fun q d hq => mLine_A (fun y => hq ⟨y.1, y.2.1⟩)
    have oB : ∀ q d, q ≠ 42 → (mLine S l t z c).1.2.2.2 q d = S.2.2.2 q d := fun q d hq => o3 q d (fun y => hq y.1)
    have hL2 : ∀ x, x < c → mLk (mLine S l t z c).1 x := by
      intro x hx
      have := hL x hx
      unfold mLk at this ⊢
      rw [mLine_A (q := 37) (d := x) (fun y => by omega), mLine_A (q := 39) (d := x) (fun y => by omega)]
      exact this
    rw [mAll]
    cases e : qIs l t (mLine S l t z c).2 59 with
    | true =>
      rw [if_pos rfl]
      obtain ⟨i1, i2⟩ := qIs_t e
      obtain ⟨g1, g2⟩ := mLine_go i1
      have e3 : qTk l t (mLine S l t z c).2 59 = ((mLine S l t z c).2.1 + 1, (mLine S l t z c).2.2) := by unfold qTk; rw [e, if_pos rfl]
      rw [e3]
      obtain ⟨r1, r2, r3, r4, r5, r6⟩ := ih (mLine S l t z c).1 ((mLine S l t z c).2.1 + 1, (mLine S l t z c).2.2) (c + 1) hT2 i2 (by show 6 * (c + 1) ≤ (mLine S l t z c).2.1 + 1; omega) (by show l + 1 ≤ (mLine S l t z c).2.1 + 1 + f; omega) (by
        intro x hx
        by_cases y : x = c
        · rw [y]
          exact mLine_k i1
        · exact hL2 x (by omega))
      exact ⟨r1, r2.trans o1, r3.trans o2, fun q d hq => (r4 q d hq).trans (oA q d hq), fun q d hq => (r5 q d hq).trans (oB q d hq), r6⟩
    | false =>
      rw [if_neg (by simp)]
      refine ⟨?_, o1, o2, oA, oB, by show c + 1 ≤ 40; omega⟩
      intro hh x hx
      have hx : x < c + 1 := hx
      have hh : (mLine S l t z c).2.2 = true := by
        by_cases e4 : (mLine S l t z c).2.1 < l
        · simp only [if_pos e4] at hh
          exact absurd hh (by simp)
        · simp only [if_neg e4] at hh
          exact hh
      by_cases y : x = c
      · rw [y]
        exact mLine_k hh
      · exact hL2 x (by omega)
def mTx (S : MS) : MS × (Nat × Bool) × Nat := mAll (tn (S.1 34)) (S.2.2.1 33) (tn (S.1 34) + 1) S (0, true) 0
def mTx1 (S : MS) : MS := msI (mQ (mTx S).1 (mTx S).2.1) 34 0
def fRun (S : MS) : Int32 × MS := if (mTx S).2.1.2 = false then (-1000 - nI (mTx S).2.1.1, mTx1 S) else fMv (nI (mTx S).2.2) (mvL stD 0 (mTx S).2.2 (msI (mTx1 S) 16 0))
theorem mTpe_of {l : Nat} (e : S.1 34 = nI l) (hl : l ≤ 120) : mTpe S l (S.2.2.1 33) := ⟨e, hl, fun _ => rfl⟩
theorem e238 {dd l : Nat} (hd : S.1 24 = nI dd) (h24 : dd ≤ 24) (hO : mOk S) (e34 : S.1 34 = nI l) (hl : l ≤ 120) : ∃ a b, X g 238 0 [.val (va_rf (some mu)), .unset, .unset, .unset] [] (mH n kc ks mu S) = some (some (.int (fRun S).1), mH n kc ks mu (mIs (fRun S).2 a b)) := by
  have hT := mTpe_of e34 hl
  have htn : tn (S.1 34) = l := by rw [e34]; exact tn_nI (by omega)
  have h1 := e236 (g := g) (n := n) (kc := kc) (ks := ks) (mu := mu) hT
  obtain ⟨r1, r2, r3, r4, r5, r6⟩ := mAll_ok (l := l) (t := S.2.2.1 33) (l + 1) S (0, true) 0 hT (by omega) (by omega) (by show l + 1 ≤ 0 + (l + 1); omega) (fun x hx => absurd hx (by omega))
  have hle : ∀ f (S : MS) (z : Nat × Bool) c (t : Nat → Int32), z.1 ≤ l → (mAll l t f S z c).2.1.1 ≤ l := by
    intro f
    induction f with
    | zero => intro S z c t hz; exact hz
    | succ f ih =>
      intro S z c t hz
      have hz2 := mLine_le (S := S) (t := t) (c := c) hz
      rw [mAll]
      split
      · exact ih _ _ _ _ (qTk_le hz2)
      · show (if (mLine S l t z c).2.1 < l then ((mLine S l t z c).2.1, false) else (mLine S l t z c).2).1 ≤ l
        split
        · exact hz2
        · exact hz2
  have hpos := hle (l + 1) S (0, true) 0 (S.2.2.1 33) (by show 0 ≤ l; omega)
  unfold fRun mTx1 mTx
  rw [htn]
  generalize mAll l (S.2.2.1 33) (l + 1) S (0, true) 0 = R at *
  obtain ⟨T, z, N⟩ := R
  obtain ⟨zp, zb⟩ := z
  have hpos : zp ≤ l := hpos
  have r1 : zb = true → ∀ x, x < N → mLk T x := r1
  have r2 : T.1 = S.1 := r2
  have r6 : N ≤ 40 := r6
  dsimp only
  cases zb with
  | false =>
    refine ⟨(msI (mQ T (zp, false)) 34 0).1 0, (msI (mQ T (zp, false)) 34 0).2.1 1, ?_⟩
    rw [if_pos rfl]
    show _ = some (some (Value.int (-1000 - nI zp)), mH n kc ks mu (mIs (msI (mQ T (zp, false)) 34 0) _ _))
    rw [mIs_self]
    have h2 : ¬ nI zp < 0 := nI_pos (by omega)
    have h3 : (msI (mQ T (zp, false)) 34 0).1 36 = nI zp := rfl
    have h1' : X g 236 0 [.val (va_rf (some mu)), .unset] [] (mH n kc ks mu S) = some (some (.int (nI N)), mH n kc ks mu (mQ T (zp, false))) := h1
    simp only [x238_0, x238_1, x238_4, x238_5, x238_6, x238_7, x238_10, x238_11, x238_14, x238_17, x238_20, x238_21, x238_24, x238_25, x238_26, x238_27, x238_30, x238_31, h1', mf_34, mp_34, mf_36, h3, h2, Option.bind_some, Option.toList_some, Option.toList_none, List.cons_append, List.nil_append, Option.isSome_some, if_true, eq_self, or_true, true_or, xb_01, mcl_cl, not_true_eq_false, not_false_eq_true, if_false]
  | true =>
    rw [if_neg (by simp)]
    have hO' : mOk (msI (msI (mQ T (zp, true)) 34 0) 16 0) := by
      refine mOk_c hO (fun i => r4 2 i (by omega)) (fun i => r4 3 i (by omega)) (fun i => r4 12 i (by omega)) ?_
      intro q hq
      have e5 : (msI (msI (mQ T (zp, true)) 34 0) 16 0).2.2.1 5 q = S.2.2.1 5 q := r4 5 q (by omega)
      have e6 : (msI (msI (mQ T (zp, true)) 34 0) 16 0).2.2.2 6 q = S.2.2.2 6 q := r5 6 q (by omega)
      rw [e5, e6]
      exact okc_self hO hq
    have hd' : (msI (msI (mQ T (zp, true)) 34 0) 16 0).1 24 = nI dd := by
      show T.1 24 = nI dd
      rw [r2]
      exact hd
    obtain ⟨a, b, h4⟩ := l238 (g := g) (n := n) (kc := kc) (ks := ks) (mu := mu) (N := N) h24 r6 N 0 (msI (msI (mQ T (zp, true)) 34 0) 16 0) .unset ((msI (msI (mQ T (zp, true)) 34 0) 16 0).1 0) ((msI (msI (mQ T (zp, true)) 34 0) 16 0).2.1 1) (Nat.zero_add N) hO' mPd_0 hd' (r1 rfl)
    rw [mIs_self] at h4
    refine ⟨a, b, ?_⟩
    have h2 : (-1 : Int32) < 0 := by decide
    have h3 : (msI (mQ T (zp, true)) 34 0).1 36 = -1 := rfl
    have h4' : X g 238 32 [.val (va_rf (some mu)), .val (.int (nI N)), .val (.int 0), .unset] [] (mH n kc ks mu (msI (msI (mQ T (zp, true)) 34 0) 16 0)) = _ := h4
    have h1' : X g 236 0 [.val (va_rf (some mu)), .unset] [] (mH n kc ks mu S) = some (some (.int (nI N)), mH n kc ks mu (mQ T (zp, true))) := h1
    simp only [x238_0, x238_1, x238_4, x238_5, x238_6, x238_7, x238_10, x238_11, x238_14, x238_17, x238_20, x238_21, x238_24, x238_25, x238_26, x238_27, x238_30, x238_31, h1', mf_34, mp_34, mf_36, h3, h2, c199, h4', Option.bind_some, Option.toList_some, Option.toList_none, List.cons_append, List.nil_append, Option.isSome_some, if_true, eq_self, or_true, true_or, xb_01, mcl_cl, not_true_eq_false, not_false_eq_true, if_false]
end M22
