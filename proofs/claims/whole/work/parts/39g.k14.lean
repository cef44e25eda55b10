/-! THE CLASS beside the reference, 1: slots, rows; reading and putting cells -/
section K14
variable {g : xG} {n kc ks a b c s t w q l x y jn d r : Nat} {G T : GS} {h : xH} {i j k m v : Int32} {u z : Int64} {o : Option Nat} {S : MS} {ρ : Nat → Nat}
/-- a row of the class is a row of the reference -/
def bRo (G : GS) (S : MS) (a r : Nat) : Prop := G.1 a = 1 ∧ G.2.2.1 a 0 = S.2.2.1 2 r ∧ G.2.1 (a + 2) = mz S r ∧ ∀ p, p < mz S r → G.2.2.1 (a + 1) p = S.2.2.1 5 (32 * r + p) ∧ G.2.2.2.1 (a + 2) p = S.2.2.2 6 (32 * r + p)
/-- a slot holds the same -/
def bSl (G : GS) (b : Nat) (ρ : Nat → Nat) (S : MS) (s : Nat) : Prop := (mRow S s = true ∧ G.2.2.2.2 (b + 1) s = some (ρ (mr S s)) ∧ G.2.2.1 (b + 2) s = S.2.2.1 2 (mr S s) ∧ G.2.2.1 (b + 3) s = 0 ∧ bRo G S (ρ (mr S s)) (mr S s)) ∨ (S.2.2.1 7 s = -11 ∧ G.2.2.2.2 (b + 1) s = none ∧ G.2.2.1 (b + 2) s = -1) ∨ ((S.2.2.1 7 s = 10 ∨ S.2.2.1 7 s = 11) ∧ G.2.2.2.2 (b + 1) s = none ∧ G.2.2.1 (b + 2) s = S.2.2.1 7 s ∧ G.2.2.1 (b + 3) s = S.2.2.1 8 s)
/-- a bank is the reference's -/
def bS (G : GS) (b : Nat) (ρ : Nat → Nat) (S : MS) : Prop := G.1 b = 9 ∧ (∀ s, s < 10 → bSl G b ρ S s) ∧ (∀ w k, w < 6 → k < 5 → G.2.2.1 (b + 5 + w) k = S.2.2.1 12 (5 * w + k))
/-- nothing lies where the read-only array lies -/
def gE (g : xG) (G : GS) : Prop := G.1 g.2.2.2.1 = 0 ∧ ¬ g.2.2.2.1 = g.1
theorem gE_n (he : gE g G) : (gH n kc ks G).2.2.2 g.2.2.2.1 = none := by
  show gcl G g.2.2.2.1 = none
  unfold gcl
  rw [he.1]
  rfl
theorem e39 (he : gE g G) : X g 39 0 [.val (.int k), .val (.int i)] [] (gH n kc ks G) = some (some (.int (xb (pMay k i))), gH n kc ks G) := c39 (gE_n he) he.2
theorem mIn_x (hz : mZ S) (hr : r < 10) : xin i (mz S r) = mIn S r i := by
  obtain ⟨z1, z2⟩ := mz_eq hz hr
  obtain ⟨h1, h2⟩ := hz r hr
  unfold mIn
  rw [i32_pred h1]
  have e : (S.2.2.1 3 r).toInt = (mz S r : Int) := by rw [z1, nI_toInt (by omega)]
  cases c : mWithin i.toInt 0 ((S.2.2.1 3 r).toInt - 1) with
  | true =>
    have := mWithin_iff.mp c
    have e2 : i = nI (tn i) := nI_tn this.1
    rw [e2]
    exact xin_nI (by unfold tn; omega) (by omega)
  | false =>
    cases c2 : xin i (mz S r) with
    | false => rfl
    | true =>
      exfalso
      obtain ⟨e1, e2⟩ := xin_tn c2
      have : mWithin i.toInt 0 ((S.2.2.1 3 r).toInt - 1) = true := by
        refine mWithin_iff.mpr ?_
        rw [e1, nI_toInt (by omega), e]
        omega
      rw [this] at c
      exact absurd c (by simp)
theorem c73 (he : gE g G) (ha : G.1 a = 1) (h0 : 0 ≤ (G.2.2.1 a 0).toInt) (h9 : (G.2.2.1 a 0).toInt ≤ 9) : X g 73 0 [.val (va_rf (some a)), .val (.int k)] [] (gH n kc ks G) = some (some (.int (xb (sAdm (G.2.2.1 a 0) k))), gH n kc ks G) := by
  unfold sAdm
  by_cases e1 : G.2.2.1 a 0 = 8
  · rw [e1, if_neg (by decide), if_neg (by decide)]
    simp only [x73_0, x73_1, x73_4, x73_6, x73_9, x73_10, x73_11, x73_12, x73_15, x73_17, x73_20, x73_21, x73_23, x73_26, x73_27, x73_29, x73_32, x73_33, x73_36, x73_37, x73_38, x73_39, x73_40, x73_43, x73_46, gf_1_0 ha, e1, xb_t, Option.bind_some, Option.toList_some, Option.toList_none, List.cons_append, List.nil_append, Option.isSome_some, if_true, eq_self, or_true, true_or, xb_01, mcl_cl, not_true_eq_false, not_false_eq_true, if_false]
  · by_cases e2 : G.2.2.1 a 0 = 9
    · rw [e2, if_neg (by decide), if_pos rfl]
      have z1 : ¬ (9 : Int32) = 8 := by decide
      by_cases e3 : k = 9
      · rw [decide_eq_true e3, Bool.true_or]
        simp only [x73_0, x73_1, x73_4, x73_6, x73_9, x73_10, x73_11, x73_12, x73_15, x73_17, x73_20, x73_21, x73_23, x73_26, x73_27, x73_29, x73_32, x73_33, x73_36, x73_37, x73_38, x73_39, x73_40, x73_43, x73_46, gf_1_0 ha, e2, z1, e3, xb_t, Option.bind_some, Option.toList_some, Option.toList_none, List.cons_append, List.nil_append, Option.isSome_some, if_true, eq_self, or_true, true_or, xb_01, mcl_cl, not_true_eq_false, not_false_eq_true, if_false]
      · by_cases e4 : k = 8
        · rw [decide_eq_true e4, Bool.or_true]
          subst e4
          simp only [x73_0, x73_1, x73_4, x73_6, x73_9, x73_10, x73_11, x73_12, x73_15, x73_17, x73_20, x73_21, x73_23, x73_26, x73_27, x73_29, x73_32, x73_33, x73_36, x73_37, x73_38, x73_39, x73_40, x73_43, x73_46, gf_1_0 ha, e2, z1, e3, xb_t, Option.bind_some, Option.toList_some, Option.toList_none, List.cons_append, List.nil_append, Option.isSome_some, if_true, eq_self, or_true, true_or, xb_01, mcl_cl, not_true_eq_false, not_false_eq_true, if_false]
        · rw [decide_eq_false e3, decide_eq_false e4]
          simp only [x73_0, x73_1, x73_4, x73_6, x73_9, x73_10, x73_11, x73_12, x73_15, x73_17, x73_20, x73_21, x73_23, x73_26, x73_27, x73_29, x73_32, x73_33, x73_36, x73_37, x73_38, x73_39, x73_40, x73_43, x73_46, gf_1_0 ha, e2, z1, e3, e4, Bool.or_false, xb_f, Option.bind_some, Option.toList_some, Option.toList_none, List.cons_append, List.nil_append, Option.isSome_some, if_true, eq_self, or_true, true_or, xb_01, mcl_cl, not_true_eq_false, not_false_eq_true, if_false]
    · have e3 : G.2.2.1 a 0 < 8 := by
        rw [i32_lt, show (8 : Int32).toInt = 8 from rfl]
        have n1 : (G.2.2.1 a 0).toInt ≠ (8 : Int32).toInt := fun y => e1 (Int32.toInt_inj.mp y)
        have n2 : (G.2.2.1 a 0).toInt ≠ (9 : Int32).toInt := fun y => e2 (Int32.toInt_inj.mp y)
        rw [show (8 : Int32).toInt = 8 from rfl] at n1
        rw [show (9 : Int32).toInt = 9 from rfl] at n2
        omega
      rw [if_pos e3]
      cases e4 : pMay k (G.2.2.1 a 0) <;> simp only [x73_0, x73_1, x73_4, x73_6, x73_9, x73_10, x73_11, x73_12, x73_15, x73_17, x73_20, x73_21, x73_23, x73_26, x73_27, x73_29, x73_32, x73_33, x73_36, x73_37, x73_38, x73_39, x73_40, x73_43, x73_46, gf_1_0 ha, e1, e2, e39 he, e4, xb_t, xb_f, Option.bind_some, Option.toList_some, Option.toList_none, List.cons_append, List.nil_append, Option.isSome_some, if_true, eq_self, or_true, true_or, xb_01, mcl_cl, not_true_eq_false, not_false_eq_true, if_false]
/-- a box set -/
def bxS (G : GS) (x : Nat) (k : Int32) (u : Int64) : GS := gsJ (gsI G x 0 k) x 1 u
theorem c27' (ha : G.1 x = 16) : X g 27 0 [.val (va_rf (some x)), .val (.int k), .val (.long u), .second] [] (gH n kc ks G) = some (none, gH n kc ks (bxS G x k u)) := c27 ha
theorem sl_nI (hs : s < 10) : mSlot (nI s) = true ∧ tn (nI s) = s := by
  refine ⟨mWithin_iff.mpr ?_, tn_nI (by omega)⟩
  rw [nI_toInt (by omega)]
  omega
theorem n11_10 : ¬ (10 : Int32) = -11 ∧ ¬ (11 : Int32) = -11 ∧ ¬ (10 : Int32) = -1 ∧ ¬ (11 : Int32) = -1 := by decide
theorem c133 (hw : gW G) (hk : G.1 c = 15) (hb : G.2.2.2.2 c 9 = some b) (hB : bS G b ρ S) (hO : mOk S) (he : gE g G) (hs : s < 10) (hv0 : 0 ≤ v.toInt) (hv8 : v.toInt ≤ 8) (hx : G.1 x = 16) : X g 133 0 [.val (va_rf (some c)), .val (.int (nI s)), .val (.int i), .val (.int v), .val (va_rf (some x)), .unset] [] (gH n kc ks G) = some (some (.int (sAns (sRead S s i v))), gH n kc ks (if sRead S s i v = 0 then bxS G x (sBk S s i v) (sBv S s i v) else G)) := by
  obtain ⟨s1, s2⟩ := sl_nI hs
  have k9 := c9 (g := g) (n := n) (kc := kc) (ks := ks) (i := nI s) hw hB.1
  have k11 := c11 (g := g) (n := n) (kc := kc) (ks := ks) (i := nI s) hw hB.1
  unfold bRow at k9
  unfold bHeld at k11
  rw [if_pos s1, s2] at k9 k11
  unfold sRead
  rcases hB.2.1 s hs with ⟨r0, r1, r2, r3, r4⟩ | ⟨r0, r1, r2⟩ | ⟨r0, r1, r2, r3⟩
  · obtain ⟨q1, q2, q3, q4⟩ := r4
    obtain ⟨e7, hr⟩ := mRow_eq r0
    have n11 := mRow_n11 r0
    rw [if_neg n11, if_neg (by rw [r0]; simp)]
    rw [r1] at k9
    have hne : ¬ (some (ρ (mr S s)) : Option Nat) = none := by simp
    have k66 := c66 (g := g) (n := n) (kc := kc) (ks := ks) (i := i) hw q1
    have k67 := c67 (g := g) (n := n) (kc := kc) (ks := ks) (i := i) hw q1
    have k68 := c68 (g := g) (n := n) (kc := kc) (ks := ks) (i := i) hw q1
    rw [q3, mIn_x hO.1 hr] at k66 k67 k68
    by_cases v8 : v = 8
    · rw [if_neg (fun z => z.1 v8)]
      cases hi : mIn S (mr S s) i with
      | false =>
        rw [if_pos rfl]
        rw [hi] at k66
        simp only [x133_0, x133_1, x133_4, x133_5, x133_8, x133_10, x133_12, x133_15, x133_16, x133_19, x133_20, x133_23, x133_24, x133_25, x133_27, x133_30, x133_32, x133_35, x133_37, x133_40, x133_42, x133_43, x133_45, x133_46, x133_49, x133_52, x133_54, x133_55, x133_56, x133_58, x133_61, x133_63, x133_65, x133_66, x133_69, x133_71, x133_72, x133_75, x133_78, x133_79, x133_80, x133_82, x133_85, x133_86, x133_89, x133_92, x133_94, x133_95, x133_97, x133_98, x133_100, x133_103, x133_105, x133_106, x133_109, x133_110, x133_113, x133_116, x133_117, gf_15_9 hk, hb, gc_9 hB.1, k9, hne, v8, gc_1 q1, k66, xb_f, sAns, Option.bind_some, Option.toList_some, Option.toList_none, List.cons_append, List.nil_append, Option.isSome_some, if_true, eq_self, or_true, true_or, xb_01, mcl_cl, not_true_eq_false, not_false_eq_true, if_false]
        rfl
      | true =>
        rw [if_neg (by simp), if_pos v8, if_pos rfl]
        rw [hi] at k66 k67 k68
        rw [if_pos rfl] at k67 k68
        obtain ⟨z1, z2, z3⟩ := mIn_eq hO.1 hr hi
        have hin : tn i < mz S (mr S s) := by
          have := mz_eq hO.1 hr
          rw [this.1, nI_toInt (by omega)] at z3
          omega
        obtain ⟨p1, p2⟩ := q4 (tn i) hin
        rw [p1] at k67
        rw [p2] at k68
        unfold sBk sBv sAt
        rw [if_pos v8, if_pos v8]
        simp only [x133_0, x133_1, x133_4, x133_5, x133_8, x133_10, x133_12, x133_15, x133_16, x133_19, x133_20, x133_23, x133_24, x133_25, x133_27, x133_30, x133_32, x133_35, x133_37, x133_40, x133_42, x133_43, x133_45, x133_46, x133_49, x133_52, x133_54, x133_55, x133_56, x133_58, x133_61, x133_63, x133_65, x133_66, x133_69, x133_71, x133_72, x133_75, x133_78, x133_79, x133_80, x133_82, x133_85, x133_86, x133_89, x133_92, x133_94, x133_95, x133_97, x133_98, x133_100, x133_103, x133_105, x133_106, x133_109, x133_110, x133_113, x133_116, x133_117, gf_15_9 hk, hb, gc_9 hB.1, k9, hne, v8, gc_1 q1, k66, k67, k68, xb_t, i32_10, gc_16 hx, c27' hx, sAns, Option.bind_some, Option.toList_some, Option.toList_none, List.cons_append, List.nil_append, Option.isSome_some, if_true, eq_self, or_true, true_or, xb_01, mcl_cl, not_true_eq_false, not_false_eq_true, if_false]
    · by_cases k8 : 8 ≤ S.2.2.1 2 (mr S s)
      · rw [if_pos ⟨v8, k8⟩]
        have k8' : ¬ S.2.2.1 2 (mr S s) < 8 := Int32.not_lt.mpr k8
        simp only [x133_0, x133_1, x133_4, x133_5, x133_8, x133_10, x133_12, x133_15, x133_16, x133_19, x133_20, x133_23, x133_24, x133_25, x133_27, x133_30, x133_32, x133_35, x133_37, x133_40, x133_42, x133_43, x133_45, x133_46, x133_49, x133_52, x133_54, x133_55, x133_56, x133_58, x133_61, x133_63, x133_65, x133_66, x133_69, x133_71, x133_72, x133_75, x133_78, x133_79, x133_80, x133_82, x133_85, x133_86, x133_89, x133_92, x133_94, x133_95, x133_97, x133_98, x133_100, x133_103, x133_105, x133_106, x133_109, x133_110, x133_113, x133_116, x133_117, gf_15_9 hk, hb, gc_9 hB.1, k9, hne, v8, gf_1_0 q1, q2, k8', sAns, Option.bind_some, Option.toList_some, Option.toList_none, List.cons_append, List.nil_append, Option.isSome_some, if_true, eq_self, or_true, true_or, xb_01, mcl_cl, not_true_eq_false, not_false_eq_true, if_false]
        rfl
      · rw [if_neg (fun z => k8 z.2)]
        have k8' : S.2.2.1 2 (mr S s) < 8 := Int32.not_le.mp k8
        cases hi : mIn S (mr S s) i with
        | false =>
          rw [if_pos rfl]
          rw [hi] at k66
          simp only [x133_0, x133_1, x133_4, x133_5, x133_8, x133_10, x133_12, x133_15, x133_16, x133_19, x133_20, x133_23, x133_24, x133_25, x133_27, x133_30, x133_32, x133_35, x133_37, x133_40, x133_42, x133_43, x133_45, x133_46, x133_49, x133_52, x133_54, x133_55, x133_56, x133_58, x133_61, x133_63, x133_65, x133_66, x133_69, x133_71, x133_72, x133_75, x133_78, x133_79, x133_80, x133_82, x133_85, x133_86, x133_89, x133_92, x133_94, x133_95, x133_97, x133_98, x133_100, x133_103, x133_105, x133_106, x133_109, x133_110, x133_113, x133_116, x133_117, gf_15_9 hk, hb, gc_9 hB.1, k9, hne, v8, gf_1_0 q1, q2, k8', gc_1 q1, k66, xb_f, sAns, Option.bind_some, Option.toList_some, Option.toList_none, List.cons_append, List.nil_append, Option.isSome_some, if_true, eq_self, or_true, true_or, xb_01, mcl_cl, not_true_eq_false, not_false_eq_true, if_false]
          rfl
        | true =>
          rw [if_neg (by simp), if_neg v8]
          rw [hi] at k66 k67 k68
          rw [if_pos rfl] at k67 k68
          obtain ⟨z1, z2, z3⟩ := mIn_eq hO.1 hr hi
          have hin : tn i < mz S (mr S s) := by
            have := mz_eq hO.1 hr
            rw [this.1, nI_toInt (by omega)] at z3
            omega
          obtain ⟨p1, p2⟩ := q4 (tn i) hin
          rw [p2] at k68
          cases hm : pMay (S.2.2.1 2 (mr S s)) v with
          | false =>
            rw [if_pos rfl]
            simp only [x133_0, x133_1, x133_4, x133_5, x133_8, x133_10, x133_12, x133_15, x133_16, x133_19, x133_20, x133_23, x133_24, x133_25, x133_27, x133_30, x133_32, x133_35, x133_37, x133_40, x133_42, x133_43, x133_45, x133_46, x133_49, x133_52, x133_54, x133_55, x133_56, x133_58, x133_61, x133_63, x133_65, x133_66, x133_69, x133_71, x133_72, x133_75, x133_78, x133_79, x133_80, x133_82, x133_85, x133_86, x133_89, x133_92, x133_94, x133_95, x133_97, x133_98, x133_100, x133_103, x133_105, x133_106, x133_109, x133_110, x133_113, x133_116, x133_117, gf_15_9 hk, hb, gc_9 hB.1, k9, hne, v8, gf_1_0 q1, q2, k8', gc_1 q1, k66, xb_t, i32_10, e39 he, hm, xb_f, sAns, Option.bind_some, Option.toList_some, Option.toList_none, List.cons_append, List.nil_append, Option.isSome_some, if_true, eq_self, or_true, true_or, xb_01, mcl_cl, not_true_eq_false, not_false_eq_true, if_false]
            rfl
          | true =>
            rw [if_neg (by simp), if_pos rfl]
            have hov := row_okv hO.2.1 hO.2.2.1 hr z2 k8'
            have k40 := c40 (g := g) (h := gH n kc ks G) (a := v) hov (pMay_8 hm)
            unfold sBk sBv sAt
            rw [if_neg v8, if_neg v8]
            simp only [x133_0, x133_1, x133_4, x133_5, x133_8, x133_10, x133_12, x133_15, x133_16, x133_19, x133_20, x133_23, x133_24, x133_25, x133_27, x133_30, x133_32, x133_35, x133_37, x133_40, x133_42, x133_43, x133_45, x133_46, x133_49, x133_52, x133_54, x133_55, x133_56, x133_58, x133_61, x133_63, x133_65, x133_66, x133_69, x133_71, x133_72, x133_75, x133_78, x133_79, x133_80, x133_82, x133_85, x133_86, x133_89, x133_92, x133_94, x133_95, x133_97, x133_98, x133_100, x133_103, x133_105, x133_106, x133_109, x133_110, x133_113, x133_116, x133_117, gf_15_9 hk, hb, gc_9 hB.1, k9, hne, v8, gf_1_0 q1, q2, k8', gc_1 q1, k66, k68, xb_t, i32_10, e39 he, hm, k40, gc_16 hx, c27' hx, sAns, Option.bind_some, Option.toList_some, Option.toList_none, List.cons_append, List.nil_append, Option.isSome_some, if_true, eq_self, or_true, true_or, xb_01, mcl_cl, not_true_eq_false, not_false_eq_true, if_false]
  · rw [if_pos r0]
    rw [r1] at k9
    rw [r2, if_pos rfl] at k11
    simp only [x133_0, x133_1, x133_4, x133_5, x133_8, x133_10, x133_12, x133_15, x133_16, x133_19, x133_20, x133_23, x133_24, x133_25, x133_27, x133_30, x133_32, x133_35, x133_37, x133_40, x133_42, x133_43, x133_45, x133_46, x133_49, x133_52, x133_54, x133_55, x133_56, x133_58, x133_61, x133_63, x133_65, x133_66, x133_69, x133_71, x133_72, x133_75, x133_78, x133_79, x133_80, x133_82, x133_85, x133_86, x133_89, x133_92, x133_94, x133_95, x133_97, x133_98, x133_100, x133_103, x133_105, x133_106, x133_109, x133_110, x133_113, x133_116, x133_117, gf_15_9 hk, hb, gc_9 hB.1, k9, k11, sAns, Option.bind_some, Option.toList_some, Option.toList_none, List.cons_append, List.nil_append, Option.isSome_some, if_true, eq_self, or_true, true_or, xb_01, mcl_cl, not_true_eq_false, not_false_eq_true, if_false]
    rfl
  · have hne : ¬ S.2.2.1 7 s = -11 ∧ ¬ S.2.2.1 7 s = -1 ∧ mRow S s = false := by
      rcases r0 with r0 | r0
      · rw [r0]
        refine ⟨by decide, by decide, ?_⟩
        unfold mRow
        rw [r0]
        decide
      · rw [r0]
        refine ⟨by decide, by decide, ?_⟩
        unfold mRow
        rw [r0]
        decide
    rw [if_neg hne.1, if_pos hne.2.2]
    rw [r1] at k9
    rw [r2, if_neg hne.2.1] at k11
    simp only [x133_0, x133_1, x133_4, x133_5, x133_8, x133_10, x133_12, x133_15, x133_16, x133_19, x133_20, x133_23, x133_24, x133_25, x133_27, x133_30, x133_32, x133_35, x133_37, x133_40, x133_42, x133_43, x133_45, x133_46, x133_49, x133_52, x133_54, x133_55, x133_56, x133_58, x133_61, x133_63, x133_65, x133_66, x133_69, x133_71, x133_72, x133_75, x133_78, x133_79, x133_80, x133_82, x133_85, x133_86, x133_89, x133_92, x133_94, x133_95, x133_97, x133_98, x133_100, x133_103, x133_105, x133_106, x133_109, x133_110, x133_113, x133_116, x133_117, gf_15_9 hk, hb, gc_9 hB.1, k9, k11, sAns, Option.bind_some, Option.toList_some, Option.toList_none, List.cons_append, List.nil_append, Option.isSome_some, if_true, eq_self, or_true, true_or, xb_01, mcl_cl, not_true_eq_false, not_false_eq_true, if_false]
    rfl
end K14
