/-! THE REFERENCE's methods, 13: redo, act, stops, forgets -/
def mAny (f : Nat → Bool) : Nat → Nat → Bool
  | _, 0 => false
  | s, d + 1 => f s || mAny f (s + 1) d
/-- which acts are left: how many, how many of them done, which -/
def fSel (has : Nat → Bool) (dn : Nat) : Nat → Nat → Nat → Nat → (Nat → Nat) → Nat × Nat × (Nat → Nat)
  | _, 0, l, e, o => (l, e, o)
  | a, d + 1, l, e, o => if has a = true then fSel has dn (a + 1) d l e o else fSel has dn (a + 1) d (l + 1) (if a < dn then e + 1 else e) (fun x => if x = l then a else o x)
section M14
variable {g : xG} {n kc ks mu s w q p r t f : Nat} {S : MS} {h : xH} {i j k m v x : Int32} {u : Int64} {a : Int32} {b : Int64}
theorem l206 {o : Nat → Nat} {e : Nat → Int32} {y : Nat → Int64} {c : Nat} (hd : w < 24) (hc64 : c ≤ 64) : ∀ d k T (s2 : Slot), (∀ x, x < c → o x < 320 ∧ T.2.2.1 17 (64 * w + x) = nI (o x) ∧ T.2.2.1 20 (64 * w + x) = e x ∧ T.2.2.2 21 (64 * w + x) = y x) → T.1 24 = nI w → T.2.2.1 22 w = nI c → k + d = c → X g 206 16 [.val (va_rf (some mu)), .val (.int (nI k)), s2] [] (mH n kc ks mu T) = some (some (.int (nI c)), mH n kc ks mu (msI (mUp o e y k d T) 24 (nI (w + 1)))) := by
  intro d
  induction d with
  | zero =>
    intro k T s2 _ hw hc hk
    have h1 : nI c ≤ nI k := nI_le (by omega) (by omega)
    have hw2 : (msI T 24 (nI (w + 1))).1 24 = nI (w + 1) := by simp [msI]
    simp only [x206_0, x206_1, x206_4, x206_5, x206_8, x206_11, x206_13, x206_14, x206_15, x206_16, x206_17, x206_18, x206_21, x206_22, x206_25, x206_26, x206_29, x206_31, x206_32, x206_35, x206_36, x206_37, x206_38, x206_39, x206_40, x206_43, x206_44, x206_47, x206_48, x206_49, x206_50, x206_53, x206_54, x206_55, x206_56, x206_57, x206_60, x206_61, x206_64, x206_65, x206_66, x206_67, x206_70, x206_71, x206_72, x206_73, x206_79, x206_80, x206_81, x206_84, x206_85, x206_86, x206_89, x206_90, x206_93, x206_94, x206_97, x206_98, x206_99, x206_100, h1, mf_22, mf_24, ml_22, mp_24, hw, hc, hw2, nI_1, nI_pred, msI3, xin_nI hd (by decide), nI_clamp (lt31 hd (by decide)), mUp, Option.bind_some, Option.toList_some, Option.toList_none, List.cons_append, List.nil_append, Option.isSome_some, if_true, eq_self, or_true, true_or, xb_01, mcl_cl, not_true_eq_false, not_false_eq_true, if_false]
  | succ d ih =>
    intro k T s2 hT hw hc hk
    obtain ⟨h1, h2, h3, h4⟩ := hT k (by omega)
    have h5 : ¬ nI c ≤ nI k := nI_ge (by omega) (by omega)
    have h6 : 64 * w + k < 1536 := by omega
    have hT' : ∀ x, x < c → o x < 320 ∧ (msB (msA T 5 (o k) (e k)) 6 (o k) (y k)).2.2.1 17 (64 * w + x) = nI (o x) ∧ (msB (msA T 5 (o k) (e k)) 6 (o k) (y k)).2.2.1 20 (64 * w + x) = e x ∧ (msB (msA T 5 (o k) (e k)) 6 (o k) (y k)).2.2.2 21 (64 * w + x) = y x := by
      intro x hx
      obtain ⟨g1, g2, g3, g4⟩ := hT x (by omega)
      refine ⟨g1, ?_, ?_, ?_⟩
      · simpa [msA, msB] using g2
      · simpa [msA, msB] using g3
      · simpa [msA, msB] using g4
    have h7 := fun s2 => ih (k + 1) (msB (msA T 5 (o k) (e k)) 6 (o k) (y k)) s2 hT' hw (by simpa [msA, msB] using hc) (by omega)
    simp only [x206_0, x206_1, x206_4, x206_5, x206_8, x206_11, x206_13, x206_14, x206_15, x206_16, x206_17, x206_18, x206_21, x206_22, x206_25, x206_26, x206_29, x206_31, x206_32, x206_35, x206_36, x206_37, x206_38, x206_39, x206_40, x206_43, x206_44, x206_47, x206_48, x206_49, x206_50, x206_53, x206_54, x206_55, x206_56, x206_57, x206_60, x206_61, x206_64, x206_65, x206_66, x206_67, x206_70, x206_71, x206_72, x206_73, x206_79, x206_80, x206_81, x206_84, x206_85, x206_86, x206_89, x206_90, x206_93, x206_94, x206_97, x206_98, x206_99, x206_100, h5, mf_24, hw, mf_22, ml_22, hc, xin_nI hd (by decide), nI_clamp (lt31 hd (by decide)), nI_64, mf_17, ml_17, mf_20, ml_20, mf_21, ml_21, mf_5, ms_5, mf_6, ms_6, h2, h3, h4, xin_nI h6 (by decide), nI_clamp (lt31 h6 (by decide)), xin_nI h1 (by decide), nI_clamp (lt31 h1 (by decide)), msA1, msA2, msA3, msA4, msB1, msB2, msB3, msB4, msI1, msI2, msI3, msI4, msL1, msL2, msL3, msL4, Nat.reduceEqDiff, false_and, true_and, and_false, and_true, and_self, Option.bind_some, Option.toList_some, Option.toList_none, List.cons_append, List.nil_append, Option.isSome_some, if_true, eq_self, or_true, true_or, xb_01, mcl_cl, not_true_eq_false, not_false_eq_true, if_false]
    simp only [x206_76, nI_1]
    exact h7 _
def fRedo (S : MS) : Int32 × MS := if S.1 24 = S.1 23 then (-3, S) else (S.2.2.1 22 (tn (S.1 24)), msI (mUp (fun x => tn (S.2.2.1 17 (64 * tn (S.1 24) + x))) (fun x => S.2.2.1 20 (64 * tn (S.1 24) + x)) (fun x => S.2.2.2 21 (64 * tn (S.1 24) + x)) 0 (tn (S.2.2.1 22 (tn (S.1 24)))) S) 24 (S.1 24 + 1))
theorem e206 {d c : Nat} (hd : S.1 24 = nI d) (hc : S.1 23 = nI c) (hdc : d ≤ c) (h24 : c ≤ 24) (hj : ∀ w, w < c → mJa S w) : X g 206 0 [.val (va_rf (some mu)), .unset, .unset] [] (mH n kc ks mu S) = some (some (.int (fRedo S).1), mH n kc ks mu (fRedo S).2) := by
  unfold fRedo
  have h0 : (nI d = nI c) = (d = c) := propext (nI_eq (by omega) (by omega))
  rw [hd, hc, tn_nI (by omega), nI_1]
  by_cases e : d = c
  · rw [if_pos (by rw [h0]; exact e)]
    simp only [x206_0, x206_1, x206_4, x206_5, x206_8, x206_11, x206_13, x206_14, x206_15, mf_24, mf_23, hd, hc, h0, e, Option.bind_some, Option.toList_some, Option.toList_none, List.cons_append, List.nil_append, Option.isSome_some, if_true, eq_self, or_true, true_or, xb_01, mcl_cl, not_true_eq_false, not_false_eq_true, if_false]
  · rw [if_neg (by rw [h0]; exact e)]
    obtain ⟨j1, j2, j3⟩ := hj d (by omega)
    have hcc := nI_tn j1
    have hd24 : d < 24 := by omega
    have h1 := l206 (g := g) (n := n) (kc := kc) (ks := ks) (mu := mu) (o := fun x => tn (S.2.2.1 17 (64 * d + x))) (e := fun x => S.2.2.1 20 (64 * d + x)) (y := fun x => S.2.2.2 21 (64 * d + x)) (c := tn (S.2.2.1 22 d)) (w := d) hd24 (by unfold tn; omega) (tn (S.2.2.1 22 d)) 0 S .unset (fun x hx => ⟨by have := j3 x hx; show tn _ < 320; unfold tn; omega, nI_tn (j3 x hx).1, rfl, rfl⟩) hd hcc (by omega)
    rw [← hcc] at h1
    have h1' : X g 206 16 [.val (va_rf (some mu)), .val (.int 0), .unset] [] (mH n kc ks mu S) = _ := h1
    simp only [x206_0, x206_1, x206_4, x206_5, x206_8, x206_11, x206_13, x206_14, x206_15, mf_24, mf_23, hd, hc, h0, e, h1', Option.bind_some, Option.toList_some, Option.toList_none, List.cons_append, List.nil_append, Option.isSome_some, if_true, eq_self, or_true, true_or, xb_01, mcl_cl, not_true_eq_false, not_false_eq_true, if_false]
def fAct (S : MS) (i j : Int32) : Int32 := if mWithin i.toInt 0 (S.1 24 - 1).toInt = false then -1 else if j = 0 then S.2.2.1 22 (tn i) else if mWithin j.toInt 10 (9 + S.2.2.1 22 (tn i)).toInt = false then -1 else nI (tn (S.2.2.1 17 (64 * tn i + (tn j - 10))) % 32)
theorem e207 {d : Nat} (hd : S.1 24 = nI d) (h24 : d ≤ 24) (hj : ∀ w, w < d → mJa S w) : X g 207 0 [.val (va_rf (some mu)), .val (.int i), .val (.int j)] [] (mH n kc ks mu S) = some (some (.int (fAct S i j)), mH n kc ks mu S) := by
  unfold fAct
  have d0 : 0 ≤ (S.1 24).toInt := by rw [hd, nI_toInt (by omega)]; omega
  by_cases e1 : mWithin i.toInt 0 (S.1 24 - 1).toInt = false
  · have e2 : mWithin i.toInt (Int64.toInt 0) (S.1 24 - 1).toInt = false := e1
    rw [if_pos e1]
    simp only [x207_0, x207_1, x207_2, x207_3, x207_4, x207_7, x207_8, x207_9, x207_10, x207_13, x207_16, x207_17, x207_18, x207_19, x207_22, x207_23, x207_26, x207_27, x207_28, x207_29, x207_30, x207_31, x207_34, x207_36, x207_37, x207_40, x207_41, x207_42, x207_43, x207_44, x207_47, x207_50, x207_51, x207_54, x207_56, x207_57, x207_58, x207_59, x207_60, x207_62, x207_63, x207_64, x207_66, x207_67, x207_70, x207_71, mf_24, c154, i32_64, e2, xb_f, Option.bind_some, Option.toList_some, Option.toList_none, List.cons_append, List.nil_append, Option.isSome_some, if_true, eq_self, or_true, true_or, xb_01, mcl_cl, not_true_eq_false, not_false_eq_true, if_false]
  · have e1 : mWithin i.toInt 0 (S.1 24 - 1).toInt = true := by simpa using e1
    have e2 : mWithin i.toInt (Int64.toInt 0) (S.1 24 - 1).toInt = true := e1
    rw [if_neg (by rw [e1]; simp)]
    have hi := mWithin_iff.mp e1
    rw [i32_pred d0, hd, nI_toInt (by omega)] at hi
    have e3 := nI_tn hi.1
    have e4 : tn i < d := by unfold tn; omega
    rw [e3] at e2
    generalize tn i = w at *
    subst e3
    have e5 : w < 24 := by omega
    obtain ⟨j1, j2, j3⟩ := hj w e4
    by_cases e6 : j = 0
    · rw [if_pos e6]
      simp only [x207_0, x207_1, x207_2, x207_3, x207_4, x207_7, x207_8, x207_9, x207_10, x207_13, x207_16, x207_17, x207_18, x207_19, x207_22, x207_23, x207_26, x207_27, x207_28, x207_29, x207_30, x207_31, x207_34, x207_36, x207_37, x207_40, x207_41, x207_42, x207_43, x207_44, x207_47, x207_50, x207_51, x207_54, x207_56, x207_57, x207_58, x207_59, x207_60, x207_62, x207_63, x207_64, x207_66, x207_67, x207_70, x207_71, mf_24, c154, i32_64, e2, mf_22, ml_22, xin_nI e5 (by decide), nI_clamp (lt31 e5 (by decide)), e6, xb_t, i32_10, Option.bind_some, Option.toList_some, Option.toList_none, List.cons_append, List.nil_append, Option.isSome_some, if_true, eq_self, or_true, true_or, xb_01, mcl_cl, not_true_eq_false, not_false_eq_true, if_false]
    · rw [if_neg e6]
      by_cases e7 : mWithin j.toInt 10 (9 + S.2.2.1 22 w).toInt = false
      · have e8 : mWithin j.toInt (Int64.toInt 10) (9 + S.2.2.1 22 w).toInt = false := e7
        rw [if_pos e7]
        simp only [x207_0, x207_1, x207_2, x207_3, x207_4, x207_7, x207_8, x207_9, x207_10, x207_13, x207_16, x207_17, x207_18, x207_19, x207_22, x207_23, x207_26, x207_27, x207_28, x207_29, x207_30, x207_31, x207_34, x207_36, x207_37, x207_40, x207_41, x207_42, x207_43, x207_44, x207_47, x207_50, x207_51, x207_54, x207_56, x207_57, x207_58, x207_59, x207_60, x207_62, x207_63, x207_64, x207_66, x207_67, x207_70, x207_71, mf_24, c154, i32_64, e2, mf_22, ml_22, xin_nI e5 (by decide), nI_clamp (lt31 e5 (by decide)), e6, e8, xb_t, xb_f, i32_10, Option.bind_some, Option.toList_some, Option.toList_none, List.cons_append, List.nil_append, Option.isSome_some, if_true, eq_self, or_true, true_or, xb_01, mcl_cl, not_true_eq_false, not_false_eq_true, if_false]
      · have e7 : mWithin j.toInt 10 (9 + S.2.2.1 22 w).toInt = true := by simpa using e7
        have e8 : mWithin j.toInt (Int64.toInt 10) (9 + S.2.2.1 22 w).toInt = true := e7
        rw [if_neg (by rw [e7]; simp)]
        have hw := mWithin_iff.mp e7
        have c9 : (9 + S.2.2.1 22 w).toInt = 9 + (S.2.2.1 22 w).toInt := by
          have z := nI_tn j1
          have z2 : tn (S.2.2.1 22 w) ≤ 64 := by unfold tn; omega
          rw [z, show (9 : Int32) = nI 9 from rfl, nI_add, nI_toInt (by omega), nI_toInt (by omega)]
          omega
        rw [c9] at hw
        have y1 : j = nI (tn j) := nI_tn (by omega)
        have y2 : 10 ≤ tn j := by unfold tn; omega
        have y3 : tn j - 10 < tn (S.2.2.1 22 w) := by unfold tn; omega
        obtain ⟨g1, g2⟩ := j3 (tn j - 10) y3
        have y4 : 64 * w + (tn j - 10) < 1536 := by unfold tn at y3 ⊢; omega
        have y5 : (64 : Int32) * nI w + j - 10 = nI (64 * w + (tn j - 10)) := by
          rw [y1, nI_64, show (10 : Int32) = nI 10 from rfl, pk_sub (by omega), tn_nI (by unfold tn at y3 ⊢; omega)]
          congr 1
          omega
        have y6 := nI_tn g1
        have y7 : tn (S.2.2.1 17 (64 * w + (tn j - 10))) < 320 := by unfold tn at *; omega
        have y8 : S.2.2.1 17 (64 * w + (tn j - 10)) - S.2.2.1 17 (64 * w + (tn j - 10)) / 32 * 32 = nI (tn (S.2.2.1 17 (64 * w + (tn j - 10))) % 32) := by
          generalize tn (S.2.2.1 17 (64 * w + (tn j - 10))) = z at *
          rw [y6]
          exact pk_rem (d := 32) (by omega) (by decide) (by decide)
        have y9 : ¬ (32 : Int32) = 0 := by decide
        simp only [x207_0, x207_1, x207_2, x207_3, x207_4, x207_7, x207_8, x207_9, x207_10, x207_13, x207_16, x207_17, x207_18, x207_19, x207_22, x207_23, x207_26, x207_27, x207_28, x207_29, x207_30, x207_31, x207_34, x207_36, x207_37, x207_40, x207_41, x207_42, x207_43, x207_44, x207_47, x207_50, x207_51, x207_54, x207_56, x207_57, x207_58, x207_59, x207_60, x207_62, x207_63, x207_64, x207_66, x207_67, x207_70, x207_71, mf_24, c154, i32_64, e2, mf_22, ml_22, mf_17, ml_17, xin_nI e5 (by decide), nI_clamp (lt31 e5 (by decide)), e6, e8, y5, xin_nI y4 (by decide), nI_clamp (lt31 y4 (by decide)), y8, y9, xb_t, i32_10, Option.bind_some, Option.toList_some, Option.toList_none, List.cons_append, List.nil_append, Option.isSome_some, if_true, eq_self, or_true, true_or, xb_01, mcl_cl, not_true_eq_false, not_false_eq_true, if_false]
/-- a move refused -/
def mStop (S : MS) (p : Nat) (i j k : Int32) : MS := msA (msA (msA (msI (msI (mDn (fun x => tn (S.2.2.1 13 x)) (S.2.2.1 14) (S.2.2.2 15) p S) 16 0) 25 1) 26 0 i) 26 1 j) 26 2 k
theorem c208 (hp : p ≤ 64) (e1 : S.1 16 = nI p) (hq : ∀ x, x < p → 0 ≤ (S.2.2.1 13 x).toInt ∧ (S.2.2.1 13 x).toInt < 320) : X g 208 0 [.val (va_rf (some mu)), .val (.int i), .val (.int j), .val (.int k)] [] (mH n kc ks mu S) = some (some (.int (-100 - i)), mH n kc ks mu (mStop S p i j k)) := by
  have h0 : xin 0 3 = true := by decide
  have h1 : xin 1 3 = true := by decide
  have h2 : xin 2 3 = true := by decide
  have z0 : Int32.toNatClampNeg 0 = 0 := by decide
  have z1 : Int32.toNatClampNeg 1 = 1 := by decide
  have z2 : Int32.toNatClampNeg 2 = 2 := by decide
  have o1 : ((1 : Int32) == 0 || (1 : Int32) == 1) = true := by decide
  simp only [x208_0, x208_1, x208_4, x208_5, x208_6, x208_9, x208_10, x208_13, x208_14, x208_15, x208_16, x208_17, x208_20, x208_21, x208_22, x208_23, x208_24, x208_27, x208_28, x208_29, x208_30, x208_32, x208_33, x208_34, c203 hp e1 hq, mf_25, mp_25, mf_26, ms_26, h0, h1, h2, z0, z1, z2, o1, Option.bind_some, Option.toList_some, Option.toList_none, List.cons_append, List.nil_append, Option.isSome_some, if_true, eq_self, or_true, true_or, xb_01, mcl_cl, not_true_eq_false, not_false_eq_true, if_false]
  rfl
/-- whether an act has a cell of a row -/
def sHs (S : MS) (row : Int32) (y : Nat) : Bool := mAny (fun k => decide (S.2.2.1 17 (64 * y + k) / 32 = row)) 0 (tn (S.2.2.1 22 y))
theorem l204a {T : MS} {y c : Nat} (hy : y < 24) (hc : T.2.2.1 22 y = nI c) (hc64 : c ≤ 64) (i2 i3 : Int32) : ∀ d k (z : Bool), k + d = c → X g 204 22 [.val (va_rf (some mu)), .val (.int i), .val (.int i2), .val (.int i3), .val (.int (nI y)), .val (.int (xb z)), .val (.int (nI k))] [] (mH n kc ks mu T) = X g 204 72 [.val (va_rf (some mu)), .val (.int i), .val (.int i2), .val (.int i3), .val (.int (nI y)), .val (.int (xb (z || mAny (fun k => decide (T.2.2.1 17 (64 * y + k) / 32 = i)) k d))), .val (.int (nI c))] [] (mH n kc ks mu T) := by
  intro d
  induction d with
  | zero =>
    intro k z hk
    have e : k = c := by omega
    subst e
    have h1 : nI k ≤ nI k := nI_le (by omega) (by omega)
    simp only [x204_22, x204_24, x204_25, x204_28, x204_30, x204_31, x204_34, x204_36, x204_39, x204_40, x204_43, x204_45, x204_47, x204_48, x204_50, x204_51, x204_52, x204_54, x204_55, x204_56, x204_59, x204_60, x204_63, x204_64, x204_66, mf_22, ml_22, xin_nI hy (by decide), nI_clamp (lt31 hy (by decide)), hc, h1, mAny, Bool.or_false, Option.bind_some, Option.toList_some, Option.toList_none, List.cons_append, List.nil_append, Option.isSome_some, if_true, eq_self, or_true, true_or, xb_01, mcl_cl, not_true_eq_false, not_false_eq_true, if_false]
  | succ d ih =>
    intro k z hk
    have h1 : ¬ nI c ≤ nI k := nI_ge (by omega) (by omega)
    have h2 : 64 * y + k < 1536 := by omega
    have h3 : ¬ (32 : Int32) = 0 := by decide
    cases z with
    | true =>
      simp only [x204_22, x204_24, x204_25, x204_28, x204_30, x204_31, x204_34, x204_36, x204_39, x204_40, x204_43, x204_45, x204_47, x204_48, x204_50, x204_51, x204_52, x204_54, x204_55, x204_56, x204_59, x204_60, x204_63, x204_64, x204_66, mf_22, ml_22, xin_nI hy (by decide), nI_clamp (lt31 hy (by decide)), hc, h1, xb_t, i32_10, Option.bind_some, Option.toList_some, Option.toList_none, List.cons_append, List.nil_append, Option.isSome_some, if_true, eq_self, or_true, true_or, xb_01, mcl_cl, not_true_eq_false, not_false_eq_true, if_false]
      simp only [x204_69, x204_107, nI_1]
      have := ih (k + 1) true (by omega)
      rw [xb_t] at this
      rw [this]
      simp
    | false =>
      by_cases e : T.2.2.1 17 (64 * y + k) / 32 = i
      · simp only [x204_22, x204_24, x204_25, x204_28, x204_30, x204_31, x204_34, x204_36, x204_39, x204_40, x204_43, x204_45, x204_47, x204_48, x204_50, x204_51, x204_52, x204_54, x204_55, x204_56, x204_59, x204_60, x204_63, x204_64, x204_66, mf_22, ml_22, xin_nI hy (by decide), nI_clamp (lt31 hy (by decide)), hc, h1, mf_17, ml_17, nI_64, xin_nI h2 (by decide), nI_clamp (lt31 h2 (by decide)), h3, e, xb_f, Option.bind_some, Option.toList_some, Option.toList_none, List.cons_append, List.nil_append, Option.isSome_some, if_true, eq_self, or_true, true_or, xb_01, mcl_cl, not_true_eq_false, not_false_eq_true, if_false]
        simp only [x204_69, x204_107, nI_1]
        have := ih (k + 1) true (by omega)
        rw [xb_t] at this
        rw [this, mAny, decide_eq_true e]
        simp
      · simp only [x204_22, x204_24, x204_25, x204_28, x204_30, x204_31, x204_34, x204_36, x204_39, x204_40, x204_43, x204_45, x204_47, x204_48, x204_50, x204_51, x204_52, x204_54, x204_55, x204_56, x204_59, x204_60, x204_63, x204_64, x204_66, mf_22, ml_22, xin_nI hy (by decide), nI_clamp (lt31 hy (by decide)), hc, h1, mf_17, ml_17, nI_64, xin_nI h2 (by decide), nI_clamp (lt31 h2 (by decide)), h3, e, xb_f, Option.bind_some, Option.toList_some, Option.toList_none, List.cons_append, List.nil_append, Option.isSome_some, if_true, eq_self, or_true, true_or, xb_01, mcl_cl, not_true_eq_false, not_false_eq_true, if_false]
        simp only [x204_69, x204_107, nI_1]
        have := ih (k + 1) false (by omega)
        rw [xb_f] at this
        rw [this, mAny, decide_eq_false e]
        simp
theorem mAc_any {T : MS} {y : Nat} (hc : (S.2.2.1 22 y).toInt ≤ 64) (ha : mAc T S y y) : mAny (fun k => decide (T.2.2.1 17 (64 * y + k) / 32 = i)) 0 (tn (T.2.2.1 22 y)) = sHs S i y := by
  unfold sHs
  rw [ha.1]
  have : ∀ d s, s + d ≤ 64 → mAny (fun k => decide (T.2.2.1 17 (64 * y + k) / 32 = i)) s d = mAny (fun k => decide (S.2.2.1 17 (64 * y + k) / 32 = i)) s d := by
    intro d
    induction d with
    | zero => intro s _; rfl
    | succ d ih =>
      intro s hs
      unfold mAny
      rw [ih (s + 1) (by omega), (ha.2 s (by omega)).1]
  exact this _ _ (by unfold tn; omega)
theorem l204 {dn c : Nat} (hd : S.1 24 = nI dn) (hc : S.1 23 = nI c) (hdc : dn ≤ c) (h24 : c ≤ 24) (hj : ∀ w, w < c → mJa S w) : ∀ d y l e (o : Nat → Nat) T (s5 s6 : Slot), y + d = c → l ≤ y → e ≤ l → T.1 = S.1 → mSo T S → (∀ x, y ≤ x → x < 24 → mAc T S x x) → (∀ x, x < l → mAc T S x (o x)) → ∃ T', X g 204 7 [.val (va_rf (some mu)), .val (.int i), .val (.int (nI l)), .val (.int (nI e)), .val (.int (nI y)), s5, s6] [] (mH n kc ks mu T) = some (none, mH n kc ks mu (msI (msI T' 23 (nI (fSel (sHs S i) dn y d l e o).1)) 24 (nI (fSel (sHs S i) dn y d l e o).2.1))) ∧ T'.1 = S.1 ∧ mSo T' S ∧ (∀ x, x < (fSel (sHs S i) dn y d l e o).1 → mAc T' S x ((fSel (sHs S i) dn y d l e o).2.2 x)) ∧ (fSel (sHs S i) dn y d l e o).1 ≤ y + d := by
  intro d
  induction d with
  | zero =>
    intro y l e o T s5 s6 hy hl he h1 h2 h3 h4
    have e1 : T.1 23 = nI c := by rw [h1, hc]
    have e2 : nI c ≤ nI y := nI_le (by omega) (by omega)
    refine ⟨T, ?_, h1, h2, h4, hl⟩
    simp only [x204_7, x204_9, x204_10, x204_13, x204_16, x204_110, x204_111, x204_112, x204_115, x204_116, x204_117, x204_120, mf_23, mf_24, mp_23, mp_24, e1, e2, fSel, Option.bind_some, Option.toList_some, Option.toList_none, List.cons_append, List.nil_append, Option.isSome_some, if_true, eq_self, or_true, true_or, xb_01, mcl_cl, not_true_eq_false, not_false_eq_true, if_false]
  | succ d ih =>
    intro y l e o T s5 s6 hy hl he h1 h2 h3 h4
    have e1 : T.1 23 = nI c := by rw [h1, hc]
    have e2 : ¬ nI c ≤ nI y := nI_ge (by omega) (by omega)
    have y24 : y < 24 := by omega
    have l24 : l < 24 := by omega
    obtain ⟨j1, j2, j3⟩ := hj y (by omega)
    have a1 := h3 y (by omega) y24
    have b1 : T.2.2.1 22 y = nI (tn (T.2.2.1 22 y)) := nI_tn (by rw [a1.1]; exact j1)
    have b2 : tn (T.2.2.1 22 y) ≤ 64 := by rw [a1.1]; unfold tn; omega
    have h5 := l204a (g := g) (n := n) (kc := kc) (ks := ks) (mu := mu) (i := i) y24 b1 b2 (nI l) (nI e) (tn (T.2.2.1 22 y)) 0 false (by omega)
    rw [xb_f, Bool.false_or, mAc_any j2 a1] at h5
    have h5' : X g 204 22 [.val (va_rf (some mu)), .val (.int i), .val (.int (nI l)), .val (.int (nI e)), .val (.int (nI y)), .val (.int 0), .val (.int 0)] [] (mH n kc ks mu T) = _ := h5
    cases hh : sHs S i y with
    | true =>
      rw [hh] at h5'
      obtain ⟨T', g1, g2, g3, g4, g5⟩ := ih (y + 1) l e o T (.val (.int 1)) (.val (.int (nI (tn (T.2.2.1 22 y))))) (by omega) (by omega) he h1 h2 (fun x a b => h3 x (by omega) b) h4
      rw [show fSel (sHs S i) dn y (d + 1) l e o = fSel (sHs S i) dn (y + 1) d l e o by rw [fSel, hh, if_pos rfl]]
      refine ⟨T', ?_, g2, g3, g4, by omega⟩
      simp only [x204_7, x204_9, x204_10, x204_13, x204_16, x204_17, x204_19, x204_20, mf_23, e1, e2, h5', Option.bind_some, Option.toList_some, Option.toList_none, List.cons_append, List.nil_append, Option.isSome_some, if_true, eq_self, or_true, true_or, xb_01, mcl_cl, not_true_eq_false, not_false_eq_true, if_false]
      simp only [x204_72, x204_74, x204_77, x204_78, x204_80, x204_81, x204_84, x204_87, x204_88, x204_90, x204_91, x204_94, x204_97, x204_98, x204_101, x204_102, x204_103, x204_104, xb_t, i32_10, Option.bind_some, Option.toList_some, Option.toList_none, List.cons_append, List.nil_append, Option.isSome_some, if_true, eq_self, or_true, true_or, xb_01, mcl_cl, not_true_eq_false, not_false_eq_true, if_false]
      simp only [x204_69, x204_107, nI_1]
      exact g1
    | false =>
      rw [hh] at h5'
      have k1 : ∀ x, y + 1 ≤ x → x < 24 → mAc (mMv T y l 64) S x x := fun x a b => mAc_trans (mMv_ne (by omega)) (h3 x (by omega) b)
      have k2 : ∀ x, x < l + 1 → mAc (mMv T y l 64) S x (if x = l then y else o x) := by
        intro x hx
        by_cases z : x = l
        · rw [if_pos z, z]
          exact mAc_trans mMv_to a1
        · rw [if_neg z]
          exact mAc_trans (mMv_ne z) (h4 x (by omega))
      have e3 : T.1 24 = nI dn := by rw [h1, hd]
      by_cases hz : y < dn
      · have z1 : ¬ nI dn ≤ nI y := nI_ge hz (by omega)
        obtain ⟨T', g1, g2, g3, g4, g5⟩ := ih (y + 1) (l + 1) (e + 1) (fun x => if x = l then y else o x) (mMv T y l 64) (.val (.int 0)) (.val (.int (nI (tn (T.2.2.1 22 y))))) (by omega) (by omega) (by omega) h1 (mSo_trans mMv_so h2) k1 k2
        rw [show fSel (sHs S i) dn y (d + 1) l e o = fSel (sHs S i) dn (y + 1) d (l + 1) (e + 1) (fun x => if x = l then y else o x) by rw [fSel, hh, if_neg (by simp), if_pos hz]]
        refine ⟨T', ?_, g2, g3, g4, by omega⟩
        simp only [x204_7, x204_9, x204_10, x204_13, x204_16, x204_17, x204_19, x204_20, mf_23, e1, e2, h5', Option.bind_some, Option.toList_some, Option.toList_none, List.cons_append, List.nil_append, Option.isSome_some, if_true, eq_self, or_true, true_or, xb_01, mcl_cl, not_true_eq_false, not_false_eq_true, if_false]
        have e4 : (mMv T y l 64).1 24 = nI dn := e3
        simp only [x204_72, x204_74, x204_77, x204_78, x204_80, x204_81, x204_84, x204_87, x204_88, x204_90, x204_91, x204_94, x204_97, x204_98, x204_101, x204_102, x204_103, x204_104, c201 y24 l24, mf_24, e4, z1, nI_1, xb_f, Option.bind_some, Option.toList_some, Option.toList_none, List.cons_append, List.nil_append, Option.isSome_some, if_true, eq_self, or_true, true_or, xb_01, mcl_cl, not_true_eq_false, not_false_eq_true, if_false]
        simp only [x204_69, x204_107, nI_1]
        exact g1
      · have z1 : nI dn ≤ nI y := nI_le (by omega) (by omega)
        obtain ⟨T', g1, g2, g3, g4, g5⟩ := ih (y + 1) (l + 1) e (fun x => if x = l then y else o x) (mMv T y l 64) (.val (.int 0)) (.val (.int (nI (tn (T.2.2.1 22 y))))) (by omega) (by omega) (by omega) h1 (mSo_trans mMv_so h2) k1 k2
        rw [show fSel (sHs S i) dn y (d + 1) l e o = fSel (sHs S i) dn (y + 1) d (l + 1) e (fun x => if x = l then y else o x) by rw [fSel, hh, if_neg (by simp), if_neg hz]]
        refine ⟨T', ?_, g2, g3, g4, by omega⟩
        simp only [x204_7, x204_9, x204_10, x204_13, x204_16, x204_17, x204_19, x204_20, mf_23, e1, e2, h5', Option.bind_some, Option.toList_some, Option.toList_none, List.cons_append, List.nil_append, Option.isSome_some, if_true, eq_self, or_true, true_or, xb_01, mcl_cl, not_true_eq_false, not_false_eq_true, if_false]
        have e4 : (mMv T y l 64).1 24 = nI dn := e3
        simp only [x204_72, x204_74, x204_77, x204_78, x204_80, x204_81, x204_84, x204_87, x204_88, x204_90, x204_91, x204_94, x204_97, x204_98, x204_101, x204_102, x204_103, x204_104, c201 y24 l24, mf_24, e4, z1, nI_1, Int32.add_zero, xb_f, Option.bind_some, Option.toList_some, Option.toList_none, List.cons_append, List.nil_append, Option.isSome_some, if_true, eq_self, or_true, true_or, xb_01, mcl_cl, not_true_eq_false, not_false_eq_true, if_false]
        simp only [x204_69, x204_107, nI_1]
        exact g1
/-- which acts are left without a row -/
def sSel (S : MS) (row : Int32) : Nat × Nat × (Nat → Nat) := fSel (sHs S row) (tn (S.1 24)) 0 (tn (S.1 23)) 0 0 (fun x => x)
theorem mAc_refl (y : Nat) : mAc S S y y := ⟨rfl, fun _ _ => ⟨rfl, rfl, rfl, rfl, rfl⟩⟩
theorem mSo_refl : mSo S S := ⟨rfl, fun _ _ _ => rfl, fun _ _ _ _ _ _ => rfl, fun _ _ _ _ => rfl⟩
theorem e204 {dn c : Nat} (hd : S.1 24 = nI dn) (hc : S.1 23 = nI c) (hdc : dn ≤ c) (h24 : c ≤ 24) (hj : ∀ w, w < c → mJa S w) : ∃ T, X g 204 0 [.val (va_rf (some mu)), .val (.int i), .unset, .unset, .unset, .unset, .unset] [] (mH n kc ks mu S) = some (none, mH n kc ks mu (msI (msI T 23 (nI (sSel S i).1)) 24 (nI (sSel S i).2.1))) ∧ T.1 = S.1 ∧ mSo T S ∧ (∀ x, x < (sSel S i).1 → mAc T S x ((sSel S i).2.2 x)) ∧ (sSel S i).1 ≤ c := by
  unfold sSel
  rw [hd, hc, tn_nI (by omega), tn_nI (by omega)]
  obtain ⟨T, g1, g2, g3, g4, g5⟩ := l204 (g := g) (n := n) (kc := kc) (ks := ks) (mu := mu) (i := i) hd hc hdc h24 hj c 0 0 0 (fun x => x) S .unset .unset (by omega) (by omega) (by omega) rfl mSo_refl (fun x _ _ => mAc_refl x) (fun x hx => absurd hx (by omega))
  refine ⟨T, ?_, g2, g3, g4, by omega⟩
  have g1' : X g 204 7 [.val (va_rf (some mu)), .val (.int i), .val (.int 0), .val (.int 0), .val (.int 0), .unset, .unset] [] (mH n kc ks mu S) = _ := g1
  simp only [x204_0, x204_1, x204_2, x204_3, x204_4, x204_5, g1', Option.bind_some, Option.toList_some, Option.toList_none, List.cons_append, List.nil_append, Option.isSome_some, if_true, eq_self, or_true, true_or, xb_01, mcl_cl, not_true_eq_false, not_false_eq_true, if_false]
end M14
