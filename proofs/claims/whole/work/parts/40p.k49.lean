/-! THE CLASS's methods, 15: a line read -/
section K49
variable {g : xG} {n kc ks a b c s w q l x y tp d r p n' e m : Nat} {G T U G1 G2 : GS} {h : xH} {i j k v i1 i2 : Int32} {u z : Int64} {S S1 S' : MS} {F : Nat → Int32} {t : Nat → Int32}
theorem l82 (hL : tpL G tp x l t) : ∀ d k b (v : Int32) (s5 : Slot), k + d = 9 → b ≤ l → ∃ k' s5', X g 82 66 [.val (va_rf (some tp)), .val (va_rf (some x)), .val (.int i), .val (.int v), .val (.int (nI k)), s5] [] (gH n kc ks (tS G tp b x F)) = X g 82 104 [.val (va_rf (some tp)), .val (va_rf (some x)), .val (.int i), .val (.int (qNl l t d (b, true) v).1), .val (.int k'), s5'] [] (gH n kc ks (tS G tp (qNl l t d (b, true) v).2.1 x F)) := by
  have fT := fun a F => (tS_f (a := a) (F := F) hL).1
  intro d
  induction d with
  | zero =>
    intro k b v s5 hk hb
    have c1 : (9 : Int32) ≤ nI k := by
      have : nI 9 ≤ nI k := nI_le (by omega) (by omega)
      exact this
    refine ⟨nI k, s5, ?_⟩
    simp only [x82_66, x82_68, x82_70, c1, qNl, Option.bind_some, Option.toList_some, Option.toList_none, List.cons_append, List.nil_append, Option.isSome_some, if_true, eq_self, or_true, true_or, xb_01, mcl_cl, not_true_eq_false, not_false_eq_true, if_false]
  | succ d ih =>
    intro k b v s5 hk hb
    have c1 : ¬ (9 : Int32) ≤ nI k := nI_ge (b := 9) (by omega) (by decide)
    rw [qNl]
    cases hq : qFg l t (b, true) with
    | false =>
      have k84 := d84n (g := g) (n := n) (kc := kc) (ks := ks) (F := F) hL hb hq
      rw [if_neg (by simp)]
      refine ⟨nI k, .val (.int (-1)), ?_⟩
      simp only [x82_66, x82_68, x82_70, x82_73, x82_74, x82_76, x82_79, x82_81, x82_83, x82_84, x82_87, c1, gc_23 (fT _ _), k84, Option.bind_some, Option.toList_some, Option.toList_none, List.cons_append, List.nil_append, Option.isSome_some, if_true, eq_self, or_true, true_or, xb_01, mcl_cl, not_true_eq_false, not_false_eq_true, if_false]
    | true =>
      have hz : b < l := (qFg_t hq).2
      have k84 := d84y (g := g) (n := n) (kc := kc) (ks := ks) (F := F) hL hq
      obtain ⟨d', d1, d2⟩ := fgv hq
      have n1 : ¬ t b - 48 = -1 := by rw [d2]; exact nI_m1 d' (by omega)
      rw [if_pos rfl]
      have ev : 10 * v + t b - 48 = 10 * v + (t b - 48) := by
        rw [Int32.sub_eq_add_neg, Int32.add_assoc, ← Int32.sub_eq_add_neg]
      rw [ev]
      obtain ⟨k', s5', h1⟩ := ih (k + 1) (b + 1) (10 * v + (t b - 48)) (.val (.int (t b - 48))) (by omega) (by omega)
      refine ⟨k', s5', ?_⟩
      generalize X g 82 104 [.val (va_rf (some tp)), .val (va_rf (some x)), .val (.int i), .val (.int (qNl l t d (b + 1, true) (10 * v + (t b - 48))).1), .val (.int k'), s5'] [] (gH n kc ks (tS G tp (qNl l t d (b + 1, true) (10 * v + (t b - 48))).2.1 x F)) = R at *
      simp only [x82_66, x82_68, x82_70, x82_73, x82_74, x82_76, x82_79, x82_81, x82_83, x82_84, x82_87, x82_90, x82_92, x82_93, x82_94, x82_96, x82_97, c1, gc_23 (fT _ _), k84, n1, Option.bind_some, Option.toList_some, Option.toList_none, List.cons_append, List.nil_append, Option.isSome_some, if_true, eq_self, or_true, true_or, xb_01, mcl_cl, not_true_eq_false, not_false_eq_true, if_false]
      simp only [x82_98, x82_101, nI_1]
      exact h1
/-- where a number's reading ends -/
def qBx (l : Nat) (t : Nat → Int32) (z : Nat × Bool) : Nat × Bool := if (qNm l t 1 z).1 = 8 then (qNm l t 1 z).2 else (qNm l t 9 (qTk l t (qNm l t 1 z).2 45)).2
theorem c82 (hL : tpL G tp x l t) (ha : a ≤ l) : ∃ F', X g 82 0 [.val (va_rf (some tp)), .val (va_rf (some x)), .unset, .unset, .unset, .unset] [] (gH n kc ks (tS G tp a x F)) = some (some (.int (xb (qBx l t (a, true)).2)), gH n kc ks (tS G tp (qBx l t (a, true)).1 x F')) ∧ ((qBx l t (a, true)).2 = true → F' 6 = (qNm l t 1 (a, true)).1 ∧ (∀ e, e ≠ 6 → e ≠ 7 → F' e = F e) ∧ ((qNm l t 1 (a, true)).1 = 8 ∨ F' 7 = if qIs l t (qNm l t 1 (a, true)).2 45 = true then -(qNm l t 9 (qTk l t (qNm l t 1 (a, true)).2 45)).1 else (qNm l t 9 (qTk l t (qNm l t 1 (a, true)).2 45)).1)) := by
  obtain ⟨x1, x2⟩ := tpx hL
  have fT := fun a F => (tS_f (a := a) (F := F) hL).1
  have fX := fun a F => (tS_f (a := a) (F := F) hL).2.2.2.2.2.2.1
  have fV := fun a F => (tS_f (a := a) (F := F) hL).2.2.2.2.2.2.2
  unfold qBx
  cases h1 : qFg l t (a, true) with
  | false =>
    have k84 := d84n (g := g) (n := n) (kc := kc) (ks := ks) (F := F) hL ha h1
    have z8 : ¬ (0 : Int32) = 8 := by decide
    have m8 : ¬ (-1 : Int32) = 8 := by decide
    simp only [qNm_n (m := 0) h1, z8, if_false, qTk_f, qNm_f, xb_f, Bool.false_eq_true, false_implies, and_true]
    refine ⟨fun e => if e = 6 then -1 else F e, ?_⟩
    simp only [x82_0, x82_1, x82_2, x82_4, x82_7, x82_10, x82_11, x82_14, x82_15, x82_18, x82_19, x82_22, x82_24, x82_27, x82_28, x82_31, x82_33, x82_36, x82_37, x82_40, x82_41, x82_42, x82_43, x82_45, x82_48, x82_49, x82_50, x82_52, x82_55, x82_56, x82_57, x82_58, x82_61, x82_62, x82_63, x82_64, x82_66, x82_68, x82_70, x82_73, x82_74, x82_76, x82_79, x82_81, x82_83, x82_84, x82_87, x82_90, x82_92, x82_93, x82_94, x82_96, x82_97, x82_98, x82_104, x82_105, x82_106, x82_109, x82_110, x82_111, x82_114, x82_115, x82_118, x82_119, gc_23 (fT _ _), k84, gf_8_6 (fX _ _), gp_8_6 (fX _ _), Option.isSome_some, tS_x x1, fV, if_true, m8, x82_41 (Or.inl rfl), Option.bind_some, Option.toList_some, Option.toList_none, List.cons_append, List.nil_append, Option.isSome_some, if_true, eq_self, or_true, true_or, xb_01, mcl_cl, not_true_eq_false, not_false_eq_true, if_false]
  | true =>
    have hz : a < l := (qFg_t h1).2
    obtain ⟨d, d1, d2⟩ := fgv h1
    have n1 := nI_m1 d (by omega)
    have k84 := d84y (g := g) (n := n) (kc := kc) (ks := ks) (F := F) hL h1
    rw [d2] at k84
    rw [qNm1_y h1, d2]
    by_cases c8 : nI d = 8
    · simp only [c8, if_true, xb_t]
      refine ⟨fun e => if e = 6 then 8 else F e, ?_, fun _ => ⟨rfl, fun e h6 _ => if_neg h6, Or.inl trivial⟩⟩
      rw [c8] at k84 n1
      simp only [x82_0, x82_1, x82_2, x82_4, x82_7, x82_10, x82_11, x82_14, x82_15, x82_18, x82_19, x82_22, x82_24, x82_27, x82_28, x82_31, x82_33, x82_36, x82_37, x82_40, x82_41, x82_42, x82_43, x82_45, x82_48, x82_49, x82_50, x82_52, x82_55, x82_56, x82_57, x82_58, x82_61, x82_62, x82_63, x82_64, x82_66, x82_68, x82_70, x82_73, x82_74, x82_76, x82_79, x82_81, x82_83, x82_84, x82_87, x82_90, x82_92, x82_93, x82_94, x82_96, x82_97, x82_98, x82_104, x82_105, x82_106, x82_109, x82_110, x82_111, x82_114, x82_115, x82_118, x82_119, gc_23 (fT _ _), k84, gf_8_6 (fX _ _), gp_8_6 (fX _ _), Option.isSome_some, tS_x x1, fV, if_true, n1, x82_41 (Or.inr rfl), Option.bind_some, Option.toList_some, Option.toList_none, List.cons_append, List.nil_append, Option.isSome_some, if_true, eq_self, or_true, true_or, xb_01, mcl_cl, not_true_eq_false, not_false_eq_true, if_false]
    · simp only [c8, if_false]
      have a85 := c85 (g := g) (n := n) (kc := kc) (ks := ks) (F := fun e => if e = 6 then nI d else F e) (k := 45) hL (show a + 1 ≤ l by omega) (by decide)
      obtain ⟨b, mi, q1, q2, q3⟩ : ∃ b mi, qTk l t (a + 1, true) 45 = (b, true) ∧ b ≤ l ∧ qIs l t (a + 1, true) 45 = mi := by
        cases h2 : qIs l t (a + 1, true) 45 with
        | false => exact ⟨a + 1, false, (qIs_no h2).1, by omega, rfl⟩
        | true => exact ⟨a + 1 + 1, true, (qIs_go h2).1, (qIs_go h2).2.2, rfl⟩
      rw [q1, q3] at a85
      rw [q1, q3]
      cases h3 : qFg l t (b, true) with
      | false =>
        have m84 := d84n (g := g) (n := n) (kc := kc) (ks := ks) (F := fun e => if e = 6 then nI d else F e) hL q2 h3
        simp only [qNm_n (m := 8) h3, xb_f, Bool.false_eq_true, false_implies, and_true]
        refine ⟨fun e => if e = 6 then nI d else F e, ?_⟩
        simp only [x82_0, x82_1, x82_2, x82_4, x82_7, x82_10, x82_11, x82_14, x82_15, x82_18, x82_19, x82_22, x82_24, x82_27, x82_28, x82_31, x82_33, x82_36, x82_37, x82_40, x82_41, x82_42, x82_43, x82_45, x82_48, x82_49, x82_50, x82_52, x82_55, x82_56, x82_57, x82_58, x82_61, x82_62, x82_63, x82_64, x82_66, x82_68, x82_70, x82_73, x82_74, x82_76, x82_79, x82_81, x82_83, x82_84, x82_87, x82_90, x82_92, x82_93, x82_94, x82_96, x82_97, x82_98, x82_104, x82_105, x82_106, x82_109, x82_110, x82_111, x82_114, x82_115, x82_118, x82_119, gc_23 (fT _ _), k84, gf_8_6 (fX _ _), gp_8_6 (fX _ _), Option.isSome_some, tS_x x1, fV, if_true, n1, c8, a85, m84, x82_62 (Or.inl rfl), Option.bind_some, Option.toList_some, Option.toList_none, List.cons_append, List.nil_append, Option.isSome_some, if_true, eq_self, or_true, true_or, xb_01, mcl_cl, not_true_eq_false, not_false_eq_true, if_false]
      | true =>
        have hz2 : b < l := (qFg_t h3).2
        have m84 := d84y (g := g) (n := n) (kc := kc) (ks := ks) (F := fun e => if e = 6 then nI d else F e) hL h3
        obtain ⟨d', d1', d2'⟩ := fgv h3
        have n2 : ¬ t b - 48 = -1 := by rw [d2']; exact nI_m1 d' (by omega)
        have e9 : qNm l t 9 (b, true) = qNl l t 8 (b + 1, true) (t b - 48) := by
          unfold qNm
          rw [if_pos h3, qNl, if_pos h3, ten0]
        rw [e9]
        have ht := (qNl_ge (l := l) (t := t) 8 (b + 1, true) (t b - 48)).2
        obtain ⟨k', s5', h4⟩ := l82 (g := g) (n := n) (kc := kc) (ks := ks) (F := fun e => if e = 6 then nI d else F e) (i := xb mi) hL 8 1 (b + 1) (t b - 48) .unset (by omega) (by omega)
        have h4' : X g 82 66 [.val (va_rf (some tp)), .val (va_rf (some x)), .val (.int (xb mi)), .val (.int (t b - 48)), .val (.int 1), .unset] [] (gH n kc ks (tS G tp (b + 1) x (fun e => if e = 6 then nI d else F e))) = _ := h4
        generalize qNl l t 8 (b + 1, true) (t b - 48) = Z at *
        obtain ⟨zv, za, zb⟩ := Z
        have ht : zb = true := ht
        subst ht
        refine ⟨fun e => if e = 7 then (if mi = true then -zv else zv) else if e = 6 then nI d else F e, ?_, fun _ => ⟨rfl, fun e h6 h7 => ?_, Or.inr rfl⟩⟩
        · cases mi with
          | false =>
            simp only [xb_f] at a85 h4'
            simp only [x82_0, x82_1, x82_2, x82_4, x82_7, x82_10, x82_11, x82_14, x82_15, x82_18, x82_19, x82_22, x82_24, x82_27, x82_28, x82_31, x82_33, x82_36, x82_37, x82_40, x82_41, x82_42, x82_43, x82_45, x82_48, x82_49, x82_50, x82_52, x82_55, x82_56, x82_57, x82_58, x82_61, x82_62, x82_63, x82_64, gc_23 (fT _ _), k84, gf_8_6 (fX _ _), gp_8_6 (fX _ _), Option.isSome_some, tS_x x1, fV, if_true, n1, c8, a85, m84, n2, h4', Option.bind_some, Option.toList_some, Option.toList_none, List.cons_append, List.nil_append, Option.isSome_some, if_true, eq_self, or_true, true_or, xb_01, mcl_cl, not_true_eq_false, not_false_eq_true, if_false]
            simp only [x82_104, x82_105, x82_106, x82_109, x82_110, x82_111, x82_114, x82_115, x82_118, x82_119, gf_8_7 (fX _ _), gp_8_7 (fX _ _), Option.isSome_some, tS_x x1, x82_119 (Or.inr rfl), xb_t, Option.bind_some, Option.toList_some, Option.toList_none, List.cons_append, List.nil_append, Option.isSome_some, if_true, eq_self, or_true, true_or, xb_01, mcl_cl, not_true_eq_false, not_false_eq_true, if_false]
            all_goals rfl
          | true =>
            simp only [xb_t] at a85 h4'
            simp only [x82_0, x82_1, x82_2, x82_4, x82_7, x82_10, x82_11, x82_14, x82_15, x82_18, x82_19, x82_22, x82_24, x82_27, x82_28, x82_31, x82_33, x82_36, x82_37, x82_40, x82_41, x82_42, x82_43, x82_45, x82_48, x82_49, x82_50, x82_52, x82_55, x82_56, x82_57, x82_58, x82_61, x82_62, x82_63, x82_64, gc_23 (fT _ _), k84, gf_8_6 (fX _ _), gp_8_6 (fX _ _), Option.isSome_some, tS_x x1, fV, if_true, n1, c8, a85, m84, n2, h4', Option.bind_some, Option.toList_some, Option.toList_none, List.cons_append, List.nil_append, Option.isSome_some, if_true, eq_self, or_true, true_or, xb_01, mcl_cl, not_true_eq_false, not_false_eq_true, if_false]
            simp only [x82_104, x82_105, x82_106, x82_109, x82_110, x82_111, x82_114, x82_115, x82_118, x82_119, i32_10, gf_8_7 (fX _ _), gp_8_7 (fX _ _), Option.isSome_some, tS_x x1, x82_119 (Or.inr rfl), xb_t, Option.bind_some, Option.toList_some, Option.toList_none, List.cons_append, List.nil_append, Option.isSome_some, if_true, eq_self, or_true, true_or, xb_01, mcl_cl, not_true_eq_false, not_false_eq_true, if_false]
            all_goals rfl
        · show (if e = 7 then _ else if e = 6 then _ else F e) = F e
          rw [if_neg h7, if_neg h6]
/-- a line is the same on both sides -/
def lnR (F : Nat → Int32) (S : MS) (k : Nat) : Prop := F 0 = S.2.2.1 37 k ∧ F 1 = S.2.2.1 38 k ∧ ((F 2 = 1 ∧ F 3 = S.2.2.1 39 k ∧ F 4 = S.2.2.1 40 k ∧ F 5 = S.2.2.1 41 k ∧ ¬ S.2.2.1 41 k = -1 ∧ 0 ≤ (S.2.2.1 41 k).toInt ∧ (S.2.2.1 41 k).toInt ≤ 8) ∨ (F 2 = 0 ∧ S.2.2.1 41 k = -1 ∧ F 6 = S.2.2.1 39 k ∧ (S.2.2.1 39 k = 8 ∨ (F 7).toInt64 = S.2.2.2 42 k)))
theorem qV_8 {z : Nat × Bool} (hok : (qNm l t 1 (qV3 l t z)).2.2 = true) : 0 ≤ (qNm l t 1 (qV3 l t z)).1.toInt ∧ (qNm l t 1 (qV3 l t z)).1.toInt ≤ 8 := by
  obtain ⟨h1, h2, h3, h4, h5⟩ := qNm_1 hok
  have hz := (qFg_t h5).1
  have h9 : qIs l t (qV2 l t z) 57 = false ∧ qV3 l t z = qV2 l t z := by
    unfold qV3 at hz ⊢
    cases hq : qIs l t (qV2 l t z) 57 with
    | true =>
      rw [hq, if_pos rfl] at hz
      exact absurd hz (by simp)
    | false =>
      rw [if_neg (by simp)]
      exact ⟨rfl, rfl⟩
  rw [h3]
  rw [h9.2] at h5 hz ⊢
  unfold qFg at h5
  rw [hz, Bool.true_and, Bool.and_eq_true, decide_eq_true_eq] at h5
  obtain ⟨y1, y2⟩ := mWithin_iff.mp h5.2
  have n57 : ¬ t (qV2 l t z).1 = 57 := by
    intro e
    have := h9.1
    unfold qIs at this
    rw [hz, Bool.true_and, decide_eq_true h5.1, Bool.true_and, decide_eq_true e] at this
    exact absurd this (by decide)
  have n57' : ¬ (t (qV2 l t z).1).toInt = 57 := fun e => n57 (Int32.toInt_inj.mp (show (t (qV2 l t z).1).toInt = (57 : Int32).toInt from e))
  generalize t (qV2 l t z).1 = o at *
  have e1 : o = nI (tn o) := nI_tn (by omega)
  have e2 : 48 ≤ tn o ∧ tn o ≤ 56 := by
    unfold tn
    omega
  rw [e1, show (48 : Int32) = nI 48 from rfl, pk_sub e2.1, nI_toInt (by omega)]
  omega
theorem mBx_2 : (mBx S l t (a, true) y).2 = qBx l t (a, true) := by
  unfold mBx qBx
  split
  · rfl
  · rfl
theorem c80 (hL : tpL G tp x l t) (ha : a ≤ l) (hF : F 2 = 0) (S : MS) (y : Nat) : ∃ F', X g 80 0 [.val (va_rf (some tp)), .val (va_rf (some x))] [] (gH n kc ks (tS G tp a x F)) = some (some (.int (xb (mLine S l t (a, true) y).2.2)), gH n kc ks (tS G tp (mLine S l t (a, true) y).2.1 x F')) ∧ ((mLine S l t (a, true) y).2.2 = true → lnR F' (mLine S l t (a, true) y).1 y) := by
  obtain ⟨x1, x2⟩ := tpx hL
  have fT := fun a F => (tS_f (a := a) (F := F) hL).1
  have fX := fun a F => (tS_f (a := a) (F := F) hL).2.2.2.2.2.2.1
  have fV := fun a F => (tS_f (a := a) (F := F) hL).2.2.2.2.2.2.2
  unfold mLine
  have hL2 : qL2 l t (a, true) = (qNm l t 2 (qWt l t (qNm l t 1 (a, true)).2 46)).2 := rfl
  cases h1 : qFg l t (a, true) with
  | false =>
    have k84 := d84n (g := g) (n := n) (kc := kc) (ks := ks) (F := F) hL ha h1
    rw [qNm_n (m := 0) h1] at hL2
    simp only [qWt_f, qNm_f] at hL2
    simp only [hL2, qIs_f, Bool.false_eq_true, if_false, xb_f, false_implies, and_true]
    refine ⟨fun e => if e = 0 then -1 else F e, ?_⟩
    simp only [x80_0, x80_1, x80_2, x80_4, x80_7, x80_10, x80_11, x80_14, x80_15, x80_18, x80_19, x80_21, x80_24, x80_27, x80_28, x80_29, x80_30, x80_31, x80_34, x80_37, x80_38, x80_41, x80_42, x80_45, x80_46, x80_47, x80_48, x80_50, x80_53, x80_56, x80_57, x80_58, x80_61, x80_62, x80_63, x80_66, x80_67, x80_68, x80_70, x80_73, x80_76, x80_77, x80_78, x80_81, x80_84, x80_85, x80_88, x80_89, gc_23 (fT _ _), k84, gf_8_0 (fX _ _), gp_8_0 (fX _ _), Option.isSome_some, tS_x x1, fV, if_true, x80_28 (Or.inl rfl), Option.bind_some, Option.toList_some, Option.toList_none, List.cons_append, List.nil_append, Option.isSome_some, if_true, eq_self, or_true, true_or, xb_01, mcl_cl, not_true_eq_false, not_false_eq_true, if_false]
  | true =>
    have hz : a < l := (qFg_t h1).2
    obtain ⟨d, d1, d2⟩ := fgv h1
    have n1 := nI_m1 d (by omega)
    have k84 := d84y (g := g) (n := n) (kc := kc) (ks := ks) (F := F) hL h1
    rw [d2] at k84
    have hN1 := qNm1_y h1
    rw [d2] at hN1
    rw [hN1] at hL2
    have a85 := c85 (g := g) (n := n) (kc := kc) (ks := ks) (F := fun e => if e = 0 then nI d else F e) (k := 46) hL (show a + 1 ≤ l by omega) (by decide)
    cases h2 : qIs l t (a + 1, true) 46 with
    | false =>
      obtain ⟨t1, t2⟩ := qIs_no h2
      rw [h2, t1] at a85
      rw [t2] at hL2
      simp only [qNm_f] at hL2
      simp only [hL2, qIs_f, Bool.false_eq_true, if_false, xb_f, false_implies, and_true]
      refine ⟨fun e => if e = 0 then nI d else F e, ?_⟩
      simp only [x80_0, x80_1, x80_2, x80_4, x80_7, x80_10, x80_11, x80_14, x80_15, x80_18, x80_19, x80_21, x80_24, x80_27, x80_28, x80_29, x80_30, x80_31, x80_34, x80_37, x80_38, x80_41, x80_42, x80_45, x80_46, x80_47, x80_48, x80_50, x80_53, x80_56, x80_57, x80_58, x80_61, x80_62, x80_63, x80_66, x80_67, x80_68, x80_70, x80_73, x80_76, x80_77, x80_78, x80_81, x80_84, x80_85, x80_88, x80_89, gc_23 (fT _ _), k84, gf_8_0 (fX _ _), gp_8_0 (fX _ _), Option.isSome_some, tS_x x1, fV, if_true, n1, a85, xb_f, x80_28 (Or.inl rfl), Option.bind_some, Option.toList_some, Option.toList_none, List.cons_append, List.nil_append, Option.isSome_some, if_true, eq_self, or_true, true_or, xb_01, mcl_cl, not_true_eq_false, not_false_eq_true, if_false]
    | true =>
      obtain ⟨t1, t2, t3⟩ := qIs_go h2
      rw [h2, t1] at a85
      rw [t2] at hL2
      have hQ1 : qL1 l t (a, true) = (a + 1 + 1, true) := by
        unfold qL1
        rw [hN1]
        exact t2
      cases h3 : qFg l t (a + 1 + 1, true) with
      | false =>
        have k83 := c83_n (g := g) (n := n) (kc := kc) (ks := ks) (F := fun e => if e = 0 then nI d else F e) hL t3 h3
        rw [qNm_n (m := 1) h3] at hL2
        simp only [hL2, qIs_f, Bool.false_eq_true, if_false, xb_f, false_implies, and_true]
        refine ⟨fun e => if e = 1 then -1 else if e = 0 then nI d else F e, ?_⟩
        simp only [x80_0, x80_1, x80_2, x80_4, x80_7, x80_10, x80_11, x80_14, x80_15, x80_18, x80_19, x80_21, x80_24, x80_27, x80_28, x80_29, x80_30, x80_31, x80_34, x80_37, x80_38, x80_41, x80_42, x80_45, x80_46, x80_47, x80_48, x80_50, x80_53, x80_56, x80_57, x80_58, x80_61, x80_62, x80_63, x80_66, x80_67, x80_68, x80_70, x80_73, x80_76, x80_77, x80_78, x80_81, x80_84, x80_85, x80_88, x80_89, gc_23 (fT _ _), k84, gf_8_0 (fX _ _), gp_8_0 (fX _ _), gf_8_1 (fX _ _), gp_8_1 (fX _ _), Option.isSome_some, tS_x x1, fV, if_true, n1, a85, xb_t, i32_10, k83, x80_46 (Or.inl rfl), Option.bind_some, Option.toList_some, Option.toList_none, List.cons_append, List.nil_append, Option.isSome_some, if_true, eq_self, or_true, true_or, xb_01, mcl_cl, not_true_eq_false, not_false_eq_true, if_false]
      | true =>
        obtain ⟨v, b, e2, nv, hb, k83⟩ := c83_y (g := g) (n := n) (kc := kc) (ks := ks) (F := fun e => if e = 0 then nI d else F e) hL h3
        rw [e2] at hL2
        have hL2' : qL2 l t (a, true) = (b, true) := hL2
        rw [hL2']
        have b85 := c85 (g := g) (n := n) (kc := kc) (ks := ks) (F := fun e => if e = 1 then v else if e = 0 then nI d else F e) (k := 61) hL hb (by decide)
        cases h4 : qIs l t (b, true) 61 with
        | true =>
          obtain ⟨t1, t2, t3⟩ := qIs_go h4
          rw [h4, t1] at b85
          rw [if_pos rfl, t1]
          obtain ⟨F', g1, g2⟩ := c81 (g := g) (n := n) (kc := kc) (ks := ks) (F := fun e => if e = 2 then 1 else if e = 1 then v else if e = 0 then nI d else F e) hL t3
          refine ⟨F', ?_, fun hok => ?_⟩
          · have hbo : ∀ b : Bool, xb b = 0 ∨ xb b = 1 := fun b => by cases b <;> decide
            simp only [x80_0, x80_1, x80_2, x80_4, x80_7, x80_10, x80_11, x80_14, x80_15, x80_18, x80_19, x80_21, x80_24, x80_27, x80_28, x80_29, x80_30, x80_31, x80_34, x80_37, x80_38, x80_41, x80_42, x80_45, x80_46, x80_47, x80_48, x80_50, x80_53, x80_56, x80_57, x80_58, x80_61, x80_62, x80_63, x80_66, x80_67, x80_68, x80_70, x80_73, x80_76, x80_77, x80_78, x80_81, x80_84, x80_85, x80_88, x80_89, gc_23 (fT _ _), k84, gf_8_0 (fX _ _), gp_8_0 (fX _ _), gf_8_1 (fX _ _), gp_8_1 (fX _ _), x80_58 (a1 := 1) (by decide), gf_8_2 (fX _ _), gp_8_2 (fX _ _), Option.isSome_some, tS_x x1, fV, if_true, n1, a85, xb_t, i32_10, k83, nv, b85, g1, x80_66 (hbo _), Option.bind_some, Option.toList_some, Option.toList_none, List.cons_append, List.nil_append, Option.isSome_some, if_true, eq_self, or_true, true_or, xb_01, mcl_cl, not_true_eq_false, not_false_eq_true, if_false]
          · have hF' := g2 hok
            have hv := qNm_1 hok
            have w37 : (mVw (mLh S l t (a, true) y) l t (b + 1, true) y).2.2.1 37 y = nI d := by
              simp [mVw, mLh, msA, hN1]
            have w38 : (mVw (mLh S l t (a, true) y) l t (b + 1, true) y).2.2.1 38 y = v := by
              simp [mVw, mLh, msA, hQ1, e2]
            have w39 : (mVw (mLh S l t (a, true) y) l t (b + 1, true) y).2.2.1 39 y = (qNm l t 1 (b + 1, true)).1 := by
              simp [mVw, mLh, msA]
            have w40 : (mVw (mLh S l t (a, true) y) l t (b + 1, true) y).2.2.1 40 y = (qNm l t 2 (qV1 l t (b + 1, true))).1 := by
              simp [mVw, mLh, msA]
            have w41 : (mVw (mLh S l t (a, true) y) l t (b + 1, true) y).2.2.1 41 y = (qNm l t 1 (qV3 l t (b + 1, true))).1 := by
              simp [mVw, mLh, msA]
            unfold lnR
            rw [w37, w38, w39, w40, w41, hF']
            refine ⟨rfl, rfl, Or.inl ⟨rfl, rfl, rfl, rfl, ?_, qV_8 hok⟩⟩
            rw [hv.1]
            exact nI_m1 _ (by omega)
        | false =>
          obtain ⟨t1, t2⟩ := qIs_no h4
          rw [h4, t1] at b85
          rw [if_neg (by simp)]
          have e85 := c85 (g := g) (n := n) (kc := kc) (ks := ks) (F := fun e => if e = 1 then v else if e = 0 then nI d else F e) (k := 60) hL hb (by decide)
          cases h5 : qIs l t (b, true) 60 with
          | false =>
            obtain ⟨t3, t4⟩ := qIs_no h5
            rw [h5, t3] at e85
            simp only [if_false, xb_f, Bool.false_eq_true, false_implies, and_true]
            refine ⟨fun e => if e = 1 then v else if e = 0 then nI d else F e, ?_⟩
            simp only [x80_0, x80_1, x80_2, x80_4, x80_7, x80_10, x80_11, x80_14, x80_15, x80_18, x80_19, x80_21, x80_24, x80_27, x80_28, x80_29, x80_30, x80_31, x80_34, x80_37, x80_38, x80_41, x80_42, x80_45, x80_46, x80_47, x80_48, x80_50, x80_53, x80_56, x80_57, x80_58, x80_61, x80_62, x80_63, x80_66, x80_67, x80_68, x80_70, x80_73, x80_76, x80_77, x80_78, x80_81, x80_84, x80_85, x80_88, x80_89, gc_23 (fT _ _), k84, gf_8_0 (fX _ _), gp_8_0 (fX _ _), gf_8_1 (fX _ _), gp_8_1 (fX _ _), Option.isSome_some, tS_x x1, fV, if_true, n1, a85, xb_t, xb_f, i32_10, k83, nv, b85, e85, x80_89 (Or.inl rfl), Option.bind_some, Option.toList_some, Option.toList_none, List.cons_append, List.nil_append, Option.isSome_some, if_true, eq_self, or_true, true_or, xb_01, mcl_cl, not_true_eq_false, not_false_eq_true, if_false]
          | true =>
            obtain ⟨t3, t4, t5⟩ := qIs_go h5
            rw [h5, t3] at e85
            rw [if_pos rfl, t3, mBx_2]
            obtain ⟨F', g1, g2⟩ := c82 (g := g) (n := n) (kc := kc) (ks := ks) (F := fun e => if e = 1 then v else if e = 0 then nI d else F e) hL t5
            refine ⟨F', ?_, fun hok => ?_⟩
            · cases hok : (qBx l t (b + 1, true)).2 with
              | false =>
                rw [hok] at g1
                simp only [x80_0, x80_1, x80_2, x80_4, x80_7, x80_10, x80_11, x80_14, x80_15, x80_18, x80_19, x80_21, x80_24, x80_27, x80_28, x80_29, x80_30, x80_31, x80_34, x80_37, x80_38, x80_41, x80_42, x80_45, x80_46, x80_47, x80_48, x80_50, x80_53, x80_56, x80_57, x80_58, x80_61, x80_62, x80_63, x80_66, x80_67, x80_68, x80_70, x80_73, x80_76, x80_77, x80_78, x80_81, x80_84, x80_85, x80_88, x80_89, gc_23 (fT _ _), k84, gf_8_0 (fX _ _), gp_8_0 (fX _ _), gf_8_1 (fX _ _), gp_8_1 (fX _ _), Option.isSome_some, tS_x x1, fV, if_true, n1, a85, xb_t, xb_f, i32_10, k83, nv, b85, e85, g1, x80_89 (Or.inl rfl), Option.bind_some, Option.toList_some, Option.toList_none, List.cons_append, List.nil_append, Option.isSome_some, if_true, eq_self, or_true, true_or, xb_01, mcl_cl, not_true_eq_false, not_false_eq_true, if_false]
              | true =>
                rw [hok] at g1
                simp only [x80_0, x80_1, x80_2, x80_4, x80_7, x80_10, x80_11, x80_14, x80_15, x80_18, x80_19, x80_21, x80_24, x80_27, x80_28, x80_29, x80_30, x80_31, x80_34, x80_37, x80_38, x80_41, x80_42, x80_45, x80_46, x80_47, x80_48, x80_50, x80_53, x80_56, x80_57, x80_58, x80_61, x80_62, x80_63, x80_66, x80_67, x80_68, x80_70, x80_73, x80_76, x80_77, x80_78, x80_81, x80_84, x80_85, x80_88, x80_89, gc_23 (fT _ _), k84, gf_8_0 (fX _ _), gp_8_0 (fX _ _), gf_8_1 (fX _ _), gp_8_1 (fX _ _), Option.isSome_some, tS_x x1, fV, if_true, n1, a85, xb_t, xb_f, i32_10, k83, nv, b85, e85, g1, x80_89 (Or.inr rfl), Option.bind_some, Option.toList_some, Option.toList_none, List.cons_append, List.nil_append, Option.isSome_some, if_true, eq_self, or_true, true_or, xb_01, mcl_cl, not_true_eq_false, not_false_eq_true, if_false]
            · obtain ⟨f6, fo, f7⟩ := g2 hok
              have f0 : F' 0 = nI d := fo 0 (by decide) (by decide)
              have f1 : F' 1 = v := fo 1 (by decide) (by decide)
              have f2 : F' 2 = 0 := (fo 2 (by decide) (by decide)).trans hF
              unfold lnR
              rw [f0, f1, f2, f6]
              have w37 : (mBx (mLh S l t (a, true) y) l t (b + 1, true) y).1.2.2.1 37 y = nI d := by
                unfold mBx
                split <;> simp [mLh, msA, msB, hN1]
              have w38 : (mBx (mLh S l t (a, true) y) l t (b + 1, true) y).1.2.2.1 38 y = v := by
                unfold mBx
                split <;> simp [mLh, msA, msB, hQ1, e2]
              have w39 : (mBx (mLh S l t (a, true) y) l t (b + 1, true) y).1.2.2.1 39 y = (qNm l t 1 (b + 1, true)).1 := by
                unfold mBx
                split <;> simp [mLh, msA, msB]
              have w41 : (mBx (mLh S l t (a, true) y) l t (b + 1, true) y).1.2.2.1 41 y = -1 := by
                unfold mBx
                split <;> simp [mLh, msA, msB]
              rw [w37, w38, w39, w41]
              refine ⟨rfl, rfl, Or.inr ⟨rfl, rfl, rfl, ?_⟩⟩
              by_cases c8 : (qNm l t 1 (b + 1, true)).1 = 8
              · exact Or.inl c8
              · refine Or.inr ?_
                rw [f7.resolve_left c8]
                unfold mBx
                rw [if_neg c8]
                simp [mLh, msA, msB]
end K49
