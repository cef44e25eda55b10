/-! THE CLASS's methods, 10: acts; pending puts -/
section K10
variable {g : xG} {n kc ks a b c s t w q l x y jn : Nat} {G T : GS} {h : xH} {i j k m p : Int32} {u v : Int64} {o : Option Nat}
theorem l3 (hw : gW G) (ht : G.1 t = 6) (hp : puOk G (t + 1) (G.2.1 (t + 1))) : ∀ d e (s3 : Slot), e + d = G.2.1 (t + 1) → X g 3 2 [.val (va_rf (some t)), .val (va_rf o), .val (.int (nI e)), s3] [] (gH n kc ks G) = some (some (.int (xb (mAny (fun e => decide (some (puA G (t + 1) e) = o)) e d))), gH n kc ks G) := by
  obtain ⟨w1, w2⟩ := hw.2.1 t ht
  intro d
  induction d with
  | zero =>
    intro e s3 he
    have h1 : nI (G.2.1 (t + 1)) ≤ nI e := nI_le (by omega) (by omega)
    simp only [x3_2, x3_3, x3_4, x3_7, x3_8, x3_11, x3_12, x3_15, x3_16, x3_17, x3_18, x3_19, x3_22, x3_23, x3_26, x3_27, x3_30, x3_31, x3_38, x3_39, gf_6_0 ht, gN_7 w1, h1, mAny, xb_f, Option.bind_some, Option.toList_some, Option.toList_none, List.cons_append, List.nil_append, Option.isSome_some, if_true, eq_self, or_true, true_or, xb_01, mcl_cl, not_true_eq_false, not_false_eq_true, if_false]
  | succ d ih =>
    intro e s3 he
    have h1 : ¬ nI (G.2.1 (t + 1)) ≤ nI e := nI_ge (by omega) (by omega)
    have h0 : e < G.2.1 (t + 1) := by omega
    obtain ⟨p1, p2, p3, p4, p5⟩ := puOk_e hp h0
    have hne : ¬ (some (puX G (t + 1) e) : Option Nat) = none := by simp
    rw [mAny]
    by_cases c : some (puA G (t + 1) e) = o
    · rw [decide_eq_true c, Bool.true_or, xb_t]
      simp only [x3_2, x3_3, x3_4, x3_7, x3_8, x3_11, x3_12, x3_15, x3_16, x3_17, x3_18, x3_19, x3_22, x3_23, x3_26, x3_27, x3_30, x3_31, gf_6_0 ht, gN_7 w1, gl_7 w1, h1, xin_nI h0 (by omega), nI_clamp (lt31 h0 (by omega)), p1, hne, gf_5_0 p2, p3, c, Option.bind_some, Option.toList_some, Option.toList_none, List.cons_append, List.nil_append, Option.isSome_some, if_true, eq_self, or_true, true_or, xb_01, mcl_cl, not_true_eq_false, not_false_eq_true, if_false]
    · rw [decide_eq_false c, Bool.false_or]
      have h3 := ih (e + 1) (.val (va_rf (some (puX G (t + 1) e)))) (by omega)
      simp only [x3_2, x3_3, x3_4, x3_7, x3_8, x3_11, x3_12, x3_15, x3_16, x3_17, x3_18, x3_19, x3_22, x3_23, x3_26, x3_27, x3_30, x3_31, gf_6_0 ht, gN_7 w1, gl_7 w1, h1, xin_nI h0 (by omega), nI_clamp (lt31 h0 (by omega)), p1, hne, gf_5_0 p2, p3, c, Option.bind_some, Option.toList_some, Option.toList_none, List.cons_append, List.nil_append, Option.isSome_some, if_true, eq_self, or_true, true_or, xb_01, mcl_cl, not_true_eq_false, not_false_eq_true, if_false]
      simp only [x3_32, x3_35, nI_1]
      exact h3
theorem c3 (hw : gW G) (ht : G.1 t = 6) (hp : puOk G (t + 1) (G.2.1 (t + 1))) : X g 3 0 [.val (va_rf (some t)), .val (va_rf o), .unset, .unset] [] (gH n kc ks G) = some (some (.int (xb (mAny (fun e => decide (some (puA G (t + 1) e) = o)) 0 (G.2.1 (t + 1))))), gH n kc ks G) := by
  have h1 := l3 (g := g) (n := n) (kc := kc) (ks := ks) (o := o) hw ht hp (G.2.1 (t + 1)) 0 .unset (by omega)
  have h1' : X g 3 2 [.val (va_rf (some t)), .val (va_rf o), .val (.int 0), .unset] [] (gH n kc ks G) = _ := h1
  simp only [x3_0, x3_1, h1', Option.bind_some, Option.toList_some, Option.toList_none, List.cons_append, List.nil_append, Option.isSome_some, if_true, eq_self, or_true, true_or, xb_01, mcl_cl, not_true_eq_false, not_false_eq_true, if_false]
theorem l4 (hw : gW G) (ht : G.1 t = 6) (hp : puOk G (t + 1) (G.2.1 (t + 1))) : ∀ e (T : GS) (s2 : Slot), rSm T G → e ≤ G.2.1 (t + 1) → X g 4 8 [.val (va_rf (some t)), .val (.int (nI e - 1)), s2] [] (gH n kc ks T) = some (none, gH n kc ks (rDn G (t + 1) e T)) := by
  obtain ⟨w1, w2⟩ := hw.2.1 t ht
  intro e
  induction e with
  | zero =>
    intro T s2 _ _
    have h1 : nI 0 - 1 < 0 := by decide
    simp only [x4_8, x4_9, x4_12, x4_13, x4_16, x4_17, x4_18, x4_19, x4_20, x4_23, x4_24, x4_33, h1, rDn, Option.bind_some, Option.toList_some, Option.toList_none, List.cons_append, List.nil_append, Option.isSome_some, if_true, eq_self, or_true, true_or, xb_01, mcl_cl, not_true_eq_false, not_false_eq_true, if_false]
  | succ e ih =>
    intro T s2 hs he
    obtain ⟨s1, s2', s3, s4, s5⟩ := hs
    have hs : rSm T G := ⟨s1, s2', s3, s4, s5⟩
    have h1 : ¬ nI e < 0 := nI_pos (by omega)
    have h0 : e < G.2.1 (t + 1) := by omega
    obtain ⟨p1, p2, p3, p4, p5⟩ := puOk_e hp h0
    have hne : ¬ (some (puX G (t + 1) e) : Option Nat) = none := by simp
    have t1 : T.1 t = 6 := by rw [s1]; exact ht
    have t2 : T.1 (t + 1) = 7 := by rw [s1]; exact w1
    have t3 : T.1 (puX G (t + 1) e) = 5 := by rw [s1]; exact p2
    have t4 : T.2.1 (t + 1) = G.2.1 (t + 1) := by rw [s2']
    have t5 : T.2.2.2.2 (t + 1) e = some (puX G (t + 1) e) := by rw [s3]; exact p1
    have h5 := one_dn (g := g) (n := n) (kc := kc) (ks := ks) hw hs hp h0
    have h8 : nI e + -1 = nI e - 1 := by rw [Int32.sub_eq_add_neg]
    have h7 := ih (rSet T (puA G (t + 1) e) (puP G (t + 1) e) (G.2.2.1 (puX G (t + 1) e) 2) (G.2.2.2.1 (puX G (t + 1) e) 3)) (.val (va_rf (some (puX G (t + 1) e)))) (rSm_set hw hs p4) (by omega)
    rw [nI_pred, rDn]
    simp only [x4_8, x4_9, x4_12, x4_13, x4_16, x4_17, x4_18, x4_19, x4_20, x4_23, x4_24, gf_6_0 t1, gl_7 t2, t4, t5, h1, xin_nI h0 (by omega), nI_clamp (lt31 h0 (by omega)), hne, gc_5 t3, h5, Option.bind_some, Option.toList_some, Option.toList_none, List.cons_append, List.nil_append, Option.isSome_some, if_true, eq_self, or_true, true_or, xb_01, mcl_cl, not_true_eq_false, not_false_eq_true, if_false]
    simp only [x4_27, x4_30, h8]
    exact h7
theorem c4 (hw : gW G) (ht : G.1 t = 6) (hp : puOk G (t + 1) (G.2.1 (t + 1))) : X g 4 0 [.val (va_rf (some t)), .unset, .unset] [] (gH n kc ks G) = some (none, gH n kc ks (rDn G (t + 1) (G.2.1 (t + 1)) G)) := by
  obtain ⟨w1, w2⟩ := hw.2.1 t ht
  have h1 := l4 (g := g) (n := n) (kc := kc) (ks := ks) hw ht hp (G.2.1 (t + 1)) G .unset rSm_refl (by omega)
  simp only [x4_0, x4_1, x4_4, x4_5, x4_6, x4_7, gf_6_0 ht, gN_7 w1, h1, Option.bind_some, Option.toList_some, Option.toList_none, List.cons_append, List.nil_append, Option.isSome_some, if_true, eq_self, or_true, true_or, xb_01, mcl_cl, not_true_eq_false, not_false_eq_true, if_false]
theorem l5 (hw : gW G) (ht : G.1 t = 6) (hp : puOk G (t + 1) (G.2.1 (t + 1))) : ∀ d e (T : GS) (s2 : Slot), rSm T G → e + d = G.2.1 (t + 1) → X g 5 2 [.val (va_rf (some t)), .val (.int (nI e)), s2] [] (gH n kc ks T) = some (none, gH n kc ks (rUp G (t + 1) e d T)) := by
  obtain ⟨w1, w2⟩ := hw.2.1 t ht
  intro d
  induction d with
  | zero =>
    intro e T s2 hs he
    obtain ⟨s1, s2', s3, s4, s5⟩ := hs
    have t1 : T.1 t = 6 := by rw [s1]; exact ht
    have t2 : T.1 (t + 1) = 7 := by rw [s1]; exact w1
    have t4 : T.2.1 (t + 1) = G.2.1 (t + 1) := by rw [s2']
    have h1 : nI (G.2.1 (t + 1)) ≤ nI e := nI_le (by omega) (by omega)
    simp only [x5_2, x5_3, x5_4, x5_7, x5_8, x5_11, x5_12, x5_15, x5_16, x5_17, x5_18, x5_19, x5_22, x5_23, x5_32, gf_6_0 t1, gN_7 t2, t4, h1, rUp, Option.bind_some, Option.toList_some, Option.toList_none, List.cons_append, List.nil_append, Option.isSome_some, if_true, eq_self, or_true, true_or, xb_01, mcl_cl, not_true_eq_false, not_false_eq_true, if_false]
  | succ d ih =>
    intro e T s2 hs he
    obtain ⟨s1, s2', s3, s4, s5⟩ := hs
    have hs : rSm T G := ⟨s1, s2', s3, s4, s5⟩
    have h1 : ¬ nI (G.2.1 (t + 1)) ≤ nI e := nI_ge (by omega) (by omega)
    have h0 : e < G.2.1 (t + 1) := by omega
    obtain ⟨p1, p2, p3, p4, p5⟩ := puOk_e hp h0
    have hne : ¬ (some (puX G (t + 1) e) : Option Nat) = none := by simp
    have t1 : T.1 t = 6 := by rw [s1]; exact ht
    have t2 : T.1 (t + 1) = 7 := by rw [s1]; exact w1
    have t3 : T.1 (puX G (t + 1) e) = 5 := by rw [s1]; exact p2
    have t4 : T.2.1 (t + 1) = G.2.1 (t + 1) := by rw [s2']
    have t5 : T.2.2.2.2 (t + 1) e = some (puX G (t + 1) e) := by rw [s3]; exact p1
    have h5 := one_up (g := g) (n := n) (kc := kc) (ks := ks) hw hs hp h0
    have h7 := ih (e + 1) (rSet T (puA G (t + 1) e) (puP G (t + 1) e) (G.2.2.1 (puX G (t + 1) e) 4) (G.2.2.2.1 (puX G (t + 1) e) 5)) (.val (va_rf (some (puX G (t + 1) e)))) (rSm_set hw hs p4) (by omega)
    rw [rUp]
    simp only [x5_2, x5_3, x5_4, x5_7, x5_8, x5_11, x5_12, x5_15, x5_16, x5_17, x5_18, x5_19, x5_22, x5_23, gf_6_0 t1, gN_7 t2, gl_7 t2, t4, t5, h1, xin_nI h0 (by omega), nI_clamp (lt31 h0 (by omega)), hne, gc_5 t3, h5, Option.bind_some, Option.toList_some, Option.toList_none, List.cons_append, List.nil_append, Option.isSome_some, if_true, eq_self, or_true, true_or, xb_01, mcl_cl, not_true_eq_false, not_false_eq_true, if_false]
    simp only [x5_26, x5_29, nI_1]
    exact h7
theorem c5 (hw : gW G) (ht : G.1 t = 6) (hp : puOk G (t + 1) (G.2.1 (t + 1))) : X g 5 0 [.val (va_rf (some t)), .unset, .unset] [] (gH n kc ks G) = some (none, gH n kc ks (rUp G (t + 1) 0 (G.2.1 (t + 1)) G)) := by
  have h1 := l5 (g := g) (n := n) (kc := kc) (ks := ks) hw ht hp (G.2.1 (t + 1)) 0 G .unset rSm_refl (by omega)
  have h1' : X g 5 2 [.val (va_rf (some t)), .val (.int 0), .unset] [] (gH n kc ks G) = _ := h1
  simp only [x5_0, x5_1, h1', Option.bind_some, Option.toList_some, Option.toList_none, List.cons_append, List.nil_append, Option.isSome_some, if_true, eq_self, or_true, true_or, xb_01, mcl_cl, not_true_eq_false, not_false_eq_true, if_false]
/-- only what is touched differs -/
def rTm (T G : GS) : Prop := T.1 = G.1 ∧ T.2.1 = G.2.1 ∧ T.2.2.2.1 = G.2.2.2.1 ∧ T.2.2.2.2 = G.2.2.2.2 ∧ (∀ q, G.1 q ≠ 4 → T.2.2.1 q = G.2.2.1 q)
theorem rTm_refl : rTm G G := ⟨rfl, rfl, rfl, rfl, fun _ _ => rfl⟩
theorem rTm_set (hw : gW G) (hs : rTm T G) (ha : G.1 a = 1) : rTm (gsI T (a + 3) s k) G := by
  obtain ⟨h1, h2, h3, h4, h5⟩ := hs
  obtain ⟨w1, w2, w3, _⟩ := hw.1 a ha
  refine ⟨h1, h2, h3, h4, fun q hq => ?_⟩
  rw [← h5 q hq]
  funext e
  show (if q = a + 3 ∧ e = s then k else T.2.2.1 q e) = _
  rw [if_neg (fun z : q = a + 3 ∧ e = s => hq (by rw [z.1]; exact w3))]
/-- cells touched -/
def rTc (G : GS) (y : Nat) : Nat → Nat → GS → GS
  | _, 0, T => T
  | s, d + 1, T => rTc G y (s + 1) d (gsI T (puA G y s + 3) (puP G y s) 1)
theorem l6 (hw : gW G) (ht : G.1 t = 6) (hp : puOk G (t + 1) (G.2.1 (t + 1))) : ∀ d e (T : GS) (s2 : Slot), rTm T G → e + d = G.2.1 (t + 1) → X g 6 2 [.val (va_rf (some t)), .val (.int (nI e)), s2] [] (gH n kc ks T) = some (none, gH n kc ks (rTc G (t + 1) e d T)) := by
  obtain ⟨w1, w2⟩ := hw.2.1 t ht
  intro d
  induction d with
  | zero =>
    intro e T s2 hs he
    obtain ⟨s1, s2', s3, s4, s5⟩ := hs
    have t1 : T.1 t = 6 := by rw [s1]; exact ht
    have t2 : T.1 (t + 1) = 7 := by rw [s1]; exact w1
    have t4 : T.2.1 (t + 1) = G.2.1 (t + 1) := by rw [s2']
    have h1 : nI (G.2.1 (t + 1)) ≤ nI e := nI_le (by omega) (by omega)
    simp only [x6_2, x6_3, x6_4, x6_7, x6_8, x6_11, x6_12, x6_15, x6_16, x6_17, x6_18, x6_19, x6_22, x6_23, x6_26, x6_29, x6_30, x6_33, x6_34, x6_37, x6_46, gf_6_0 t1, gN_7 t2, t4, h1, rTc, Option.bind_some, Option.toList_some, Option.toList_none, List.cons_append, List.nil_append, Option.isSome_some, if_true, eq_self, or_true, true_or, xb_01, mcl_cl, not_true_eq_false, not_false_eq_true, if_false]
  | succ d ih =>
    intro e T s2 hs he
    obtain ⟨s1, s2', s3, s4, s5⟩ := hs
    have hs : rTm T G := ⟨s1, s2', s3, s4, s5⟩
    have h1 : ¬ nI (G.2.1 (t + 1)) ≤ nI e := nI_ge (by omega) (by omega)
    have h0 : e < G.2.1 (t + 1) := by omega
    obtain ⟨p1, p2, p3, p4, p5⟩ := puOk_e hp h0
    have hne : ¬ (some (puX G (t + 1) e) : Option Nat) = none := by simp
    have hne2 : ¬ (some (puA G (t + 1) e) : Option Nat) = none := by simp
    have t1 : T.1 t = 6 := by rw [s1]; exact ht
    have t2 : T.1 (t + 1) = 7 := by rw [s1]; exact w1
    have t3 : T.1 (puX G (t + 1) e) = 5 := by rw [s1]; exact p2
    have t4 : T.2.1 (t + 1) = G.2.1 (t + 1) := by rw [s2']
    have t5 : T.2.2.2.2 (t + 1) e = some (puX G (t + 1) e) := by rw [s4]; exact p1
    have t6 : T.2.2.2.2 (puX G (t + 1) e) 0 = some (puA G (t + 1) e) := by rw [s4]; exact p3
    have t7 : T.1 (puA G (t + 1) e) = 1 := by rw [s1]; exact p4
    have t8 : T.2.2.1 (puX G (t + 1) e) 1 = G.2.2.1 (puX G (t + 1) e) 1 := by rw [s5 _ (by rw [p2]; decide)]
    have h5 := c70 (g := g) (n := n) (kc := kc) (ks := ks) (G := T) (a := puA G (t + 1) e) (i := G.2.2.1 (puX G (t + 1) e) 1) (gW_c hw s1 s2') t7
    rw [s2', if_pos p5] at h5
    have h7 := ih (e + 1) (gsI T (puA G (t + 1) e + 3) (puP G (t + 1) e) 1) (.val (va_rf (some (puX G (t + 1) e)))) (rTm_set hw hs p4) (by omega)
    have h5' : X g 70 0 [.val (va_rf (some (puA G (t + 1) e))), .val (.int (G.2.2.1 (puX G (t + 1) e) 1))] [] (gH n kc ks T) = some (none, gH n kc ks (gsI T (puA G (t + 1) e + 3) (puP G (t + 1) e) 1)) := h5
    rw [rTc]
    simp only [x6_2, x6_3, x6_4, x6_7, x6_8, x6_11, x6_12, x6_15, x6_16, x6_17, x6_18, x6_19, x6_22, x6_23, x6_26, x6_29, x6_30, x6_33, x6_34, x6_37, gf_6_0 t1, gN_7 t2, gl_7 t2, t4, t5, h1, xin_nI h0 (by omega), nI_clamp (lt31 h0 (by omega)), hne, hne2, gf_5_0 t3, gf_5_1 t3, t6, t8, gc_1 t7, h5', Option.bind_some, Option.toList_some, Option.toList_none, List.cons_append, List.nil_append, Option.isSome_some, if_true, eq_self, or_true, true_or, xb_01, mcl_cl, not_true_eq_false, not_false_eq_true, if_false]
    simp only [x6_40, x6_43, nI_1]
    exact h7
theorem c6 (hw : gW G) (ht : G.1 t = 6) (hp : puOk G (t + 1) (G.2.1 (t + 1))) : X g 6 0 [.val (va_rf (some t)), .unset, .unset] [] (gH n kc ks G) = some (none, gH n kc ks (rTc G (t + 1) 0 (G.2.1 (t + 1)) G)) := by
  have h1 := l6 (g := g) (n := n) (kc := kc) (ks := ks) hw ht hp (G.2.1 (t + 1)) 0 G .unset rTm_refl (by omega)
  have h1' : X g 6 2 [.val (va_rf (some t)), .val (.int 0), .unset] [] (gH n kc ks G) = _ := h1
  simp only [x6_0, x6_1, h1', Option.bind_some, Option.toList_some, Option.toList_none, List.cons_append, List.nil_append, Option.isSome_some, if_true, eq_self, or_true, true_or, xb_01, mcl_cl, not_true_eq_false, not_false_eq_true, if_false]
/-- pending puts taken back -/
theorem l30 (hw : gW G) (hj : G.1 jn = 20) (h1j : G.1 (jn + 1) = 21) (hN : G.2.1 (jn + 1) = 64) (hp : puOk G (jn + 1) c) (hc : c ≤ 64) : ∀ e (T : GS) (s2 : Slot), rSm T G → e ≤ c → X g 30 15 [.val (va_rf (some jn)), .val (.int (nI e - 1)), s2] [] (gH n kc ks T) = some (none, gH n kc ks (gsI (rDn G (jn + 1) e T) jn 1 0)) := by
  have role : ∀ e (T : GS), (rDn G (jn + 1) e T).1 = T.1 := by
    intro e
    induction e with
    | zero => intro T; rfl
    | succ e ih => intro T; rw [rDn, ih]; rfl
  intro e
  induction e with
  | zero =>
    intro T s2 hs _
    have h1 : nI 0 - 1 < 0 := by decide
    have t1 : T.1 jn = 20 := by rw [hs.1]; exact hj
    simp only [x30_15, x30_16, x30_19, x30_20, x30_23, x30_24, x30_25, x30_26, x30_27, x30_30, x30_31, x30_40, x30_41, x30_42, x30_45, h1, gf_20_1 t1, gp_20_1 t1, rDn, Option.bind_some, Option.toList_some, Option.toList_none, List.cons_append, List.nil_append, Option.isSome_some, if_true, eq_self, or_true, true_or, xb_01, mcl_cl, not_true_eq_false, not_false_eq_true, if_false]
  | succ e ih =>
    intro T s2 hs he
    obtain ⟨s1, s2', s3, s4, s5⟩ := hs
    have hs : rSm T G := ⟨s1, s2', s3, s4, s5⟩
    have h1 : ¬ nI e < 0 := nI_pos (by omega)
    have h0 : e < c := by omega
    have h64 : e < 64 := by omega
    obtain ⟨p1, p2, p3, p4, p5⟩ := puOk_e hp h0
    have hne : ¬ (some (puX G (jn + 1) e) : Option Nat) = none := by simp
    have t1 : T.1 jn = 20 := by rw [s1]; exact hj
    have t2 : T.1 (jn + 1) = 21 := by rw [s1]; exact h1j
    have t3 : T.1 (puX G (jn + 1) e) = 5 := by rw [s1]; exact p2
    have t4 : T.2.1 (jn + 1) = 64 := by rw [s2']; exact hN
    have t5 : T.2.2.2.2 (jn + 1) e = some (puX G (jn + 1) e) := by rw [s3]; exact p1
    have h5 := one_dn (g := g) (n := n) (kc := kc) (ks := ks) hw hs hp h0
    have h8 : nI e + -1 = nI e - 1 := by rw [Int32.sub_eq_add_neg]
    have h7 := ih (rSet T (puA G (jn + 1) e) (puP G (jn + 1) e) (G.2.2.1 (puX G (jn + 1) e) 2) (G.2.2.2.1 (puX G (jn + 1) e) 3)) (.val (va_rf (some (puX G (jn + 1) e)))) (rSm_set hw hs p4) (by omega)
    rw [nI_pred, rDn]
    simp only [x30_15, x30_16, x30_19, x30_20, x30_23, x30_24, x30_25, x30_26, x30_27, x30_30, x30_31, gf_20_0 t1, gl_21 t2, t4, t5, h1, xin_nI h64 (by omega), nI_clamp (lt31 h64 (by omega)), hne, gc_5 t3, h5, Option.bind_some, Option.toList_some, Option.toList_none, List.cons_append, List.nil_append, Option.isSome_some, if_true, eq_self, or_true, true_or, xb_01, mcl_cl, not_true_eq_false, not_false_eq_true, if_false]
    simp only [x30_34, x30_37, h8]
    exact h7
theorem c30 (hw : gW G) (hj : G.1 jn = 20) (h1j : G.1 (jn + 1) = 21) (hN : G.2.1 (jn + 1) = 64) (hp : puOk G (jn + 1) c) (hc : c ≤ 64) (he : G.2.2.1 jn 1 = nI c) : X g 30 0 [.val (va_rf (some jn)), .unset, .unset] [] (gH n kc ks G) = some (none, gH n kc ks (gsI (rDn G (jn + 1) c G) jn 1 0)) := by
  have h1 := l30 (g := g) (n := n) (kc := kc) (ks := ks) hw hj h1j hN hp hc c G .unset rSm_refl (by omega)
  have h2 : (if nI 64 < nI c then nI 64 else nI c) = nI c := by
    rw [if_neg]
    exact Int32.not_lt.mpr (nI_le (by omega) (by omega))
  simp only [x30_0, x30_1, x30_4, x30_5, x30_8, x30_9, x30_12, x30_13, x30_14, gf_20_1 hj, gf_20_0 hj, gN_21 h1j, hN, he, h2, h1, Option.bind_some, Option.toList_some, Option.toList_none, List.cons_append, List.nil_append, Option.isSome_some, if_true, eq_self, or_true, true_or, xb_01, mcl_cl, not_true_eq_false, not_false_eq_true, if_false]
end K10
