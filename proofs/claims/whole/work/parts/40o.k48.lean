/-! THE CLASS's methods, 14: the tape read -/
section K48
variable {g : xG} {n kc ks a b c s w q l x y tp d r p n' e m : Nat} {G T U G1 G2 : GS} {h : xH} {i j k v i1 i2 : Int32} {u z : Int64} {S S1 S' : MS} {F : Nat → Int32} {t : Nat → Int32}
/-- a tape read up to a place, and a line with some fields -/
def tS (G : GS) (tp a x : Nat) (F : Nat → Int32) : GS := (G.1, G.2.1, fun q e => if q = tp ∧ e = 4 then nI a else if q = x then F e else G.2.2.1 q e, G.2.2.2.1, G.2.2.2.2)
def tpL (G : GS) (tp x l : Nat) (t : Nat → Int32) : Prop := G.1 tp = 23 ∧ G.1 (tp + 1) = 24 ∧ G.2.1 (tp + 1) = 120 ∧ G.2.2.1 tp 2 = nI l ∧ l ≤ 120 ∧ (∀ e, e < l → G.2.2.1 (tp + 1) e = t e ∧ 1 ≤ (t e).toInt ∧ (t e).toInt ≤ 127) ∧ G.1 x = 8
theorem tS_at : gsI (tS G tp a x F) tp 4 (nI b) = tS G tp b x F := by
  refine Prod.ext rfl (Prod.ext rfl (Prod.ext ?_ (Prod.ext rfl rfl)))
  funext q e
  show (if q = tp ∧ e = 4 then nI b else if q = tp ∧ e = 4 then nI a else if q = x then F e else G.2.2.1 q e) = if q = tp ∧ e = 4 then nI b else if q = x then F e else G.2.2.1 q e
  by_cases c : q = tp ∧ e = 4
  · rw [if_pos c, if_pos c]
  · rw [if_neg c, if_neg c, if_neg c]
theorem tS_x (hx : x ≠ tp) : gsI (tS G tp a x F) x y k = tS G tp a x (fun e => if e = y then k else F e) := by
  refine Prod.ext rfl (Prod.ext rfl (Prod.ext ?_ (Prod.ext rfl rfl)))
  funext q e
  show (if q = x ∧ e = y then k else if q = tp ∧ e = 4 then nI a else if q = x then F e else G.2.2.1 q e) = if q = tp ∧ e = 4 then nI a else if q = x then (if e = y then k else F e) else G.2.2.1 q e
  by_cases c : q = x
  · have c2 : ¬ (q = tp ∧ e = 4) := fun z => hx (c.symm.trans z.1)
    rw [if_neg c2, if_neg c2, if_pos c, if_pos c]
    by_cases c3 : e = y
    · rw [if_pos ⟨c, c3⟩, if_pos c3]
    · rw [if_neg (fun z => c3 z.2), if_neg c3]
  · rw [if_neg (fun z => c z.1), if_neg c, if_neg c]
theorem tpx (hL : tpL G tp x l t) : x ≠ tp ∧ x ≠ tp + 1 := by
  obtain ⟨l1, l2, _, _, _, _, l7⟩ := hL
  refine ⟨fun z => ?_, fun z => ?_⟩
  · rw [z, l1] at l7
    exact absurd l7 (by decide)
  · rw [z, l2] at l7
    exact absurd l7 (by decide)
theorem tS_f (hL : tpL G tp x l t) : (tS G tp a x F).1 tp = 23 ∧ (tS G tp a x F).1 (tp + 1) = 24 ∧ (tS G tp a x F).2.1 (tp + 1) = 120 ∧ (tS G tp a x F).2.2.1 tp 2 = nI l ∧ (tS G tp a x F).2.2.1 tp 4 = nI a ∧ (∀ e, e < l → (tS G tp a x F).2.2.1 (tp + 1) e = t e) ∧ (tS G tp a x F).1 x = 8 ∧ ∀ e, (tS G tp a x F).2.2.1 x e = F e := by
  obtain ⟨x1, x2⟩ := tpx hL
  obtain ⟨l1, l2, l3, l4, l5, l6, l7⟩ := hL
  refine ⟨l1, l2, l3, ?_, if_pos ⟨rfl, rfl⟩, fun e he => ?_, l7, fun e => ?_⟩
  · show (if tp = tp ∧ 2 = 4 then _ else if tp = x then _ else G.2.2.1 tp 2) = nI l
    rw [if_neg (by omega), if_neg (fun z => x1 z.symm)]
    exact l4
  · show (if tp + 1 = tp ∧ e = 4 then _ else if tp + 1 = x then _ else G.2.2.1 (tp + 1) e) = t e
    rw [if_neg (by omega), if_neg (fun z => x2 z.symm)]
    exact (l6 e he).1
  · show (if x = tp ∧ e = 4 then _ else if x = x then F e else _) = F e
    rw [if_neg (fun z => x1 z.1), if_pos rfl]
theorem c86 (hL : tpL G tp x l t) (ha : a ≤ l) : X g 86 0 [.val (va_rf (some tp))] [] (gH n kc ks (tS G tp a x F)) = some (some (.int (if a < l then t a else 0)), gH n kc ks (tS G tp a x F)) := by
  obtain ⟨f1, f2, f3, f4, f5, f6, f7, f8⟩ := tS_f (a := a) (F := F) hL
  have l5 := hL.2.2.2.2.1
  have h0 : ¬ nI a < 0 := nI_pos (by omega)
  by_cases c : a < l
  · rw [if_pos c]
    have h1 : ¬ nI l ≤ nI a := nI_ge c (by omega)
    have h2 : ¬ nI 120 ≤ nI a := nI_ge (by omega) (by decide)
    have hx : xin (nI a) 120 = true := xin_nI (by omega) (by decide)
    have hc : (nI a).toNatClampNeg = a := nI_clamp (by omega)
    simp only [x86_0, x86_1, x86_4, x86_7, x86_8, x86_11, x86_12, x86_15, x86_18, x86_19, x86_22, x86_23, x86_26, x86_27, x86_30, x86_31, x86_34, x86_35, x86_38, x86_39, x86_42, x86_43, gf_23_4 f1, f5, h0, gf_23_2 f1, f4, h1, gf_23_0 f1, gN_24 f2, f3, h2, gl_24 f2, hx, hc, f6 a c, Option.bind_some, Option.toList_some, Option.toList_none, List.cons_append, List.nil_append, Option.isSome_some, if_true, eq_self, or_true, true_or, xb_01, mcl_cl, not_true_eq_false, not_false_eq_true, if_false]
  · rw [if_neg c]
    have h1 : nI l ≤ nI a := nI_le (by omega) (by omega)
    simp only [x86_0, x86_1, x86_4, x86_7, x86_8, x86_11, x86_12, x86_15, x86_18, x86_19, x86_22, x86_23, x86_26, x86_27, x86_30, x86_31, x86_34, x86_35, x86_38, x86_39, x86_42, x86_43, gf_23_4 f1, f5, h0, gf_23_2 f1, f4, h1, Option.bind_some, Option.toList_some, Option.toList_none, List.cons_append, List.nil_append, Option.isSome_some, if_true, eq_self, or_true, true_or, xb_01, mcl_cl, not_true_eq_false, not_false_eq_true, if_false]
theorem tok (hL : tpL G tp x l t) (c : a < l) : ∃ o, 1 ≤ o ∧ o ≤ 127 ∧ t a = nI o := by
  obtain ⟨_, h1, h2⟩ := hL.2.2.2.2.2.1 a c
  refine ⟨tn (t a), ?_, ?_, nI_tn (by omega)⟩
  · unfold tn
    omega
  · unfold tn
    omega
theorem c85 (hL : tpL G tp x l t) (ha : a ≤ l) (hk : ¬ k = 0) : X g 85 0 [.val (va_rf (some tp)), .val (.int k)] [] (gH n kc ks (tS G tp a x F)) = some (some (.int (xb (qIs l t (a, true) k))), gH n kc ks (tS G tp (qTk l t (a, true) k).1 x F)) := by
  have k86 := c86 (g := g) (n := n) (kc := kc) (ks := ks) (F := F) hL ha
  obtain ⟨f1, f2, f3, f4, f5, f6, f7, f8⟩ := tS_f (a := a) (F := F) hL
  unfold qTk qIs
  by_cases c : a < l
  · rw [if_pos c] at k86
    by_cases c2 : t a = k
    · have e1 : (true && (decide (a < l) && decide (t a = k))) = true := by simp [c, c2]
      have e1' : ((a, true).2 && (decide ((a, true).1 < l) && decide (t (a, true).1 = k))) = true := e1
      rw [e1', if_pos rfl]
      simp only [x85_0, x85_1, x85_4, x85_5, x85_8, x85_9, x85_10, x85_11, x85_12, x85_15, x85_16, x85_17, x85_20, x85_21, gc_23 f1, k86, c2, gf_23_4 f1, f5, gp_23_4 f1, Option.isSome_some, nI_1, tS_at, x85_21 (Or.inr rfl), Option.bind_some, Option.toList_some, Option.toList_none, List.cons_append, List.nil_append, Option.isSome_some, if_true, eq_self, or_true, true_or, xb_01, mcl_cl, not_true_eq_false, not_false_eq_true, if_false]
      rfl
    · have e1 : ((a, true).2 && (decide ((a, true).1 < l) && decide (t (a, true).1 = k))) = false := by simp [c2]
      rw [e1, if_neg (by simp)]
      simp only [x85_0, x85_1, x85_4, x85_5, x85_8, x85_9, x85_10, x85_11, x85_12, x85_15, x85_16, x85_17, x85_20, x85_21, gc_23 f1, k86, c2, x85_9 (Or.inl rfl), Option.bind_some, Option.toList_some, Option.toList_none, List.cons_append, List.nil_append, Option.isSome_some, if_true, eq_self, or_true, true_or, xb_01, mcl_cl, not_true_eq_false, not_false_eq_true, if_false]
      rfl
  · rw [if_neg c] at k86
    have e1 : ((a, true).2 && (decide ((a, true).1 < l) && decide (t (a, true).1 = k))) = false := by simp [c]
    have c2 : ¬ 0 = k := fun z => hk z.symm
    rw [e1, if_neg (by simp)]
    simp only [x85_0, x85_1, x85_4, x85_5, x85_8, x85_9, x85_10, x85_11, x85_12, x85_15, x85_16, x85_17, x85_20, x85_21, gc_23 f1, k86, c2, x85_9 (Or.inl rfl), Option.bind_some, Option.toList_some, Option.toList_none, List.cons_append, List.nil_append, Option.isSome_some, if_true, eq_self, or_true, true_or, xb_01, mcl_cl, not_true_eq_false, not_false_eq_true, if_false]
    rfl
theorem c84 {hh : Nat} (hL : tpL G tp x l t) (ha : a ≤ l) (h9 : hh ≤ 9) : X g 84 0 [.val (va_rf (some tp)), .val (.int (nI hh)), .unset] [] (gH n kc ks (tS G tp a x F)) = some (some (.int (if (decide (a < l) && mWithin (t a).toInt 48 (48 + hh)) = true then t a - 48 else -1)), gH n kc ks (tS G tp (if (decide (a < l) && mWithin (t a).toInt 48 (48 + hh)) = true then a + 1 else a) x F)) := by
  have k86 := c86 (g := g) (n := n) (kc := kc) (ks := ks) (F := F) hL ha
  obtain ⟨f1, f2, f3, f4, f5, f6, f7, f8⟩ := tS_f (a := a) (F := F) hL
  by_cases c : a < l
  · rw [if_pos c] at k86
    obtain ⟨o, o1, o2, o3⟩ := tok hL c
    rw [decide_eq_true c, Bool.true_and]
    have ot : (t a).toInt = o := by rw [o3, nI_toInt (by omega)]
    by_cases c1 : 48 ≤ o
    · have e1 : t a - 48 = nI (o - 48) := by rw [o3]; exact pk_sub (b := 48) c1
      have n1 : ¬ nI (o - 48) < 0 := nI_pos (by omega)
      by_cases c2 : o ≤ 48 + hh
      · have w : mWithin (t a).toInt 48 (48 + hh) = true := mWithin_iff.mpr ⟨by omega, by omega⟩
        have n2 : nI (o - 48) ≤ nI hh := nI_le (by omega) (by omega)
        rw [w, if_pos rfl, if_pos rfl]
        simp only [x84_0, x84_1, x84_4, x84_6, x84_7, x84_8, x84_9, x84_12, x84_13, x84_14, x84_17, x84_18, x84_19, x84_20, x84_21, x84_24, x84_25, x84_26, x84_29, x84_30, gc_23 f1, k86, e1, n1, n2, gf_23_4 f1, f5, gp_23_4 f1, Option.isSome_some, nI_1, tS_at, Option.bind_some, Option.toList_some, Option.toList_none, List.cons_append, List.nil_append, Option.isSome_some, if_true, eq_self, or_true, true_or, xb_01, mcl_cl, not_true_eq_false, not_false_eq_true, if_false]
      · have w : mWithin (t a).toInt 48 (48 + hh) = false := by
          cases hw : mWithin (t a).toInt 48 (48 + hh) with
          | false => rfl
          | true =>
            have := mWithin_iff.mp hw
            omega
        have n2 : ¬ nI (o - 48) ≤ nI hh := nI_ge (by omega) (by omega)
        rw [w, if_neg (by simp), if_neg (by simp)]
        simp only [x84_0, x84_1, x84_4, x84_6, x84_7, x84_8, x84_9, x84_12, x84_13, x84_14, x84_17, x84_18, x84_19, x84_20, x84_21, x84_24, x84_25, x84_26, x84_29, x84_30, gc_23 f1, k86, e1, n1, n2, Option.bind_some, Option.toList_some, Option.toList_none, List.cons_append, List.nil_append, Option.isSome_some, if_true, eq_self, or_true, true_or, xb_01, mcl_cl, not_true_eq_false, not_false_eq_true, if_false]
    · have w : mWithin (t a).toInt 48 (48 + hh) = false := by
        cases hw : mWithin (t a).toInt 48 (48 + hh) with
        | false => rfl
        | true =>
          have := mWithin_iff.mp hw
          omega
      have n1 : t a - 48 < 0 := by
        rw [i32_lt, o3, show (48 : Int32) = nI 48 from rfl, pk_sub_toInt (by omega) (by omega), show (0 : Int32).toInt = 0 from rfl]
        omega
      rw [w, if_neg (by simp), if_neg (by simp)]
      simp only [x84_0, x84_1, x84_4, x84_6, x84_7, x84_8, x84_9, x84_12, x84_13, x84_14, x84_17, x84_18, x84_19, x84_20, x84_21, x84_24, x84_25, x84_26, x84_29, x84_30, gc_23 f1, k86, n1, Option.bind_some, Option.toList_some, Option.toList_none, List.cons_append, List.nil_append, Option.isSome_some, if_true, eq_self, or_true, true_or, xb_01, mcl_cl, not_true_eq_false, not_false_eq_true, if_false]
  · rw [if_neg c] at k86
    rw [decide_eq_false c, Bool.false_and, if_neg (by simp), if_neg (by simp)]
    have n1 : (0 : Int32) - 48 < 0 := by decide
    simp only [x84_0, x84_1, x84_4, x84_6, x84_7, x84_8, x84_9, x84_12, x84_13, x84_14, x84_17, x84_18, x84_19, x84_20, x84_21, x84_24, x84_25, x84_26, x84_29, x84_30, gc_23 f1, k86, n1, Option.bind_some, Option.toList_some, Option.toList_none, List.cons_append, List.nil_append, Option.isSome_some, if_true, eq_self, or_true, true_or, xb_01, mcl_cl, not_true_eq_false, not_false_eq_true, if_false]
theorem d84y (hL : tpL G tp x l t) (hq : qFg l t (a, true) = true) : X g 84 0 [.val (va_rf (some tp)), .val (.int 9), .unset] [] (gH n kc ks (tS G tp a x F)) = some (some (.int (t a - 48)), gH n kc ks (tS G tp (a + 1) x F)) := by
  have hz := (qFg_t hq).2
  have h1 := c84 (g := g) (n := n) (kc := kc) (ks := ks) (F := F) (hh := 9) hL (Nat.le_of_lt hz) (by omega)
  have h2 : (decide (a < l) && mWithin (t a).toInt 48 (48 + (9 : Nat))) = true := hq
  rw [if_pos h2, if_pos h2] at h1
  exact h1
theorem d84n (hL : tpL G tp x l t) (ha : a ≤ l) (hq : qFg l t (a, true) = false) : X g 84 0 [.val (va_rf (some tp)), .val (.int 9), .unset] [] (gH n kc ks (tS G tp a x F)) = some (some (.int (-1)), gH n kc ks (tS G tp a x F)) := by
  have h1 := c84 (g := g) (n := n) (kc := kc) (ks := ks) (F := F) (hh := 9) hL ha (by omega)
  have h2 : (decide (a < l) && mWithin (t a).toInt 48 (48 + (9 : Nat))) = false := hq
  rw [if_neg (by rw [h2]; simp), if_neg (by rw [h2]; simp)] at h1
  exact h1
theorem fgv (hq : qFg l t (a, true) = true) : ∃ d, d < 10 ∧ t a - 48 = nI d := by
  unfold qFg at hq
  simp only [Bool.true_and, Bool.and_eq_true] at hq
  obtain ⟨_, h2, h3⟩ := fig_val hq.2
  obtain ⟨h4, _, _⟩ := fig_val hq.2
  exact ⟨_, h2, h3.symm.trans h4⟩
theorem nI_m1 : ∀ m, m < 100 → ¬ nI m = -1 := by decide +kernel
theorem ten0 (y : Int32) : 10 * 0 + y - 48 = y - 48 := by
  rw [show (10 : Int32) * 0 = 0 from rfl, Int32.zero_add]
theorem qNm1_y (hq : qFg l t (a, true) = true) : qNm l t 1 (a, true) = (t a - 48, (a + 1, true)) := by
  unfold qNm
  rw [if_pos hq, qNl, if_pos hq, qNl, ten0]
theorem qNm_n {m : Nat} (hq : qFg l t (a, true) = false) : qNm l t (m + 1) (a, true) = (0, (a, false)) := by
  unfold qNm
  rw [if_neg (by rw [hq]; simp), qNl, if_neg]
  rw [qFg_f]
  simp
theorem c83_n (hL : tpL G tp x l t) (ha : a ≤ l) (hq : qFg l t (a, true) = false) : X g 83 0 [.val (va_rf (some tp)), .unset, .unset] [] (gH n kc ks (tS G tp a x F)) = some (some (.int (-1)), gH n kc ks (tS G tp a x F)) := by
  obtain ⟨f1, _⟩ := tS_f (a := a) (F := F) hL
  have k84 := d84n (g := g) (n := n) (kc := kc) (ks := ks) (F := F) hL ha hq
  simp only [x83_0, x83_1, x83_3, x83_6, x83_7, x83_8, x83_9, x83_12, x83_13, x83_14, x83_15, x83_17, x83_20, x83_21, x83_22, x83_23, x83_26, x83_27, x83_30, x83_32, x83_33, x83_34, x83_35, x83_36, gc_23 f1, k84, Option.bind_some, Option.toList_some, Option.toList_none, List.cons_append, List.nil_append, Option.isSome_some, if_true, eq_self, or_true, true_or, xb_01, mcl_cl, not_true_eq_false, not_false_eq_true, if_false]
theorem c83_y (hL : tpL G tp x l t) (hq : qFg l t (a, true) = true) : ∃ v b, qNm l t 2 (a, true) = (v, (b, true)) ∧ ¬ v = -1 ∧ b ≤ l ∧ X g 83 0 [.val (va_rf (some tp)), .unset, .unset] [] (gH n kc ks (tS G tp a x F)) = some (some (.int v), gH n kc ks (tS G tp b x F)) := by
  obtain ⟨f1, _⟩ := tS_f (a := a) (F := F) hL
  obtain ⟨f1', _⟩ := tS_f (a := a + 1) (F := F) hL
  have hz : a < l := (qFg_t hq).2
  obtain ⟨d, d1, d2⟩ := fgv hq
  have k84 := d84y (g := g) (n := n) (kc := kc) (ks := ks) (F := F) hL hq
  have n1 := nI_m1 d (by omega)
  have e2 : qNm l t 2 (a, true) = if qFg l t (a + 1, true) = true then (10 * (t a - 48) + t (a + 1) - 48, (a + 2, true)) else (t a - 48, (a + 1, true)) := by
    unfold qNm
    rw [if_pos hq, qNl, if_pos hq, ten0, qNl]
    by_cases c : qFg l t (a + 1, true) = true
    · rw [if_pos c, if_pos c, qNl]
    · rw [if_neg c, if_neg c]
  rw [d2] at k84
  cases hq2 : qFg l t (a + 1, true) with
  | false =>
    rw [hq2, if_neg (by simp)] at e2
    have m84 := d84n (g := g) (n := n) (kc := kc) (ks := ks) (F := F) hL (show a + 1 ≤ l by omega) hq2
    refine ⟨t a - 48, a + 1, e2, by rw [d2]; exact n1, by omega, ?_⟩
    rw [d2]
    simp only [x83_0, x83_1, x83_3, x83_6, x83_7, x83_8, x83_9, x83_12, x83_13, x83_14, x83_15, x83_17, x83_20, x83_21, x83_22, x83_23, x83_26, x83_27, x83_30, x83_32, x83_33, x83_34, x83_35, x83_36, gc_23 f1, k84, n1, gc_23 f1', m84, Option.bind_some, Option.toList_some, Option.toList_none, List.cons_append, List.nil_append, Option.isSome_some, if_true, eq_self, or_true, true_or, xb_01, mcl_cl, not_true_eq_false, not_false_eq_true, if_false]
  | true =>
    rw [hq2, if_pos rfl] at e2
    obtain ⟨d', d1', d2'⟩ := fgv hq2
    have hz2 : a + 1 < l := (qFg_t hq2).2
    have m84 := d84y (g := g) (n := n) (kc := kc) (ks := ks) (F := F) hL hq2
    rw [d2'] at m84
    have n2 := nI_m1 d' (by omega)
    have ev : 10 * (t a - 48) + t (a + 1) - 48 = 10 * nI d + nI d' := by
      rw [← d2', ← d2, Int32.sub_eq_add_neg, Int32.add_assoc, ← Int32.sub_eq_add_neg]
    have ev2 : 10 * nI d + nI d' = nI (10 * d + d') := by
      rw [show (10 : Int32) = nI 10 from rfl, pk_mul, nI_add]
    refine ⟨10 * (t a - 48) + t (a + 1) - 48, a + 2, e2, ?_, by omega, ?_⟩
    · rw [ev, ev2]
      exact nI_m1 _ (by omega)
    · rw [ev]
      simp only [x83_0, x83_1, x83_3, x83_6, x83_7, x83_8, x83_9, x83_12, x83_13, x83_14, x83_15, x83_17, x83_20, x83_21, x83_22, x83_23, x83_26, x83_27, x83_30, x83_32, x83_33, x83_34, x83_35, x83_36, gc_23 f1, k84, n1, gc_23 f1', m84, n2, Option.bind_some, Option.toList_some, Option.toList_none, List.cons_append, List.nil_append, Option.isSome_some, if_true, eq_self, or_true, true_or, xb_01, mcl_cl, not_true_eq_false, not_false_eq_true, if_false]
theorem qIs_go (h : qIs l t (a, true) k = true) : qTk l t (a, true) k = (a + 1, true) ∧ qWt l t (a, true) k = (a + 1, true) ∧ a + 1 ≤ l := by
  refine ⟨?_, ?_, ?_⟩
  · unfold qTk
    rw [if_pos h]
  · unfold qWt
    rw [if_pos h]
  · have := (qIs_t h).2
    exact this
theorem qIs_no (h : qIs l t (a, true) k = false) : qTk l t (a, true) k = (a, true) ∧ qWt l t (a, true) k = (a, false) := by
  refine ⟨?_, ?_⟩
  · unfold qTk
    rw [if_neg (by rw [h]; simp)]
  · unfold qWt
    rw [if_neg (by rw [h]; simp)]
theorem c81 (hL : tpL G tp x l t) (ha : a ≤ l) : ∃ F', X g 81 0 [.val (va_rf (some tp)), .val (va_rf (some x))] [] (gH n kc ks (tS G tp a x F)) = some (some (.int (xb (qNm l t 1 (qV3 l t (a, true))).2.2)), gH n kc ks (tS G tp (qNm l t 1 (qV3 l t (a, true))).2.1 x F')) ∧ ((qNm l t 1 (qV3 l t (a, true))).2.2 = true → F' = fun e => if e = 5 then (qNm l t 1 (qV3 l t (a, true))).1 else if e = 4 then (qNm l t 2 (qV1 l t (a, true))).1 else if e = 3 then (qNm l t 1 (a, true)).1 else F e) := by
  obtain ⟨x1, x2⟩ := tpx hL
  have fT := fun a F => (tS_f (a := a) (F := F) hL).1
  have fX := fun a F => (tS_f (a := a) (F := F) hL).2.2.2.2.2.2.1
  have fV := fun a F => (tS_f (a := a) (F := F) hL).2.2.2.2.2.2.2
  unfold qV3 qV2 qV1
  cases h1 : qFg l t (a, true) with
  | false =>
    have k84 := d84n (g := g) (n := n) (kc := kc) (ks := ks) (F := F) hL ha h1
    simp only [qNm_n h1, qWt_f, qNm_f, qIs_f, Bool.false_eq_true, if_false, xb_f, false_implies, and_true]
    refine ⟨fun e => if e = 3 then -1 else F e, ?_⟩
    simp only [x81_0, x81_1, x81_2, x81_4, x81_7, x81_10, x81_11, x81_14, x81_15, x81_18, x81_19, x81_21, x81_24, x81_27, x81_28, x81_29, x81_30, x81_31, x81_34, x81_37, x81_38, x81_41, x81_42, x81_45, x81_46, x81_48, x81_51, x81_54, x81_55, x81_56, x81_57, x81_58, x81_60, x81_63, x81_66, x81_67, x81_70, x81_71, x81_74, x81_75, x81_78, x81_79, gc_23 (fT _ _), k84, gf_8_3 (fX _ _), gp_8_3 (fX _ _), Option.isSome_some, tS_x x1, fV, if_true, x81_28 (Or.inl rfl), Option.bind_some, Option.toList_some, Option.toList_none, List.cons_append, List.nil_append, Option.isSome_some, if_true, eq_self, or_true, true_or, xb_01, mcl_cl, not_true_eq_false, not_false_eq_true, if_false]
  | true =>
    have hz : a < l := (qFg_t h1).2
    obtain ⟨d, d1, d2⟩ := fgv h1
    have n1 := nI_m1 d (by omega)
    have k84 := d84y (g := g) (n := n) (kc := kc) (ks := ks) (F := F) hL h1
    rw [d2] at k84
    rw [qNm1_y h1, d2]
    have a85 := c85 (g := g) (n := n) (kc := kc) (ks := ks) (F := fun e => if e = 3 then nI d else F e) (k := 46) hL (show a + 1 ≤ l by omega) (by decide)
    cases h2 : qIs l t (a + 1, true) 46 with
    | false =>
      obtain ⟨t1, t2⟩ := qIs_no h2
      rw [h2, t1] at a85
      simp only [t2, qWt_f, qNm_f, qIs_f, Bool.false_eq_true, if_false, xb_f, false_implies, and_true]
      refine ⟨fun e => if e = 3 then nI d else F e, ?_⟩
      simp only [x81_0, x81_1, x81_2, x81_4, x81_7, x81_10, x81_11, x81_14, x81_15, x81_18, x81_19, x81_21, x81_24, x81_27, x81_28, x81_29, x81_30, x81_31, x81_34, x81_37, x81_38, x81_41, x81_42, x81_45, x81_46, x81_48, x81_51, x81_54, x81_55, x81_56, x81_57, x81_58, x81_60, x81_63, x81_66, x81_67, x81_70, x81_71, x81_74, x81_75, x81_78, x81_79, gc_23 (fT _ _), k84, gf_8_3 (fX _ _), gp_8_3 (fX _ _), Option.isSome_some, tS_x x1, fV, if_true, n1, a85, xb_f, x81_28 (Or.inl rfl), Option.bind_some, Option.toList_some, Option.toList_none, List.cons_append, List.nil_append, Option.isSome_some, if_true, eq_self, or_true, true_or, xb_01, mcl_cl, not_true_eq_false, not_false_eq_true, if_false]
    | true =>
      obtain ⟨t1, t2, t3⟩ := qIs_go h2
      rw [h2, t1] at a85
      rw [t2]
      cases h3 : qFg l t (a + 1 + 1, true) with
      | false =>
        have k83 := c83_n (g := g) (n := n) (kc := kc) (ks := ks) (F := fun e => if e = 3 then nI d else F e) hL t3 h3
        simp only [qNm_n (m := 1) h3, qWt_f, qNm_f, qIs_f, Bool.false_eq_true, if_false, xb_f, false_implies, and_true]
        refine ⟨fun e => if e = 4 then -1 else if e = 3 then nI d else F e, ?_⟩
        simp only [x81_0, x81_1, x81_2, x81_4, x81_7, x81_10, x81_11, x81_14, x81_15, x81_18, x81_19, x81_21, x81_24, x81_27, x81_28, x81_29, x81_30, x81_31, x81_34, x81_37, x81_38, x81_41, x81_42, x81_45, x81_46, x81_48, x81_51, x81_54, x81_55, x81_56, x81_57, x81_58, x81_60, x81_63, x81_66, x81_67, x81_70, x81_71, x81_74, x81_75, x81_78, x81_79, gc_23 (fT _ _), k84, gf_8_3 (fX _ _), gp_8_3 (fX _ _), gf_8_4 (fX _ _), gp_8_4 (fX _ _), Option.isSome_some, tS_x x1, fV, if_true, n1, a85, xb_t, i32_10, k83, x81_55 (Or.inl rfl), Option.bind_some, Option.toList_some, Option.toList_none, List.cons_append, List.nil_append, Option.isSome_some, if_true, eq_self, or_true, true_or, xb_01, mcl_cl, not_true_eq_false, not_false_eq_true, if_false]
      | true =>
        obtain ⟨v, b, e2, nv, hb, k83⟩ := c83_y (g := g) (n := n) (kc := kc) (ks := ks) (F := fun e => if e = 3 then nI d else F e) hL h3
        rw [e2]
        have b85 := c85 (g := g) (n := n) (kc := kc) (ks := ks) (F := fun e => if e = 4 then v else if e = 3 then nI d else F e) (k := 58) hL hb (by decide)
        cases h4 : qIs l t (b, true) 58 with
        | false =>
          obtain ⟨t1, t2⟩ := qIs_no h4
          rw [h4, t1] at b85
          simp only [t2, qWt_f, qNm_f, qIs_f, Bool.false_eq_true, if_false, xb_f, false_implies, and_true]
          refine ⟨fun e => if e = 4 then v else if e = 3 then nI d else F e, ?_⟩
          simp only [x81_0, x81_1, x81_2, x81_4, x81_7, x81_10, x81_11, x81_14, x81_15, x81_18, x81_19, x81_21, x81_24, x81_27, x81_28, x81_29, x81_30, x81_31, x81_34, x81_37, x81_38, x81_41, x81_42, x81_45, x81_46, x81_48, x81_51, x81_54, x81_55, x81_56, x81_57, x81_58, x81_60, x81_63, x81_66, x81_67, x81_70, x81_71, x81_74, x81_75, x81_78, x81_79, gc_23 (fT _ _), k84, gf_8_3 (fX _ _), gp_8_3 (fX _ _), gf_8_4 (fX _ _), gp_8_4 (fX _ _), Option.isSome_some, tS_x x1, fV, if_true, n1, a85, xb_t, i32_10, k83, nv, b85, xb_f, x81_55 (Or.inl rfl), Option.bind_some, Option.toList_some, Option.toList_none, List.cons_append, List.nil_append, Option.isSome_some, if_true, eq_self, or_true, true_or, xb_01, mcl_cl, not_true_eq_false, not_false_eq_true, if_false]
        | true =>
          obtain ⟨t1, t2, t3⟩ := qIs_go h4
          rw [h4, t1] at b85
          rw [t2]
          have v84 := c84 (g := g) (n := n) (kc := kc) (ks := ks) (F := fun e => if e = 4 then v else if e = 3 then nI d else F e) (hh := 8) hL t3 (by omega)
          have n8 : nI 8 = 8 := rfl
          rw [n8] at v84
          have z9 : qIs l t (b + 1, true) 57 = (decide (b + 1 < l) && decide (t (b + 1) = 57)) := rfl
          have zf : qFg l t (b + 1, true) = (decide (b + 1 < l) && mWithin (t (b + 1)).toInt 48 57) := rfl
          by_cases c9 : qIs l t (b + 1, true) 57 = true
          · have w8 : (decide (b + 1 < l) && mWithin (t (b + 1)).toInt 48 (48 + (8 : Nat))) = false := by
              rw [z9, Bool.and_eq_true, decide_eq_true_eq, decide_eq_true_eq] at c9
              rw [c9.2, Bool.and_eq_false_iff]
              exact Or.inr (by decide)
            rw [w8, if_neg (by simp), if_neg (by simp)] at v84
            rw [if_pos c9]
            simp only [qNm_f, Bool.false_eq_true, xb_f, false_implies, and_true]
            refine ⟨fun e => if e = 5 then -1 else if e = 4 then v else if e = 3 then nI d else F e, ?_⟩
            simp only [x81_0, x81_1, x81_2, x81_4, x81_7, x81_10, x81_11, x81_14, x81_15, x81_18, x81_19, x81_21, x81_24, x81_27, x81_28, x81_29, x81_30, x81_31, x81_34, x81_37, x81_38, x81_41, x81_42, x81_45, x81_46, x81_48, x81_51, x81_54, x81_55, x81_56, x81_57, x81_58, x81_60, x81_63, x81_66, x81_67, x81_70, x81_71, x81_74, x81_75, x81_78, x81_79, gc_23 (fT _ _), k84, gf_8_3 (fX _ _), gp_8_3 (fX _ _), gf_8_4 (fX _ _), gp_8_4 (fX _ _), gf_8_5 (fX _ _), gp_8_5 (fX _ _), Option.isSome_some, tS_x x1, fV, if_true, n1, a85, xb_t, i32_10, k83, nv, b85, v84, x81_79 (Or.inl rfl), Option.bind_some, Option.toList_some, Option.toList_none, List.cons_append, List.nil_append, Option.isSome_some, if_true, eq_self, or_true, true_or, xb_01, mcl_cl, not_true_eq_false, not_false_eq_true, if_false]
          · rw [if_neg c9]
            cases h5 : qFg l t (b + 1, true) with
            | false =>
              have w8 : (decide (b + 1 < l) && mWithin (t (b + 1)).toInt 48 (48 + (8 : Nat))) = false := by
                rw [zf, Bool.and_eq_false_iff] at h5
                rw [Bool.and_eq_false_iff]
                rcases h5 with h5 | h5
                · exact Or.inl h5
                · refine Or.inr ?_
                  cases hw : mWithin (t (b + 1)).toInt 48 (48 + (8 : Nat)) with
                  | false => rfl
                  | true =>
                    obtain ⟨y1, y2⟩ := mWithin_iff.mp hw
                    have : mWithin (t (b + 1)).toInt 48 57 = true := mWithin_iff.mpr ⟨y1, by omega⟩
                    rw [this] at h5
                    exact absurd h5 (by decide)
              rw [w8, if_neg (by simp), if_neg (by simp)] at v84
              simp only [qNm_n (m := 0) h5, Bool.false_eq_true, xb_f, false_implies, and_true]
              refine ⟨fun e => if e = 5 then -1 else if e = 4 then v else if e = 3 then nI d else F e, ?_⟩
              simp only [x81_0, x81_1, x81_2, x81_4, x81_7, x81_10, x81_11, x81_14, x81_15, x81_18, x81_19, x81_21, x81_24, x81_27, x81_28, x81_29, x81_30, x81_31, x81_34, x81_37, x81_38, x81_41, x81_42, x81_45, x81_46, x81_48, x81_51, x81_54, x81_55, x81_56, x81_57, x81_58, x81_60, x81_63, x81_66, x81_67, x81_70, x81_71, x81_74, x81_75, x81_78, x81_79, gc_23 (fT _ _), k84, gf_8_3 (fX _ _), gp_8_3 (fX _ _), gf_8_4 (fX _ _), gp_8_4 (fX _ _), gf_8_5 (fX _ _), gp_8_5 (fX _ _), Option.isSome_some, tS_x x1, fV, if_true, n1, a85, xb_t, i32_10, k83, nv, b85, v84, x81_79 (Or.inl rfl), Option.bind_some, Option.toList_some, Option.toList_none, List.cons_append, List.nil_append, Option.isSome_some, if_true, eq_self, or_true, true_or, xb_01, mcl_cl, not_true_eq_false, not_false_eq_true, if_false]
            | true =>
              have h5' := h5
              rw [zf, Bool.and_eq_true, decide_eq_true_eq] at h5'
              have w8 : (decide (b + 1 < l) && mWithin (t (b + 1)).toInt 48 (48 + (8 : Nat))) = true := by
                rw [decide_eq_true h5'.1, Bool.true_and]
                obtain ⟨y1, y2⟩ := mWithin_iff.mp h5'.2
                refine mWithin_iff.mpr ⟨y1, ?_⟩
                have : ¬ (t (b + 1)).toInt = 57 := by
                  intro z
                  apply c9
                  rw [z9, decide_eq_true h5'.1, decide_eq_true (Int32.toInt_inj.mp (show (t (b + 1)).toInt = (57 : Int32).toInt from z))]
                  rfl
                omega
              rw [w8, if_pos rfl, if_pos rfl] at v84
              obtain ⟨d', d1', d2'⟩ := fgv h5
              have n2 := nI_m1 d' (by omega)
              rw [qNm1_y h5, d2']
              rw [d2'] at v84
              refine ⟨fun e => if e = 5 then nI d' else if e = 4 then v else if e = 3 then nI d else F e, ?_, fun _ => rfl⟩
              simp only [x81_0, x81_1, x81_2, x81_4, x81_7, x81_10, x81_11, x81_14, x81_15, x81_18, x81_19, x81_21, x81_24, x81_27, x81_28, x81_29, x81_30, x81_31, x81_34, x81_37, x81_38, x81_41, x81_42, x81_45, x81_46, x81_48, x81_51, x81_54, x81_55, x81_56, x81_57, x81_58, x81_60, x81_63, x81_66, x81_67, x81_70, x81_71, x81_74, x81_75, x81_78, x81_79, gc_23 (fT _ _), k84, gf_8_3 (fX _ _), gp_8_3 (fX _ _), gf_8_4 (fX _ _), gp_8_4 (fX _ _), gf_8_5 (fX _ _), gp_8_5 (fX _ _), Option.isSome_some, tS_x x1, fV, if_true, n1, a85, xb_t, i32_10, k83, nv, b85, v84, n2, x81_79 (Or.inr rfl), Option.bind_some, Option.toList_some, Option.toList_none, List.cons_append, List.nil_append, Option.isSome_some, if_true, eq_self, or_true, true_or, xb_01, mcl_cl, not_true_eq_false, not_false_eq_true, if_false]
end K48
