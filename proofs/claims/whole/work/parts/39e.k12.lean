/-! THE CLASS's methods, 12: the journal's acts -/
section K12
variable {g : xG} {n kc ks a b c s t w q l x y jn d : Nat} {G T : GS} {h : xH} {i j k m p : Int32} {u v : Int64} {o : Option Nat}
/-- a journal -/
def jL (G : GS) (jn : Nat) : Prop := G.1 jn = 20 ∧ G.1 (jn + 1) = 21 ∧ G.2.1 (jn + 1) = 64 ∧ G.1 (jn + 2) = 22 ∧ G.2.1 (jn + 2) = 24
def acX (G : GS) (jn k : Nat) : Nat := (G.2.2.2.2 (jn + 2) k).getD 0
/-- the first c acts are sound -/
def jA (G : GS) (jn c : Nat) : Prop := ∀ k, k < c → ∃ t, G.2.2.2.2 (jn + 2) k = some t ∧ G.1 t = 6 ∧ puOk G (t + 1) (G.2.1 (t + 1))
theorem jA_e (h : jA G jn c) {e : Nat} (he : e < c) : G.2.2.2.2 (jn + 2) e = some (acX G jn e) ∧ G.1 (acX G jn e) = 6 ∧ puOk G (acX G jn e + 1) (G.2.1 (acX G jn e + 1)) := by
  obtain ⟨t, h1, h2, h3⟩ := h e he
  have ex : acX G jn e = t := by unfold acX; rw [h1]; rfl
  rw [ex]
  exact ⟨h1, h2, h3⟩
theorem c34 (hj : jL G jn) : X g 34 0 [.val (va_rf (some jn))] [] (gH n kc ks G) = some (none, gH n kc ks (gsI (gsI G jn 3 0) jn 4 0)) := by
  have h1 : (gsI G jn 3 0).1 jn = 20 := hj.1
  simp only [x34_0, x34_1, x34_2, x34_5, x34_6, x34_7, x34_10, gf_20_3 hj.1, gp_20_3 hj.1, gf_20_4 h1, gp_20_4 h1, Option.bind_some, Option.toList_some, Option.toList_none, List.cons_append, List.nil_append, Option.isSome_some, if_true, eq_self, or_true, true_or, xb_01, mcl_cl, not_true_eq_false, not_false_eq_true, if_false]
theorem c36 (hj : jL G jn) (hd : G.2.2.1 jn 3 = nI d) (h24 : d ≤ 24) : X g 36 0 [.val (va_rf (some jn)), .val (.int i)] [] (gH n kc ks G) = some (some (va_rf (if xin i d = true then G.2.2.2.2 (jn + 2) (tn i) else none)), gH n kc ks G) := by
  obtain ⟨j1, j2, j3, j4, j5⟩ := hj
  by_cases h1 : i < 0
  · rw [if_neg (by rw [xin_neg h1]; simp)]
    simp only [x36_0, x36_1, x36_4, x36_5, x36_6, x36_9, x36_12, x36_13, x36_14, x36_17, x36_18, x36_21, x36_22, x36_25, x36_26, x36_27, x36_30, x36_31, h1, Option.bind_some, Option.toList_some, Option.toList_none, List.cons_append, List.nil_append, Option.isSome_some, if_true, eq_self, or_true, true_or, xb_01, mcl_cl, not_true_eq_false, not_false_eq_true, if_false]
  · by_cases h2 : nI d ≤ i
    · rw [if_neg (by rw [xin_ge (by omega) h2]; simp)]
      simp only [x36_0, x36_1, x36_4, x36_5, x36_6, x36_9, x36_12, x36_13, x36_14, x36_17, x36_18, x36_21, x36_22, x36_25, x36_26, x36_27, x36_30, x36_31, gf_20_3 j1, hd, h1, h2, Option.bind_some, Option.toList_some, Option.toList_none, List.cons_append, List.nil_append, Option.isSome_some, if_true, eq_self, or_true, true_or, xb_01, mcl_cl, not_true_eq_false, not_false_eq_true, if_false]
    · have hx := xin_lt (by omega) h1 h2
      rw [if_pos hx]
      obtain ⟨e1, e2⟩ := xin_tn hx
      have h3 : ¬ nI 24 ≤ i := by rw [e1]; exact nI_ge (by omega) (by decide)
      have h4 : xin i 24 = true := by rw [e1]; exact xin_nI (by omega) (by decide)
      simp only [x36_0, x36_1, x36_4, x36_5, x36_6, x36_9, x36_12, x36_13, x36_14, x36_17, x36_18, x36_21, x36_22, x36_25, x36_26, x36_27, x36_30, x36_31, gf_20_3 j1, gf_20_2 j1, gN_22 j4, gl_22 j4, j5, hd, h1, h2, h3, h4, cl_tn, Option.bind_some, Option.toList_some, Option.toList_none, List.cons_append, List.nil_append, Option.isSome_some, if_true, eq_self, or_true, true_or, xb_01, mcl_cl, not_true_eq_false, not_false_eq_true, if_false]
theorem xin_m1 (h0 : ¬ d = 0) (h24 : d ≤ 24) : xin (nI d - 1) d = true ∧ tn (nI d - 1) = d - 1 := by
  have e : nI d - 1 = nI (d - 1) := pk_sub (b := 1) (by omega)
  rw [e]
  exact ⟨xin_nI (by omega) (by omega), tn_nI (by omega)⟩
theorem c37 (hw : gW G) (hj : jL G jn) (hd : G.2.2.1 jn 3 = nI d) (h24 : d ≤ 24) (ha : jA G jn d) : X g 37 0 [.val (va_rf (some jn)), .unset] [] (gH n kc ks G) = some (some (.int (if d = 0 then -3 else nI (G.2.1 (acX G jn (d - 1) + 1)))), gH n kc ks (if d = 0 then G else gsI (rDn G (acX G jn (d - 1) + 1) (G.2.1 (acX G jn (d - 1) + 1)) G) jn 3 (nI (d - 1)))) := by
  have h36 := c36 (g := g) (n := n) (kc := kc) (ks := ks) (i := nI d - 1) hj hd h24
  obtain ⟨j1, j2, j3, j4, j5⟩ := hj
  by_cases h0 : d = 0
  · subst h0
    have hx : xin (nI 0 - 1) 0 = false := by decide
    rw [if_neg (by rw [hx]; simp)] at h36
    simp only [x37_0, x37_1, x37_2, x37_5, x37_6, x37_7, x37_10, x37_11, x37_12, x37_15, x37_17, x37_18, x37_19, x37_22, x37_23, x37_24, x37_27, x37_28, x37_29, x37_32, x37_33, x37_36, gf_20_3 j1, hd, gc_20 j1, h36, Option.bind_some, Option.toList_some, Option.toList_none, List.cons_append, List.nil_append, Option.isSome_some, if_true, eq_self, or_true, true_or, xb_01, mcl_cl, not_true_eq_false, not_false_eq_true, if_false]
  · rw [if_neg h0, if_neg h0]
    obtain ⟨x1, x2⟩ := xin_m1 h0 h24
    rw [if_pos x1, x2] at h36
    obtain ⟨a1, a2, a3⟩ := jA_e ha (show d - 1 < d by omega)
    rw [a1] at h36
    have hne : ¬ (some (acX G jn (d - 1)) : Option Nat) = none := by simp
    have h4 := c4 (g := g) (n := n) (kc := kc) (ks := ks) hw a2 a3
    have sm : ∀ e (T : GS), rSm T G → e ≤ G.2.1 (acX G jn (d - 1) + 1) → rSm (rDn G (acX G jn (d - 1) + 1) e T) G := by
      intro e
      induction e with
      | zero => intro T hs _; exact hs
      | succ e ih =>
        intro T hs he
        rw [rDn]
        exact ih _ (rSm_set hw hs (puOk_e a3 (show e < G.2.1 (acX G jn (d - 1) + 1) by omega)).2.2.2.1) (by omega)
    have hs := sm (G.2.1 (acX G jn (d - 1) + 1)) G rSm_refl (by omega)
    generalize rDn G (acX G jn (d - 1) + 1) (G.2.1 (acX G jn (d - 1) + 1)) G = D at *
    have d1 : D.1 jn = 20 := by rw [hs.1]; exact j1
    have d3 : D.2.2.1 jn 3 = nI d := by rw [hs.2.2.2.1 jn (by rw [j1]; decide)]; exact hd
    have d4 : (gsI D jn 3 (nI (d - 1))).1 (acX G jn (d - 1)) = 6 := by
      show D.1 _ = 6
      rw [hs.1]
      exact a2
    have h5 := c1 (g := g) (n := n) (kc := kc) (ks := ks) (G := gsI D jn 3 (nI (d - 1))) (gW_c hw hs.1 hs.2.1) d4
    have d5 : (gsI D jn 3 (nI (d - 1))).2.1 (acX G jn (d - 1) + 1) = G.2.1 (acX G jn (d - 1) + 1) := by
      show D.2.1 _ = _
      rw [hs.2.1]
    rw [d5] at h5
    have e : nI d - 1 = nI (d - 1) := pk_sub (b := 1) (by omega)
    rw [e] at h36
    simp only [x37_0, x37_1, x37_2, x37_5, x37_6, x37_7, x37_10, x37_11, x37_12, x37_15, x37_17, x37_18, x37_19, x37_22, x37_23, x37_24, x37_27, x37_28, x37_29, x37_32, x37_33, x37_36, gf_20_3 j1, hd, e, gc_20 j1, h36, hne, gc_6 a2, h4, gf_20_3 d1, gp_20_3 d1, d3, gc_6 d4, h5, Option.bind_some, Option.toList_some, Option.toList_none, List.cons_append, List.nil_append, Option.isSome_some, if_true, eq_self, or_true, true_or, xb_01, mcl_cl, not_true_eq_false, not_false_eq_true, if_false]
theorem c38 (hw : gW G) (hj : jL G jn) (hd : G.2.2.1 jn 3 = nI d) (hc : G.2.2.1 jn 4 = nI c) (hdc : d ≤ c) (h24 : c ≤ 24) (ha : jA G jn c) : X g 38 0 [.val (va_rf (some jn)), .unset] [] (gH n kc ks G) = some (some (.int (if d = c then -3 else nI (G.2.1 (acX G jn d + 1)))), gH n kc ks (if d = c then G else gsI (rUp G (acX G jn d + 1) 0 (G.2.1 (acX G jn d + 1)) G) jn 3 (nI (d + 1)))) := by
  obtain ⟨j1, j2, j3, j4, j5⟩ := hj
  have h1 : ¬ nI d < 0 := nI_pos (by omega)
  by_cases h0 : d = c
  · rw [if_pos h0, if_pos h0]
    have h2 : nI c ≤ nI d := nI_le (by omega) (by omega)
    simp only [x38_0, x38_1, x38_4, x38_7, x38_8, x38_11, x38_12, x38_15, x38_18, x38_19, x38_22, x38_23, x38_26, x38_27, x38_30, x38_32, x38_33, x38_34, x38_37, x38_38, x38_41, x38_42, x38_43, x38_44, x38_47, x38_49, x38_50, x38_51, x38_54, x38_55, x38_56, x38_59, x38_60, x38_61, x38_64, x38_65, x38_68, gf_20_3 j1, gf_20_4 j1, hd, hc, h1, h2, Option.bind_some, Option.toList_some, Option.toList_none, List.cons_append, List.nil_append, Option.isSome_some, if_true, eq_self, or_true, true_or, xb_01, mcl_cl, not_true_eq_false, not_false_eq_true, if_false]
  · rw [if_neg h0, if_neg h0]
    have h2 : ¬ nI c ≤ nI d := nI_ge (by omega) (by omega)
    have h3 : nI d < nI 24 := Int32.not_le.mp (nI_ge (a := d) (b := 24) (by omega) (by decide))
    have h4 : d < 24 := by omega
    obtain ⟨a1, a2, a3⟩ := jA_e ha (show d < c by omega)
    have hne : ¬ (some (acX G jn d) : Option Nat) = none := by simp
    have h5 := c5 (g := g) (n := n) (kc := kc) (ks := ks) hw a2 a3
    have sm : ∀ f e (T : GS), rSm T G → e + f = G.2.1 (acX G jn d + 1) → rSm (rUp G (acX G jn d + 1) e f T) G := by
      intro f
      induction f with
      | zero => intro e T hs _; exact hs
      | succ f ih =>
        intro e T hs he
        rw [rUp]
        exact ih _ _ (rSm_set hw hs (puOk_e a3 (show e < G.2.1 (acX G jn d + 1) by omega)).2.2.2.1) (by omega)
    have hs := sm (G.2.1 (acX G jn d + 1)) 0 G rSm_refl (by omega)
    generalize rUp G (acX G jn d + 1) 0 (G.2.1 (acX G jn d + 1)) G = D at *
    have d1 : D.1 jn = 20 := by rw [hs.1]; exact j1
    have d3 : D.2.2.1 jn 3 = nI d := by rw [hs.2.2.2.1 jn (by rw [j1]; decide)]; exact hd
    have d4 : (gsI D jn 3 (nI (d + 1))).1 (acX G jn d) = 6 := by
      show D.1 _ = 6
      rw [hs.1]
      exact a2
    have h6 := c1 (g := g) (n := n) (kc := kc) (ks := ks) (G := gsI D jn 3 (nI (d + 1))) (gW_c hw hs.1 hs.2.1) d4
    have d5 : (gsI D jn 3 (nI (d + 1))).2.1 (acX G jn d + 1) = G.2.1 (acX G jn d + 1) := by
      show D.2.1 _ = _
      rw [hs.2.1]
    rw [d5] at h6
    simp only [x38_0, x38_1, x38_4, x38_7, x38_8, x38_11, x38_12, x38_15, x38_18, x38_19, x38_22, x38_23, x38_26, x38_27, x38_30, x38_32, x38_33, x38_34, x38_37, x38_38, x38_41, x38_42, x38_43, x38_44, x38_47, x38_49, x38_50, x38_51, x38_54, x38_55, x38_56, x38_59, x38_60, x38_61, x38_64, x38_65, x38_68, gf_20_3 j1, gf_20_4 j1, gf_20_2 j1, gN_22 j4, gl_22 j4, j5, hd, hc, h1, h2, h3, xin_nI h4 (by decide), nI_clamp (lt31 h4 (by decide)), a1, hne, gc_6 a2, h5, gf_20_3 d1, gp_20_3 d1, d3, nI_1, gc_6 d4, h6, Option.bind_some, Option.toList_some, Option.toList_none, List.cons_append, List.nil_append, Option.isSome_some, if_true, eq_self, or_true, true_or, xb_01, mcl_cl, not_true_eq_false, not_false_eq_true, if_false]
/-- the acts moved down -/
def jSh (G : GS) (jn m : Nat) : GS := (G.1, G.2.1, G.2.2.1, G.2.2.2.1, fun b q => if b = jn + 2 ∧ q < m then G.2.2.2.2 (jn + 2) (q + 1) else G.2.2.2.2 b q)
theorem jSh_0 : jSh G jn 0 = G := by
  refine Prod.ext rfl (Prod.ext rfl (Prod.ext rfl (Prod.ext rfl ?_)))
  funext b q
  show (if b = jn + 2 ∧ q < 0 then _ else _) = _
  rw [if_neg (by omega)]
theorem jSh_s {m : Nat} : gsR (jSh G jn m) (jn + 2) m (G.2.2.2.2 (jn + 2) (m + 1)) = jSh G jn (m + 1) := by
  refine Prod.ext rfl (Prod.ext rfl (Prod.ext rfl (Prod.ext rfl ?_)))
  funext b q
  show (if b = jn + 2 ∧ q = m then _ else if b = jn + 2 ∧ q < m then _ else _) = (if b = jn + 2 ∧ q < m + 1 then _ else _)
  by_cases e : b = jn + 2
  · by_cases e2 : q = m
    · rw [if_pos ⟨e, e2⟩, if_pos ⟨e, by omega⟩, e2]
    · rw [if_neg (fun z => e2 z.2)]
      by_cases e3 : q < m
      · rw [if_pos ⟨e, e3⟩, if_pos ⟨e, by omega⟩]
      · rw [if_neg (fun z => e3 z.2), if_neg (fun z => by omega)]
  · rw [if_neg (fun z => e z.1), if_neg (fun z => e z.1), if_neg (fun z => e z.1)]
theorem l33 (hj : jL G jn) (hd : G.2.2.1 jn 3 = nI 24) (hr : ∀ e z, e < 24 → G.2.2.2.2 (jn + 2) e = some z → G.1 z = 6) : ∀ d e, e + d = 23 → X g 33 2 [.val (va_rf (some jn)), .val (.int (nI (e + 1)))] [] (gH n kc ks (jSh G jn e)) = some (none, gH n kc ks (gsI (jSh G jn 23) jn 3 23)) := by
  obtain ⟨j1, j2, j3, j4, j5⟩ := hj
  intro d
  induction d with
  | zero =>
    intro e he
    have e1 : e = 23 := by omega
    subst e1
    have h1 : nI 24 ≤ nI (23 + 1) := by decide
    have r1 : (jSh G jn 23).1 jn = 20 := j1
    have r4 : (jSh G jn 23).1 (jn + 2) = 22 := j4
    have r5 : (jSh G jn 23).2.1 (jn + 2) = 24 := j5
    have r6 : (jSh G jn 23).2.2.1 jn 3 = nI 24 := hd
    have z : nI 24 - 1 = 23 := by decide
    simp only [x33_2, x33_3, x33_4, x33_7, x33_8, x33_11, x33_12, x33_15, x33_16, x33_17, x33_18, x33_19, x33_22, x33_23, x33_24, x33_31, x33_32, x33_33, x33_36, x33_37, x33_38, x33_41, gf_20_2 r1, gN_22 r4, r5, h1, gf_20_3 r1, gp_20_3 r1, r6, z, Option.bind_some, Option.toList_some, Option.toList_none, List.cons_append, List.nil_append, Option.isSome_some, if_true, eq_self, or_true, true_or, xb_01, mcl_cl, not_true_eq_false, not_false_eq_true, if_false]
  | succ d ih =>
    intro e he
    have h1 : ¬ nI 24 ≤ nI (e + 1) := nI_ge (by omega) (by decide)
    have h2 : e + 1 < 24 := by omega
    have h3 : e < 24 := by omega
    have h4 : nI (e + 1) - 1 = nI e := pk_sub (a := e + 1) (b := 1) (by omega)
    have r1 : (jSh G jn e).1 jn = 20 := j1
    have r4 : (jSh G jn e).1 (jn + 2) = 22 := j4
    have r5 : (jSh G jn e).2.1 (jn + 2) = 24 := j5
    have r6 : (jSh G jn e).2.2.2.2 (jn + 2) (e + 1) = G.2.2.2.2 (jn + 2) (e + 1) := by
      show (if jn + 2 = jn + 2 ∧ e + 1 < e then _ else _) = _
      rw [if_neg (by omega)]
    have hu : ∀ z, G.2.2.2.2 (jn + 2) (e + 1) = some z → xcl (gH n kc ks (jSh G jn e)) z = some 0 := fun z hz => gc_6 (hr (e + 1) z h2 hz)
    have h5 := ih (e + 1) (by omega)
    rw [← jSh_s] at h5
    simp only [x33_2, x33_3, x33_4, x33_7, x33_8, x33_11, x33_12, x33_15, x33_16, x33_17, x33_18, x33_19, x33_22, x33_23, x33_24, gf_20_2 r1, gN_22 r4, gl_22 r4, r5, r6, h1, h4, xin_nI h2 (by decide), nI_clamp (lt31 h2 (by decide)), gs_22 r4 hu, xin_nI h3 (by decide), nI_clamp (lt31 h3 (by decide)), Option.bind_some, Option.toList_some, Option.toList_none, List.cons_append, List.nil_append, Option.isSome_some, if_true, eq_self, or_true, true_or, xb_01, mcl_cl, not_true_eq_false, not_false_eq_true, if_false]
    simp only [x33_25, x33_28, nI_1]
    exact h5
theorem c33 (hj : jL G jn) (hd : G.2.2.1 jn 3 = nI 24) (hr : ∀ e z, e < 24 → G.2.2.2.2 (jn + 2) e = some z → G.1 z = 6) : X g 33 0 [.val (va_rf (some jn)), .unset] [] (gH n kc ks G) = some (none, gH n kc ks (gsI (jSh G jn 23) jn 3 23)) := by
  have h1 := l33 (g := g) (n := n) (kc := kc) (ks := ks) hj hd hr 23 0 (by omega)
  rw [jSh_0] at h1
  have h1' : X g 33 2 [.val (va_rf (some jn)), .val (.int 1)] [] (gH n kc ks G) = _ := h1
  simp only [x33_0, x33_1, h1', Option.bind_some, Option.toList_some, Option.toList_none, List.cons_append, List.nil_append, Option.isSome_some, if_true, eq_self, or_true, true_or, xb_01, mcl_cl, not_true_eq_false, not_false_eq_true, if_false]
/-- an act kept -/
def jKp (G : GS) (jn d t : Nat) : GS := if d = 24 then gsI (gsI (gsR (gsI (jSh G jn 23) jn 3 23) (jn + 2) 23 (some t)) jn 3 24) jn 4 24 else gsI (gsI (gsR G (jn + 2) d (some t)) jn 3 (nI (d + 1))) jn 4 (nI (d + 1))
theorem c32 (hj : jL G jn) (hd : G.2.2.1 jn 3 = nI d) (h24 : d ≤ 24) (ht : G.1 t = 6) (hr : ∀ e z, e < 24 → G.2.2.2.2 (jn + 2) e = some z → G.1 z = 6) : X g 32 0 [.val (va_rf (some jn)), .val (va_rf (some t))] [] (gH n kc ks G) = some (none, gH n kc ks (jKp G jn d t)) := by
  have hjj := hj
  obtain ⟨j1, j2, j3, j4, j5⟩ := hj
  unfold jKp
  by_cases e : d = 24
  · subst e
    rw [if_pos rfl]
    have h1 : ¬ nI 24 < nI 24 := by decide
    have h2 := c33 (g := g) (n := n) (kc := kc) (ks := ks) hjj hd hr
    have r1 : (gsI (jSh G jn 23) jn 3 23).1 jn = 20 := j1
    have r4 : (gsI (jSh G jn 23) jn 3 23).1 (jn + 2) = 22 := j4
    have r5 : (gsI (jSh G jn 23) jn 3 23).2.1 (jn + 2) = 24 := j5
    have r6 : (gsI (jSh G jn 23) jn 3 23).2.2.1 jn 3 = 23 := if_pos ⟨rfl, rfl⟩
    have rt : (gsI (jSh G jn 23) jn 3 23).1 t = 6 := ht
    have hu : ∀ z, (some t : Option Nat) = some z → xcl (gH n kc ks (gsI (jSh G jn 23) jn 3 23)) z = some 0 := fun z hz => by
      cases hz
      exact gc_6 rt
    generalize gsI (jSh G jn 23) jn 3 23 = H at *
    have q1 : (gsR H (jn + 2) 23 (some t)).1 jn = 20 := r1
    have q6 : (gsR H (jn + 2) 23 (some t)).2.2.1 jn 3 = 23 := r6
    have q7 : (gsI (gsR H (jn + 2) 23 (some t)) jn 3 24).1 jn = 20 := r1
    have q8 : (gsI (gsR H (jn + 2) 23 (some t)) jn 3 24).2.2.1 jn 3 = 24 := if_pos ⟨rfl, rfl⟩
    have z1 : ¬ (23 : Int32) < 0 := by decide
    have z2 : ¬ nI 24 ≤ (23 : Int32) := by decide
    have z3 : xin 23 24 = true := by decide
    have z4 : Int32.toNatClampNeg 23 = 23 := by decide
    have z5 : (23 : Int32) + 1 = 24 := by decide
    simp only [x32_0, x32_1, x32_4, x32_5, x32_8, x32_9, x32_12, x32_13, x32_16, x32_17, x32_20, x32_23, x32_24, x32_27, x32_28, x32_31, x32_32, x32_35, x32_36, x32_39, x32_40, x32_43, x32_44, x32_45, x32_46, x32_47, x32_50, x32_51, x32_52, x32_55, x32_56, x32_57, x32_60, x32_63, gf_20_3 j1, gf_20_2 j1, gN_22 j4, j5, hd, h1, gc_20 j1, h2, gf_20_3 r1, gf_20_2 r1, gN_22 r4, r5, r6, z1, z2, gs_22 r4 hu, z3, z4, gf_20_3 q1, q6, z5, gp_20_3 q1, gf_20_3 q7, q8, gf_20_4 q7, gp_20_4 q7, Option.bind_some, Option.toList_some, Option.toList_none, List.cons_append, List.nil_append, Option.isSome_some, if_true, eq_self, or_true, true_or, xb_01, mcl_cl, not_true_eq_false, not_false_eq_true, if_false]
  · rw [if_neg e]
    have hlt : d < 24 := by omega
    have h1 : nI d < nI 24 := Int32.not_le.mp (nI_ge (a := d) (b := 24) hlt (by decide))
    have h2 : ¬ nI d < 0 := nI_pos (by omega)
    have h3 : ¬ nI 24 ≤ nI d := nI_ge hlt (by decide)
    have hu : ∀ z, (some t : Option Nat) = some z → xcl (gH n kc ks G) z = some 0 := fun z hz => by
      cases hz
      exact gc_6 ht
    have q1 : (gsR G (jn + 2) d (some t)).1 jn = 20 := j1
    have q6 : (gsR G (jn + 2) d (some t)).2.2.1 jn 3 = nI d := hd
    have q7 : (gsI (gsR G (jn + 2) d (some t)) jn 3 (nI (d + 1))).1 jn = 20 := j1
    have q8 : (gsI (gsR G (jn + 2) d (some t)) jn 3 (nI (d + 1))).2.2.1 jn 3 = nI (d + 1) := if_pos ⟨rfl, rfl⟩
    simp only [x32_0, x32_1, x32_4, x32_5, x32_8, x32_9, x32_12, x32_13, x32_16, x32_17, x32_20, x32_23, x32_24, x32_27, x32_28, x32_31, x32_32, x32_35, x32_36, x32_39, x32_40, x32_43, x32_44, x32_45, x32_46, x32_47, x32_50, x32_51, x32_52, x32_55, x32_56, x32_57, x32_60, x32_63, gf_20_3 j1, gf_20_2 j1, gN_22 j4, j5, hd, h1, h2, h3, gs_22 j4 hu, xin_nI hlt (by decide), nI_clamp (lt31 hlt (by decide)), gf_20_3 q1, q6, nI_1, gp_20_3 q1, gf_20_3 q7, q8, gf_20_4 q7, gp_20_4 q7, Option.bind_some, Option.toList_some, Option.toList_none, List.cons_append, List.nil_append, Option.isSome_some, if_true, eq_self, or_true, true_or, xb_01, mcl_cl, not_true_eq_false, not_false_eq_true, if_false]
/-- which acts have a cell of a row -/
def jHs (G : GS) (jn a k : Nat) : Bool := mAny (fun e => decide (some (puA G (acX G jn k + 1) e) = some a)) 0 (G.2.1 (acX G jn k + 1))
theorem l35 (hw : gW G) (hj : jL G jn) (hd : G.2.2.1 jn 3 = nI d) (hd24 : d ≤ 24) (hc : G.2.2.1 jn 4 = nI c) (h24 : c ≤ 24) (ha : jA G jn c) : ∀ f y l e (o : Nat → Nat) (T : GS) (s5 : Slot), y + f = c → l ≤ y → (y ≤ d → e = l) → T.1 = G.1 → T.2.1 = G.2.1 → T.2.2.1 = G.2.2.1 → T.2.2.2.1 = G.2.2.2.1 → (∀ b q, b ≠ jn + 2 → T.2.2.2.2 b q = G.2.2.2.2 b q) → (∀ q, y ≤ q → q < 24 → T.2.2.2.2 (jn + 2) q = G.2.2.2.2 (jn + 2) q) → (∀ q, q < l → T.2.2.2.2 (jn + 2) q = G.2.2.2.2 (jn + 2) (o q)) → (∀ q z, q < 24 → T.2.2.2.2 (jn + 2) q = some z → G.1 z = 6) → ∃ T', X g 35 7 [.val (va_rf (some jn)), .val (va_rf (some a)), .val (.int (nI l)), .val (.int (nI e)), .val (.int (nI y)), s5] [] (gH n kc ks T) = some (none, gH n kc ks (gsI (gsI T' jn 3 (nI (fSel (jHs G jn a) d y f l e o).2.1)) jn 4 (nI (fSel (jHs G jn a) d y f l e o).1))) ∧ T'.1 = G.1 ∧ T'.2.1 = G.2.1 ∧ T'.2.2.1 = G.2.2.1 ∧ T'.2.2.2.1 = G.2.2.2.1 ∧ (∀ b q, b ≠ jn + 2 → T'.2.2.2.2 b q = G.2.2.2.2 b q) ∧ (∀ q, q < (fSel (jHs G jn a) d y f l e o).1 → T'.2.2.2.2 (jn + 2) q = G.2.2.2.2 (jn + 2) ((fSel (jHs G jn a) d y f l e o).2.2 q))  ∧ (∀ q z, q < 24 → T'.2.2.2.2 (jn + 2) q = some z → G.1 z = 6) := by
  obtain ⟨j1, j2, j3, j4, j5⟩ := hj
  intro f
  induction f with
  | zero =>
    intro y l e o T s5 hy hl he t1 t2 t3 t4 t5 t6 t7 t8
    have r1 : T.1 jn = 20 := by rw [t1]; exact j1
    have r2 : (gsI T jn 3 (nI e)).1 jn = 20 := r1
    have r3 : T.2.2.1 jn 4 = nI c := by rw [t3]; exact hc
    have h1 : nI c ≤ nI y := nI_le (by omega) (by omega)
    refine ⟨T, ?_, t1, t2, t3, t4, t5, t7, t8⟩
    simp only [x35_7, x35_9, x35_10, x35_13, x35_81, x35_82, x35_83, x35_86, x35_87, x35_88, x35_91, gf_20_4 r1, r3, h1, gf_20_3 r1, gp_20_3 r1, gf_20_4 r2, gp_20_4 r2, fSel, Option.bind_some, Option.toList_some, Option.toList_none, List.cons_append, List.nil_append, Option.isSome_some, if_true, eq_self, or_true, true_or, xb_01, mcl_cl, not_true_eq_false, not_false_eq_true, if_false]
  | succ f ih =>
    intro y l e o T s5 hy hl he t1 t2 t3 t4 t5 t6 t7 t8
    have r1 : T.1 jn = 20 := by rw [t1]; exact j1
    have r3 : T.2.2.1 jn 4 = nI c := by rw [t3]; exact hc
    have r3d : T.2.2.1 jn 3 = nI d := by rw [t3]; exact hd
    have r4 : T.1 (jn + 2) = 22 := by rw [t1]; exact j4
    have r5 : T.2.1 (jn + 2) = 24 := by rw [t2]; exact j5
    have h1 : ¬ nI c ≤ nI y := nI_ge (by omega) (by omega)
    have h2 : ¬ nI 24 ≤ nI y := nI_ge (by omega) (by decide)
    have y24 : y < 24 := by omega
    have l24 : l < 24 := by omega
    obtain ⟨a1, a2, a3⟩ := jA_e ha (show y < c by omega)
    have r6 : T.2.2.2.2 (jn + 2) y = some (acX G jn y) := by rw [t6 y (by omega) y24]; exact a1
    have r7 : T.1 (acX G jn y) = 6 := by rw [t1]; exact a2
    have hne : ¬ (some (acX G jn y) : Option Nat) = none := by simp
    have nx : ∀ q, G.1 q ≠ 22 → q ≠ jn + 2 := fun q hq e => hq (e ▸ j4)
    have eX : ∀ z, z < G.2.1 (acX G jn y + 1) → puX T (acX G jn y + 1) z = puX G (acX G jn y + 1) z := by
      intro z hz
      unfold puX
      rw [t5 _ _ (nx _ (by rw [(hw.2.1 _ a2).1]; decide))]
    have hpT : puOk T (acX G jn y + 1) (T.2.1 (acX G jn y + 1)) := by
      rw [t2]
      intro z hz
      obtain ⟨x, aa, p1, p2, p3, p4, p5⟩ := a3 z hz
      refine ⟨x, aa, ?_, by rw [t1]; exact p2, ?_, by rw [t1]; exact p4, by rw [t3, t2]; exact p5⟩
      · rw [t5 _ _ (nx _ (by rw [(hw.2.1 _ a2).1]; decide))]
        exact p1
      · rw [t5 _ _ (nx _ (by rw [p2]; decide))]
        exact p3
    have eA : ∀ z, z < G.2.1 (acX G jn y + 1) → puA T (acX G jn y + 1) z = puA G (acX G jn y + 1) z := by
      intro z hz
      unfold puA
      rw [eX z hz, t5 _ _ (nx _ (by rw [(puOk_e a3 hz).2.1]; decide))]
    have h3 := c3 (g := g) (n := n) (kc := kc) (ks := ks) (o := some a) (gW_c hw t1 t2) r7 hpT
    have hcong : ∀ f s, s + f ≤ G.2.1 (acX G jn y + 1) → mAny (fun e => decide (some (puA T (acX G jn y + 1) e) = some a)) s f = mAny (fun e => decide (some (puA G (acX G jn y + 1) e) = some a)) s f := by
      intro f
      induction f with
      | zero => intro s _; rfl
      | succ f ih2 =>
        intro s hs
        rw [mAny, mAny, ih2 (s + 1) (by omega), eA s (by omega)]
    rw [t2, hcong _ 0 (by omega)] at h3
    have h3' : X g 3 0 [.val (va_rf (some (acX G jn y))), .val (va_rf (some a)), .unset, .unset] [] (gH n kc ks T) = some (some (.int (xb (jHs G jn a y))), gH n kc ks T) := h3
    rw [fSel]
    cases hh : jHs G jn a y with
    | true =>
      rw [if_pos rfl]
      rw [hh] at h3'
      obtain ⟨T', g1, g2⟩ := ih (y + 1) l e o T (.val (va_rf (some (acX G jn y)))) (by omega) (by omega) (fun z => he (by omega)) t1 t2 t3 t4 t5 (fun q a b => t6 q (by omega) b) t7 t8
      refine ⟨T', ?_, g2⟩
      simp only [x35_7, x35_9, x35_10, x35_13, x35_16, x35_18, x35_19, x35_22, x35_23, x35_26, x35_27, x35_30, x35_32, x35_33, x35_35, x35_37, x35_40, x35_42, x35_43, x35_46, x35_49, x35_50, x35_53, x35_54, x35_56, x35_57, x35_60, x35_62, x35_63, x35_66, x35_69, x35_70, x35_73, x35_74, gf_20_4 r1, gf_20_2 r1, gN_22 r4, gl_22 r4, r3, r5, r6, h1, h2, xin_nI y24 (by decide), nI_clamp (lt31 y24 (by decide)), hne, gc_6 r7, h3', xb_t, i32_10, Option.bind_some, Option.toList_some, Option.toList_none, List.cons_append, List.nil_append, Option.isSome_some, if_true, eq_self, or_true, true_or, xb_01, mcl_cl, not_true_eq_false, not_false_eq_true, if_false]
      simp only [x35_75, x35_78, nI_1]
      exact g1
    | false =>
      rw [if_neg (by simp)]
      rw [hh] at h3'
      have hu : ∀ z, (some (acX G jn y) : Option Nat) = some z → xcl (gH n kc ks T) z = some 0 := fun z hz => by
        cases hz
        exact gc_6 r7
      have q1 : (gsR T (jn + 2) l (some (acX G jn y))).1 jn = 20 := r1
      have q3 : (gsR T (jn + 2) l (some (acX G jn y))).2.2.1 jn 3 = nI d := r3d
      have n5 : ∀ b q, b ≠ jn + 2 → (gsR T (jn + 2) l (some (acX G jn y))).2.2.2.2 b q = G.2.2.2.2 b q := by
        intro b q hb
        rw [gsR5, if_neg (fun z => hb z.1)]
        exact t5 b q hb
      have n6 : ∀ q, y + 1 ≤ q → q < 24 → (gsR T (jn + 2) l (some (acX G jn y))).2.2.2.2 (jn + 2) q = G.2.2.2.2 (jn + 2) q := by
        intro q h5 h6
        rw [gsR5, if_neg (fun z => by omega)]
        exact t6 q (by omega) h6
      have n7 : ∀ q, q < l + 1 → (gsR T (jn + 2) l (some (acX G jn y))).2.2.2.2 (jn + 2) q = G.2.2.2.2 (jn + 2) ((fun x => if x = l then y else o x) q) := by
        intro q hq
        rw [gsR5]
        by_cases z : q = l
        · rw [if_pos ⟨rfl, z⟩]
          simp only [if_pos z]
          exact a1.symm
        · rw [if_neg (fun w => z w.2)]
          simp only [if_neg z]
          exact t7 q (by omega)
      have n8 : ∀ q z, q < 24 → (gsR T (jn + 2) l (some (acX G jn y))).2.2.2.2 (jn + 2) q = some z → G.1 z = 6 := by
        intro q z hq hz
        rw [gsR5] at hz
        split at hz
        · injection hz with hz
          rw [← hz]
          exact a2
        · exact t8 q z hq hz
      by_cases hz : y < d
      · rw [if_pos hz]
        have hel : e = l := he (by omega)
        have z1 : ¬ nI d ≤ nI y := nI_ge hz (by omega)
        obtain ⟨T', g1, g2⟩ := ih (y + 1) (l + 1) (e + 1) (fun x => if x = l then y else o x) (gsR T (jn + 2) l (some (acX G jn y))) (.val (va_rf (some (acX G jn y)))) (by omega) (by omega) (fun _ => by omega) t1 t2 t3 t4 n5 n6 n7 n8
        refine ⟨T', ?_, g2⟩
        rw [hel] at g1 ⊢
        simp only [x35_7, x35_9, x35_10, x35_13, x35_16, x35_18, x35_19, x35_22, x35_23, x35_26, x35_27, x35_30, x35_32, x35_33, x35_35, x35_37, x35_40, x35_42, x35_43, x35_46, x35_49, x35_50, x35_53, x35_54, x35_56, x35_57, x35_60, x35_62, x35_63, x35_66, x35_69, x35_70, x35_73, x35_74, gf_20_4 r1, gf_20_2 r1, gN_22 r4, gl_22 r4, r3, r5, r6, h1, h2, xin_nI y24 (by decide), nI_clamp (lt31 y24 (by decide)), hne, gc_6 r7, h3', xb_f, gs_22 r4 hu, xin_nI l24 (by decide), nI_clamp (lt31 l24 (by decide)), gf_20_3 q1, q3, z1, nI_1, Option.bind_some, Option.toList_some, Option.toList_none, List.cons_append, List.nil_append, Option.isSome_some, if_true, eq_self, or_true, true_or, xb_01, mcl_cl, not_true_eq_false, not_false_eq_true, if_false]
        simp only [x35_75, x35_78, nI_1]
        exact g1
      · rw [if_neg hz]
        have z1 : nI d ≤ nI y := nI_le (by omega) (by omega)
        obtain ⟨T', g1, g2⟩ := ih (y + 1) (l + 1) e (fun x => if x = l then y else o x) (gsR T (jn + 2) l (some (acX G jn y))) (.val (va_rf (some (acX G jn y)))) (by omega) (by omega) (fun z => absurd z (by omega)) t1 t2 t3 t4 n5 n6 n7 n8
        refine ⟨T', ?_, g2⟩
        simp only [x35_7, x35_9, x35_10, x35_13, x35_16, x35_18, x35_19, x35_22, x35_23, x35_26, x35_27, x35_30, x35_32, x35_33, x35_35, x35_37, x35_40, x35_42, x35_43, x35_46, x35_49, x35_50, x35_53, x35_54, x35_56, x35_57, x35_60, x35_62, x35_63, x35_66, x35_69, x35_70, x35_73, x35_74, gf_20_4 r1, gf_20_2 r1, gN_22 r4, gl_22 r4, r3, r5, r6, h1, h2, xin_nI y24 (by decide), nI_clamp (lt31 y24 (by decide)), hne, gc_6 r7, h3', xb_f, gs_22 r4 hu, xin_nI l24 (by decide), nI_clamp (lt31 l24 (by decide)), gf_20_3 q1, q3, z1, nI_1, Option.bind_some, Option.toList_some, Option.toList_none, List.cons_append, List.nil_append, Option.isSome_some, if_true, eq_self, or_true, true_or, xb_01, mcl_cl, not_true_eq_false, not_false_eq_true, if_false]
        simp only [x35_75, x35_78, nI_1]
        exact g1
end K12
