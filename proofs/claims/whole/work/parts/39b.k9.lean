/-! THE CLASS's methods, 9: puts and acts -/
section K9
variable {g : xG} {n kc ks a b c s t w q l x y : Nat} {G T : GS} {h : xH} {i j k m p : Int32} {u v : Int64} {o : Option Nat}
theorem gW_new (hw : gW G) (hn : G.1 n = 0) {r l : Nat} (hr : r ≠ 1 ∧ r ≠ 6 ∧ r ≠ 9) : gW (gnew G n r l) := by
  have ne : ∀ q, G.1 q ≠ 0 → q ≠ n := fun q hq e => hq (e ▸ hn)
  have e1 : ∀ q, q ≠ n → (gnew G n r l).1 q = G.1 q := fun q hq => if_neg hq
  have e2 : ∀ q, q ≠ n → (gnew G n r l).2.1 q = G.2.1 q := fun q hq => if_neg hq
  have at_n : ∀ q k, k ≠ 0 → k ≠ r → (gnew G n r l).1 q = k → q ≠ n := by
    intro q k h0 h1 h2 h3
    rw [h3, show (gnew G n r l).1 n = r from if_pos rfl] at h2
    exact h1 h2.symm
  refine ⟨?_, ?_, ?_⟩
  · intro a ha
    have h1 := at_n a 1 (by decide) (Ne.symm hr.1) ha
    rw [e1 a h1] at ha
    obtain ⟨w1, w2, w3, w4, w5, w6⟩ := hw.1 a ha
    have n1 := ne (a + 1) (by omega)
    have n2 := ne (a + 2) (by omega)
    have n3 := ne (a + 3) (by omega)
    rw [e1 _ n1, e1 _ n2, e1 _ n3, e2 _ n1, e2 _ n2, e2 _ n3]
    exact ⟨w1, w2, w3, w4, w5, w6⟩
  · intro a ha
    have h1 := at_n a 6 (by decide) (Ne.symm hr.2.1) ha
    rw [e1 a h1] at ha
    obtain ⟨w1, w2⟩ := hw.2.1 a ha
    have n1 := ne (a + 1) (by omega)
    rw [e1 _ n1, e2 _ n1]
    exact ⟨w1, w2⟩
  · intro a ha
    have h1 := at_n a 9 (by decide) (Ne.symm hr.2.2) ha
    rw [e1 a h1] at ha
    obtain ⟨w1, w2, w3, w4, w5, w6, w7, w8, w9⟩ := hw.2.2 a ha
    have n1 := ne (a + 1) (by omega)
    have n2 := ne (a + 2) (by omega)
    have n3 := ne (a + 3) (by omega)
    have n4 := ne (a + 4) (by omega)
    rw [e1 _ n1, e1 _ n2, e1 _ n3, e1 _ n4, e2 _ n1, e2 _ n2, e2 _ n3, e2 _ n4]
    refine ⟨w1, w2, w3, w4, w5, w6, w7, w8, fun w hw' => ?_⟩
    rw [e1 _ (ne _ (by rw [w9 w hw']; decide))]
    exact w9 w hw'
theorem gW_c (hw : gW G) (h1 : T.1 = G.1) (h2 : T.2.1 = G.2.1) : gW T := by
  unfold gW
  rw [h1, h2]
  exact hw
theorem gn_5' : xnew (gH n kc ks G) (.inr (6, [va_rf none, .int 0, .int 0, .long 0, .int 0, .long 0])) 6 = gH (n + 1) (kc + 1) (ks + 6) (gnew G n 5 0) := by
  refine gn_gen ?_
  unfold gcl
  rw [show (gnew G n 5 0).1 n = 5 from if_pos rfl]
  show some (Sum.inr (6, gfs _ n)) = _
  unfold gfs
  rw [show (gnew G n 5 0).1 n = 5 from if_pos rfl]
  show some (Sum.inr (6, (List.range 6).map _)) = _
  simp [List.range_succ, gval, gnew, fd]
/-- a put written -/
def pSet (G : GS) (x : Nat) (o : Option Nat) (p k : Int32) (u : Int64) (m : Int32) (v : Int64) : GS := gsJ (gsI (gsJ (gsI (gsI (gsR G x 0 o) x 1 p) x 2 k) x 3 u) x 4 m) x 5 v
theorem c61 (hx : G.1 x = 5) : X g 61 0 [.val (va_rf (some x)), .val (va_rf o), .val (.int p), .val (.int k), .val (.long u), .second, .val (.int m), .val (.long v), .second] [] (gH n kc ks G) = some (none, gH n kc ks (pSet G x o p k u m v)) := by
  have a1 : (gsR G x 0 o).1 x = 5 := hx
  have a2 : (gsI (gsR G x 0 o) x 1 p).1 x = 5 := hx
  have a3 : (gsI (gsI (gsR G x 0 o) x 1 p) x 2 k).1 x = 5 := hx
  have a4 : (gsJ (gsI (gsI (gsR G x 0 o) x 1 p) x 2 k) x 3 u).1 x = 5 := hx
  have a5 : (gsI (gsJ (gsI (gsI (gsR G x 0 o) x 1 p) x 2 k) x 3 u) x 4 m).1 x = 5 := hx
  simp only [x61_0, x61_1, x61_4, x61_5, x61_6, x61_9, x61_10, x61_11, x61_14, x61_15, x61_16, x61_19, x61_20, x61_22, x61_25, x61_26, x61_28, x61_31, x61_32, x61_34, x61_37, gf_5_0 hx, gp_5_0 hx, gf_5_1 a1, gp_5_1 a1, gf_5_2 a2, gp_5_2 a2, gf_5_3 a3, gp_5_3 a3, gf_5_4 a4, gp_5_4 a4, gf_5_5 a5, gp_5_5 a5, Option.bind_some, Option.toList_some, Option.toList_none, List.cons_append, List.nil_append, Option.isSome_some, if_true, eq_self, or_true, true_or, xb_01, mcl_cl, not_true_eq_false, not_false_eq_true, if_false]
  rfl
theorem c62 (hw : gW G) (hx : G.1 x = 5) (ho : G.2.2.2.2 x 0 = some a) (ha : G.1 a = 1) (hi : xin (G.2.2.1 x 1) (G.2.1 (a + 2)) = true) : X g 62 0 [.val (va_rf (some x))] [] (gH n kc ks G) = some (none, gH n kc ks (rSet G a (tn (G.2.2.1 x 1)) (G.2.2.1 x 2) (G.2.2.2.1 x 3))) := by
  have hne : ¬ (some a : Option Nat) = none := by simp
  have h1 := c69 (g := g) (n := n) (kc := kc) (ks := ks) (i := G.2.2.1 x 1) (k := G.2.2.1 x 2) (v := G.2.2.2.1 x 3) hw ha
  rw [if_pos hi] at h1
  simp only [x62_0, x62_1, x62_4, x62_7, x62_8, x62_11, x62_12, x62_15, x62_16, x62_19, x62_20, x62_23, x62_26, gf_5_0 hx, gf_5_1 hx, gf_5_2 hx, gf_5_3 hx, ho, hne, gc_1 ha, h1, Option.bind_some, Option.toList_some, Option.toList_none, List.cons_append, List.nil_append, Option.isSome_some, if_true, eq_self, or_true, true_or, xb_01, mcl_cl, not_true_eq_false, not_false_eq_true, if_false]
theorem c63 (hw : gW G) (hx : G.1 x = 5) (ho : G.2.2.2.2 x 0 = some a) (ha : G.1 a = 1) (hi : xin (G.2.2.1 x 1) (G.2.1 (a + 2)) = true) : X g 63 0 [.val (va_rf (some x))] [] (gH n kc ks G) = some (none, gH n kc ks (rSet G a (tn (G.2.2.1 x 1)) (G.2.2.1 x 4) (G.2.2.2.1 x 5))) := by
  have hne : ¬ (some a : Option Nat) = none := by simp
  have h1 := c69 (g := g) (n := n) (kc := kc) (ks := ks) (i := G.2.2.1 x 1) (k := G.2.2.1 x 4) (v := G.2.2.2.1 x 5) hw ha
  rw [if_pos hi] at h1
  simp only [x63_0, x63_1, x63_4, x63_7, x63_8, x63_11, x63_12, x63_15, x63_16, x63_19, x63_20, x63_23, x63_26, gf_5_0 hx, gf_5_1 hx, gf_5_4 hx, gf_5_5 hx, ho, hne, gc_1 ha, h1, Option.bind_some, Option.toList_some, Option.toList_none, List.cons_append, List.nil_append, Option.isSome_some, if_true, eq_self, or_true, true_or, xb_01, mcl_cl, not_true_eq_false, not_false_eq_true, if_false]
/-- only rows' cells differ -/
def rSm (T G : GS) : Prop := T.1 = G.1 ∧ T.2.1 = G.2.1 ∧ T.2.2.2.2 = G.2.2.2.2 ∧ (∀ q, G.1 q ≠ 2 → T.2.2.1 q = G.2.2.1 q) ∧ (∀ q, G.1 q ≠ 3 → T.2.2.2.1 q = G.2.2.2.1 q)
theorem rSm_refl : rSm G G := ⟨rfl, rfl, rfl, fun _ _ => rfl, fun _ _ => rfl⟩
theorem rSm_set (hw : gW G) (hs : rSm T G) (ha : G.1 a = 1) : rSm (rSet T a s k u) G := by
  obtain ⟨h1, h2, h3, h4, h5⟩ := hs
  obtain ⟨w1, w2, w3, _⟩ := hw.1 a ha
  refine ⟨h1, h2, h3, fun q hq => ?_, fun q hq => ?_⟩
  · rw [← h4 q hq]
    funext e
    show (if q = a + 1 ∧ e = s then k else T.2.2.1 q e) = _
    rw [if_neg (fun z : q = a + 1 ∧ e = s => hq (by rw [z.1]; exact w1))]
  · rw [← h5 q hq]
    funext e
    show (if q = a + 2 ∧ e = s then u else T.2.2.2.1 q e) = _
    rw [if_neg (fun z : q = a + 2 ∧ e = s => hq (by rw [z.1]; exact w2))]
/-- an array of puts is sound -/
def puOk (G : GS) (y c : Nat) : Prop := ∀ k, k < c → ∃ x a, G.2.2.2.2 y k = some x ∧ G.1 x = 5 ∧ G.2.2.2.2 x 0 = some a ∧ G.1 a = 1 ∧ xin (G.2.2.1 x 1) (G.2.1 (a + 2)) = true
def puX (G : GS) (y k : Nat) : Nat := (G.2.2.2.2 y k).getD 0
def puA (G : GS) (y k : Nat) : Nat := (G.2.2.2.2 (puX G y k) 0).getD 0
def puP (G : GS) (y k : Nat) : Nat := tn (G.2.2.1 (puX G y k) 1)
theorem puOk_e (h : puOk G y c) {e : Nat} (he : e < c) : G.2.2.2.2 y e = some (puX G y e) ∧ G.1 (puX G y e) = 5 ∧ G.2.2.2.2 (puX G y e) 0 = some (puA G y e) ∧ G.1 (puA G y e) = 1 ∧ xin (G.2.2.1 (puX G y e) 1) (G.2.1 (puA G y e + 2)) = true := by
  obtain ⟨x, a, h1, h2, h3, h4, h5⟩ := h e he
  have ex : puX G y e = x := by unfold puX; rw [h1]; rfl
  have ea : puA G y e = a := by unfold puA; rw [ex, h3]; rfl
  rw [ex, ea]
  exact ⟨h1, h2, h3, h4, h5⟩
theorem puOk_sm (h : puOk G y c) (hs : rSm T G) : puOk T y c := by
  obtain ⟨s1, s2, s3, s4, s5⟩ := hs
  intro e he
  obtain ⟨x, a, h1, h2, h3, h4, h5⟩ := h e he
  refine ⟨x, a, by rw [s3]; exact h1, by rw [s1]; exact h2, by rw [s3]; exact h3, by rw [s1]; exact h4, ?_⟩
  rw [s4 x (by rw [h2]; decide), s2]
  exact h5
/-- cells as they were, the last put first -/
def rDn (G : GS) (y : Nat) : Nat → GS → GS
  | 0, T => T
  | k + 1, T => rDn G y k (rSet T (puA G y k) (puP G y k) (G.2.2.1 (puX G y k) 2) (G.2.2.2.1 (puX G y k) 3))
/-- cells as they are, the first put first -/
def rUp (G : GS) (y : Nat) : Nat → Nat → GS → GS
  | _, 0, T => T
  | s, d + 1, T => rUp G y (s + 1) d (rSet T (puA G y s) (puP G y s) (G.2.2.1 (puX G y s) 4) (G.2.2.2.1 (puX G y s) 5))
theorem one_dn (hw : gW G) (hs : rSm T G) (h : puOk G y c) {e : Nat} (he : e < c) : X g 62 0 [.val (va_rf (some (puX G y e)))] [] (gH n kc ks T) = some (none, gH n kc ks (rSet T (puA G y e) (puP G y e) (G.2.2.1 (puX G y e) 2) (G.2.2.2.1 (puX G y e) 3))) := by
  obtain ⟨h1, h2, h3, h4, h5⟩ := puOk_e h he
  obtain ⟨s1, s2, s3, s4, s5⟩ := hs
  have e1 : T.2.2.1 (puX G y e) = G.2.2.1 (puX G y e) := s4 _ (by rw [h2]; decide)
  have e2 : T.2.2.2.1 (puX G y e) = G.2.2.2.1 (puX G y e) := s5 _ (by rw [h2]; decide)
  have := c62 (g := g) (n := n) (kc := kc) (ks := ks) (G := T) (x := puX G y e) (a := puA G y e) (gW_c hw s1 s2) (by rw [s1]; exact h2) (by rw [s3]; exact h3) (by rw [s1]; exact h4) (by rw [e1, s2]; exact h5)
  rw [e1, e2] at this
  exact this
theorem one_up (hw : gW G) (hs : rSm T G) (h : puOk G y c) {e : Nat} (he : e < c) : X g 63 0 [.val (va_rf (some (puX G y e)))] [] (gH n kc ks T) = some (none, gH n kc ks (rSet T (puA G y e) (puP G y e) (G.2.2.1 (puX G y e) 4) (G.2.2.2.1 (puX G y e) 5))) := by
  obtain ⟨h1, h2, h3, h4, h5⟩ := puOk_e h he
  obtain ⟨s1, s2, s3, s4, s5⟩ := hs
  have e1 : T.2.2.1 (puX G y e) = G.2.2.1 (puX G y e) := s4 _ (by rw [h2]; decide)
  have e2 : T.2.2.2.1 (puX G y e) = G.2.2.2.1 (puX G y e) := s5 _ (by rw [h2]; decide)
  have := c63 (g := g) (n := n) (kc := kc) (ks := ks) (G := T) (x := puX G y e) (a := puA G y e) (gW_c hw s1 s2) (by rw [s1]; exact h2) (by rw [s3]; exact h3) (by rw [s1]; exact h4) (by rw [e1, s2]; exact h5)
  rw [e1, e2] at this
  exact this
theorem c1 (hw : gW G) (ht : G.1 t = 6) : X g 1 0 [.val (va_rf (some t))] [] (gH n kc ks G) = some (some (.int (nI (G.2.1 (t + 1)))), gH n kc ks G) := by
  obtain ⟨w1, w2⟩ := hw.2.1 t ht
  simp only [x1_0, x1_1, x1_4, x1_5, gf_6_0 ht, gN_7 w1, Option.bind_some, Option.toList_some, Option.toList_none, List.cons_append, List.nil_append, Option.isSome_some, if_true, eq_self, or_true, true_or, xb_01, mcl_cl, not_true_eq_false, not_false_eq_true, if_false]
theorem c2 (hw : gW G) (ht : G.1 t = 6) (hp : puOk G (t + 1) (G.2.1 (t + 1))) : X g 2 0 [.val (va_rf (some t)), .val (.int i), .unset] [] (gH n kc ks G) = some (some (.int (if xin i (G.2.1 (t + 1)) = true then G.2.2.1 (puX G (t + 1) (tn i)) 1 else -1)), gH n kc ks G) := by
  obtain ⟨w1, w2⟩ := hw.2.1 t ht
  have hl : G.2.1 (t + 1) < 2 ^ 31 := by omega
  by_cases h1 : i < 0
  · rw [if_neg (by rw [xin_neg h1]; simp)]
    simp only [x2_0, x2_1, x2_4, x2_5, x2_6, x2_9, x2_10, x2_13, x2_14, x2_15, x2_16, x2_19, x2_20, x2_21, x2_22, x2_23, x2_26, x2_27, x2_30, x2_31, x2_34, h1, Option.bind_some, Option.toList_some, Option.toList_none, List.cons_append, List.nil_append, Option.isSome_some, if_true, eq_self, or_true, true_or, xb_01, mcl_cl, not_true_eq_false, not_false_eq_true, if_false]
  · by_cases h2 : nI (G.2.1 (t + 1)) ≤ i
    · rw [if_neg (by rw [xin_ge hl h2]; simp)]
      have h2' : ¬ i < nI (G.2.1 (t + 1)) := Int32.not_lt.mpr h2
      simp only [x2_0, x2_1, x2_4, x2_5, x2_6, x2_9, x2_10, x2_13, x2_14, x2_15, x2_16, x2_19, x2_20, x2_21, x2_22, x2_23, x2_26, x2_27, x2_30, x2_31, x2_34, gf_6_0 ht, gN_7 w1, h1, h2', Option.bind_some, Option.toList_some, Option.toList_none, List.cons_append, List.nil_append, Option.isSome_some, if_true, eq_self, or_true, true_or, xb_01, mcl_cl, not_true_eq_false, not_false_eq_true, if_false]
    · have hx := xin_lt hl h1 h2
      rw [if_pos hx]
      have h2' : i < nI (G.2.1 (t + 1)) := Int32.not_le.mp h2
      obtain ⟨e1, e2, _⟩ := puOk_e hp (xin_tn hx).2
      have hne : ¬ (some (puX G (t + 1) (tn i)) : Option Nat) = none := by simp
      simp only [x2_0, x2_1, x2_4, x2_5, x2_6, x2_9, x2_10, x2_13, x2_14, x2_15, x2_16, x2_19, x2_20, x2_21, x2_22, x2_23, x2_26, x2_27, x2_30, x2_31, x2_34, gf_6_0 ht, gN_7 w1, gl_7 w1, h1, h2', hx, cl_tn, e1, hne, gf_5_1 e2, Option.bind_some, Option.toList_some, Option.toList_none, List.cons_append, List.nil_append, Option.isSome_some, if_true, eq_self, or_true, true_or, xb_01, mcl_cl, not_true_eq_false, not_false_eq_true, if_false]
end K9
