/-! THE CLASS's methods, 13: the journal settled and forgetting -/
section K13
variable {g : xG} {n kc ks a b c s t w q l x y jn d : Nat} {G T : GS} {h : xH} {i j k m p : Int32} {u v : Int64} {o : Option Nat}
def jSel (G : GS) (jn a d c : Nat) : Nat × Nat × (Nat → Nat) := fSel (jHs G jn a) d 0 c 0 0 (fun x => x)
theorem c35 (hw : gW G) (hj : jL G jn) (hd : G.2.2.1 jn 3 = nI d) (hd24 : d ≤ 24) (hc : G.2.2.1 jn 4 = nI c) (h24 : c ≤ 24) (ha : jA G jn c) (hr : ∀ q z, q < 24 → G.2.2.2.2 (jn + 2) q = some z → G.1 z = 6) : ∃ T', X g 35 0 [.val (va_rf (some jn)), .val (va_rf (some a)), .unset, .unset, .unset, .unset] [] (gH n kc ks G) = some (none, gH n kc ks (gsI (gsI T' jn 3 (nI (jSel G jn a d c).2.1)) jn 4 (nI (jSel G jn a d c).1))) ∧ T'.1 = G.1 ∧ T'.2.1 = G.2.1 ∧ T'.2.2.1 = G.2.2.1 ∧ T'.2.2.2.1 = G.2.2.2.1 ∧ (∀ b q, b ≠ jn + 2 → T'.2.2.2.2 b q = G.2.2.2.2 b q) ∧ (∀ q, q < (jSel G jn a d c).1 → T'.2.2.2.2 (jn + 2) q = G.2.2.2.2 (jn + 2) ((jSel G jn a d c).2.2 q))  ∧ (∀ q z, q < 24 → T'.2.2.2.2 (jn + 2) q = some z → G.1 z = 6) := by
  obtain ⟨T', h1, h2⟩ := l35 (g := g) (n := n) (kc := kc) (ks := ks) (a := a) hw hj hd hd24 hc h24 ha c 0 0 0 (fun x => x) G .unset (by omega) (by omega) (fun _ => rfl) rfl rfl rfl rfl (fun _ _ _ => rfl) (fun _ _ _ => rfl) (fun q hq => absurd hq (by omega)) hr
  refine ⟨T', ?_, h2⟩
  have h1' : X g 35 7 [.val (va_rf (some jn)), .val (va_rf (some a)), .val (.int 0), .val (.int 0), .val (.int 0), .unset] [] (gH n kc ks G) = _ := h1
  simp only [x35_0, x35_1, x35_2, x35_3, x35_4, x35_5, h1', Option.bind_some, Option.toList_some, Option.toList_none, List.cons_append, List.nil_append, Option.isSome_some, if_true, eq_self, or_true, true_or, xb_01, mcl_cl, not_true_eq_false, not_false_eq_true, if_false]
  rfl
theorem aMk_1 : (aMk G n y c).1 q = if q = n then 6 else if q = n + 1 then 7 else G.1 q := by
  show (if q = n then 6 else if q = n + 1 then 7 else if q = n then 30 else G.1 q) = _
  by_cases e : q = n
  · rw [if_pos e, if_pos e]
  · rw [if_neg e, if_neg e, if_neg e]
theorem aMk_2 : (aMk G n y c).2.1 q = if q = n + 1 then c else if q = n then 0 else G.2.1 q := rfl
theorem aMk_3 (h1 : q ≠ n) (h2 : q ≠ n + 1) (k : Nat) : (aMk G n y c).2.2.1 q k = G.2.2.1 q k := by
  show (if q = n + 1 then 0 else if q = n then 0 else G.2.2.1 q k) = _
  rw [if_neg h2, if_neg h1]
theorem aMk_4 (h1 : q ≠ n) (h2 : q ≠ n + 1) (k : Nat) : (aMk G n y c).2.2.2.1 q k = G.2.2.2.1 q k := by
  show (if q = n + 1 then 0 else if q = n then 0 else G.2.2.2.1 q k) = _
  rw [if_neg h2, if_neg h1]
theorem aMk_5 (h1 : q ≠ n) (h2 : q ≠ n + 1) (k : Nat) : (aMk G n y c).2.2.2.2 q k = G.2.2.2.2 q k := by
  show (if q = n + 1 ∧ k < c then _ else if q = n ∧ k = 0 then _ else if q = n + 1 then none else if q = n then none else G.2.2.2.2 q k) = _
  rw [if_neg (fun z => h2 z.1), if_neg (fun z => h1 z.1), if_neg h2, if_neg h1]
theorem aMk_p {k : Nat} (hk : k < c) : (aMk G n y c).2.2.2.2 (n + 1) k = G.2.2.2.2 y k := by
  show (if n + 1 = n + 1 ∧ k < c then _ else _) = _
  rw [if_pos ⟨rfl, hk⟩]
theorem gW_act (hw : gW G) (hn : G.1 n = 0) (hn1 : G.1 (n + 1) = 0) (hc : c ≤ 64) : gW (aMk G n y c) := by
  have ne : ∀ q, G.1 q ≠ 0 → q ≠ n ∧ q ≠ n + 1 := fun q hq => ⟨fun e => hq (e ▸ hn), fun e => hq (e ▸ hn1)⟩
  have e1 : ∀ q, q ≠ n → q ≠ n + 1 → (aMk G n y c).1 q = G.1 q := fun q h1 h2 => by rw [aMk_1, if_neg h1, if_neg h2]
  have e2 : ∀ q, q ≠ n → q ≠ n + 1 → (aMk G n y c).2.1 q = G.2.1 q := fun q h1 h2 => by rw [aMk_2, if_neg h2, if_neg h1]
  have at_n : ∀ q k, k ≠ 6 → k ≠ 7 → (aMk G n y c).1 q = k → q ≠ n ∧ q ≠ n + 1 := by
    intro q k h6 h7 h2
    refine ⟨fun h3 => ?_, fun h3 => ?_⟩
    · rw [h3, aMk_1, if_pos rfl] at h2
      exact h6 h2.symm
    · rw [h3, aMk_1, if_neg (by omega), if_pos rfl] at h2
      exact h7 h2.symm
  refine ⟨?_, ?_, ?_⟩
  · intro a ha
    have h1 := at_n a 1 (by decide) (by decide) ha
    rw [e1 a h1.1 h1.2] at ha
    obtain ⟨w1, w2, w3, w4, w5, w6⟩ := hw.1 a ha
    have n1 := ne (a + 1) (by omega)
    have n2 := ne (a + 2) (by omega)
    have n3 := ne (a + 3) (by omega)
    rw [e1 _ n1.1 n1.2, e1 _ n2.1 n2.2, e1 _ n3.1 n3.2, e2 _ n1.1 n1.2, e2 _ n2.1 n2.2, e2 _ n3.1 n3.2]
    exact ⟨w1, w2, w3, w4, w5, w6⟩
  · intro a ha
    by_cases z : a = n
    · subst z
      rw [aMk_1, if_neg (by omega), if_pos rfl, aMk_2, if_pos rfl]
      exact ⟨rfl, hc⟩
    · have z2 : a ≠ n + 1 := by
        intro z2
        rw [z2, aMk_1, if_neg (by omega), if_pos rfl] at ha
        exact absurd ha (by decide)
      rw [e1 a z z2] at ha
      obtain ⟨w1, w2⟩ := hw.2.1 a ha
      have n1 := ne (a + 1) (by omega)
      rw [e1 _ n1.1 n1.2, e2 _ n1.1 n1.2]
      exact ⟨w1, w2⟩
  · intro a ha
    have h1 := at_n a 9 (by decide) (by decide) ha
    rw [e1 a h1.1 h1.2] at ha
    obtain ⟨w1, w2, w3, w4, w5, w6, w7, w8, w9⟩ := hw.2.2 a ha
    have n1 := ne (a + 1) (by omega)
    have n2 := ne (a + 2) (by omega)
    have n3 := ne (a + 3) (by omega)
    have n4 := ne (a + 4) (by omega)
    rw [e1 _ n1.1 n1.2, e1 _ n2.1 n2.2, e1 _ n3.1 n3.2, e1 _ n4.1 n4.2, e2 _ n1.1 n1.2, e2 _ n2.1 n2.2, e2 _ n3.1 n3.2, e2 _ n4.1 n4.2]
    refine ⟨w1, w2, w3, w4, w5, w6, w7, w8, fun w hw' => ?_⟩
    have n5 := ne _ (by rw [w9 w hw']; decide)
    rw [e1 _ n5.1 n5.2]
    exact w9 w hw'
/-- the pending puts settled -/
def jSt (G : GS) (n jn p : Nat) : GS := rTc (gsI (aMk G n (jn + 1) p) jn 1 0) (n + 1) 0 p (gsI (aMk G n (jn + 1) p) jn 1 0)
theorem rTc_m (hw : gW G) (hp : puOk G y c) : ∀ f e (T : GS), rTm T G → e + f ≤ c → rTm (rTc G y e f T) G := by
  intro f
  induction f with
  | zero => intro e T hs _; exact hs
  | succ f ih =>
    intro e T hs he
    rw [rTc]
    exact ih _ _ (rTm_set hw hs (puOk_e hp (show e < c by omega)).2.2.2.1) (by omega)
theorem c31 {p : Nat} (hw : gW G) (hn : G.1 n = 0) (hn1 : G.1 (n + 1) = 0) (hj : jL G jn) (hp : puOk G (jn + 1) p) (hp64 : p ≤ 64) (he : G.2.2.1 jn 1 = nI p) (hd : G.2.2.1 jn 3 = nI d) (h24 : d ≤ 24) (hr : ∀ e z, e < 24 → G.2.2.2.2 (jn + 2) e = some z → G.1 z = 6) : X g 31 0 [.val (va_rf (some jn)), .unset] [] (gH n kc ks G) = some (none, if p = 0 then gH n kc ks G else gH (n + 2) (kc + 2) (ks + 1 + p) (jKp (jSt G n jn p) jn d n)) := by
  have hjj := hj
  obtain ⟨j1, j2, j3, j4, j5⟩ := hj
  by_cases p0 : p = 0
  · rw [if_pos p0]
    have e0 : G.2.2.1 jn 1 = 0 := by rw [he, p0]; rfl
    simp only [x31_0, x31_1, x31_4, x31_7, x31_8, x31_11, x31_12, x31_13, x31_16, x31_17, x31_20, x31_23, x31_24, x31_25, x31_26, x31_29, x31_30, x31_33, x31_34, x31_35, x31_38, gf_20_1 j1, e0, Option.bind_some, Option.toList_some, Option.toList_none, List.cons_append, List.nil_append, Option.isSome_some, if_true, eq_self, or_true, true_or, xb_01, mcl_cl, not_true_eq_false, not_false_eq_true, if_false]
  · rw [if_neg p0]
    have e0 : ¬ nI p = 0 := nI_ne0 (by omega) (by omega)
    have ne : ∀ q, G.1 q ≠ 0 → q ≠ n ∧ q ≠ n + 1 := fun q hq => ⟨fun e => hq (e ▸ hn), fun e => hq (e ▸ hn1)⟩
    have nj := ne jn (by omega)
    have nj1 := ne (jn + 1) (by omega)
    have nj2 := ne (jn + 2) (by omega)
    have r1 : (gnew G n 30 0).1 jn = 20 := by rw [gnew1, if_neg nj.1]; exact j1
    have rI : (gnew G n 30 0).2.2.1 jn 1 = nI p := by rw [gnew3, if_neg nj.1]; exact he
    have k0 := c0 (g := g) (kc := kc + 1) (ks := ks + 1) hn hn1 j2 j3 hp hp64
    have k0' : X g 0 0 [.val (va_rf (some n)), .val (va_rf (some (jn + 1))), .val (.int (nI p)), .unset, .unset] [] (gH (n + 1) (kc + 1) (ks + 1) (gnew G n 30 0)) = some (none, gH (n + 2) (kc + 2) (ks + 1 + p) (aMk G n (jn + 1) p)) := k0
    have hwA := gW_act (y := jn + 1) hw hn hn1 hp64
    have a1 : (aMk G n (jn + 1) p).1 jn = 20 := by rw [aMk_1, if_neg nj.1, if_neg nj.2]; exact j1
    have hw2 : gW (gsI (aMk G n (jn + 1) p) jn 1 0) := gW_c hwA rfl rfl
    have b1 : (gsI (aMk G n (jn + 1) p) jn 1 0).1 n = 6 := by
      show (aMk G n (jn + 1) p).1 n = 6
      rw [aMk_1, if_pos rfl]
    have b2 : (gsI (aMk G n (jn + 1) p) jn 1 0).2.1 (n + 1) = p := by
      show (aMk G n (jn + 1) p).2.1 (n + 1) = p
      rw [aMk_2, if_pos rfl]
    have hp2 : puOk (gsI (aMk G n (jn + 1) p) jn 1 0) (n + 1) p := by
      intro e he'
      obtain ⟨x, aa, p1, p2, p3, p4, p5⟩ := hp e he'
      have nx := ne x (by omega)
      have na := ne aa (by omega)
      obtain ⟨_, w2, _⟩ := hw.1 aa p4
      have na2 := ne (aa + 2) (by omega)
      refine ⟨x, aa, ?_, ?_, ?_, ?_, ?_⟩
      · show (aMk G n (jn + 1) p).2.2.2.2 (n + 1) e = _
        rw [aMk_p he']
        exact p1
      · show (aMk G n (jn + 1) p).1 x = 5
        rw [aMk_1, if_neg nx.1, if_neg nx.2]
        exact p2
      · show (aMk G n (jn + 1) p).2.2.2.2 x 0 = _
        rw [aMk_5 nx.1 nx.2]
        exact p3
      · show (aMk G n (jn + 1) p).1 aa = 1
        rw [aMk_1, if_neg na.1, if_neg na.2]
        exact p4
      · have e1 : (gsI (aMk G n (jn + 1) p) jn 1 0).2.2.1 x 1 = G.2.2.1 x 1 := by
          rw [gsI3, if_neg (fun z => by have := z.1; rw [this, j1] at p2; exact absurd p2 (by decide)), aMk_3 nx.1 nx.2]
        have e2 : (gsI (aMk G n (jn + 1) p) jn 1 0).2.1 (aa + 2) = G.2.1 (aa + 2) := by
          show (aMk G n (jn + 1) p).2.1 (aa + 2) = _
          rw [aMk_2, if_neg na2.2, if_neg na2.1]
        rw [e1, e2]
        exact p5
    have k6 := c6 (g := g) (n := n + 2) (kc := kc + 2) (ks := ks + 1 + p) hw2 b1 (by rw [b2]; exact hp2)
    rw [b2] at k6
    have hm := rTc_m hw2 hp2 p 0 (gsI (aMk G n (jn + 1) p) jn 1 0) rTm_refl (by omega)
    have k6' : X g 6 0 [.val (va_rf (some n)), .unset, .unset] [] (gH (n + 2) (kc + 2) (ks + 1 + p) (gsI (aMk G n (jn + 1) p) jn 1 0)) = some (none, gH (n + 2) (kc + 2) (ks + 1 + p) (jSt G n jn p)) := k6
    have hm' : rTm (jSt G n jn p) (gsI (aMk G n (jn + 1) p) jn 1 0) := hm
    obtain ⟨m1, m2, m3, m4, m5⟩ := hm'
    have c1 : (jSt G n jn p).1 jn = 20 := by rw [m1]; exact a1
    have cj : jL (jSt G n jn p) jn := by
      refine ⟨c1, ?_, ?_, ?_, ?_⟩
      · rw [m1]
        show (aMk G n (jn + 1) p).1 (jn + 1) = 21
        rw [aMk_1, if_neg nj1.1, if_neg nj1.2]
        exact j2
      · rw [m2]
        show (aMk G n (jn + 1) p).2.1 (jn + 1) = 64
        rw [aMk_2, if_neg nj1.2, if_neg nj1.1]
        exact j3
      · rw [m1]
        show (aMk G n (jn + 1) p).1 (jn + 2) = 22
        rw [aMk_1, if_neg nj2.1, if_neg nj2.2]
        exact j4
      · rw [m2]
        show (aMk G n (jn + 1) p).2.1 (jn + 2) = 24
        rw [aMk_2, if_neg nj2.2, if_neg nj2.1]
        exact j5
    have c3 : (jSt G n jn p).2.2.1 jn 3 = nI d := by
      rw [m5 jn (by show (aMk G n (jn + 1) p).1 jn ≠ 4; rw [a1]; decide), gsI3, if_neg (by omega), aMk_3 nj.1 nj.2]
      exact hd
    have ct : (jSt G n jn p).1 n = 6 := by rw [m1]; exact b1
    have cr : ∀ e z, e < 24 → (jSt G n jn p).2.2.2.2 (jn + 2) e = some z → (jSt G n jn p).1 z = 6 := by
      intro e z he' hz
      rw [m4] at hz
      have hz' : (aMk G n (jn + 1) p).2.2.2.2 (jn + 2) e = some z := hz
      rw [aMk_5 nj2.1 nj2.2] at hz'
      have h6 := hr e z he' hz'
      have nz := ne z (by omega)
      rw [m1]
      show (aMk G n (jn + 1) p).1 z = 6
      rw [aMk_1, if_neg nz.1, if_neg nz.2]
      exact h6
    have k32 := c32 (g := g) (n := n + 2) (kc := kc + 2) (ks := ks + 1 + p) cj c3 h24 ct cr
    simp only [x31_0, x31_1, x31_4, x31_7, x31_8, x31_11, x31_12, x31_13, x31_16, x31_17, x31_20, x31_23, x31_24, x31_25, x31_26, x31_29, x31_30, x31_33, x31_34, x31_35, x31_38, gf_20_1 j1, he, e0, gn_30', gH1, gf_20_0 r1, gf_20_1 r1, rI, k0', gf_20_1 a1, gp_20_1 a1, gc_6 b1, k6', gc_20 c1, k32, Option.bind_some, Option.toList_some, Option.toList_none, List.cons_append, List.nil_append, Option.isSome_some, if_true, eq_self, or_true, true_or, xb_01, mcl_cl, not_true_eq_false, not_false_eq_true, if_false]
end K13
