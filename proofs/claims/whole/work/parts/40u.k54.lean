/-! THE CLASS's methods, 17: a row copied -/
section K54
variable {g : xG} {n kc ks a b c s w q l x y d r p n' e m N hh ww : Nat} {G T U G1 G2 : GS} {h : xH} {i j k v i1 i2 : Int32} {u z : Int64} {S S1 S' : MS} {ρ κ : Nat → Nat} {L : List Nat}
/-- a row copied so far -/
def rcR (T G : GS) (n a l m : Nat) : Prop := (∀ q, ¬ (n ≤ q ∧ q < n + 4) → eqA T G q) ∧ (T.1 n = 1 ∧ T.1 (n + 1) = 2 ∧ T.1 (n + 2) = 3 ∧ T.1 (n + 3) = 4) ∧ (T.2.1 (n + 1) = l ∧ T.2.1 (n + 2) = l ∧ T.2.1 (n + 3) = l) ∧ T.2.2.1 n 0 = G.2.2.1 a 0 ∧ (∀ p, p < m → T.2.2.1 (n + 1) p = G.2.2.1 (a + 1) p ∧ T.2.2.2.1 (n + 2) p = G.2.2.2.1 (a + 2) p) ∧ ∀ p, T.2.2.1 (n + 3) p = 0
theorem rcR_0 {kk : Int32} : rcR (rMk G n (G.2.2.1 a 0) kk l) G n a l 0 := by
  refine ⟨fun q hq => rMk_o (by omega), ⟨?_, ?_, ?_, ?_⟩, ⟨?_, ?_, ?_⟩, ?_, fun p hp => by omega, fun p => ?_⟩
  · rw [rMk_1, if_pos rfl]
  · rw [rMk_1, if_neg (by omega), if_pos rfl]
  · rw [rMk_1, if_neg (by omega), if_neg (by omega), if_pos rfl]
  · rw [rMk_1, if_neg (by omega), if_neg (by omega), if_neg (by omega), if_pos rfl]
  · rw [rMk_2, if_neg (by omega), if_pos (by omega)]
  · rw [rMk_2, if_neg (by omega), if_pos (by omega)]
  · rw [rMk_2, if_neg (by omega), if_pos (by omega)]
  · show (if n = n then (if 0 = 0 then G.2.2.1 a 0 else 0) else _) = _
    rw [if_pos rfl, if_pos rfl]
  · show (if n + 3 = n then _ else if n + 3 = n + 1 then _ else if n + 3 = n + 2 ∨ n + 3 = n + 3 then 0 else _) = _
    rw [if_neg (by omega), if_neg (by omega), if_pos (by omega)]
theorem rcR_s (hR : rcR T G n a l m) : rcR (rSet T n m (G.2.2.1 (a + 1) m) (G.2.2.2.1 (a + 2) m)) G n a l (m + 1) := by
  obtain ⟨b1, b2, b3, b4, b5, b6⟩ := hR
  refine ⟨fun q hq => ?_, b2, b3, ?_, fun p hp => ⟨?_, ?_⟩, fun p => ?_⟩
  · obtain ⟨e1, e2, e3, e4, e5⟩ := b1 q hq
    refine ⟨e1, e2, ?_, ?_, e5⟩
    · rw [← e3]
      funext e
      show (if q = n + 1 ∧ e = m then _ else T.2.2.1 q e) = _
      rw [if_neg (by omega)]
    · rw [← e4]
      funext e
      show (if q = n + 2 ∧ e = m then _ else T.2.2.2.1 q e) = _
      rw [if_neg (by omega)]
  · show (if n = n + 1 ∧ 0 = m then _ else T.2.2.1 n 0) = _
    rw [if_neg (by omega)]
    exact b4
  · show (if n + 1 = n + 1 ∧ p = m then G.2.2.1 (a + 1) m else T.2.2.1 (n + 1) p) = _
    by_cases c : p = m
    · rw [if_pos ⟨rfl, c⟩, c]
    · rw [if_neg (fun z => c z.2)]
      exact (b5 p (by omega)).1
  · show (if n + 2 = n + 2 ∧ p = m then G.2.2.2.1 (a + 2) m else T.2.2.2.1 (n + 2) p) = _
    by_cases c : p = m
    · rw [if_pos ⟨rfl, c⟩, c]
    · rw [if_neg (fun z => c z.2)]
      exact (b5 p (by omega)).2
  · show (if n + 3 = n + 1 ∧ p = m then _ else T.2.2.1 (n + 3) p) = _
    rw [if_neg (by omega)]
    exact b6 p
theorem gW_rc (hw : gW G) (h0 : ∀ q, n ≤ q → G.1 q = 0) (hl : l ≤ 32) (hR : rcR T G n a l m) : gW T ∧ ∀ q, n + 4 ≤ q → T.1 q = 0 := by
  obtain ⟨b1, ⟨b2, b3, b4, b5⟩, ⟨b6, b7, b8⟩, _⟩ := hR
  have hz : ∀ q, n + 4 ≤ q → T.1 q = 0 := fun q hq => by rw [(b1 q (by omega)).1]; exact h0 q (by omega)
  refine ⟨gW_add hw h0 (fun q hq => ⟨(b1 q (by omega)).1, (b1 q (by omega)).2.1⟩) (fun q hq => ?_), hz⟩
  have hq4 : q = n ∨ q = n + 1 ∨ q = n + 2 ∨ q = n + 3 ∨ n + 4 ≤ q := by omega
  rcases hq4 with h | h | h | h | h
  · subst h
    refine ⟨fun _ => ⟨b3, b4, b5, by rw [b6, b7], by rw [b8, b7], by rw [b7]; exact hl⟩, fun z => ?_, fun z => ?_⟩
    · rw [b2] at z; omega
    · rw [b2] at z; omega
  · rw [h, b3]; exact ⟨fun z => by omega, fun z => by omega, fun z => by omega⟩
  · rw [h, b4]; exact ⟨fun z => by omega, fun z => by omega, fun z => by omega⟩
  · rw [h, b5]; exact ⟨fun z => by omega, fun z => by omega, fun z => by omega⟩
  · rw [hz q h]; exact ⟨fun z => by omega, fun z => by omega, fun z => by omega⟩
theorem l74 (hw : gW G) (h0 : ∀ q, n ≤ q → G.1 q = 0) (ha : G.1 a = 1) (hl : G.2.1 (a + 2) = l) : ∀ d m (T : GS), m + d = l → rcR T G n a l m → ∃ T', X g 74 19 [.val (va_rf (some a)), .val (va_rf (some n)), .val (.int (nI m))] [] (gH N kc ks T) = some (some (va_rf (some n)), gH N kc ks T') ∧ rcR T' G n a l l := by
  obtain ⟨w1, w2, w3, w4, w5, w6⟩ := hw.1 a ha
  have l32 : l ≤ 32 := by omega
  have lt : ∀ q, G.1 q ≠ 0 → q < n := fun q hq => Classical.byContradiction fun z => hq (h0 q (by omega))
  have la := lt a (by rw [ha]; decide)
  have la1 := lt (a + 1) (by rw [w1]; decide)
  have la2 := lt (a + 2) (by rw [w2]; decide)
  intro d
  induction d with
  | zero =>
    intro m T hm hR
    have e : m = l := by omega
    subst e
    have h1 : nI m ≤ nI m := Int32.le_refl _
    have ea := hR.1 a (by omega)
    have ea2 := hR.1 (a + 2) (by omega)
    refine ⟨T, ?_, hR⟩
    have t1 : T.1 a = 1 := ea.1.trans ha
    have t2 : T.1 (a + 2) = 3 := ea2.1.trans w2
    have t2' : T.2.1 (a + 2) = m := ea2.2.1.trans hl
    simp only [x74_19, x74_20, x74_21, x74_24, x74_25, x74_51, x74_52, gf_1_2 t1, gN_3 t2, t2', h1, Option.bind_some, Option.toList_some, Option.toList_none, List.cons_append, List.nil_append, Option.isSome_some, if_true, eq_self, or_true, true_or, xb_01, mcl_cl, not_true_eq_false, not_false_eq_true, if_false]
  | succ d ih =>
    intro m T hm hR
    have h1 : ¬ nI l ≤ nI m := nI_ge (by omega) (by omega)
    have ea := hR.1 a (by omega)
    have ea1 := hR.1 (a + 1) (by omega)
    have ea2 := hR.1 (a + 2) (by omega)
    have t1 : T.1 a = 1 := ea.1.trans ha
    have t1a : T.1 (a + 1) = 2 := ea1.1.trans w1
    have t1b : T.2.1 (a + 1) = l := ea1.2.1.trans (w4.trans hl)
    have t2 : T.1 (a + 2) = 3 := ea2.1.trans w2
    have t2' : T.2.1 (a + 2) = l := ea2.2.1.trans hl
    have hx : xin (nI m) l = true := xin_nI (by omega) (by omega)
    have hc : (nI m).toNatClampNeg = m := nI_clamp (by omega)
    have tm : tn (nI m) = m := tn_nI (by omega)
    have hwT := (gW_rc hw h0 l32 hR).1
    have k69 := c69 (g := g) (n := N) (kc := kc) (ks := ks) (i := nI m) (k := G.2.2.1 (a + 1) m) (v := G.2.2.2.1 (a + 2) m) hwT hR.2.1.1
    rw [hR.2.2.1.2.1, if_pos hx, tm] at k69
    obtain ⟨T', g1, g2⟩ := ih (m + 1) _ (by omega) (rcR_s hR)
    refine ⟨T', ?_, g2⟩
    simp only [x74_19, x74_20, x74_21, x74_24, x74_25, x74_28, x74_29, x74_30, x74_31, x74_34, x74_35, x74_36, x74_37, x74_40, x74_41, x74_42, x74_45, gf_1_2 t1, gN_3 t2, t2', h1, gf_1_1 t1, gl_2 t1a, t1b, hx, hc, ea1.2.2.1, gl_3 t2, ea2.2.2.2.1, gc_1 hR.2.1.1, k69, Option.bind_some, Option.toList_some, Option.toList_none, List.cons_append, List.nil_append, Option.isSome_some, if_true, eq_self, or_true, true_or, xb_01, mcl_cl, not_true_eq_false, not_false_eq_true, if_false]
    simp only [x74_45, x74_48, nI_1]
    exact g1
theorem c74 (hw : gW G) (h0 : ∀ q, n ≤ q → G.1 q = 0) (ha : G.1 a = 1) (hl : G.2.1 (a + 2) = l) : ∃ T, X g 74 0 [.val (va_rf (some a)), .unset, .unset] [] (gH n kc ks G) = some (some (va_rf (some n)), gH (n + 4) (kc + 4) (ks + 4 + l + l + l) T) ∧ rcR T G n a l l := by
  obtain ⟨w1, w2, w3, w4, w5, w6⟩ := hw.1 a ha
  have l32 : l ≤ 32 := by omega
  have lt : ∀ q, G.1 q ≠ 0 → q < n := fun q hq => Classical.byContradiction fun z => hq (h0 q (by omega))
  have la := lt a (by rw [ha]; decide)
  have la2 := lt (a + 2) (by rw [w2]; decide)
  have k64 := c64 (g := g) (n := n) (kc := kc + 1) (ks := ks + 4) (G := G) (k := G.2.2.1 a 0) l32
  obtain ⟨T, g1, g2⟩ := l74 (g := g) (N := n + 4) (kc := kc + 4) (ks := ks + 4 + l + l + l) hw h0 ha hl l 0 _ (by omega) (rcR_0 (kk := if G.2.2.1 a 0 < 8 then G.2.2.1 a 0 else 8))
  refine ⟨T, ?_, g2⟩
  have g1' : X g 74 19 [.val (va_rf (some a)), .val (va_rf (some n)), .val (.int 0)] [] (gH (n + 4) (kc + 1 + 3) (ks + 4 + l + l + l) _) = _ := g1
  have r1 : (gnew G n 37 0).1 a = 1 := by rw [gnew1, if_neg (by omega)]; exact ha
  have r2 : (gnew G n 37 0).1 (a + 2) = 3 := by rw [gnew1, if_neg (by omega)]; exact w2
  have r2' : (gnew G n 37 0).2.1 (a + 2) = l := by rw [gnew2, if_neg (by omega)]; exact hl
  have r3 : (gnew G n 37 0).2.2.1 a 0 = G.2.2.1 a 0 := by rw [gnew3, if_neg (by omega)]
  simp only [x74_0, x74_3, x74_4, x74_5, x74_8, x74_9, x74_12, x74_13, x74_16, x74_17, x74_18, gn_37', gH1, gf_1_0 r1, r3, gf_1_2 r1, gN_3 r2, r2', k64, g1', Option.bind_some, Option.toList_some, Option.toList_none, List.cons_append, List.nil_append, Option.isSome_some, if_true, eq_self, or_true, true_or, xb_01, mcl_cl, not_true_eq_false, not_false_eq_true, if_false]
end K54
