/-! THE CLASS beside the reference, 35: a text read -/
section K50
variable {g : xG} {n kc ks a b c s w q l x y tp d r p n' e m N N' k : Nat} {G T U G1 G2 : GS} {h : xH} {i j v i1 i2 : Int32} {u z : Int64} {S S1 S' : MS} {F : Nat → Int32} {t : Nat → Int32} {ρ κ : Nat → Nat} {L : List Nat}
theorem gn_8' : xnew (gH n kc ks G) (.inr (4, [.int 0, .int 0, .int 0, .int 0, .int 0, .int 0, .int 0, .int 0])) 8 = gH (n + 1) (kc + 1) (ks + 8) (gnew G n 8 0) := by
  refine gn_gen ?_
  unfold gcl
  rw [show (gnew G n 8 0).1 n = 8 from if_pos rfl]
  show some (Sum.inr (4, gfs _ n)) = _
  unfold gfs
  rw [show (gnew G n 8 0).1 n = 8 from if_pos rfl]
  show some (Sum.inr (4, (List.range 8).map _)) = _
  simp [List.range_succ, gval, gnew, fd]
theorem c54 (hx : x ≠ tp) (h8 : G.1 x = 8) : ∃ F', X g 54 0 [.val (va_rf (some x))] [] (gH n kc ks (tS G tp a x F)) = some (none, gH n kc ks (tS G tp a x F')) ∧ F' 2 = 0 := by
  have fX := fun F => (show (tS G tp a x F).1 x = 8 from h8)
  refine ⟨fun e => if e = 7 then 0 else if e = 6 then 8 else if e = 5 then 0 else if e = 4 then 0 else if e = 3 then 0 else if e = 2 then 0 else if e = 1 then 0 else if e = 0 then 0 else F e, ?_, rfl⟩
  simp only [x54_0, x54_1, x54_4, x54_5, x54_6, x54_9, x54_10, x54_11, x54_14, x54_15, x54_16, x54_19, x54_20, x54_21, x54_24, x54_25, x54_26, x54_29, x54_30, x54_31, x54_34, x54_35, x54_37, x54_40, x54_41, x54_42, x54_45, gf_8_0 (fX _), gp_8_0 (fX _), gf_8_1 (fX _), gp_8_1 (fX _), x54_16 (a1 := 0) (by decide), gf_8_2 (fX _), gp_8_2 (fX _), gf_8_3 (fX _), gp_8_3 (fX _), gf_8_4 (fX _), gp_8_4 (fX _), gf_8_5 (fX _), gp_8_5 (fX _), gf_8_6 (fX _), gp_8_6 (fX _), gf_8_7 (fX _), gp_8_7 (fX _), Option.isSome_some, if_true, tS_x hx, Option.bind_some, Option.toList_some, Option.toList_none, List.cons_append, List.nil_append, Option.isSome_some, if_true, eq_self, or_true, true_or, xb_01, mcl_cl, not_true_eq_false, not_false_eq_true, if_false]
theorem c79 (h1 : G.1 tp = 23) (h2 : G.1 (tp + 2) = 25) (h3 : G.2.1 (tp + 2) = 20) (hx : G.1 x = 8) (hk : G.2.2.1 tp 3 = nI k) (h20 : k < 20) : X g 79 0 [.val (va_rf (some tp)), .val (va_rf (some x))] [] (gH n kc ks G) = some (none, gH n kc ks (gsI (gsR G (tp + 2) k (some x)) tp 3 (nI (k + 1)))) := by
  have c0 : ¬ nI k < 0 := nI_pos (by omega)
  have c1 : ¬ nI 20 ≤ nI k := nI_ge h20 (by decide)
  have hxi : xin (nI k) 20 = true := xin_nI h20 (by decide)
  have hc : (nI k).toNatClampNeg = k := nI_clamp (by omega)
  have hu : ∀ z, (some x : Option Nat) = some z → xcl (gH n kc ks G) z = some 4 := fun z hz => by
    cases hz
    exact gc_8 hx
  have q1 : (gsR G (tp + 2) k (some x)).1 tp = 23 := h1
  have q2 : (gsR G (tp + 2) k (some x)).2.2.1 tp 3 = nI k := hk
  simp only [x79_0, x79_1, x79_4, x79_7, x79_8, x79_11, x79_12, x79_15, x79_16, x79_19, x79_20, x79_23, x79_24, x79_27, x79_28, x79_29, x79_30, x79_31, x79_34, x79_35, x79_36, x79_39, gf_23_3 h1, hk, c0, gf_23_1 h1, gN_25 h2, h3, c1, gs_25 h2 hu, hxi, hc, gf_23_3 q1, q2, gp_23_3 q1, Option.isSome_some, if_true, nI_1, Option.bind_some, Option.toList_some, Option.toList_none, List.cons_append, List.nil_append, Option.isSome_some, if_true, eq_self, or_true, true_or, xb_01, mcl_cl, not_true_eq_false, not_false_eq_true, if_false]
/-- what reading leaves as it was -/
def pB (G U : GS) (c n N : Nat) : Prop := n ≤ N ∧ (∀ q, q < n → U.1 q = G.1 q ∧ U.2.1 q = G.2.1 q) ∧ (∀ q, n ≤ q → q < N → U.1 q = 8) ∧ (∀ q, N ≤ q → U.1 q = 0) ∧ agr U G [0, 8, 23, 25] ∧ U.2.2.1 (c + 10) 2 = G.2.2.1 (c + 10) 2
/-- the lines read -/
def LN (U : GS) (S : MS) (c k : Nat) : Prop := ∀ y, y < k → ∃ x, U.2.2.2.2 (c + 12) y = some x ∧ U.1 x = 8 ∧ lnR (U.2.2.1 x) S y
theorem LN_agr (hA : agr T U L) (h8 : ¬ 8 ∈ L) (h25 : ¬ 25 ∈ L) (hc : U.1 (c + 12) = 25) (h : LN U S c k) : LN T S c k := by
  intro y hy
  obtain ⟨x, x1, x2, x3⟩ := h y hy
  have e1 := hA x (by rw [x2]; exact h8)
  have e2 := hA (c + 12) (by rw [hc]; exact h25)
  exact ⟨x, by rw [e2.2.2.2.2]; exact x1, by rw [e1.1]; exact x2, by rw [e1.2.2.1]; exact x3⟩
theorem lnR_S (h : ∀ q, 37 ≤ q → q ≤ 41 → S'.2.2.1 q k = S.2.2.1 q k) (h42 : S'.2.2.2 42 k = S.2.2.2 42 k) (hl : lnR F S k) : lnR F S' k := by
  unfold lnR at hl ⊢
  rw [h 37 (by omega) (by omega), h 38 (by omega) (by omega), h 39 (by omega) (by omega), h 40 (by omega) (by omega), h 41 (by omega) (by omega), h42]
  exact hl
theorem tS_self (hx : x ≠ tp) (ha : G.2.2.1 tp 4 = nI a) (hF : ∀ e, G.2.2.1 x e = F e) : tS G tp a x F = G := by
  refine Prod.ext rfl (Prod.ext rfl (Prod.ext ?_ (Prod.ext rfl rfl)))
  funext q e
  show (if q = tp ∧ e = 4 then nI a else if q = x then F e else G.2.2.1 q e) = G.2.2.1 q e
  by_cases c1 : q = tp ∧ e = 4
  · rw [if_pos c1, c1.1, c1.2, ha]
  · rw [if_neg c1]
    by_cases c2 : q = x
    · rw [if_pos c2, c2, hF]
    · rw [if_neg c2]
theorem pB_new (h10 : G.1 (c + 10) = 23) (h0 : ∀ q, n ≤ q → G.1 q = 0) (hB : pB G U c n N) : pB G (tS (gnew U N 8 0) (c + 10) a N F) c n (N + 1) := by
  obtain ⟨p1, p2, p3, p4, p5, p6⟩ := hB
  have r1 : ∀ q, (tS (gnew U N 8 0) (c + 10) a N F).1 q = if q = N then 8 else U.1 q := fun q => rfl
  have r2 : ∀ q, (tS (gnew U N 8 0) (c + 10) a N F).2.1 q = if q = N then 0 else U.2.1 q := fun q => rfl
  have hc : c + 10 < n := Classical.byContradiction fun z => by
    have := h0 (c + 10) (by omega)
    rw [h10] at this
    omega
  refine ⟨by omega, fun q hq => ?_, fun q h1 h2 => ?_, fun q hq => ?_, fun q hq => ?_, ?_⟩
  · rw [r1, r2, if_neg (by omega), if_neg (by omega)]
    exact p2 q hq
  · rw [r1]
    by_cases e : q = N
    · rw [if_pos e]
    · rw [if_neg e]
      exact p3 q h1 (by omega)
  · rw [r1, if_neg (by omega)]
    exact p4 q (by omega)
  · have hqN : q ≠ N := fun z => hq (by rw [z, h0 N p1]; decide)
    have hqc : q ≠ c + 10 := fun z => hq (by rw [z, h10]; decide)
    obtain ⟨e1, e2, e3, e4, e5⟩ := p5 q hq
    refine ⟨by rw [r1, if_neg hqN]; exact e1, by rw [r2, if_neg hqN]; exact e2, ?_, ?_, ?_⟩
    · rw [← e3]
      funext z
      show (if q = c + 10 ∧ z = 4 then _ else if q = N then _ else if q = N then _ else U.2.2.1 q z) = _
      rw [if_neg (fun y => hqc y.1), if_neg hqN, if_neg hqN]
    · rw [← e4]
      funext z
      show (if q = N then _ else U.2.2.2.1 q z) = _
      rw [if_neg hqN]
    · rw [← e5]
      funext z
      show (if q = N then _ else U.2.2.2.2 q z) = _
      rw [if_neg hqN]
  · show (if c + 10 = c + 10 ∧ 2 = 4 then _ else if c + 10 = N then _ else if c + 10 = N then _ else U.2.2.1 (c + 10) 2) = _
    rw [if_neg (by omega), if_neg (by omega), if_neg (by omega)]
    exact p6
theorem pB_I (h10 : G.1 (c + 10) = 23) (he : e ≠ 2) (hB : pB G U c n N) : pB G (gsI U (c + 10) e v) c n N := by
  obtain ⟨p1, p2, p3, p4, p5, p6⟩ := hB
  refine ⟨p1, p2, p3, p4, fun q hq => ?_, ?_⟩
  · obtain ⟨e1, e2, e3, e4, e5⟩ := p5 q hq
    refine ⟨e1, e2, ?_, e4, e5⟩
    rw [← e3]
    funext z
    rw [gsI3, if_neg]
    rintro ⟨y, _⟩
    exact hq (by rw [y, h10]; decide)
  · rw [gsI3, if_neg (by omega)]
    exact p6
theorem pB_R {o : Option Nat} (h12 : G.1 (c + 12) = 25) (hB : pB G U c n N) : pB G (gsR U (c + 12) e o) c n N := by
  obtain ⟨p1, p2, p3, p4, p5, p6⟩ := hB
  refine ⟨p1, p2, p3, p4, fun q hq => ?_, p6⟩
  obtain ⟨e1, e2, e3, e4, e5⟩ := p5 q hq
  refine ⟨e1, e2, e3, e4, ?_⟩
  rw [← e5]
  funext z
  rw [gsR5, if_neg]
  rintro ⟨y, _⟩
  exact hq (by rw [y, h12]; decide)
theorem l78 (hgK : gK G c) (hn0 : ∀ q, n ≤ q → G.1 q = 0) (hl4 : G.2.2.1 (c + 10) 2 = nI l) (hl : l ≤ 120) (ht : ∀ e, e < l → G.2.2.1 (c + 11) e = t e ∧ 1 ≤ (t e).toInt ∧ (t e).toInt ≤ 127) : ∀ f k a N kc ks (U : GS) (S : MS) (s2 : Slot), pB G U c n N → LN U S c k → U.2.2.1 (c + 10) 3 = nI k → U.2.2.1 (c + 10) 4 = nI a → a ≤ l → 6 * k ≤ a → k ≤ 20 → l + 1 ≤ a + f → ∃ N' kc' ks' U', X g 78 12 [.val (va_rf (some (c + 10))), .val (.int (nI k)), s2] [] (gH N kc ks U) = some (some (.int (xb (mAll l t f S (a, true) k).2.1.2)), gH N' kc' ks' U') ∧ pB G U' c n N' ∧ U'.2.2.1 (c + 10) 4 = nI (mAll l t f S (a, true) k).2.1.1 ∧ ((mAll l t f S (a, true) k).2.1.2 = true → LN U' (mAll l t f S (a, true) k).1 c (mAll l t f S (a, true) k).2.2 ∧ U'.2.2.1 (c + 10) 3 = nI (mAll l t f S (a, true) k).2.2 ∧ (mAll l t f S (a, true) k).2.2 ≤ 20) ∧ kc' + N = kc + N' ∧ ks' + 8 * N = ks + 8 * N' ∧ N ≤ N' ∧ N' + k ≤ N + 20 := by
  obtain ⟨k0, k1, k2, k3, ⟨k4, k4'⟩, ⟨k5, k5'⟩, ⟨k6, k6'⟩, k7, ⟨k8, k8'⟩, ⟨k9, k9'⟩, k10, ⟨k11, k11'⟩, ⟨k12, k12'⟩, k13, ⟨k14, k14'⟩, ⟨k15, k15'⟩⟩ := hgK
  have lt : ∀ q, G.1 q ≠ 0 → q < n := fun q hq => Classical.byContradiction fun z => hq (hn0 q (by omega))
  have l10 := lt (c + 10) (by rw [k10]; decide)
  have l11 := lt (c + 11) (by rw [k11]; decide)
  have l12 := lt (c + 12) (by rw [k12]; decide)
  intro f
  induction f with
  | zero => intro k a N kc ks U S s2 _ _ _ _ h1 _ _ h2; omega
  | succ f ih =>
    intro k a N kc ks U S s2 hB hLn h3 h4 ha h6 h20 hf
    have hB' := hB
    obtain ⟨p1, p2, p3, p4, p5, p6⟩ := hB
    have u10 : U.1 (c + 10) = 23 := (p2 _ l10).1.trans k10
    have u11 : U.1 (c + 11) = 24 := (p2 _ l11).1.trans k11
    have u11' : U.2.1 (c + 11) = 120 := (p2 _ l11).2.trans k11'
    have u12 : U.1 (c + 12) = 25 := (p2 _ l12).1.trans k12
    have u12' : U.2.1 (c + 12) = 20 := (p2 _ l12).2.trans k12'
    have e11 := p5 (c + 11) (by rw [k11]; decide)
    rw [mAll]
    by_cases ck : k = 20
    · -- the tape's room for lines is used up: nothing is left to read
      have hal : a = l := by omega
      have hla : l = 120 := by omega
      have hq : qFg l t (a, true) = false := by
        unfold qFg
        rw [decide_eq_false (show ¬ (a, true).1 < l by show ¬ a < l; omega)]
        simp
      have hL2 : qL2 l t (a, true) = (a, false) := by
        unfold qL2 qL1
        rw [qNm_n (m := 0) hq, qWt_f, qNm_f]
      have hm : (mLine S l t (a, true) k).2 = (a, false) := by
        unfold mLine
        rw [hL2, qIs_f, if_neg (by simp), qIs_f, if_neg (by simp)]
      rw [hm, qIs_f, if_neg (by simp), if_neg (show ¬ (a, false).1 < l by show ¬ a < l; omega)]
      refine ⟨N, kc, ks, U, ?_, hB', h4, fun z => absurd z (by simp), rfl, rfl, Nat.le_refl _, by omega⟩
      have c1 : nI 20 ≤ nI k := nI_le (by omega) (by omega)
      have u12a : U.1 (c + 10 + 2) = 25 := u12
      have u12b : U.2.1 (c + 10 + 2) = 20 := u12'
      simp only [x78_12, x78_13, x78_14, x78_17, x78_18, x78_74, x78_75, gf_23_1 u10, gN_25 u12a, u12b, c1, x78_75 (Or.inl rfl), xb_f, Option.bind_some, Option.toList_some, Option.toList_none, List.cons_append, List.nil_append, Option.isSome_some, if_true, eq_self, or_true, true_or, xb_01, mcl_cl, not_true_eq_false, not_false_eq_true, if_false]
    · have k20 : k < 20 := by omega
      have c1 : ¬ nI 20 ≤ nI k := nI_ge k20 (by decide)
      have hNx : N ≠ c + 10 := by omega
      have g0 : (gnew U N 8 0).1 N = 8 := if_pos rfl
      have g10 : (gnew U N 8 0).1 (c + 10) = 23 := (if_neg (Ne.symm hNx)).trans u10
      have hself : tS (gnew U N 8 0) (c + 10) a N (fun _ => 0) = gnew U N 8 0 := tS_self hNx (by rw [gnew3, if_neg (Ne.symm hNx)]; exact h4) (fun e => by rw [gnew3, if_pos rfl])
      obtain ⟨F1, h54, hF1⟩ := c54 (g := g) (n := N + 1) (kc := kc + 1) (ks := ks + 8) (a := a) (F := fun _ => 0) hNx g0
      rw [hself] at h54
      have hL : tpL (gnew U N 8 0) (c + 10) N l t := by
        refine ⟨g10, (if_neg (by omega)).trans u11, (if_neg (by omega)).trans u11', ?_, hl, fun e he => ?_, g0⟩
        · rw [gnew3, if_neg (Ne.symm hNx), p6]
          exact hl4
        · refine ⟨?_, (ht e he).2⟩
          rw [gnew3, if_neg (by omega)]
          show U.2.2.1 (c + 11) e = t e
          rw [e11.2.2.1]
          exact (ht e he).1
      obtain ⟨F', h80, hln⟩ := c80 (g := g) (n := N + 1) (kc := kc + 1) (ks := ks + 8) (F := F1) hL ha hF1 S k
      have hle := mLine_le (S := S) (t := t) (c := k) (z := (a, true)) ha
      have hB1 : ∀ a' F', pB G (tS (gnew U N 8 0) (c + 10) a' N F') c n (N + 1) := fun a' F' => pB_new k10 hn0 hB'
      have u12a : U.1 (c + 10 + 2) = 25 := u12
      have u12b : U.2.1 (c + 10 + 2) = 20 := u12'
      have s10 : ∀ a' F', (tS (gnew U N 8 0) (c + 10) a' N F').1 (c + 10) = 23 := fun _ _ => g10
      have hgo : (mLine S l t (a, true) k).2.2 = true → a + 5 ≤ (mLine S l t (a, true) k).2.1 := fun z => (mLine_go z).2
      have hA1 : ∀ q y, ¬ y = k → (mLine S l t (a, true) k).1.2.2.1 q y = S.2.2.1 q y := fun q y hy => mLine_A (by omega)
      have hA2 : ∀ y, ¬ y = k → (mLine S l t (a, true) k).1.2.2.2 42 y = S.2.2.2 42 y := fun y hy => mLine_o.2.2 42 y (by omega)
      generalize mLine S l t (a, true) k = Z at *
      obtain ⟨S', a', ok⟩ := Z
      have hle : a' ≤ l := hle
      cases ok with
      | false =>
        rw [qIs_f, if_neg (by simp)]
        have hif : (if (S', a', false).2.1 < l then ((S', a', false).2.1, false) else (S', a', false).2) = (a', false) := by
          show (if a' < l then (a', false) else (a', false)) = (a', false)
          split <;> rfl
        rw [hif]
        refine ⟨N + 1, kc + 1, ks + 8, tS (gnew U N 8 0) (c + 10) a' N F', ?_, hB1 a' F', if_pos ⟨rfl, rfl⟩, fun z => absurd z (by simp), by omega, by omega, by omega, by omega⟩
        simp only [x78_12, x78_13, x78_14, x78_17, x78_18, x78_21, x78_24, x78_25, x78_28, x78_29, x78_30, x78_31, x78_34, x78_37, x78_38, gf_23_1 u10, gN_25 u12a, u12b, c1, gn_8', gH1, h54, gc_23 (s10 _ _), h80, xb_f, x78_38 (Or.inl rfl), Option.bind_some, Option.toList_some, Option.toList_none, List.cons_append, List.nil_append, Option.isSome_some, if_true, eq_self, or_true, true_or, xb_01, mcl_cl, not_true_eq_false, not_false_eq_true, if_false]
      | true =>
        have h5 : a + 5 ≤ a' := hgo rfl
        have hln : lnR F' S' k := hln rfl
        -- the line is kept
        have t10 : (tS (gnew U N 8 0) (c + 10) a' N F').1 (c + 10) = 23 := g10
        have t12 : (tS (gnew U N 8 0) (c + 10) a' N F').1 (c + 10 + 2) = 25 := (if_neg (by omega)).trans u12
        have t12' : (tS (gnew U N 8 0) (c + 10) a' N F').2.1 (c + 10 + 2) = 20 := (if_neg (by omega)).trans u12'
        have tN : (tS (gnew U N 8 0) (c + 10) a' N F').1 N = 8 := if_pos rfl
        have t3 : (tS (gnew U N 8 0) (c + 10) a' N F').2.2.1 (c + 10) 3 = nI k := by
          show (if c + 10 = c + 10 ∧ 3 = 4 then _ else if c + 10 = N then _ else if c + 10 = N then _ else U.2.2.1 (c + 10) 3) = _
          rw [if_neg (by omega), if_neg (Ne.symm hNx), if_neg (Ne.symm hNx)]
          exact h3
        have h79 := c79 (g := g) (n := N + 1) (kc := kc + 1) (ks := ks + 8) (x := N) t10 t12 t12' tN t3 k20
        have hB2 : pB G (gsI (gsR (tS (gnew U N 8 0) (c + 10) a' N F') (c + 10 + 2) k (some N)) (c + 10) 3 (nI (k + 1))) c n (N + 1) := pB_I k10 (by decide) (pB_R k12 (hB1 a' F'))
        have v4 : (gsI (gsR (tS (gnew U N 8 0) (c + 10) a' N F') (c + 10 + 2) k (some N)) (c + 10) 3 (nI (k + 1))).2.2.1 (c + 10) 4 = nI a' := by
          rw [gsI3, if_neg (by omega)]
          exact if_pos ⟨rfl, rfl⟩
        have v3 : (gsI (gsR (tS (gnew U N 8 0) (c + 10) a' N F') (c + 10 + 2) k (some N)) (c + 10) 3 (nI (k + 1))).2.2.1 (c + 10) 3 = nI (k + 1) := by
          rw [gsI3, if_pos ⟨rfl, rfl⟩]
        have v2 : (gsI (gsR (tS (gnew U N 8 0) (c + 10) a' N F') (c + 10 + 2) k (some N)) (c + 10) 3 (nI (k + 1))).2.2.1 (c + 10) 2 = nI l := by
          rw [hB2.2.2.2.2.2]
          exact hl4
        have vN : ∀ e, (gsI (gsR (tS (gnew U N 8 0) (c + 10) a' N F') (c + 10 + 2) k (some N)) (c + 10) 3 (nI (k + 1))).2.2.1 N e = F' e := by
          intro e
          rw [gsI3, if_neg (fun z => hNx z.1)]
          show (if N = c + 10 ∧ e = 4 then _ else if N = N then F' e else _) = F' e
          rw [if_neg (fun z => hNx z.1), if_pos rfl]
        have vx : ∀ x, x ≠ N → x ≠ c + 10 → (gsI (gsR (tS (gnew U N 8 0) (c + 10) a' N F') (c + 10 + 2) k (some N)) (c + 10) 3 (nI (k + 1))).2.2.1 x = U.2.2.1 x := by
          intro x h1 h2
          funext e
          rw [gsI3, if_neg (fun z => h2 z.1)]
          show (if x = c + 10 ∧ e = 4 then _ else if x = N then _ else if x = N then _ else U.2.2.1 x e) = _
          rw [if_neg (fun z => h2 z.1), if_neg h1, if_neg h1]
        have vr : ∀ y, (gsI (gsR (tS (gnew U N 8 0) (c + 10) a' N F') (c + 10 + 2) k (some N)) (c + 10) 3 (nI (k + 1))).2.2.2.2 (c + 12) y = if y = k then some N else U.2.2.2.2 (c + 12) y := by
          intro y
          show (if c + 12 = c + 10 + 2 ∧ y = k then some N else if c + 12 = N then none else U.2.2.2.2 (c + 12) y) = _
          rw [if_neg (show ¬ c + 12 = N by omega)]
          by_cases cy : y = k
          · rw [if_pos ⟨by omega, cy⟩, if_pos cy]
          · rw [if_neg (fun z => cy z.2), if_neg cy]
        have v1 : (gsI (gsR (tS (gnew U N 8 0) (c + 10) a' N F') (c + 10 + 2) k (some N)) (c + 10) 3 (nI (k + 1))).1 = fun q => if q = N then 8 else U.1 q := rfl
        have v21 : (gsI (gsR (tS (gnew U N 8 0) (c + 10) a' N F') (c + 10 + 2) k (some N)) (c + 10) 3 (nI (k + 1))).2.1 = fun q => if q = N then 0 else U.2.1 q := rfl
        have hX : X g 78 12 [.val (va_rf (some (c + 10))), .val (.int (nI k)), s2] [] (gH N kc ks U) = X g 78 44 [.val (va_rf (some (c + 10))), .val (.int (nI k)), .val (va_rf (some N))] [] (gH (N + 1) (kc + 1) (ks + 8) (gsI (gsR (tS (gnew U N 8 0) (c + 10) a' N F') (c + 10 + 2) k (some N)) (c + 10) 3 (nI (k + 1)))) := by
          simp only [x78_12, x78_13, x78_14, x78_17, x78_18, x78_21, x78_24, x78_25, x78_28, x78_29, x78_30, x78_31, x78_34, x78_37, x78_38, x78_39, x78_40, x78_41, gf_23_1 u10, gN_25 u12a, u12b, c1, gn_8', gH1, h54, gc_23 (s10 _ _), h80, xb_t, i32_10, h79, Option.bind_some, Option.toList_some, Option.toList_none, List.cons_append, List.nil_append, Option.isSome_some, if_true, eq_self, or_true, true_or, xb_01, mcl_cl, not_true_eq_false, not_false_eq_true, if_false]
        rw [hX]
        generalize gsI (gsR (tS (gnew U N 8 0) (c + 10) a' N F') (c + 10 + 2) k (some N)) (c + 10) 3 (nI (k + 1)) = V at *
        have w10 : V.1 (c + 10) = 23 := by rw [v1]; exact g10
        have hLV : LN V S' c (k + 1) := by
          intro y hy
          by_cases cy : y = k
          · subst cy
            refine ⟨N, by rw [vr, if_pos rfl], by rw [v1]; exact if_pos rfl, ?_⟩
            rw [show V.2.2.1 N = F' from funext vN]
            exact hln
          · obtain ⟨x, x1, x2, x3⟩ := hLn y (by omega)
            have xN : x ≠ N := fun z => by
              rw [z, p4 N (Nat.le_refl N)] at x2
              omega
            have xc : x ≠ c + 10 := fun z => by
              rw [z, u10] at x2
              omega
            refine ⟨x, by rw [vr, if_neg cy]; exact x1, by rw [v1]; exact (if_neg xN).trans x2, ?_⟩
            rw [vx x xN xc]
            exact lnR_S (fun q _ _ => hA1 q y cy) (hA2 y cy) x3
        by_cases cl : a' < l
        · have n1 : nI a' < nI l := Int32.not_le.mp (nI_ge cl (by omega))
          have hLT : tpL V (c + 10) N l t := by
            refine ⟨w10, ?_, ?_, v2, hl, fun e he => ?_, by rw [v1]; exact if_pos rfl⟩
            · rw [v1]
              exact (if_neg (show ¬ c + 10 + 1 = N by omega)).trans u11
            · rw [v21]
              exact (if_neg (show ¬ c + 10 + 1 = N by omega)).trans u11'
            · refine ⟨?_, (ht e he).2⟩
              rw [vx (c + 10 + 1) (by omega) (by omega)]
              show U.2.2.1 (c + 11) e = t e
              rw [e11.2.2.1]
              exact (ht e he).1
          have hVs : tS V (c + 10) a' N F' = V := tS_self hNx v4 vN
          have h85 := c85 (g := g) (n := N + 1) (kc := kc + 1) (ks := ks + 8) (F := F') (k := 59) hLT hle (by decide)
          rw [hVs] at h85
          have hVa : ∀ a'', tS V (c + 10) a'' N F' = gsI V (c + 10) 4 (nI a'') := by
            intro a''
            rw [← tS_at (a := a') (b := a''), hVs]
          rw [hVa] at h85
          cases hq : qIs l t (a', true) 59 with
          | false =>
            rw [hq, (qIs_no hq).1] at h85
            have hq' : qIs l t (S', a', true).2 59 = false := hq
            rw [if_neg (by simp), if_pos (show (S', a', true).2.1 < l from cl)]
            refine ⟨N + 1, kc + 1, ks + 8, gsI V (c + 10) 4 (nI a'), ?_, pB_I k10 (by decide) hB2, by rw [gsI3, if_pos ⟨rfl, rfl⟩], fun z => absurd z (by simp), by omega, by omega, by omega, by omega⟩
            simp only [x78_44, x78_45, x78_48, x78_49, x78_52, x78_55, x78_56, x78_57, x78_58, x78_60, x78_63, x78_66, x78_67, gf_23_4 w10, v4, gf_23_2 w10, v2, n1, gc_23 w10, h85, xb_f, x78_67 (Or.inl rfl), Option.bind_some, Option.toList_some, Option.toList_none, List.cons_append, List.nil_append, Option.isSome_some, if_true, eq_self, or_true, true_or, xb_01, mcl_cl, not_true_eq_false, not_false_eq_true, if_false]
          | true =>
            obtain ⟨t1, t2, t3⟩ := qIs_go hq
            rw [hq, t1] at h85
            rw [if_pos rfl]
            have t1' : qTk l t (S', a', true).2 59 = (a' + 1, true) := t1
            rw [t1']
            have hV1 : (gsI V (c + 10) 4 (nI (a' + 1))).1 (c + 12) = 25 := by
              show V.1 (c + 12) = 25
              rw [v1]
              exact (if_neg (show ¬ c + 12 = N by omega)).trans u12
            have hLV2 : LN (gsI V (c + 10) 4 (nI (a' + 1))) S' c (k + 1) := by
              intro y hy
              obtain ⟨x, x1, x2, x3⟩ := hLV y hy
              have xc : x ≠ c + 10 := fun z => by
                rw [z, w10] at x2
                omega
              refine ⟨x, x1, x2, ?_⟩
              have : (gsI V (c + 10) 4 (nI (a' + 1))).2.2.1 x = V.2.2.1 x := funext fun e => by rw [gsI3, if_neg (fun z => xc z.1)]
              rw [this]
              exact x3
            obtain ⟨N', kc', ks', U', i1, i2, i3, i4, i5, i6, i7, i8⟩ := ih (k + 1) (a' + 1) (N + 1) (kc + 1) (ks + 8) (gsI V (c + 10) 4 (nI (a' + 1))) S' (.val (va_rf (some N))) (pB_I k10 (by decide) hB2) hLV2 (by rw [gsI3, if_neg (by omega)]; exact v3) (by rw [gsI3, if_pos ⟨rfl, rfl⟩]) t3 (by omega) (by omega) (by omega)
            refine ⟨N', kc', ks', U', ?_, i2, i3, i4, by omega, by omega, by omega, by omega⟩
            simp only [x78_44, x78_45, x78_48, x78_49, x78_52, x78_55, x78_56, x78_57, x78_58, x78_60, x78_63, x78_66, gf_23_4 w10, v4, gf_23_2 w10, v2, n1, gc_23 w10, h85, xb_t, i32_10, Option.bind_some, Option.toList_some, Option.toList_none, List.cons_append, List.nil_append, Option.isSome_some, if_true, eq_self, or_true, true_or, xb_01, mcl_cl, not_true_eq_false, not_false_eq_true, if_false]
            simp only [x78_68, x78_71, nI_1]
            exact i1
        · have n1 : ¬ nI a' < nI l := Int32.not_lt.mpr (nI_le (by omega) (by omega))
          have hq : qIs l t (S', a', true).2 59 = false := by
            show (true && (decide (a' < l) && decide (t a' = 59))) = false
            simp [cl]
          rw [hq, if_neg (by simp), if_neg (show ¬ (S', a', true).2.1 < l from cl)]
          refine ⟨N + 1, kc + 1, ks + 8, V, ?_, hB2, v4, fun _ => ⟨hLV, v3, show k + 1 ≤ 20 by omega⟩, by omega, by omega, by omega, by omega⟩
          simp only [x78_44, x78_45, x78_48, x78_49, x78_52, x78_55, x78_56, gf_23_4 w10, v4, gf_23_2 w10, v2, n1, x78_56 (Or.inr rfl), xb_t, Option.bind_some, Option.toList_some, Option.toList_none, List.cons_append, List.nil_append, Option.isSome_some, if_true, eq_self, or_true, true_or, xb_01, mcl_cl, not_true_eq_false, not_false_eq_true, if_false]
end K50
