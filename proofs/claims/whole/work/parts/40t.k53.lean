/-! THE CLASS's methods, 16: a bank made -/
section K53
variable {g : xG} {n kc ks a b c s w q l x y d r p n' e m N hh ww : Nat} {G T U G1 G2 : GS} {h : xH} {i j k v i1 i2 : Int32} {u z : Int64} {S S1 S' : MS} {ρ κ : Nat → Nat} {L : List Nat}
/-- a window as it comes -/
def wNw (T : GS) (a : Nat) : GS := wSet (gnew T a 14 0) a 0 0 1 0 8
theorem wNw_1 : (wNw T a).1 q = if q = a then 14 else T.1 q := rfl
theorem wNw_2 : (wNw T a).2.1 q = if q = a then 0 else T.2.1 q := rfl
theorem wNw_3 : (wNw T a).2.2.1 q e = if q = a then (if e = 2 then 1 else if e = 4 then 8 else 0) else T.2.2.1 q e := by
  show (if q = a ∧ e = 4 then 8 else if q = a ∧ e = 3 then 0 else if q = a ∧ e = 2 then 1 else if q = a ∧ e = 1 then 0 else if q = a ∧ e = 0 then 0 else if q = a then 0 else T.2.2.1 q e) = _
  by_cases c : q = a
  · by_cases e4 : e = 4
    · simp [c, e4]
    · by_cases e2 : e = 2
      · simp [c, e2]
      · simp [c, e4, e2]
  · simp [c]
theorem wNw_4 : (wNw T a).2.2.2.1 q e = if q = a then 0 else T.2.2.2.1 q e := rfl
theorem wNw_5 : (wNw T a).2.2.2.2 q e = if q = a then none else T.2.2.2.2 q e := rfl
theorem wNw_o (h : q ≠ a) : eqA (wNw T a) T q := ⟨by rw [wNw_1, if_neg h], by rw [wNw_2, if_neg h], funext fun e => by rw [wNw_3, if_neg h], funext fun e => by rw [wNw_4, if_neg h], funext fun e => by rw [wNw_5, if_neg h]⟩
theorem gn_14' : xnew (gH n kc ks G) (.inr (9, [.int 0, .int 0, .int 0, .int 0, .int 0])) 5 = gH (n + 1) (kc + 1) (ks + 5) (gnew G n 14 0) := by
  refine gn_gen ?_
  unfold gcl
  rw [show (gnew G n 14 0).1 n = 14 from if_pos rfl]
  show some (Sum.inr (9, gfs _ n)) = _
  unfold gfs
  rw [show (gnew G n 14 0).1 n = 14 from if_pos rfl]
  show some (Sum.inr (9, (List.range 5).map _)) = _
  simp [List.range_succ, gval, gnew, fd]
theorem c87 : X g 87 0 [.val (va_rf (some a))] [] (gH n kc ks (gnew T a 14 0)) = some (none, gH n kc ks (wNw T a)) := by
  have r0 : (gnew T a 14 0).1 a = 14 := if_pos rfl
  have r1 : (gsI (gnew T a 14 0) a 0 0).1 a = 14 := r0
  have r2 : (gsI (gsI (gnew T a 14 0) a 0 0) a 1 0).1 a = 14 := r0
  have r3 : (gsI (gsI (gsI (gnew T a 14 0) a 0 0) a 1 0) a 2 1).1 a = 14 := r0
  have r4 : (gsI (gsI (gsI (gsI (gnew T a 14 0) a 0 0) a 1 0) a 2 1) a 3 0).1 a = 14 := r0
  simp only [x87_0, x87_1, x87_4, x87_5, x87_6, x87_9, x87_10, x87_11, x87_14, x87_15, x87_16, x87_19, x87_20, x87_21, x87_24, x87_25, x87_27, x87_30, gf_14_0 r0, gp_14_0 r0, gf_14_1 r1, gp_14_1 r1, gf_14_2 r2, gp_14_2 r2, gf_14_3 r3, gp_14_3 r3, gf_14_4 r4, gp_14_4 r4, Option.isSome_some, if_true, Option.bind_some, Option.toList_some, Option.toList_none, List.cons_append, List.nil_append, Option.isSome_some, if_true, eq_self, or_true, true_or, xb_01, mcl_cl, not_true_eq_false, not_false_eq_true, if_false]
  rfl
/-- a bank as it comes: slots emptied, windows made -/
def bkR (T G : GS) (n hh ww : Nat) : Prop := (∀ q, ¬ (n ≤ q ∧ q < n + 5 + ww) → eqA T G q) ∧ (T.1 n = 31 ∧ T.1 (n + 1) = 10 ∧ T.1 (n + 2) = 11 ∧ T.1 (n + 3) = 12 ∧ T.1 (n + 4) = 50 ∧ ∀ w, w < ww → T.1 (n + 5 + w) = 14) ∧ (T.2.1 (n + 1) = 10 ∧ T.2.1 (n + 2) = 10 ∧ T.2.1 (n + 3) = 10 ∧ T.2.1 (n + 4) = 6) ∧ ((∀ e, e < hh → T.2.2.1 (n + 2) e = -1) ∧ (∀ e, T.2.2.1 (n + 3) e = 0) ∧ ∀ w, w < ww → ∀ e, T.2.2.1 (n + 5 + w) e = if e = 2 then 1 else if e = 4 then 8 else 0) ∧ ((∀ e, T.2.2.2.2 (n + 1) e = none) ∧ T.2.2.2.2 n 0 = some (n + 1) ∧ T.2.2.2.2 n 1 = some (n + 2) ∧ T.2.2.2.2 n 2 = some (n + 3) ∧ T.2.2.2.2 n 3 = some (n + 4) ∧ ∀ e, T.2.2.2.2 (n + 4) e = if e < ww then some (n + 5 + e) else none)
theorem bkR_0 : bkR (gsR (gnew (gsR (gnew (gsR (gnew (gsR (gnew (gnew G n 31 0) (n + 1) 10 10) n 0 (some (n + 1))) (n + 2) 11 10) n 1 (some (n + 2))) (n + 3) 12 10) n 2 (some (n + 3))) (n + 4) 50 6) n 3 (some (n + 4))) G n 0 0 := by
  refine ⟨fun q hq => ?_, ⟨?_, ?_, ?_, ?_, ?_, fun w hw => by omega⟩, ⟨?_, ?_, ?_, ?_⟩, ⟨fun e he => by omega, fun e => ?_, fun w hw => by omega⟩, ⟨fun e => ?_, ?_, ?_, ?_, ?_, fun e => ?_⟩⟩
  · have c0 : ¬ q = n := by omega
    have c1 : ¬ q = n + 1 := by omega
    have c2 : ¬ q = n + 2 := by omega
    have c3 : ¬ q = n + 3 := by omega
    have c4 : ¬ q = n + 4 := by omega
    refine ⟨?_, ?_, funext fun e => ?_, funext fun e => ?_, funext fun e => ?_⟩ <;> simp [gsR, gnew, c0, c1, c2, c3, c4]
  all_goals simp [gsR, gnew]
theorem bkR_h (hB : bkR T G n hh 0) : bkR (gsI T (n + 2) hh (-1)) G n (hh + 1) 0 := by
  obtain ⟨b1, b2, b3, ⟨b4, b5, b6⟩, b7⟩ := hB
  refine ⟨fun q hq => ?_, b2, b3, ⟨fun e he => ?_, fun e => ?_, fun w hw => by omega⟩, b7⟩
  · obtain ⟨e1, e2, e3, e4, e5⟩ := b1 q hq
    refine ⟨e1, e2, ?_, e4, e5⟩
    rw [← e3]
    funext e
    rw [gsI3, if_neg (by omega)]
  · rw [gsI3]
    by_cases c : e = hh
    · rw [if_pos ⟨rfl, c⟩]
    · rw [if_neg (fun z => c z.2)]
      exact b4 e (by omega)
  · rw [gsI3, if_neg (by omega)]
    exact b5 e
theorem bkR_w (hB : bkR T G n hh ww) : bkR (gsR (wNw T (n + 5 + ww)) (n + 4) ww (some (n + 5 + ww))) G n hh (ww + 1) := by
  obtain ⟨b1, ⟨b2, b3, b4, b5, b6, b7⟩, ⟨b8, b9, b10, b11⟩, ⟨b12, b13, b14⟩, ⟨b15, b16, b17, b18, b19, b20⟩⟩ := hB
  have ne : ∀ v, v < 5 → n + v ≠ n + 5 + ww := fun v hv => by omega
  have o := fun v hv => wNw_o (T := T) (ne v hv)
  refine ⟨fun q hq => ?_, ⟨(o 0 (by omega)).1.trans b2, (o 1 (by omega)).1.trans b3, (o 2 (by omega)).1.trans b4, (o 3 (by omega)).1.trans b5, (o 4 (by omega)).1.trans b6, fun w hw => ?_⟩, ⟨(o 1 (by omega)).2.1.trans b8, (o 2 (by omega)).2.1.trans b9, (o 3 (by omega)).2.1.trans b10, (o 4 (by omega)).2.1.trans b11⟩, ⟨fun e he => ?_, fun e => ?_, fun w hw e => ?_⟩, ⟨fun e => ?_, ?_, ?_, ?_, ?_, fun e => ?_⟩⟩
  · obtain ⟨e1, e2, e3, e4, e5⟩ := b1 q (by omega)
    obtain ⟨f1, f2, f3, f4, f5⟩ := wNw_o (T := T) (a := n + 5 + ww) (q := q) (by omega)
    refine ⟨f1.trans e1, f2.trans e2, f3.trans e3, f4.trans e4, ?_⟩
    rw [← e5, ← f5]
    funext e
    rw [gsR5, if_neg (by omega)]
  · show (wNw T (n + 5 + ww)).1 (n + 5 + w) = 14
    rw [wNw_1]
    by_cases c : w = ww
    · rw [if_pos (by omega)]
    · rw [if_neg (by omega)]
      exact b7 w (by omega)
  · show (wNw T (n + 5 + ww)).2.2.1 (n + 2) e = -1
    rw [(o 2 (by omega)).2.2.1]
    exact b12 e he
  · show (wNw T (n + 5 + ww)).2.2.1 (n + 3) e = 0
    rw [(o 3 (by omega)).2.2.1]
    exact b13 e
  · show (wNw T (n + 5 + ww)).2.2.1 (n + 5 + w) e = _
    rw [wNw_3]
    by_cases c : w = ww
    · rw [if_pos (by omega)]
    · rw [if_neg (by omega)]
      exact b14 w (by omega) e
  · rw [gsR5, if_neg (by omega), (o 1 (by omega)).2.2.2.2]
    exact b15 e
  · rw [gsR5, if_neg (by omega)]
    exact (congrFun (o 0 (by omega)).2.2.2.2 0).trans b16
  · rw [gsR5, if_neg (by omega)]
    exact (congrFun (o 0 (by omega)).2.2.2.2 1).trans b17
  · rw [gsR5, if_neg (by omega)]
    exact (congrFun (o 0 (by omega)).2.2.2.2 2).trans b18
  · rw [gsR5, if_neg (by omega)]
    exact (congrFun (o 0 (by omega)).2.2.2.2 3).trans b19
  · rw [gsR5]
    by_cases c : e = ww
    · rw [if_pos ⟨rfl, c⟩, if_pos (by omega), c]
    · rw [if_neg (fun z => c z.2), (o 4 (by omega)).2.2.2.2, b20 e]
      by_cases c2 : e < ww
      · rw [if_pos c2, if_pos (by omega)]
      · rw [if_neg c2, if_neg (by omega)]
theorem l7h : ∀ d s (T : GS), s + d = 10 → bkR T G n s 0 → ∃ T', X g 7 40 [.val (va_rf (some n)), .val (.int (nI s))] [] (gH N kc ks T) = X g 7 62 [.val (va_rf (some n)), .val (.int (nI 10))] [] (gH N kc ks T') ∧ bkR T' G n 10 0 := by
  intro d
  induction d with
  | zero =>
    intro s T hs hB
    have e : s = 10 := by omega
    subst e
    have h1 : nI 10 ≤ nI 10 := Int32.le_refl _
    refine ⟨T, ?_, hB⟩
    simp only [x7_40, x7_41, x7_42, x7_45, x7_46, gf_31_1 hB.2.1.1, hB.2.2.2.2.2.2.1, gN_11 hB.2.1.2.2.1, hB.2.2.1.2.1, h1, Option.bind_some, Option.toList_some, Option.toList_none, List.cons_append, List.nil_append, Option.isSome_some, if_true, eq_self, or_true, true_or, xb_01, mcl_cl, not_true_eq_false, not_false_eq_true, if_false]
  | succ d ih =>
    intro s T hs hB
    have h1 : ¬ nI 10 ≤ nI s := nI_ge (by omega) (by omega)
    have hx : xin (nI s) 10 = true := xin_nI (by omega) (by decide)
    have hc : (nI s).toNatClampNeg = s := nI_clamp (by omega)
    obtain ⟨T', g1, g2⟩ := ih (s + 1) _ (by omega) (bkR_h hB)
    refine ⟨T', ?_, g2⟩
    generalize X g 7 62 [.val (va_rf (some n)), .val (.int (nI 10))] [] (gH N kc ks T') = R at *
    simp only [x7_40, x7_41, x7_42, x7_45, x7_46, x7_49, x7_50, x7_53, x7_54, x7_55, x7_56, gf_31_1 hB.2.1.1, hB.2.2.2.2.2.2.1, gN_11 hB.2.1.2.2.1, hB.2.2.1.2.1, h1, gs_11 hB.2.1.2.2.1, hx, hc, Option.bind_some, Option.toList_some, Option.toList_none, List.cons_append, List.nil_append, Option.isSome_some, if_true, eq_self, or_true, true_or, xb_01, mcl_cl, not_true_eq_false, not_false_eq_true, if_false]
    simp only [x7_56, x7_59, nI_1]
    exact g1
theorem l7w : ∀ d w kc ks (T : GS), w + d = 6 → bkR T G n 10 w → ∃ T', X g 7 64 [.val (va_rf (some n)), .val (.int (nI w))] [] (gH (n + 5 + w) kc ks T) = some (none, gH (n + 11) (kc + d) (ks + 5 * d) T') ∧ bkR T' G n 10 6 := by
  intro d
  induction d with
  | zero =>
    intro w kc ks T hw hB
    have e : w = 6 := by omega
    subst e
    have h1 : nI 6 ≤ nI 6 := Int32.le_refl _
    refine ⟨T, ?_, hB⟩
    simp only [x7_64, x7_65, x7_66, x7_69, x7_70, x7_92, gf_31_3 hB.2.1.1, hB.2.2.2.2.2.2.2.2.1, gN_50 hB.2.1.2.2.2.2.1, hB.2.2.1.2.2.2, h1, Option.bind_some, Option.toList_some, Option.toList_none, List.cons_append, List.nil_append, Option.isSome_some, if_true, eq_self, or_true, true_or, xb_01, mcl_cl, not_true_eq_false, not_false_eq_true, if_false]
    rfl
  | succ d ih =>
    intro w kc ks T hw hB
    have h1 : ¬ nI 6 ≤ nI w := nI_ge (by omega) (by omega)
    have hx : xin (nI w) 6 = true := xin_nI (by omega) (by decide)
    have hc : (nI w).toNatClampNeg = w := nI_clamp (by omega)
    obtain ⟨T', g1, g2⟩ := ih (w + 1) (kc + 1) (ks + 5) _ (by omega) (bkR_w hB)
    refine ⟨T', ?_, g2⟩
    have o4 := wNw_o (T := T) (a := n + 5 + w) (q := n + 4) (by omega)
    have t4 : (wNw T (n + 5 + w)).1 (n + 4) = 50 := o4.1.trans hB.2.1.2.2.2.2.1
    have t4' : (wNw T (n + 5 + w)).2.1 (n + 4) = 6 := o4.2.1.trans hB.2.2.1.2.2.2
    have tw : (wNw T (n + 5 + w)).1 (n + 5 + w) = 14 := by rw [wNw_1, if_pos rfl]
    have hu : ∀ z, (some (n + 5 + w) : Option Nat) = some z → xcl (gH (n + 5 + w + 1) (kc + 1) (ks + 5) (wNw T (n + 5 + w))) z = some 9 := fun z hz => by
      cases hz
      exact gc_14 tw
    have k87 := c87 (g := g) (n := n + 5 + w + 1) (kc := kc + 1) (ks := ks + 5) (T := T) (a := n + 5 + w)
    have g1' : X g 7 64 [.val (va_rf (some n)), .val (.int (nI (w + 1)))] [] (gH (n + 5 + w + 1) (kc + 1) (ks + 5) (gsR (wNw T (n + 5 + w)) (n + 4) w (some (n + 5 + w)))) = some (none, gH (n + 11) (kc + (d + 1)) (ks + 5 * (d + 1)) T') := by
      rw [show kc + (d + 1) = kc + 1 + d by omega, show ks + 5 * (d + 1) = ks + 5 + 5 * d by omega]
      exact g1
    simp only [x7_64, x7_65, x7_66, x7_69, x7_70, x7_73, x7_74, x7_77, x7_78, x7_81, x7_82, x7_85, x7_86, gf_31_3 hB.2.1.1, hB.2.2.2.2.2.2.2.2.1, gN_50 hB.2.1.2.2.2.2.1, hB.2.2.1.2.2.2, h1, gn_14', gH1, k87, gs_50 t4 hu, t4', hx, hc, Option.bind_some, Option.toList_some, Option.toList_none, List.cons_append, List.nil_append, Option.isSome_some, if_true, eq_self, or_true, true_or, xb_01, mcl_cl, not_true_eq_false, not_false_eq_true, if_false]
    simp only [x7_86, x7_89, nI_1]
    exact g1'
/-- a bank, empty -/
def bkF (T G : GS) (n : Nat) : Prop := (∀ q, ¬ (n ≤ q ∧ q < n + 11) → eqA T G q) ∧ (T.1 n = 9 ∧ T.1 (n + 1) = 10 ∧ T.1 (n + 2) = 11 ∧ T.1 (n + 3) = 12 ∧ T.1 (n + 4) = 13 ∧ ∀ w, w < 6 → T.1 (n + 5 + w) = 14) ∧ (T.2.1 (n + 1) = 10 ∧ T.2.1 (n + 2) = 10 ∧ T.2.1 (n + 3) = 10 ∧ T.2.1 (n + 4) = 6) ∧ ((∀ e, e < 10 → T.2.2.1 (n + 2) e = -1) ∧ (∀ e, T.2.2.1 (n + 3) e = 0) ∧ ∀ w, w < 6 → ∀ e, T.2.2.1 (n + 5 + w) e = if e = 2 then 1 else if e = 4 then 8 else 0) ∧ (∀ e, T.2.2.2.2 (n + 1) e = none)
theorem bkF_of (hB : bkR T G n 10 6) : ∃ T', (∀ N kc ks, gH N kc ks T = gH N kc ks T') ∧ bkF T' G n := by
  obtain ⟨b1, ⟨b2, b3, b4, b5, b6, b7⟩, ⟨b8, b9, b10, b11⟩, ⟨b12, b13, b14⟩, ⟨b15, b16, b17, b18, b19, b20⟩⟩ := hB
  have r : ∀ q, (grol (grol T (n + 4) 13) n 9).1 q = if q = n then 9 else if q = n + 4 then 13 else T.1 q := fun q => rfl
  refine ⟨grol (grol T (n + 4) 13) n 9, fun N kc ks => ?_, fun q hq => ?_, ⟨?_, ?_, ?_, ?_, ?_, fun w hw => ?_⟩, ⟨b8, b9, b10, b11⟩, ⟨b12, b13, b14⟩, b15⟩
  · rw [gr_gen (G := T) (a := n + 4) (r := 13), gr_gen (G := grol T (n + 4) 13) (a := n) (r := 9)]
    · have r1 : (grol T (n + 4) 13).1 n = 31 := by
        show (if n = n + 4 then 13 else T.1 n) = 31
        rw [if_neg (by omega)]
        exact b2
      have r2 : (grol (grol T (n + 4) 13) n 9).1 n = 9 := if_pos rfl
      unfold gcl gfs
      rw [r1, r2]
      show some (Sum.inr (1, (List.range 4).map _)) = some (Sum.inr (1, (List.range 4).map _))
      simp [List.range_succ, gval, fd, grol, b16, b17, b18, b19]
    · have r2 : (grol T (n + 4) 13).1 (n + 4) = 13 := if_pos rfl
      unfold gcl
      rw [b6, r2]
      show some (Sum.inl (19, (grol T (n + 4) 13).2.1 (n + 4), gel _ (n + 4))) = some (Sum.inl (19, T.2.1 (n + 4), gel _ (n + 4)))
      have e1 : (grol T (n + 4) 13).2.1 (n + 4) = T.2.1 (n + 4) := rfl
      rw [e1]
      congr 4
      funext e
      rw [gel_13 r2, gel_R b6 (by decide) (by decide) (by decide), b20, e1, b11]
  · obtain ⟨e1, e2, e3, e4, e5⟩ := b1 q (by omega)
    refine ⟨?_, e2, e3, e4, e5⟩
    rw [r, if_neg (by omega), if_neg (by omega)]
    exact e1
  · rw [r, if_pos rfl]
  · rw [r, if_neg (by omega), if_neg (by omega)]
    exact b3
  · rw [r, if_neg (by omega), if_neg (by omega)]
    exact b4
  · rw [r, if_neg (by omega), if_neg (by omega)]
    exact b5
  · rw [r, if_neg (by omega), if_pos rfl]
  · rw [r, if_neg (by omega), if_neg (by omega)]
    exact b7 w hw
theorem gn_31' : xnew (gH n kc ks G) (.inr (1, [va_rf none, va_rf none, va_rf none, va_rf none])) 4 = gH (n + 1) (kc + 1) (ks + 4) (gnew G n 31 0) := gn_31
theorem c7 : ∃ T, X g 7 0 [.val (va_rf (some n)), .unset] [] (gH (n + 1) kc ks (gnew G n 31 0)) = some (none, gH (n + 11) (kc + 10) (ks + 66) T) ∧ bkF T G n := by
  obtain ⟨T1, h1, b1⟩ := l7h (g := g) (N := n + 5) (kc := kc + 4) (ks := ks + 36) (G := G) (n := n) 10 0 _ (by omega) bkR_0
  obtain ⟨T2, h2, b2⟩ := l7w (g := g) (G := G) (n := n) 6 0 (kc + 4) (ks + 36) T1 (by omega) b1
  obtain ⟨T3, h3, b3⟩ := bkF_of b2
  refine ⟨T3, ?_, b3⟩
  rw [h3] at h2
  have h1' : X g 7 40 [.val (va_rf (some n)), .val (.int 0)] [] (gH (n + 1 + 1 + 1 + 1 + 1) (kc + 1 + 1 + 1 + 1) (ks + 10 + 10 + 10 + 6) _) = _ := h1
  have h2' : X g 7 64 [.val (va_rf (some n)), .val (.int 0)] [] (gH (n + 5) (kc + 4) (ks + 36) T1) = some (none, gH (n + 11) (kc + 10) (ks + 66) T3) := h2
  have p10 : ¬ (10 : Int32) < 0 := by decide
  have c10 : (10 : Int32).toNatClampNeg = 10 := by decide
  have m10 : ¬ 65536 < (10 : Int32).toNatClampNeg := by decide
  have p6 : ¬ (6 : Int32) < 0 := by decide
  have c6 : (6 : Int32).toNatClampNeg = 6 := by decide
  have m6 : ¬ 65536 < (6 : Int32).toNatClampNeg := by decide
  have r0 : (gnew (gnew G n 31 0) (n + 1) 10 10).1 n = 31 := by rw [gnew1, if_neg (by omega), gnew1, if_pos rfl]
  have r1 : (gnew (gsR (gnew (gnew G n 31 0) (n + 1) 10 10) n 0 (some (n + 1))) (n + 2) 11 10).1 n = 31 := by rw [gnew1, if_neg (by omega)]; exact r0
  have r2 : (gnew (gsR (gnew (gsR (gnew (gnew G n 31 0) (n + 1) 10 10) n 0 (some (n + 1))) (n + 2) 11 10) n 1 (some (n + 2))) (n + 3) 12 10).1 n = 31 := by rw [gnew1, if_neg (by omega)]; exact r1
  have r3 : (gnew (gsR (gnew (gsR (gnew (gsR (gnew (gnew G n 31 0) (n + 1) 10 10) n 0 (some (n + 1))) (n + 2) 11 10) n 1 (some (n + 2))) (n + 3) 12 10) n 2 (some (n + 3))) (n + 4) 50 6).1 n = 31 := by rw [gnew1, if_neg (by omega)]; exact r2
  have hg1 : ∀ kc ks (G : GS), xnew (gH (n + 1 + 1) kc ks G) (.inl (0, 10, fun _ => .int 0)) 10 = gH (n + 1 + 1 + 1) (kc + 1) (ks + 10) (gnew G (n + 2) 11 10) := fun kc ks G => gn_11
  have hg2 : ∀ kc ks (G : GS), xnew (gH (n + 1 + 1 + 1) kc ks G) (.inl (0, 10, fun _ => .int 0)) 10 = gH (n + 1 + 1 + 1 + 1) (kc + 1) (ks + 10) (gnew G (n + 3) 12 10) := fun kc ks G => gn_12
  simp only [x7_0, x7_1, x7_4, x7_5, x7_7, x7_10, x7_13, x7_14, x7_16, x7_18, x7_21, x7_22, x7_24, x7_26, x7_29, x7_30, x7_32, x7_35, x7_38, x7_39, x7_7 p10 m10, x7_16 p10 m10, x7_24 p10 m10, x7_32 p6 m6, c10, c6, gn_10, gH1, gf_31_0 r0, gp_31_0 r0, hg1, gf_31_1 r1, gp_31_1 r1, hg2, gf_31_2 r2, gp_31_2 r2, gn_50, gf_31_3 r3, gp_31_3 r3, Option.isSome_some, if_true, Option.bind_some, Option.toList_some, Option.toList_none, List.cons_append, List.nil_append, Option.isSome_some, if_true, eq_self, or_true, true_or, xb_01, mcl_cl, not_true_eq_false, not_false_eq_true, if_false]
  rw [h1']
  simp only [x7_62, x7_63, Option.bind_some, Option.toList_some, Option.toList_none, List.cons_append, List.nil_append, Option.isSome_some, if_true, eq_self, or_true, true_or, xb_01, mcl_cl, not_true_eq_false, not_false_eq_true, if_false]
  exact h2'
end K53
