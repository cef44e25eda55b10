/-! THE LAW, 3: its loop, its run -/
section K62
variable {g : xG} {n kc ks c p mu b q : Nat} {G T : GS} {S : MS} {ρ : Nat → Nat}
/-- one turn of the law -/
theorem stp (hI : inv g c mu n G S) (hp : p + 7 ≤ g.2.1) (hL : g.2.1 ≤ 3584) : ∃ n' kc' ks' G' S', X g 254 27 [.val (va_rf (some g.1)), .val (va_rf (some c)), .val (va_rf (some mu)), .val (.int (nI p))] [] (cH n kc ks G mu S) = X g 254 1458 [.val (va_rf (some g.1)), .val (va_rf (some c)), .val (va_rf (some mu)), .val (.int (nI p))] [] (cH n' kc' ks' G' mu S') ∧ inv g c mu n' G' S' ∧ kc' ≤ kc + 900 ∧ ks' ≤ ks + 9000 := by
  have z1 := (cH_none hI (Or.inl rfl)).1
  have z2 := (cH_none hI (Or.inl rfl)).2 S
  have l0 : xaldi g (cH n kc ks G mu S) g.1 (nI p) = some (.int (g.2.2.1 p)) := by rw [cH_ld z1 z2, if_pos (xin_nI (by omega) (by omega)), nI_clamp (by omega)]
  have hX : X g 254 27 [.val (va_rf (some g.1)), .val (va_rf (some c)), .val (va_rf (some mu)), .val (.int (nI p))] [] (cH n kc ks G mu S) = X g 254 33 [.val (va_rf (some g.1)), .val (va_rf (some c)), .val (va_rf (some mu)), .val (.int (nI p))] [.int (g.2.2.1 p &&& 63)] (cH n kc ks G mu S) := by
    simp only [x254_27, x254_28, x254_29, x254_30, x254_32, l0, Option.bind_some, Option.toList_some, Option.toList_none, List.cons_append, List.nil_append, Option.isSome_some, if_true, eq_self, or_true, true_or, xb_01, mcl_cl, not_true_eq_false, not_false_eq_true, if_false]
  rw [hX]
  generalize g.2.2.1 p &&& 63 = op
  by_cases hx : op.toInt < 0 ∨ 34 < op.toInt
  · refine ⟨n, kc, ks, G, S, ?_, hI, by omega, by omega⟩
    rw [x254_33_d hx]
  · have h0 : 0 ≤ op.toInt := by omega
    have e1 : op = nI (tn op) := nI_tn h0
    have e2 : tn op < 35 := by unfold tn; omega
    generalize tn op = t at *
    subst e1
    have hc : t = 0 ∨ t = 1 ∨ t = 2 ∨ t = 3 ∨ t = 4 ∨ t = 5 ∨ t = 6 ∨ t = 7 ∨ t = 8 ∨ t = 9 ∨ t = 10 ∨ t = 11 ∨ t = 12 ∨ t = 13 ∨ t = 14 ∨ t = 15 ∨ t = 16 ∨ t = 17 ∨ t = 18 ∨ t = 19 ∨ t = 20 ∨ t = 21 ∨ t = 22 ∨ t = 23 ∨ t = 24 ∨ t = 25 ∨ t = 26 ∨ t = 27 ∨ t = 28 ∨ t = 29 ∨ t = 30 ∨ t = 31 ∨ t = 32 ∨ t = 33 ∨ t = 34 := by omega
    rcases hc with h | h | h | h | h | h | h | h | h | h | h | h | h | h | h | h | h | h | h | h | h | h | h | h | h | h | h | h | h | h | h | h | h | h | h
    · rw [h, show nI 0 = (0 : Int32) from rfl, x254_33_v0]
      exact q0 hI hp hL
    · rw [h, show nI 1 = (1 : Int32) from rfl, x254_33_v1]
      exact q1 hI hp hL
    · rw [h, show nI 2 = (2 : Int32) from rfl, x254_33_v2]
      exact q2 hI hp hL
    · rw [h, show nI 3 = (3 : Int32) from rfl, x254_33_v3]
      exact q3 hI hp hL
    · rw [h, show nI 4 = (4 : Int32) from rfl, x254_33_v4]
      exact q4 hI hp hL
    · rw [h, show nI 5 = (5 : Int32) from rfl, x254_33_v5]
      exact q5 hI hp hL
    · rw [h, show nI 6 = (6 : Int32) from rfl, x254_33_v6]
      exact q6 hI hp hL
    · rw [h, show nI 7 = (7 : Int32) from rfl, x254_33_v7]
      exact q7 hI hp hL
    · rw [h, show nI 8 = (8 : Int32) from rfl, x254_33_v8]
      exact q8 hI hp hL
    · rw [h, show nI 9 = (9 : Int32) from rfl, x254_33_v9]
      exact q9 hI hp hL
    · rw [h, show nI 10 = (10 : Int32) from rfl, x254_33_v10]
      exact q10 hI hp hL
    · rw [h, show nI 11 = (11 : Int32) from rfl, x254_33_v11]
      exact q11 hI hp hL
    · rw [h, show nI 12 = (12 : Int32) from rfl, x254_33_v12]
      exact q12 hI hp hL
    · rw [h, show nI 13 = (13 : Int32) from rfl, x254_33_v13]
      exact q13 hI hp hL
    · rw [h, show nI 14 = (14 : Int32) from rfl, x254_33_v14]
      exact q14 hI hp hL
    · rw [h, show nI 15 = (15 : Int32) from rfl, x254_33_v15]
      exact q15 hI hp hL
    · rw [h, show nI 16 = (16 : Int32) from rfl, x254_33_v16]
      exact q16 hI hp hL
    · rw [h, show nI 17 = (17 : Int32) from rfl, x254_33_v17]
      exact q17 hI hp hL
    · rw [h, show nI 18 = (18 : Int32) from rfl, x254_33_v18]
      exact q18 hI hp hL
    · rw [h, show nI 19 = (19 : Int32) from rfl, x254_33_v19]
      exact q19 hI hp hL
    · rw [h, show nI 20 = (20 : Int32) from rfl, x254_33_v20]
      exact q20 hI hp hL
    · rw [h, show nI 21 = (21 : Int32) from rfl, x254_33_v21]
      exact q21 hI hp hL
    · rw [h, show nI 22 = (22 : Int32) from rfl, x254_33_v22]
      exact q22 hI hp hL
    · rw [h, show nI 23 = (23 : Int32) from rfl, x254_33_v23]
      exact q23 hI hp hL
    · rw [h, show nI 24 = (24 : Int32) from rfl, x254_33_v24]
      exact q24 hI hp hL
    · rw [h, show nI 25 = (25 : Int32) from rfl, x254_33_v25]
      exact q25 hI hp hL
    · rw [h, show nI 26 = (26 : Int32) from rfl, x254_33_v26]
      exact q26 hI hp hL
    · rw [h, show nI 27 = (27 : Int32) from rfl, x254_33_v27]
      exact q27 hI hp hL
    · rw [h, show nI 28 = (28 : Int32) from rfl, x254_33_v28]
      exact q28 hI hp hL
    · rw [h, show nI 29 = (29 : Int32) from rfl, x254_33_v29]
      exact q29 hI hp hL
    · rw [h, show nI 30 = (30 : Int32) from rfl, x254_33_v30]
      exact q30 hI hp hL
    · rw [h, show nI 31 = (31 : Int32) from rfl, x254_33_v31]
      exact q31 hI hp hL
    · rw [h, show nI 32 = (32 : Int32) from rfl, x254_33_v32]
      exact q32 hI hp hL
    · rw [h, show nI 33 = (33 : Int32) from rfl, x254_33_v33]
      exact q33 hI hp hL
    · rw [h, show nI 34 = (34 : Int32) from rfl, x254_33_v34]
      exact q34 hI hp hL
theorem law_loop (hL : g.2.1 ≤ 3584) : ∀ f p n kc ks (G : GS) (S : MS), inv g c mu n G S → p ≤ 3600 → g.2.1 < p + 7 + 7 * f → ∃ h', X g 254 18 [.val (va_rf (some g.1)), .val (va_rf (some c)), .val (va_rf (some mu)), .val (.int (nI p))] [] (cH n kc ks G mu S) = some (some (.int 1), h') ∧ h'.2.1 ≤ kc + 900 * f ∧ h'.2.2.1 ≤ ks + 9000 * f := by
  have fin : ∀ p n kc ks (G : GS) (S : MS), inv g c mu n G S → p ≤ 3600 → g.2.1 < p + 7 → X g 254 18 [.val (va_rf (some g.1)), .val (va_rf (some c)), .val (va_rf (some mu)), .val (.int (nI p))] [] (cH n kc ks G mu S) = some (some (.int 1), cH n kc ks G mu S) := by
    intro p n kc ks G S hI hp hlt
    have z1 := (cH_none hI (Or.inl rfl)).1
    have z2 := (cH_none hI (Or.inl rfl)).2 S
    have c1 : nI g.2.1 - 7 < nI p := by
      rw [i32_lt, show (7 : Int32) = nI 7 from rfl, pk_sub_toInt (by omega) (by omega), nI_toInt (by omega)]
      omega
    simp only [x254_18, x254_19, x254_20, x254_21, x254_23, x254_24, x254_1464, x254_1465, cH_len z1 z2, c1, x254_1465 (Or.inr rfl), Option.bind_some, Option.toList_some, Option.toList_none, List.cons_append, List.nil_append, Option.isSome_some, if_true, eq_self, or_true, true_or, xb_01, mcl_cl, not_true_eq_false, not_false_eq_true, if_false]
  intro f
  induction f with
  | zero =>
    intro p n kc ks G S hI hp hlt
    exact ⟨_, fin p n kc ks G S hI hp (by omega), by show kc ≤ _; omega, by show ks ≤ _; omega⟩
  | succ f ih =>
    intro p n kc ks G S hI hp hlt
    by_cases hc : p + 7 ≤ g.2.1
    · obtain ⟨n', kc', ks', G', S', h1, h2, h3, h4⟩ := stp (kc := kc) (ks := ks) hI hc hL
      obtain ⟨h', i1, i2, i3⟩ := ih (p + 7) n' kc' ks' G' S' h2 (by omega) (by omega)
      have z1 := (cH_none hI (Or.inl rfl)).1
      have z2 := (cH_none hI (Or.inl rfl)).2 S
      have c1 : ¬ nI g.2.1 - 7 < nI p := by
        rw [i32_lt, show (7 : Int32) = nI 7 from rfl, pk_sub_toInt (by omega) (by omega), nI_toInt (by omega)]
        omega
      have a7 : nI p + 7 = nI (p + 7) := nI_add p 7
      refine ⟨h', ?_, by omega, by omega⟩
      simp only [x254_18, x254_19, x254_20, x254_21, x254_23, x254_24, cH_len z1 z2, c1, h1, Option.bind_some, Option.toList_some, Option.toList_none, List.cons_append, List.nil_append, Option.isSome_some, if_true, eq_self, or_true, true_or, xb_01, mcl_cl, not_true_eq_false, not_false_eq_true, if_false]
      simp only [x254_1458, x254_1461, a7]
      exact i1
    · exact ⟨_, fin p n kc ks G S hI hp (by omega), by show kc ≤ _; omega, by show ks ≤ _; omega⟩
/-- nothing -/
def gZ : GS := (fun _ => 0, fun _ => 0, fun _ _ => 0, fun _ _ => 0, fun _ _ => none)
theorem gn_40' : xnew (gH n kc ks G) (.inr (10, [va_rf none, va_rf none, va_rf none, va_rf none, va_rf none, va_rf none, va_rf none, va_rf none, va_rf none, va_rf none, va_rf none, .int 0, .int 0, .int 0, .int 0])) 15 = gH (n + 1) (kc + 1) (ks + 15) (gnew G n 40 0) := gn_40
theorem mPP_new : xnew (gH mu kc ks G) (.inr (11, [.int 0, .long 0, va_rf none, va_rf none, va_rf none, va_rf none, va_rf none, va_rf none, va_rf none, va_rf none, .int 0, .long 0, va_rf none, va_rf none, va_rf none, va_rf none, .int 0, va_rf none, va_rf none, va_rf none, va_rf none, va_rf none, va_rf none, .int 0, .int 0, .int 0, va_rf none, va_rf none, va_rf none, va_rf none, .int 0, va_rf none, va_rf none, va_rf none, .int 0, .int 0, .int 0, va_rf none, va_rf none, va_rf none, va_rf none, va_rf none, va_rf none, .int 0, va_rf none, va_rf none, va_rf none, va_rf none, va_rf none, va_rf none, va_rf none])) 51 = xext (mPP 0 0 (mu + 1) (kc + 1) (ks + 51) mu mS0) (gcl G) := by
  refine xH_ext rfl rfl rfl fun q => ?_
  by_cases hq : q = mu
  · subst hq
    rw [xext_some mPP_o]
    show (if q = q then some _ else _) = _
    rw [if_pos rfl]
    rfl
  · have e1 : (mPP 0 0 (mu + 1) (kc + 1) (ks + 51) mu mS0).2.2.2 q = none := by
      show (if q = mu then _ else if mu < q ∧ q ≤ mu + 0 then _ else none) = none
      rw [if_neg hq, if_neg (by omega)]
    rw [xext_none e1]
    show (if q = mu then some _ else gcl G q) = _
    rw [if_neg hq]
theorem rA_up_n {n' : Nat} (h : rA g G c n b ρ S) (hn : n ≤ n') : rA g G c n' b ρ S := by
  obtain ⟨⟨a1, a2, a3, a4, a5, a6, a7⟩, r⟩ := h
  exact ⟨⟨a1, a2, a3, by omega, by omega, a6, fun q hq => a7 q (by omega)⟩, r⟩
/-- the law's whole run -/
theorem law_run {L : Nat} {xs : Nat → Int32} (hL : L ≤ 3584) (N0 sv sa : Nat) (hb : b < N0) (hsv : sv < N0) (hne : ¬ sv = b) : ∃ h' : xH, X (b, L, xs, sv, sa) 254 0 [.val (va_rf (some b)), .unset, .unset, .unset] [] (N0, 0, 0, fun _ => none) = some (some (.int 1), h') ∧ h'.2.1 ≤ 600000 ∧ h'.2.2.1 ≤ 7000000 := by
  have hh0 : ((N0, 0, 0, fun _ => none) : xH) = gH N0 0 0 gZ := xH_ext rfl rfl rfl fun q => (show none = gcl gZ q from (gcl_0 (G := gZ) (q := q) rfl).symm)
  rw [hh0]
  have hwZ : gW gZ := ⟨fun a ha => absurd ha (by show ¬ (0 : Nat) = 1; decide), fun a ha => absurd ha (by show ¬ (0 : Nat) = 6; decide), fun a ha => absurd ha (by show ¬ (0 : Nat) = 9; decide)⟩
  obtain ⟨T, t1, t2, t3, t4, t5, t6, t7, t8, t9, t10, t11, t12, t13, t14, t15, t16⟩ := c91 (g := (b, L, xs, sv, sa)) (c := N0) (kc := 0 + 1) (ks := 0 + 15) (G := gZ) hwZ (fun _ _ => rfl)
  have zb : T.1 b = 0 := (t2 b hb).1
  have zs : T.1 sv = 0 := (t2 sv hsv).1
  have hA := rA_new (g := (b, L, xs, sv, sa)) t3 t4 t5 t6 t7 t8 t9 t10 t11 t12 t13 t14 t15 t16 hb hsv hne zb zs
  have hz : ∀ q, N0 + 27 ≤ q → q ≤ N0 + 27 + 38 → T.1 q = 0 := fun q h1 _ => t5 q h1
  have hI : inv (b, L, xs, sv, sa) N0 (N0 + 27) (N0 + 27 + 39) T mNew := ⟨N0 + 16, fun _ => 0, rA_up_n hA (by omega), t13 1, by omega, hz, show b < N0 + 27 by omega, show sv < N0 + 27 by omega⟩
  have hM : ∀ a, (xro (b, L, xs, sv, sa) a).isSome = true → gcl T a = none := fun a ha => (cH_none hI (xro_a ha)).1
  obtain ⟨KC, KS, e163', hKC, hKS⟩ : ∃ KC KS, X (b, L, xs, sv, sa) 163 0 [.val (va_rf (some (N0 + 27))), .unset] [] (xext (mPP 0 0 (N0 + 27 + 1) (0 + 1 + 26 + 1) (0 + 15 + 1076 + 51) (N0 + 27) mS0) (gcl T)) = some (none, cH (N0 + 27 + 39) KC KS T (N0 + 27) mNew) ∧ KC ≤ 100 ∧ KS ≤ 20000 := by
    have h1 := X_ext hM (e163 (g := (b, L, xs, sv, sa)) (mu := N0 + 27) (kc := 0 + 1 + 26 + 1) (ks := 0 + 15 + 1076 + 51))
    refine ⟨66, 11728, ?_, by omega, by omega⟩
    rw [cH_eq hz]
    exact h1
  obtain ⟨h', i1, i2, i3⟩ := law_loop (g := (b, L, xs, sv, sa)) (c := N0) (mu := N0 + 27) hL 512 0 (N0 + 27 + 39) KC KS T mNew hI (by omega) (show L < 0 + 7 + 7 * 512 by omega)
  refine ⟨h', ?_, by omega, by omega⟩
  have i1' : X (b, L, xs, sv, sa) 254 18 [.val (va_rf (some b)), .val (va_rf (some N0)), .val (va_rf (some (N0 + 27))), .val (.int 0)] [] (cH (N0 + 27 + 39) KC KS T (N0 + 27) mNew) = some (some (.int 1), h') := i1
  simp only [x254_0, x254_3, x254_4, x254_7, x254_8, x254_11, x254_12, x254_15, x254_16, x254_17, gn_40', gH1, t1, mPP_new, e163', Option.bind_some, Option.toList_some, Option.toList_none, List.cons_append, List.nil_append, Option.isSome_some, if_true, eq_self, or_true, true_or, xb_01, mcl_cl, not_true_eq_false, not_false_eq_true, if_false]
  exact i1'
end K62
