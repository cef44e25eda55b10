/-! THE CLASS beside the reference, 34: spell -/
section K47
variable {g : xG} {n kc ks a b c s t w q l x y jn d r p n' e kb n1 kc1 ks1 m N r0 pp : Nat} {G T U G1 G2 : GS} {h : xH} {i j k v i1 i2 x7 x8 kk : Int32} {u z : Int64} {S S1 S' V W : MS} {ρ κ ρ' : Nat → Nat} {L L' : List Nat} {o : Option Nat} {tx : List Int32}
theorem rA_spl (hA : rA g G c n b ρ S) (hs : spl T G (c + 13) tx) (hl : tx.length ≤ 673) : rA g T c n b ρ (mSp (msI S 30 0) tx) := by
  obtain ⟨k0, k1, k2, k3, ⟨k4, _⟩, ⟨k5, _⟩, ⟨k6, _⟩, k7, ⟨k8, _⟩, ⟨k9, _⟩, k10, ⟨k11, _⟩, ⟨k12, _⟩, k13, ⟨k14, _⟩, ⟨k15, _⟩⟩ := hA.1.2.1
  obtain ⟨r1, r2, r3, r4, r5, r6, r7, r8, r9⟩ := hA.2.2.2.2.2.2.2.1
  obtain ⟨b1, b2, b3, b4, b5, b6⟩ := hA.2.2.2.2.2.2.2.2
  obtain ⟨s1, s2, s3, s4, s5, s6, s7⟩ := hs
  have hAg : agr T G [26, 27, 28] := by
    intro q hq
    refine ⟨by rw [s1], by rw [s2], s5 q ?_ ?_ ?_, by rw [s3], by rw [s4]⟩
    · intro z
      exact hq (by rw [z, k13]; decide)
    · intro z
      exact hq (by rw [z, k14]; decide)
    · intro z
      exact hq (by rw [z, k15]; decide)
  have ec := hAg c (by rw [k0]; decide)
  have x1 := hAg (c + 1) (by rw [k1]; decide)
  have x6 := hAg (c + 6) (by rw [k6]; decide)
  have x7 := hAg (c + 7) (by rw [k7]; decide)
  have x10 := hAg (c + 10) (by rw [k10]; decide)
  have x11 := hAg (c + 11) (by rw [k11]; decide)
  have e30 : (msI S 30 0).1 30 = nI 0 := rfl
  obtain ⟨p1, p2, p3⟩ := mSp_B tx (msI S 30 0)
  have q1 : ∀ z, z ≠ 30 → (mSp (msI S 30 0) tx).1 z = S.1 z := fun z hz => by rw [p3 z hz]; simp [msI, hz]
  have q30 : (mSp (msI S 30 0) tx).1 30 = nI tx.length := by rw [mSp_30 tx _ 0 e30, Nat.zero_add]
  have qA : ∀ z, z ≠ 29 → (mSp (msI S 30 0) tx).2.2.1 z = S.2.2.1 z := fun z hz => funext fun t => by rw [mSp_A tx _ hz]; rfl
  have q29 := (mSp_29 tx (msI S 30 0) 0 e30 (by omega)).2
  refine rA_ms hA hAg (by decide) s1 s2 (by rw [s4]) (by rw [s4]) (by rw [x7.2.2.1]) (by rw [x7.2.2.1]) ⟨⟨q1 23 (by decide), q1 24 (by decide), q1 43 (by decide)⟩, fun z hz => qA z (by rintro rfl; exact absurd hz (by decide)), fun q _ => by rw [p1]; rfl⟩ ?_ (by rw [q1 10 (by decide), p2]; exact b2) (by rw [q1 34 (by decide), qA 33 (by decide)]; exact b3) ⟨tx.length, q30, hl⟩ ?_ (by rw [q1 25 (by decide)]; exact b6)
  · unfold rMs
    rw [x1.2.2.1, x1.2.2.2.1, x6.2.2.1, ec.2.2.1, x10.2.2.1, x11.2.2.1, q1 10 (by decide), p2, qA 9 (by decide), q1 25 (by decide), qA 26 (by decide), q1 34 (by decide), qA 33 (by decide), q30, tn_nI (by omega)]
    refine ⟨r1, r2, r3, r4, r5, s6, fun e he => ?_, r8, r9⟩
    have := q29 e he
    rw [Nat.zero_add] at this
    rw [this]
    exact s7 e he
  · unfold mLt
    rw [qA 32 (by decide)]
    exact b5
theorem s120 (hA : rA g G c n b ρ S) (hp : G.2.2.1 (c + 7) 1 = 0) : sim g c n kc ks G 120 [.val (va_rf (some c)), .val (.int i), .unset] (.int (fSpell S i).1) (fSpell S i).2 := by
  have k0 : G.1 c = 15 := hA.1.2.1.1
  have hb := hA.2.1
  have hB := hA.2.2.1
  have h10 : ¬ (1 : Int32) = 0 := by decide
  unfold fSpell
  cases e1 : mSlot i with
  | false =>
    rw [if_pos (by rw [sNo_f e1]; decide), sNo_f e1]
    refine sim_same hA hp ?_
    simp only [x120_0, x120_1, x120_4, x120_7, x120_8, x120_9, x120_10, x120_13, x120_14, x120_17, x120_18, x120_19, x120_22, x120_23, x120_26, x120_27, x120_30, x120_31, x120_32, x120_35, x120_36, x120_39, x120_40, x120_43, x120_46, c127, e1, xb_f, Option.bind_some, Option.toList_some, Option.toList_none, List.cons_append, List.nil_append, Option.isSome_some, if_true, eq_self, or_true, true_or, xb_01, mcl_cl, not_true_eq_false, not_false_eq_true, if_false]
  | true =>
    have k9 := c9 (g := g) (n := n) (kc := kc) (ks := ks) (i := i) hA.1.1 hB.1
    cases e2 : mRow S (tn i) with
    | false =>
      obtain ⟨q1, q2, q3, _⟩ := sl_none hA e1 e2
      have k11 := c11 (g := g) (n := n) (kc := kc) (ks := ks) (i := i) hA.1.1 hB.1
      rw [q1] at k9
      rw [q2] at k11
      rw [if_pos q3]
      refine sim_same hA hp ?_
      simp only [x120_0, x120_1, x120_4, x120_7, x120_8, x120_9, x120_10, x120_13, x120_14, x120_17, x120_18, x120_19, x120_22, x120_23, x120_26, x120_27, x120_30, x120_31, x120_32, x120_35, x120_36, x120_39, x120_40, x120_43, x120_46, c127, e1, xb_t, h10, gf_15_9 k0, hb, gc_9 hB.1, k9, k11, Option.bind_some, Option.toList_some, Option.toList_none, List.cons_append, List.nil_append, Option.isSome_some, if_true, eq_self, or_true, true_or, xb_01, mcl_cl, not_true_eq_false, not_false_eq_true, if_false]
    | true =>
      obtain ⟨q1, q2, q3, q4, q5, q6, q7⟩ := sl_yes hA e1 e2
      rw [q1] at k9
      rw [if_neg (fun z => z q5)]
      have hne : ¬ (some (ρ (mr S (tn i))) = none) := by simp
      obtain ⟨_, _, _, _, _, _, _, _, _, _, _, _, _, y13, y14, y15⟩ := hA.1.2.1
      have hL : pL G (c + 13) := ⟨y13, y14, y15⟩
      have hO := hA.2.2.2.2.2.2.2.2.1
      generalize hr : mr S (tn i) = r at *
      obtain ⟨z1, z2⟩ := mz_eq hO.1 q4
      obtain ⟨m1, m2⟩ := hO.2.2.2.2.1 r q4
      have hk9 : S.2.2.1 2 r = nI (tn (S.2.2.1 2 r)) := nI_tn m1
      have hk10 : tn (S.2.2.1 2 r) < 10 := by
        generalize S.2.2.1 2 r = kx at m1 m2
        unfold tn
        omega
      -- the empty paper
      have hs0 : spl (gsI G (c + 13) 2 0) G (c + 13) [] := by
        refine ⟨rfl, rfl, rfl, rfl, fun q h1 _ _ => ?_, ?_, fun e he => absurd he (by simp)⟩
        · funext t
          rw [gsI3, if_neg (fun z => h1 z.1)]
        · rw [gsI3, if_pos ⟨rfl, rfl⟩]
          rfl
      have y13' : (gsI G (c + 13) 2 0).1 (c + 13) = 26 := y13
      have hlet : ∀ d, d < 10 → (xlet d).toInt8.toInt32 = xlet d := by decide
      have hcells : ∀ p, p < mz S r → okl (S.2.2.1 5 (32 * r + p)) (S.2.2.2 6 (32 * r + p)) ∧ (S.2.2.1 5 (32 * r + p)).toInt ≤ 10 := by
        intro p hp'
        have := hO.2.2.2.2.2 (32 * r + p) (by omega)
        exact ⟨this, this.2.2.2⟩
      have hlen := sCls_21 (f := fun p => S.2.2.1 5 (32 * r + p)) (F := fun p => S.2.2.2 6 (32 * r + p)) (mz S r) 0 (fun x _ hx => hcells x (by omega))
      obtain ⟨T1, h1, h2, _⟩ := spl_60 (g := g) (n := n) (kc := kc) (ks := ks) (k := xlet (tn (S.2.2.1 2 r))) hL hs0 (by decide) (hlet _ hk10)
      rw [List.nil_append] at h2
      have l1 : ∀ x : Int32, [x].length = 1 := fun _ => rfl
      obtain ⟨T2, g1, g2⟩ := l57 (g := g) (n := n) (kc := kc) (ks := ks) (pp := c + 13) (f := fun p => S.2.2.1 5 (32 * r + p)) (F := fun p => S.2.2.2 6 (32 * r + p)) hL hA.1.1 q3.1 q3.2.2.1 (fun p hp' => ⟨(q3.2.2.2 p hp').1, (q3.2.2.2 p hp').2, (hcells p hp').2⟩) (mz S r) 0 T1 [xlet (tn (S.2.2.1 2 r))] (by omega) (by rw [l1]; omega) h2
      have htx : [xlet (tn (S.2.2.1 2 r))] ++ sCls (fun p => S.2.2.1 5 (32 * r + p)) (fun p => S.2.2.2 6 (32 * r + p)) 0 (mz S r) = sTxt S r := rfl
      rw [htx] at g2
      have hlt : (sTxt S r).length ≤ 673 := by
        rw [← htx, List.length_append, l1]
        omega
      have c1 : ¬ nI (tn (S.2.2.1 2 r)) < 0 := nI_pos (by omega)
      have c2 : ¬ (10 : Int32) ≤ nI (tn (S.2.2.1 2 r)) := nI_ge (b := 10) hk10 (by decide)
      have hxi : xin (nI (tn (S.2.2.1 2 r))) 10 = true := xin_nI hk10 (by decide)
      have hcl : (nI (tn (S.2.2.1 2 r))).toNatClampNeg = tn (S.2.2.1 2 r) := nI_clamp (by omega)
      have kd : (gsI G (c + 13) 2 0).2.2.1 (ρ r) 0 = nI (tn (S.2.2.1 2 r)) := by
        rw [gsI3, if_neg, q3.2.1]
        · exact hk9
        · rintro ⟨z, _⟩
          have := q3.1
          rw [z, y13] at this
          exact absurd this (by decide)
      have r1' : (gsI G (c + 13) 2 0).1 (ρ r) = 1 := q3.1
      have g1' : X g 57 39 [.val (va_rf (some (c + 13))), .val (va_rf (some (ρ r))), .val (.int 0)] [] (gH n kc ks T1) = some (none, gH n kc ks T2) := g1
      have k57 : X g 57 0 [.val (va_rf (some (c + 13))), .val (va_rf (some (ρ r))), .unset] [] (gH n kc ks G) = some (none, gH n kc ks T2) := by
        simp only [x57_0, x57_1, x57_2, x57_5, x57_6, x57_9, x57_12, x57_13, x57_16, x57_18, x57_21, x57_24, x57_25, x57_27, x57_28, x57_31, x57_34, x57_37, x57_38, gf_26_2 y13, gp_26_2 y13, Option.isSome_some, gf_1_0 r1', kd, c1, c2, x57_31 hxi, hcl, gc_26 y13', h1, g1', Option.bind_some, Option.toList_some, Option.toList_none, List.cons_append, List.nil_append, Option.isSome_some, if_true, eq_self, or_true, true_or, xb_01, mcl_cl, not_true_eq_false, not_false_eq_true, if_false]
      have k0' : T2.1 c = 15 := by rw [g2.1]; exact k0
      have y13'' : T2.1 (c + 13) = 26 := by rw [g2.1]; exact y13
      refine sim_in (rA_spl hA g2 hlt) ?_ g2.1 ?_
      · rw [g2.2.2.2.2.1 (c + 7) (by omega) (by omega) (by omega)]
        exact hp
      · simp only [x120_0, x120_1, x120_4, x120_7, x120_8, x120_9, x120_10, x120_13, x120_14, x120_17, x120_18, x120_19, x120_22, x120_23, x120_26, x120_27, x120_30, x120_31, x120_32, x120_35, x120_36, x120_39, x120_40, x120_43, x120_46, c127, e1, xb_t, h10, gf_15_9 k0, hb, gc_9 hB.1, k9, hne, gf_15_8 k0, gc_26 y13, k57, gf_15_8 k0', gf_26_2 y13'', g2.2.2.2.2.2.1, Option.bind_some, Option.toList_some, Option.toList_none, List.cons_append, List.nil_append, Option.isSome_some, if_true, eq_self, or_true, true_or, xb_01, mcl_cl, not_true_eq_false, not_false_eq_true, if_false]
end K47
