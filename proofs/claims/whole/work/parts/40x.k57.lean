/-! THE CLASS beside the reference, 39: back -/
section K57
variable {g : xG} {n kc ks a b c s w q l x y d r p n' e m N hh ww kb : Nat} {G T T' U G1 G2 : GS} {h : xH} {i j k v i1 i2 : Int32} {u z : Int64} {S S1 S' : MS} {ρ κ κ' : Nat → Nat} {L : List Nat} {o : Option Nat}
theorem s125 (hA : rA g G c n b ρ S) (hp : G.2.2.1 (c + 7) 1 = 0) : sim g c n kc ks G 125 [.val (va_rf (some c))] (.int (fBack S).1) (fBack S).2 := by
  have k0 : G.1 c = 15 := hA.1.2.1.1
  have h0 := hA.1.2.2.2.2.2.2
  unfold fBack
  rcases hA.2.2.2.2.2.1 with ⟨c1, c2⟩ | ⟨c1, c2, kb, κ, c3, c4, c5, c6, c7⟩
  · rw [if_pos c1]
    refine sim_same hA hp ?_
    simp only [x125_0, x125_1, x125_4, x125_7, x125_9, x125_10, x125_11, x125_12, x125_15, x125_18, x125_21, x125_22, x125_25, x125_28, x125_29, x125_32, x125_35, gf_15_10 k0, c2, Option.bind_some, Option.toList_some, Option.toList_none, List.cons_append, List.nil_append, Option.isSome_some, if_true, eq_self, or_true, true_or, xb_01, mcl_cl, not_true_eq_false, not_false_eq_true, if_false]
  · rw [if_neg (by rw [c1]; decide)]
    obtain ⟨N', kc', ks', T, κ', g1, g2, g3, g4, g5, g6, g7, g8, g9, g10⟩ := c25 (g := g) (kc := kc) (ks := ks) c4 c5 hA.1.1 h0
    have hag : agr T G [0] := agr_lt hA.1 g2
    have hLT : gL g T c N' := gL_grow hA.1 g3 (fun q hq => (g2 q hq).1) (fun q hq => (g2 q hq).2.1) (by omega) g4
    obtain ⟨_, k1, k2, k3, ⟨k4, _⟩, ⟨k5, _⟩, ⟨k6, _⟩, k7, ⟨k8, _⟩, ⟨k9, _⟩, k10, ⟨k11, _⟩, ⟨k12, _⟩, k13, ⟨k14, _⟩, ⟨k15, _⟩⟩ := hA.1.2.1
    have x1 := hag (c + 1) (by rw [k1]; decide)
    have x7 := hag (c + 7) (by rw [k7]; decide)
    have hA1 : rA g T c N' b ρ S := rA_agr hag (by decide) (by rw [x7.2.2.1]) (by rw [x7.2.2.1]) (by rw [x1.2.2.1]) (by rw [x1.2.2.2.1]) hLT hA
    have t0 : T.1 c = 15 := hLT.2.1.1
    have t7 : T.1 (c + 7) = 20 := hLT.2.1.2.2.2.2.2.2.2.1
    have kbn := gL_lt hA.1 (show G.1 kb ≠ 0 by rw [c4.1]; decide)
    -- the reference
    have m23 : (mBk S).1 23 = 0 := by simp [mBk, msI]
    have m24 : (mBk S).1 24 = 0 := by simp [mBk, msI]
    have mI' : ∀ q, q ≠ 23 → q ≠ 24 → (mBk S).1 q = S.1 q := fun q h1 h2 => by simp [mBk, mCl0, mLb, mCq, mCp, msI, h1, h2]
    have mL' : (mBk S).2.1 = S.2.1 := rfl
    have mA' : ∀ q, ¬ q ∈ [2, 3, 4, 5, 7, 8, 12] → (mBk S).2.2.1 q = S.2.2.1 q := by
      intro q hq
      simp only [List.mem_cons, List.not_mem_nil, or_false, not_or] at hq
      funext t
      simp [mBk, mCl0, mLb, mCq, mCp, msI, hq.1, hq.2.1, hq.2.2.1, hq.2.2.2.1, hq.2.2.2.2.1, hq.2.2.2.2.2.1, hq.2.2.2.2.2.2]
    have mB' : ∀ q, q ≠ 6 → (mBk S).2.2.2 q = S.2.2.2 q := by
      intro q hq
      funext t
      simp [mBk, mCl0, mLb, mCq, mCp, msI, hq]
    have q4 : ∀ r, r < 10 → (mBk S).2.2.1 4 r = 0 := fun r hr => by simp [mBk, mCl0, msI, hr]
    have q2 : ∀ r, r < 10 → (mBk S).2.2.1 2 r = (mKp S).2.2.1 2 r := fun r hr => by
      show _ = S.2.2.1 44 r
      simp [mBk, mCl0, mLb, mCq, mCp, msI, hr]
    have q3 : ∀ r, r < 10 → (mBk S).2.2.1 3 r = (mKp S).2.2.1 3 r := fun r hr => by
      show _ = S.2.2.1 45 r
      simp [mBk, mCl0, mLb, mCq, mCp, msI, hr]
    have q5 : ∀ r, r < 320 → (mBk S).2.2.1 5 r = (mKp S).2.2.1 5 r := fun r hr => by
      show _ = S.2.2.1 46 r
      simp [mBk, mCl0, mLb, mCq, mCp, msI, hr]
    have q7 : ∀ r, r < 10 → (mBk S).2.2.1 7 r = (mKp S).2.2.1 7 r := fun r hr => by
      show _ = S.2.2.1 48 r
      simp [mBk, mCl0, mLb, mCq, mCp, msI, hr]
    have q8 : ∀ r, r < 10 → (mBk S).2.2.1 8 r = (mKp S).2.2.1 8 r := fun r hr => by
      show _ = S.2.2.1 49 r
      simp [mBk, mCl0, mLb, mCq, mCp, msI, hr]
    have q12 : ∀ r, r < 30 → (mBk S).2.2.1 12 r = (mKp S).2.2.1 12 r := fun r hr => by
      show _ = S.2.2.1 50 r
      simp [mBk, mCl0, mLb, mCq, mCp, msI, hr]
    have q6 : ∀ r, r < 320 → (mBk S).2.2.2 6 r = (mKp S).2.2.2 6 r := fun r hr => by
      show _ = S.2.2.2 47 r
      simp [mBk, mCl0, mLb, mCq, mCp, msI, hr]
    have hsr : sRows (mBk S) = sRows (mLb S) := sRows_c (fun t => by simp [mBk, mCl0, msI])
    rw [← hsr]
    generalize mBk S = S' at *
    have hin : ∀ r, rIn S' r ↔ rIn (mKp S) r := fun r => rIn_cgB q7
    have hO' : mOk S' := mOk_cgB q2 q3 q5 q6 q12 c2
    have hAg2 : agr (gsI (gsI (gsR T c 9 (some n)) (c + 7) 3 0) (c + 7) 4 0) T [15, 20] := agr_trans (agr_trans (agr_R (by rw [t0]; decide)) (agr_I (by rw [gsR1, t7]; decide))) (agr_I (by rw [gsI1, gsR1, t7]; decide))
    have LB : ¬ 1 ∈ [15, 20] ∧ ¬ 2 ∈ [15, 20] ∧ ¬ 3 ∈ [15, 20] ∧ ¬ 9 ∈ [15, 20] ∧ ¬ 10 ∈ [15, 20] ∧ ¬ 11 ∈ [15, 20] ∧ ¬ 12 ∈ [15, 20] ∧ ¬ 14 ∈ [15, 20] := by decide
    obtain ⟨a1, a2, a3, a4, a5, a6, a7, a8, a9⟩ := hA1
    obtain ⟨t0', y1, y2, y3, ⟨y4, _⟩, ⟨y5, _⟩, ⟨y6, _⟩, y7, ⟨y8, _⟩, ⟨y9, _⟩, y10, ⟨y11, _⟩, ⟨y12, _⟩, y13, ⟨y14, _⟩, ⟨y15, _⟩⟩ := a1.2.1
    have r9 : (gsI (gsI (gsR T c 9 (some n)) (c + 7) 3 0) (c + 7) 4 0).2.2.2.2 c 9 = some n := by
      show (if c = c ∧ 9 = 9 then some n else _) = some n
      rw [if_pos ⟨rfl, rfl⟩]
    have r10 : (gsI (gsI (gsR T c 9 (some n)) (c + 7) 3 0) (c + 7) 4 0).2.2.2.2 c 10 = some kb := by
      show (if c = c ∧ 10 = 9 then some n else T.2.2.2.2 c 10) = some kb
      rw [if_neg (by omega), (hag c (by rw [k0]; decide)).2.2.2.2]
      exact c3
    have hBn : bS (gsI (gsI (gsR T c 9 (some n)) (c + 7) 3 0) (c + 7) 4 0) n κ' S' := bS_cgB c2.1 q2 q3 q5 q6 q7 q8 q12 (bS_agr a1.1 hAg2 LB g6)
    have hIn : bI S' κ' := fun r r' z1 z2 => g7 r r' ((hin r).mp z1) ((hin r').mp z2)
    have hG' : rA g (gsI (gsI (gsR T c 9 (some n)) (c + 7) 3 0) (c + 7) 4 0) c N' n κ' S' := by
      refine ⟨gL_same rfl rfl a1, r9, hBn, hIn, ?_, ?_, ?_, ?_, ?_⟩
      · intro r hr
        have hr' := (hin r).mp hr
        have hro := bS_row hBn hr
        have hr10 : r < 10 := by
          obtain ⟨s', _, z2, z3⟩ := hr
          rw [← z3]
          exact (mRow_eq z2).2
        have hmz : mz S' r = mz (mKp S) r := by unfold mz; rw [q3 r hr10]
        rw [hmz, q4 r hr10]
        obtain ⟨w1, w2, w3, _⟩ := a1.1.1 (κ' r) hro.1
        refine ⟨fun p hp' => ?_, fun p _ => pB0 p⟩
        rw [pB0, (hAg2 (κ' r + 3) (by rw [w3]; decide)).2.2.1]
        exact (g8 r hr').2 p hp'
      · have e2 : (mKp S').2.2.1 2 = (mKp S).2.2.1 2 := mA' 44 (by decide)
        have e3 : (mKp S').2.2.1 3 = (mKp S).2.2.1 3 := mA' 45 (by decide)
        have e5 : (mKp S').2.2.1 5 = (mKp S).2.2.1 5 := mA' 46 (by decide)
        have e7 : (mKp S').2.2.1 7 = (mKp S).2.2.1 7 := mA' 48 (by decide)
        have e8 : (mKp S').2.2.1 8 = (mKp S).2.2.1 8 := mA' 49 (by decide)
        have e12 : (mKp S').2.2.1 12 = (mKp S).2.2.1 12 := mA' 50 (by decide)
        have e6 : (mKp S').2.2.2 6 = (mKp S).2.2.2 6 := mB' 47 (by decide)
        have hBk : bS T kb κ (mKp S) := bS_agr hA.1.1 hag (by decide) c4
        refine Or.inr ⟨by rw [mI' 43 (by decide) (by decide)]; exact c1, mOk_c c2 (fun i => by rw [e2]) (fun i => by rw [e3]) (fun i => by rw [e12]) (fun q hq => by rw [e5, e6]; exact okc_self c2 hq), kb, κ, r10, bS_ev e2 e3 e5 e7 e8 e12 e6 (bS_agr a1.1 hAg2 LB hBk), ?_, ?_, ?_⟩
        · intro r r' z1 z2
          exact c5 r r' ((rIn_ev e7).mp z1) ((rIn_ev e7).mp z2)
        · intro r r' z1 z2 z3
          have y1' := (g8 r ((hin r).mp z1)).1
          have y2' := gL_lt hA.1 (show G.1 (κ r') ≠ 0 by rw [(bS_row c4 ((rIn_ev e7).mp z2)).1]; decide)
          omega
        · rw [r9]
          intro z
          injection z with z
          omega
      · obtain ⟨b1, b2, b3, b4, b5⟩ := a7
        have y9' : (gsI (gsI (gsR T c 9 (some n)) (c + 7) 3 0) (c + 7) 4 0).2.2.2.2 (c + 9) = T.2.2.2.2 (c + 9) := (hAg2 (c + 9) (by rw [y9]; decide)).2.2.2.2
        refine ⟨?_, ?_, ⟨0, 0, m24, m23, Nat.le_refl _, by omega⟩, fun e z he hz => by rw [y9'] at hz; exact b4 e z he hz, fun w hw => ?_⟩
        · rw [m24, gsI3, if_neg (by omega), gsI3, if_pos ⟨rfl, rfl⟩]
        · rw [m23, gsI3, if_pos ⟨rfl, rfl⟩]
        · rw [m23] at hw
          exact absurd hw (by show ¬ w < tn 0; rw [show tn 0 = 0 from rfl]; omega)
      · have z1 := hAg2 (c + 1) (by rw [y1]; decide)
        have z6 := hAg2 (c + 6) (by rw [y6]; decide)
        have z10 := hAg2 (c + 10) (by rw [y10]; decide)
        have z11 := hAg2 (c + 11) (by rw [y11]; decide)
        have z13 := hAg2 (c + 13) (by rw [y13]; decide)
        have z14 := hAg2 (c + 14) (by rw [y14]; decide)
        have zc : ∀ e, (gsI (gsI (gsR T c 9 (some n)) (c + 7) 3 0) (c + 7) 4 0).2.2.1 c e = T.2.2.1 c e := fun e => by
          rw [gsI3, if_neg (by omega), gsI3, if_neg (by omega)]
          rfl
        unfold rMs
        rw [z1.2.2.1, z1.2.2.2.1, z6.2.2.1, z10.2.2.1, z11.2.2.1, z13.2.2.1, z14.2.2.1, mI' 10 (by decide) (by decide), mL', mA' 9 (by decide), mI' 25 (by decide) (by decide), mA' 26 (by decide), mI' 30 (by decide) (by decide), mA' 29 (by decide), mI' 34 (by decide) (by decide), mA' 33 (by decide), zc 11]
        obtain ⟨u1, u2, u3, u4, u5, u6⟩ := a8
        exact ⟨u1, u2, u3, u4, fun e he => by rw [zc]; exact u5 e he, u6⟩
      · obtain ⟨b1, b2, b3, b4, b5, b6⟩ := a9
        refine ⟨hO', by rw [mI' 10 (by decide) (by decide), mL']; exact b2, by rw [mI' 34 (by decide) (by decide), mA' 33 (by decide)]; exact b3, by rw [mI' 30 (by decide) (by decide)]; exact b4, ?_, by rw [mI' 25 (by decide) (by decide)]; exact b6⟩
        unfold mLt
        rw [mA' 32 (by decide)]
        exact b5
    have k22 := c22 (g := g) (n := N') (kc := kc') (ks := ks') hG'.1.1 hBn.1
    rw [rows_eq hBn hIn] at k22
    have q0 : (gsR T c 9 (some n)).1 c = 15 := t0
    have q7' : (gsR T c 9 (some n)).1 (c + 7) = 20 := t7
    have hjL : jL (gsR T c 9 (some n)) (c + 7) := by
      obtain ⟨_, _, _, _, _, _, _, z7, ⟨z8, z8'⟩, ⟨z9, z9'⟩, _⟩ := hLT.2.1
      exact ⟨z7, z8, z8', z9, z9'⟩
    have k34 := c34 (g := g) (n := N') (kc := kc') (ks := ks') hjL
    have hne : ¬ (some kb = none) := by simp
    refine ⟨N', kc', ks', _, n, κ', ?_, hG', ?_, by omega, by omega, by omega, fun q hq => (g2 q hq).1⟩
    · simp only [x125_0, x125_1, x125_4, x125_7, x125_9, x125_10, x125_11, x125_12, x125_15, x125_18, x125_21, x125_22, x125_25, x125_28, x125_29, x125_32, x125_35, gf_15_10 k0, c3, hne, gc_9 c4.1, g1, gf_15_9 t0, gp_15_9 t0, Option.isSome_some, if_true, gf_15_6 q0, gc_20 q7', k34, gf_15_9 hG'.1.2.1.1, r9, gc_9 hBn.1, k22, Option.bind_some, Option.toList_some, Option.toList_none, List.cons_append, List.nil_append, Option.isSome_some, if_true, eq_self, or_true, true_or, xb_01, mcl_cl, not_true_eq_false, not_false_eq_true, if_false]
    · rw [gsI3, if_neg (by omega), gsI3, if_neg (by omega)]
      show T.2.2.1 (c + 7) 1 = 0
      rw [x7.2.2.1]
      exact hp
end K57
