/-! THE CLASS beside the reference, 36: run -/
section K51
variable {g : xG} {n kc ks a b c s w q l x y tp d r p n' e m N N' n1 kc1 ks1 : Nat} {G T U G1 G2 : GS} {h : xH} {i j k v i1 i2 : Int32} {u z : Int64} {S S1 S' : MS} {F : Nat → Int32} {t : Nat → Int32} {ρ κ : Nat → Nat} {L : List Nat}
/-- what is written elsewhere, and on the tape, matters nothing -/
theorem rA_agr2 (hA : agr T G L) (hL : (∀ e, e ∈ [1, 2, 3, 4, 5, 6, 7, 9, 10, 11, 12, 14, 15, 16, 19, 20, 22, 24, 26, 27] → ¬ e ∈ L)) (h10 : T.2.2.1 (c + 10) 2 = G.2.2.1 (c + 10) 2) (hT : gL g T c n') (h : rA g G c n b ρ S) : rA g T c n' b ρ S := by
  obtain ⟨a1, a2, a3, a4, a5, a6, a7, a8, a9⟩ := h
  have hw := a1.1
  obtain ⟨k0, k1, k2, k3, ⟨k4, _⟩, ⟨k5, _⟩, ⟨k6, _⟩, k7, ⟨k8, _⟩, ⟨k9, _⟩, k10, ⟨k11, _⟩, ⟨k12, _⟩, k13, ⟨k14, _⟩, ⟨k15, _⟩⟩ := a1.2.1
  have l := fun e he => hL e he
  have ec := hA c (by rw [k0]; exact l 15 (by decide))
  have e1 := hA (c + 1) (by rw [k1]; exact l 16 (by decide))
  have e6 := hA (c + 6) (by rw [k6]; exact l 19 (by decide))
  have e7 := hA (c + 7) (by rw [k7]; exact l 20 (by decide))
  have e9 := hA (c + 9) (by rw [k9]; exact l 22 (by decide))
  have e11 := hA (c + 11) (by rw [k11]; exact l 24 (by decide))
  have e13 := hA (c + 13) (by rw [k13]; exact l 26 (by decide))
  have e14 := hA (c + 14) (by rw [k14]; exact l 27 (by decide))
  have LB : ¬ 1 ∈ L ∧ ¬ 2 ∈ L ∧ ¬ 3 ∈ L ∧ ¬ 9 ∈ L ∧ ¬ 10 ∈ L ∧ ¬ 11 ∈ L ∧ ¬ 12 ∈ L ∧ ¬ 14 ∈ L := ⟨l 1 (by decide), l 2 (by decide), l 3 (by decide), l 9 (by decide), l 10 (by decide), l 11 (by decide), l 12 (by decide), l 14 (by decide)⟩
  refine ⟨hT, by rw [ec.2.2.2.2]; exact a2, bS_agr hw hA LB a3, a4, ?_, ?_, ?_, ?_, a9⟩
  · intro r hr
    obtain ⟨t1, t2⟩ := a5 r hr
    have hrr := bS_row a3 hr
    obtain ⟨w1, w2, w3, _⟩ := hw.1 (ρ r) hrr.1
    refine ⟨fun p hp => ?_, t2⟩
    rw [(hA (ρ r + 3) (by rw [w3]; exact l 4 (by decide))).2.2.1]
    exact t1 p hp
  · unfold rKp
    rw [ec.2.2.2.2]
    rcases a6 with a6 | ⟨b1, b2, kb, κ, b3, b4, b5, b6⟩
    · exact Or.inl a6
    · exact Or.inr ⟨b1, b2, kb, κ, b3, bS_agr hw hA LB b4, b5, b6⟩
  · obtain ⟨b1, b2, b3, b4, b5⟩ := a7
    refine ⟨by rw [e7.2.2.1]; exact b1, by rw [e7.2.2.1]; exact b2, b3, fun e z he hz => ?_, fun w hw' => ?_⟩
    · rw [e9.2.2.2.2] at hz
      have h6 := b4 e z he hz
      rw [(hA z (by rw [h6]; exact l 6 (by decide))).1]
      exact h6
    · exact rAc_agr hw hA ⟨l 5 (by decide), l 6 (by decide), l 7 (by decide)⟩ (by rw [k9]; exact l 22 (by decide)) (b5 w hw')
  · unfold rMs
    rw [e1.2.2.1, e1.2.2.2.1, e6.2.2.1, ec.2.2.1, e13.2.2.1, e14.2.2.1, h10, e11.2.2.1]
    exact a8
theorem gL_pB (hL : gL g G c n) (hB : pB G U c n N) : gL g U c N := by
  obtain ⟨p1, p2, p3, p4, p5, p6⟩ := hB
  have h0 := hL.2.2.2.2.2.2
  have hr : ∀ q, n ≤ q → U.1 q = 8 ∨ U.1 q = 0 := by
    intro q hq
    by_cases cN : q < N
    · exact Or.inl (p3 q hq cN)
    · exact Or.inr (p4 q (by omega))
  refine gL_grow hL (gW_add hL.1 h0 p2 (fun q hq => ?_)) (fun q hq => (p2 q hq).1) (fun q hq => (p2 q hq).2) p1 p4
  rcases hr q hq with h | h <;> rw [h] <;> exact ⟨fun z => absurd z (by decide), fun z => absurd z (by decide), fun z => absurd z (by decide)⟩
theorem rA_pB (hA : rA g G c n b ρ S) (hB : pB G U c n N) : rA g U c N b ρ S := rA_agr2 hB.2.2.2.2.1 (by decide) hB.2.2.2.2.2 (gL_pB hA.1 hB) hA
/-- the tape emptied on both sides -/
theorem rA_34 (hA : rA g G c n b ρ S) : rA g (gsI G (c + 10) 2 0) c n b ρ (msI S 34 0) := by
  obtain ⟨k0, k1, k2, k3, ⟨k4, _⟩, ⟨k5, _⟩, ⟨k6, _⟩, k7, ⟨k8, _⟩, ⟨k9, _⟩, k10, ⟨k11, _⟩, ⟨k12, _⟩, k13, ⟨k14, _⟩, ⟨k15, _⟩⟩ := hA.1.2.1
  obtain ⟨r1, r2, r3, r4, r5, r6, r7, r8, r9⟩ := hA.2.2.2.2.2.2.2.1
  obtain ⟨b1, b2, b3, b4, b5, b6⟩ := hA.2.2.2.2.2.2.2.2
  have hAg : agr (gsI G (c + 10) 2 0) G [23] := agr_I (by rw [k10]; decide)
  have ec := hAg c (by rw [k0]; decide)
  have x1 := hAg (c + 1) (by rw [k1]; decide)
  have x6 := hAg (c + 6) (by rw [k6]; decide)
  have x7 := hAg (c + 7) (by rw [k7]; decide)
  have x11 := hAg (c + 11) (by rw [k11]; decide)
  have x13 := hAg (c + 13) (by rw [k13]; decide)
  have x14 := hAg (c + 14) (by rw [k14]; decide)
  have y1 : ∀ z, z ≠ 34 → (msI S 34 0).1 z = S.1 z := fun z hz => by simp [msI, hz]
  have y2 : (msI S 34 0).1 34 = nI 0 := by simp [msI]; rfl
  refine rA_ms hA hAg (by decide) rfl rfl rfl rfl (by rw [x7.2.2.1]) (by rw [x7.2.2.1]) ⟨⟨y1 23 (by decide), y1 24 (by decide), y1 43 (by decide)⟩, fun z _ => rfl, fun q _ => rfl⟩ ?_ (by rw [y1 10 (by decide)]; exact b2) ⟨0, y2, by omega, fun e he => by omega⟩ (by rw [y1 30 (by decide)]; exact b4) b5 (by rw [y1 25 (by decide)]; exact b6)
  unfold rMs
  rw [x1.2.2.1, x1.2.2.2.1, x6.2.2.1, ec.2.2.1, x13.2.2.1, x14.2.2.1, x11.2.2.1, y1 10 (by decide), y1 25 (by decide), y1 30 (by decide), y2]
  exact ⟨r1, r2, r3, r4, r5, r6, r7, by rw [gsI3, if_pos ⟨rfl, rfl⟩]; rfl, fun e he => absurd he (by rw [tn_nI (by omega)]; omega)⟩
theorem jPut_agr {jn a : Nat} (hn : G.1 n = 0) (h1 : G.1 jn = 20) (h2 : G.1 (jn + 1) = 21) (h3 : G.1 (a + 1) = 2) (h4 : G.1 (a + 2) = 3) : agr (jPut G n jn p a i k u) G [0, 2, 3, 20, 21] := by
  intro q hq
  have n0 : q ≠ n := fun z => hq (by rw [z, hn]; decide)
  have n1 : q ≠ jn := fun z => hq (by rw [z, h1]; decide)
  have n2 : q ≠ jn + 1 := fun z => hq (by rw [z, h2]; decide)
  have n3 : q ≠ a + 1 := fun z => hq (by rw [z, h3]; decide)
  have n4 : q ≠ a + 2 := fun z => hq (by rw [z, h4]; decide)
  obtain ⟨e1, e2⟩ := jPut_bx (G := G) (p := p) (i := i) (k := k) (u := u) n0 n1 n3 n4
  refine ⟨by rw [jPut_1, if_neg n0], ?_, e1, e2, ?_⟩
  · show (if q = n then 0 else G.2.1 q) = G.2.1 q
    rw [if_neg n0]
  · funext t
    simp [jPut, rSet, pSet, gsI, gsJ, gsR, gnew, n0, n2]
theorem rA_134a (hA : rA g G c n b ρ S) (hP : rPd G c ρ S p) (hp : p < 64) (hs : s < 10) (hx : x = c + 2 ∨ x = c + 3) (hx0 : G.2.2.1 x 0 = k) (hx1 : G.2.2.2.1 x 1 = u) (hok : okb k u) : ∃ n1 kc1 ks1 G1, X g 134 0 [.val (va_rf (some c)), .val (.int (nI s)), .val (.int i), .val (.int v), .val (va_rf (some x)), .unset] [] (gH n kc ks G) = some (some (.int (sAns (sPutBy S s i v k))), gH n1 kc1 ks1 G1) ∧ rA g G1 c n1 b ρ (mPb S s i v k u) ∧ (sPutBy S s i v k = 0 → rPd G1 c ρ (mPb S s i v k u) (p + 1)) ∧ (¬ sPutBy S s i v k = 0 → rPd G1 c ρ (mPb S s i v k u) p) ∧ n ≤ n1 ∧ kc1 ≤ kc + 1 ∧ ks1 ≤ ks + 6 ∧ (∀ q, q < n → G1.1 q = G.1 q) ∧ agr G1 G [0, 2, 3, 20, 21] := by
  have kx : G.1 x = 16 := by
    rcases hx with h | h
    · rw [h]; exact hA.1.2.1.2.2.1
    · rw [h]; exact hA.1.2.1.2.2.2.1
  have hn := hA.1.2.2.2.2.2.2
  have k134 := c134 (g := g) (n := n) (kc := kc) (ks := ks) (p := p) (s := s) (i := i) (v := v) (y := x) (k := k) (u := u) hA.1.1 (hn n (by omega)) hA.1.2.1.1 hA.2.1 hA.2.2.1 hA.2.2.2.2.2.2.2.2.1 hA.1.2.2.1 (rA_jL hA) hp hP.1 hs kx hx0 hx1 hok
  unfold gPt at k134
  by_cases c1 : sPutBy S s i v k = 0
  · rw [if_pos c1] at k134
    obtain ⟨b1, b2⟩ := rA_put hA hP hp hs c1 hok
    have s1 := (sPutBy_0 c1).1
    have hrr := bS_row hA.2.2.1 (⟨s, hs, s1, rfl⟩ : rIn S (mr S s))
    obtain ⟨w1, w2, w3, _⟩ := hA.1.1.1 (ρ (mr S s)) hrr.1
    obtain ⟨j1, j2, _⟩ := rA_jL hA
    exact ⟨_, _, _, _, k134, b1, fun _ => b2, fun z => absurd c1 z, by omega, by omega, by omega, fun q hq => by rw [jPut_1, if_neg (by omega)], jPut_agr (hn n (Nat.le_refl n)) j1 j2 w1 w2⟩
  · rw [if_neg c1] at k134
    have hm : mPb S s i v k u = S := by unfold mPb; rw [if_neg c1]
    rw [hm]
    exact ⟨_, _, _, _, k134, hA, fun z => absurd z c1, fun _ => hP, Nat.le_refl _, by omega, by omega, fun _ _ => rfl, agr_refl⟩
theorem LN_S {k : Nat} (h : ∀ q y, 37 ≤ q → q ≤ 41 → S'.2.2.1 q y = S.2.2.1 q y) (h42 : ∀ y, S'.2.2.2 42 y = S.2.2.2 42 y) (hl : LN U S c k) : LN U S' c k := by
  intro y hy
  obtain ⟨x, x1, x2, x3⟩ := hl y hy
  exact ⟨x, x1, x2, lnR_S (fun q a b => h q y a b) (h42 y) x3⟩
theorem stD_A {k : Nat} (q y : Nat) (h1 : 37 ≤ q) : (stD k S).2.2.2.2.1 q y = S.2.2.1 q y := by
  unfold stD
  split
  · exact mPb_A (by omega) (by omega) (by omega) y
  · split
    · rfl
    · exact mPb_A (by omega) (by omega) (by omega) y
theorem stD_B {k : Nat} (y : Nat) : (stD k S).2.2.2.2.2 42 y = S.2.2.2 42 y := by
  unfold stD
  split
  · exact mPb_B (by decide) (by decide) y
  · split
    · rfl
    · exact mPb_B (by decide) (by decide) y
theorem pBy_8 : pBy 8 u = 0 := by
  unfold pBy
  rw [if_neg (by decide), if_neg (by decide), if_neg (by decide), if_neg (by decide), if_neg (by decide), if_neg (by decide), if_neg (by decide), if_pos rfl]
theorem agr_8 (hk : G.1 (c + 2) = 16) : agr (bxS G (c + 2) k u) G [16] := agr_trans (agr_I (by rw [hk]; decide)) (agr_J (by rw [gsI1, hk]; decide))
/-- one line done, on both sides -/
theorem e150 {k : Nat} (hk : k < 40) (hA : rA g G c n b ρ S) (hP : rPd G c ρ S k) (hLk : mLk S k) (hx8 : G.1 x = 8) (hl : lnR (G.2.2.1 x) S k) : ((stD k S).2.1 = 0 ∧ ∃ n1 kc1 ks1 G1, X g (if G.2.2.1 x 2 = 0 then 151 else 150) 0 [.val (va_rf (some c)), .val (va_rf (some x)), .val (.int (nI k)), .unset] [] (gH n kc ks G) = some (some (.int 1), gH n1 kc1 ks1 G1) ∧ rA g G1 c n1 b ρ (stD k S).2.2 ∧ rPd G1 c ρ (stD k S).2.2 (k + 1) ∧ n ≤ n1 ∧ kc1 ≤ kc + 1 ∧ ks1 ≤ ks + 6 ∧ (∀ q, q < n → G1.1 q = G.1 q) ∧ agr G1 G [0, 2, 3, 16, 20, 21]) ∨ (¬ (stD k S).2.1 = 0 ∧ ∃ h', X g (if G.2.2.1 x 2 = 0 then 151 else 150) 0 [.val (va_rf (some c)), .val (va_rf (some x)), .val (.int (nI k)), .unset] [] (gH n kc ks G) = some (some (.int (-100 - nI k)), h') ∧ mvE g c b ρ n kc ks G 3 71 (some (some (.int (-100 - nI k)), h')) (-100 - nI k) (mStop (stD k S).2.2 (tn ((stD k S).2.2.1 16)) (nI k) (stD k S).1 (stD k S).2.1)) := by
  have k0 : G.1 c = 15 := hA.1.2.1.1
  have k2 : G.1 (c + 2) = 16 := hA.1.2.1.2.2.1
  obtain ⟨l1, l2, l3, l4⟩ := hLk
  obtain ⟨f0, f1, hf⟩ := hl
  unfold stD
  rcases hf with ⟨f2, f3, f4, f5, n41, v0, v8⟩ | ⟨f2, n41, f6, f7⟩
  · -- a reading
    rw [if_neg n41, if_neg (show ¬ G.2.2.1 x 2 = 0 by rw [f2]; decide)]
    have k133 := c133 (g := g) (n := n) (kc := kc) (ks := ks) (i := S.2.2.1 40 k) hA.1.1 k0 hA.2.1 hA.2.2.1 hA.2.2.2.2.2.2.2.2.1 hA.1.2.2.1 l4 v0 v8 k2
    rw [← l3] at k133
    by_cases e1 : sRead S (tn (S.2.2.1 39 k)) (S.2.2.1 40 k) (S.2.2.1 41 k) = 0
    · have hok : okb (sBk S (tn (S.2.2.1 39 k)) (S.2.2.1 40 k) (S.2.2.1 41 k)) (sBv S (tn (S.2.2.1 39 k)) (S.2.2.1 40 k) (S.2.2.1 41 k)) := okb_read hA.2.2.2.2.2.2.2.2.1.1 hA.2.2.2.2.2.2.2.2.1.2.1 hA.2.2.2.2.2.2.2.2.1.2.2.1 hA.2.2.2.2.2.2.2.2.1.2.2.2.2.2 e1
      rw [if_pos e1, ans_yes e1] at k133
      rw [if_neg (fun z => z e1)]
      generalize sBk S (tn (S.2.2.1 39 k)) (S.2.2.1 40 k) (S.2.2.1 41 k) = kw at *
      generalize sBv S (tn (S.2.2.1 39 k)) (S.2.2.1 40 k) (S.2.2.1 41 k) = uw at *
      have hq : bq (bxS G (c + 2) kw uw) G c := bq_x (Or.inl rfl)
      have hag : agr (bxS G (c + 2) kw uw) G [16] := agr_8 k2
      have hA1 := rA_bq hA hq
      have hP1 := rPd_bq hA hq hP
      have k0' : (bxS G (c + 2) kw uw).1 c = 15 := k0
      have hx8' : (bxS G (c + 2) kw uw).1 x = 8 := hx8
      have ex : (bxS G (c + 2) kw uw).2.2.1 x = G.2.2.1 x := (hag x (by rw [hx8]; decide)).2.2.1
      obtain ⟨n1, kc1, ks1, G1, h1, h2, h3, h4, h5, h6, h7, h8, h9⟩ := rA_134a (g := g) (kc := kc) (ks := ks) (i := S.2.2.1 38 k) (v := S.2.2.1 41 k) hA1 hP1 (by omega) l2 (Or.inl rfl) (by simp [bxS, gsI, gsJ]) (by simp [bxS, gsI, gsJ]) hok
      rw [← l1] at h1
      have z0 : G1.1 c = 15 := h2.1.2.1.1
      have hag2 : agr G1 G [0, 2, 3, 16, 20, 21] := agr_trans (agr_mono hag (by decide)) (agr_mono h9 (by decide))
      by_cases e2 : sPutBy S (tn (S.2.2.1 37 k)) (S.2.2.1 38 k) (S.2.2.1 41 k) kw = 0
      · rw [ans_yes e2] at h1
        refine Or.inl ⟨e2, n1, kc1, ks1, G1, ?_, h2, h3 e2, h5, h6, h7, fun q hq => h8 q hq, hag2⟩
        simp only [x150_0, x150_1, x150_2, x150_5, x150_6, x150_9, x150_10, x150_13, x150_14, x150_17, x150_20, x150_21, x150_22, x150_23, x150_26, x150_27, x150_28, x150_29, x150_30, x150_33, x150_34, x150_35, x150_36, x150_39, x150_40, x150_43, x150_44, x150_47, x150_48, x150_51, x150_54, x150_55, x150_56, x150_57, x150_60, x150_61, x150_64, x150_65, x150_66, x150_67, x150_68, x150_71, gf_8_3 hx8, f3, gf_8_4 hx8, f4, gf_8_5 hx8, f5, gf_15_1 k0, gc_15 k0, k133, gf_8_0 hx8', gf_8_1 hx8', gf_8_5 hx8', ex, f0, f1, f5, gf_15_1 k0', gc_15 k0', h1, Option.bind_some, Option.toList_some, Option.toList_none, List.cons_append, List.nil_append, Option.isSome_some, if_true, eq_self, or_true, true_or, xb_01, mcl_cl, not_true_eq_false, not_false_eq_true, if_false]
      · obtain ⟨y1, y2⟩ := ans_no (sPutBy_why _ _ _ _ _) e2
        rw [y1] at h1
        have hno := h4 e2
        rw [mPb_no e2] at h2 hno ⊢
        obtain ⟨h', q1, q2⟩ := mvE_145 (g := g) (kc := kc1) (ks := ks1) (i := nI k) (j := 1) (k := sPutBy S (tn (S.2.2.1 37 k)) (S.2.2.1 38 k) (S.2.2.1 41 k) kw) h2 hno (by omega)
        refine Or.inr ⟨e2, h', ?_, mvE_go (e1 := 1) (e2 := 6) q2 h5 h6 h7 h8⟩
        simp only [x150_0, x150_1, x150_2, x150_5, x150_6, x150_9, x150_10, x150_13, x150_14, x150_17, x150_20, x150_21, x150_22, x150_23, x150_26, x150_27, x150_28, x150_29, x150_30, x150_33, x150_34, x150_35, x150_36, x150_39, x150_40, x150_43, x150_44, x150_47, x150_48, x150_51, x150_54, x150_55, x150_56, x150_57, x150_60, x150_61, x150_64, x150_65, x150_66, x150_67, x150_68, x150_71, gf_8_3 hx8, f3, gf_8_4 hx8, f4, gf_8_5 hx8, f5, gf_15_1 k0, gc_15 k0, k133, gf_8_0 hx8', gf_8_1 hx8', gf_8_5 hx8', ex, f0, f1, f5, gf_15_1 k0', gc_15 k0', h1, y2, gc_15 z0, q1, Option.bind_some, Option.toList_some, Option.toList_none, List.cons_append, List.nil_append, Option.isSome_some, if_true, eq_self, or_true, true_or, xb_01, mcl_cl, not_true_eq_false, not_false_eq_true, if_false]
    · obtain ⟨y1, y2⟩ := ans_no (sRead_why _ _ _ _) e1
      rw [if_neg e1, y1] at k133
      rw [if_pos e1]
      obtain ⟨h', q1, q2⟩ := mvE_145 (g := g) (kc := kc) (ks := ks) (i := nI k) (j := 0) (k := sRead S (tn (S.2.2.1 39 k)) (S.2.2.1 40 k) (S.2.2.1 41 k)) hA hP (by omega)
      refine Or.inr ⟨e1, h', ?_, mvE_le q2 (by omega) (by omega)⟩
      simp only [x150_0, x150_1, x150_2, x150_5, x150_6, x150_9, x150_10, x150_13, x150_14, x150_17, x150_20, x150_21, x150_22, x150_23, x150_26, x150_27, x150_28, x150_29, x150_30, x150_33, x150_34, x150_35, x150_36, x150_39, x150_40, x150_43, x150_44, x150_47, x150_48, x150_51, x150_54, x150_55, x150_56, x150_57, x150_60, x150_61, x150_64, x150_65, x150_66, x150_67, x150_68, x150_71, gf_8_3 hx8, f3, gf_8_4 hx8, f4, gf_8_5 hx8, f5, gf_15_1 k0, gc_15 k0, k133, y2, q1, Option.bind_some, Option.toList_some, Option.toList_none, List.cons_append, List.nil_append, Option.isSome_some, if_true, eq_self, or_true, true_or, xb_01, mcl_cl, not_true_eq_false, not_false_eq_true, if_false]
  · -- a box
    rw [if_pos n41, if_pos f2]
    have hpb : pBy (S.2.2.1 39 k) (G.2.2.1 x 7).toInt64 = pBy (S.2.2.1 39 k) (S.2.2.2 42 k) := by
      rcases f7 with h | h
      · rw [h, pBy_8, pBy_8]
      · rw [h]
    have hok : okb (S.2.2.1 39 k) (pBy (S.2.2.1 39 k) (S.2.2.2 42 k)) := by
      rw [l3]
      refine okb_by (by rw [nI_toInt (by omega)]; omega) (by rw [nI_toInt (by omega)]; omega) ?_
      unfold mNone
      have : ¬ nI (tn (S.2.2.1 39 k)) = 10 := by
        intro z
        have := (nI_eq (a := tn (S.2.2.1 39 k)) (b := 10) (by omega) (by omega)).mp z
        omega
      simp [this]
    generalize pBy (S.2.2.1 39 k) (S.2.2.2 42 k) = uw at *
    generalize S.2.2.1 39 k = kw at *
    have hq : bq (bxS G (c + 2) kw uw) G c := bq_x (Or.inl rfl)
    have hag : agr (bxS G (c + 2) kw uw) G [16] := agr_8 k2
    have hA1 := rA_bq hA hq
    have hP1 := rPd_bq hA hq hP
    have k0' : (bxS G (c + 2) kw uw).1 c = 15 := k0
    have hx8' : (bxS G (c + 2) kw uw).1 x = 8 := hx8
    have ex : (bxS G (c + 2) kw uw).2.2.1 x = G.2.2.1 x := (hag x (by rw [hx8]; decide)).2.2.1
    obtain ⟨n1, kc1, ks1, G1, h1, h2, h3, h4, h5, h6, h7, h8, h9⟩ := rA_134a (g := g) (kc := kc) (ks := ks) (i := S.2.2.1 38 k) (v := 8) hA1 hP1 (by omega) l2 (Or.inl rfl) (by simp [bxS, gsI, gsJ]) (by simp [bxS, gsI, gsJ]) hok
    rw [← l1] at h1
    have z0 : G1.1 c = 15 := h2.1.2.1.1
    have hag2 : agr G1 G [0, 2, 3, 16, 20, 21] := agr_trans (agr_mono hag (by decide)) (agr_mono h9 (by decide))
    by_cases e2 : sPutBy S (tn (S.2.2.1 37 k)) (S.2.2.1 38 k) 8 kw = 0
    · rw [ans_yes e2] at h1
      refine Or.inl ⟨e2, n1, kc1, ks1, G1, ?_, h2, h3 e2, h5, h6, h7, fun q hq => h8 q hq, hag2⟩
      simp only [x151_0, x151_1, x151_4, x151_5, x151_8, x151_9, x151_12, x151_13, x151_16, x151_17, x151_20, x151_23, x151_24, x151_25, x151_28, x151_29, x151_32, x151_34, x151_35, x151_38, x151_41, x151_42, x151_43, x151_44, x151_47, x151_48, x151_51, x151_52, x151_53, x151_54, x151_55, x151_58, gf_15_1 k0, gf_8_6 hx8, f6, gf_8_7 hx8, c41, hpb, gc_16 k2, c27' k2, gf_8_0 hx8', gf_8_1 hx8', ex, f0, f1, gf_15_1 k0', gc_15 k0', h1, Option.bind_some, Option.toList_some, Option.toList_none, List.cons_append, List.nil_append, Option.isSome_some, if_true, eq_self, or_true, true_or, xb_01, mcl_cl, not_true_eq_false, not_false_eq_true, if_false]
    · obtain ⟨y1, y2⟩ := ans_no (sPutBy_why _ _ _ _ _) e2
      rw [y1] at h1
      have hno := h4 e2
      rw [mPb_no e2] at h2 hno ⊢
      obtain ⟨h', q1, q2⟩ := mvE_145 (g := g) (kc := kc1) (ks := ks1) (i := nI k) (j := 1) (k := sPutBy S (tn (S.2.2.1 37 k)) (S.2.2.1 38 k) 8 kw) h2 hno (by omega)
      refine Or.inr ⟨e2, h', ?_, mvE_go (e1 := 1) (e2 := 6) q2 h5 h6 h7 h8⟩
      simp only [x151_0, x151_1, x151_4, x151_5, x151_8, x151_9, x151_12, x151_13, x151_16, x151_17, x151_20, x151_23, x151_24, x151_25, x151_28, x151_29, x151_32, x151_34, x151_35, x151_38, x151_41, x151_42, x151_43, x151_44, x151_47, x151_48, x151_51, x151_52, x151_53, x151_54, x151_55, x151_58, gf_15_1 k0, gf_8_6 hx8, f6, gf_8_7 hx8, c41, hpb, gc_16 k2, c27' k2, gf_8_0 hx8', gf_8_1 hx8', ex, f0, f1, gf_15_1 k0', gc_15 k0', h1, y2, gc_15 z0, q1, Option.bind_some, Option.toList_some, Option.toList_none, List.cons_append, List.nil_append, Option.isSome_some, if_true, eq_self, or_true, true_or, xb_01, mcl_cl, not_true_eq_false, not_false_eq_true, if_false]
end K51
