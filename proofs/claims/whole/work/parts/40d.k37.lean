/-! THE CLASS beside the reference, 24: moves -/
section K37
variable {g : xG} {n kc ks a b c s t w q l x y jn d r p n' e kb A n1 kc1 ks1 e1 e2 a1 a2 o : Nat} {G T U G1 : GS} {h : xH} {i j k m v i1 i2 : Int32} {u z : Int64} {S S1 S' V : MS} {ρ κ : Nat → Nat} {L L' : List Nat} {cnt : Nat} {at' wk ik : Nat → Int32} {wv iv : Nat → Int64}
/-- a move refused, on both sides -/
theorem rA_stp (hA : rA g G c n b ρ S) : rA g (gsI (gsI (gsI (gsI G c 11 1) c 12 i) c 13 j) c 14 k) c n b ρ (msA (msA (msA (msI S 25 1) 26 0 i) 26 1 j) 26 2 k) := by
  obtain ⟨k0, k1, k2, k3, ⟨k4, _⟩, ⟨k5, _⟩, ⟨k6, _⟩, k7, ⟨k8, _⟩, ⟨k9, _⟩, k10, ⟨k11, _⟩, ⟨k12, _⟩, k13, ⟨k14, _⟩, ⟨k15, _⟩⟩ := hA.1.2.1
  obtain ⟨r1, r2, r3, r4, r5, r6, r7, r8, r9⟩ := hA.2.2.2.2.2.2.2.1
  obtain ⟨b1, b2, b3, b4, b5, b6⟩ := hA.2.2.2.2.2.2.2.2
  have hAg : agr (gsI (gsI (gsI (gsI G c 11 1) c 12 i) c 13 j) c 14 k) G [15] := agr_trans (agr_trans (agr_trans (agr_I (by rw [k0]; decide)) (agr_I (by rw [gsI1, k0]; decide))) (agr_I (by rw [gsI1, gsI1, k0]; decide))) (agr_I (by rw [gsI1, gsI1, gsI1, k0]; decide))
  have x1 := hAg (c + 1) (by rw [k1]; decide)
  have x6 := hAg (c + 6) (by rw [k6]; decide)
  have x7 := hAg (c + 7) (by rw [k7]; decide)
  have x10 := hAg (c + 10) (by rw [k10]; decide)
  have x11 := hAg (c + 11) (by rw [k11]; decide)
  have x13 := hAg (c + 13) (by rw [k13]; decide)
  have x14 := hAg (c + 14) (by rw [k14]; decide)
  have y1 : ∀ z, z ≠ 25 → (msA (msA (msA (msI S 25 1) 26 0 i) 26 1 j) 26 2 k).1 z = S.1 z := fun z hz => by simp [msA, msI, hz]
  have y2 : (msA (msA (msA (msI S 25 1) 26 0 i) 26 1 j) 26 2 k).1 25 = 1 := by simp [msA, msI]
  have y3 : ∀ z, z ≠ 26 → (msA (msA (msA (msI S 25 1) 26 0 i) 26 1 j) 26 2 k).2.2.1 z = S.2.2.1 z := fun z hz => funext fun t => by simp [msA, msI, hz]
  have y4 : (msA (msA (msA (msI S 25 1) 26 0 i) 26 1 j) 26 2 k).2.1 = S.2.1 := rfl
  refine rA_ms hA hAg (by decide) rfl rfl rfl rfl (by rw [x7.2.2.1]) (by rw [x7.2.2.1]) ⟨⟨y1 23 (by decide), y1 24 (by decide), y1 43 (by decide)⟩, fun z hz => y3 z (by rintro rfl; exact absurd hz (by decide)), fun q _ => rfl⟩ ?_ (by rw [y1 10 (by decide), y4]; exact b2) (by rw [y1 34 (by decide), y3 33 (by decide)]; exact b3) (by rw [y1 30 (by decide)]; exact b4) ?_ (by rw [y2]; exact Or.inr rfl)
  · unfold rMs
    rw [x1.2.2.1, x1.2.2.2.1, x6.2.2.1, x13.2.2.1, x14.2.2.1, x10.2.2.1, x11.2.2.1, y1 10 (by decide), y4, y3 9 (by decide), y1 30 (by decide), y3 29 (by decide), y1 34 (by decide), y3 33 (by decide), y2]
    refine ⟨r1, r2, r3, by simp [gsI], fun e he => ?_, r6, r7, r8, r9⟩
    rcases (show e = 0 ∨ e = 1 ∨ e = 2 by omega) with h | h | h <;> subst h <;> simp [gsI, msA, msI]
  · unfold mLt
    rw [y3 32 (by decide)]
    exact b5
theorem rDn_1 : ∀ e (T : GS), (rDn G y e T).1 = T.1 := by
  intro e
  induction e with
  | zero => intro T; rfl
  | succ e ih => intro T; rw [rDn, ih]; rfl
theorem rA_145 (hA : rA g G c n b ρ S) (hP : rPd G c ρ S p) (hp : p ≤ 64) : ∃ G', X g 145 0 [.val (va_rf (some c)), .val (.int i), .val (.int j), .val (.int k)] [] (gH n kc ks G) = some (some (.int (-100 - i)), gH n kc ks G') ∧ rA g G' c n b ρ (mStop S (tn (S.1 16)) i j k) ∧ G'.2.2.1 (c + 7) 1 = 0 ∧ G'.1 = G.1 := by
  have k0 : G.1 c = 15 := hA.1.2.1.1
  have k7 : G.1 (c + 7) = 20 := hA.1.2.1.2.2.2.2.2.2.2.1
  obtain ⟨j1, j2, j3, j4, j5⟩ := rA_jL hA
  have k30 := c30 (g := g) (n := n) (kc := kc) (ks := ks) hA.1.1 j1 j2 j3 (rPu_ok hA.2.2.2.2.2.2.2.2.1.1 hA.2.2.1 hP.2.2) hp hP.1
  have e16 : tn (S.1 16) = p := by rw [hP.2.1]; exact tn_nI (by omega)
  have d1 := rA_dn (g := g) (c := c) (n := n) (b := b) hP.2.2 p G S (Nat.le_refl p) hA rfl rfl rfl
  have d2 : (rDn G (c + 7 + 1) p G).1 = G.1 := (rDn_1 p G).trans rfl
  have d1' : rA g (rDn G (c + 7 + 1) p G) c n b ρ (mDn (fun x => tn (S.2.2.1 13 x)) (S.2.2.1 14) (S.2.2.2 15) p S) := d1
  generalize rDn G (c + 7 + 1) p G = G1 at *
  have c0 : G1.1 c = 15 := d1'.1.2.1.1
  have c7 : G1.1 (c + 7) = 20 := d1'.1.2.1.2.2.2.2.2.2.2.1
  have k1 : G1.1 (c + 1) = 16 := d1'.1.2.1.2.1
  have hAg : agr (gsI G1 (c + 7) 1 0) G1 [20] := agr_I (by rw [c7]; decide)
  have d3 : rA g (gsI G1 (c + 7) 1 0) c n b ρ (mDn (fun x => tn (S.2.2.1 13 x)) (S.2.2.1 14) (S.2.2.2 15) p S) := rA_agr hAg (by decide) (by rw [gsI3, if_neg (by omega)]) (by rw [gsI3, if_neg (by omega)]) (by rw [gsI3, if_neg (by omega)]) rfl (gL_same rfl rfl d1'.1) d1'
  have d4 := rA_stp (i := i) (j := j) (k := k) (rA_ev (mEv_16 (i := 0)) d3)
  refine ⟨gsI (gsI (gsI (gsI (gsI G1 (c + 7) 1 0) c 11 1) c 12 i) c 13 j) c 14 k, ?_, ?_, ?_, ?_⟩
  · have q0 : (gsI G1 (c + 7) 1 0).1 c = 15 := c0
    have q1 : (gsI (gsI G1 (c + 7) 1 0) c 11 1).1 c = 15 := c0
    have q2 : (gsI (gsI (gsI G1 (c + 7) 1 0) c 11 1) c 12 i).1 c = 15 := c0
    have q3 : (gsI (gsI (gsI (gsI G1 (c + 7) 1 0) c 11 1) c 12 i) c 13 j).1 c = 15 := c0
    simp only [x145_0, x145_1, x145_4, x145_7, x145_8, x145_9, x145_12, x145_13, x145_14, x145_17, x145_18, x145_19, x145_22, x145_23, x145_24, x145_27, x145_29, x145_30, x145_31, gf_15_6 k0, gc_20 k7, k30, x145_9 (a1 := 1) (by decide), gf_15_11 q0, gp_15_11 q0, gf_15_12 q1, gp_15_12 q1, gf_15_13 q2, gp_15_13 q2, gf_15_14 q3, gp_15_14 q3, Option.isSome_some, Option.bind_some, Option.toList_some, Option.toList_none, List.cons_append, List.nil_append, Option.isSome_some, if_true, eq_self, or_true, true_or, xb_01, mcl_cl, not_true_eq_false, not_false_eq_true, if_false]
  · unfold mStop
    rw [e16]
    exact d4
  · show (if c + 7 = c ∧ _ then _ else if c + 7 = c ∧ _ then _ else if c + 7 = c ∧ _ then _ else if c + 7 = c ∧ _ then _ else if c + 7 = c + 7 ∧ 1 = 1 then (0 : Int32) else _) = 0
    rw [if_neg (by omega), if_neg (by omega), if_neg (by omega), if_neg (by omega), if_pos ⟨rfl, rfl⟩]
  · exact d2
/-- boxes and what was read stay -/
def bxk (T G : GS) (c : Nat) : Prop := ∀ q, q = c + 2 ∨ q = c + 3 ∨ q = c + 4 ∨ q = c + 5 → T.2.2.1 q = G.2.2.1 q ∧ T.2.2.2.1 q = G.2.2.2.1 q
theorem jPut_bx (h1 : q ≠ n) (h2 : q ≠ jn) (h3 : q ≠ a + 1) (h4 : q ≠ a + 2) : (jPut G n jn p a i k u).2.2.1 q = G.2.2.1 q ∧ (jPut G n jn p a i k u).2.2.2.1 q = G.2.2.2.1 q := by
  constructor
  · funext t
    simp [jPut, rSet, pSet, gsI, gsJ, gsR, gnew, h1, h2, h3]
  · funext t
    simp [jPut, rSet, pSet, gsI, gsJ, gsR, gnew, h1, h4]
theorem rA_134 (hA : rA g G c n b ρ S) (hP : rPd G c ρ S p) (hp : p < 64) (hs : s < 10) (hx : x = c + 2 ∨ x = c + 3) (hx0 : G.2.2.1 x 0 = k) (hx1 : G.2.2.2.1 x 1 = u) (hok : okb k u) : ∃ n1 kc1 ks1 G1, X g 134 0 [.val (va_rf (some c)), .val (.int (nI s)), .val (.int i), .val (.int v), .val (va_rf (some x)), .unset] [] (gH n kc ks G) = some (some (.int (sAns (sPutBy S s i v k))), gH n1 kc1 ks1 G1) ∧ rA g G1 c n1 b ρ (mPb S s i v k u) ∧ (sPutBy S s i v k = 0 → rPd G1 c ρ (mPb S s i v k u) (p + 1)) ∧ (¬ sPutBy S s i v k = 0 → rPd G1 c ρ (mPb S s i v k u) p) ∧ n ≤ n1 ∧ kc1 ≤ kc + 1 ∧ ks1 ≤ ks + 6 ∧ (∀ q, q < n → G1.1 q = G.1 q) ∧ bxk G1 G c := by
  have kx : G.1 x = 16 := by
    rcases hx with h | h
    · rw [h]; exact hA.1.2.1.2.2.1
    · rw [h]; exact hA.1.2.1.2.2.2.1
  have hn := hA.1.2.2.2.2.2.2
  have k134 := c134 (g := g) (n := n) (kc := kc) (ks := ks) (p := p) (s := s) (i := i) (v := v) (y := x) (k := k) (u := u) hA.1.1 (hn n (by omega)) hA.1.2.1.1 hA.2.1 hA.2.2.1 hA.2.2.2.2.2.2.2.2.1 hA.1.2.2.1 (rA_jL hA) hp hP.1 hs kx hx0 hx1 hok
  unfold gPt at k134
  by_cases c1 : sPutBy S s i v k = 0
  · rw [if_pos c1] at k134
    obtain ⟨b1, b2⟩ := rA_put hA hP hp hs c1 hok
    refine ⟨_, _, _, _, k134, b1, fun _ => b2, fun z => absurd c1 z, by omega, by omega, by omega, fun q hq => by rw [jPut_1, if_neg (by omega)], ?_⟩
    have s1 := (sPutBy_0 c1).1
    have hrr := bS_row hA.2.2.1 (⟨s, hs, s1, rfl⟩ : rIn S (mr S s))
    obtain ⟨w1, w2, w3, _⟩ := hA.1.1.1 (ρ (mr S s)) hrr.1
    obtain ⟨k0, k1, k2, k3, ⟨k4, _⟩, ⟨k5, _⟩, _⟩ := hA.1.2.1
    have h0 := hn n (Nat.le_refl n)
    intro q hq
    have key : G.1 q ≠ 0 ∧ G.1 q ≠ 2 ∧ G.1 q ≠ 3 := by
      rcases hq with h | h | h | h
      · rw [h, k2]; decide
      · rw [h, k3]; decide
      · rw [h, k4]; decide
      · rw [h, k5]; decide
    exact jPut_bx (fun z => key.1 (z ▸ h0)) (by omega) (fun z => key.2.1 (z ▸ w1)) (fun z => key.2.2 (z ▸ w2))
  · rw [if_neg c1] at k134
    have hm : mPb S s i v k u = S := by unfold mPb; rw [if_neg c1]
    rw [hm]
    exact ⟨_, _, _, _, k134, hA, fun z => absurd z c1, fun _ => hP, Nat.le_refl _, by omega, by omega, fun _ _ => rfl, fun _ _ => ⟨rfl, rfl⟩⟩
theorem sPin_why (S : MS) (w : Nat) (j v k : Int32) : sWhy (sPin S w j v k) := by
  unfold sPin
  split
  · exact sPutBy_why _ _ _ _ _
  · unfold sWhy
    simp
theorem rA_140 (hA : rA g G c n b ρ S) (hP : rPd G c ρ S p) (hp : p < 64) (hw6 : w < 6) (hx : x = c + 2 ∨ x = c + 3) (hx0 : G.2.2.1 x 0 = k) (hx1 : G.2.2.2.1 x 1 = u) (hok : okb k u) : ∃ n1 kc1 ks1 G1, X g 140 0 [.val (va_rf (some c)), .val (va_rf (some (b + 5 + w))), .val (.int j), .val (.int v), .val (va_rf (some x))] [] (gH n kc ks G) = some (some (.int (sAns (sPin S w j v k))), gH n1 kc1 ks1 G1) ∧ rA g G1 c n1 b ρ (mPin S w j v k u) ∧ (sPin S w j v k = 0 → rPd G1 c ρ (mPin S w j v k u) (p + 1)) ∧ (¬ sPin S w j v k = 0 → rPd G1 c ρ (mPin S w j v k u) p) ∧ n ≤ n1 ∧ kc1 ≤ kc + 1 ∧ ks1 ≤ ks + 6 ∧ (∀ q, q < n → G1.1 q = G.1 q) ∧ bxk G1 G c := by
  obtain ⟨w1, w2, w3, w4, w5, w6, w7, w8, w9, w10⟩ := rA_w hA hw6
  have k0 : G.1 c = 15 := hA.1.2.1.1
  have k88 := c88 (g := g) (n := n) (kc := kc) (ks := ks) (i := j) w1
  have k89 := c89 (g := g) (n := n) (kc := kc) (ks := ks) (i := j) w1
  rw [w6, xin_2 (by omega)] at k88
  rw [w4, w5] at k89
  unfold sPin mPin
  rw [sHas_x hA hw6]
  cases f1 : xin j (sMany S w) with
  | false =>
    rw [f1] at k88
    rw [if_neg (by simp), if_neg (by simp)]
    refine ⟨n, kc, ks, G, ?_, hA, fun z => absurd z (by decide), fun _ => hP, Nat.le_refl _, by omega, by omega, fun _ _ => rfl, fun _ _ => ⟨rfl, rfl⟩⟩
    simp only [x140_0, x140_1, x140_2, x140_5, x140_8, x140_9, x140_10, x140_13, x140_14, x140_15, x140_18, x140_19, x140_21, x140_24, x140_27, x140_29, gc_14 w1, k88, xb_f, Option.bind_some, Option.toList_some, Option.toList_none, List.cons_append, List.nil_append, Option.isSome_some, if_true, eq_self, or_true, true_or, xb_01, mcl_cl, not_true_eq_false, not_false_eq_true, if_false]
    rfl
  | true =>
    rw [f1] at k88
    rw [if_pos rfl, if_pos rfl]
    obtain ⟨n1, kc1, ks1, G1, h1, h2⟩ := rA_134 (g := g) (kc := kc) (ks := ks) (i := sCell S w j) (v := v) hA hP hp w3 hx hx0 hx1 hok
    refine ⟨n1, kc1, ks1, G1, ?_, h2⟩
    unfold sCell at h1
    simp only [x140_0, x140_1, x140_2, x140_5, x140_8, x140_9, x140_10, x140_13, x140_14, x140_15, x140_18, x140_19, x140_21, x140_24, x140_27, x140_29, gc_14 w1, k88, xb_t, show ¬ (1 : Int32) = 0 by decide, gf_14_0 w1, w2, k89, gc_15 k0, h1, Option.bind_some, Option.toList_some, Option.toList_none, List.cons_append, List.nil_append, Option.isSome_some, if_true, eq_self, or_true, true_or, xb_01, mcl_cl, not_true_eq_false, not_false_eq_true, if_false]
    rfl
/-- how a move ends -/
def mvE (g : xG) (c b : Nat) (ρ : Nat → Nat) (n kc ks : Nat) (G : GS) (a1 a2 : Nat) (r : Option (Option Value × xH)) (v : Int32) (S' : MS) : Prop := ∃ n' kc' ks' G', r = some (some (.int v), gH n' kc' ks' G') ∧ rA g G' c n' b ρ S' ∧ G'.2.2.1 (c + 7) 1 = 0 ∧ n ≤ n' ∧ kc' ≤ kc + a1 ∧ ks' ≤ ks + a2 ∧ ∀ q, q < n → G'.1 q = G.1 q
theorem mvE_go {r : Option (Option Value × xH)} (h : mvE g c b ρ n1 kc1 ks1 G1 a1 a2 r v S') (hn : n ≤ n1) (hk : kc1 ≤ kc + e1) (hs : ks1 ≤ ks + e2) (hG : ∀ q, q < n → G1.1 q = G.1 q) : mvE g c b ρ n kc ks G (a1 + e1) (a2 + e2) r v S' := by
  obtain ⟨n', kc', ks', G', h1, h2, h3, h4, h5, h6, h7⟩ := h
  exact ⟨n', kc', ks', G', h1, h2, h3, by omega, by omega, by omega, fun q hq => by rw [h7 q (by omega), hG q hq]⟩
theorem mvE_le {r : Option (Option Value × xH)} (h : mvE g c b ρ n kc ks G a1 a2 r v S') (h1 : a1 ≤ e1) (h2 : a2 ≤ e2) : mvE g c b ρ n kc ks G e1 e2 r v S' := by
  obtain ⟨n', kc', ks', G', q1, q2, q3, q4, q5, q6, q7⟩ := h
  exact ⟨n', kc', ks', G', q1, q2, q3, q4, by omega, by omega, q7⟩
theorem sim_mv {L : List Slot} (h : mvE g c b ρ n kc ks G 900 9000 (X g y 0 L [] (gH n kc ks G)) v S') : sim g c n kc ks G y L (.int v) S' := by
  obtain ⟨n', kc', ks', G', q1, q2, q3, q4, q5, q6, q7⟩ := h
  exact ⟨n', kc', ks', G', b, ρ, q1, q2, q3, q4, q5, q6, q7⟩
/-- a move is settled -/
theorem mvE_146 (hA : rA g G c n b ρ S) (hP : rPd G c ρ S p) (hp : p ≤ 64) : ∃ h', X g 146 0 [.val (va_rf (some c)), .val (.int i)] [] (gH n kc ks G) = some (some (.int i), h') ∧ mvE g c b ρ n kc ks G 2 65 (some (some (.int i), h')) i (mSet S) := by
  obtain ⟨n', kc', ks', G', h1, h2, h3, h4, h5, h6, h7⟩ := rA_146 (g := g) (kc := kc) (ks := ks) (i := i) hA hP hp
  exact ⟨_, h1, n', kc', ks', G', rfl, h2, h3, h4, h5, h6, h7⟩
/-- a move is refused -/
theorem mvE_145 (hA : rA g G c n b ρ S) (hP : rPd G c ρ S p) (hp : p ≤ 64) : ∃ h', X g 145 0 [.val (va_rf (some c)), .val (.int i), .val (.int j), .val (.int k)] [] (gH n kc ks G) = some (some (.int (-100 - i)), h') ∧ mvE g c b ρ n kc ks G 2 65 (some (some (.int (-100 - i)), h')) (-100 - i) (mStop S (tn (S.1 16)) i j k) := by
  obtain ⟨G', h1, h2, h3, h4⟩ := rA_145 (g := g) (kc := kc) (ks := ks) (i := i) (j := j) (k := k) hA hP hp
  exact ⟨_, h1, n, kc, ks, G', rfl, h2, h3, Nat.le_refl _, by omega, by omega, fun q _ => by rw [h4]⟩
end K37
