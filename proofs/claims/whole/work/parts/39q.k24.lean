/-! THE CLASS beside the reference, 11: what stays when a bank changes; windows; letters fed -/
section K24
variable {g : xG} {n kc ks a b c s t w q l x y jn d r p n' e kb : Nat} {G T U : GS} {h : xH} {i j k m v lo hi : Int32} {u z : Int64} {o : Option Nat} {S S1 S' : MS} {ρ κ : Nat → Nat} {L L' : List Nat} {cnt : Nat} {at' wk ik : Nat → Int32} {wv iv : Nat → Int64}
def eqA (T G : GS) (q : Nat) : Prop := T.1 q = G.1 q ∧ T.2.1 q = G.2.1 q ∧ T.2.2.1 q = G.2.2.1 q ∧ T.2.2.2.1 q = G.2.2.2.1 q ∧ T.2.2.2.2 q = G.2.2.2.2 q
theorem bRo_at (e0 : eqA T G a) (e1 : eqA T G (a + 1)) (e2 : eqA T G (a + 2)) (hR : bRo G S a r) : bRo T S a r := by
  obtain ⟨q1, q2, q3, q4⟩ := hR
  refine ⟨by rw [e0.1]; exact q1, by rw [e0.2.2.1]; exact q2, by rw [e2.2.1]; exact q3, fun p hp => ?_⟩
  rw [e1.2.2.1, e2.2.2.2.1]
  exact q4 p hp
theorem bS_at (hB : bS G b ρ S) (e0 : eqA T G b) (e1 : eqA T G (b + 1)) (e2 : eqA T G (b + 2)) (e3 : eqA T G (b + 3)) (ew : ∀ w, w < 6 → eqA T G (b + 5 + w)) (er : ∀ r, rIn S r → eqA T G (ρ r) ∧ eqA T G (ρ r + 1) ∧ eqA T G (ρ r + 2)) : bS T b ρ S := by
  obtain ⟨h1, h2, h3⟩ := hB
  refine ⟨by rw [e0.1]; exact h1, fun s hs => ?_, fun w k hw' hk => ?_⟩
  · unfold bSl
    rw [e1.2.2.2.2, e2.2.2.1, e3.2.2.1]
    rcases h2 s hs with ⟨r0, r1, r2, r3, r4⟩ | r | r
    · obtain ⟨x0, x1, x2⟩ := er (mr S s) ⟨s, hs, r0, rfl⟩
      exact Or.inl ⟨r0, r1, r2, r3, bRo_at x0 x1 x2 r4⟩
    · exact Or.inr (Or.inl r)
    · exact Or.inr (Or.inr r)
  · rw [(ew w hw').2.2.1]
    exact h3 w k hw' hk
/-- all is as it was but for cells of some roles and the parts of one bank -/
def agb (T G : GS) (L : List Nat) (b : Nat) : Prop := ∀ q, ¬ G.1 q ∈ L → ¬ (b + 1 ≤ q ∧ q ≤ b + 10) → eqA T G q
theorem agb_r (hA : agr T G L) : agb T G L b := fun q hq _ => hA q hq
theorem bank_role (hw : gW G) (hb : G.1 b = 9) (h1 : b + 1 ≤ q) (h2 : q ≤ b + 10) : G.1 q ∈ [10, 11, 12, 13, 14] := by
  obtain ⟨w1, w2, w3, w4, _, _, _, _, w9⟩ := gW9 hw hb
  by_cases c1 : q = b + 1
  · rw [c1, w1]; decide
  · by_cases c2 : q = b + 2
    · rw [c2, w2]; decide
    · by_cases c3 : q = b + 3
      · rw [c3, w3]; decide
      · by_cases c4 : q = b + 4
        · rw [c4, w4]; decide
        · have := w9 (q - (b + 5)) (by omega)
          rw [show b + 5 + (q - (b + 5)) = q by omega] at this
          rw [this]; decide
theorem agb_e (hw : gW G) (hb : G.1 b = 9) (h : agb T G L b) (h1 : ¬ G.1 q ∈ L) (h2 : ¬ G.1 q ∈ [10, 11, 12, 13, 14]) : eqA T G q := h q h1 (fun z => h2 (bank_role hw hb z.1 z.2))
/-- two banks lie apart -/
theorem bank_ne (hw : gW G) (hb : G.1 b = 9) (hk : G.1 kb = 9) (hne : ¬ kb = b) (h1 : kb ≤ q) (h2 : q ≤ kb + 10) : ¬ (b + 1 ≤ q ∧ q ≤ b + 10) := by
  intro z
  have r1 : kb < b ∨ b < kb := by omega
  rcases r1 with r1 | r1
  · have := bank_role hw hk (q := b) (by omega) (by omega)
    rw [hb] at this
    exact absurd this (by decide)
  · have := bank_role hw hb (q := kb) (by omega) (by omega)
    rw [hk] at this
    exact absurd this (by decide)
theorem bS_agb (hw : gW G) (hb : G.1 b = 9) (h : agb T G L b) (hL : ¬ 1 ∈ L ∧ ¬ 2 ∈ L ∧ ¬ 3 ∈ L ∧ ¬ 9 ∈ L ∧ ¬ 10 ∈ L ∧ ¬ 11 ∈ L ∧ ¬ 12 ∈ L ∧ ¬ 14 ∈ L) (hne : ¬ kb = b) (hB : bS G kb κ S) : bS T kb κ S := by
  obtain ⟨l1, l2, l3, l9, l10, l11, l12, l14⟩ := hL
  have hk := hB.1
  obtain ⟨w1, w2, w3, w4, w5, w6, w7, w8, w9⟩ := gW9 hw hk
  refine bS_at hB (agb_e hw hb h (by rw [hk]; exact l9) (by rw [hk]; decide)) (h _ (by rw [w1]; exact l10) (bank_ne hw hb hk hne (by omega) (by omega))) (h _ (by rw [w2]; exact l11) (bank_ne hw hb hk hne (by omega) (by omega))) (h _ (by rw [w3]; exact l12) (bank_ne hw hb hk hne (by omega) (by omega))) (fun w hw' => h _ (by rw [w9 w hw']; exact l14) (bank_ne hw hb hk hne (by omega) (by omega))) (fun r hr => ?_)
  have hrr := bS_row hB hr
  obtain ⟨v1, v2, v3, _⟩ := hw.1 (κ r) hrr.1
  exact ⟨agb_e hw hb h (by rw [hrr.1]; exact l1) (by rw [hrr.1]; decide), agb_e hw hb h (by rw [v1]; exact l2) (by rw [v1]; decide), agb_e hw hb h (by rw [v2]; exact l3) (by rw [v2]; decide)⟩
theorem rKp_agb (hw : gW G) (hb : G.1 b = 9) (h : agb T G L b) (hL : ¬ 1 ∈ L ∧ ¬ 2 ∈ L ∧ ¬ 3 ∈ L ∧ ¬ 9 ∈ L ∧ ¬ 10 ∈ L ∧ ¬ 11 ∈ L ∧ ¬ 12 ∈ L ∧ ¬ 14 ∈ L) (e9 : T.2.2.2.2 c 9 = G.2.2.2.2 c 9) (e10 : T.2.2.2.2 c 10 = G.2.2.2.2 c 10) (hc9 : G.2.2.2.2 c 9 = some b) (hK : rKp G c ρ S) : rKp T c ρ S := by
  unfold rKp
  rw [e9, e10]
  rcases hK with hK | ⟨b1, b2, kb, κ, b3, b4, b5, b6, b7⟩
  · exact Or.inl hK
  · exact Or.inr ⟨b1, b2, kb, κ, b3, bS_agb hw hb h hL (fun z => b7 (by rw [hc9, z])) b4, b5, b6, b7⟩
theorem tR_agb (hw : gW G) (hb : G.1 b = 9) (h : agb T G L b) (h4 : ¬ 4 ∈ L) (hB : ∀ r, rIn S r → G.1 (ρ r) = 1) (hT : tR G ρ S) : tR T ρ S := by
  intro r hr
  obtain ⟨t1, t2⟩ := hT r hr
  obtain ⟨w1, w2, w3, _⟩ := hw.1 (ρ r) (hB r hr)
  refine ⟨fun p hp => ?_, t2⟩
  rw [(agb_e hw hb h (by rw [w3]; exact h4) (by rw [w3]; decide)).2.2.1]
  exact t1 p hp
theorem rPu_agb (hw : gW G) (hb : G.1 b = 9) (h : agb T G L b) (h5 : ¬ 5 ∈ L) (hy : eqA T G y) (hP : rPu G ρ S y cnt at' wk ik wv iv) : rPu T ρ S y cnt at' wk ik wv iv := by
  intro k hk
  obtain ⟨x, p1, p2, p3, p4, p5, p6, p7, p8, p9, p10, p11⟩ := hP k hk
  have ex := agb_e hw hb h (q := x) (by rw [p2]; exact h5) (by rw [p2]; decide)
  exact ⟨x, by rw [hy.2.2.2.2]; exact p1, by rw [ex.1]; exact p2, by rw [ex.2.2.2.2]; exact p3, p4, by rw [ex.2.2.1]; exact p5, p6, by rw [ex.2.2.1]; exact p7, by rw [ex.2.2.2.1]; exact p8, by rw [ex.2.2.1]; exact p9, by rw [ex.2.2.2.1]; exact p10, p11⟩
theorem rAc_agb (hw : gW G) (hb : G.1 b = 9) (h : agb T G L b) (hL : ¬ 5 ∈ L ∧ ¬ 6 ∈ L ∧ ¬ 7 ∈ L) (hy : T.2.2.2.2 y w = G.2.2.2.2 y w) (hA : rAc G ρ S y w) : rAc T ρ S y w := by
  obtain ⟨t, h1, h2, h3, h4, h5, h6⟩ := hA
  obtain ⟨w1, _⟩ := hw.2.1 t h2
  have e2 := agb_e hw hb h (q := t) (by rw [h2]; exact hL.2.1) (by rw [h2]; decide)
  have e3 := agb_e hw hb h (q := t + 1) (by rw [w1]; exact hL.2.2) (by rw [w1]; decide)
  exact ⟨t, by rw [hy]; exact h1, by rw [e2.1]; exact h2, by rw [e3.2.1]; exact h3, h4, h5, rPu_agb hw hb h hL.1 e3 h6⟩
theorem rJn_agb (hw : gW G) (hb : G.1 b = 9) (h : agb T G L b) (hL : ¬ 5 ∈ L ∧ ¬ 6 ∈ L ∧ ¬ 7 ∈ L) (e7 : T.2.2.1 (c + 7) = G.2.2.1 (c + 7)) (e9 : T.2.2.2.2 (c + 9) = G.2.2.2.2 (c + 9)) (hJ : rJn G c ρ S) : rJn T c ρ S := by
  obtain ⟨b1, b2, b3, b4, b5⟩ := hJ
  unfold rJn
  rw [e7, e9]
  refine ⟨b1, b2, b3, fun e z he hz => ?_, fun w hw' => rAc_agb hw hb h hL (by rw [e9]) (b5 w hw')⟩
  have h6 := b4 e z he hz
  rw [(agb_e hw hb h (q := z) (by rw [h6]; exact hL.2.1) (by rw [h6]; decide)).1]
  exact h6
theorem mKp_12 (h12 : ∀ q, q ≠ 12 → S'.2.2.1 q = S.2.2.1 q) (hb : S'.2.2.2 = S.2.2.2) : (mKp S').2.2.1 2 = (mKp S).2.2.1 2 ∧ (mKp S').2.2.1 3 = (mKp S).2.2.1 3 ∧ (mKp S').2.2.1 5 = (mKp S).2.2.1 5 ∧ (mKp S').2.2.1 7 = (mKp S).2.2.1 7 ∧ (mKp S').2.2.1 8 = (mKp S).2.2.1 8 ∧ (mKp S').2.2.1 12 = (mKp S).2.2.1 12 ∧ (mKp S').2.2.2 6 = (mKp S).2.2.2 6 :=
  ⟨h12 44 (by decide), h12 45 (by decide), h12 46 (by decide), h12 48 (by decide), h12 49 (by decide), h12 50 (by decide), by rw [show (mKp S').2.2.2 6 = S'.2.2.2 47 from rfl, hb]; rfl⟩
/-- a window set on both sides -/
theorem rA_win (hA : rA g G c n b ρ S) (hw6 : w < 6) (h1 : mSlot i = true) (h3 : mWithin m.toInt 0 32 = true) (h4 : mWithin v.toInt 0 8 = true) : rA g (wSet G (b + 5 + w) i j k m v) c n b ρ (mWin S w i j k m v) := by
  obtain ⟨a1, a2, a3, a4, a5, a6, a7, a8, a9⟩ := hA
  have hw := a1.1
  have hb := a3.1
  have h14 : G.1 (b + 5 + w) = 14 := (gW9 hw hb).2.2.2.2.2.2.2.2 w hw6
  have hAg : agr (wSet G (b + 5 + w) i j k m v) G [14] := agr_trans (agr_trans (agr_trans (agr_trans (agr_I (by rw [h14]; decide)) (agr_I (by rw [gsI1, h14]; decide))) (agr_I (by rw [gsI1, gsI1, h14]; decide))) (agr_I (by rw [gsI1, gsI1, gsI1, h14]; decide))) (agr_I (by rw [gsI1, gsI1, gsI1, gsI1, h14]; decide))
  have hAb : agb (wSet G (b + 5 + w) i j k m v) G [] b := by
    intro q _ hq
    have hne : ¬ q = b + 5 + w := by omega
    refine ⟨rfl, rfl, ?_, rfl, rfl⟩
    funext t
    simp only [wSet, gsI3, hne, false_and, if_false]
  have e12 : ∀ q, q ≠ 12 → (mWin S w i j k m v).2.2.1 q = S.2.2.1 q := by
    intro q hq
    funext t
    simp [mWin, msA, hq]
  have hS1 : (mWin S w i j k m v).1 = S.1 := rfl
  have hS2 : (mWin S w i j k m v).2.1 = S.2.1 := rfl
  have hS4 : (mWin S w i j k m v).2.2.2 = S.2.2.2 := rfl
  have hwv : ∀ w' k', k' < 5 → (mWin S w i j k m v).2.2.1 12 (5 * w' + k') = if w' = w then (if k' = 0 then i else if k' = 1 then j else if k' = 2 then k else if k' = 3 then m else v) else S.2.2.1 12 (5 * w' + k') := by
    intro w' k' hk
    by_cases c : w' = w
    · subst c
      rw [if_pos rfl]
      have r : k' = 0 ∨ k' = 1 ∨ k' = 2 ∨ k' = 3 ∨ k' = 4 := by omega
      rcases r with r | r | r | r | r <;> subst r <;> simp [mWin, msA]
    · rw [if_neg c]
      simp only [mWin, msA, true_and]
      rw [if_neg (by omega), if_neg (by omega), if_neg (by omega), if_neg (by omega), if_neg (by omega)]
  have e7 := e12 7 (by decide)
  have hin : ∀ r, rIn (mWin S w i j k m v) r ↔ rIn S r := fun r => rIn_ev e7
  have hO : mOk (mWin S w i j k m v) := by
    obtain ⟨o1, o2, o3, o4, o5, o6⟩ := a9.1
    refine ⟨fun r hr => ?_, fun q hq => ?_, fun r p hr hp h8 => ?_, fun w' hw' => ?_, fun r hr => ?_, fun q hq => ?_⟩
    · rw [e12 3 (by decide)]; exact o1 r hr
    · rw [e12 5 (by decide), hS4]; exact o2 q hq
    · rw [e12 2 (by decide)] at h8 ⊢
      rw [e12 5 (by decide)]; exact o3 r p hr hp h8
    · have y0 := hwv w' 0 (by decide)
      have y3 := hwv w' 3 (by decide)
      have y4 := hwv w' 4 (by decide)
      rw [Nat.add_zero] at y0
      rw [y0, y3, y4]
      by_cases c : w' = w
      · rw [if_pos c, if_pos c, if_pos c]
        exact ⟨mWithin_iff.mp h1, mWithin_iff.mp h3, mWithin_iff.mp h4⟩
      · rw [if_neg c, if_neg c, if_neg c]
        exact o4 w' hw'
    · rw [e12 2 (by decide)]; exact o5 r hr
    · rw [e12 5 (by decide), hS4]; exact o6 q hq
  obtain ⟨k0, k1, k2, k3, ⟨k4, _⟩, ⟨k5, _⟩, ⟨k6, _⟩, k7, ⟨k8, _⟩, ⟨k9, _⟩, k10, ⟨k11, _⟩, ⟨k12, _⟩, k13, ⟨k14, _⟩, ⟨k15, _⟩⟩ := a1.2.1
  have ec := hAg c (by rw [k0]; decide)
  have x1 := hAg (c + 1) (by rw [k1]; decide)
  have x6 := hAg (c + 6) (by rw [k6]; decide)
  have x7 := hAg (c + 7) (by rw [k7]; decide)
  have x9 := hAg (c + 9) (by rw [k9]; decide)
  have x10 := hAg (c + 10) (by rw [k10]; decide)
  have x11 := hAg (c + 11) (by rw [k11]; decide)
  have x13 := hAg (c + 13) (by rw [k13]; decide)
  have x14 := hAg (c + 14) (by rw [k14]; decide)
  refine ⟨gL_same rfl rfl a1, a2, ⟨hb, fun s hs => ?_, fun w' k' hw' hk' => ?_⟩, ?_, ?_, ?_, ?_, ?_, hO, ?_⟩
  · obtain ⟨w1, w2, w3, w4, w5, w6, w7, w8, w9⟩ := gW9 hw hb
    have y1 := hAg (b + 1) (by rw [w1]; decide)
    have y2 := hAg (b + 2) (by rw [w2]; decide)
    have y3 := hAg (b + 3) (by rw [w3]; decide)
    unfold bSl
    rw [y1.2.2.2.2, y2.2.2.1, y3.2.2.1, (mRow_cg (congrFun e7 s)).1, (mRow_cg (congrFun e7 s)).2, e7, e12 8 (by decide), e12 2 (by decide)]
    rcases a3.2.1 s hs with ⟨r0, r1, r2, r3, r4⟩ | r | r
    · refine Or.inl ⟨r0, r1, r2, r3, ?_⟩
      have r5 := bRo_agr hw hAg (by decide) r4
      unfold bRo mz at r5 ⊢
      rw [e12 2 (by decide), e12 3 (by decide), e12 5 (by decide), hS4]
      exact r5
    · exact Or.inr (Or.inl r)
    · exact Or.inr (Or.inr r)
  · rw [hwv w' k' hk']
    by_cases c : w' = w
    · subst c
      rw [if_pos rfl]
      have r : k' = 0 ∨ k' = 1 ∨ k' = 2 ∨ k' = 3 ∨ k' = 4 := by omega
      rcases r with r | r | r | r | r <;> subst r <;> simp [wSet, gsI]
    · rw [if_neg c]
      have hne : ¬ b + 5 + w' = b + 5 + w := by omega
      have := a3.2.2 w' k' hw' hk'
      rw [← this]
      simp only [wSet, gsI3, hne, false_and, if_false]
  · intro r r' z1 z2
    exact a4 r r' ((hin r).mp z1) ((hin r').mp z2)
  · have := tR_agb hw hb hAb (by decide) (fun r hr => (bS_row a3 hr).1) a5
    intro r hr
    unfold mz
    rw [e12 3 (by decide), e12 4 (by decide)]
    exact this r ((hin r).mp hr)
  · have := rKp_agb hw hb hAb (by decide) rfl rfl a2 a6
    obtain ⟨m2, m3, m5, m7, m8, m12, m6⟩ := mKp_12 e12 hS4
    unfold rKp at this ⊢
    rcases this with this | ⟨b1, b2, kb, κ, b3, b4, b5, b6, b7⟩
    · exact Or.inl this
    · refine Or.inr ⟨b1, mOk_c b2 (fun i => by rw [m2]) (fun i => by rw [m3]) (fun i => by rw [m12]) (fun q hq => by rw [m5, m6]; exact okc_self b2 hq), kb, κ, b3, bS_ev m2 m3 m5 m7 m8 m12 m6 b4, ?_, ?_, b7⟩
      · intro r r' z1 z2
        exact b5 r r' ((rIn_ev m7).mp z1) ((rIn_ev m7).mp z2)
      · intro r r' z1 z2
        exact b6 r r' ((hin r).mp z1) ((rIn_ev m7).mp z2)
  · obtain ⟨b1, b2, b3, b4, b5⟩ := rJn_agb hw hb hAb (by decide) x7.2.2.1 x9.2.2.2.2 a7
    refine ⟨b1, b2, b3, b4, fun w' hw' => ?_⟩
    obtain ⟨t, t1, t2, t3, t4, t5, t6⟩ := b5 w' hw'
    unfold rAc
    rw [e12 22 (by decide), e12 17 (by decide), e12 18 (by decide), e12 20 (by decide)]
    exact ⟨t, t1, t2, t3, t4, t5, rPu_ev e7 (e12 2 (by decide)) (e12 3 (by decide)) t6⟩
  · unfold rMs
    rw [x1.2.2.1, x1.2.2.2.1, x6.2.2.1, ec.2.2.1, x13.2.2.1, x14.2.2.1, x10.2.2.1, x11.2.2.1, e12 9 (by decide), e12 26 (by decide), e12 29 (by decide), e12 33 (by decide)]
    exact a8
  · obtain ⟨_, b2, b3, b4, b5, b6⟩ := a9
    refine ⟨b2, ?_, b4, ?_, b6⟩
    · rw [e12 33 (by decide)]
      exact b3
    · unfold mLt
      rw [e12 32 (by decide)]
      exact b5
end K24
