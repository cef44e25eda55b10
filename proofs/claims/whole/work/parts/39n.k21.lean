/-! THE CLASS beside the reference, 8: small calls -/
section K21
variable {g : xG} {n kc ks a b c s t w q l x y jn d r p n' e : Nat} {G T U : GS} {h : xH} {i j k m v : Int32} {u z : Int64} {o : Option Nat} {S S1 S' : MS} {ρ κ : Nat → Nat} {L L' : List Nat} {cnt : Nat} {at' wk ik : Nat → Int32} {wv iv : Nat → Int64}
/-- a call does the same on both sides: what it answers, and where it leaves things -/
def sim (g : xG) (c n kc ks : Nat) (G : GS) (y : Nat) (L : List Slot) (v : Value) (S' : MS) : Prop := ∃ n' kc' ks' G' b ρ, X g y 0 L [] (gH n kc ks G) = some (some v, gH n' kc' ks' G') ∧ rA g G' c n' b ρ S' ∧ G'.2.2.1 (c + 7) 1 = 0 ∧ n ≤ n' ∧ kc' ≤ kc + 900 ∧ ks' ≤ ks + 9000 ∧ ∀ q, q < n → G'.1 q = G.1 q
theorem sim_same {v : Value} {L : List Slot} (hA : rA g G c n b ρ S) (hp : G.2.2.1 (c + 7) 1 = 0) (hx : X g y 0 L [] (gH n kc ks G) = some (some v, gH n kc ks G)) : sim g c n kc ks G y L v S := ⟨n, kc, ks, G, b, ρ, hx, hA, hp, Nat.le_refl _, by omega, by omega, fun _ _ => rfl⟩
theorem sim_in {v : Value} {L : List Slot} (hA : rA g T c n b ρ S') (hp : T.2.2.1 (c + 7) 1 = 0) (h1 : T.1 = G.1) (hx : X g y 0 L [] (gH n kc ks G) = some (some v, gH n kc ks T)) : sim g c n kc ks G y L v S' := ⟨n, kc, ks, T, b, ρ, hx, hA, hp, Nat.le_refl _, by omega, by omega, fun _ _ => by rw [h1]⟩
theorem xin_wi (hd : d < 2 ^ 31) : xin i d = mWithin i.toInt 0 (nI d - 1).toInt := by
  have h1 : 0 ≤ (nI d).toInt := by rw [nI_toInt hd]; omega
  rw [i32_pred h1, nI_toInt hd]
  cases c : mWithin i.toInt 0 ((d : Int) - 1) with
  | true =>
    have := mWithin_iff.mp c
    have e2 : i = nI (tn i) := nI_tn this.1
    rw [e2]
    exact xin_nI (by unfold tn; omega) (by omega)
  | false =>
    cases c2 : xin i d with
    | false => rfl
    | true =>
      exfalso
      obtain ⟨e1, e2⟩ := xin_tn c2
      have : mWithin i.toInt 0 ((d : Int) - 1) = true := by
        refine mWithin_iff.mpr ?_
        rw [e1, nI_toInt (by omega)]
        omega
      rw [this] at c
      exact absurd c (by simp)
/-- what banks, acts and images are made of is the same -/
def mEs (S' S : MS) : Prop := (S'.1 23 = S.1 23 ∧ S'.1 24 = S.1 24 ∧ S'.1 43 = S.1 43) ∧ (∀ q, q ∈ [2, 3, 4, 5, 7, 8, 12, 17, 18, 20, 22, 44, 45, 46, 48, 49, 50] → S'.2.2.1 q = S.2.2.1 q) ∧ (∀ q, q ∈ [6, 19, 21, 47] → S'.2.2.2 q = S.2.2.2 q)
theorem mOk_es (h : mEs S' S) (hO : mOk S) : mOk S' := by
  obtain ⟨_, h3, h4⟩ := h
  refine mOk_c hO (fun i => by rw [h3 2 (by decide)]) (fun i => by rw [h3 3 (by decide)]) (fun i => by rw [h3 12 (by decide)]) (fun q hq => ?_)
  rw [h3 5 (by decide), h4 6 (by decide)]
  exact okc_self hO hq
theorem mKp_es (h : mEs S' S) : (mKp S').2.2.1 2 = (mKp S).2.2.1 2 ∧ (mKp S').2.2.1 3 = (mKp S).2.2.1 3 ∧ (mKp S').2.2.1 5 = (mKp S).2.2.1 5 ∧ (mKp S').2.2.1 7 = (mKp S).2.2.1 7 ∧ (mKp S').2.2.1 8 = (mKp S).2.2.1 8 ∧ (mKp S').2.2.1 12 = (mKp S).2.2.1 12 ∧ (mKp S').2.2.2 6 = (mKp S).2.2.2 6 := by
  obtain ⟨_, h3, h4⟩ := h
  exact ⟨h3 44 (by decide), h3 45 (by decide), h3 46 (by decide), h3 48 (by decide), h3 49 (by decide), h3 50 (by decide), h4 47 (by decide)⟩
theorem mOk_kp (h : mEs S' S) (hO : mOk (mKp S)) : mOk (mKp S') := by
  obtain ⟨m2, m3, m5, m7, m8, m12, m6⟩ := mKp_es h
  refine mOk_c hO (fun i => by rw [m2]) (fun i => by rw [m3]) (fun i => by rw [m12]) (fun q hq => ?_)
  rw [m5, m6]
  exact okc_self hO hq
/-- the rest changes on both sides -/
theorem rA_ms (hA : rA g G c n b ρ S) (hAg : agr T G L) (hL : ∀ e, e ∈ [1, 2, 3, 4, 5, 6, 7, 9, 10, 11, 12, 14, 22] → ¬ e ∈ L) (h1 : T.1 = G.1) (h2 : T.2.1 = G.2.1) (h9 : T.2.2.2.2 c 9 = G.2.2.2.2 c 9) (h10 : T.2.2.2.2 c 10 = G.2.2.2.2 c 10) (h3 : T.2.2.1 (c + 7) 3 = G.2.2.1 (c + 7) 3) (h4 : T.2.2.1 (c + 7) 4 = G.2.2.1 (c + 7) 4) (hS : mEs S' S) (hM : rMs T c S') (i1 : okb (S'.1 10) (S'.2.1 11)) (i2 : ∃ l, S'.1 34 = nI l ∧ l ≤ 120 ∧ ∀ e, e < l → 1 ≤ (S'.2.2.1 33 e).toInt ∧ (S'.2.2.1 33 e).toInt ≤ 127) (i3 : ∃ l, S'.1 30 = nI l ∧ l ≤ 673) (i4 : mLt S') (i5 : S'.1 25 = 0 ∨ S'.1 25 = 1) : rA g T c n b ρ S' := by
  obtain ⟨a1, a2, a3, a4, a5, a6, a7, a8, a9⟩ := hA
  have hw := a1.1
  have l := fun e he => hL e he
  have k9 : G.1 (c + 9) = 22 := a1.2.1.2.2.2.2.2.2.2.2.2.1.1
  have e9 := hAg (c + 9) (by rw [k9]; exact l 22 (by decide))
  have LB : ¬ 1 ∈ L ∧ ¬ 2 ∈ L ∧ ¬ 3 ∈ L ∧ ¬ 9 ∈ L ∧ ¬ 10 ∈ L ∧ ¬ 11 ∈ L ∧ ¬ 12 ∈ L ∧ ¬ 14 ∈ L := ⟨l 1 (by decide), l 2 (by decide), l 3 (by decide), l 9 (by decide), l 10 (by decide), l 11 (by decide), l 12 (by decide), l 14 (by decide)⟩
  have hSS := hS
  obtain ⟨⟨f23, f24, f43⟩, f, fl⟩ := hS
  have e7 := f 7 (by decide)
  have hin : ∀ r, rIn S' r ↔ rIn S r := fun r => rIn_ev e7
  have hmz : ∀ r, mz S' r = mz S r := fun r => by unfold mz; rw [f 3 (by decide)]
  refine ⟨gL_same h1 h2 a1, by rw [h9]; exact a2, bS_ev (f 2 (by decide)) (f 3 (by decide)) (f 5 (by decide)) e7 (f 8 (by decide)) (f 12 (by decide)) (fl 6 (by decide)) (bS_agr hw hAg LB a3), ?_, ?_, ?_, ?_, hM, mOk_es hSS a9.1, i1, i2, i3, i4, i5⟩
  · intro r r' x1 x2
    exact a4 r r' ((hin r).mp x1) ((hin r').mp x2)
  · intro r hr
    have hr' := (hin r).mp hr
    obtain ⟨t1, t2⟩ := a5 r hr'
    have hrr := bS_row a3 hr'
    obtain ⟨w1, w2, w3, _⟩ := hw.1 (ρ r) hrr.1
    rw [hmz, f 4 (by decide)]
    refine ⟨fun p hp => ?_, t2⟩
    rw [(hAg (ρ r + 3) (by rw [w3]; exact l 4 (by decide))).2.2.1]
    exact t1 p hp
  · obtain ⟨m2, m3, m5, m7, m8, m12, m6⟩ := mKp_es hSS
    unfold rKp
    rw [f43, h10, h9]
    rcases a6 with a6 | ⟨b1, b2, kb, κ, b3, b4, b5, b6⟩
    · exact Or.inl a6
    · refine Or.inr ⟨b1, mOk_kp hSS b2, kb, κ, b3, bS_ev m2 m3 m5 m7 m8 m12 m6 (bS_agr hw hAg LB b4), ?_, ?_, b6.2⟩
      · intro r r' x1 x2
        exact b5 r r' ((rIn_ev m7).mp x1) ((rIn_ev m7).mp x2)
      · intro r r' x1 x2
        exact b6.1 r r' ((hin r).mp x1) ((rIn_ev m7).mp x2)
  · obtain ⟨b1, b2, b3, b4, b5⟩ := a7
    unfold rJn
    rw [f24, f23, h3, h4]
    refine ⟨b1, b2, b3, fun e z he hz => ?_, fun w hw' => ?_⟩
    · rw [e9.2.2.2.2] at hz
      rw [h1]
      exact b4 e z he hz
    · obtain ⟨t, t1, t2, t3, t4, t5, t6⟩ := rAc_agr hw hAg ⟨l 5 (by decide), l 6 (by decide), l 7 (by decide)⟩ (by rw [k9]; exact l 22 (by decide)) (b5 w hw')
      unfold rAc
      rw [f 22 (by decide), f 17 (by decide), f 18 (by decide), f 20 (by decide), fl 19 (by decide), fl 21 (by decide)]
      exact ⟨t, t1, t2, t3, t4, t5, rPu_ev e7 (f 2 (by decide)) (f 3 (by decide)) t6⟩
theorem mUp_I {o : Nat → Nat} {f : Nat → Int32} {y : Nat → Int64} : ∀ d e (S : MS), mUp o f y e d (msI S q k) = msI (mUp o f y e d S) q k := by
  intro d
  induction d with
  | zero => intro e S; rfl
  | succ d ih =>
    intro e S
    rw [mUp, mUp]
    exact ih (e + 1) (msB (msA S 5 (o e) (f e)) 6 (o e) (y e))
/-- done again on both sides -/
theorem s113 (hA : rA g G c n b ρ S) (hp : G.2.2.1 (c + 7) 1 = 0) : sim g c n kc ks G 113 [.val (va_rf (some c))] (.int (fRedo S).1) (fRedo S).2 := by
  obtain ⟨d, e, h1, h2, h3, h4⟩ := hA.2.2.2.2.2.2.1.2.2.1
  have hj := rA_jL hA
  have hd : G.2.2.1 (c + 7) 3 = nI d := by rw [hA.2.2.2.2.2.2.1.1]; exact h1
  have hc : G.2.2.1 (c + 7) 4 = nI e := by rw [hA.2.2.2.2.2.2.1.2.1]; exact h2
  have hJ := rA_jA hA h2 h4
  have k38 := c38 (g := g) (n := n) (kc := kc) (ks := ks) (jn := c + 7) hA.1.1 hj hd hc h3 h4 hJ
  have k0 : G.1 c = 15 := hA.1.2.1.1
  unfold fRedo
  by_cases d0 : d = e
  · have e0 : S.1 24 = S.1 23 := by rw [h1, h2, d0]
    rw [if_pos e0]
    rw [if_pos d0, if_pos d0] at k38
    refine sim_same hA hp ?_
    simp only [x113_0, x113_1, x113_4, x113_7, gf_15_6 k0, gc_20 hj.1, k38, Option.bind_some, Option.toList_some, Option.toList_none, List.cons_append, List.nil_append, Option.isSome_some, if_true, eq_self, or_true, true_or, xb_01, mcl_cl, not_true_eq_false, not_false_eq_true, if_false]
  · have e0 : ¬ S.1 24 = S.1 23 := by
      rw [h1, h2]
      intro z
      have := congrArg tn z
      rw [tn_nI (by omega), tn_nI (by omega)] at this
      exact d0 this
    rw [if_neg e0]
    rw [if_neg d0, if_neg d0] at k38
    have hdd : tn (S.1 24) = d := by rw [h1, tn_nI (by omega)]
    have hd1 : S.1 24 + 1 = nI (d + 1) := by rw [h1]; exact nI_1 d
    rw [hdd, hd1]
    obtain ⟨t, t1, t2, t3, t4, t5, t6⟩ := hA.2.2.2.2.2.2.1.2.2.2.2 d (by rw [h2, tn_nI (by omega)]; omega)
    have ht : acX G (c + 7) d = t := by unfold acX; rw [show c + 7 + 2 = c + 9 from rfl, t1]; rfl
    rw [ht, t3] at k38
    have e22 : nI (tn (S.2.2.1 22 d)) = S.2.2.1 22 d := (nI_tn t4).symm
    rw [e22] at k38
    have hA2 := rA_up t6 (tn (S.2.2.1 22 d)) 0 G S (by omega) hA rfl rfl rfl
    have hA3 := rA_done (d := d + 1) hA2 (by rw [(mUp_i _ _ _).1]; exact h2) h4 (by omega)
    have hw := hA.1.1
    have sm : ∀ f e (T : GS), rSm T G → e + f ≤ tn (S.2.2.1 22 d) → rSm (rUp G (t + 1) e f T) G := by
      intro f
      induction f with
      | zero => intro e T hs _; exact hs
      | succ f ih =>
        intro e T hs hf
        rw [rUp]
        obtain ⟨f1, _, _, _, _, _, f7, _⟩ := rPu_e t6 (show e < tn (S.2.2.1 22 d) by omega)
        refine ih _ _ (rSm_set hw hs ?_) (by omega)
        rw [f1]
        exact (bS_row hA.2.2.1 f7).1
    have hs := sm (tn (S.2.2.1 22 d)) 0 G rSm_refl (by omega)
    refine sim_in hA3 ?_ ?_ ?_
    · rw [gsI3, if_neg (by omega), hs.2.2.2.1 (c + 7) (by rw [hj.1]; decide)]
      exact hp
    · exact hs.1
    · simp only [x113_0, x113_1, x113_4, x113_7, gf_15_6 k0, gc_20 hj.1, k38, Option.bind_some, Option.toList_some, Option.toList_none, List.cons_append, List.nil_append, Option.isSome_some, if_true, eq_self, or_true, true_or, xb_01, mcl_cl, not_true_eq_false, not_false_eq_true, if_false]
theorem s112' (hA : rA g G c n b ρ S) (hp : G.2.2.1 (c + 7) 1 = 0) : sim g c n kc ks G 112 [.val (va_rf (some c))] (.int (fUndo S).1) (fUndo S).2 := by
  obtain ⟨T, h1, h2, h3, h4⟩ := s112 (kc := kc) (ks := ks) hA hp
  exact sim_in h2 h3 h4 h1
end K21
