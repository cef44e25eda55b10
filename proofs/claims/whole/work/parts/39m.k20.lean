/-! THE CLASS beside the reference, 7: puts taken back, done again -/
section K20
variable {g : xG} {n kc ks a b c s t w q l x y jn d r p n' e : Nat} {G T U : GS} {h : xH} {i j k m v : Int32} {u z : Int64} {o : Option Nat} {S S1 S' : MS} {ρ κ : Nat → Nat} {L L' : List Nat} {cnt : Nat} {at' wk ik : Nat → Int32} {wv iv : Nat → Int64}
theorem rPu_e (hP : rPu G ρ S y cnt at' wk ik wv iv) (he : e < cnt) : puA G y e = ρ (tn (at' e) / 32) ∧ puP G y e = tn (at' e) % 32 ∧ G.2.2.1 (puX G y e) 2 = wk e ∧ G.2.2.2.1 (puX G y e) 3 = wv e ∧ G.2.2.1 (puX G y e) 4 = ik e ∧ G.2.2.2.1 (puX G y e) 5 = iv e ∧ rIn S (tn (at' e) / 32) ∧ tn (at' e) % 32 < mz S (tn (at' e) / 32) ∧ okc S (tn (at' e)) (wk e) (wv e) ∧ okc S (tn (at' e)) (ik e) (iv e) := by
  obtain ⟨x, p1, p2, p3, p4, p5, p6, p7, p8, p9, p10, p11, p12, p13⟩ := hP e he
  have ex : puX G y e = x := by unfold puX; rw [p1]; rfl
  have ea : puA G y e = ρ (tn (at' e) / 32) := by unfold puA; rw [ex, p3]; rfl
  have ep : puP G y e = tn (at' e) % 32 := by
    unfold puP
    rw [ex, p5]
    exact tn_nI (by omega)
  rw [ex]
  exact ⟨ea, ep, p7, p8, p9, p10, p4, p6, p12, p13⟩
theorem okc_S (h2 : S1.2.2.1 2 = S.2.2.1 2) (h : okc S q k u) : okc S1 q k u := by
  unfold okc at h ⊢
  rw [h2]
  exact h
theorem rA_one (hP : rPu G ρ S y cnt at' wk ik wv iv) (he : e < cnt) (hA : rA g T c n b ρ S1) (h7 : S1.2.2.1 7 = S.2.2.1 7) (h2 : S1.2.2.1 2 = S.2.2.1 2) (h3 : S1.2.2.1 3 = S.2.2.1 3) (hc : okc S (tn (at' e)) k u) : rA g (rSet T (puA G y e) (puP G y e) k u) c n b ρ (mCw S1 (tn (at' e)) k u) := by
  obtain ⟨f1, f2, _, _, _, _, f3, f4, _, _⟩ := rPu_e hP he
  have hm : mz S1 (tn (at' e) / 32) = mz S (tn (at' e) / 32) := by unfold mz; rw [h3]
  have hq : 32 * (tn (at' e) / 32) + tn (at' e) % 32 = tn (at' e) := by omega
  have := rA_set (k := k) (u := u) hA ((rIn_ev h7).mpr f3) (by rw [hm]; exact f4) (by rw [hq]; exact okc_S h2 hc)
  rw [hq] at this
  rw [f1, f2]
  exact this
theorem rA_dn (hP : rPu G ρ S y cnt at' wk ik wv iv) : ∀ e (T : GS) (S1 : MS), e ≤ cnt → rA g T c n b ρ S1 → S1.2.2.1 7 = S.2.2.1 7 → S1.2.2.1 2 = S.2.2.1 2 → S1.2.2.1 3 = S.2.2.1 3 → rA g (rDn G y e T) c n b ρ (mDn (fun x => tn (at' x)) wk wv e S1) := by
  intro e
  induction e with
  | zero => intro T S1 _ hA _ _ _; exact hA
  | succ e ih =>
    intro T S1 he hA h7 h2 h3
    obtain ⟨_, _, f3, f4, _, _, _, _, f9, _⟩ := rPu_e hP (show e < cnt by omega)
    rw [rDn, mDn, f3, f4]
    refine ih _ _ (by omega) (rA_one hP (show e < cnt by omega) hA h7 h2 h3 f9) ?_ ?_ ?_
    · rw [← h7]
      exact funext fun t => mCw_A (by decide)
    · rw [← h2]
      exact funext fun t => mCw_A (by decide)
    · rw [← h3]
      exact funext fun t => mCw_A (by decide)
theorem rA_up (hP : rPu G ρ S y cnt at' wk ik wv iv) : ∀ f e (T : GS) (S1 : MS), e + f = cnt → rA g T c n b ρ S1 → S1.2.2.1 7 = S.2.2.1 7 → S1.2.2.1 2 = S.2.2.1 2 → S1.2.2.1 3 = S.2.2.1 3 → rA g (rUp G y e f T) c n b ρ (mUp (fun x => tn (at' x)) ik iv e f S1) := by
  intro f
  induction f with
  | zero => intro e T S1 _ hA _ _ _; exact hA
  | succ f ih =>
    intro e T S1 he hA h7 h2 h3
    obtain ⟨_, _, _, _, f5, f6, _, _, _, f10⟩ := rPu_e hP (show e < cnt by omega)
    rw [rUp, mUp, f5, f6]
    refine ih _ _ _ (by omega) (rA_one hP (show e < cnt by omega) hA h7 h2 h3 f10) ?_ ?_ ?_
    · rw [← h7]
      exact funext fun t => mCw_A (by decide)
    · rw [← h2]
      exact funext fun t => mCw_A (by decide)
    · rw [← h3]
      exact funext fun t => mCw_A (by decide)
theorem mDn_I {o : Nat → Nat} {f : Nat → Int32} {y : Nat → Int64} : ∀ e (S : MS), mDn o f y e (msI S q k) = msI (mDn o f y e S) q k := by
  intro e
  induction e with
  | zero => intro S; rfl
  | succ e ih =>
    intro S
    rw [mDn, mDn]
    exact ih (msB (msA S 5 (o e) (f e)) 6 (o e) (y e))
theorem mDn_i {o : Nat → Nat} {f : Nat → Int32} {y : Nat → Int64} : ∀ e (S : MS), (mDn o f y e S).1 = S.1 ∧ (mDn o f y e S).2.1 = S.2.1 := by
  intro e
  induction e with
  | zero => intro S; exact ⟨rfl, rfl⟩
  | succ e ih =>
    intro S
    rw [mDn]
    exact ih _
theorem mUp_i {o : Nat → Nat} {f : Nat → Int32} {y : Nat → Int64} : ∀ d e (S : MS), (mUp o f y e d S).1 = S.1 ∧ (mUp o f y e d S).2.1 = S.2.1 := by
  intro d
  induction d with
  | zero => intro e S; exact ⟨rfl, rfl⟩
  | succ d ih =>
    intro e S
    rw [mUp]
    exact ih _ _
/-- how many acts are done, on both sides -/
theorem rA_done {e : Nat} (hA : rA g G c n b ρ S) (he : S.1 23 = nI e) (h24 : e ≤ 24) (hd : d ≤ e) : rA g (gsI G (c + 7) 3 (nI d)) c n b ρ (msI S 24 (nI d)) := by
  have hA' := hA
  obtain ⟨a1, a2, a3, a4, a5, a6, a7, a8, a9⟩ := hA
  have k7 : G.1 (c + 7) = 20 := a1.2.1.2.2.2.2.2.2.2.1
  have hAg : agr (gsI G (c + 7) 3 (nI d)) G [20] := agr_I (by rw [k7]; decide)
  have k1 : G.1 (c + 1) = 16 := a1.2.1.2.1
  have k9 : G.1 (c + 9) = 22 := a1.2.1.2.2.2.2.2.2.2.2.2.1.1
  have hw := a1.1
  have LB : ¬ 1 ∈ [20] ∧ ¬ 2 ∈ [20] ∧ ¬ 3 ∈ [20] ∧ ¬ 9 ∈ [20] ∧ ¬ 10 ∈ [20] ∧ ¬ 11 ∈ [20] ∧ ¬ 12 ∈ [20] ∧ ¬ 14 ∈ [20] := by decide
  refine ⟨gL_same rfl rfl a1, a2, bS_agr hw hAg LB a3, a4, ?_, ?_, ?_, ?_, ?_⟩
  · intro r hr
    obtain ⟨t1, t2⟩ := a5 r hr
    have hrr := bS_row a3 hr
    obtain ⟨w1, w2, w3, _⟩ := hw.1 (ρ r) hrr.1
    refine ⟨fun p hp => ?_, t2⟩
    rw [(hAg (ρ r + 3) (by rw [w3]; decide)).2.2.1]
    exact t1 p hp
  · rcases a6 with a6 | ⟨b1, b2, kb, κ, b3, b4, b5, b6⟩
    · exact Or.inl a6
    · exact Or.inr ⟨b1, b2, kb, κ, b3, bS_agr hw hAg LB b4, b5, b6⟩
  · obtain ⟨b1, b2, b3, b4, b5⟩ := a7
    refine ⟨?_, ?_, ⟨d, e, rfl, he, hd, h24⟩, b4, ?_⟩
    · rw [gsI3, if_pos ⟨rfl, rfl⟩]
      rfl
    · rw [gsI3, if_neg (by omega)]
      exact b2
    · intro w hw'
      exact rAc_agr hw hAg ⟨by decide, by decide, by decide⟩ (by rw [k9]; decide) (b5 w hw')
  · obtain ⟨k0, k1, k2, k3, ⟨k4, _⟩, ⟨k5, _⟩, ⟨k6, _⟩, k7, ⟨k8, _⟩, ⟨k9, _⟩, k10, ⟨k11, _⟩, ⟨k12, _⟩, k13, ⟨k14, _⟩, ⟨k15, _⟩⟩ := a1.2.1
    unfold rMs
    rw [(hAg c (by rw [k0]; decide)).2.2.1, (hAg (c + 1) (by rw [k1]; decide)).2.2.1, (hAg (c + 6) (by rw [k6]; decide)).2.2.1, (hAg (c + 13) (by rw [k13]; decide)).2.2.1, (hAg (c + 14) (by rw [k14]; decide)).2.2.1, (hAg (c + 10) (by rw [k10]; decide)).2.2.1, (hAg (c + 11) (by rw [k11]; decide)).2.2.1]
    exact a8
  · exact a9
theorem rA_jL (hA : rA g G c n b ρ S) : jL G (c + 7) := by
  obtain ⟨k0, k1, k2, k3, k4, k5, k6, k7, ⟨k8, k8'⟩, ⟨k9, k9'⟩, _⟩ := hA.1.2.1
  exact ⟨k7, k8, k8', k9, k9'⟩
theorem rA_jA (hA : rA g G c n b ρ S) {e : Nat} (he : S.1 23 = nI e) (h24 : e ≤ 24) : jA G (c + 7) e := by
  obtain ⟨b1, b2, b3, b4, b5⟩ := hA.2.2.2.2.2.2.1
  intro w hw
  obtain ⟨t, t1, t2, t3, t4, t5, t6⟩ := b5 w (by rw [he, tn_nI (by omega)]; exact hw)
  refine ⟨t, t1, t2, ?_⟩
  rw [t3]
  exact rPu_ok hA.2.2.2.2.2.2.2.2.1.1 hA.2.2.1 t6
/-- undone on both sides -/
theorem s112 (hA : rA g G c n b ρ S) (hp : G.2.2.1 (c + 7) 1 = 0) : ∃ G', X g 112 0 [.val (va_rf (some c))] [] (gH n kc ks G) = some (some (.int (fUndo S).1), gH n kc ks G') ∧ rA g G' c n b ρ (fUndo S).2 ∧ G'.2.2.1 (c + 7) 1 = 0 ∧ G'.1 = G.1 := by
  obtain ⟨d, e, h1, h2, h3, h4⟩ := hA.2.2.2.2.2.2.1.2.2.1
  have hj := rA_jL hA
  have hd : G.2.2.1 (c + 7) 3 = nI d := by rw [hA.2.2.2.2.2.2.1.1]; exact h1
  have hJ := rA_jA hA h2 h4
  have k37 := c37 (g := g) (n := n) (kc := kc) (ks := ks) (jn := c + 7) hA.1.1 hj hd (by omega) (fun w hw => hJ w (by omega))
  have k0 : G.1 c = 15 := hA.1.2.1.1
  unfold fUndo
  by_cases d0 : d = 0
  · subst d0
    have e0 : S.1 24 = 0 := h1
    rw [if_pos e0]
    rw [if_pos rfl, if_pos rfl] at k37
    refine ⟨G, ?_, hA, hp, rfl⟩
    simp only [x112_0, x112_1, x112_4, x112_7, gf_15_6 k0, gc_20 hj.1, k37, Option.bind_some, Option.toList_some, Option.toList_none, List.cons_append, List.nil_append, Option.isSome_some, if_true, eq_self, or_true, true_or, xb_01, mcl_cl, not_true_eq_false, not_false_eq_true, if_false]
  · have e0 : ¬ S.1 24 = 0 := by rw [h1]; exact nI_ne0 (by omega) (by omega)
    rw [if_neg e0]
    rw [if_neg d0, if_neg d0] at k37
    have hdd : tn (S.1 24) - 1 = d - 1 := by rw [h1, tn_nI (by omega)]
    have hd1 : S.1 24 - 1 = nI (d - 1) := by rw [h1]; exact pk_sub (b := 1) (by omega)
    rw [hdd, hd1]
    obtain ⟨t, t1, t2, t3, t4, t5, t6⟩ := hA.2.2.2.2.2.2.1.2.2.2.2 (d - 1) (by rw [h2, tn_nI (by omega)]; omega)
    have ht : acX G (c + 7) (d - 1) = t := by unfold acX; rw [show c + 7 + 2 = c + 9 from rfl, t1]; rfl
    rw [ht, t3] at k37
    have e22 : nI (tn (S.2.2.1 22 (d - 1))) = S.2.2.1 22 (d - 1) := (nI_tn t4).symm
    rw [e22] at k37
    have hA2 := rA_dn t6 (tn (S.2.2.1 22 (d - 1))) G S (Nat.le_refl _) hA rfl rfl rfl
    have hA3 := rA_done (d := d - 1) hA2 (by rw [(mDn_i _ _).1]; exact h2) h4 (by omega)
    rw [← mDn_I] at hA3
    have hw := hA.1.1
    have sm : ∀ f (T : GS), rSm T G → f ≤ tn (S.2.2.1 22 (d - 1)) → rSm (rDn G (t + 1) f T) G := by
      intro f
      induction f with
      | zero => intro T hs _; exact hs
      | succ f ih =>
        intro T hs hf
        rw [rDn]
        obtain ⟨f1, _, _, _, _, _, f7, _⟩ := rPu_e t6 (show f < tn (S.2.2.1 22 (d - 1)) by omega)
        refine ih _ (rSm_set hw hs ?_) (by omega)
        rw [f1]
        exact (bS_row hA.2.2.1 f7).1
    have hs := sm _ G rSm_refl (Nat.le_refl _)
    refine ⟨_, ?_, hA3, ?_, ?_⟩
    · simp only [x112_0, x112_1, x112_4, x112_7, gf_15_6 k0, gc_20 hj.1, k37, Option.bind_some, Option.toList_some, Option.toList_none, List.cons_append, List.nil_append, Option.isSome_some, if_true, eq_self, or_true, true_or, xb_01, mcl_cl, not_true_eq_false, not_false_eq_true, if_false]
    · rw [gsI3, if_neg (by omega), hs.2.2.2.1 (c + 7) (by rw [hj.1]; decide)]
      exact hp
    · exact hs.1
end K20
