/-! THE CLASS beside the reference, 21: an act is made and touches its cells -/
section K34
variable {g : xG} {n kc ks a b c s t w q l x y jn d r p n' e kb : Nat} {G T U : GS} {h : xH} {i j k m v i1 i2 : Int32} {u z : Int64} {o : Option Nat} {S S1 S' : MS} {ρ κ : Nat → Nat} {L L' : List Nat} {cnt : Nat} {at' wk ik : Nat → Int32} {wv iv : Nat → Int64}
theorem gL_lt (h : gL g G c n) (hq : G.1 q ≠ 0) : q < n := by
  obtain ⟨_, _, _, _, _, _, a7⟩ := h
  by_cases c : q < n
  · exact c
  · exact absurd (a7 q (by omega)) hq
theorem gL_grow (h : gL g G c n) (hw : gW T) (h1 : ∀ q, q < n → T.1 q = G.1 q) (h2 : ∀ q, q < n → T.2.1 q = G.2.1 q) (hn : n ≤ n') (h0 : ∀ q, n' ≤ q → T.1 q = 0) : gL g T c n' := by
  have hl := fun q hq => gL_lt (q := q) h hq
  obtain ⟨a1, a2, a3, a4, a5, a6, a7⟩ := h
  refine ⟨hw, ?_, ⟨by rw [h1 _ a4]; exact a3.1, a3.2⟩, by omega, by omega, by rw [h1 _ a5]; exact a6, h0⟩
  obtain ⟨k0, k1, k2, k3, ⟨k4, k4'⟩, ⟨k5, k5'⟩, ⟨k6, k6'⟩, k7, ⟨k8, k8'⟩, ⟨k9, k9'⟩, k10, ⟨k11, k11'⟩, ⟨k12, k12'⟩, k13, ⟨k14, k14'⟩, ⟨k15, k15'⟩⟩ := a2
  have l15 := hl (c + 15) (by rw [k15]; decide)
  unfold gK
  rw [h1 c (by omega), h1 (c + 1) (by omega), h1 (c + 2) (by omega), h1 (c + 3) (by omega), h1 (c + 4) (by omega), h1 (c + 5) (by omega), h1 (c + 6) (by omega), h1 (c + 7) (by omega), h1 (c + 8) (by omega), h1 (c + 9) (by omega), h1 (c + 10) (by omega), h1 (c + 11) (by omega), h1 (c + 12) (by omega), h1 (c + 13) (by omega), h1 (c + 14) (by omega), h1 (c + 15) (by omega), h2 (c + 4) (by omega), h2 (c + 5) (by omega), h2 (c + 6) (by omega), h2 (c + 8) (by omega), h2 (c + 9) (by omega), h2 (c + 11) (by omega), h2 (c + 12) (by omega), h2 (c + 14) (by omega), h2 (c + 15) (by omega)]
  exact ⟨k0, k1, k2, k3, ⟨k4, k4'⟩, ⟨k5, k5'⟩, ⟨k6, k6'⟩, k7, ⟨k8, k8'⟩, ⟨k9, k9'⟩, k10, ⟨k11, k11'⟩, ⟨k12, k12'⟩, k13, ⟨k14, k14'⟩, ⟨k15, k15'⟩⟩
/-- an act made of what is pending -/
theorem rA_act (hA : rA g G c n b ρ S) (hP : rPd G c ρ S p) (hp : p ≤ 64) : rA g (gsI (aMk G n (c + 8) p) (c + 7) 1 0) c (n + 2) b ρ S ∧ (gsI (aMk G n (c + 8) p) (c + 7) 1 0).1 n = 6 ∧ (gsI (aMk G n (c + 8) p) (c + 7) 1 0).1 (n + 1) = 7 ∧ (gsI (aMk G n (c + 8) p) (c + 7) 1 0).2.1 (n + 1) = p ∧ rPu (gsI (aMk G n (c + 8) p) (c + 7) 1 0) ρ S (n + 1) p (S.2.2.1 13) (S.2.2.1 14) (sIk S p) (S.2.2.2 15) (sIv S p) ∧ (∀ q, q < n → (gsI (aMk G n (c + 8) p) (c + 7) 1 0).1 q = G.1 q) ∧ agr (gsI (aMk G n (c + 8) p) (c + 7) 1 0) G [0, 20] := by
  have a1 := hA.1
  have hn := a1.2.2.2.2.2.2 n (by omega)
  have hn1 := a1.2.2.2.2.2.2 (n + 1) (by omega)
  obtain ⟨k0, k1, k2, k3, ⟨k4, k4'⟩, ⟨k5, k5'⟩, ⟨k6, k6'⟩, k7, ⟨k8, k8'⟩, ⟨k9, k9'⟩, k10, ⟨k11, k11'⟩, ⟨k12, k12'⟩, k13, ⟨k14, k14'⟩, ⟨k15, k15'⟩⟩ := a1.2.1
  have ne : ∀ q, G.1 q ≠ 0 → q ≠ n ∧ q ≠ n + 1 := fun q hq => ⟨fun e => hq (e ▸ hn), fun e => hq (e ▸ hn1)⟩
  have e1 : ∀ q, q ≠ n → q ≠ n + 1 → (aMk G n (c + 8) p).1 q = G.1 q := fun q h1 h2 => by rw [aMk_1, if_neg h1, if_neg h2]
  have e2 : ∀ q, q ≠ n → q ≠ n + 1 → (aMk G n (c + 8) p).2.1 q = G.2.1 q := fun q h1 h2 => by rw [aMk_2, if_neg h2, if_neg h1]
  have hAg0 : agr (aMk G n (c + 8) p) G [0] := by
    intro q hq
    obtain ⟨n1, n2⟩ := ne q (fun z => hq (by rw [z]; decide))
    exact ⟨e1 q n1 n2, e2 q n1 n2, funext (aMk_3 n1 n2), funext (aMk_4 n1 n2), funext (aMk_5 n1 n2)⟩
  have h7 := ne (c + 7) (by rw [k7]; decide)
  have hAg : agr (gsI (aMk G n (c + 8) p) (c + 7) 1 0) G [0, 20] := agr_trans (agr_mono hAg0 (by intro e he; simp at he; simp [he])) (agr_I (by rw [e1 _ h7.1 h7.2, k7]; decide))
  have hL : gL g (gsI (aMk G n (c + 8) p) (c + 7) 1 0) c (n + 2) := gL_grow a1 (gW_c (gW_act a1.1 hn hn1 hp) rfl rfl) (fun q hq => e1 q (by omega) (by omega)) (fun q hq => e2 q (by omega) (by omega)) (by omega) (fun q hq => by
    show (aMk G n (c + 8) p).1 q = 0
    rw [e1 q (by omega) (by omega)]
    exact a1.2.2.2.2.2.2 q (by omega))
  have i7 : ∀ e, e ≠ 1 → (gsI (aMk G n (c + 8) p) (c + 7) 1 0).2.2.1 (c + 7) e = G.2.2.1 (c + 7) e := by
    intro e he
    rw [gsI3, if_neg (fun z => he z.2)]
    exact aMk_3 h7.1 h7.2 e
  have x1 := hAg (c + 1) (by rw [k1]; decide)
  refine ⟨rA_agr hAg (by decide) (i7 3 (by decide)) (i7 4 (by decide)) (by rw [x1.2.2.1]) (by rw [x1.2.2.2.1]) hL hA, ?_, ?_, ?_, ?_, fun q hq => e1 q (by omega) (by omega), hAg⟩
  · show (aMk G n (c + 8) p).1 n = 6
    rw [aMk_1, if_pos rfl]
  · show (aMk G n (c + 8) p).1 (n + 1) = 7
    rw [aMk_1, if_neg (by omega), if_pos rfl]
  · show (aMk G n (c + 8) p).2.1 (n + 1) = p
    rw [aMk_2, if_pos rfl]
  · intro e he
    obtain ⟨x, q1, q2, q3, q4, q5, q6, q7, q8, q9, q10, q11⟩ := hP.2.2 e he
    have ex := hAg x (by rw [q2]; decide)
    refine ⟨x, ?_, by rw [ex.1]; exact q2, by rw [ex.2.2.2.2]; exact q3, q4, by rw [ex.2.2.1]; exact q5, q6, by rw [ex.2.2.1]; exact q7, by rw [ex.2.2.2.1]; exact q8, by rw [ex.2.2.1]; exact q9, by rw [ex.2.2.2.1]; exact q10, q11⟩
    show (aMk G n (c + 8) p).2.2.2.2 (n + 1) e = some x
    rw [aMk_p he]
    exact q1
theorem rTc_sn {y : Nat} : ∀ d e (T : GS), rTc G y e (d + 1) T = gsI (rTc G y e d T) (puA G y (e + d) + 3) (puP G y (e + d)) 1 := by
  intro d
  induction d with
  | zero => intro e T; rfl
  | succ d ih =>
    intro e T
    rw [rTc, ih (e + 1), show e + 1 + d = e + (d + 1) by omega]
    rfl
theorem nN_or (x y : Int32) : nN (x ||| y) = nN x ||| nN y := by
  unfold nN
  rw [Int32.toUInt32_or, UInt32.toNat_or]
theorem nN_bit : ∀ t, t < 32 → nN (1 <<< (nI t &&& 31)) = 2 ^ t := by decide +kernel
theorem pBit_or (ht : t < 32) : pBit (k ||| (1 <<< (nI t &&& 31))) q = (pBit k q || decide (q = t)) := by
  unfold pBit
  rw [nN_or, nN_bit t ht, Nat.testBit_or, Nat.testBit_two_pow]
  congr 1
  by_cases c : t = q
  · simp [c]
  · have c2 : ¬ q = t := fun z => c z.symm
    simp [c, c2]
/-- the reference with other touched cells -/
def mT4 (S : MS) (f : Nat → Int32) : MS := (S.1, S.2.1, fun q i => if q = 4 then f i else S.2.2.1 q i, S.2.2.2)
theorem mT4_A {f : Nat → Int32} (hq : q ≠ 4) : (mT4 S f).2.2.1 q = S.2.2.1 q := funext fun t => if_neg hq
theorem mT4_4 {f : Nat → Int32} : (mT4 S f).2.2.1 4 t = f t := by
  simp [mT4]
/-- touched cells set on both sides -/
theorem rA_t4 {f : Nat → Int32} (hA : rA g G c n b ρ S) (hT : rTm T G) (ht : ∀ r, rIn S r → (∀ p, p < mz S r → T.2.2.1 (ρ r + 3) p = xb (pBit (f r) p)) ∧ (∀ p, mz S r ≤ p → pBit (f r) p = false)) : rA g T c n b ρ (mT4 S f) := by
  obtain ⟨t1, t2, t3, t4, t5⟩ := hT
  obtain ⟨a1, a2, a3, a4, a5, a6, a7, a8, a9⟩ := hA
  have hAg : agr T G [4] := fun q hq => ⟨by rw [t1], by rw [t2], t5 q (fun z => hq (by rw [z]; decide)), by rw [t3], by rw [t4]⟩
  have hw := a1.1
  obtain ⟨k0, k1, k2, k3, ⟨k4, _⟩, ⟨k5, _⟩, ⟨k6, _⟩, k7, ⟨k8, _⟩, ⟨k9, _⟩, k10, ⟨k11, _⟩, ⟨k12, _⟩, k13, ⟨k14, _⟩, ⟨k15, _⟩⟩ := a1.2.1
  have e4 : ∀ q, q ≠ 4 → (mT4 S f).2.2.1 q = S.2.2.1 q := fun q hq => mT4_A hq
  have hin : ∀ r, rIn (mT4 S f) r ↔ rIn S r := fun r => rIn_ev (e4 7 (by decide))
  have LB : ¬ 1 ∈ [4] ∧ ¬ 2 ∈ [4] ∧ ¬ 3 ∈ [4] ∧ ¬ 9 ∈ [4] ∧ ¬ 10 ∈ [4] ∧ ¬ 11 ∈ [4] ∧ ¬ 12 ∈ [4] ∧ ¬ 14 ∈ [4] := by decide
  have hmz : ∀ r, mz (mT4 S f) r = mz S r := fun r => by unfold mz; rw [e4 3 (by decide)]
  refine ⟨gL_same t1 t2 a1, by rw [t4]; exact a2, bS_ev (e4 2 (by decide)) (e4 3 (by decide)) (e4 5 (by decide)) (e4 7 (by decide)) (e4 8 (by decide)) (e4 12 (by decide)) rfl (bS_agr hw hAg LB a3), ?_, ?_, ?_, ?_, ?_, ?_⟩
  · intro r r' x1 x2
    exact a4 r r' ((hin r).mp x1) ((hin r').mp x2)
  · intro r hr
    rw [hmz, mT4_4]
    exact ht r ((hin r).mp hr)
  · have m2 : (mKp (mT4 S f)).2.2.1 2 = (mKp S).2.2.1 2 := e4 44 (by decide)
    have m3 : (mKp (mT4 S f)).2.2.1 3 = (mKp S).2.2.1 3 := e4 45 (by decide)
    have m5 : (mKp (mT4 S f)).2.2.1 5 = (mKp S).2.2.1 5 := e4 46 (by decide)
    have m7 : (mKp (mT4 S f)).2.2.1 7 = (mKp S).2.2.1 7 := e4 48 (by decide)
    have m8 : (mKp (mT4 S f)).2.2.1 8 = (mKp S).2.2.1 8 := e4 49 (by decide)
    have m12 : (mKp (mT4 S f)).2.2.1 12 = (mKp S).2.2.1 12 := e4 50 (by decide)
    unfold rKp
    rw [t4]
    rcases a6 with a6 | ⟨b1, b2, kb, κ, b3, b4, b5, b6⟩
    · exact Or.inl a6
    · refine Or.inr ⟨b1, mOk_c b2 (fun i => by rw [m2]) (fun i => by rw [m3]) (fun i => by rw [m12]) (fun q hq => by rw [m5]; exact okc_self b2 hq), kb, κ, b3, bS_ev m2 m3 m5 m7 m8 m12 rfl (bS_agr hw hAg LB b4), ?_, ?_, b6.2⟩
      · intro r r' x1 x2
        exact b5 r r' ((rIn_ev m7).mp x1) ((rIn_ev m7).mp x2)
      · intro r r' x1 x2
        exact b6.1 r r' ((hin r).mp x1) ((rIn_ev m7).mp x2)
  · have x7 := hAg (c + 7) (by rw [k7]; decide)
    have x9 := hAg (c + 9) (by rw [k9]; decide)
    obtain ⟨b1, b2, b3, b4, b5⟩ := a7
    refine ⟨by rw [x7.2.2.1]; exact b1, by rw [x7.2.2.1]; exact b2, b3, fun e z he hz => ?_, fun w hw' => ?_⟩
    · rw [x9.2.2.2.2] at hz
      rw [t1]
      exact b4 e z he hz
    · obtain ⟨t, q1, q2, q3, q4, q5, q6⟩ := rAc_agr hw hAg ⟨by decide, by decide, by decide⟩ (by rw [k9]; decide) (b5 w hw')
      unfold rAc
      rw [e4 22 (by decide), e4 17 (by decide), e4 18 (by decide), e4 20 (by decide)]
      exact ⟨t, q1, q2, q3, q4, q5, rPu_ev (e4 7 (by decide)) (e4 2 (by decide)) (e4 3 (by decide)) q6⟩
  · unfold rMs
    rw [(hAg c (by rw [k0]; decide)).2.2.1, (hAg (c + 1) (by rw [k1]; decide)).2.2.1, (hAg (c + 1) (by rw [k1]; decide)).2.2.2.1, (hAg (c + 6) (by rw [k6]; decide)).2.2.1, (hAg (c + 13) (by rw [k13]; decide)).2.2.1, (hAg (c + 14) (by rw [k14]; decide)).2.2.1, (hAg (c + 10) (by rw [k10]; decide)).2.2.1, (hAg (c + 11) (by rw [k11]; decide)).2.2.1, e4 9 (by decide), e4 26 (by decide), e4 29 (by decide), e4 33 (by decide)]
    exact a8
  · obtain ⟨b1, b2, b3, b4, b5, b6⟩ := a9
    refine ⟨mOk_c b1 (fun i => by rw [e4 2 (by decide)]) (fun i => by rw [e4 3 (by decide)]) (fun i => by rw [e4 12 (by decide)]) (fun q hq => by rw [e4 5 (by decide)]; exact okc_self b1 hq), b2, ?_, b4, ?_, b6⟩
    · rw [e4 33 (by decide)]
      exact b3
    · unfold mLt
      rw [e4 32 (by decide)]
      exact b5
/-- an act touches its cells on both sides -/
theorem rA_tch {y : Nat} (hA : rA g G c n b ρ S) (hP : rPu G ρ S y p at' wk ik wv iv) : rA g (rTc G y 0 p G) c n b ρ (mT4 S (mTch (fun x => tn (at' x)) (S.2.2.1 4) p)) := by
  have hok := rPu_ok hA.2.2.2.2.2.2.2.2.1.1 hA.2.2.1 hP
  refine rA_t4 hA (rTc_m hA.1.1 hok p 0 G rTm_refl (by omega)) ?_
  have key : ∀ e, e ≤ p → ∀ r, rIn S r → (∀ q, q < mz S r → (rTc G y 0 e G).2.2.1 (ρ r + 3) q = xb (pBit (mTch (fun x => tn (at' x)) (S.2.2.1 4) e r) q)) ∧ (∀ q, mz S r ≤ q → pBit (mTch (fun x => tn (at' x)) (S.2.2.1 4) e r) q = false) := by
    intro e
    induction e with
    | zero =>
      intro _ r hr
      exact hA.2.2.2.2.1 r hr
    | succ e ih =>
      intro he r hr
      obtain ⟨i1, i2⟩ := ih (by omega) r hr
      obtain ⟨f1, f2, _, _, _, _, f7, f8, _⟩ := rPu_e hP (show e < p by omega)
      have h32 : tn (at' e) % 32 < 32 := Nat.mod_lt _ (by omega)
      rw [rTc_sn, Nat.zero_add, f1, f2]
      by_cases c1 : r = tn (at' e) / 32
      · have hm : mTch (fun x => tn (at' x)) (S.2.2.1 4) (e + 1) r = mTch (fun x => tn (at' x)) (S.2.2.1 4) e r ||| (1 <<< (nI (tn (at' e) % 32) &&& 31)) := by
          rw [mTch, if_pos c1]
        rw [hm]
        refine ⟨fun q hq => ?_, fun q hq => ?_⟩
        · rw [pBit_or h32, gsI3, ← c1]
          by_cases c2 : q = tn (at' e) % 32
          · rw [if_pos ⟨rfl, c2⟩, decide_eq_true c2, Bool.or_true]
            rfl
          · rw [if_neg (fun z => c2 z.2), decide_eq_false c2, Bool.or_false]
            exact i1 q hq
        · rw [pBit_or h32, i2 q hq, Bool.false_or]
          rw [← c1] at f8
          exact decide_eq_false (by omega)
      · have hm : mTch (fun x => tn (at' x)) (S.2.2.1 4) (e + 1) r = mTch (fun x => tn (at' x)) (S.2.2.1 4) e r := by
          rw [mTch, if_neg c1]
        rw [hm]
        refine ⟨fun q hq => ?_, i2⟩
        rw [gsI3, if_neg]
        · exact i1 q hq
        · rintro ⟨z, _⟩
          exact c1 (hA.2.2.2.1 r _ hr f7 (by omega))
  exact key p (Nat.le_refl p)
end K34
