/-! THE CLASS beside the reference, 29: a slot holds something else -/
section K42
variable {g : xG} {n kc ks a b c s t w q l x y jn d r p n' e kb n1 kc1 ks1 m N : Nat} {G T U G1 G2 : GS} {h : xH} {i j k v i1 i2 : Int32} {u z : Int64} {S S1 S' V W : MS} {ρ κ ρ' : Nat → Nat} {L L' : List Nat}
theorem mAny_cg {f f' : Nat → Bool} : ∀ d s, (∀ x, s ≤ x → x < s + d → f x = f' x) → mAny f s d = mAny f' s d := by
  intro d
  induction d with
  | zero => intro s _; rfl
  | succ d ih =>
    intro s hx
    rw [mAny, mAny, hx s (by omega) (by omega), ih (s + 1) (fun x a b => hx x (by omega) (by omega))]
theorem mAny_f {f : Nat → Bool} : ∀ d s, mAny f s d = false → ∀ x, s ≤ x → x < s + d → f x = false := by
  intro d
  induction d with
  | zero => intro s _ x a b; omega
  | succ d ih =>
    intro s hx x a b
    rw [mAny, Bool.or_eq_false_iff] at hx
    by_cases c : x = s
    · rw [c]; exact hx.1
    · exact ih (s + 1) hx.2 x (by omega) (by omega)
theorem row_div (h0 : 0 ≤ i.toInt) (hr : r < 10) (ht : tn i < 320) : i / 32 = nI r ↔ tn i / 32 = r := by
  have e1 : i = nI (tn i) := nI_tn h0
  have e2 : i / 32 = nI (tn i / 32) := by
    generalize tn i = y at *
    rw [e1]
    exact pk_div (d := 32) (by omega) (by decide) (by decide)
  rw [e2, nI_eq (by omega) (by omega)]
/-- whether an act has a row's cell, on both sides -/
theorem jHs_eq (hI : bI S ρ) (hr : rIn S r) (h7 : i = nI r) (hr10 : r < 10) (hA : rAc G ρ S (jn + 2) w) : jHs G jn (ρ r) w = sHs S i w := by
  obtain ⟨t, h1, h2, h3, h4, h5, h6⟩ := hA
  have ea : acX G jn w = t := by unfold acX; rw [h1]; rfl
  unfold jHs sHs
  rw [ea, h3]
  refine mAny_cg _ _ (fun x _ hx => ?_)
  obtain ⟨f1, f2, _, _, _, _, f7, f8, f9, _⟩ := rPu_e h6 (show x < tn (S.2.2.1 22 w) by omega)
  obtain ⟨_, _, _, _, _, _, _, _, _, _, _, p11, _⟩ := h6 x (by omega)
  rw [f1]
  have k1 := row_div p11 hr10 f9.1
  by_cases c : tn (S.2.2.1 17 (64 * w + x)) / 32 = r
  · rw [c, h7, decide_eq_true rfl, decide_eq_true (k1.mpr c)]
  · rw [decide_eq_false, decide_eq_false]
    · rw [h7]
      exact fun z => c (k1.mp z)
    · intro z
      injection z with z
      exact c (hI _ _ f7 hr z)
/-- what is left of the acts, told of both sides -/
def jLt (G2 G1 : GS) (S : MS) (c s e : Nat) : Prop := agr G2 G1 [20, 22] ∧ G2.1 = G1.1 ∧ G2.2.1 = G1.2.1 ∧ G2.2.2.1 (c + 7) 1 = 0 ∧ G2.2.2.1 (c + 7) 3 = nI (sLet S s).2.1 ∧ G2.2.2.1 (c + 7) 4 = nI (sLet S s).1 ∧ (sLet S s).2.1 ≤ (sLet S s).1 ∧ (sLet S s).1 ≤ e ∧ (∀ w, w < (sLet S s).1 → G2.2.2.2.2 (c + 9) w = G1.2.2.2.2 (c + 9) ((sLet S s).2.2 w) ∧ (sLet S s).2.2 w < e ∧ (mDrp S s = true → sHs S (S.2.2.1 7 s) ((sLet S s).2.2 w) = false)) ∧ ∀ q z, q < 24 → G2.2.2.2.2 (c + 9) q = some z → G1.1 z = 6
theorem rel_let (hA : rA g G c n b ρ S) (hp : G.2.2.1 (c + 7) 1 = 0) (hs : s < 10) (hL : gL g G1 c n1) (hAb : agb G1 G [0] b) (he : S.1 23 = nI e) (he24 : e ≤ 24) (hcnt : mRow S s = true → (mCnt (fun q => decide (G1.2.2.2.2 (b + 1) q = some (ρ (mr S s)))) 0 10 = 0 ↔ mHolders (mLo S s) (S.2.2.1 7 s) = 0)) : ∃ G2, X g 138 0 [.val (va_rf (some c)), .val (va_rf (G.2.2.2.2 (b + 1) s))] [] (gH n1 kc ks G1) = some (none, gH n1 kc ks G2) ∧ jLt G2 G1 S c s e := by
  obtain ⟨a1, a2, a3, a4, a5, a6, a7, a8, a9⟩ := hA
  have hw := a1.1
  have hb := a3.1
  obtain ⟨k0, k1, k2, k3, ⟨k4, _⟩, ⟨k5, _⟩, ⟨k6, _⟩, k7, ⟨k8, _⟩, ⟨k9, _⟩, k10, ⟨k11, _⟩, ⟨k12, _⟩, k13, ⟨k14, _⟩, ⟨k15, _⟩⟩ := a1.2.1
  obtain ⟨b1, b2, ⟨d', e', f1, f2, f3, f4⟩, b4, b5⟩ := a7
  have ec := agb_e hw hb hAb (q := c) (by rw [k0]; decide) (by rw [k0]; decide)
  have e7 := agb_e hw hb hAb (q := c + 7) (by rw [k7]; decide) (by rw [k7]; decide)
  have e9 := agb_e hw hb hAb (q := c + 9) (by rw [k9]; decide) (by rw [k9]; decide)
  have eb := agb_e hw hb hAb (q := b) (by rw [hb]; decide) (by rw [hb]; decide)
  have hk1 : G1.1 c = 15 := hL.2.1.1
  have hb1 : G1.1 b = 9 := by rw [eb.1]; exact hb
  have hc9 : G1.2.2.2.2 c 9 = some b := by rw [ec.2.2.2.2]; exact a2
  have t23 : tn (S.1 23) = e' := by rw [f2]; exact tn_nI (by omega)
  have t24 : tn (S.1 24) = d' := by rw [f1]; exact tn_nI (by omega)
  have hac : ∀ w, w < e' → rAc G1 ρ S (c + 9) w := fun w hw' => rAc_agb hw hb hAb ⟨by decide, by decide, by decide⟩ (by rw [e9.2.2.2.2]) (b5 w (by rw [t23]; exact hw'))
  have h6 : ∀ q z, q < 24 → G1.2.2.2.2 (c + 9) q = some z → G1.1 z = 6 := by
    intro q z hq hz
    rw [e9.2.2.2.2] at hz
    have h6 := b4 q z hq hz
    rw [(agb_e hw hb hAb (q := z) (by rw [h6]; decide) (by rw [h6]; decide)).1]
    exact h6
  have hee : e = e' := by
    have := congrArg tn (he.symm.trans f2)
    rw [tn_nI (by omega), tn_nI (by omega)] at this
    exact this
  subst hee
  by_cases hd : mDrp S s = true
  · have hd2 := hd
    unfold mDrp at hd2
    rw [Bool.and_eq_true, decide_eq_true_eq] at hd2
    obtain ⟨hrow, hho⟩ := hd2
    have hr : rIn S (mr S s) := ⟨s, hs, hrow, rfl⟩
    obtain ⟨r7, r10⟩ := mRow_eq hrow
    have hbe : G.2.2.2.2 (b + 1) s = some (ρ (mr S s)) := by
      rw [sf_G a3 hs]
      unfold sf
      rw [if_pos hrow]
      rfl
    have hjA : jA G1 (c + 7) e := by
      intro w hw'
      obtain ⟨t, t1, t2, t3, t4, t5, t6⟩ := hac w hw'
      refine ⟨t, t1, t2, ?_⟩
      rw [t3]
      intro k hk
      obtain ⟨x, p1, p2, p3, p4, p5, p6, _⟩ := t6 k hk
      dsimp only at p3 p4 p5 p6
      have hro := bS_row a3 p4
      obtain ⟨w1, w2, _⟩ := hw.1 _ hro.1
      have x0 := agb_e hw hb hAb (q := ρ (tn (S.2.2.1 17 (64 * w + k)) / 32)) (by rw [hro.1]; decide) (by rw [hro.1]; decide)
      have x2 := agb_e hw hb hAb (q := ρ (tn (S.2.2.1 17 (64 * w + k)) / 32) + 2) (by rw [w2]; decide) (by rw [w2]; decide)
      refine ⟨x, _, p1, p2, p3, by rw [x0.1]; exact hro.1, ?_⟩
      rw [p5, x2.2.1, hro.2.2.1]
      exact xin_nI p6 (by have := (mz_eq a9.1.1 (show tn (S.2.2.1 17 (64 * w + k)) / 32 < 10 by obtain ⟨s', _, q2, q3⟩ := p4; rw [← q3]; exact (mRow_eq q2).2)).2; omega)
    have hjL : jL G1 (c + 7) := by
      obtain ⟨_, _, _, _, _, _, _, q7, ⟨q8, q8'⟩, ⟨q9, q9'⟩, _⟩ := hL.2.1
      exact ⟨q7, q8, q8', q9, q9'⟩
    obtain ⟨G2, x1, x2, x3, x4, x5, x6, x7, x8⟩ := c138_y (g := g) (n := n1) (kc := kc) (ks := ks) (a := ρ (mr S s)) (d := d') (e := e) hk1 hc9 hL.1 hb1 ((hcnt hrow).mpr hho) hjL (by rw [e7.2.2.1, b1]; exact f1) (by omega) (by rw [e7.2.2.1, b2]; exact f2) f4 hjA h6
    have hsel : jSel G1 (c + 7) (ρ (mr S s)) d' e = sLet S s := by
      unfold sLet
      rw [if_pos hd]
      unfold jSel sSel
      rw [t23, t24]
      exact fSel_cg _ _ _ _ _ (fun w _ hw' => jHs_eq a4 hr r7 r10 (hac w (by omega)))
    rw [hsel] at x5 x7
    have hsp := fSel_sp (f := sHs S (S.2.2.1 7 s)) (dn := d') e 0 0 0 (fun x => x) (by omega) (by omega) (fun x hx => by omega)
    have hsl : sLet S s = fSel (sHs S (S.2.2.1 7 s)) d' 0 e 0 0 (fun x => x) := by
      unfold sLet
      rw [if_pos hd]
      unfold sSel
      rw [t23, t24]
    rw [← hsl, Nat.zero_add] at hsp
    refine ⟨G2, by rw [hbe]; exact x1, ?_, x2, x3, ?_, ?_, ?_, hsp.1, hsp.2.1, fun w hw' => ⟨x7 w hw', (hsp.2.2 w hw').2, fun _ => (hsp.2.2 w hw').1⟩, x8⟩
    · intro q hq
      refine ⟨by rw [x2], by rw [x3], ?_, by rw [x4], ?_⟩
      · funext z
        have hne : ¬ q = c + 7 := fun z => hq (by rw [z, hjL.1]; decide)
        rw [x5, if_neg (fun z => hne z.1), if_neg (fun z => hne z.1)]
      · funext z
        exact x6 q z (fun z => hq (by rw [z, hL.2.1.2.2.2.2.2.2.2.2.2.1.1]; decide))
    · rw [x5, if_neg (by omega), if_neg (by omega), e7.2.2.1]
      exact hp
    · rw [x5, if_neg (by omega), if_pos ⟨rfl, rfl⟩]
    · rw [x5, if_pos ⟨rfl, rfl⟩]
  · have hsl : sLet S s = (e, d', fun x => x) := by
      unfold sLet
      rw [if_neg hd, t23, t24]
    refine ⟨G1, c138_n hk1 hc9 hL.1 hb1 ?_, ?_⟩
    · cases hrow : mRow S s with
      | false =>
        refine Or.inl ?_
        rw [sf_G a3 hs]
        unfold sf
        rw [if_neg (by rw [hrow]; decide)]
        rfl
      | true =>
        refine Or.inr ?_
        have hbe : G.2.2.2.2 (b + 1) s = some (ρ (mr S s)) := by
          rw [sf_G a3 hs]
          unfold sf
          rw [if_pos hrow]
          rfl
        rw [hbe]
        intro z
        apply hd
        unfold mDrp
        rw [hrow, decide_eq_true ((hcnt hrow).mp z)]
        rfl
    · unfold jLt
      rw [hsl]
      refine ⟨agr_refl, rfl, rfl, by rw [e7.2.2.1]; exact hp, by rw [e7.2.2.1, b1]; exact f1, by rw [e7.2.2.1, b2]; exact f2, f3, Nat.le_refl _, fun w hw' => ⟨rfl, hw', fun z => absurd z hd⟩, h6⟩
end K42
