/-! THE LAW, 1: both beside each other -/
section K60
variable {g : xG} {n kc ks a b c s w q l x y d r p n' e m N mu y1 y2 : Nat} {G T T' U G1 G2 G' : GS} {h : xH} {i j k v i1 i2 : Int32} {u z : Int64} {S S1 S2 S' : MS} {ρ κ κ' : Nat → Nat} {L1 L2 : List Slot} {o : Option Nat} {vv : Value}
theorem nw_A : ∀ q, q ≠ 7 → q ≠ 12 → q ≠ 32 → ∀ t, mNew.2.2.1 q t = 0 := by
  intro q h7 h12 h32 t
  have e1 : ∀ d (S : MS), (mWi S d).2.2.1 q t = S.2.2.1 q t := by
    intro d
    induction d with
    | zero => intro S; rfl
    | succ d ih =>
      intro S
      show (msA (msA (mWi S d) 12 (5 * d + 2) 1) 12 (5 * d + 4) 8).2.2.1 q t = _
      rw [← ih S]
      simp [msA, h12]
  show (mWi (mHo mSL 10) 6).2.2.1 q t = 0
  rw [e1]
  simp [mHo, mSL, msA, mS0, h7, h32]
theorem mWi_B : ∀ d (S : MS), (mWi S d).1 = S.1 ∧ (mWi S d).2.1 = S.2.1 ∧ (mWi S d).2.2.2 = S.2.2.2 := by
  intro d
  induction d with
  | zero => intro S; exact ⟨rfl, rfl, rfl⟩
  | succ d ih => intro S; exact ih S
theorem nw_B : mNew.2.2.2 = fun _ _ => 0 := (mWi_B 6 (mHo mSL 10)).2.2
theorem nw_I (hq : q ≠ 0) (h10 : q ≠ 10) : mNew.1 q = 0 := by
  show (if q = 10 then 8 else if q = 0 then 8 else (mWi (mHo mSL 10) 6).1 q) = 0
  rw [if_neg h10, if_neg hq, (mWi_B 6 (mHo mSL 10)).1]
  rfl
theorem nw_10 : mNew.1 10 = 8 := rfl
theorem nw_L : mNew.2.1 11 = 0 := by
  show (if 11 = 1 then 0 else (mWi (mHo mSL 10) 6).2.1 11) = 0
  rw [if_neg (by omega), (mWi_B 6 (mHo mSL 10)).2.1]
  rfl
theorem nw_7 : ∀ t, t < 10 → mNew.2.2.1 7 t = -11 := by decide +kernel
theorem nw_12 : ∀ w, w < 6 → ∀ k, k < 5 → mNew.2.2.1 12 (5 * w + k) = if k = 2 then 1 else if k = 4 then 8 else 0 := by decide +kernel
theorem nw_32 : ∀ t, t < 10 → mNew.2.2.1 32 t = sLt.getD t 0 := by decide +kernel
theorem nw_row (hs : s < 10) : ¬ mRow mNew s = true := by
  unfold mRow
  rw [nw_7 s hs]
  decide
theorem nw_ok : mOk mNew := by
  have z5 : ∀ q, mNew.2.2.1 5 q = 0 := nw_A 5 (by decide) (by decide) (by decide)
  have z6 : ∀ q, mNew.2.2.2 6 q = 0 := fun q => by rw [nw_B]
  have z2 : ∀ q, mNew.2.2.1 2 q = 0 := nw_A 2 (by decide) (by decide) (by decide)
  have z3 : ∀ q, mNew.2.2.1 3 q = 0 := nw_A 3 (by decide) (by decide) (by decide)
  have ho := okv_0 (k := 0) (by decide) (by decide)
  refine ⟨fun r _ => by rw [z3]; decide, fun q _ => by rw [z5, z6]; exact ho.1, fun r p _ _ _ => by rw [z5, z2], fun w hw => ?_, fun r _ => by rw [z2]; decide, fun q _ => by rw [z5, z6]; exact ho.2⟩
  have h0 := nw_12 w hw 0 (by decide)
  have h3 := nw_12 w hw 3 (by decide)
  have h4 := nw_12 w hw 4 (by decide)
  rw [Nat.add_zero] at h0
  rw [h0, h3, h4]
  decide
/-- both are the same when they are made -/
theorem rA_new (hw : gW T) (hK : gK T c) (hz : ∀ q, c + 27 ≤ q → T.1 q = 0) (hB : bkF T T (c + 16)) (h9 : T.2.2.2.2 c 9 = some (c + 16)) (h10 : T.2.2.2.2 c 10 = none) (i0 : T.2.2.1 (c + 1) 0 = 8) (i1' : T.2.2.2.1 (c + 1) 1 = 0) (i6 : ∀ e, T.2.2.1 (c + 6) e = 0) (ic : ∀ e, T.2.2.1 c e = 0) (i7 : ∀ e, T.2.2.1 (c + 7) e = 0) (i10 : ∀ e, T.2.2.1 (c + 10) e = 0) (i13 : ∀ e, T.2.2.1 (c + 13) e = 0) (r9 : ∀ e, T.2.2.2.2 (c + 9) e = none) (g1 : g.1 < c) (g2 : g.2.2.2.1 < c) (g3 : ¬ g.2.2.2.1 = g.1) (t1 : T.1 g.1 = 0) (t2 : T.1 g.2.2.2.1 = 0) : rA g T c (c + 27) (c + 16) (fun _ => 0) mNew := by
  obtain ⟨_, ⟨b1, b2, b3, b4, b5, b6⟩, _, ⟨b7, b8, b9⟩, b10⟩ := hB
  have nI0 : nI 0 = 0 := rfl
  have nin : ∀ r, ¬ rIn mNew r := by
    rintro r ⟨s, s1, s2, _⟩
    exact nw_row s1 s2
  refine ⟨⟨hw, hK, ⟨t2, g3⟩, by omega, by omega, t1, hz⟩, h9, ⟨b1, fun s hs => Or.inr (Or.inl ⟨nw_7 s hs, b10 s, b7 s hs⟩), fun w k hw' hk => ?_⟩, fun r _ hr => absurd hr (nin r), fun r hr => absurd hr (nin r), Or.inl ⟨nw_I (by decide) (by decide), h10⟩, ?_, ?_, ?_⟩
  · rw [b9 w hw' k, nw_12 w hw' k hk]
  · refine ⟨by rw [i7, nw_I (by decide) (by decide)], by rw [i7, nw_I (by decide) (by decide)], ⟨0, 0, nw_I (by decide) (by decide), nw_I (by decide) (by decide), Nat.le_refl _, by omega⟩, fun e z _ hz' => by rw [r9] at hz'; exact absurd hz' (by simp), fun w hw' => ?_⟩
    rw [nw_I (by decide) (by decide), show tn 0 = 0 from rfl] at hw'
    omega
  · refine ⟨by rw [i0, nw_10], by rw [i1', nw_L], fun e _ => by rw [i6, nw_A 9 (by decide) (by decide) (by decide)], by rw [ic, nw_I (by decide) (by decide)], fun e _ => by rw [ic, nw_A 26 (by decide) (by decide) (by decide)], by rw [i13, nw_I (by decide) (by decide)], fun e he => ?_, by rw [i10, nw_I (by decide) (by decide)], fun e he => ?_⟩
    · rw [nw_I (by decide) (by decide), show tn 0 = 0 from rfl] at he
      omega
    · rw [nw_I (by decide) (by decide), show tn 0 = 0 from rfl] at he
      omega
  · exact ⟨nw_ok, by rw [nw_10, nw_L]; exact okv_0 (by decide) (by decide), ⟨0, nw_I (by decide) (by decide), by omega, fun e he => by omega⟩, ⟨0, nw_I (by decide) (by decide), by omega⟩, fun k hk => nw_32 k hk, Or.inl (nw_I (by decide) (by decide))⟩
/-- the acts are sound -/
theorem rA_mJ (hA : rA g G c n b ρ S) : ∃ d e, mJ S d e := by
  obtain ⟨_, _, ⟨d, e, f1, f2, f3, f4⟩, _, b5⟩ := hA.2.2.2.2.2.2.1
  refine ⟨d, e, f1, f2, f3, f4, fun w hw => ?_⟩
  obtain ⟨t, t1, t2, t3, t4, t5, t6⟩ := b5 w (by rw [f2, tn_nI (by omega)]; exact hw)
  refine ⟨t4, ?_, fun k hk => ?_⟩
  · unfold tn at t5
    omega
  · obtain ⟨x, p1, p2, p3, p4, p5, p6, p7, p8, p9, p10, p11, p12, p13⟩ := t6 k hk
    dsimp only at p11 p12
    refine ⟨p11, ?_⟩
    have := p12.1
    unfold tn at this
    omega
/-- the heap of both -/
def cH (n kc ks : Nat) (G : GS) (mu : Nat) (S : MS) : xH := xext (gH n kc ks G) (mcl mu S)
theorem gcl_0 (h : G.1 q = 0) : gcl G q = none := by
  unfold gcl
  rw [h]
  rfl
theorem mcl_0 (h : ¬ (mu ≤ q ∧ q ≤ mu + 38)) : mcl mu S q = none := by
  unfold mcl
  rw [if_neg (by omega), if_neg (by omega)]
theorem cH_eq (hz : ∀ q, mu ≤ q → q ≤ mu + 38 → G.1 q = 0) : cH n kc ks G mu S = xext (mH n kc ks mu S) (gcl G) := by
  refine xH_ext rfl rfl rfl fun q => ?_
  show (match gcl G q with | some e => some e | none => mcl mu S q) = (match mcl mu S q with | some e => some e | none => gcl G q)
  by_cases hc : mu ≤ q ∧ q ≤ mu + 38
  · rw [gcl_0 (hz q hc.1 hc.2)]
    cases mcl mu S q <;> rfl
  · rw [mcl_0 hc]
    cases gcl G q <;> rfl
/-- what holds between two calls -/
def inv (g : xG) (c mu n : Nat) (G : GS) (S : MS) : Prop := ∃ b ρ, rA g G c n b ρ S ∧ G.2.2.1 (c + 7) 1 = 0 ∧ mu + 38 < n ∧ (∀ q, mu ≤ q → q ≤ mu + 38 → G.1 q = 0) ∧ g.1 < mu ∧ g.2.2.2.1 < mu
theorem xro_a (h : (xro g a).isSome = true) : a = g.1 ∨ a = g.2.2.2.1 := by
  unfold xro at h
  by_cases c1 : a = g.1
  · exact Or.inl c1
  · rw [if_neg c1] at h
    by_cases c2 : a = g.2.2.2.1
    · exact Or.inr c2
    · rw [if_neg c2] at h
      exact absurd h (by simp)
theorem cH_none (hI : inv g c mu n G S) (ha : a = g.1 ∨ a = g.2.2.2.1) : gcl G a = none ∧ ∀ S' : MS, mcl mu S' a = none := by
  obtain ⟨b, ρ, h1, h2, h3, h4, h5, h6⟩ := hI
  rcases ha with h | h
  · subst h
    exact ⟨gcl_0 h1.1.2.2.2.2.2.1, fun S' => mcl_0 (by omega)⟩
  · subst h
    exact ⟨gcl_0 h1.1.2.2.1.1, fun S' => mcl_0 (by omega)⟩
theorem X_c (hI : inv g c mu n G S) {r : xR} (e : X g y1 0 L1 [] (gH n kc ks G) = some r) : X g y1 0 L1 [] (cH n kc ks G mu S) = some (r.1, xext r.2 (mcl mu S)) := X_ext (fun a ha => (cH_none hI (xro_a ha)).2 S) e
theorem X_m (hI : inv g c mu n G S) {r : xR} (e : X g y1 0 L1 [] (mH n kc ks mu S) = some r) : X g y1 0 L1 [] (cH n kc ks G mu S) = some (r.1, xext r.2 (gcl G)) := by
  obtain ⟨b, ρ, h1, h2, h3, h4, h5, h6⟩ := id hI
  rw [cH_eq h4]
  exact X_ext (fun a ha => (cH_none hI (xro_a ha)).1) e
theorem sim_ev (h : sim g c n kc ks G y1 L1 vv S1) (hE : mEv S2 S1) : sim g c n kc ks G y1 L1 vv S2 := by
  obtain ⟨n', kc', ks', G', b, ρ, q1, q2, q3⟩ := h
  exact ⟨n', kc', ks', G', b, ρ, q1, rA_ev hE q2, q3⟩
/-- one call on both sides -/
theorem both (hI : inv g c mu n G S) (h2 : ∀ n' kc' ks', ∃ S2, X g y2 0 L2 [] (mH n' kc' ks' mu S) = some (some vv, mH n' kc' ks' mu S2) ∧ sim g c n kc ks G y1 L1 vv S2) : ∃ n' kc' ks' G' S2, X g y1 0 L1 [] (cH n kc ks G mu S) = some (some vv, cH n' kc' ks' G' mu S) ∧ X g y2 0 L2 [] (cH n' kc' ks' G' mu S) = some (some vv, cH n' kc' ks' G' mu S2) ∧ inv g c mu n' G' S2 ∧ inv g c mu n' G' S2 ∧ kc' ≤ kc + 900 ∧ ks' ≤ ks + 9000 ∧ G'.1 c = 15 ∧ gcl G' g.1 = none := by
  obtain ⟨S0, _, n1, kc1, ks1, G1, b1, ρ1, q1, _⟩ := h2 n kc ks
  obtain ⟨S2, e2, n', kc', ks', G', b', ρ', q2, q3, q4, q5, q6, q7, q8⟩ := h2 n1 kc1 ks1
  have he := q1.symm.trans q2
  have he2 : gH n1 kc1 ks1 G1 = gH n' kc' ks' G' := by
    injection he with he
    injection he
  have hn : n1 = n' := congrArg (fun z : xH => z.1) he2
  have hk : kc1 = kc' := congrArg (fun z : xH => z.2.1) he2
  have hs : ks1 = ks' := congrArg (fun z : xH => z.2.2.1) he2
  subst hn hk hs
  obtain ⟨b, ρ, i1, i2, i3, i4, i5, i6⟩ := id hI
  have hz : ∀ q, mu ≤ q → q ≤ mu + 38 → G'.1 q = 0 := fun q h1 h2 => by rw [q8 q (by omega)]; exact i4 q h1 h2
  have hI' : inv g c mu n1 G' S2 := ⟨b', ρ', q3, q4, by omega, hz, i5, i6⟩
  have x1 := X_c hI q2
  have hM1 : ∀ a, (xro g a).isSome = true → gcl G' a = none := fun a ha => (cH_none hI' (xro_a ha)).1
  have x2 : X g y2 0 L2 [] (cH n1 kc1 ks1 G' mu S) = some (some vv, cH n1 kc1 ks1 G' mu S2) := by
    rw [cH_eq hz, cH_eq hz]
    exact X_ext hM1 e2
  exact ⟨n1, kc1, ks1, G', S2, x1, x2, hI', hI', q6, q7, q3.1.2.1.1, hM1 g.1 (by unfold xro; rw [if_pos rfl]; rfl)⟩
theorem cH_c (h : G.1 c = 15) : xcl (cH n kc ks G mu S) c = some 10 := by
  have := gobj (G := G) (a := c) (n := n) (kc := kc) (ks := ks) (ci := 10) (by rw [h]; rfl)
  unfold xcl
  unfold cH
  rw [xext_some this]
theorem cH_m (hI : G.1 mu = 0) : xcl (cH n kc ks G mu S) mu = some 11 := by
  have e1 : (gH n kc ks G).2.2.2 mu = none := gcl_0 hI
  unfold xcl cH
  rw [xext_none e1]
  unfold mcl
  rw [if_pos rfl]
theorem cH_ld (h : gcl G g.1 = none) (hm : mcl mu S g.1 = none) : xaldi g (cH n kc ks G mu S) g.1 i = if xin i g.2.1 = true then some (.int (g.2.2.1 i.toNatClampNeg)) else none := by
  have e1 : (gH n kc ks G).2.2.2 g.1 = none := h
  have e2 : (cH n kc ks G mu S).2.2.2 g.1 = none := by
    unfold cH
    rw [xext_none e1]
    exact hm
  unfold xaldi xa
  rw [e2]
  dsimp only
  unfold xro
  rw [if_pos rfl]
theorem cH_len (h : gcl G g.1 = none) (hm : mcl mu S g.1 = none) : xlen g (cH n kc ks G mu S) g.1 = some g.2.1 := by
  have e1 : (gH n kc ks G).2.2.2 g.1 = none := h
  have e2 : (cH n kc ks G mu S).2.2.2 g.1 = none := by
    unfold cH
    rw [xext_none e1]
    exact hm
  unfold xlen
  rw [e2]
  show (xro g g.1).map _ = _
  unfold xro
  rw [if_pos rfl]
  rfl
end K60
