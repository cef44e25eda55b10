/-! THE CLASS beside the reference, 4: the relation -/
section K17
variable {g : xG} {n kc ks a b c s t w q l x y jn d r p n' : Nat} {G T U : GS} {h : xH} {i j k m v : Int32} {u z : Int64} {o : Option Nat} {S S' : MS} {ρ κ : Nat → Nat} {L L' : List Nat}
/-- what is touched is the same -/
def tR (G : GS) (ρ : Nat → Nat) (S : MS) : Prop := ∀ r, rIn S r → (∀ p, p < mz S r → G.2.2.1 (ρ r + 3) p = xb (pBit (S.2.2.1 4 r) p)) ∧ (∀ p, mz S r ≤ p → pBit (S.2.2.1 4 r) p = false)
/-- the image kept, as a state -/
def mKp (S : MS) : MS := (S.1, S.2.1, fun q => if q = 2 then S.2.2.1 44 else if q = 3 then S.2.2.1 45 else if q = 5 then S.2.2.1 46 else if q = 7 then S.2.2.1 48 else if q = 8 then S.2.2.1 49 else if q = 12 then S.2.2.1 50 else S.2.2.1 q, fun q => if q = 6 then S.2.2.2 47 else S.2.2.2 q)
/-- the image is the same -/
def rKp (G : GS) (c : Nat) (ρ : Nat → Nat) (S : MS) : Prop := (S.1 43 = 0 ∧ G.2.2.2.2 c 10 = none) ∨ (S.1 43 = 1 ∧ mOk (mKp S) ∧ ∃ kb κ, G.2.2.2.2 c 10 = some kb ∧ bS G kb κ (mKp S) ∧ bI (mKp S) κ ∧ (∀ r r', rIn S r → rIn (mKp S) r' → ρ r ≠ κ r') ∧ ¬ G.2.2.2.2 c 9 = some kb)
/-- an act is the same -/
def rAc (G : GS) (ρ : Nat → Nat) (S : MS) (y w : Nat) : Prop := ∃ t, G.2.2.2.2 y w = some t ∧ G.1 t = 6 ∧ G.2.1 (t + 1) = tn (S.2.2.1 22 w) ∧ 0 ≤ (S.2.2.1 22 w).toInt ∧ tn (S.2.2.1 22 w) ≤ 64 ∧ rPu G ρ S (t + 1) (tn (S.2.2.1 22 w)) (fun k => S.2.2.1 17 (64 * w + k)) (fun k => S.2.2.1 18 (64 * w + k)) (fun k => S.2.2.1 20 (64 * w + k)) (fun k => S.2.2.2 19 (64 * w + k)) (fun k => S.2.2.2 21 (64 * w + k))
/-- the journal is the same -/
def rJn (G : GS) (c : Nat) (ρ : Nat → Nat) (S : MS) : Prop := G.2.2.1 (c + 7) 3 = S.1 24 ∧ G.2.2.1 (c + 7) 4 = S.1 23 ∧ (∃ d e, S.1 24 = nI d ∧ S.1 23 = nI e ∧ d ≤ e ∧ e ≤ 24) ∧ (∀ e z, e < 24 → G.2.2.2.2 (c + 9) e = some z → G.1 z = 6) ∧ ∀ w, w < tn (S.1 23) → rAc G ρ S (c + 9) w
/-- the rest is the same -/
def rMs (G : GS) (c : Nat) (S : MS) : Prop := G.2.2.1 (c + 1) 0 = S.1 10 ∧ G.2.2.2.1 (c + 1) 1 = S.2.1 11 ∧ (∀ e, e < 3 → G.2.2.1 (c + 6) e = S.2.2.1 9 e) ∧ G.2.2.1 c 11 = S.1 25 ∧ (∀ e, e < 3 → G.2.2.1 c (12 + e) = S.2.2.1 26 e) ∧ G.2.2.1 (c + 13) 2 = S.1 30 ∧ (∀ e, e < tn (S.1 30) → G.2.2.1 (c + 14) e = S.2.2.1 29 e) ∧ G.2.2.1 (c + 10) 2 = S.1 34 ∧ (∀ e, e < tn (S.1 34) → G.2.2.1 (c + 11) e = S.2.2.1 33 e)
/-- the reference is sound -/
def mI (S : MS) : Prop := mOk S ∧ okb (S.1 10) (S.2.1 11) ∧ (∃ l, S.1 34 = nI l ∧ l ≤ 120 ∧ ∀ e, e < l → 1 ≤ (S.2.2.1 33 e).toInt ∧ (S.2.2.1 33 e).toInt ≤ 127) ∧ (∃ l, S.1 30 = nI l ∧ l ≤ 673) ∧ mLt S ∧ (S.1 25 = 0 ∨ S.1 25 = 1)
/-- where things lie -/
def gL (g : xG) (G : GS) (c n : Nat) : Prop := gW G ∧ gK G c ∧ gE g G ∧ g.2.2.2.1 < n ∧ g.1 < n ∧ G.1 g.1 = 0 ∧ ∀ q, n ≤ q → G.1 q = 0
/-- the class stands as the reference does -/
def rA (g : xG) (G : GS) (c n b : Nat) (ρ : Nat → Nat) (S : MS) : Prop := gL g G c n ∧ G.2.2.2.2 c 9 = some b ∧ bS G b ρ S ∧ bI S ρ ∧ tR G ρ S ∧ rKp G c ρ S ∧ rJn G c ρ S ∧ rMs G c S ∧ mI S
theorem rAc_agr (hw : gW G) (hA : agr T G L) (hL : ¬ 5 ∈ L ∧ ¬ 6 ∈ L ∧ ¬ 7 ∈ L) (hy : ¬ G.1 y ∈ L) (h : rAc G ρ S y w) : rAc T ρ S y w := by
  obtain ⟨t, h1, h2, h3, h4, h5, h6⟩ := h
  obtain ⟨w1, _⟩ := hw.2.1 t h2
  have e1 := hA y hy
  have e2 := hA t (by rw [h2]; exact hL.2.1)
  have e3 := hA (t + 1) (by rw [w1]; exact hL.2.2)
  exact ⟨t, by rw [e1.2.2.2.2]; exact h1, by rw [e2.1]; exact h2, by rw [e3.2.1]; exact h3, h4, h5, rPu_agr hA hL.1 (by rw [w1]; exact hL.2.2) h6⟩
/-- what is written elsewhere matters nothing -/
theorem rA_agr (hA : agr T G L) (hL : (∀ e, e ∈ [1, 2, 3, 4, 5, 6, 7, 9, 10, 11, 12, 14, 15, 19, 22, 23, 24, 26, 27] → ¬ e ∈ L)) (h3 : T.2.2.1 (c + 7) 3 = G.2.2.1 (c + 7) 3) (h4 : T.2.2.1 (c + 7) 4 = G.2.2.1 (c + 7) 4) (hl0 : T.2.2.1 (c + 1) 0 = G.2.2.1 (c + 1) 0) (hl1 : T.2.2.2.1 (c + 1) 1 = G.2.2.2.1 (c + 1) 1) (hT : gL g T c n') (h : rA g G c n b ρ S) : rA g T c n' b ρ S := by
  obtain ⟨a1, a2, a3, a4, a5, a6, a7, a8, a9⟩ := h
  have hw := a1.1
  obtain ⟨k0, k1, k2, k3, ⟨k4, _⟩, ⟨k5, _⟩, ⟨k6, _⟩, k7, ⟨k8, _⟩, ⟨k9, _⟩, k10, ⟨k11, _⟩, ⟨k12, _⟩, k13, ⟨k14, _⟩, ⟨k15, _⟩⟩ := a1.2.1
  have l := fun e he => hL e he
  have ec := hA c (by rw [k0]; exact l 15 (by decide))
  have e6 := hA (c + 6) (by rw [k6]; exact l 19 (by decide))
  have e9 := hA (c + 9) (by rw [k9]; exact l 22 (by decide))
  have e10 := hA (c + 10) (by rw [k10]; exact l 23 (by decide))
  have e11 := hA (c + 11) (by rw [k11]; exact l 24 (by decide))
  have e13 := hA (c + 13) (by rw [k13]; exact l 26 (by decide))
  have e14 := hA (c + 14) (by rw [k14]; exact l 27 (by decide))
  have LB : ¬ 1 ∈ L ∧ ¬ 2 ∈ L ∧ ¬ 3 ∈ L ∧ ¬ 9 ∈ L ∧ ¬ 10 ∈ L ∧ ¬ 11 ∈ L ∧ ¬ 12 ∈ L ∧ ¬ 14 ∈ L := ⟨l 1 (by decide), l 2 (by decide), l 3 (by decide), l 9 (by decide), l 10 (by decide), l 11 (by decide), l 12 (by decide), l 14 (by decide)⟩
  refine ⟨hT, by rw [ec.2.2.2.2]; exact a2, bS_agr hw hA LB a3, a4, ?_, ?_, ?_, ?_, a9⟩
  · intro r hr
    obtain ⟨t1, t2⟩ := a5 r hr
    have hrr := bS_row a3 hr
    obtain ⟨w1, w2, w3, _⟩ := hw.1 (ρ r) hrr.1
    refine ⟨fun p hp => ?_, t2⟩
    rw [(hA (ρ r + 3) (by rw [w3]; exact l 4 (by decide))).2.2.1]
    exact t1 p hp
  · unfold rKp
    rw [ec.2.2.2.2]
    rcases a6 with a6 | ⟨b1, b2, kb, κ, b3, b4, b5, b6⟩
    · exact Or.inl a6
    · exact Or.inr ⟨b1, b2, kb, κ, b3, bS_agr hw hA LB b4, b5, b6⟩
  · obtain ⟨b1, b2, b3, b4, b5⟩ := a7
    refine ⟨by rw [h3]; exact b1, by rw [h4]; exact b2, b3, fun e z he hz => ?_, fun w hw' => ?_⟩
    · rw [e9.2.2.2.2] at hz
      have h6 := b4 e z he hz
      rw [(hA z (by rw [h6]; exact l 6 (by decide))).1]
      exact h6
    · exact rAc_agr hw hA ⟨l 5 (by decide), l 6 (by decide), l 7 (by decide)⟩ (by rw [k9]; exact l 22 (by decide)) (b5 w hw')
  · unfold rMs
    rw [hl0, hl1, e6.2.2.1, ec.2.2.1, e13.2.2.1, e14.2.2.1, e10.2.2.1, e11.2.2.1]
    exact a8
/-- parts of the reference's state that are no state at all -/
def mEv (S' S : MS) : Prop := (∀ q, q ≠ 0 → q ≠ 16 → q ≠ 35 → q ≠ 36 → S'.1 q = S.1 q) ∧ S'.2.1 11 = S.2.1 11 ∧ (∀ q, q ≠ 13 → q ≠ 14 → q ≠ 27 → q ≠ 31 → ¬ (37 ≤ q ∧ q ≤ 41) → S'.2.2.1 q = S.2.2.1 q) ∧ (∀ q, q ≠ 15 → q ≠ 28 → q ≠ 42 → S'.2.2.2 q = S.2.2.2 q)
theorem mOk_ev (h : mEv S' S) (hO : mOk S) : mOk S' := by
  obtain ⟨h1, h2, h3, h4⟩ := h
  refine mOk_c hO (fun i => by rw [h3 2 (by decide) (by decide) (by decide) (by decide) (by decide)]) (fun i => by rw [h3 3 (by decide) (by decide) (by decide) (by decide) (by decide)]) (fun i => by rw [h3 12 (by decide) (by decide) (by decide) (by decide) (by decide)]) (fun q hq => ?_)
  rw [h3 5 (by decide) (by decide) (by decide) (by decide) (by decide), h4 6 (by decide) (by decide) (by decide)]
  exact okc_self hO hq
theorem rIn_ev (h7 : S'.2.2.1 7 = S.2.2.1 7) : rIn S' r ↔ rIn S r := by
  unfold rIn mRow mr
  rw [h7]
theorem bS_ev (h2 : S'.2.2.1 2 = S.2.2.1 2) (h3 : S'.2.2.1 3 = S.2.2.1 3) (h5 : S'.2.2.1 5 = S.2.2.1 5) (h7 : S'.2.2.1 7 = S.2.2.1 7) (h8 : S'.2.2.1 8 = S.2.2.1 8) (h12 : S'.2.2.1 12 = S.2.2.1 12) (h6 : S'.2.2.2 6 = S.2.2.2 6) (hB : bS G b ρ S) : bS G b ρ S' := by
  unfold bS bSl bRo mRow mr mz at hB ⊢
  rw [h2, h3, h5, h7, h8, h12, h6]
  exact hB
theorem rPu_ev {cnt : Nat} {at' wk ik : Nat → Int32} {wv iv : Nat → Int64} (h7 : S'.2.2.1 7 = S.2.2.1 7) (h2 : S'.2.2.1 2 = S.2.2.1 2) (h3 : S'.2.2.1 3 = S.2.2.1 3) (hP : rPu G ρ S y cnt at' wk ik wv iv) : rPu G ρ S' y cnt at' wk ik wv iv := rPu_S (fun t => by rw [h7]) (fun t => by rw [h2]) (fun t => by rw [h3]) hP
theorem mKp_ev (h : mEv S' S) : mEv (mKp S') (mKp S) ∧ (mKp S').2.2.1 2 = (mKp S).2.2.1 2 ∧ (mKp S').2.2.1 3 = (mKp S).2.2.1 3 ∧ (mKp S').2.2.1 5 = (mKp S).2.2.1 5 ∧ (mKp S').2.2.1 7 = (mKp S).2.2.1 7 ∧ (mKp S').2.2.1 8 = (mKp S).2.2.1 8 ∧ (mKp S').2.2.1 12 = (mKp S).2.2.1 12 ∧ (mKp S').2.2.2 6 = (mKp S).2.2.2 6 := by
  obtain ⟨h1, h2, h3, h4⟩ := h
  have e2 : S'.2.2.1 44 = S.2.2.1 44 := h3 44 (by decide) (by decide) (by decide) (by decide) (by decide)
  have e3 : S'.2.2.1 45 = S.2.2.1 45 := h3 45 (by decide) (by decide) (by decide) (by decide) (by decide)
  have e5 : S'.2.2.1 46 = S.2.2.1 46 := h3 46 (by decide) (by decide) (by decide) (by decide) (by decide)
  have e7 : S'.2.2.1 48 = S.2.2.1 48 := h3 48 (by decide) (by decide) (by decide) (by decide) (by decide)
  have e8 : S'.2.2.1 49 = S.2.2.1 49 := h3 49 (by decide) (by decide) (by decide) (by decide) (by decide)
  have e12 : S'.2.2.1 50 = S.2.2.1 50 := h3 50 (by decide) (by decide) (by decide) (by decide) (by decide)
  have e6 : S'.2.2.2 47 = S.2.2.2 47 := h4 47 (by decide) (by decide) (by decide)
  refine ⟨⟨h1, h2, fun q a1 a2 a3 a4 a5 => ?_, fun q a1 a2 a3 => ?_⟩, e2, e3, e5, e7, e8, e12, e6⟩
  · show (if q = 2 then S'.2.2.1 44 else if q = 3 then S'.2.2.1 45 else if q = 5 then S'.2.2.1 46 else if q = 7 then S'.2.2.1 48 else if q = 8 then S'.2.2.1 49 else if q = 12 then S'.2.2.1 50 else S'.2.2.1 q) = (if q = 2 then S.2.2.1 44 else if q = 3 then S.2.2.1 45 else if q = 5 then S.2.2.1 46 else if q = 7 then S.2.2.1 48 else if q = 8 then S.2.2.1 49 else if q = 12 then S.2.2.1 50 else S.2.2.1 q)
    rw [e2, e3, e5, e7, e8, e12, h3 q a1 a2 a3 a4 a5]
  · show (if q = 6 then S'.2.2.2 47 else S'.2.2.2 q) = (if q = 6 then S.2.2.2 47 else S.2.2.2 q)
    rw [e6, h4 q a1 a2 a3]
theorem rA_ev (hE : mEv S' S) (h : rA g G c n b ρ S) : rA g G c n b ρ S' := by
  obtain ⟨a1, a2, a3, a4, a5, a6, a7, a8, a9⟩ := h
  have hEE := hE
  obtain ⟨h1, h2, h3, h4⟩ := hE
  have f := fun q (z : q ≠ 13 ∧ q ≠ 14 ∧ q ≠ 27 ∧ q ≠ 31 ∧ ¬ (37 ≤ q ∧ q ≤ 41)) => h3 q z.1 z.2.1 z.2.2.1 z.2.2.2.1 z.2.2.2.2
  have fi := fun q (z : q ≠ 0 ∧ q ≠ 16 ∧ q ≠ 35 ∧ q ≠ 36) => h1 q z.1 z.2.1 z.2.2.1 z.2.2.2
  have e7 := f 7 (by decide)
  have hin : ∀ r, rIn S' r ↔ rIn S r := fun r => rIn_ev e7
  have hmz : ∀ r, mz S' r = mz S r := fun r => by unfold mz; rw [f 3 (by decide)]
  refine ⟨a1, a2, bS_ev (f 2 (by decide)) (f 3 (by decide)) (f 5 (by decide)) e7 (f 8 (by decide)) (f 12 (by decide)) (h4 6 (by decide) (by decide) (by decide)) a3, ?_, ?_, ?_, ?_, ?_, ?_⟩
  · intro r r' x1 x2
    exact a4 r r' ((hin r).mp x1) ((hin r').mp x2)
  · intro r hr
    rw [hmz, f 4 (by decide)]
    exact a5 r ((hin r).mp hr)
  · obtain ⟨m0, m2, m3, m5, m7, m8, m12, m6⟩ := mKp_ev hEE
    unfold rKp
    rw [fi 43 (by decide)]
    rcases a6 with a6 | ⟨b1, b2, kb, κ, b3, b4, b5, b6⟩
    · exact Or.inl a6
    · refine Or.inr ⟨b1, mOk_ev m0 b2, kb, κ, b3, bS_ev m2 m3 m5 m7 m8 m12 m6 b4, ?_, ?_, b6.2⟩
      · intro r r' x1 x2
        exact b5 r r' ((rIn_ev m7).mp x1) ((rIn_ev m7).mp x2)
      · intro r r' x1 x2
        exact b6.1 r r' ((hin r).mp x1) ((rIn_ev m7).mp x2)
  · obtain ⟨b1, b2, b3, b4, b5⟩ := a7
    unfold rJn
    rw [fi 24 (by decide), fi 23 (by decide)]
    refine ⟨b1, b2, b3, b4, fun w hw => ?_⟩
    obtain ⟨t, t1, t2, t3, t4, t5, t6⟩ := b5 w hw
    unfold rAc
    rw [f 22 (by decide), f 17 (by decide), f 18 (by decide), f 20 (by decide), h4 19 (by decide) (by decide) (by decide), h4 21 (by decide) (by decide) (by decide)]
    exact ⟨t, t1, t2, t3, t4, t5, rPu_ev e7 (f 2 (by decide)) (f 3 (by decide)) t6⟩
  · unfold rMs
    rw [fi 10 (by decide), h2, f 9 (by decide), fi 25 (by decide), f 26 (by decide), fi 30 (by decide), f 29 (by decide), fi 34 (by decide), f 33 (by decide)]
    exact a8
  · obtain ⟨b1, b2, b3, b4, b5, b6⟩ := a9
    refine ⟨mOk_ev hEE b1, ?_, ?_, ?_, ?_, ?_⟩
    · rw [fi 10 (by decide), h2]
      exact b2
    · rw [fi 34 (by decide), f 33 (by decide)]
      exact b3
    · rw [fi 30 (by decide)]
      exact b4
    · unfold mLt
      rw [f 32 (by decide)]
      exact b5
    · rw [fi 25 (by decide)]
      exact b6
end K17
