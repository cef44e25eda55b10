/-! THE CLASS beside the reference, 3: what stays when something else is written -/
section K16
variable {g : xG} {n kc ks a b c s t w q l x y jn d r p : Nat} {G T U : GS} {h : xH} {i j k m v : Int32} {u z : Int64} {o : Option Nat} {S S' : MS} {ρ κ : Nat → Nat} {L L' : List Nat}
/-- all that lies at addresses of other roles is the same -/
def agr (T G : GS) (L : List Nat) : Prop := ∀ q, ¬ G.1 q ∈ L → T.1 q = G.1 q ∧ T.2.1 q = G.2.1 q ∧ T.2.2.1 q = G.2.2.1 q ∧ T.2.2.2.1 q = G.2.2.2.1 q ∧ T.2.2.2.2 q = G.2.2.2.2 q
theorem agr_refl : agr G G L := fun _ _ => ⟨rfl, rfl, rfl, rfl, rfl⟩
theorem agr_trans (h1 : agr T G L) (h2 : agr U T L) : agr U G L := by
  intro q hq
  obtain ⟨a1, a2, a3, a4, a5⟩ := h1 q hq
  obtain ⟨b1, b2, b3, b4, b5⟩ := h2 q (by rw [a1]; exact hq)
  exact ⟨b1.trans a1, b2.trans a2, b3.trans a3, b4.trans a4, b5.trans a5⟩
theorem agr_mono (h1 : agr T G L) (hL : ∀ e, e ∈ L → e ∈ L') : agr T G L' := fun q hq => h1 q (fun z => hq (hL _ z))
theorem agr_I (ha : G.1 a ∈ L) : agr (gsI G a s k) G L := by
  intro q hq
  have : q ≠ a := fun e => hq (e ▸ ha)
  refine ⟨rfl, rfl, ?_, rfl, rfl⟩
  funext e
  rw [gsI3, if_neg (fun z => this z.1)]
theorem agr_J (ha : G.1 a ∈ L) : agr (gsJ G a s u) G L := by
  intro q hq
  have : q ≠ a := fun e => hq (e ▸ ha)
  refine ⟨rfl, rfl, rfl, ?_, rfl⟩
  funext e
  rw [gsJ4, if_neg (fun z => this z.1)]
theorem agr_R (ha : G.1 a ∈ L) : agr (gsR G a s o) G L := by
  intro q hq
  have : q ≠ a := fun e => hq (e ▸ ha)
  refine ⟨rfl, rfl, rfl, rfl, ?_⟩
  funext e
  rw [gsR5, if_neg (fun z => this z.1)]
theorem agr_n (ha : G.1 a ∈ L) : agr (gnew G a r l) G L := by
  intro q hq
  have : q ≠ a := fun e => hq (e ▸ ha)
  refine ⟨if_neg this, if_neg this, ?_, ?_, ?_⟩
  · funext e
    rw [gnew3, if_neg this]
  · funext e
    rw [gnew4, if_neg this]
  · funext e
    rw [gnew5, if_neg this]
theorem agr_rS (hw : gW G) (ha : G.1 a = 1) (h2 : 2 ∈ L) (h3 : 3 ∈ L) : agr (rSet G a s k u) G L := by
  obtain ⟨w1, w2, _⟩ := hw.1 a ha
  exact agr_trans (agr_I (by rw [w1]; exact h2)) (agr_J (by show G.1 (a + 2) ∈ L; rw [w2]; exact h3))
/-- layout stays -/
theorem gE_agr (hE : gE g G) (hA : agr T G L) (h0 : ¬ 0 ∈ L) : gE g T := ⟨by rw [(hA _ (by rw [hE.1]; exact h0)).1]; exact hE.1, hE.2⟩
theorem bRo_agr (hw : gW G) (hA : agr T G L) (hL : ¬ 1 ∈ L ∧ ¬ 2 ∈ L ∧ ¬ 3 ∈ L) (hR : bRo G S a r) : bRo T S a r := by
  obtain ⟨q1, q2, q3, q4⟩ := hR
  obtain ⟨w1, w2, w3, _⟩ := hw.1 a q1
  obtain ⟨a1, a2, a3, a4, a5⟩ := hA a (by rw [q1]; exact hL.1)
  obtain ⟨b1, b2, b3, b4, b5⟩ := hA (a + 1) (by rw [w1]; exact hL.2.1)
  obtain ⟨c1, c2, c3, c4, c5⟩ := hA (a + 2) (by rw [w2]; exact hL.2.2)
  refine ⟨by rw [a1]; exact q1, by rw [a3]; exact q2, by rw [c2]; exact q3, fun p hp => ?_⟩
  rw [b3, c4]
  exact q4 p hp
theorem bS_agr (hw : gW G) (hA : agr T G L) (hL : ¬ 1 ∈ L ∧ ¬ 2 ∈ L ∧ ¬ 3 ∈ L ∧ ¬ 9 ∈ L ∧ ¬ 10 ∈ L ∧ ¬ 11 ∈ L ∧ ¬ 12 ∈ L ∧ ¬ 14 ∈ L) (hB : bS G b ρ S) : bS T b ρ S := by
  obtain ⟨h1, h2, h3⟩ := hB
  obtain ⟨w1, w2, w3, w4, w5, w6, w7, w8, w9⟩ := gW9 hw h1
  obtain ⟨l1, l2, l3, l9, l10, l11, l12, l14⟩ := hL
  have e0 := hA b (by rw [h1]; exact l9)
  have e1 := hA (b + 1) (by rw [w1]; exact l10)
  have e2 := hA (b + 2) (by rw [w2]; exact l11)
  have e3 := hA (b + 3) (by rw [w3]; exact l12)
  refine ⟨by rw [e0.1]; exact h1, fun s hs => ?_, fun w k hw' hk => ?_⟩
  · unfold bSl
    rw [e1.2.2.2.2, e2.2.2.1, e3.2.2.1]
    rcases h2 s hs with ⟨r0, r1, r2, r3, r4⟩ | r | r
    · exact Or.inl ⟨r0, r1, r2, r3, bRo_agr hw hA ⟨l1, l2, l3⟩ r4⟩
    · exact Or.inr (Or.inl r)
    · exact Or.inr (Or.inr r)
  · rw [(hA (b + 5 + w) (by rw [w9 w hw']; exact l14)).2.2.1]
    exact h3 w k hw' hk
/-- a row that is held -/
def rIn (S : MS) (r : Nat) : Prop := ∃ s, s < 10 ∧ mRow S s = true ∧ mr S s = r
def bI (S : MS) (ρ : Nat → Nat) : Prop := ∀ r r', rIn S r → rIn S r' → ρ r = ρ r' → r = r'
theorem bS_row (hB : bS G b ρ S) (hr : rIn S r) : bRo G S (ρ r) r := by
  obtain ⟨s, h1, h2, h3⟩ := hr
  rcases hB.2.1 s h1 with ⟨r0, r1, r2, r3, r4⟩ | ⟨r0, _⟩ | ⟨r0, _⟩
  · rw [h3] at r4
    exact r4
  · exact absurd r0 (mRow_n11 h2)
  · exfalso
    unfold mRow at h2
    rcases r0 with r0 | r0
    · rw [r0] at h2
      exact absurd h2 (by decide)
    · rw [r0] at h2
      exact absurd h2 (by decide)
theorem rIn_lt (hr : rIn S r) : r < 10 := by
  obtain ⟨s, h1, h2, h3⟩ := hr
  have := (mRow_eq h2).2
  omega
/-- a cell written on both sides -/
def mCw (S : MS) (q : Nat) (k : Int32) (u : Int64) : MS := msB (msA S 5 q k) 6 q u
theorem mCw_A {z t : Nat} (hz : z ≠ 5) : (mCw S q k u).2.2.1 z t = S.2.2.1 z t := by
  simp [mCw, msA, msB, hz]
theorem mCw_5 {t : Nat} : (mCw S q k u).2.2.1 5 t = if t = q then k else S.2.2.1 5 t := by
  simp [mCw, msA, msB]
theorem mCw_6 {t : Nat} : (mCw S q k u).2.2.2 6 t = if t = q then u else S.2.2.2 6 t := by
  simp [mCw, msA, msB]
theorem mRow_cg (h7 : S'.2.2.1 7 s = S.2.2.1 7 s) : mRow S' s = mRow S s ∧ mr S' s = mr S s := by
  unfold mRow mr
  rw [h7]
  exact ⟨rfl, rfl⟩
theorem bS_set (hw : gW G) (hB : bS G b ρ S) (hI : bI S ρ) (hO : mOk S) (hr : rIn S r) (hp : p < mz S r) : bS (rSet G (ρ r) p k u) b ρ (mCw S (32 * r + p) k u) := by
  have hrr := bS_row hB hr
  have r10 := rIn_lt hr
  obtain ⟨w1, w2, w3, _⟩ := hw.1 (ρ r) hrr.1
  obtain ⟨h1, h2, h3⟩ := hB
  obtain ⟨v1, v2, v3, v4, v5, v6, v7, v8, v9⟩ := gW9 hw h1
  have hA : agr (rSet G (ρ r) p k u) G [2, 3] := agr_rS hw hrr.1 (by decide) (by decide)
  have e0 := hA b (by rw [h1]; decide)
  have e1 := hA (b + 1) (by rw [v1]; decide)
  have e2 := hA (b + 2) (by rw [v2]; decide)
  have e3 := hA (b + 3) (by rw [v3]; decide)
  have p32 : mz S r ≤ 32 := (mz_eq hO.1 r10).2
  refine ⟨by rw [e0.1]; exact h1, fun s hs => ?_, fun w k' hw' hk => ?_⟩
  · obtain ⟨m1, m2⟩ := mRow_cg (S' := mCw S (32 * r + p) k u) (S := S) (s := s) (mCw_A (by decide))
    unfold bSl
    rw [e1.2.2.2.2, e2.2.2.1, e3.2.2.1, m1, m2, mCw_A (z := 7) (by decide), mCw_A (z := 8) (by decide), mCw_A (z := 2) (by decide)]
    rcases h2 s hs with ⟨r0, r1, r2, r3, r4⟩ | rr | rr
    · refine Or.inl ⟨r0, r1, r2, r3, ?_⟩
      have hr' : rIn S (mr S s) := ⟨s, hs, r0, rfl⟩
      generalize mr S s = r' at *
      obtain ⟨q1, q2, q3, q4⟩ := r4
      obtain ⟨x1, x2, x3, _⟩ := hw.1 (ρ r') q1
      have f0 := hA (ρ r') (by rw [q1]; decide)
      have hmz : mz (mCw S (32 * r + p) k u) r' = mz S r' := by
        unfold mz
        rw [mCw_A (by decide)]
      refine ⟨by rw [f0.1]; exact q1, by rw [f0.2.2.1, mCw_A (by decide)]; exact q2, ?_, ?_⟩
      · rw [hmz]
        exact q3
      · intro p' hp'
        rw [hmz] at hp'
        obtain ⟨y1, y2⟩ := q4 p' hp'
        have p32' : mz S r' ≤ 32 := (mz_eq hO.1 (rIn_lt hr')).2
        rw [mCw_5, mCw_6]
        show (if ρ r' + 1 = ρ r + 1 ∧ p' = p then k else G.2.2.1 (ρ r' + 1) p') = _ ∧ (if ρ r' + 2 = ρ r + 2 ∧ p' = p then u else G.2.2.2.1 (ρ r' + 2) p') = _
        by_cases e : r' = r
        · subst e
          by_cases e4 : p' = p
          · subst e4
            rw [if_pos ⟨rfl, rfl⟩, if_pos rfl, if_pos ⟨rfl, rfl⟩, if_pos rfl]
            exact ⟨rfl, rfl⟩
          · rw [if_neg (fun z => e4 z.2), if_neg (by omega), if_neg (fun z => e4 z.2), if_neg (by omega)]
            exact ⟨y1, y2⟩
        · have hne : ρ r' ≠ ρ r := fun z => e (hI r' r hr' hr z)
          rw [if_neg (by omega), if_neg (by omega), if_neg (by omega), if_neg (by omega)]
          exact ⟨y1, y2⟩
    · exact Or.inr (Or.inl rr)
    · exact Or.inr (Or.inr rr)
  · rw [(hA (b + 5 + w) (by rw [v9 w hw']; decide)).2.2.1, mCw_A (by decide)]
    exact h3 w k' hw' hk
/-- rows elsewhere stay when a row is written -/
theorem bS_oth (hw : gW G) (hB : bS G b κ S) (ha : G.1 a = 1) (hd : ∀ r, rIn S r → κ r ≠ a) : bS (rSet G a p k u) b κ S := by
  obtain ⟨w1, w2, w3, _⟩ := hw.1 a ha
  obtain ⟨h1, h2, h3⟩ := hB
  obtain ⟨v1, v2, v3, v4, v5, v6, v7, v8, v9⟩ := gW9 hw h1
  have hA : agr (rSet G a p k u) G [2, 3] := agr_rS hw ha (by decide) (by decide)
  have e0 := hA b (by rw [h1]; decide)
  have e1 := hA (b + 1) (by rw [v1]; decide)
  have e2 := hA (b + 2) (by rw [v2]; decide)
  have e3 := hA (b + 3) (by rw [v3]; decide)
  refine ⟨by rw [e0.1]; exact h1, fun s hs => ?_, fun w k' hw' hk => ?_⟩
  · unfold bSl
    rw [e1.2.2.2.2, e2.2.2.1, e3.2.2.1]
    rcases h2 s hs with ⟨r0, r1, r2, r3, r4⟩ | rr | rr
    · refine Or.inl ⟨r0, r1, r2, r3, ?_⟩
      have hne := hd (mr S s) ⟨s, hs, r0, rfl⟩
      obtain ⟨q1, q2, q3, q4⟩ := r4
      have f0 := hA (κ (mr S s)) (by rw [q1]; decide)
      refine ⟨by rw [f0.1]; exact q1, by rw [f0.2.2.1]; exact q2, q3, fun p' hp' => ?_⟩
      show (if κ (mr S s) + 1 = a + 1 ∧ p' = p then k else G.2.2.1 (κ (mr S s) + 1) p') = _ ∧ (if κ (mr S s) + 2 = a + 2 ∧ p' = p then u else G.2.2.2.1 (κ (mr S s) + 2) p') = _
      rw [if_neg (by omega), if_neg (by omega)]
      exact q4 p' hp'
    · exact Or.inr (Or.inl rr)
    · exact Or.inr (Or.inr rr)
  · rw [(hA (b + 5 + w) (by rw [v9 w hw']; decide)).2.2.1]
    exact h3 w k' hw' hk
/-- puts of the class are puts of the reference -/
def rPu (G : GS) (ρ : Nat → Nat) (S : MS) (y cnt : Nat) (at' wk ik : Nat → Int32) (wv iv : Nat → Int64) : Prop := ∀ k, k < cnt → ∃ x, G.2.2.2.2 y k = some x ∧ G.1 x = 5 ∧ G.2.2.2.2 x 0 = some (ρ (tn (at' k) / 32)) ∧ rIn S (tn (at' k) / 32) ∧ G.2.2.1 x 1 = nI (tn (at' k) % 32) ∧ tn (at' k) % 32 < mz S (tn (at' k) / 32) ∧ G.2.2.1 x 2 = wk k ∧ G.2.2.2.1 x 3 = wv k ∧ G.2.2.1 x 4 = ik k ∧ G.2.2.2.1 x 5 = iv k ∧ 0 ≤ (at' k).toInt ∧ okc S (tn (at' k)) (wk k) (wv k) ∧ okc S (tn (at' k)) (ik k) (iv k)
theorem rPu_ok (hz : mZ S) (hB : bS G b ρ S) {cnt : Nat} {at' wk ik : Nat → Int32} {wv iv : Nat → Int64} (hP : rPu G ρ S y cnt at' wk ik wv iv) : puOk G y cnt := by
  intro e he
  obtain ⟨x, p1, p2, p3, p4, p5, p6, _⟩ := hP e he
  have hrr := bS_row hB p4
  refine ⟨x, _, p1, p2, p3, hrr.1, ?_⟩
  have := (mz_eq hz (rIn_lt p4)).2
  rw [p5, hrr.2.2.1]
  exact xin_nI p6 (by omega)
theorem rPu_agr {cnt : Nat} {at' wk ik : Nat → Int32} {wv iv : Nat → Int64} (hA : agr T G L) (hL : ¬ 5 ∈ L) (hy : ¬ G.1 y ∈ L) (hP : rPu G ρ S y cnt at' wk ik wv iv) : rPu T ρ S y cnt at' wk ik wv iv := by
  intro e he
  obtain ⟨x, p1, p2, p3, p4, p5, p6, p7, p8, p9, p10, p11⟩ := hP e he
  obtain ⟨a1, a2, a3, a4, a5⟩ := hA x (by rw [p2]; exact hL)
  obtain ⟨b1, b2, b3, b4, b5⟩ := hA y hy
  refine ⟨x, by rw [b5]; exact p1, by rw [a1]; exact p2, by rw [a5]; exact p3, p4, by rw [a3]; exact p5, p6, by rw [a3]; exact p7, by rw [a4]; exact p8, by rw [a3]; exact p9, by rw [a4]; exact p10, p11⟩
/-- the reference's cells change, its rows stay -/
theorem rPu_S {cnt : Nat} {at' wk ik : Nat → Int32} {wv iv : Nat → Int64} (h7 : ∀ t, S'.2.2.1 7 t = S.2.2.1 7 t) (h2 : ∀ t, S'.2.2.1 2 t = S.2.2.1 2 t) (h3 : ∀ t, S'.2.2.1 3 t = S.2.2.1 3 t) (hP : rPu G ρ S y cnt at' wk ik wv iv) : rPu G ρ S' y cnt at' wk ik wv iv := by
  have hin : ∀ r, rIn S r → rIn S' r := by
    intro r ⟨s, e1, e2, e3⟩
    obtain ⟨m1, m2⟩ := mRow_cg (S' := S') (S := S) (s := s) (h7 s)
    exact ⟨s, e1, by rw [m1]; exact e2, by rw [m2]; exact e3⟩
  have hz : ∀ r, mz S' r = mz S r := by
    intro r
    unfold mz
    rw [h3]
  intro e he
  obtain ⟨x, p1, p2, p3, p4, p5, p6, p7, p8, p9, p10, p11, p12, p13⟩ := hP e he
  refine ⟨x, p1, p2, p3, hin _ p4, p5, by rw [hz]; exact p6, p7, p8, p9, p10, p11, ?_, ?_⟩
  · unfold okc at p12 ⊢
    rw [h2]
    exact p12
  · unfold okc at p13 ⊢
    rw [h2]
    exact p13
end K16
