/-! THE CLASS beside the reference, 5: a put keeps the relation -/
section K18
variable {g : xG} {n kc ks a b c s t w q l x y jn d r p n' : Nat} {G T U : GS} {h : xH} {i j k m v : Int32} {u z : Int64} {o : Option Nat} {S S' : MS} {ρ κ : Nat → Nat} {L L' : List Nat}
theorem gL_same (h1 : T.1 = G.1) (h2 : T.2.1 = G.2.1) (h : gL g G c n) : gL g T c n := by
  obtain ⟨a1, a2, a3, a4, a5, a6, a7⟩ := h
  refine ⟨gW_c a1 h1 h2, ?_, ?_, a4, a5, by rw [h1]; exact a6, by rw [h1]; exact a7⟩
  · unfold gK
    rw [h1, h2]
    exact a2
  · exact ⟨by rw [h1]; exact a3.1, a3.2⟩
theorem mKp_cw : mKp (mCw S q k u) = mKp S := by
  refine Prod.ext rfl (Prod.ext rfl (Prod.ext ?_ ?_))
  · funext e
    show (if e = 2 then _ else if e = 3 then _ else if e = 5 then _ else if e = 7 then _ else if e = 8 then _ else if e = 12 then _ else (mCw S q k u).2.2.1 e) = (if e = 2 then _ else if e = 3 then _ else if e = 5 then _ else if e = 7 then _ else if e = 8 then _ else if e = 12 then _ else S.2.2.1 e)
    have c1 : ∀ z, z ≠ 5 → (mCw S q k u).2.2.1 z = S.2.2.1 z := fun z hz => funext fun t => mCw_A hz
    rw [c1 44 (by decide), c1 45 (by decide), c1 46 (by decide), c1 48 (by decide), c1 49 (by decide), c1 50 (by decide)]
    by_cases e5 : e = 5
    · subst e5
      rfl
    · rw [c1 e e5]
  · funext e
    show (if e = 6 then (mCw S q k u).2.2.2 47 else (mCw S q k u).2.2.2 e) = (if e = 6 then S.2.2.2 47 else S.2.2.2 e)
    by_cases e6 : e = 6
    · rw [if_pos e6, if_pos e6]
      funext t
      simp [mCw, msB, msA]
    · rw [if_neg e6, if_neg e6]
      funext t
      simp [mCw, msB, msA, e6]
theorem rIn_cw : rIn (mCw S q k u) r ↔ rIn S r := rIn_ev (funext fun t => mCw_A (by decide))
theorem rA_set (h : rA g G c n b ρ S) (hr : rIn S r) (hp : p < mz S r) (hc : okc S (32 * r + p) k u) : rA g (rSet G (ρ r) p k u) c n b ρ (mCw S (32 * r + p) k u) := by
  obtain ⟨a1, a2, a3, a4, a5, a6, a7, a8, a9⟩ := h
  have hw := a1.1
  have hrr := bS_row a3 hr
  have hA : agr (rSet G (ρ r) p k u) G [2, 3] := agr_rS hw hrr.1 (by decide) (by decide)
  obtain ⟨k0, k1, k2, k3, ⟨k4, _⟩, ⟨k5, _⟩, ⟨k6, _⟩, k7, ⟨k8, _⟩, ⟨k9, _⟩, k10, ⟨k11, _⟩, ⟨k12, _⟩, k13, ⟨k14, _⟩, ⟨k15, _⟩⟩ := a1.2.1
  have ec := hA c (by rw [k0]; decide)
  have e1 := hA (c + 1) (by rw [k1]; decide)
  have e6 := hA (c + 6) (by rw [k6]; decide)
  have e7 := hA (c + 7) (by rw [k7]; decide)
  have e9 := hA (c + 9) (by rw [k9]; decide)
  have e10 := hA (c + 10) (by rw [k10]; decide)
  have e11 := hA (c + 11) (by rw [k11]; decide)
  have e13 := hA (c + 13) (by rw [k13]; decide)
  have e14 := hA (c + 14) (by rw [k14]; decide)
  have fA : ∀ z, z ≠ 5 → (mCw S (32 * r + p) k u).2.2.1 z = S.2.2.1 z := fun z hz => funext fun t => mCw_A hz
  have hmz : ∀ r', mz (mCw S (32 * r + p) k u) r' = mz S r' := fun r' => by unfold mz; rw [fA 3 (by decide)]
  refine ⟨gL_same rfl rfl a1, by rw [ec.2.2.2.2]; exact a2, bS_set hw a3 a4 a9.1 hr hp, ?_, ?_, ?_, ?_, ?_, ?_⟩
  · intro r1 r2 x1 x2
    exact a4 r1 r2 (rIn_cw.mp x1) (rIn_cw.mp x2)
  · intro r' hr'
    have hr'' := rIn_cw.mp hr'
    obtain ⟨t1, t2⟩ := a5 r' hr''
    have hrr' := bS_row a3 hr''
    obtain ⟨w1, w2, w3, _⟩ := hw.1 (ρ r') hrr'.1
    rw [hmz, fA 4 (by decide)]
    refine ⟨fun p' hp' => ?_, t2⟩
    rw [(hA (ρ r' + 3) (by rw [w3]; decide)).2.2.1]
    exact t1 p' hp'
  · unfold rKp
    rw [ec.2.2.2.2, mKp_cw]
    rcases a6 with a6 | ⟨b1, b2, kb, κ, b3, b4, b5, b6⟩
    · exact Or.inl a6
    · refine Or.inr ⟨b1, b2, kb, κ, b3, bS_oth hw b4 hrr.1 (fun r' hr' => Ne.symm (b6.1 r r' hr hr')), b5, ?_, b6.2⟩
      intro r1 r2 x1 x2
      exact b6.1 r1 r2 (rIn_cw.mp x1) x2
  · obtain ⟨b1, b2, b3, b4, b5⟩ := a7
    refine ⟨by rw [e7.2.2.1]; exact b1, by rw [e7.2.2.1]; exact b2, b3, ?_, ?_⟩
    · intro e z he hz
      rw [e9.2.2.2.2] at hz
      exact b4 e z he hz
    · intro w hw'
      have h5 := rAc_agr hw hA ⟨by decide, by decide, by decide⟩ (by rw [k9]; decide) (b5 w hw')
      obtain ⟨t, t1, t2, t3, t4, t5, t6⟩ := h5
      unfold rAc
      rw [fA 22 (by decide), fA 17 (by decide), fA 18 (by decide), fA 20 (by decide)]
      have g19 : (mCw S (32 * r + p) k u).2.2.2 19 = S.2.2.2 19 := by funext t; simp [mCw, msB, msA]
      have g21 : (mCw S (32 * r + p) k u).2.2.2 21 = S.2.2.2 21 := by funext t; simp [mCw, msB, msA]
      rw [g19, g21]
      exact ⟨t, t1, t2, t3, t4, t5, rPu_ev (fA 7 (by decide)) (fA 2 (by decide)) (fA 3 (by decide)) t6⟩
  · unfold rMs
    rw [e1.2.2.1, e1.2.2.2.1, e6.2.2.1, ec.2.2.1, e13.2.2.1, e14.2.2.1, e10.2.2.1, e11.2.2.1, fA 9 (by decide), fA 26 (by decide), fA 29 (by decide), fA 33 (by decide)]
    exact a8
  · obtain ⟨b1, b2, b3, b4, b5, b6⟩ := a9
    refine ⟨mOk_cell b1 hc, b2, ?_, b4, ?_, b6⟩
    · rw [fA 33 (by decide)]
      exact b3
    · unfold mLt
      rw [fA 32 (by decide)]
      exact b5
theorem mUnl_snoc {f : Nat → Bool} : ∀ d s, mUnl f s (d + 1) = if mUnl f s d < s + d then mUnl f s d else if f (s + d) = true then s + d + 1 else s + d := by
  intro d
  induction d with
  | zero =>
    intro s
    show (if f s = true then s + 1 else s) = if s < s + 0 then s else if f (s + 0) = true then s + 0 + 1 else s + 0
    rw [if_neg (show ¬ s < s + 0 by omega)]
    rfl
  | succ d ih =>
    intro s
    rw [mUnl]
    by_cases e : f s = true
    · rw [if_pos e, ih (s + 1), mUnl, if_pos e, show s + 1 + d = s + (d + 1) by omega]
    · rw [if_neg e, mUnl, if_neg e, if_pos (by omega)]
/-- pending puts are the same -/
def rPd (G : GS) (c : Nat) (ρ : Nat → Nat) (S : MS) (p : Nat) : Prop := G.2.2.1 (c + 7) 1 = nI p ∧ S.1 16 = nI p ∧ rPu G ρ S (c + 8) p (S.2.2.1 13) (S.2.2.1 14) (sIk S p) (S.2.2.2 15) (sIv S p)
theorem mPut_14 {y : Int64} (t : Nat) : (mPut S p q k y).2.2.1 14 t = if t = p then S.2.2.1 5 q else S.2.2.1 14 t := by
  simp [mPut, mNote, msA, msB, msI]
theorem mPut_15 {y : Int64} (t : Nat) : (mPut S p q k y).2.2.2 15 t = if t = p then S.2.2.2 6 q else S.2.2.2 15 t := by
  simp [mPut, mNote, msA, msB, msI]
/-- a further put leaves what earlier puts are -/
theorem sI_put {y : Int64} {e : Nat} (hq : q < 320) (he : e < p) (h0 : 0 ≤ (S.2.2.1 13 e).toInt) (hd : sNx S p e ≤ p) : sIk (mPut S p q k y) (p + 1) e = sIk S p e ∧ sIv (mPut S p q k y) (p + 1) e = sIv S p e := by
  have e13 : ∀ t, t < p → (mPut S p q k y).2.2.1 13 t = S.2.2.1 13 t := fun t ht => by rw [mPut_13, if_neg (by omega)]
  have hf : (fun t => !decide ((mPut S p q k y).2.2.1 13 t = (mPut S p q k y).2.2.1 13 e)) = fun t => !decide ((mPut S p q k y).2.2.1 13 t = S.2.2.1 13 e) := by
    funext t
    rw [e13 e he]
  have hcg : ∀ d s, s + d ≤ p → mUnl (fun t => !decide ((mPut S p q k y).2.2.1 13 t = S.2.2.1 13 e)) s d = mUnl (fun t => !decide (S.2.2.1 13 t = S.2.2.1 13 e)) s d := by
    intro d
    induction d with
    | zero => intro s _; rfl
    | succ d ih =>
      intro s hs
      rw [mUnl, mUnl, e13 s (by omega), ih (s + 1) (by omega)]
  have hx : sNx (mPut S p q k y) (p + 1) e = if sNx S p e < p then sNx S p e else if S.2.2.1 13 e = nI q then p else p + 1 := by
    unfold sNx
    rw [hf, show p + 1 - (e + 1) = (p - (e + 1)) + 1 by omega, mUnl_snoc, hcg _ _ (by omega), show e + 1 + (p - (e + 1)) = p by omega]
    split
    · rfl
    · rw [mPut_13, if_pos rfl]
      by_cases c : S.2.2.1 13 e = nI q
      · rw [if_pos c, if_neg (by simp [c])]
      · rw [if_neg c, if_pos (by simp; exact fun z => c z.symm)]
  have hm : mAt (mPut S p q k y) e = mAt S e := by unfold mAt; rw [e13 e he]
  unfold sIk sIv
  rw [hx, hm]
  by_cases c1 : sNx S p e < p
  · rw [if_pos c1, if_pos (by omega), if_pos c1, if_pos (by omega), if_pos c1, mPut_14, if_neg (by omega), mPut_15, if_neg (by omega)]
    exact ⟨rfl, rfl⟩
  · rw [if_neg c1, if_neg c1, if_neg c1]
    by_cases c2 : S.2.2.1 13 e = nI q
    · have hat : mAt S e = q := by unfold mAt; rw [c2]; exact tn_nI (by omega)
      rw [if_pos c2, if_pos (by omega), if_pos (by omega), mPut_14, if_pos rfl, mPut_15, if_pos rfl, hat]
      exact ⟨rfl, rfl⟩
    · have hat : mAt S e ≠ q := by
        intro z
        apply c2
        rw [← z]
        exact nI_tn h0
      rw [if_neg c2, if_neg (by omega), if_neg (by omega), mPut_5, if_neg hat, mPut_6, if_neg hat]
      exact ⟨rfl, rfl⟩
theorem sNx_le {e : Nat} (he : e < p) : sNx S p e ≤ p := by
  have hn := mUnl_le (f := fun t => !decide (S.2.2.1 13 t = S.2.2.1 13 e)) (p - (e + 1)) (e + 1)
  unfold sNx
  omega
theorem mPut_ev {y : Int64} : mEv (mPut S p q k y) (mCw S q k y) := by
  refine ⟨fun e _ h16 _ _ => mPut_I h16, rfl, fun e h13 h14 _ _ _ => ?_, fun e h15 _ _ => ?_⟩
  · funext t
    by_cases e5 : e = 5
    · subst e5
      rw [mPut_5, mCw_5]
    · rw [mPut_A e5 h13 h14, mCw_A e5]
  · funext t
    by_cases e6 : e = 6
    · subst e6
      rw [mPut_6, mCw_6]
    · simp [mPut, mNote, mCw, msA, msB, msI, h15, e6]
end K18
