/-! THE CLASS beside the reference, 22: an act is kept -/
section K35
variable {g : xG} {n kc ks a b c s t w q l x y jn d r p n' e kb A : Nat} {G T U : GS} {h : xH} {i j k m v i1 i2 : Int32} {u z : Int64} {o : Option Nat} {S S1 S' V : MS} {ρ κ : Nat → Nat} {L L' : List Nat} {cnt : Nat} {at' wk ik : Nat → Int32} {wv iv : Nat → Int64}
/-- the journal alone is another -/
theorem rA_jn (hA : rA g G c n b ρ S) (hAg : agr T G [20, 22]) (t1 : T.1 = G.1) (t2 : T.2.1 = G.2.1) (hS : mSo S' S) (hJ : rJn T c ρ S') : rA g T c n b ρ S' := by
  obtain ⟨a1, a2, a3, a4, a5, a6, a7, a8, a9⟩ := hA
  obtain ⟨s1, s2, s3', s4'⟩ := hS
  have s3 : ∀ q, (q ≠ 17 ∧ q ≠ 18 ∧ q ≠ 20 ∧ q ≠ 22) → S'.2.2.1 q = S.2.2.1 q := fun q z => funext fun t => s3' q t z.1 z.2.1 z.2.2.1 z.2.2.2
  have s4 : ∀ q, (q ≠ 19 ∧ q ≠ 21) → S'.2.2.2 q = S.2.2.2 q := fun q z => funext fun t => s4' q t z.1 z.2
  have hw := a1.1
  obtain ⟨k0, k1, k2, k3, ⟨k4, _⟩, ⟨k5, _⟩, ⟨k6, _⟩, k7, ⟨k8, _⟩, ⟨k9, _⟩, k10, ⟨k11, _⟩, ⟨k12, _⟩, k13, ⟨k14, _⟩, ⟨k15, _⟩⟩ := a1.2.1
  have hin : ∀ r, rIn S' r ↔ rIn S r := fun r => rIn_ev (s3 7 (by decide))
  have LB : ¬ 1 ∈ [20, 22] ∧ ¬ 2 ∈ [20, 22] ∧ ¬ 3 ∈ [20, 22] ∧ ¬ 9 ∈ [20, 22] ∧ ¬ 10 ∈ [20, 22] ∧ ¬ 11 ∈ [20, 22] ∧ ¬ 12 ∈ [20, 22] ∧ ¬ 14 ∈ [20, 22] := by decide
  have hmz : ∀ r, mz S' r = mz S r := fun r => by unfold mz; rw [s3 3 (by decide)]
  have ec := hAg c (by rw [k0]; decide)
  refine ⟨gL_same t1 t2 a1, by rw [ec.2.2.2.2]; exact a2, bS_ev (s3 2 (by decide)) (s3 3 (by decide)) (s3 5 (by decide)) (s3 7 (by decide)) (s3 8 (by decide)) (s3 12 (by decide)) (s4 6 (by decide)) (bS_agr hw hAg LB a3), ?_, ?_, ?_, hJ, ?_, ?_⟩
  · intro r r' x1 x2
    exact a4 r r' ((hin r).mp x1) ((hin r').mp x2)
  · intro r hr
    have hr' := (hin r).mp hr
    obtain ⟨t1, t2⟩ := a5 r hr'
    have hrr := bS_row a3 hr'
    obtain ⟨w1, w2, w3, _⟩ := hw.1 (ρ r) hrr.1
    rw [hmz, s3 4 (by decide), (hAg (ρ r + 3) (by rw [w3]; decide)).2.2.1]
    exact ⟨t1, t2⟩
  · have m2 : (mKp S').2.2.1 2 = (mKp S).2.2.1 2 := s3 44 (by decide)
    have m3 : (mKp S').2.2.1 3 = (mKp S).2.2.1 3 := s3 45 (by decide)
    have m5 : (mKp S').2.2.1 5 = (mKp S).2.2.1 5 := s3 46 (by decide)
    have m7 : (mKp S').2.2.1 7 = (mKp S).2.2.1 7 := s3 48 (by decide)
    have m8 : (mKp S').2.2.1 8 = (mKp S).2.2.1 8 := s3 49 (by decide)
    have m12 : (mKp S').2.2.1 12 = (mKp S).2.2.1 12 := s3 50 (by decide)
    have m6 : (mKp S').2.2.2 6 = (mKp S).2.2.2 6 := s4 47 (by decide)
    unfold rKp
    rw [ec.2.2.2.2, s2 43 (by decide) (by decide)]
    rcases a6 with a6 | ⟨b1, b2, kb, κ, b3, b4, b5, b6⟩
    · exact Or.inl a6
    · refine Or.inr ⟨b1, mOk_c b2 (fun i => by rw [m2]) (fun i => by rw [m3]) (fun i => by rw [m12]) (fun q hq => by rw [m5, m6]; exact okc_self b2 hq), kb, κ, b3, bS_ev m2 m3 m5 m7 m8 m12 m6 (bS_agr hw hAg LB b4), ?_, ?_, b6.2⟩
      · intro r r' x1 x2
        exact b5 r r' ((rIn_ev m7).mp x1) ((rIn_ev m7).mp x2)
      · intro r r' x1 x2
        exact b6.1 r r' ((hin r).mp x1) ((rIn_ev m7).mp x2)
  · unfold rMs
    rw [ec.2.2.1, (hAg (c + 1) (by rw [k1]; decide)).2.2.1, (hAg (c + 1) (by rw [k1]; decide)).2.2.2.1, (hAg (c + 6) (by rw [k6]; decide)).2.2.1, (hAg (c + 13) (by rw [k13]; decide)).2.2.1, (hAg (c + 14) (by rw [k14]; decide)).2.2.1, (hAg (c + 10) (by rw [k10]; decide)).2.2.1, (hAg (c + 11) (by rw [k11]; decide)).2.2.1, s3 9 (by decide), s3 26 (by decide), s3 29 (by decide), s3 33 (by decide), s1, s2 10 (by decide) (by decide), s2 25 (by decide) (by decide), s2 30 (by decide) (by decide), s2 34 (by decide) (by decide)]
    exact a8
  · obtain ⟨b1, b2, b3, b4, b5, b6⟩ := a9
    refine ⟨mOk_c b1 (fun i => by rw [s3 2 (by decide)]) (fun i => by rw [s3 3 (by decide)]) (fun i => by rw [s3 12 (by decide)]) (fun q hq => by rw [s3 5 (by decide), s4 6 (by decide)]; exact okc_self b1 hq), ?_, ?_, ?_, ?_, ?_⟩
    · rw [s2 10 (by decide) (by decide), s1]
      exact b2
    · rw [s2 34 (by decide) (by decide), s3 33 (by decide)]
      exact b3
    · rw [s2 30 (by decide) (by decide)]
      exact b4
    · unfold mLt
      rw [s3 32 (by decide)]
      exact b5
    · rw [s2 25 (by decide) (by decide)]
      exact b6
/-- an act moved in the reference's journal -/
theorem rAc_mv (hS : mSo S' S) (hm : mAc S' S l a) (hT : T.2.2.2.2 y l = G.2.2.2.2 y a) (hAg : agr T G L) (hL : ¬ 5 ∈ L ∧ ¬ 6 ∈ L ∧ ¬ 7 ∈ L) (hw : gW G) (h : rAc G ρ S y a) : rAc T ρ S' y l := by
  obtain ⟨t, q1, q2, q3, q4, q5, q6⟩ := h
  obtain ⟨m1, m2⟩ := hm
  have s3 : ∀ q, (q ≠ 17 ∧ q ≠ 18 ∧ q ≠ 20 ∧ q ≠ 22) → S'.2.2.1 q = S.2.2.1 q := fun q z => funext fun t => hS.2.2.1 q t z.1 z.2.1 z.2.2.1 z.2.2.2
  obtain ⟨w1, _⟩ := hw.2.1 t q2
  have et := hAg t (by rw [q2]; exact hL.2.1)
  have et1 := hAg (t + 1) (by rw [w1]; exact hL.2.2)
  unfold rAc
  rw [m1]
  refine ⟨t, by rw [hT]; exact q1, by rw [et.1]; exact q2, by rw [et1.2.1]; exact q3, q4, q5, ?_⟩
  refine rPu_ev (s3 7 (by decide)) (s3 2 (by decide)) (s3 3 (by decide)) (rPu_agr hAg hL.1 (by rw [w1]; exact hL.2.2) ?_)
  intro k hk
  obtain ⟨n1, n2, n3, n4, n5⟩ := m2 k (by omega)
  dsimp only
  rw [n1, n2, n3, n4, n5]
  exact q6 k hk
theorem tn_nIs (h : p < 2147483648) : tn (nI p) = p := tn_nI h
/-- an act kept on both sides -/
theorem rA_kp (hA : rA g G c n b ρ S) (hd : S.1 24 = nI d) (h24 : d ≤ 24) (ht : G.1 t = 6) (ht1 : G.2.1 (t + 1) = p) (hp : p ≤ 64) (hP : rPu G ρ S (t + 1) p at' wk ik wv iv) (hS : mSo S' S) (hA' : A = if d = 24 then 23 else d) (e23 : S'.1 23 = nI (A + 1)) (e24 : S'.1 24 = nI (A + 1)) (hm : ∀ w, w < A → mAc S' S w (if d = 24 then w + 1 else w)) (h22 : S'.2.2.1 22 A = nI p) (hk : ∀ k, k < p → S'.2.2.1 17 (64 * A + k) = at' k ∧ S'.2.2.1 18 (64 * A + k) = wk k ∧ S'.2.2.2 19 (64 * A + k) = wv k ∧ S'.2.2.1 20 (64 * A + k) = ik k ∧ S'.2.2.2 21 (64 * A + k) = iv k) : rA g (jKp G (c + 7) d t) c n b ρ S' ∧ (jKp G (c + 7) d t).2.2.1 (c + 7) 1 = G.2.2.1 (c + 7) 1 ∧ (jKp G (c + 7) d t).1 = G.1 := by
  have a1 := hA.1
  have hw := a1.1
  obtain ⟨k0, k1, k2, k3, ⟨k4, _⟩, ⟨k5, _⟩, ⟨k6, _⟩, k7, ⟨k8, _⟩, ⟨k9, _⟩, k10, ⟨k11, _⟩, ⟨k12, _⟩, k13, ⟨k14, _⟩, ⟨k15, _⟩⟩ := a1.2.1
  have j1 : (jKp G (c + 7) d t).1 = G.1 := by unfold jKp; split <;> rfl
  have j2 : (jKp G (c + 7) d t).2.1 = G.2.1 := by unfold jKp; split <;> rfl
  have j4 : (jKp G (c + 7) d t).2.2.2.1 = G.2.2.2.1 := by unfold jKp; split <;> rfl
  have j3 : ∀ q e, (jKp G (c + 7) d t).2.2.1 q e = if q = c + 7 ∧ (e = 3 ∨ e = 4) then nI (A + 1) else G.2.2.1 q e := by
    intro q e
    rw [hA']
    unfold jKp
    by_cases z : d = 24
    · rw [if_pos z, if_pos z]
      show (if q = c + 7 ∧ e = 4 then (24 : Int32) else if q = c + 7 ∧ e = 3 then (24 : Int32) else if q = c + 7 ∧ e = 3 then (23 : Int32) else G.2.2.1 q e) = if q = c + 7 ∧ (e = 3 ∨ e = 4) then nI 24 else G.2.2.1 q e
      by_cases x1 : q = c + 7
      · by_cases x2 : e = 4
        · simp [x1, x2]; rfl
        · by_cases x3 : e = 3
          · simp [x1, x3]; rfl
          · simp [x1, x2, x3]
      · simp [x1]
    · rw [if_neg z, if_neg z]
      show (if q = c + 7 ∧ e = 4 then nI (d + 1) else if q = c + 7 ∧ e = 3 then nI (d + 1) else G.2.2.1 q e) = if q = c + 7 ∧ (e = 3 ∨ e = 4) then nI (d + 1) else G.2.2.1 q e
      by_cases x1 : q = c + 7
      · by_cases x2 : e = 4
        · simp [x1, x2]
        · by_cases x3 : e = 3
          · simp [x1, x3]
          · simp [x1, x2, x3]
      · simp [x1]
  have j5 : ∀ q e, (jKp G (c + 7) d t).2.2.2.2 q e = if q = c + 9 ∧ e = A then some t else if q = c + 9 ∧ d = 24 ∧ e < 23 then G.2.2.2.2 q (e + 1) else G.2.2.2.2 q e := by
    intro q e
    rw [hA']
    unfold jKp
    by_cases z : d = 24
    · rw [if_pos z, if_pos z]
      show (if q = c + 7 + 2 ∧ e = 23 then some t else if q = c + 7 + 2 ∧ e < 23 then G.2.2.2.2 (c + 7 + 2) (e + 1) else G.2.2.2.2 q e) = if q = c + 9 ∧ e = 23 then some t else if q = c + 9 ∧ d = 24 ∧ e < 23 then G.2.2.2.2 q (e + 1) else G.2.2.2.2 q e
      rw [show c + 7 + 2 = c + 9 by omega]
      by_cases x1 : q = c + 9
      · simp [x1, z]
      · simp [x1]
    · rw [if_neg z, if_neg z]
      show (if q = c + 7 + 2 ∧ e = d then some t else G.2.2.2.2 q e) = if q = c + 9 ∧ e = d then some t else if q = c + 9 ∧ d = 24 ∧ e < 23 then G.2.2.2.2 q (e + 1) else G.2.2.2.2 q e
      rw [show c + 7 + 2 = c + 9 by omega]
      simp [z]
  generalize jKp G (c + 7) d t = T at *
  have hAg : agr T G [20, 22] := by
    intro q hq
    refine ⟨by rw [j1], by rw [j2], ?_, by rw [j4], ?_⟩
    · funext e
      rw [j3, if_neg]
      rintro ⟨z, _⟩
      exact hq (by rw [z, k7]; decide)
    · funext e
      have : ¬ q = c + 9 := fun z => hq (by rw [z, k9]; decide)
      rw [j5, if_neg (fun z => this z.1), if_neg (fun z => this z.1)]
  have hA23 : A ≤ 23 := by
    rw [hA']
    split <;> omega
  refine ⟨rA_jn hA hAg j1 j2 hS ?_, by rw [j3, if_neg (by simp)], j1⟩
  obtain ⟨_, _, ⟨d', e', f1, f2, f3, f4⟩, b4, b5⟩ := hA.2.2.2.2.2.2.1
  have hde : d = d' := by
    have := hd.symm.trans f1
    have h1 := congrArg tn this
    rw [tn_nI (by omega), tn_nI (by omega)] at h1
    exact h1
  subst hde
  refine ⟨by rw [j3, if_pos ⟨rfl, Or.inl rfl⟩, e24], by rw [j3, if_pos ⟨rfl, Or.inr rfl⟩, e23], ⟨A + 1, A + 1, e24, e23, by omega, by omega⟩, ?_, ?_⟩
  · intro e z he hz
    rw [j1]
    rw [j5] at hz
    split at hz
    · injection hz with hz
      rw [← hz]
      exact ht
    · split at hz
      · exact b4 (e + 1) z (by omega) hz
      · exact b4 e z he hz
  · intro w hw'
    rw [e23, tn_nI (by omega)] at hw'
    by_cases x1 : w = A
    · subst x1
      obtain ⟨w1, _⟩ := hw.2.1 t ht
      unfold rAc
      rw [h22, tn_nI (by omega)]
      refine ⟨t, by rw [j5, if_pos ⟨rfl, rfl⟩], by rw [j1]; exact ht, by rw [j2]; exact ht1, by rw [nI_toInt (by omega)]; omega, hp, ?_⟩
      have s3 : ∀ q, (q ≠ 17 ∧ q ≠ 18 ∧ q ≠ 20 ∧ q ≠ 22) → S'.2.2.1 q = S.2.2.1 q := fun q z => funext fun t => hS.2.2.1 q t z.1 z.2.1 z.2.2.1 z.2.2.2
      refine rPu_ev (s3 7 (by decide)) (s3 2 (by decide)) (s3 3 (by decide)) (rPu_agr hAg (by decide) (by rw [w1]; decide) ?_)
      intro k hk'
      obtain ⟨n1, n2, n3, n4, n5⟩ := hk k hk'
      dsimp only
      rw [n1, n2, n3, n4, n5]
      exact hP k hk'
    · have hwA : w < A := by omega
      refine rAc_mv hS (hm w hwA) ?_ hAg ⟨by decide, by decide, by decide⟩ hw (b5 _ ?_)
      · rw [j5, if_neg (fun z => x1 z.2)]
        by_cases x2 : d = 24
        · rw [if_pos ⟨rfl, x2, by omega⟩, if_pos x2]
        · rw [if_neg (fun z => x2 z.2.1), if_neg x2]
      · rw [f2, tn_nI (by omega)]
        rw [hA'] at hwA
        by_cases x2 : d = 24
        · rw [if_pos x2] at hwA ⊢
          omega
        · rw [if_neg x2] at hwA ⊢
          omega
theorem mSh_ac : ∀ d y T, 1 ≤ y → ∀ w, mAc (mSh y d T) T w (if y - 1 ≤ w ∧ w < y - 1 + d then w + 1 else w) := by
  intro d
  induction d with
  | zero =>
    intro y T hy w
    rw [if_neg (by omega)]
    exact mAc_refl w
  | succ d ih =>
    intro y T hy w
    rw [mSh]
    have h1 := ih (y + 1) (mMv T y (y - 1) 64) (by omega) w
    by_cases c1 : w = y - 1
    · subst c1
      rw [if_neg (by omega)] at h1
      rw [if_pos (by omega)]
      have := mAc_trans h1 (mMv_to (S := T) (f := y) (t := y - 1))
      rw [show y - 1 + 1 = y by omega]
      exact this
    · by_cases c2 : y - 1 ≤ w ∧ w < y - 1 + (d + 1)
      · rw [if_pos (by omega)] at h1
        rw [if_pos c2]
        exact mAc_trans h1 (mMv_ne (by omega))
      · rw [if_neg (by omega)] at h1
        rw [if_neg c2]
        exact mAc_trans h1 (mMv_ne c1)
theorem mKs_sp (hT : mSo V S) (hp : p ≤ 64) : mSo (msI (msI (mKs (msA V 22 A (nI p)) p A p) 23 i) 24 i) (mT4 S (mTch (mAt S) (S.2.2.1 4) p)) ∧ (∀ w, w ≠ A → mAc (msI (msI (mKs (msA V 22 A (nI p)) p A p) 23 i) 24 i) V w w) ∧ (msI (msI (mKs (msA V 22 A (nI p)) p A p) 23 i) 24 i).2.2.1 22 A = nI p ∧ ∀ k, k < p → (msI (msI (mKs (msA V 22 A (nI p)) p A p) 23 i) 24 i).2.2.1 17 (64 * A + k) = S.2.2.1 13 k ∧ (msI (msI (mKs (msA V 22 A (nI p)) p A p) 23 i) 24 i).2.2.1 18 (64 * A + k) = S.2.2.1 14 k ∧ (msI (msI (mKs (msA V 22 A (nI p)) p A p) 23 i) 24 i).2.2.2 19 (64 * A + k) = S.2.2.2 15 k ∧ (msI (msI (mKs (msA V 22 A (nI p)) p A p) 23 i) 24 i).2.2.1 20 (64 * A + k) = sIk S p k ∧ (msI (msI (mKs (msA V 22 A (nI p)) p A p) 23 i) 24 i).2.2.2 21 (64 * A + k) = sIv S p k := by
  obtain ⟨s1, s2, s3', s4'⟩ := hT
  have s3 : ∀ q, (q ≠ 17 ∧ q ≠ 18 ∧ q ≠ 20 ∧ q ≠ 22) → (msA V 22 A (nI p)).2.2.1 q = S.2.2.1 q := fun q z => funext fun t => (if_neg (fun y => z.2.2.2 y.1)).trans (s3' q t z.1 z.2.1 z.2.2.1 z.2.2.2)
  have s4 : ∀ q, (q ≠ 19 ∧ q ≠ 21) → (msA V 22 A (nI p)).2.2.2 q = S.2.2.2 q := fun q z => funext fun t => s4' q t z.1 z.2
  have v1 : ∀ q t, q ≠ 22 → (msA V 22 A (nI p)).2.2.1 q t = V.2.2.1 q t := fun q t z => if_neg (fun y => z y.1)
  have v2 : ∀ t, t ≠ A → (msA V 22 A (nI p)).2.2.1 22 t = V.2.2.1 22 t := fun t z => if_neg (fun y => z y.2)
  have v3 : (msA V 22 A (nI p)).2.2.1 22 A = nI p := if_pos ⟨rfl, rfl⟩
  have v4 : (msA V 22 A (nI p)).2.2.2 = V.2.2.2 := rfl
  have v5 : (msA V 22 A (nI p)).1 = V.1 := rfl
  have v6 : (msA V 22 A (nI p)).2.1 = V.2.1 := rfl
  have q1 : mAt (msA V 22 A (nI p)) = mAt S := by funext k; unfold mAt; rw [s3 13 (by decide)]
  have q2 : sIk (msA V 22 A (nI p)) p = sIk S p := by
    funext k
    unfold sIk sNx
    rw [q1, s3 13 (by decide), s3 14 (by decide), s3 5 (by decide)]
  have q3 : sIv (msA V 22 A (nI p)) p = sIv S p := by
    funext k
    unfold sIv sNx
    rw [q1, s3 13 (by decide), s4 15 (by decide), s4 6 (by decide)]
  have p4 := s3 4 (by decide)
  have p13 := s3 13 (by decide)
  have p14 := s3 14 (by decide)
  have p15 := s4 15 (by decide)
  generalize msA V 22 A (nI p) = W at *
  have f1 : ∀ q t, (msI (msI (mKs W p A p) 23 i) 24 i).2.2.1 q t = if q = 4 then mTch (mAt W) (W.2.2.1 4) p t else if q = 17 ∧ 64 * A ≤ t ∧ t < 64 * A + p then W.2.2.1 13 (t - 64 * A) else if q = 18 ∧ 64 * A ≤ t ∧ t < 64 * A + p then W.2.2.1 14 (t - 64 * A) else if q = 20 ∧ 64 * A ≤ t ∧ t < 64 * A + p then sIk W p (t - 64 * A) else W.2.2.1 q t := fun _ _ => rfl
  have f2 : ∀ q t, (msI (msI (mKs W p A p) 23 i) 24 i).2.2.2 q t = if q = 19 ∧ 64 * A ≤ t ∧ t < 64 * A + p then W.2.2.2 15 (t - 64 * A) else if q = 21 ∧ 64 * A ≤ t ∧ t < 64 * A + p then sIv W p (t - 64 * A) else W.2.2.2 q t := fun _ _ => rfl
  refine ⟨⟨?_, ?_, ?_, ?_⟩, ?_, ?_, ?_⟩
  · exact v6.trans s1
  · intro q z1 z2
    show (if q = 24 then i else if q = 23 then i else W.1 q) = S.1 q
    rw [if_neg z2, if_neg z1, v5]
    exact s2 q z1 z2
  · intro q t z1 z2 z3 z4
    show (if q = 4 then mTch (mAt W) (W.2.2.1 4) p t else if q = 17 ∧ 64 * A ≤ t ∧ t < 64 * A + p then W.2.2.1 13 (t - 64 * A) else if q = 18 ∧ 64 * A ≤ t ∧ t < 64 * A + p then W.2.2.1 14 (t - 64 * A) else if q = 20 ∧ 64 * A ≤ t ∧ t < 64 * A + p then sIk W p (t - 64 * A) else W.2.2.1 q t) = if q = 4 then mTch (mAt S) (S.2.2.1 4) p t else S.2.2.1 q t
    rw [q1, p4]
    by_cases c4 : q = 4
    · rw [if_pos c4, if_pos c4]
    · rw [if_neg c4, if_neg c4, if_neg (by omega), if_neg (by omega), if_neg (by omega), s3 q ⟨z1, z2, z3, z4⟩]
  · intro q t z1 z2
    show (if q = 19 ∧ 64 * A ≤ t ∧ t < 64 * A + p then W.2.2.2 15 (t - 64 * A) else if q = 21 ∧ 64 * A ≤ t ∧ t < 64 * A + p then sIv W p (t - 64 * A) else W.2.2.2 q t) = S.2.2.2 q t
    rw [if_neg (by omega), if_neg (by omega), s4 q ⟨z1, z2⟩]
  · intro w hw
    refine ⟨?_, fun k hk => ⟨?_, ?_, ?_, ?_, ?_⟩⟩
    · rw [f1]
      rw [if_neg (by omega), if_neg (by omega), if_neg (by omega), if_neg (by omega)]
      exact v2 w hw
    · rw [f1]
      rw [if_neg (by omega), if_neg (by omega), if_neg (by omega), if_neg (by omega)]
      exact v1 _ _ (by omega)
    · rw [f1]
      rw [if_neg (by omega), if_neg (by omega), if_neg (by omega), if_neg (by omega)]
      exact v1 _ _ (by omega)
    · rw [f2]
      rw [if_neg (by omega), if_neg (by omega), v4]
    · rw [f1]
      rw [if_neg (by omega), if_neg (by omega), if_neg (by omega), if_neg (by omega)]
      exact v1 _ _ (by omega)
    · rw [f2]
      rw [if_neg (by omega), if_neg (by omega), v4]
  · rw [f1]
    rw [if_neg (by omega), if_neg (by omega), if_neg (by omega), if_neg (by omega)]
    exact v3
  · intro k hk
    have ek : 64 * A + k - 64 * A = k := by omega
    refine ⟨?_, ?_, ?_, ?_, ?_⟩
    · rw [f1]
      rw [if_neg (by omega), if_pos (by omega), ek, p13]
    · rw [f1]
      rw [if_neg (by omega), if_neg (by omega), if_pos (by omega), ek, p14]
    · rw [f2]
      rw [if_pos (by omega), ek, p15]
    · rw [f1]
      rw [if_neg (by omega), if_neg (by omega), if_neg (by omega), if_pos (by omega), ek, q2]
    · rw [f2]
      rw [if_neg (by omega), if_pos (by omega), ek, q3]
end K35
