/-! THE CLASS beside the reference, 6: a put keeps the relation -/
section K19
variable {g : xG} {n kc ks a b c s t w q l x y jn d r p n' : Nat} {G T U : GS} {h : xH} {i j k m v : Int32} {u z : Int64} {o : Option Nat} {S S' : MS} {ρ κ : Nat → Nat} {L L' : List Nat}
theorem agr_pSet (hn : G.1 n = 0) {f f' : Int32} {e e' : Int64} : agr (pSet (gnew G n 5 0) n o i f e f' e') G [0] := by
  intro q hq
  have hne : q ≠ n := fun z => hq (by rw [z, hn]; decide)
  refine ⟨if_neg hne, if_neg hne, ?_, ?_, ?_⟩
  · funext t
    simp only [pSet, gsJ3, gsI3, gsR3]
    rw [if_neg (fun z => hne z.1), if_neg (fun z => hne z.1), if_neg (fun z => hne z.1), gnew3, if_neg hne]
  · funext t
    simp only [pSet, gsJ4, gsI4, gsR4]
    rw [if_neg (fun z => hne z.1), if_neg (fun z => hne z.1), gnew4, if_neg hne]
  · funext t
    simp only [pSet, gsJ5, gsI5, gsR5]
    rw [if_neg (fun z => hne z.1), gnew5, if_neg hne]
theorem rA_put (hA : rA g G c n b ρ S) (hP : rPd G c ρ S p) (hp : p < 64) (hs : s < 10) (h0 : sPutBy S s i v k = 0) (hok : okb k u) : rA g (jPut G n (c + 7) p (ρ (mr S s)) i (sNk (S.2.2.1 2 (mr S s)) k) (sNv (S.2.2.1 2 (mr S s)) k u)) c (n + 1) b ρ (mPb S s i v k u) ∧ rPd (jPut G n (c + 7) p (ρ (mr S s)) i (sNk (S.2.2.1 2 (mr S s)) k) (sNv (S.2.2.1 2 (mr S s)) k u)) c ρ (mPb S s i v k u) (p + 1) := by
  obtain ⟨s1, s2, s3, s4, s5, s6⟩ := sPutBy_0 h0
  have hc0 := okc_put hA.2.2.2.2.2.2.2.2.1 hok h0
  have hrr10 := (mRow_eq s1).2
  have hr : rIn S (mr S s) := ⟨s, hs, s1, rfl⟩
  have hA' := hA
  obtain ⟨a1, a2, a3, a4, a5, a6, a7, a8, a9⟩ := hA'
  obtain ⟨z1, z2, z3⟩ := mIn_eq a9.1.1 hrr10 s2
  have hpm : tn i < mz S (mr S s) := by
    have := mz_eq a9.1.1 hrr10
    rw [this.1, nI_toInt (by omega)] at z3
    omega
  have hmp : mPb S s i v k u = mPut S p (sAt S s i) (sNk (S.2.2.1 2 (mr S s)) k) (sNv (S.2.2.1 2 (mr S s)) k u) := by
    unfold mPb
    rw [if_pos h0, hP.2.1, tn_nI (by omega)]
  have hat : sAt S s i = 32 * mr S s + tn i := rfl
  rw [hmp, hat]
  rw [hat] at hc0
  have hrow := bS_row a3 hr
  obtain ⟨o1, o2⟩ := hrow.2.2.2 (tn i) hpm
  generalize sNk (S.2.2.1 2 (mr S s)) k = nk at *
  generalize sNv (S.2.2.1 2 (mr S s)) k u = nv at *
  generalize mr S s = r at *
  obtain ⟨l1, l2, l3, l4, l5, l6, l7⟩ := a1
  obtain ⟨k0, k1, k2, k3, ⟨k4, k4'⟩, ⟨k5, k5'⟩, ⟨k6, k6'⟩, k7, ⟨k8, k8'⟩, ⟨k9, k9'⟩, k10, ⟨k11, k11'⟩, ⟨k12, k12'⟩, k13, ⟨k14, k14'⟩, ⟨k15, k15'⟩⟩ := l2
  have hn := l7 n (Nat.le_refl n)
  have ne : ∀ q, G.1 q ≠ 0 → q ≠ n := fun q hq e => hq (e ▸ hn)
  obtain ⟨w1, w2, w3, w4, w5, w6⟩ := l1.1 (ρ r) hrow.1
  -- the put made, pending and counted
  have p1 : ∀ q, (pSet (gnew G n 5 0) n (some (ρ r)) i (G.2.2.1 (ρ r + 1) (tn i)) (G.2.2.2.1 (ρ r + 2) (tn i)) nk nv).1 q = if q = n then 5 else G.1 q := fun q => rfl
  have p2 : ∀ q, (pSet (gnew G n 5 0) n (some (ρ r)) i (G.2.2.1 (ρ r + 1) (tn i)) (G.2.2.2.1 (ρ r + 2) (tn i)) nk nv).2.1 q = if q = n then 0 else G.2.1 q := fun q => rfl
  have pn0 : (pSet (gnew G n 5 0) n (some (ρ r)) i (G.2.2.1 (ρ r + 1) (tn i)) (G.2.2.2.1 (ρ r + 2) (tn i)) nk nv).2.2.2.2 n 0 = some (ρ r) := by
    simp [pSet, gsJ, gsI, gsR]
  have pn1 : (pSet (gnew G n 5 0) n (some (ρ r)) i (G.2.2.1 (ρ r + 1) (tn i)) (G.2.2.2.1 (ρ r + 2) (tn i)) nk nv).2.2.1 n 1 = i := by
    simp [pSet, gsJ, gsI, gsR]
  have pn2 : (pSet (gnew G n 5 0) n (some (ρ r)) i (G.2.2.1 (ρ r + 1) (tn i)) (G.2.2.2.1 (ρ r + 2) (tn i)) nk nv).2.2.1 n 2 = S.2.2.1 5 (32 * r + tn i) := by
    rw [← o1]
    simp [pSet, gsJ, gsI, gsR]
  have pn3 : (pSet (gnew G n 5 0) n (some (ρ r)) i (G.2.2.1 (ρ r + 1) (tn i)) (G.2.2.2.1 (ρ r + 2) (tn i)) nk nv).2.2.2.1 n 3 = S.2.2.2 6 (32 * r + tn i) := by
    rw [← o2]
    simp [pSet, gsJ, gsI, gsR]
  have pn4 : (pSet (gnew G n 5 0) n (some (ρ r)) i (G.2.2.1 (ρ r + 1) (tn i)) (G.2.2.2.1 (ρ r + 2) (tn i)) nk nv).2.2.1 n 4 = nk := by
    simp [pSet, gsJ, gsI, gsR]
  have pn5 : (pSet (gnew G n 5 0) n (some (ρ r)) i (G.2.2.1 (ρ r + 1) (tn i)) (G.2.2.2.1 (ρ r + 2) (tn i)) nk nv).2.2.2.1 n 5 = nv := by
    simp [pSet, gsJ, gsI, gsR]
  have hAg0 : agr (pSet (gnew G n 5 0) n (some (ρ r)) i (G.2.2.1 (ρ r + 1) (tn i)) (G.2.2.2.1 (ρ r + 2) (tn i)) nk nv) G [0] := agr_pSet hn
  have hwP : gW (pSet (gnew G n 5 0) n (some (ρ r)) i (G.2.2.1 (ρ r + 1) (tn i)) (G.2.2.2.1 (ρ r + 2) (tn i)) nk nv) := gW_c (gW_new l1 hn (r := 5) (l := 0) (by decide)) rfl rfl
  have hJ : jPut G n (c + 7) p (ρ r) i nk nv = rSet (gsI (gsR (pSet (gnew G n 5 0) n (some (ρ r)) i (G.2.2.1 (ρ r + 1) (tn i)) (G.2.2.2.1 (ρ r + 2) (tn i)) nk nv) (c + 8) p (some n)) (c + 7) 1 (nI (p + 1))) (ρ r) (tn i) nk nv := rfl
  rw [hJ]
  generalize pSet (gnew G n 5 0) n (some (ρ r)) i (G.2.2.1 (ρ r + 1) (tn i)) (G.2.2.2.1 (ρ r + 2) (tn i)) nk nv = P at *
  have nc := fun q (hq : G.1 q ≠ 0) => ne q hq
  have hAg : agr (gsI (gsR P (c + 8) p (some n)) (c + 7) 1 (nI (p + 1))) G [0, 20, 21] := by
    refine agr_trans (agr_mono hAg0 (by intro e he; simp at he; simp [he])) ?_
    refine agr_trans (agr_R ?_) (agr_I ?_)
    · rw [p1, if_neg (nc _ (by rw [k8]; decide)), k8]
      decide
    · show P.1 (c + 7) ∈ [0, 20, 21]
      rw [p1, if_neg (nc _ (by rw [k7]; decide)), k7]
      decide
  have hT : gL g (gsI (gsR P (c + 8) p (some n)) (c + 7) 1 (nI (p + 1))) c (n + 1) := by
    refine ⟨gW_c hwP rfl rfl, ?_, ⟨?_, l3.2⟩, by omega, by omega, ?_, ?_⟩
    · have e1 : ∀ q, G.1 q ≠ 0 → (gsI (gsR P (c + 8) p (some n)) (c + 7) 1 (nI (p + 1))).1 q = G.1 q := fun q hq => by
        show P.1 q = _
        rw [p1, if_neg (nc q hq)]
      have e2 : ∀ q, G.1 q ≠ 0 → (gsI (gsR P (c + 8) p (some n)) (c + 7) 1 (nI (p + 1))).2.1 q = G.2.1 q := fun q hq => by
        show P.2.1 q = _
        rw [p2, if_neg (nc q hq)]
      unfold gK
      rw [e1 c (by rw [k0]; decide), e1 (c + 1) (by rw [k1]; decide), e1 (c + 2) (by rw [k2]; decide), e1 (c + 3) (by rw [k3]; decide), e1 (c + 4) (by rw [k4]; decide), e1 (c + 5) (by rw [k5]; decide), e1 (c + 6) (by rw [k6]; decide), e1 (c + 7) (by rw [k7]; decide), e1 (c + 8) (by rw [k8]; decide), e1 (c + 9) (by rw [k9]; decide), e1 (c + 10) (by rw [k10]; decide), e1 (c + 11) (by rw [k11]; decide), e1 (c + 12) (by rw [k12]; decide), e1 (c + 13) (by rw [k13]; decide), e1 (c + 14) (by rw [k14]; decide), e1 (c + 15) (by rw [k15]; decide), e2 (c + 4) (by rw [k4]; decide), e2 (c + 5) (by rw [k5]; decide), e2 (c + 6) (by rw [k6]; decide), e2 (c + 8) (by rw [k8]; decide), e2 (c + 9) (by rw [k9]; decide), e2 (c + 11) (by rw [k11]; decide), e2 (c + 12) (by rw [k12]; decide), e2 (c + 14) (by rw [k14]; decide), e2 (c + 15) (by rw [k15]; decide)]
      exact ⟨k0, k1, k2, k3, ⟨k4, k4'⟩, ⟨k5, k5'⟩, ⟨k6, k6'⟩, k7, ⟨k8, k8'⟩, ⟨k9, k9'⟩, k10, ⟨k11, k11'⟩, ⟨k12, k12'⟩, k13, ⟨k14, k14'⟩, ⟨k15, k15'⟩⟩
    · show P.1 g.2.2.2.1 = 0
      rw [p1, if_neg (by omega)]
      exact l3.1
    · show P.1 g.1 = 0
      rw [p1, if_neg (by omega)]
      exact l6
    · intro q hq
      show P.1 q = 0
      rw [p1, if_neg (by omega)]
      exact l7 q (by omega)
  have i7 : ∀ e, e ≠ 1 → (gsI (gsR P (c + 8) p (some n)) (c + 7) 1 (nI (p + 1))).2.2.1 (c + 7) e = G.2.2.1 (c + 7) e := by
    intro e he
    rw [gsI3, if_neg (fun z => he z.2)]
    show P.2.2.1 (c + 7) e = _
    rw [(hAg0 (c + 7) (by rw [k7]; decide)).2.2.1]
  have i1 : (gsI (gsR P (c + 8) p (some n)) (c + 7) 1 (nI (p + 1))).2.2.1 (c + 1) = G.2.2.1 (c + 1) := (hAg (c + 1) (by rw [k1]; decide)).2.2.1
  have j1 : (gsI (gsR P (c + 8) p (some n)) (c + 7) 1 (nI (p + 1))).2.2.2.1 (c + 1) = G.2.2.2.1 (c + 1) := (hAg (c + 1) (by rw [k1]; decide)).2.2.2.1
  have hA4 := rA_agr hAg (by decide) (i7 3 (by decide)) (i7 4 (by decide)) (by rw [i1]) (by rw [j1]) hT hA
  have hA5 := rA_set hA4 hr hpm hc0
  refine ⟨rA_ev mPut_ev hA5, ?_, mPut_16, ?_⟩
  · -- how many are pending
    have hA2 : agr (rSet (gsI (gsR P (c + 8) p (some n)) (c + 7) 1 (nI (p + 1))) (ρ r) (tn i) nk nv) (gsI (gsR P (c + 8) p (some n)) (c + 7) 1 (nI (p + 1))) [2, 3] := agr_rS hT.1 (bS_row hA4.2.2.1 hr).1 (by decide) (by decide)
    rw [(hA2 (c + 7) (by rw [hT.2.1.2.2.2.2.2.2.2.1]; decide)).2.2.1, gsI3, if_pos ⟨rfl, rfl⟩]
  · -- which are pending
    have hA2 : agr (rSet (gsI (gsR P (c + 8) p (some n)) (c + 7) 1 (nI (p + 1))) (ρ r) (tn i) nk nv) (gsI (gsR P (c + 8) p (some n)) (c + 7) 1 (nI (p + 1))) [2, 3] := agr_rS hT.1 (bS_row hA4.2.2.1 hr).1 (by decide) (by decide)
    have k8T : (gsI (gsR P (c + 8) p (some n)) (c + 7) 1 (nI (p + 1))).1 (c + 8) = 21 := hT.2.1.2.2.2.2.2.2.2.2.1.1
    refine rPu_S (S := S) (fun t => mPut_A (by decide) (by decide) (by decide) t) (fun t => mPut_A (by decide) (by decide) (by decide) t) (fun t => mPut_A (by decide) (by decide) (by decide) t) (rPu_agr hA2 (by decide) (by rw [k8T]; decide) ?_)
    intro e he
    by_cases ep : e = p
    · subst ep
      have t1 : tn ((mPut S e (32 * r + tn i) nk nv).2.2.1 13 e) = 32 * r + tn i := by
        rw [mPut_13, if_pos rfl]
        exact tn_nI (by omega)
      have t2 : (32 * r + tn i) / 32 = r := by omega
      have t3 : (32 * r + tn i) % 32 = tn i := by omega
      have hx : sNx (mPut S e (32 * r + tn i) nk nv) (e + 1) e = e + 1 := by
        unfold sNx
        rw [show e + 1 - (e + 1) = 0 by omega]
        rfl
      have ha : mAt (mPut S e (32 * r + tn i) nk nv) e = 32 * r + tn i := t1
      have hk : sIk (mPut S e (32 * r + tn i) nk nv) (e + 1) e = nk := by
        unfold sIk
        rw [hx, if_neg (by omega), ha, mPut_5, if_pos rfl]
      have hv : sIv (mPut S e (32 * r + tn i) nk nv) (e + 1) e = nv := by
        unfold sIv
        rw [hx, if_neg (by omega), ha, mPut_6, if_pos rfl]
      rw [t1, t2, t3, hk, hv, mPut_14, if_pos rfl, mPut_15, if_pos rfl]
      have nn7 : ∀ f, (gsI (gsR P (c + 8) e (some n)) (c + 7) 1 (nI (e + 1))).2.2.1 n f = P.2.2.1 n f := by
        intro f
        rw [gsI3, if_neg (fun z => nc (c + 7) (by rw [k7]; decide) z.1.symm)]
        rfl
      refine ⟨n, ?_, ?_, ?_, hr, ?_, hpm, ?_, pn3, ?_, pn5, ?_, okc_self a9.1 (by omega), hc0⟩
      · show (if c + 8 = c + 8 ∧ e = e then some n else _) = _
        rw [if_pos ⟨rfl, rfl⟩]
      · show P.1 n = 5
        rw [p1, if_pos rfl]
      · show (if n = c + 8 ∧ 0 = e then some n else P.2.2.2.2 n 0) = _
        rw [if_neg (fun z => nc (c + 8) (by rw [k8]; decide) z.1.symm)]
        exact pn0
      · rw [nn7, pn1]
        exact z1
      · rw [nn7, pn2]
      · rw [nn7, pn4]
      · rw [mPut_13, if_pos rfl, nI_toInt (by omega)]
        omega
    · have he' : e < p := by omega
      obtain ⟨x, q1, q2, q3, q4, q5, q6, q7, q8, q9, q10, q11, q12, q13⟩ := hP.2.2 e he'
      have xn := nc x (by rw [q2]; decide)
      obtain ⟨y1, y2⟩ := sI_put (k := nk) (y := nv) (q := 32 * r + tn i) (by omega) he' q11 (sNx_le he')
      have ex := hAg x (by rw [q2]; decide)
      rw [y1, y2, mPut_13, if_neg ep, mPut_14, if_neg ep, mPut_15, if_neg ep]
      refine ⟨x, ?_, by rw [ex.1]; exact q2, by rw [ex.2.2.2.2]; exact q3, q4, by rw [ex.2.2.1]; exact q5, q6, by rw [ex.2.2.1]; exact q7, by rw [ex.2.2.2.1]; exact q8, by rw [ex.2.2.1]; exact q9, by rw [ex.2.2.2.1]; exact q10, q11, q12, q13⟩
      show (if c + 8 = c + 8 ∧ e = p then some n else P.2.2.2.2 (c + 8) e) = some x
      rw [if_neg (fun z => ep z.2), (hAg0 (c + 8) (by rw [k8]; decide)).2.2.2.2]
      exact q1
end K19
