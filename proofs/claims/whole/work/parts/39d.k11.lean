/-! THE CLASS's methods, 11: the journal -/
section K11
variable {g : xG} {n kc ks a b c s t w q l x y jn d : Nat} {G T : GS} {h : xH} {i j k m p : Int32} {u v : Int64} {o : Option Nat}
/-- a put, pending -/
def jPut (G : GS) (n jn p a : Nat) (i k : Int32) (v : Int64) : GS := rSet (gsI (gsR (pSet (gnew G n 5 0) n (some a) i (G.2.2.1 (a + 1) (tn i)) (G.2.2.2.1 (a + 2) (tn i)) k v) (jn + 1) p (some n)) jn 1 (nI (p + 1))) a (tn i) k v
theorem c29 {p : Nat} (hw : gW G) (hn : G.1 n = 0) (hj : G.1 jn = 20) (h1j : G.1 (jn + 1) = 21) (hN : G.2.1 (jn + 1) = 64) (hp : p < 64) (he : G.2.2.1 jn 1 = nI p) (ha : G.1 a = 1) (hi : xin i (G.2.1 (a + 2)) = true) : X g 29 0 [.val (va_rf (some jn)), .val (va_rf (some a)), .val (.int i), .val (.int k), .val (.long v), .second] [] (gH n kc ks G) = some (none, gH (n + 1) (kc + 1) (ks + 6) (jPut G n jn p a i k v)) := by
  obtain ⟨w1, w2, w3, w4, w5, w6⟩ := hw.1 a ha
  have ne : ∀ q, G.1 q ≠ 0 → q ≠ n := fun q hq e => hq (e ▸ hn)
  have nj := ne jn (by omega)
  have nj1 := ne (jn + 1) (by omega)
  have na := ne a (by omega)
  have na1 := ne (a + 1) (by omega)
  have na2 := ne (a + 2) (by omega)
  have hwn : gW (gnew G n 5 0) := gW_new hw hn (by decide)
  have ra : (gnew G n 5 0).1 a = 1 := by rw [gnew1, if_neg na]; exact ha
  have rj : (gnew G n 5 0).1 jn = 20 := by rw [gnew1, if_neg nj]; exact hj
  have rj1 : (gnew G n 5 0).1 (jn + 1) = 21 := by rw [gnew1, if_neg nj1]; exact h1j
  have rn : (gnew G n 5 0).1 n = 5 := if_pos rfl
  have rN : (gnew G n 5 0).2.1 (a + 2) = G.2.1 (a + 2) := by rw [gnew2, if_neg na2]
  have rNj : (gnew G n 5 0).2.1 (jn + 1) = 64 := by rw [gnew2, if_neg nj1]; exact hN
  have rI : (gnew G n 5 0).2.2.1 (a + 1) (tn i) = G.2.2.1 (a + 1) (tn i) := by rw [gnew3, if_neg na1]
  have rJ : (gnew G n 5 0).2.2.2.1 (a + 2) (tn i) = G.2.2.2.1 (a + 2) (tn i) := by rw [gnew4, if_neg na2]
  have rIj : (gnew G n 5 0).2.2.1 jn 1 = nI p := by rw [gnew3, if_neg nj]; exact he
  have k1 := c67 (g := g) (n := n + 1) (kc := kc + 1) (ks := ks + 6) (i := i) hwn ra
  have k2 := c68 (g := g) (n := n + 1) (kc := kc + 1) (ks := ks + 6) (i := i) hwn ra
  rw [rN, if_pos hi] at k1 k2
  rw [rI] at k1
  rw [rJ] at k2
  have k3 := c61 (g := g) (n := n + 1) (kc := kc + 1) (ks := ks + 6) (G := gnew G n 5 0) (x := n) (o := some a) (p := i) (k := G.2.2.1 (a + 1) (tn i)) (u := G.2.2.2.1 (a + 2) (tn i)) (m := k) (v := v) rn
  have pI : (pSet (gnew G n 5 0) n (some a) i (G.2.2.1 (a + 1) (tn i)) (G.2.2.2.1 (a + 2) (tn i)) k v).2.2.1 jn 1 = nI p := by
    rw [← rIj]
    simp only [pSet, gsJ3, gsI3, gsR3]
    rw [if_neg (fun z => nj z.1), if_neg (fun z => nj z.1), if_neg (fun z => nj z.1)]
  have p1 : (pSet (gnew G n 5 0) n (some a) i (G.2.2.1 (a + 1) (tn i)) (G.2.2.2.1 (a + 2) (tn i)) k v).1 = (gnew G n 5 0).1 := rfl
  have p2 : (pSet (gnew G n 5 0) n (some a) i (G.2.2.1 (a + 1) (tn i)) (G.2.2.2.1 (a + 2) (tn i)) k v).2.1 = (gnew G n 5 0).2.1 := rfl
  have hP : jPut G n jn p a i k v = rSet (gsI (gsR (pSet (gnew G n 5 0) n (some a) i (G.2.2.1 (a + 1) (tn i)) (G.2.2.2.1 (a + 2) (tn i)) k v) (jn + 1) p (some n)) jn 1 (nI (p + 1))) a (tn i) k v := rfl
  rw [hP]
  generalize pSet (gnew G n 5 0) n (some a) i (G.2.2.1 (a + 1) (tn i)) (G.2.2.2.1 (a + 2) (tn i)) k v = P at *
  have q1 : P.1 jn = 20 := by rw [p1]; exact rj
  have q2 : P.1 (jn + 1) = 21 := by rw [p1]; exact rj1
  have q3 : P.2.1 (jn + 1) = 64 := by rw [p2]; exact rNj
  have hu : ∀ z, (some n : Option Nat) = some z → xcl (gH (n + 1) (kc + 1) (ks + 6) P) z = some 6 := fun z hz => by
    cases hz
    exact gc_5 (by rw [p1]; exact rn)
  have q4 : (gsR P (jn + 1) p (some n)).1 jn = 20 := q1
  have q5 : (gsR P (jn + 1) p (some n)).2.2.1 jn 1 = nI p := pI
  have q6 : gW (gsI (gsR P (jn + 1) p (some n)) jn 1 (nI (p + 1))) := gW_c hwn p1 p2
  have q7 : (gsI (gsR P (jn + 1) p (some n)) jn 1 (nI (p + 1))).1 a = 1 := by
    show P.1 a = 1
    rw [p1]
    exact ra
  have k4 := c69 (g := g) (n := n + 1) (kc := kc + 1) (ks := ks + 6) (i := i) (k := k) (v := v) q6 q7
  have q8 : (gsI (gsR P (jn + 1) p (some n)) jn 1 (nI (p + 1))).2.1 (a + 2) = G.2.1 (a + 2) := by
    show P.2.1 (a + 2) = _
    rw [p2, rN]
  rw [q8, if_pos hi] at k4
  have h1 : ¬ nI p < 0 := nI_pos (by omega)
  have h2 : nI p < nI 64 := by
    have := nI_ge (a := p) (b := 64) hp (by decide)
    exact Int32.not_le.mp this
  have hne : ¬ (some a : Option Nat) = none := by simp
  simp only [x29_0, x29_1, x29_4, x29_5, x29_8, x29_11, x29_12, x29_15, x29_16, x29_19, x29_20, x29_23, x29_24, x29_25, x29_28, x29_29, x29_32, x29_35, x29_36, x29_37, x29_38, x29_39, x29_40, x29_43, x29_44, x29_45, x29_48, x29_49, x29_51, x29_54, x29_55, x29_56, x29_57, x29_60, x29_61, x29_62, x29_65, x29_66, x29_67, x29_68, x29_70, x29_73, hne, gf_20_1 hj, gf_20_0 hj, gN_21 h1j, hN, he, h1, h2, gn_5', gH1, gc_1 ra, k1, k2, k3, gs_21 q2 hu, q3, xin_nI hp (by decide), nI_clamp (lt31 hp (by decide)), gf_20_1 q4, gp_20_1 q4, q5, nI_1, gc_1 q7, k4, Option.bind_some, Option.toList_some, Option.toList_none, List.cons_append, List.nil_append, Option.isSome_some, if_true, eq_self, or_true, true_or, xb_01, mcl_cl, not_true_eq_false, not_false_eq_true, if_false]
/-- an act of the pending puts, while it is made -/
def aCp (G : GS) (n y c k : Nat) : GS := ((gnew (gnew G n 30 0) (n + 1) 7 c).1, (gnew (gnew G n 30 0) (n + 1) 7 c).2.1, (gnew (gnew G n 30 0) (n + 1) 7 c).2.2.1, (gnew (gnew G n 30 0) (n + 1) 7 c).2.2.2.1, fun b q => if b = n + 1 ∧ q < k then G.2.2.2.2 y q else (gsR (gnew (gnew G n 30 0) (n + 1) 7 c) n 0 (some (n + 1))).2.2.2.2 b q)
theorem aCp_0 : aCp G n y c 0 = gsR (gnew (gnew G n 30 0) (n + 1) 7 c) n 0 (some (n + 1)) := by
  refine Prod.ext rfl (Prod.ext rfl (Prod.ext rfl (Prod.ext rfl ?_)))
  funext b q
  show (if b = n + 1 ∧ q < 0 then _ else _) = _
  rw [if_neg (by omega)]
theorem aCp_s {k : Nat} : gsR (aCp G n y c k) (n + 1) k (G.2.2.2.2 y k) = aCp G n y c (k + 1) := by
  refine Prod.ext rfl (Prod.ext rfl (Prod.ext rfl (Prod.ext rfl ?_)))
  funext b q
  show (if b = n + 1 ∧ q = k then _ else if b = n + 1 ∧ q < k then _ else _) = (if b = n + 1 ∧ q < k + 1 then _ else _)
  by_cases e : b = n + 1
  · by_cases e2 : q = k
    · rw [if_pos ⟨e, e2⟩, if_pos ⟨e, by omega⟩, e2]
    · rw [if_neg (fun z => e2 z.2)]
      by_cases e3 : q < k
      · rw [if_pos ⟨e, e3⟩, if_pos ⟨e, by omega⟩]
      · rw [if_neg (fun z => e3 z.2), if_neg (fun z => by omega)]
  · rw [if_neg (fun z => e z.1), if_neg (fun z => e z.1), if_neg (fun z => e z.1)]
theorem aCp_1 {k : Nat} : (aCp G n y c k).1 q = if q = n + 1 then 7 else if q = n then 30 else G.1 q := rfl
theorem aCp_2 {k : Nat} : (aCp G n y c k).2.1 q = if q = n + 1 then c else if q = n then 0 else G.2.1 q := rfl
theorem l0 (hn : G.1 n = 0) (hn1 : G.1 (n + 1) = 0) (hy : G.1 y = 21) (hN : G.2.1 y = 64) (hp : puOk G y c) (hc : c ≤ 64) {N : Nat} {s2 : Int32} : ∀ d e, e + d = c → X g 0 34 [.val (va_rf (some n)), .val (va_rf (some y)), .val (.int s2), .val (.int (nI c)), .val (.int (nI e))] [] (gH N kc ks (aCp G n y c e)) = some (none, gH N kc ks (aCp G n y c c)) := by
  have ne : ∀ q, G.1 q ≠ 0 → q ≠ n ∧ q ≠ n + 1 := fun q hq => ⟨fun e => hq (e ▸ hn), fun e => hq (e ▸ hn1)⟩
  intro d
  induction d with
  | zero =>
    intro e he
    have e1 : e = c := by omega
    subst e1
    have h1 : nI e ≤ nI e := nI_le (by omega) (by omega)
    simp only [x0_34, x0_36, x0_37, x0_40, x0_41, x0_44, x0_46, x0_47, x0_49, x0_50, x0_57, h1, Option.bind_some, Option.toList_some, Option.toList_none, List.cons_append, List.nil_append, Option.isSome_some, if_true, eq_self, or_true, true_or, xb_01, mcl_cl, not_true_eq_false, not_false_eq_true, if_false]
  | succ d ih =>
    intro e he
    have h1 : ¬ nI c ≤ nI e := nI_ge (by omega) (by omega)
    have h0 : e < c := by omega
    have h64 : e < 64 := by omega
    obtain ⟨p1, p2, p3, p4, p5⟩ := puOk_e hp h0
    have yn := ne y (by omega)
    have xn := ne (puX G y e) (by omega)
    have r1 : (aCp G n y c e).1 n = 30 := by rw [aCp_1, if_neg (by omega), if_pos rfl]
    have r2 : (aCp G n y c e).1 (n + 1) = 7 := by rw [aCp_1, if_pos rfl]
    have r3 : (aCp G n y c e).1 y = 21 := by rw [aCp_1, if_neg yn.2, if_neg yn.1]; exact hy
    have r4 : (aCp G n y c e).1 (puX G y e) = 5 := by rw [aCp_1, if_neg xn.2, if_neg xn.1]; exact p2
    have r5 : (aCp G n y c e).2.1 y = 64 := by rw [aCp_2, if_neg yn.2, if_neg yn.1]; exact hN
    have r6 : (aCp G n y c e).2.1 (n + 1) = c := by rw [aCp_2, if_pos rfl]
    have r7 : (aCp G n y c e).2.2.2.2 n 0 = some (n + 1) := by
      show (if n = n + 1 ∧ 0 < e then _ else if n = n ∧ 0 = 0 then _ else _) = _
      rw [if_neg (by omega), if_pos ⟨rfl, rfl⟩]
    have r8 : (aCp G n y c e).2.2.2.2 y e = some (puX G y e) := by
      show (if y = n + 1 ∧ e < e then _ else if y = n ∧ e = 0 then _ else if y = n + 1 then none else if y = n then none else G.2.2.2.2 y e) = _
      rw [if_neg (by omega), if_neg (fun z => yn.1 z.1), if_neg yn.2, if_neg yn.1, p1]
    have hu : ∀ z, (some (puX G y e) : Option Nat) = some z → xcl (gH N kc ks (aCp G n y c e)) z = some 6 := fun z hz => by
      cases hz
      exact gc_5 r4
    have h3 := ih (e + 1) (by omega)
    rw [← aCp_s, p1] at h3
    simp only [x0_34, x0_36, x0_37, x0_40, x0_41, x0_44, x0_46, x0_47, x0_49, x0_50, h1, gf_30_0 r1, r7, gl_21 r3, r5, r8, xin_nI h64 (by decide), nI_clamp (lt31 h64 (by decide)), gs_7 r2 hu, r6, xin_nI h0 (by omega), Option.bind_some, Option.toList_some, Option.toList_none, List.cons_append, List.nil_append, Option.isSome_some, if_true, eq_self, or_true, true_or, xb_01, mcl_cl, not_true_eq_false, not_false_eq_true, if_false]
    simp only [x0_51, x0_54, nI_1]
    exact h3
/-- an act of the pending puts -/
def aMk (G : GS) (n y c : Nat) : GS := grol (aCp G n y c c) n 6
theorem aMk_eq {N : Nat} : gH N kc ks (aCp G n y c c) = gH N kc ks (aMk G n y c) := by
  refine gr_gen ?_
  have r1 : (aCp G n y c c).1 n = 30 := by rw [aCp_1, if_neg (by omega), if_pos rfl]
  have r7 : (aCp G n y c c).2.2.2.2 n 0 = some (n + 1) := by
    show (if n = n + 1 ∧ 0 < c then _ else if n = n ∧ 0 = 0 then _ else _) = _
    rw [if_neg (by omega), if_pos ⟨rfl, rfl⟩]
  have r2 : (grol (aCp G n y c c) n 6).1 n = 6 := if_pos rfl
  unfold gcl gfs
  rw [r1, r2]
  show some (Sum.inr (0, (List.range 1).map _)) = some (Sum.inr (0, (List.range 1).map _))
  simp [List.range_succ, gval, fd, r7]
theorem gn_30' : xnew (gH n kc ks G) (.inr (0, [va_rf none])) 1 = gH (n + 1) (kc + 1) (ks + 1) (gnew G n 30 0) := gn_30
theorem c0 (hn : G.1 n = 0) (hn1 : G.1 (n + 1) = 0) (hy : G.1 y = 21) (hN : G.2.1 y = 64) (hp : puOk G y c) (hc : c ≤ 64) : X g 0 0 [.val (va_rf (some n)), .val (va_rf (some y)), .val (.int (nI c)), .unset, .unset] [] (gH (n + 1) kc ks (gnew G n 30 0)) = some (none, gH (n + 2) (kc + 1) (ks + c) (aMk G n y c)) := by
  have yn : y ≠ n ∧ y ≠ n + 1 := ⟨fun e => by rw [e, hn] at hy; exact absurd hy (by decide), fun e => by rw [e, hn1] at hy; exact absurd hy (by decide)⟩
  have r1 : (gnew G n 30 0).1 n = 30 := if_pos rfl
  have r3 : (gnew G n 30 0).1 y = 21 := by rw [gnew1, if_neg yn.1]; exact hy
  have r5 : (gnew G n 30 0).2.1 y = 64 := by rw [gnew2, if_neg yn.1]; exact hN
  have h2 : (if nI 64 < nI c then nI 64 else nI c) = nI c := by
    rw [if_neg]
    exact Int32.not_lt.mpr (nI_le (by omega) (by omega))
  have h3 : (if (0 : Int32) < nI c then nI c else 0) = nI c := by
    by_cases e : c = 0
    · subst e
      rfl
    · have hz : (0 : Int32) < nI c := Int32.not_le.mp (nI_ge (a := 0) (b := c) (by omega) (by omega))
      rw [if_pos hz]
  have h4 : ¬ nI c < 0 := nI_pos (by omega)
  have h5 : (nI c).toNatClampNeg = c := nI_clamp (by omega)
  have h6 : ¬ 65536 < (nI c).toNatClampNeg := by rw [h5]; omega
  have hne : ¬ (some y : Option Nat) = none := by simp
  have r9 : (gnew (gnew G n 30 0) (n + 1) 7 c).1 n = 30 := by rw [gnew1, if_neg (by omega)]; exact r1
  have h7 := l0 (g := g) (kc := kc + 1) (ks := ks + c) (N := n + 2) (s2 := nI c) hn hn1 hy hN hp hc c 0 (by omega)
  rw [aCp_0, aMk_eq] at h7
  have h7' : X g 0 34 [.val (va_rf (some n)), .val (va_rf (some y)), .val (.int (nI c)), .val (.int (nI c)), .val (.int 0)] [] (gH (n + 1 + 1) (kc + 1) (ks + c) (gsR (gnew (gnew G n 30 0) (n + 1) 7 c) n 0 (some (n + 1)))) = some (none, gH (n + 2) (kc + 1) (ks + c) (aMk G n y c)) := h7
  simp only [x0_0, x0_1, x0_4, x0_5, x0_8, x0_9, x0_12, x0_13, x0_14, x0_15, x0_16, x0_19, x0_22, x0_23, x0_24, x0_25, x0_28, x0_31, x0_32, hne, gN_21 r3, r5, h2, h3, x0_25 h4 h6, h5, gn_7, gH1, gf_30_0 r9, gp_30_0 r9, h7', Option.bind_some, Option.toList_some, Option.toList_none, List.cons_append, List.nil_append, Option.isSome_some, if_true, eq_self, or_true, true_or, xb_01, mcl_cl, not_true_eq_false, not_false_eq_true, if_false]
end K11
