/-! THE CLASS beside the reference, 40: both made -/
section K59
variable {g : xG} {n kc ks a b c s w q l x y d r p n' e m N : Nat} {G T T' U G1 G2 : GS} {h : xH} {i j k v i1 i2 : Int32} {u z : Int64} {S S1 S' : MS} {ρ κ κ' : Nat → Nat} {L : List Nat} {o : Option Nat}
/-- the root and its first things -/
def rtA (T G : GS) (c : Nat) : Prop := (∀ q, ¬ (c ≤ q ∧ q < c + 7) → eqA T G q) ∧ (T.1 c = 40 ∧ T.1 (c + 1) = 16 ∧ T.1 (c + 2) = 16 ∧ T.1 (c + 3) = 16 ∧ (T.1 (c + 4) = 17 ∧ T.2.1 (c + 4) = 32) ∧ (T.1 (c + 5) = 18 ∧ T.2.1 (c + 5) = 32) ∧ T.1 (c + 6) = 19 ∧ T.2.1 (c + 6) = 3) ∧ (T.2.2.1 (c + 1) 0 = 8 ∧ T.2.2.2.1 (c + 1) 1 = 0 ∧ (∀ e, T.2.2.1 (c + 6) e = 0) ∧ ∀ e, T.2.2.1 c e = 0) ∧ (T.2.2.2.2 c 0 = some (c + 1) ∧ T.2.2.2.2 c 1 = some (c + 2) ∧ T.2.2.2.2 c 2 = some (c + 3) ∧ T.2.2.2.2 c 3 = some (c + 4) ∧ T.2.2.2.2 c 4 = some (c + 5) ∧ T.2.2.2.2 c 5 = some (c + 6))
theorem c91a : ∃ T, X g 91 0 [.val (va_rf (some c))] [] (gH (c + 1) kc ks (gnew G c 40 0)) = X g 91 60 [.val (va_rf (some c))] [] (gH (c + 7) (kc + 6) (ks + 73) T) ∧ rtA T G c := by
  have q0 : (bxS (gnew (gnew G c 40 0) (c + 1) 16 0) (c + 1) 8 0).1 c = 40 := by
    show (if c = c + 1 then 16 else if c = c then 40 else G.1 c) = 40
    rw [if_neg (by omega), if_pos rfl]
  have q1 : (bxS (gnew (gsR (bxS (gnew (gnew G c 40 0) (c + 1) 16 0) (c + 1) 8 0) c 0 (some (c + 1))) (c + 2) 16 0) (c + 2) 8 0).1 c = 40 := by
    show (if c = c + 2 then _ else _) = 40
    rw [if_neg (by omega)]
    exact q0
  have q2 : (bxS (gnew (gsR (bxS (gnew (gsR (bxS (gnew (gnew G c 40 0) (c + 1) 16 0) (c + 1) 8 0) c 0 (some (c + 1))) (c + 2) 16 0) (c + 2) 8 0) c 1 (some (c + 2))) (c + 3) 16 0) (c + 3) 8 0).1 c = 40 := by
    show (if c = c + 3 then _ else _) = 40
    rw [if_neg (by omega)]
    exact q1
  have q3 : (gnew (gsR (bxS (gnew (gsR (bxS (gnew (gsR (bxS (gnew (gnew G c 40 0) (c + 1) 16 0) (c + 1) 8 0) c 0 (some (c + 1))) (c + 2) 16 0) (c + 2) 8 0) c 1 (some (c + 2))) (c + 3) 16 0) (c + 3) 8 0) c 2 (some (c + 3))) (c + 4) 17 32).1 c = 40 := by
    show (if c = c + 4 then _ else _) = 40
    rw [if_neg (by omega)]
    exact q2
  have q4 : (gnew (gsR (gnew (gsR (bxS (gnew (gsR (bxS (gnew (gsR (bxS (gnew (gnew G c 40 0) (c + 1) 16 0) (c + 1) 8 0) c 0 (some (c + 1))) (c + 2) 16 0) (c + 2) 8 0) c 1 (some (c + 2))) (c + 3) 16 0) (c + 3) 8 0) c 2 (some (c + 3))) (c + 4) 17 32) c 3 (some (c + 4))) (c + 5) 18 32).1 c = 40 := by
    show (if c = c + 5 then _ else _) = 40
    rw [if_neg (by omega)]
    exact q3
  have q5 : (gnew (gsR (gnew (gsR (gnew (gsR (bxS (gnew (gsR (bxS (gnew (gsR (bxS (gnew (gnew G c 40 0) (c + 1) 16 0) (c + 1) 8 0) c 0 (some (c + 1))) (c + 2) 16 0) (c + 2) 8 0) c 1 (some (c + 2))) (c + 3) 16 0) (c + 3) 8 0) c 2 (some (c + 3))) (c + 4) 17 32) c 3 (some (c + 4))) (c + 5) 18 32) c 4 (some (c + 5))) (c + 6) 19 3).1 c = 40 := by
    show (if c = c + 6 then _ else _) = 40
    rw [if_neg (by omega)]
    exact q4
  have p32 : ¬ (32 : Int32) < 0 := by decide
  have c32' : (32 : Int32).toNatClampNeg = 32 := by decide
  have m32 : ¬ 65536 < (32 : Int32).toNatClampNeg := by decide
  have p3 : ¬ (3 : Int32) < 0 := by decide
  have c3' : (3 : Int32).toNatClampNeg = 3 := by decide
  have m3 : ¬ 65536 < (3 : Int32).toNatClampNeg := by decide
  have hg1 : ∀ kc ks (G : GS), xnew (gH (c + 1 + 1 + 1 + 1 + 1) kc ks G) (.inl (0, 32, fun _ => .int 0)) 32 = gH (c + 1 + 1 + 1 + 1 + 1 + 1) (kc + 1) (ks + 32) (gnew G (c + 5) 18 32) := fun kc ks G => gn_18
  have hg2 : ∀ kc ks (G : GS), xnew (gH (c + 1 + 1 + 1 + 1 + 1 + 1) kc ks G) (.inl (0, 3, fun _ => .int 0)) 3 = gH (c + 1 + 1 + 1 + 1 + 1 + 1 + 1) (kc + 1) (ks + 3) (gnew G (c + 6) 19 3) := fun kc ks G => gn_19
  have hX : X g 91 0 [.val (va_rf (some c))] [] (gH (c + 1) kc ks (gnew G c 40 0)) = X g 91 60 [.val (va_rf (some c))] [] (gH (c + 7) (kc + 6) (ks + 73) (gsR (gnew (gsR (gnew (gsR (gnew (gsR (bxS (gnew (gsR (bxS (gnew (gsR (bxS (gnew (gnew G c 40 0) (c + 1) 16 0) (c + 1) 8 0) c 0 (some (c + 1))) (c + 2) 16 0) (c + 2) 8 0) c 1 (some (c + 2))) (c + 3) 16 0) (c + 3) 8 0) c 2 (some (c + 3))) (c + 4) 17 32) c 3 (some (c + 4))) (c + 5) 18 32) c 4 (some (c + 5))) (c + 6) 19 3) c 5 (some (c + 6)))) := by
    simp only [x91_0, x91_1, x91_4, x91_5, x91_8, x91_9, x91_12, x91_15, x91_16, x91_19, x91_20, x91_23, x91_26, x91_27, x91_30, x91_31, x91_34, x91_37, x91_38, x91_40, x91_42, x91_45, x91_46, x91_48, x91_50, x91_53, x91_54, x91_55, x91_57, gn_16', gH1, c26, gf_40_0 q0, gp_40_0 q0, gf_40_1 q1, gp_40_1 q1, gf_40_2 q2, gp_40_2 q2, x91_40 p32 m32, x91_48 p32 m32, x91_55 p3 m3, c32', c3', gn_17, gf_40_3 q3, gp_40_3 q3, hg1, gf_40_4 q4, gp_40_4 q4, hg2, gf_40_5 q5, gp_40_5 q5, Option.isSome_some, if_true, Option.bind_some, Option.toList_some, Option.toList_none, List.cons_append, List.nil_append, Option.isSome_some, if_true, eq_self, or_true, true_or, xb_01, mcl_cl, not_true_eq_false, not_false_eq_true, if_false]
  refine ⟨_, hX, fun q hq => ?_, ⟨?_, ?_, ?_, ?_, ⟨?_, ?_⟩, ⟨?_, ?_⟩, ?_, ?_⟩, ⟨?_, ?_, fun e => ?_, fun e => ?_⟩, ?_, ?_, ?_, ?_, ?_, ?_⟩
  · have c0 : ¬ q = c := by omega
    have c1 : ¬ q = c + 1 := by omega
    have c2 : ¬ q = c + 2 := by omega
    have c3 : ¬ q = c + 3 := by omega
    have c4 : ¬ q = c + 4 := by omega
    have c5 : ¬ q = c + 5 := by omega
    have c6 : ¬ q = c + 6 := by omega
    refine ⟨?_, ?_, funext fun e => ?_, funext fun e => ?_, funext fun e => ?_⟩ <;> simp [gsR, bxS, gsI, gsJ, gnew, c0, c1, c2, c3, c4, c5, c6]
  all_goals simp [gsR, bxS, gsI, gsJ, gnew]
/-- the class made -/
theorem c91 (hw : gW G) (h0 : ∀ q, c ≤ q → G.1 q = 0) : ∃ T, X g 91 0 [.val (va_rf (some c))] [] (gH (c + 1) kc ks (gnew G c 40 0)) = some (none, gH (c + 27) (kc + 26) (ks + 1076) T) ∧ (∀ q, q < c → eqA T G q) ∧ gW T ∧ gK T c ∧ (∀ q, c + 27 ≤ q → T.1 q = 0) ∧ bkF T T (c + 16) ∧ T.2.2.2.2 c 9 = some (c + 16) ∧ T.2.2.2.2 c 10 = none ∧ T.2.2.1 (c + 1) 0 = 8 ∧ T.2.2.2.1 (c + 1) 1 = 0 ∧ (∀ e, T.2.2.1 (c + 6) e = 0) ∧ (∀ e, T.2.2.1 c e = 0) ∧ (∀ e, T.2.2.1 (c + 7) e = 0) ∧ (∀ e, T.2.2.1 (c + 10) e = 0) ∧ (∀ e, T.2.2.1 (c + 13) e = 0) ∧ ∀ e, T.2.2.2.2 (c + 9) e = none := by
  obtain ⟨A, a1, a2, ⟨a3, a4, a5, a6, ⟨a7, a8⟩, ⟨a9, a10⟩, a11, a12⟩, ⟨a13, a14, a15, a16⟩, a17, a18, a19, a20, a21, a22⟩ := c91a (g := g) (kc := kc) (ks := ks) (G := G) (c := c)
  -- the journal
  obtain ⟨J, j1, j2, j3, j4, j5, j6, j7, j8, j9⟩ := c28 (g := g) (a := c + 7) (kc := kc + 6 + 1) (ks := ks + 73 + 5) (T := A)
  have jo : ∀ q, q < c + 7 → eqA J A q := fun q hq => j2 q (by omega)
  have J40 : J.1 c = 40 := (jo c (by omega)).1.trans a3
  -- the tape
  obtain ⟨P, p1, p2, p3, p4, p5, p6, p7, p8, p9⟩ := c75 (g := g) (a := c + 10) (kc := kc + 6 + 1 + 2 + 1) (ks := ks + 73 + 5 + 88 + 5) (T := gsR J c 6 (some (c + 7)))
  have po : ∀ q, q < c + 10 → eqA P (gsR J c 6 (some (c + 7))) q := fun q hq => p2 q (by omega)
  have P40 : P.1 c = 40 := (po c (by omega)).1.trans J40
  -- the paper
  obtain ⟨Q, q1, q2, q3, q4, q5, q6, q7, q8, q9⟩ := c55 (g := g) (a := c + 13) (kc := kc + 6 + 1 + 2 + 1 + 2 + 1) (ks := ks + 73 + 5 + 88 + 5 + 140 + 3) (T := gsR P c 7 (some (c + 10)))
  have qo : ∀ q, q < c + 13 → eqA Q (gsR P c 7 (some (c + 10))) q := fun q hq => q2 q (by omega)
  have Q40 : Q.1 c = 40 := (qo c (by omega)).1.trans P40
  -- the bank
  obtain ⟨B, b1, b2, ⟨b3, b4, b5, b6, b7, b8⟩, ⟨b9, b10, b11, b12⟩, ⟨b13, b14, b15⟩, b16⟩ := c7 (g := g) (n := c + 16) (kc := kc + 6 + 1 + 2 + 1 + 2 + 1 + 2 + 1) (ks := ks + 73 + 5 + 88 + 5 + 140 + 3 + 692 + 4) (G := gsR Q c 8 (some (c + 13)))
  have bo : ∀ q, q < c + 16 → eqA B (gsR Q c 8 (some (c + 13))) q := fun q hq => b2 q (by omega)
  have B40 : B.1 c = 40 := (bo c (by omega)).1.trans Q40
  have B40a : (gsR B c 9 (some (c + 16))).1 c = 40 := B40
  have B40b : (gsR (gsR B c 9 (some (c + 16))) c 10 none).1 c = 40 := B40
  have B40c : (gsI (gsR (gsR B c 9 (some (c + 16))) c 10 none) c 11 0).1 c = 40 := B40
  have B40d : (gsI (gsI (gsR (gsR B c 9 (some (c + 16))) c 10 none) c 11 0) c 12 0).1 c = 40 := B40
  have B40e : (gsI (gsI (gsI (gsR (gsR B c 9 (some (c + 16))) c 10 none) c 11 0) c 12 0) c 13 0).1 c = 40 := B40
  have hX : X g 91 0 [.val (va_rf (some c))] [] (gH (c + 1) kc ks (gnew G c 40 0)) = some (none, gH (c + 27) (kc + 26) (ks + 1076) (gsI (gsI (gsI (gsI (gsR (gsR B c 9 (some (c + 16))) c 10 none) c 11 0) c 12 0) c 13 0) c 14 0)) := by
    rw [a1]
    simp only [x91_60, x91_61, x91_64, x91_65, x91_68, x91_71, x91_72, x91_75, x91_76, x91_79, x91_82, x91_83, x91_86, x91_87, x91_90, x91_93, x91_94, x91_97, x91_98, x91_101, x91_104, x91_105, x91_106, x91_109, x91_110, x91_111, x91_114, x91_115, x91_116, x91_119, x91_120, x91_121, x91_124, x91_125, x91_126, x91_129, gn_33', gH1, j1, gf_40_6 J40, gp_40_6 J40, gn_38', p1, gf_40_7 P40, gp_40_7 P40, gn_35', q1, gf_40_8 Q40, gp_40_8 Q40, gn_31', b1, gf_40_9 B40, gp_40_9 B40, gf_40_10 B40a, gp_40_10 B40a, x91_111 (a1 := 0) (by decide), gf_40_11 B40b, gp_40_11 B40b, gf_40_12 B40c, gp_40_12 B40c, gf_40_13 B40d, gp_40_13 B40d, gf_40_14 B40e, gp_40_14 B40e, Option.isSome_some, if_true, Option.bind_some, Option.toList_some, Option.toList_none, List.cons_append, List.nil_append, Option.isSome_some, if_true, eq_self, or_true, true_or, xb_01, mcl_cl, not_true_eq_false, not_false_eq_true, if_false]
  -- what lies where
  have e3 : ∀ q, q < c + 16 → q ≠ c → eqA B Q q := by
    intro q h1 h2
    obtain ⟨x1, x2, x3, x4, x5⟩ := bo q h1
    refine ⟨x1, x2, x3, x4, ?_⟩
    rw [x5]
    funext e
    rw [gsR5, if_neg (fun z => h2 z.1)]
  have e2 : ∀ q, q < c + 13 → q ≠ c → eqA B P q := by
    intro q h1 h2
    obtain ⟨x1, x2, x3, x4, x5⟩ := e3 q (by omega) h2
    obtain ⟨y1, y2, y3, y4, y5⟩ := qo q h1
    refine ⟨x1.trans y1, x2.trans y2, x3.trans y3, x4.trans y4, ?_⟩
    rw [x5, y5]
    funext e
    rw [gsR5, if_neg (fun z => h2 z.1)]
  have e1 : ∀ q, q < c + 10 → q ≠ c → eqA B J q := by
    intro q h1 h2
    obtain ⟨x1, x2, x3, x4, x5⟩ := e2 q (by omega) h2
    obtain ⟨y1, y2, y3, y4, y5⟩ := po q h1
    refine ⟨x1.trans y1, x2.trans y2, x3.trans y3, x4.trans y4, ?_⟩
    rw [x5, y5]
    funext e
    rw [gsR5, if_neg (fun z => h2 z.1)]
  have e0 : ∀ q, q < c + 7 → q ≠ c → eqA B A q := by
    intro q h1 h2
    obtain ⟨x1, x2, x3, x4, x5⟩ := e1 q (by omega) h2
    obtain ⟨y1, y2, y3, y4, y5⟩ := jo q h1
    exact ⟨x1.trans y1, x2.trans y2, x3.trans y3, x4.trans y4, x5.trans y5⟩
  -- the root's own fields
  have fB : ∀ e, B.2.2.2.2 c e = if e = 8 then some (c + 13) else if e = 7 then some (c + 10) else if e = 6 then some (c + 7) else A.2.2.2.2 c e := by
    intro e
    rw [(bo c (by omega)).2.2.2.2, gsR5, (qo c (by omega)).2.2.2.2, gsR5, (po c (by omega)).2.2.2.2, gsR5, (jo c (by omega)).2.2.2.2]
    simp
  have iB : ∀ e, B.2.2.1 c e = 0 := by
    intro e
    rw [(bo c (by omega)).2.2.1]
    show Q.2.2.1 c e = 0
    rw [(qo c (by omega)).2.2.1]
    show P.2.2.1 c e = 0
    rw [(po c (by omega)).2.2.1]
    show J.2.2.1 c e = 0
    rw [(jo c (by omega)).2.2.1]
    exact a16 e
  generalize hV : gsI (gsI (gsI (gsI (gsR (gsR B c 9 (some (c + 16))) c 10 none) c 11 0) c 12 0) c 13 0) c 14 0 = V at *
  have v1 : V.1 = B.1 := by rw [← hV]; rfl
  have v2 : V.2.1 = B.2.1 := by rw [← hV]; rfl
  have v4 : V.2.2.2.1 = B.2.2.2.1 := by rw [← hV]; rfl
  have v3 : ∀ q, q ≠ c → V.2.2.1 q = B.2.2.1 q := fun q hq => by
    rw [← hV]
    funext e
    simp [gsI, gsR, hq]
  have v3c : ∀ e, V.2.2.1 c e = 0 := fun e => by
    have := iB e
    rw [← hV]
    show (if c = c ∧ e = 14 then 0 else if c = c ∧ e = 13 then 0 else if c = c ∧ e = 12 then 0 else if c = c ∧ e = 11 then 0 else B.2.2.1 c e) = 0
    rw [this]
    simp
  have v5 : ∀ q e, V.2.2.2.2 q e = if q = c ∧ e = 10 then none else if q = c ∧ e = 9 then some (c + 16) else B.2.2.2.2 q e := fun q e => by rw [← hV]; rfl
  have hH : ∀ N kc ks, gH N kc ks V = gH N kc ks (grol V c 15) := by
    intro N kc ks
    refine gr_gen ?_
    have z2 : (grol V c 15).1 c = 15 := if_pos rfl
    have z1 : V.1 c = 40 := by rw [v1]; exact B40
    have f : ∀ e, e < 9 → V.2.2.2.2 c e = B.2.2.2.2 c e := fun e he => by rw [v5, if_neg (by omega), if_neg (by omega)]
    have f0 := f 0 (by omega)
    have f1 := f 1 (by omega)
    have f2 := f 2 (by omega)
    have f3 := f 3 (by omega)
    have f4 := f 4 (by omega)
    have f5 := f 5 (by omega)
    have f6 := f 6 (by omega)
    have f7 := f 7 (by omega)
    have f8 := f 8 (by omega)
    rw [fB] at f0 f1 f2 f3 f4 f5 f6 f7 f8
    unfold gcl gfs
    rw [z1, z2]
    show some (Sum.inr (10, (List.range 15).map _)) = some (Sum.inr (10, (List.range 15).map _))
    simp [List.range_succ, gval, fd, grol, f0, f1, f2, f3, f4, f5, f6, f7, f8, a17, a18, a19, a20, a21, a22]
  rw [hH] at hX
  have rr : ∀ q, (grol V c 15).1 q = if q = c then 15 else B.1 q := fun q => by
    show (if q = c then 15 else V.1 q) = _
    rw [v1]
  have r2 : (grol V c 15).2.1 = B.2.1 := v2
  have roles : ∀ q, q ≠ c → (grol V c 15).1 q = B.1 q := fun q hq => by rw [rr, if_neg hq]
  have hlo : ∀ q, q < c → eqA (grol V c 15) G q := by
    intro q hq
    obtain ⟨x1, x2, x3, x4, x5⟩ := e0 q (by omega) (by omega)
    obtain ⟨y1, y2, y3, y4, y5⟩ := a2 q (by omega)
    refine ⟨(roles q (by omega)).trans (x1.trans y1), (congrFun r2 q).trans (x2.trans y2), ?_, ?_, ?_⟩
    · show V.2.2.1 q = _
      rw [v3 q (by omega), x3, y3]
    · show V.2.2.2.1 q = _
      rw [v4, x4, y4]
    · show V.2.2.2.2 q = _
      funext e
      rw [v5, if_neg (by omega), if_neg (by omega), x5, y5]
  have hhi : ∀ q, c + 27 ≤ q → (grol V c 15).1 q = 0 := by
    intro q hq
    rw [roles q (by omega), (b2 q (by omega)).1]
    show Q.1 q = 0
    rw [(q2 q (by omega)).1]
    show P.1 q = 0
    rw [(p2 q (by omega)).1]
    show J.1 q = 0
    rw [(j2 q (by omega)).1, (a2 q (by omega)).1]
    exact h0 q (by omega)
  have hK : gK (grol V c 15) c := by
    unfold gK
    rw [r2]
    refine ⟨if_pos rfl, ?_, ?_, ?_, ⟨?_, ?_⟩, ⟨?_, ?_⟩, ⟨?_, ?_⟩, ?_, ⟨?_, ?_⟩, ⟨?_, ?_⟩, ?_, ⟨?_, ?_⟩, ⟨?_, ?_⟩, ?_, ⟨?_, ?_⟩, ⟨?_, ?_⟩⟩
    · rw [roles _ (by omega), (e0 (c + 1) (by omega) (by omega)).1]; exact a4
    · rw [roles _ (by omega), (e0 (c + 2) (by omega) (by omega)).1]; exact a5
    · rw [roles _ (by omega), (e0 (c + 3) (by omega) (by omega)).1]; exact a6
    · rw [roles _ (by omega), (e0 (c + 4) (by omega) (by omega)).1]; exact a7
    · rw [(e0 (c + 4) (by omega) (by omega)).2.1]; exact a8
    · rw [roles _ (by omega), (e0 (c + 5) (by omega) (by omega)).1]; exact a9
    · rw [(e0 (c + 5) (by omega) (by omega)).2.1]; exact a10
    · rw [roles _ (by omega), (e0 (c + 6) (by omega) (by omega)).1]; exact a11
    · rw [(e0 (c + 6) (by omega) (by omega)).2.1]; exact a12
    · rw [roles _ (by omega), (e1 (c + 7) (by omega) (by omega)).1]; exact j3
    · rw [roles _ (by omega), (e1 (c + 8) (by omega) (by omega)).1]; exact j4
    · rw [(e1 (c + 8) (by omega) (by omega)).2.1]; exact j5
    · rw [roles _ (by omega), (e1 (c + 9) (by omega) (by omega)).1]; exact j6
    · rw [(e1 (c + 9) (by omega) (by omega)).2.1]; exact j7
    · rw [roles _ (by omega), (e2 (c + 10) (by omega) (by omega)).1]; exact p3
    · rw [roles _ (by omega), (e2 (c + 11) (by omega) (by omega)).1]; exact p4
    · rw [(e2 (c + 11) (by omega) (by omega)).2.1]; exact p5
    · rw [roles _ (by omega), (e2 (c + 12) (by omega) (by omega)).1]; exact p6
    · rw [(e2 (c + 12) (by omega) (by omega)).2.1]; exact p7
    · rw [roles _ (by omega), (e3 (c + 13) (by omega) (by omega)).1]; exact q3
    · rw [roles _ (by omega), (e3 (c + 14) (by omega) (by omega)).1]; exact q4
    · rw [(e3 (c + 14) (by omega) (by omega)).2.1]; exact q5
    · rw [roles _ (by omega), (e3 (c + 15) (by omega) (by omega)).1]; exact q6
    · rw [(e3 (c + 15) (by omega) (by omega)).2.1]; exact q7
  have hw2 : gW (grol V c 15) := by
    refine gW_add hw h0 (fun q hq => ⟨(hlo q hq).1, (hlo q hq).2.1⟩) (fun q hq => ?_)
    by_cases c16 : q = c + 16
    · subst c16
      rw [roles _ (by omega), b3, r2]
      refine ⟨fun z => by omega, fun z => by omega, fun _ => ⟨?_, ?_, ?_, ?_, b9, b10, b11, b12, fun w hw => ?_⟩⟩
      · rw [roles _ (by omega)]; exact b4
      · rw [roles _ (by omega)]; exact b5
      · rw [roles _ (by omega)]; exact b6
      · rw [roles _ (by omega)]; exact b7
      · rw [roles _ (by omega)]; exact b8 w hw
    · have key : (grol V c 15).1 q ∈ [0, 10, 11, 12, 13, 14, 15, 16, 17, 18, 19, 20, 21, 22, 23, 24, 25, 26, 27, 28] := by
        by_cases h27 : c + 27 ≤ q
        · rw [hhi q h27]; decide
        · by_cases h17 : c + 17 ≤ q
          · have hq' : q = c + 16 + 1 ∨ q = c + 16 + 2 ∨ q = c + 16 + 3 ∨ q = c + 16 + 4 ∨ ∃ w, w < 6 ∧ q = c + 16 + 5 + w := by
              by_cases h21 : c + 21 ≤ q
              · exact Or.inr (Or.inr (Or.inr (Or.inr ⟨q - (c + 21), by omega, by omega⟩)))
              · omega
            rcases hq' with h | h | h | h | ⟨w, hw', h⟩
            · rw [h, roles _ (by omega), b4]; decide
            · rw [h, roles _ (by omega), b5]; decide
            · rw [h, roles _ (by omega), b6]; decide
            · rw [h, roles _ (by omega), b7]; decide
            · rw [h, roles _ (by omega), b8 w hw']; decide
          · obtain ⟨y0, y1, y2, y3, ⟨y4, _⟩, ⟨y5, _⟩, ⟨y6, _⟩, y7, ⟨y8, _⟩, ⟨y9, _⟩, y10, ⟨y11, _⟩, ⟨y12, _⟩, y13, ⟨y14, _⟩, ⟨y15, _⟩⟩ := hK
            have hq' : q = c ∨ q = c + 1 ∨ q = c + 2 ∨ q = c + 3 ∨ q = c + 4 ∨ q = c + 5 ∨ q = c + 6 ∨ q = c + 7 ∨ q = c + 8 ∨ q = c + 9 ∨ q = c + 10 ∨ q = c + 11 ∨ q = c + 12 ∨ q = c + 13 ∨ q = c + 14 ∨ q = c + 15 := by omega
            rcases hq' with h | h | h | h | h | h | h | h | h | h | h | h | h | h | h | h
            · rw [h, y0]; decide
            · rw [h, y1]; decide
            · rw [h, y2]; decide
            · rw [h, y3]; decide
            · rw [h, y4]; decide
            · rw [h, y5]; decide
            · rw [h, y6]; decide
            · rw [h, y7]; decide
            · rw [h, y8]; decide
            · rw [h, y9]; decide
            · rw [h, y10]; decide
            · rw [h, y11]; decide
            · rw [h, y12]; decide
            · rw [h, y13]; decide
            · rw [h, y14]; decide
            · rw [h, y15]; decide
      generalize (grol V c 15).1 q = R at *
      refine ⟨fun z => ?_, fun z => ?_, fun z => ?_⟩ <;> rw [z] at key <;> exact absurd key (by decide)
  have iV : ∀ q, q ≠ c → (grol V c 15).2.2.1 q = B.2.2.1 q := v3
  have rV : ∀ q, q ≠ c → (grol V c 15).2.2.2.2 q = B.2.2.2.2 q := fun q hq => funext fun e => by
    show V.2.2.2.2 q e = _
    rw [v5, if_neg (fun z => hq z.1), if_neg (fun z => hq z.1)]
  refine ⟨grol V c 15, hX, hlo, hw2, hK, hhi, ⟨fun q _ => ⟨rfl, rfl, rfl, rfl, rfl⟩, ⟨?_, ?_, ?_, ?_, ?_, fun w hw' => ?_⟩, ⟨?_, ?_, ?_, ?_⟩, ⟨fun e he => ?_, fun e => ?_, fun w hw' e => ?_⟩, fun e => ?_⟩, ?_, ?_, ?_, ?_, fun e => ?_, v3c, fun e => ?_, fun e => ?_, fun e => ?_, fun e => ?_⟩
  · rw [roles _ (by omega)]; exact b3
  · rw [roles _ (by omega)]; exact b4
  · rw [roles _ (by omega)]; exact b5
  · rw [roles _ (by omega)]; exact b6
  · rw [roles _ (by omega)]; exact b7
  · rw [roles _ (by omega)]; exact b8 w hw'
  · rw [r2]; exact b9
  · rw [r2]; exact b10
  · rw [r2]; exact b11
  · rw [r2]; exact b12
  · rw [iV _ (by omega)]; exact b13 e he
  · rw [iV _ (by omega)]; exact b14 e
  · rw [iV _ (by omega)]; exact b15 w hw' e
  · rw [rV _ (by omega)]; exact b16 e
  · show V.2.2.2.2 c 9 = _
    rw [v5, if_neg (by omega), if_pos ⟨rfl, rfl⟩]
  · show V.2.2.2.2 c 10 = _
    rw [v5, if_pos ⟨rfl, rfl⟩]
  · rw [iV _ (by omega), (e0 (c + 1) (by omega) (by omega)).2.2.1]; exact a13
  · show V.2.2.2.1 (c + 1) 1 = 0
    rw [v4, (e0 (c + 1) (by omega) (by omega)).2.2.2.1]; exact a14
  · rw [iV _ (by omega), (e0 (c + 6) (by omega) (by omega)).2.2.1]; exact a15 e
  · rw [iV _ (by omega), (e1 (c + 7) (by omega) (by omega)).2.2.1]; exact j8 e
  · rw [iV _ (by omega), (e2 (c + 10) (by omega) (by omega)).2.2.1]; exact p8 e
  · rw [iV _ (by omega), (e3 (c + 13) (by omega) (by omega)).2.2.1]; exact q8 e
  · rw [rV _ (by omega), (e1 (c + 9) (by omega) (by omega)).2.2.2.2]; exact j9 e
end K59
