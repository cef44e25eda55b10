/-! THE CLASS's methods, 19: the class made -/
section K58
variable {g : xG} {n kc ks a b c s w q l x y d r p n' e m N r0 r1 l1 r2 l2 : Nat} {G T T' U G1 G2 : GS} {h : xH} {i j k v i1 i2 : Int32} {u z : Int64} {S S1 S' : MS} {ρ κ κ' : Nat → Nat} {L : List Nat} {o : Option Nat}
theorem gn_16' : xnew (gH n kc ks G) (.inr (2, [.int 0, .long 0])) 2 = gH (n + 1) (kc + 1) (ks + 2) (gnew G n 16 0) := by
  refine gn_gen ?_
  unfold gcl
  rw [show (gnew G n 16 0).1 n = 16 from if_pos rfl]
  show some (Sum.inr (2, gfs _ n)) = _
  unfold gfs
  rw [show (gnew G n 16 0).1 n = 16 from if_pos rfl]
  show some (Sum.inr (2, (List.range 2).map _)) = _
  simp [List.range_succ, gval, gnew, fd]
theorem c26 : X g 26 0 [.val (va_rf (some a))] [] (gH n kc ks (gnew T a 16 0)) = some (none, gH n kc ks (bxS (gnew T a 16 0) a 8 0)) := by
  have r0 : (gnew T a 16 0).1 a = 16 := if_pos rfl
  have r1 : (gsI (gnew T a 16 0) a 0 8).1 a = 16 := r0
  simp only [x26_0, x26_1, x26_4, x26_5, x26_7, x26_10, x26_11, x26_12, x26_15, gf_16_0 r0, gp_16_0 r0, gf_16_1 r1, gp_16_1 r1, Option.isSome_some, if_true, Option.bind_some, Option.toList_some, Option.toList_none, List.cons_append, List.nil_append, Option.isSome_some, if_true, eq_self, or_true, true_or, xb_01, mcl_cl, not_true_eq_false, not_false_eq_true, if_false]
  rfl
theorem gn_33' : xnew (gH n kc ks G) (.inr (3, [va_rf none, .int 0, va_rf none, .int 0, .int 0])) 5 = gH (n + 1) (kc + 1) (ks + 5) (gnew G n 33 0) := gn_33
theorem gn_38' : xnew (gH n kc ks G) (.inr (8, [va_rf none, va_rf none, .int 0, .int 0, .int 0])) 5 = gH (n + 1) (kc + 1) (ks + 5) (gnew G n 38 0) := gn_38
theorem gn_35' : xnew (gH n kc ks G) (.inr (5, [va_rf none, va_rf none, .int 0])) 3 = gH (n + 1) (kc + 1) (ks + 3) (gnew G n 35 0) := gn_35
/-- a thing with two arrays -/
def o3 (T' T : GS) (a r0 r1 l1 r2 l2 : Nat) : Prop := (∀ q, ¬ (a ≤ q ∧ q < a + 3) → eqA T' T q) ∧ T'.1 a = r0 ∧ T'.1 (a + 1) = r1 ∧ T'.2.1 (a + 1) = l1 ∧ T'.1 (a + 2) = r2 ∧ T'.2.1 (a + 2) = l2 ∧ (∀ e, T'.2.2.1 a e = 0) ∧ ∀ e, T'.2.2.2.2 (a + 2) e = none
theorem c28 : ∃ T', X g 28 0 [.val (va_rf (some a))] [] (gH (a + 1) kc ks (gnew T a 33 0)) = some (none, gH (a + 3) (kc + 2) (ks + 88) T') ∧ o3 T' T a 20 21 64 22 24 := by
  have q0 : (gnew (gnew T a 33 0) (a + 1) 21 64).1 a = 33 := by rw [gnew1, if_neg (by omega), gnew1, if_pos rfl]
  have q1 : (gsR (gnew (gnew T a 33 0) (a + 1) 21 64) a 0 (some (a + 1))).1 a = 33 := q0
  have q2 : (gnew (gsI (gsR (gnew (gnew T a 33 0) (a + 1) 21 64) a 0 (some (a + 1))) a 1 0) (a + 2) 22 24).1 a = 33 := by rw [gnew1, if_neg (by omega)]; exact q0
  have q3 : (gsR (gnew (gsI (gsR (gnew (gnew T a 33 0) (a + 1) 21 64) a 0 (some (a + 1))) a 1 0) (a + 2) 22 24) a 2 (some (a + 2))).1 a = 33 := q2
  have q4 : (gsI (gsR (gnew (gsI (gsR (gnew (gnew T a 33 0) (a + 1) 21 64) a 0 (some (a + 1))) a 1 0) (a + 2) 22 24) a 2 (some (a + 2))) a 3 0).1 a = 33 := q2
  have p64 : ¬ (64 : Int32) < 0 := by decide
  have c64' : (64 : Int32).toNatClampNeg = 64 := by decide
  have m64 : ¬ 65536 < (64 : Int32).toNatClampNeg := by decide
  have p24 : ¬ (24 : Int32) < 0 := by decide
  have c24' : (24 : Int32).toNatClampNeg = 24 := by decide
  have m24 : ¬ 65536 < (24 : Int32).toNatClampNeg := by decide
  have hX : X g 28 0 [.val (va_rf (some a))] [] (gH (a + 1) kc ks (gnew T a 33 0)) = some (none, gH (a + 3) (kc + 2) (ks + 88) (gsI (gsI (gsR (gnew (gsI (gsR (gnew (gnew T a 33 0) (a + 1) 21 64) a 0 (some (a + 1))) a 1 0) (a + 2) 22 24) a 2 (some (a + 2))) a 3 0) a 4 0)) := by
    simp only [x28_0, x28_1, x28_4, x28_5, x28_7, x28_10, x28_13, x28_14, x28_15, x28_18, x28_19, x28_21, x28_24, x28_27, x28_28, x28_29, x28_32, x28_33, x28_34, x28_37, x28_7 p64 m64, x28_21 p24 m24, c64', c24', gn_21, gH1, gf_33_0 q0, gp_33_0 q0, gf_33_1 q1, gp_33_1 q1, gn_22, gf_33_2 q2, gp_33_2 q2, gf_33_3 q3, gp_33_3 q3, gf_33_4 q4, gp_33_4 q4, Option.isSome_some, if_true, Option.bind_some, Option.toList_some, Option.toList_none, List.cons_append, List.nil_append, Option.isSome_some, if_true, eq_self, or_true, true_or, xb_01, mcl_cl, not_true_eq_false, not_false_eq_true, if_false]
  generalize hV : gsI (gsI (gsR (gnew (gsI (gsR (gnew (gnew T a 33 0) (a + 1) 21 64) a 0 (some (a + 1))) a 1 0) (a + 2) 22 24) a 2 (some (a + 2))) a 3 0) a 4 0 = V at *
  have v1 : V.1 a = 33 := by rw [← hV]; exact q4
  have w0 : V.2.2.2.2 a 0 = some (a + 1) := by rw [← hV]; simp [gsR, gsI, gnew]
  have w2 : V.2.2.2.2 a 2 = some (a + 2) := by rw [← hV]; simp [gsR, gsI, gnew]
  have hH : ∀ N kc ks, gH N kc ks V = gH N kc ks (grol V a 20) := by
    intro N kc ks
    refine gr_gen ?_
    have v2 : (grol V a 20).1 a = 20 := if_pos rfl
    unfold gcl gfs
    rw [v1, v2]
    show some (Sum.inr (3, (List.range 5).map _)) = some (Sum.inr (3, (List.range 5).map _))
    simp [List.range_succ, gval, fd, grol, w0, w2]
  rw [hH] at hX
  have r : ∀ q, (grol V a 20).1 q = if q = a then 20 else V.1 q := fun q => rfl
  refine ⟨grol V a 20, hX, fun q hq => ?_, if_pos rfl, ?_, ?_, ?_, ?_, fun e => ?_, fun e => ?_⟩
  · have c0 : ¬ q = a := by omega
    have c1 : ¬ q = a + 1 := by omega
    have c2 : ¬ q = a + 2 := by omega
    refine ⟨?_, ?_, funext fun e => ?_, funext fun e => ?_, funext fun e => ?_⟩
    · rw [r, if_neg c0, ← hV]; simp [gsR, gsI, gnew, c0, c1, c2]
    · show V.2.1 q = _
      rw [← hV]; simp [gsR, gsI, gnew, c0, c1, c2]
    · show V.2.2.1 q e = _
      rw [← hV]; simp [gsR, gsI, gnew, c0, c1, c2]
    · show V.2.2.2.1 q e = _
      rw [← hV]; simp [gsR, gsI, gnew, c0, c1, c2]
    · show V.2.2.2.2 q e = _
      rw [← hV]; simp [gsR, gsI, gnew, c0, c1, c2]
  · rw [r, if_neg (by omega), ← hV]; simp [gsR, gsI, gnew]
  · show V.2.1 (a + 1) = _
    rw [← hV]; simp [gsR, gsI, gnew]
  · rw [r, if_neg (by omega), ← hV]; simp [gsR, gsI, gnew]
  · show V.2.1 (a + 2) = _
    rw [← hV]; simp [gsR, gsI, gnew]
  · show V.2.2.1 a e = _
    rw [← hV]; simp [gsR, gsI, gnew]
  · show V.2.2.2.2 (a + 2) e = _
    rw [← hV]; simp [gsR, gsI, gnew]
theorem c75 : ∃ T', X g 75 0 [.val (va_rf (some a))] [] (gH (a + 1) kc ks (gnew T a 38 0)) = some (none, gH (a + 3) (kc + 2) (ks + 140) T') ∧ o3 T' T a 23 24 120 25 20 := by
  have q0 : (gnew (gnew T a 38 0) (a + 1) 24 120).1 a = 38 := by rw [gnew1, if_neg (by omega), gnew1, if_pos rfl]
  have q1 : (gnew (gsR (gnew (gnew T a 38 0) (a + 1) 24 120) a 0 (some (a + 1))) (a + 2) 25 20).1 a = 38 := by rw [gnew1, if_neg (by omega)]; exact q0
  have q2 : (gsR (gnew (gsR (gnew (gnew T a 38 0) (a + 1) 24 120) a 0 (some (a + 1))) (a + 2) 25 20) a 1 (some (a + 2))).1 a = 38 := q1
  have q3 : (gsI (gsR (gnew (gsR (gnew (gnew T a 38 0) (a + 1) 24 120) a 0 (some (a + 1))) (a + 2) 25 20) a 1 (some (a + 2))) a 2 0).1 a = 38 := q1
  have q4 : (gsI (gsI (gsR (gnew (gsR (gnew (gnew T a 38 0) (a + 1) 24 120) a 0 (some (a + 1))) (a + 2) 25 20) a 1 (some (a + 2))) a 2 0) a 3 0).1 a = 38 := q1
  have p120 : ¬ (120 : Int32) < 0 := by decide
  have c120' : (120 : Int32).toNatClampNeg = 120 := by decide
  have m120 : ¬ 65536 < (120 : Int32).toNatClampNeg := by decide
  have p20 : ¬ (20 : Int32) < 0 := by decide
  have c20' : (20 : Int32).toNatClampNeg = 20 := by decide
  have m20 : ¬ 65536 < (20 : Int32).toNatClampNeg := by decide
  have hX : X g 75 0 [.val (va_rf (some a))] [] (gH (a + 1) kc ks (gnew T a 38 0)) = some (none, gH (a + 3) (kc + 2) (ks + 140) (gsI (gsI (gsI (gsR (gnew (gsR (gnew (gnew T a 38 0) (a + 1) 24 120) a 0 (some (a + 1))) (a + 2) 25 20) a 1 (some (a + 2))) a 2 0) a 3 0) a 4 0)) := by
    simp only [x75_0, x75_1, x75_4, x75_5, x75_7, x75_9, x75_12, x75_13, x75_15, x75_18, x75_21, x75_22, x75_23, x75_26, x75_27, x75_28, x75_31, x75_32, x75_33, x75_36, x75_7 p120 m120, x75_15 p20 m20, c120', c20', gn_24, gH1, gf_38_0 q0, gp_38_0 q0, gn_25, gf_38_1 q1, gp_38_1 q1, gf_38_2 q2, gp_38_2 q2, gf_38_3 q3, gp_38_3 q3, gf_38_4 q4, gp_38_4 q4, Option.isSome_some, if_true, Option.bind_some, Option.toList_some, Option.toList_none, List.cons_append, List.nil_append, Option.isSome_some, if_true, eq_self, or_true, true_or, xb_01, mcl_cl, not_true_eq_false, not_false_eq_true, if_false]
  generalize hV : gsI (gsI (gsI (gsR (gnew (gsR (gnew (gnew T a 38 0) (a + 1) 24 120) a 0 (some (a + 1))) (a + 2) 25 20) a 1 (some (a + 2))) a 2 0) a 3 0) a 4 0 = V at *
  have v1 : V.1 a = 38 := by rw [← hV]; exact q4
  have w0 : V.2.2.2.2 a 0 = some (a + 1) := by rw [← hV]; simp [gsR, gsI, gnew]
  have w2 : V.2.2.2.2 a 1 = some (a + 2) := by rw [← hV]; simp [gsR, gsI, gnew]
  have hH : ∀ N kc ks, gH N kc ks V = gH N kc ks (grol V a 23) := by
    intro N kc ks
    refine gr_gen ?_
    have v2 : (grol V a 23).1 a = 23 := if_pos rfl
    unfold gcl gfs
    rw [v1, v2]
    show some (Sum.inr (8, (List.range 5).map _)) = some (Sum.inr (8, (List.range 5).map _))
    simp [List.range_succ, gval, fd, grol, w0, w2]
  rw [hH] at hX
  have r : ∀ q, (grol V a 23).1 q = if q = a then 23 else V.1 q := fun q => rfl
  refine ⟨grol V a 23, hX, fun q hq => ?_, if_pos rfl, ?_, ?_, ?_, ?_, fun e => ?_, fun e => ?_⟩
  · have c0 : ¬ q = a := by omega
    have c1 : ¬ q = a + 1 := by omega
    have c2 : ¬ q = a + 2 := by omega
    refine ⟨?_, ?_, funext fun e => ?_, funext fun e => ?_, funext fun e => ?_⟩
    · rw [r, if_neg c0, ← hV]; simp [gsR, gsI, gnew, c0, c1, c2]
    · show V.2.1 q = _
      rw [← hV]; simp [gsR, gsI, gnew, c0, c1, c2]
    · show V.2.2.1 q e = _
      rw [← hV]; simp [gsR, gsI, gnew, c0, c1, c2]
    · show V.2.2.2.1 q e = _
      rw [← hV]; simp [gsR, gsI, gnew, c0, c1, c2]
    · show V.2.2.2.2 q e = _
      rw [← hV]; simp [gsR, gsI, gnew, c0, c1, c2]
  · rw [r, if_neg (by omega), ← hV]; simp [gsR, gsI, gnew]
  · show V.2.1 (a + 1) = _
    rw [← hV]; simp [gsR, gsI, gnew]
  · rw [r, if_neg (by omega), ← hV]; simp [gsR, gsI, gnew]
  · show V.2.1 (a + 2) = _
    rw [← hV]; simp [gsR, gsI, gnew]
  · show V.2.2.1 a e = _
    rw [← hV]; simp [gsR, gsI, gnew]
  · show V.2.2.2.2 (a + 2) e = _
    rw [← hV]; simp [gsR, gsI, gnew]
theorem c55 : ∃ T', X g 55 0 [.val (va_rf (some a))] [] (gH (a + 1) kc ks (gnew T a 35 0)) = some (none, gH (a + 3) (kc + 2) (ks + 692) T') ∧ o3 T' T a 26 27 673 28 19 := by
  have q0 : (gnew (gnew T a 35 0) (a + 1) 27 673).1 a = 35 := by rw [gnew1, if_neg (by omega), gnew1, if_pos rfl]
  have q1 : (gnew (gsR (gnew (gnew T a 35 0) (a + 1) 27 673) a 0 (some (a + 1))) (a + 2) 28 19).1 a = 35 := by rw [gnew1, if_neg (by omega)]; exact q0
  have q2 : (gsR (gnew (gsR (gnew (gnew T a 35 0) (a + 1) 27 673) a 0 (some (a + 1))) (a + 2) 28 19) a 1 (some (a + 2))).1 a = 35 := q1
  have p673 : ¬ (673 : Int32) < 0 := by decide
  have c673' : (673 : Int32).toNatClampNeg = 673 := by decide
  have m673 : ¬ 65536 < (673 : Int32).toNatClampNeg := by decide
  have p19 : ¬ (19 : Int32) < 0 := by decide
  have c19' : (19 : Int32).toNatClampNeg = 19 := by decide
  have m19 : ¬ 65536 < (19 : Int32).toNatClampNeg := by decide
  have hg1 : ∀ kc ks (G : GS), xnew (gH (a + 1) kc ks G) (.inl (2, 673, fun _ => .int 0)) 673 = gH (a + 1 + 1) (kc + 1) (ks + 673) (gnew G (a + 1) 27 673) := fun kc ks G => gn_27
  have hg2 : ∀ kc ks (G : GS), xnew (gH (a + 1 + 1) kc ks G) (.inl (2, 19, fun _ => .int 0)) 19 = gH (a + 1 + 1 + 1) (kc + 1) (ks + 19) (gnew G (a + 2) 28 19) := fun kc ks G => gn_28
  have hX : X g 55 0 [.val (va_rf (some a))] [] (gH (a + 1) kc ks (gnew T a 35 0)) = some (none, gH (a + 3) (kc + 2) (ks + 692) (gsI (gsR (gnew (gsR (gnew (gnew T a 35 0) (a + 1) 27 673) a 0 (some (a + 1))) (a + 2) 28 19) a 1 (some (a + 2))) a 2 0)) := by
    simp only [x55_0, x55_1, x55_4, x55_5, x55_8, x55_10, x55_13, x55_14, x55_16, x55_18, x55_21, x55_22, x55_23, x55_26, x55_8 p673 m673, x55_16 p19 m19, c673', c19', hg1, gH1, gf_35_0 q0, gp_35_0 q0, hg2, gf_35_1 q1, gp_35_1 q1, gf_35_2 q2, gp_35_2 q2, Option.isSome_some, if_true, Option.bind_some, Option.toList_some, Option.toList_none, List.cons_append, List.nil_append, Option.isSome_some, if_true, eq_self, or_true, true_or, xb_01, mcl_cl, not_true_eq_false, not_false_eq_true, if_false]
  generalize hV : gsI (gsR (gnew (gsR (gnew (gnew T a 35 0) (a + 1) 27 673) a 0 (some (a + 1))) (a + 2) 28 19) a 1 (some (a + 2))) a 2 0 = V at *
  have v1 : V.1 a = 35 := by rw [← hV]; exact q2
  have w0 : V.2.2.2.2 a 0 = some (a + 1) := by rw [← hV]; simp [gsR, gsI, gnew]
  have w2 : V.2.2.2.2 a 1 = some (a + 2) := by rw [← hV]; simp [gsR, gsI, gnew]
  have hH : ∀ N kc ks, gH N kc ks V = gH N kc ks (grol V a 26) := by
    intro N kc ks
    refine gr_gen ?_
    have v2 : (grol V a 26).1 a = 26 := if_pos rfl
    unfold gcl gfs
    rw [v1, v2]
    show some (Sum.inr (5, (List.range 3).map _)) = some (Sum.inr (5, (List.range 3).map _))
    simp [List.range_succ, gval, fd, grol, w0, w2]
  rw [hH] at hX
  have r : ∀ q, (grol V a 26).1 q = if q = a then 26 else V.1 q := fun q => rfl
  refine ⟨grol V a 26, hX, fun q hq => ?_, if_pos rfl, ?_, ?_, ?_, ?_, fun e => ?_, fun e => ?_⟩
  · have c0 : ¬ q = a := by omega
    have c1 : ¬ q = a + 1 := by omega
    have c2 : ¬ q = a + 2 := by omega
    refine ⟨?_, ?_, funext fun e => ?_, funext fun e => ?_, funext fun e => ?_⟩
    · rw [r, if_neg c0, ← hV]; simp [gsR, gsI, gnew, c0, c1, c2]
    · show V.2.1 q = _
      rw [← hV]; simp [gsR, gsI, gnew, c0, c1, c2]
    · show V.2.2.1 q e = _
      rw [← hV]; simp [gsR, gsI, gnew, c0, c1, c2]
    · show V.2.2.2.1 q e = _
      rw [← hV]; simp [gsR, gsI, gnew, c0, c1, c2]
    · show V.2.2.2.2 q e = _
      rw [← hV]; simp [gsR, gsI, gnew, c0, c1, c2]
  · rw [r, if_neg (by omega), ← hV]; simp [gsR, gsI, gnew]
  · show V.2.1 (a + 1) = _
    rw [← hV]; simp [gsR, gsI, gnew]
  · rw [r, if_neg (by omega), ← hV]; simp [gsR, gsI, gnew]
  · show V.2.1 (a + 2) = _
    rw [← hV]; simp [gsR, gsI, gnew]
  · show V.2.2.1 a e = _
    rw [← hV]; simp [gsR, gsI, gnew]
  · show V.2.2.2.2 (a + 2) e = _
    rw [← hV]; simp [gsR, gsI, gnew]
end K58
