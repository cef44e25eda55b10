/-! THE CLASS beside the reference, 25: copied in turn, filled, swapped -/
section K38
variable {g : xG} {n kc ks a b c s t w q l x y jn d r p n' e kb A n1 kc1 ks1 e1 e2 a1 a2 o : Nat} {G T U G1 : GS} {h : xH} {i j k m v i1 i2 : Int32} {u z : Int64} {S S1 S' V : MS} {ρ κ : Nat → Nat} {L L' : List Nat} {cnt : Nat} {at' wk ik : Nat → Int32} {wv iv : Nat → Int64}
theorem ans_no (hx : sWhy i) (h : ¬ i = 0) : sAns i = i ∧ ¬ i = 1 := by
  refine ⟨sAns_n h, ?_⟩
  rcases hx with h | h | h | h <;> subst h <;> decide
theorem ans_yes (h : i = 0) : sAns i = 1 := by
  unfold sAns
  rw [if_pos h]
theorem rA_many (hA : rA g G c n b ρ S) (hw6 : w < 6) : sMany S w ≤ 32 := (rA_w hA hw6).2.2.2.2.2.2.1
theorem l147 (hw : w < 6) (ho : o < 6) : ∀ d j n kc ks (G : GS) (S : MS) (s4 : Slot), j + d = sMany S w → rA g G c n b ρ S → rPd G c ρ S j → mvE g c b ρ n kc ks G (d + 2) (6 * d + 65) (X g 147 2 [.val (va_rf (some c)), .val (va_rf (some (b + 5 + w))), .val (va_rf (some (b + 5 + o))), .val (.int (nI j)), s4] [] (gH n kc ks G)) (fMv (nI (sMany S w)) (mvL (stC w o) j d S)).1 (fMv (nI (sMany S w)) (mvL (stC w o) j d S)).2 := by
  intro d
  induction d with
  | zero =>
    intro j n kc ks G S s4 hj hA hP
    obtain ⟨w1, w2, w3, w4, w5, w6, w7, w8, w9, w10⟩ := rA_w hA hw
    have k0 : G.1 c = 15 := hA.1.2.1.1
    obtain ⟨h', h1, h2⟩ := mvE_146 (g := g) (kc := kc) (ks := ks) (i := nI (sMany S w)) hA hP (by omega)
    have c1 : nI (sMany S w) ≤ nI j := nI_le (by omega) (by omega)
    rw [mvL, fMv_0]
    simp only [x147_0, x147_1, x147_2, x147_3, x147_4, x147_7, x147_10, x147_11, x147_12, x147_13, x147_14, x147_17, x147_18, x147_21, x147_24, x147_26, x147_28, x147_29, x147_32, x147_33, x147_34, x147_35, x147_37, x147_40, x147_41, x147_42, x147_43, x147_44, x147_45, x147_48, x147_49, x147_52, x147_55, x147_57, x147_59, x147_60, x147_63, x147_64, x147_65, x147_66, x147_68, x147_71, x147_72, x147_78, x147_79, x147_80, x147_83, x147_86, gf_14_3 w1, w6, c1, gc_15 k0, h1, Option.bind_some, Option.toList_some, Option.toList_none, List.cons_append, List.nil_append, Option.isSome_some, if_true, eq_self, or_true, true_or, xb_01, mcl_cl, not_true_eq_false, not_false_eq_true, if_false]
    exact h2
  | succ d ih =>
    intro j n kc ks G S s4 hj hA hP
    obtain ⟨w1, w2, w3, w4, w5, w6, w7, w8, w9, w10⟩ := rA_w hA hw
    have k0 : G.1 c = 15 := hA.1.2.1.1
    have k2 : G.1 (c + 2) = 16 := hA.1.2.1.2.2.1
    have c1 : ¬ nI (sMany S w) ≤ nI j := nI_ge (by omega) (by omega)
    have k139 := c139 (g := g) (n := n) (kc := kc) (ks := ks) (j := nI j) hA hw w9 w10 k2
    have hwy := sLook_why S w (nI j) (sVw S w)
    by_cases f1 : sLook S w (nI j) (sVw S w) = 0
    · have hok := okb_look hA.2.2.2.2.2.2.2.2.1 f1
      rw [if_pos f1, ans_yes f1] at k139
      have hq : bq (bxS G (c + 2) (sLk S w (nI j) (sVw S w)) (sLv S w (nI j) (sVw S w))) G c := bq_x (Or.inl rfl)
      have hA1 := rA_bq hA hq
      have hP1 := rPd_bq hA hq hP
      have x0 : (bxS G (c + 2) (sLk S w (nI j) (sVw S w)) (sLv S w (nI j) (sVw S w))).2.2.1 (c + 2) 0 = sLk S w (nI j) (sVw S w) := by simp [bxS, gsI, gsJ]
      have x1 : (bxS G (c + 2) (sLk S w (nI j) (sVw S w)) (sLv S w (nI j) (sVw S w))).2.2.2.1 (c + 2) 1 = sLv S w (nI j) (sVw S w) := by simp [bxS, gsI, gsJ]
      obtain ⟨n1, kc1, ks1, G1, h1, h2, h3, h4, h5, h6, h7, h8, _⟩ := rA_140 (g := g) (kc := kc) (ks := ks) (w := o) (j := nI j) (v := sVw S w) hA1 hP1 (by omega) ho (Or.inl rfl) x0 x1 hok
      have e0 : (bxS G (c + 2) (sLk S w (nI j) (sVw S w)) (sLv S w (nI j) (sVw S w))).1 = G.1 := rfl
      have w1' : (bxS G (c + 2) (sLk S w (nI j) (sVw S w)) (sLv S w (nI j) (sVw S w))).1 (b + 5 + w) = 14 := w1
      have w8' : (bxS G (c + 2) (sLk S w (nI j) (sVw S w)) (sLv S w (nI j) (sVw S w))).2.2.1 (b + 5 + w) 4 = sVw S w := (rA_w hA1 hw).2.2.2.2.2.2.2.1
      have k0' : (bxS G (c + 2) (sLk S w (nI j) (sVw S w)) (sLv S w (nI j) (sVw S w))).1 c = 15 := k0
      have z0 : G1.1 c = 15 := h2.1.2.1.1
      rw [e0] at h8
      by_cases f2 : sPin S o (nI j) (sVw S w) (sLk S w (nI j) (sVw S w)) = 0
      · rw [ans_yes f2] at h1
        have i1 := ih (j + 1) n1 kc1 ks1 G1 _ (.val (.int 1)) (by rw [mPin_many]; omega) h2 (h3 f2)
        rw [mPin_many] at i1
        rw [mvL_go (f := stC w o) (y := 1) (T := mPin S o (nI j) (sVw S w) (sLk S w (nI j) (sVw S w)) (sLv S w (nI j) (sVw S w))) (by unfold stC; rw [if_pos f1, f2])]
        refine mvE_le (a1 := d + 2 + 1) (a2 := 6 * d + 65 + 6) (mvE_go (n1 := n1) (kc1 := kc1) (ks1 := ks1) (G1 := G1) ?_ h5 h6 h7 h8) (by omega) (by omega)
        simp only [x147_0, x147_1, x147_2, x147_3, x147_4, x147_7, x147_10, x147_11, x147_12, x147_13, x147_14, x147_17, x147_18, x147_21, x147_24, x147_26, x147_28, x147_29, x147_32, x147_33, x147_34, x147_35, x147_37, x147_40, x147_41, x147_42, x147_43, x147_44, x147_45, x147_48, x147_49, x147_52, x147_55, x147_57, x147_59, x147_60, x147_63, x147_64, x147_65, x147_66, x147_68, x147_71, x147_72, x147_78, x147_79, x147_80, x147_83, x147_86, gf_14_3 w1, w6, c1, gf_14_4 w1, w8, gf_15_1 k0, gc_15 k0, k139, gf_14_4 w1', w8', gf_15_1 k0', gc_15 k0', h1, Option.bind_some, Option.toList_some, Option.toList_none, List.cons_append, List.nil_append, Option.isSome_some, if_true, eq_self, or_true, true_or, xb_01, mcl_cl, not_true_eq_false, not_false_eq_true, if_false]
        simp only [x147_75, nI_1]
        exact i1
      · obtain ⟨y1, y2⟩ := ans_no (sPin_why _ _ _ _ _) f2
        rw [y1] at h1
        have hno := h4 f2
        rw [mPin_no f2] at h2 hno
        obtain ⟨h', q1, q2⟩ := mvE_145 (g := g) (kc := kc1) (ks := ks1) (i := nI j) (j := 1) (k := sPin S o (nI j) (sVw S w) (sLk S w (nI j) (sVw S w))) h2 hno (by omega)
        rw [mvL_no (f := stC w o) (y := 1) (z := sPin S o (nI j) (sVw S w) (sLk S w (nI j) (sVw S w))) (T := S) (by unfold stC; rw [if_pos f1, mPin_no f2]) f2, fMv_1 f2]
        refine mvE_le (a1 := 2 + 1) (a2 := 65 + 6) (mvE_go (n1 := n1) (kc1 := kc1) (ks1 := ks1) (G1 := G1) ?_ h5 h6 h7 h8) (by omega) (by omega)
        simp only [x147_0, x147_1, x147_2, x147_3, x147_4, x147_7, x147_10, x147_11, x147_12, x147_13, x147_14, x147_17, x147_18, x147_21, x147_24, x147_26, x147_28, x147_29, x147_32, x147_33, x147_34, x147_35, x147_37, x147_40, x147_41, x147_42, x147_43, x147_44, x147_45, x147_48, x147_49, x147_52, x147_55, x147_57, x147_59, x147_60, x147_63, x147_64, x147_65, x147_66, x147_68, x147_71, x147_72, x147_78, x147_79, x147_80, x147_83, x147_86, gf_14_3 w1, w6, c1, gf_14_4 w1, w8, gf_15_1 k0, gc_15 k0, k139, gf_14_4 w1', w8', gf_15_1 k0', gc_15 k0', h1, y2, gc_15 z0, q1, Option.bind_some, Option.toList_some, Option.toList_none, List.cons_append, List.nil_append, Option.isSome_some, if_true, eq_self, or_true, true_or, xb_01, mcl_cl, not_true_eq_false, not_false_eq_true, if_false]
        exact q2
    · obtain ⟨y1, y2⟩ := ans_no hwy f1
      rw [if_neg f1, y1] at k139
      obtain ⟨h', q1, q2⟩ := mvE_145 (g := g) (kc := kc) (ks := ks) (i := nI j) (j := 0) (k := sLook S w (nI j) (sVw S w)) hA hP (by omega)
      rw [mvL_no (f := stC w o) (y := 0) (z := sLook S w (nI j) (sVw S w)) (T := S) (by unfold stC; rw [if_neg f1]) f1, fMv_1 f1]
      refine mvE_le (a1 := 2) (a2 := 65) ?_ (by omega) (by omega)
      simp only [x147_0, x147_1, x147_2, x147_3, x147_4, x147_7, x147_10, x147_11, x147_12, x147_13, x147_14, x147_17, x147_18, x147_21, x147_24, x147_26, x147_28, x147_29, x147_32, x147_33, x147_34, x147_35, x147_37, x147_40, x147_41, x147_42, x147_43, x147_44, x147_45, x147_48, x147_49, x147_52, x147_55, x147_57, x147_59, x147_60, x147_63, x147_64, x147_65, x147_66, x147_68, x147_71, x147_72, x147_78, x147_79, x147_80, x147_83, x147_86, gf_14_3 w1, w6, c1, gf_14_4 w1, w8, gf_15_1 k0, gc_15 k0, k139, y2, q1, Option.bind_some, Option.toList_some, Option.toList_none, List.cons_append, List.nil_append, Option.isSome_some, if_true, eq_self, or_true, true_or, xb_01, mcl_cl, not_true_eq_false, not_false_eq_true, if_false]
      exact q2
theorem e147 (hw : w < 6) (ho : o < 6) (hA : rA g G c n b ρ S) (hp : G.2.2.1 (c + 7) 1 = 0) : mvE g c b ρ n kc ks G 34 257 (X g 147 0 [.val (va_rf (some c)), .val (va_rf (some (b + 5 + w))), .val (va_rf (some (b + 5 + o))), .unset, .unset] [] (gH n kc ks G)) (fMv (nI (sMany S w)) (mvL (stC w o) 0 (sMany S w) (msI S 16 0))).1 (fMv (nI (sMany S w)) (mvL (stC w o) 0 (sMany S w) (msI S 16 0))).2 := by
  have hA2 : rA g G c n b ρ (msI S 16 0) := rA_ev mEv_16 hA
  have h1 := l147 (g := g) (c := c) (b := b) (ρ := ρ) hw ho (sMany S w) 0 n kc ks G (msI S 16 0) .unset (Nat.zero_add _) hA2 (rPd_0 hp)
  have hm := rA_many hA hw
  refine mvE_le (a1 := sMany S w + 2) (a2 := 6 * sMany S w + 65) ?_ (by omega) (by omega)
  simp only [x147_0, x147_1, Option.bind_some, Option.toList_some, Option.toList_none, List.cons_append, List.nil_append, Option.isSome_some, if_true, eq_self, or_true, true_or, xb_01, mcl_cl, not_true_eq_false, not_false_eq_true, if_false]
  exact h1
theorem l110 (hw : w < 6) (hok : okb k u) : ∀ d j n kc ks (G : GS) (S : MS) (s7 : Slot), j + d = sMany S w → rA g G c n b ρ S → rPd G c ρ S j → G.2.2.1 (c + 2) 0 = k → G.2.2.2.1 (c + 2) 1 = u → mvE g c b ρ n kc ks G (d + 2) (6 * d + 65) (X g 110 51 [.val (va_rf (some c)), .val (.int i1), .val (.int i2), .val (.long z), .second, .val (va_rf (some (b + 5 + w))), .val (.int (nI j)), s7] [] (gH n kc ks G)) (fMv (nI (sMany S w)) (mvL (stF w k u) j d S)).1 (fMv (nI (sMany S w)) (mvL (stF w k u) j d S)).2 := by
  intro d
  induction d with
  | zero =>
    intro j n kc ks G S s7 hj hA hP x0 x1
    obtain ⟨w1, w2, w3, w4, w5, w6, w7, w8, w9, w10⟩ := rA_w hA hw
    have k0 : G.1 c = 15 := hA.1.2.1.1
    obtain ⟨h', h1, h2⟩ := mvE_146 (g := g) (kc := kc) (ks := ks) (i := nI (sMany S w)) hA hP (by omega)
    have c1 : nI (sMany S w) ≤ nI j := nI_le (by omega) (by omega)
    rw [mvL, fMv_0]
    simp only [x110_0, x110_1, x110_4, x110_5, x110_8, x110_10, x110_12, x110_15, x110_16, x110_19, x110_22, x110_23, x110_24, x110_25, x110_26, x110_29, x110_32, x110_34, x110_35, x110_36, x110_39, x110_40, x110_41, x110_42, x110_45, x110_48, x110_49, x110_51, x110_53, x110_55, x110_58, x110_61, x110_62, x110_64, x110_66, x110_68, x110_69, x110_72, x110_75, x110_77, x110_79, x110_80, x110_83, x110_84, x110_86, x110_87, x110_89, x110_92, x110_93, x110_99, x110_100, x110_102, x110_105, x110_108, gf_14_3 w1, w6, c1, gc_15 k0, h1, Option.bind_some, Option.toList_some, Option.toList_none, List.cons_append, List.nil_append, Option.isSome_some, if_true, eq_self, or_true, true_or, xb_01, mcl_cl, not_true_eq_false, not_false_eq_true, if_false]
    exact h2
  | succ d ih =>
    intro j n kc ks G S s7 hj hA hP x0 x1
    obtain ⟨w1, w2, w3, w4, w5, w6, w7, w8, w9, w10⟩ := rA_w hA hw
    have k0 : G.1 c = 15 := hA.1.2.1.1
    have c1 : ¬ nI (sMany S w) ≤ nI j := nI_ge (by omega) (by omega)
    obtain ⟨n1, kc1, ks1, G1, h1, h2, h3, h4, h5, h6, h7, h8, h9⟩ := rA_140 (g := g) (kc := kc) (ks := ks) (w := w) (j := nI j) (v := 8) hA hP (by omega) hw (Or.inl rfl) x0 x1 hok
    have z0 : G1.1 c = 15 := h2.1.2.1.1
    by_cases f2 : sPin S w (nI j) 8 k = 0
    · rw [ans_yes f2] at h1
      obtain ⟨u1, u2⟩ := h9 (c + 2) (Or.inl rfl)
      have i1 := ih (j + 1) n1 kc1 ks1 G1 _ (.val (.int 1)) (by rw [mPin_many]; omega) h2 (h3 f2) (by rw [u1]; exact x0) (by rw [u2]; exact x1)
      rw [mPin_many] at i1
      rw [mvL_go (f := stF w k u) (y := 1) (T := mPin S w (nI j) 8 k u) (by unfold stF; rw [f2])]
      refine mvE_le (a1 := d + 2 + 1) (a2 := 6 * d + 65 + 6) (mvE_go (n1 := n1) (kc1 := kc1) (ks1 := ks1) (G1 := G1) ?_ h5 h6 h7 h8) (by omega) (by omega)
      simp only [x110_0, x110_1, x110_4, x110_5, x110_8, x110_10, x110_12, x110_15, x110_16, x110_19, x110_22, x110_23, x110_24, x110_25, x110_26, x110_29, x110_32, x110_34, x110_35, x110_36, x110_39, x110_40, x110_41, x110_42, x110_45, x110_48, x110_49, x110_51, x110_53, x110_55, x110_58, x110_61, x110_62, x110_64, x110_66, x110_68, x110_69, x110_72, x110_75, x110_77, x110_79, x110_80, x110_83, x110_84, x110_86, x110_87, x110_89, x110_92, x110_93, x110_99, x110_100, x110_102, x110_105, x110_108, gf_14_3 w1, w6, c1, gf_15_1 k0, gc_15 k0, h1, Option.bind_some, Option.toList_some, Option.toList_none, List.cons_append, List.nil_append, Option.isSome_some, if_true, eq_self, or_true, true_or, xb_01, mcl_cl, not_true_eq_false, not_false_eq_true, if_false]
      simp only [x110_96, nI_1]
      exact i1
    · obtain ⟨y1, y2⟩ := ans_no (sPin_why _ _ _ _ _) f2
      rw [y1] at h1
      have hno := h4 f2
      rw [mPin_no f2] at h2 hno
      obtain ⟨h', q1, q2⟩ := mvE_145 (g := g) (kc := kc1) (ks := ks1) (i := nI j) (j := 1) (k := sPin S w (nI j) 8 k) h2 hno (by omega)
      rw [mvL_no (f := stF w k u) (y := 1) (z := sPin S w (nI j) 8 k) (T := S) (by unfold stF; rw [mPin_no f2]) f2, fMv_1 f2]
      refine mvE_le (a1 := 2 + 1) (a2 := 65 + 6) (mvE_go (n1 := n1) (kc1 := kc1) (ks1 := ks1) (G1 := G1) ?_ h5 h6 h7 h8) (by omega) (by omega)
      simp only [x110_0, x110_1, x110_4, x110_5, x110_8, x110_10, x110_12, x110_15, x110_16, x110_19, x110_22, x110_23, x110_24, x110_25, x110_26, x110_29, x110_32, x110_34, x110_35, x110_36, x110_39, x110_40, x110_41, x110_42, x110_45, x110_48, x110_49, x110_51, x110_53, x110_55, x110_58, x110_61, x110_62, x110_64, x110_66, x110_68, x110_69, x110_72, x110_75, x110_77, x110_79, x110_80, x110_83, x110_84, x110_86, x110_87, x110_89, x110_92, x110_93, x110_99, x110_100, x110_102, x110_105, x110_108, gf_14_3 w1, w6, c1, gf_15_1 k0, gc_15 k0, h1, y2, gc_15 z0, q1, Option.bind_some, Option.toList_some, Option.toList_none, List.cons_append, List.nil_append, Option.isSome_some, if_true, eq_self, or_true, true_or, xb_01, mcl_cl, not_true_eq_false, not_false_eq_true, if_false]
      exact q2
theorem s110 (hA : rA g G c n b ρ S) (hp : G.2.2.1 (c + 7) 1 = 0) : sim g c n kc ks G 110 [.val (va_rf (some c)), .val (.int i), .val (.int k), .val (.long u), .second, .unset, .unset, .unset] (.int (fFill S i k u).1) (fFill S i k u).2 := by
  have k0 : G.1 c = 15 := hA.1.2.1.1
  have k2 : G.1 (c + 2) = 16 := hA.1.2.1.2.2.1
  have hb := hA.2.1
  have hB := hA.2.2.1
  have h10 : ¬ (1 : Int32) = 0 := by decide
  unfold fFill
  cases e1 : mSl i with
  | false =>
    have k13 := k13n (g := g) (kc := kc) (ks := ks) hA e1
    rw [if_pos rfl]
    refine sim_same hA hp ?_
    simp only [x110_0, x110_1, x110_4, x110_5, x110_8, x110_10, x110_12, x110_15, x110_16, x110_19, x110_22, x110_23, gf_15_9 k0, hb, gc_9 hB.1, k13, Option.bind_some, Option.toList_some, Option.toList_none, List.cons_append, List.nil_append, Option.isSome_some, if_true, eq_self, or_true, true_or, xb_01, mcl_cl, not_true_eq_false, not_false_eq_true, if_false]
  | true =>
    obtain ⟨k13, hi⟩ := k13w (g := g) (kc := kc) (ks := ks) hA e1
    have hne : ¬ (some (b + 5 + tn i) = none) := by simp
    rw [if_neg (by simp)]
    cases e2 : mWithin k.toInt 0 10 with
    | false =>
      rw [if_pos rfl]
      refine sim_same hA hp ?_
      simp only [x110_0, x110_1, x110_4, x110_5, x110_8, x110_10, x110_12, x110_15, x110_16, x110_19, x110_22, x110_23, x110_24, x110_25, x110_26, x110_29, x110_32, x110_34, gf_15_9 k0, hb, gc_9 hB.1, k13, hne, c130, e2, xb_f, Option.bind_some, Option.toList_some, Option.toList_none, List.cons_append, List.nil_append, Option.isSome_some, if_true, eq_self, or_true, true_or, xb_01, mcl_cl, not_true_eq_false, not_false_eq_true, if_false]
    | true =>
      rw [if_neg (by simp)]
      cases e3 : mNone k u with
      | true =>
        rw [if_pos rfl]
        refine sim_same hA hp ?_
        simp only [x110_0, x110_1, x110_4, x110_5, x110_8, x110_10, x110_12, x110_15, x110_16, x110_19, x110_22, x110_23, x110_24, x110_25, x110_26, x110_29, x110_32, x110_34, gf_15_9 k0, hb, gc_9 hB.1, k13, hne, c130, e2, xb_t, h10, c132, e3, Bool.not_true, xb_f, Option.bind_some, Option.toList_some, Option.toList_none, List.cons_append, List.nil_append, Option.isSome_some, if_true, eq_self, or_true, true_or, xb_01, mcl_cl, not_true_eq_false, not_false_eq_true, if_false]
      | false =>
        rw [if_neg (by simp)]
        have hq : bq (bxS G (c + 2) k (pBy k u)) G c := bq_x (Or.inl rfl)
        have hA2 : rA g (bxS G (c + 2) k (pBy k u)) c n b ρ (msI S 16 0) := rA_ev mEv_16 (rA_bq hA hq)
        have h1 := l110 (g := g) (c := c) (b := b) (ρ := ρ) (i1 := i) (i2 := k) (z := u) (k := k) (u := pBy k u) hi (okb_by (mWithin_iff.mp e2).1 (mWithin_iff.mp e2).2 e3) (sMany S (tn i)) 0 n kc ks _ (msI S 16 0) .unset (Nat.zero_add _) hA2 (rPd_0 (by rw [bq_7 hq]; exact hp)) (by simp [bxS, gsI, gsJ]) (by simp [bxS, gsI, gsJ])
        have hm := rA_many hA hi
        refine sim_mv (b := b) (ρ := ρ) (mvE_le (a1 := sMany S (tn i) + 2) (a2 := 6 * sMany S (tn i) + 65) ?_ (by omega) (by omega))
        simp only [x110_0, x110_1, x110_4, x110_5, x110_8, x110_10, x110_12, x110_15, x110_16, x110_19, x110_22, x110_23, x110_24, x110_25, x110_26, x110_29, x110_32, x110_34, x110_35, x110_36, x110_39, x110_40, x110_41, x110_42, x110_45, x110_48, x110_49, gf_15_9 k0, hb, gc_9 hB.1, k13, hne, c130, e2, xb_t, h10, c132, e3, Bool.not_false, gf_15_1 k0, c41, gc_16 k2, c27' k2, Option.bind_some, Option.toList_some, Option.toList_none, List.cons_append, List.nil_append, Option.isSome_some, if_true, eq_self, or_true, true_or, xb_01, mcl_cl, not_true_eq_false, not_false_eq_true, if_false]
        exact h1
end K38
