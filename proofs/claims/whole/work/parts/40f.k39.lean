/-! THE CLASS beside the reference, 26: swapped -/
section K39
variable {g : xG} {n kc ks a b c s t w q l x y jn d r p n' e kb A n1 kc1 ks1 e1 e2 a1 a2 o : Nat} {G T U G1 : GS} {h : xH} {i j k m v i1 i2 : Int32} {u z : Int64} {S S1 S' V : MS} {ρ κ : Nat → Nat} {L L' : List Nat} {cnt : Nat} {at' wk ik : Nat → Int32} {wv iv : Nat → Int64}
theorem e149 {j : Nat} (hw : w < 6) (ho : o < 6) (hj : j < 32) (hA : rA g G c n b ρ S) (hP : rPd G c ρ S (2 * j)) : (((stS w o j S).2.1 = 0 ∧ ∃ n1 kc1 ks1 G1, X g 149 0 [.val (va_rf (some c)), .val (va_rf (some (b + 5 + w))), .val (va_rf (some (b + 5 + o))), .val (.int (nI j)), .unset] [] (gH n kc ks G) = some (some (.int 1), gH n1 kc1 ks1 G1) ∧ rA g G1 c n1 b ρ (stS w o j S).2.2 ∧ rPd G1 c ρ (stS w o j S).2.2 (2 * (j + 1)) ∧ n ≤ n1 ∧ kc1 ≤ kc + 2 ∧ ks1 ≤ ks + 12 ∧ ∀ q, q < n → G1.1 q = G.1 q)) ∨ (¬ (stS w o j S).2.1 = 0 ∧ ∃ h', X g 149 0 [.val (va_rf (some c)), .val (va_rf (some (b + 5 + w))), .val (va_rf (some (b + 5 + o))), .val (.int (nI j)), .unset] [] (gH n kc ks G) = some (some (.int (-100 - nI j)), h') ∧ mvE g c b ρ n kc ks G 4 77 (some (some (.int (-100 - nI j)), h')) (-100 - nI j) (mStop (stS w o j S).2.2 (tn ((stS w o j S).2.2.1 16)) (nI j) (stS w o j S).1 (stS w o j S).2.1)) := by
  have k0 : G.1 c = 15 := hA.1.2.1.1
  have k2 : G.1 (c + 2) = 16 := hA.1.2.1.2.2.1
  have k3 : G.1 (c + 3) = 16 := hA.1.2.1.2.2.2.1
  have k139 := c139 (g := g) (n := n) (kc := kc) (ks := ks) (j := nI j) (v := 8) hA hw (by decide) (by decide) k2
  unfold stS
  by_cases f1 : sLook S w (nI j) 8 = 0
  · have hok := okb_look hA.2.2.2.2.2.2.2.2.1 f1
    rw [if_pos f1, ans_yes f1] at k139
    rw [if_neg (fun z => z f1)]
    generalize sLk S w (nI j) 8 = kw at *
    generalize sLv S w (nI j) 8 = uw at *
    have hq : bq (bxS G (c + 2) kw uw) G c := bq_x (Or.inl rfl)
    have hA1 := rA_bq hA hq
    have hP1 := rPd_bq hA hq hP
    have k0' : (bxS G (c + 2) kw uw).1 c = 15 := k0
    have k3' : (bxS G (c + 2) kw uw).1 (c + 3) = 16 := k3
    have m139 := c139 (g := g) (n := n) (kc := kc) (ks := ks) (j := nI j) (v := 8) hA1 ho (by decide) (by decide) k3'
    by_cases f2 : sLook S o (nI j) 8 = 0
    · have hok2 := okb_look hA.2.2.2.2.2.2.2.2.1 f2
      rw [if_pos f2, ans_yes f2] at m139
      rw [if_neg (fun z => z f2)]
      generalize sLk S o (nI j) 8 = ko at *
      generalize sLv S o (nI j) 8 = uo at *
      have hq2 : bq (bxS (bxS G (c + 2) kw uw) (c + 3) ko uo) (bxS G (c + 2) kw uw) c := bq_x (Or.inr rfl)
      have hA2 := rA_bq hA1 hq2
      have hP2 := rPd_bq hA1 hq2 hP1
      have k0'' : (bxS (bxS G (c + 2) kw uw) (c + 3) ko uo).1 c = 15 := k0
      have x0 : (bxS (bxS G (c + 2) kw uw) (c + 3) ko uo).2.2.1 (c + 2) 0 = kw := by simp [bxS, gsI, gsJ]
      have x1 : (bxS (bxS G (c + 2) kw uw) (c + 3) ko uo).2.2.2.1 (c + 2) 1 = uw := by simp [bxS, gsI, gsJ]
      have x2 : (bxS (bxS G (c + 2) kw uw) (c + 3) ko uo).2.2.1 (c + 3) 0 = ko := by simp [bxS, gsI, gsJ]
      have x3 : (bxS (bxS G (c + 2) kw uw) (c + 3) ko uo).2.2.2.1 (c + 3) 1 = uo := by simp [bxS, gsI, gsJ]
      have e0 : (bxS (bxS G (c + 2) kw uw) (c + 3) ko uo).1 = G.1 := rfl
      obtain ⟨n1, kc1, ks1, G1, h1, h2, h3, h4, h5, h6, h7, h8, h9⟩ := rA_140 (g := g) (kc := kc) (ks := ks) (w := o) (j := nI j) (v := 8) hA2 hP2 (by omega) ho (Or.inl rfl) x0 x1 hok
      rw [e0] at h8
      have z0 : G1.1 c = 15 := h2.1.2.1.1
      by_cases f3 : sPin S o (nI j) 8 kw = 0
      · rw [ans_yes f3] at h1
        rw [if_neg (fun z => z f3)]
        obtain ⟨u1, u2⟩ := h9 (c + 3) (Or.inr (Or.inl rfl))
        obtain ⟨n2, kc2, ks2, G2, g1, g2, g3, g4, g5, g6, g7, g8, g9⟩ := rA_140 (g := g) (kc := kc1) (ks := ks1) (w := w) (j := nI j) (v := 8) h2 (h3 f3) (by omega) hw (Or.inr rfl) (by rw [u1]; exact x2) (by rw [u2]; exact x3) hok2
        have y0 : G2.1 c = 15 := g2.1.2.1.1
        by_cases f4 : sPin (mPin S o (nI j) 8 kw uw) w (nI j) 8 ko = 0
        · rw [ans_yes f4] at g1
          refine Or.inl ⟨f4, n2, kc2, ks2, G2, ?_, g2, g3 f4, by omega, by omega, by omega, fun q hq => by rw [g8 q (by omega), h8 q hq]⟩
          simp only [x149_0, x149_1, x149_2, x149_3, x149_5, x149_6, x149_9, x149_12, x149_14, x149_16, x149_17, x149_20, x149_21, x149_22, x149_23, x149_25, x149_28, x149_29, x149_30, x149_31, x149_32, x149_34, x149_35, x149_38, x149_41, x149_43, x149_45, x149_46, x149_49, x149_50, x149_51, x149_52, x149_54, x149_57, x149_58, x149_59, x149_60, x149_61, x149_63, x149_64, x149_67, x149_70, x149_72, x149_74, x149_75, x149_78, x149_79, x149_80, x149_81, x149_83, x149_86, x149_87, x149_88, x149_89, x149_90, x149_92, x149_93, x149_96, x149_99, x149_101, x149_103, x149_104, x149_107, x149_108, x149_109, x149_110, x149_112, x149_115, x149_116, x149_117, gf_15_1 k0, gc_15 k0, k139, gf_15_2 k0', gc_15 k0', m139, gf_15_1 k0'', gc_15 k0'', h1, gf_15_2 z0, gc_15 z0, g1, Option.bind_some, Option.toList_some, Option.toList_none, List.cons_append, List.nil_append, Option.isSome_some, if_true, eq_self, or_true, true_or, xb_01, mcl_cl, not_true_eq_false, not_false_eq_true, if_false]
        · obtain ⟨y1, y2⟩ := ans_no (sPin_why _ _ _ _ _) f4
          rw [y1] at g1
          have hno := g4 f4
          obtain ⟨h', q1, q2⟩ := mvE_145 (g := g) (kc := kc2) (ks := ks2) (i := nI j) (j := 3) (k := sPin (mPin S o (nI j) 8 kw uw) w (nI j) 8 ko) g2 hno (by omega)
          refine Or.inr ⟨f4, h', ?_, ?_⟩
          · simp only [x149_0, x149_1, x149_2, x149_3, x149_5, x149_6, x149_9, x149_12, x149_14, x149_16, x149_17, x149_20, x149_21, x149_22, x149_23, x149_25, x149_28, x149_29, x149_30, x149_31, x149_32, x149_34, x149_35, x149_38, x149_41, x149_43, x149_45, x149_46, x149_49, x149_50, x149_51, x149_52, x149_54, x149_57, x149_58, x149_59, x149_60, x149_61, x149_63, x149_64, x149_67, x149_70, x149_72, x149_74, x149_75, x149_78, x149_79, x149_80, x149_81, x149_83, x149_86, x149_87, x149_88, x149_89, x149_90, x149_92, x149_93, x149_96, x149_99, x149_101, x149_103, x149_104, x149_107, x149_108, x149_109, x149_110, x149_112, x149_115, x149_116, x149_117, gf_15_1 k0, gc_15 k0, k139, gf_15_2 k0', gc_15 k0', m139, gf_15_1 k0'', gc_15 k0'', h1, gf_15_2 z0, gc_15 z0, g1, y2, gc_15 y0, q1, Option.bind_some, Option.toList_some, Option.toList_none, List.cons_append, List.nil_append, Option.isSome_some, if_true, eq_self, or_true, true_or, xb_01, mcl_cl, not_true_eq_false, not_false_eq_true, if_false]
          · exact mvE_go (e1 := 2) (e2 := 12) q2 (by omega) (by omega) (by omega) (fun q hq => by rw [g8 q (by omega), h8 q hq])
      · obtain ⟨y1, y2⟩ := ans_no (sPin_why _ _ _ _ _) f3
        rw [y1] at h1
        rw [if_pos f3]
        have hno := h4 f3
        rw [mPin_no f3] at h2 hno
        obtain ⟨h', q1, q2⟩ := mvE_145 (g := g) (kc := kc1) (ks := ks1) (i := nI j) (j := 2) (k := sPin S o (nI j) 8 kw) h2 hno (by omega)
        refine Or.inr ⟨f3, h', ?_, ?_⟩
        · simp only [x149_0, x149_1, x149_2, x149_3, x149_5, x149_6, x149_9, x149_12, x149_14, x149_16, x149_17, x149_20, x149_21, x149_22, x149_23, x149_25, x149_28, x149_29, x149_30, x149_31, x149_32, x149_34, x149_35, x149_38, x149_41, x149_43, x149_45, x149_46, x149_49, x149_50, x149_51, x149_52, x149_54, x149_57, x149_58, x149_59, x149_60, x149_61, x149_63, x149_64, x149_67, x149_70, x149_72, x149_74, x149_75, x149_78, x149_79, x149_80, x149_81, x149_83, x149_86, x149_87, x149_88, x149_89, x149_90, x149_92, x149_93, x149_96, x149_99, x149_101, x149_103, x149_104, x149_107, x149_108, x149_109, x149_110, x149_112, x149_115, x149_116, x149_117, gf_15_1 k0, gc_15 k0, k139, gf_15_2 k0', gc_15 k0', m139, gf_15_1 k0'', gc_15 k0'', h1, y2, gc_15 z0, q1, Option.bind_some, Option.toList_some, Option.toList_none, List.cons_append, List.nil_append, Option.isSome_some, if_true, eq_self, or_true, true_or, xb_01, mcl_cl, not_true_eq_false, not_false_eq_true, if_false]
        · exact mvE_go (e1 := 2) (e2 := 12) q2 (by omega) (by omega) (by omega) h8
    · obtain ⟨y1, y2⟩ := ans_no (sLook_why _ _ _ _) f2
      rw [if_neg f2, y1] at m139
      rw [if_pos f2]
      obtain ⟨h', q1, q2⟩ := mvE_145 (g := g) (kc := kc) (ks := ks) (i := nI j) (j := 1) (k := sLook S o (nI j) 8) hA1 hP1 (by omega)
      refine Or.inr ⟨f2, h', ?_, ?_⟩
      · simp only [x149_0, x149_1, x149_2, x149_3, x149_5, x149_6, x149_9, x149_12, x149_14, x149_16, x149_17, x149_20, x149_21, x149_22, x149_23, x149_25, x149_28, x149_29, x149_30, x149_31, x149_32, x149_34, x149_35, x149_38, x149_41, x149_43, x149_45, x149_46, x149_49, x149_50, x149_51, x149_52, x149_54, x149_57, x149_58, x149_59, x149_60, x149_61, x149_63, x149_64, x149_67, x149_70, x149_72, x149_74, x149_75, x149_78, x149_79, x149_80, x149_81, x149_83, x149_86, x149_87, x149_88, x149_89, x149_90, x149_92, x149_93, x149_96, x149_99, x149_101, x149_103, x149_104, x149_107, x149_108, x149_109, x149_110, x149_112, x149_115, x149_116, x149_117, gf_15_1 k0, gc_15 k0, k139, gf_15_2 k0', gc_15 k0', m139, y2, q1, Option.bind_some, Option.toList_some, Option.toList_none, List.cons_append, List.nil_append, Option.isSome_some, if_true, eq_self, or_true, true_or, xb_01, mcl_cl, not_true_eq_false, not_false_eq_true, if_false]
      · exact mvE_go (e1 := 2) (e2 := 12) q2 (by omega) (by omega) (by omega) (fun _ _ => rfl)
  · obtain ⟨y1, y2⟩ := ans_no (sLook_why _ _ _ _) f1
    rw [if_neg f1, y1] at k139
    rw [if_pos f1]
    obtain ⟨h', q1, q2⟩ := mvE_145 (g := g) (kc := kc) (ks := ks) (i := nI j) (j := 0) (k := sLook S w (nI j) 8) hA hP (by omega)
    refine Or.inr ⟨f1, h', ?_, ?_⟩
    · simp only [x149_0, x149_1, x149_2, x149_3, x149_5, x149_6, x149_9, x149_12, x149_14, x149_16, x149_17, x149_20, x149_21, x149_22, x149_23, x149_25, x149_28, x149_29, x149_30, x149_31, x149_32, x149_34, x149_35, x149_38, x149_41, x149_43, x149_45, x149_46, x149_49, x149_50, x149_51, x149_52, x149_54, x149_57, x149_58, x149_59, x149_60, x149_61, x149_63, x149_64, x149_67, x149_70, x149_72, x149_74, x149_75, x149_78, x149_79, x149_80, x149_81, x149_83, x149_86, x149_87, x149_88, x149_89, x149_90, x149_92, x149_93, x149_96, x149_99, x149_101, x149_103, x149_104, x149_107, x149_108, x149_109, x149_110, x149_112, x149_115, x149_116, x149_117, gf_15_1 k0, gc_15 k0, k139, y2, q1, Option.bind_some, Option.toList_some, Option.toList_none, List.cons_append, List.nil_append, Option.isSome_some, if_true, eq_self, or_true, true_or, xb_01, mcl_cl, not_true_eq_false, not_false_eq_true, if_false]
    · exact mvE_go (e1 := 2) (e2 := 12) q2 (by omega) (by omega) (by omega) (fun _ _ => rfl)
theorem nI_100 : ∀ j, j < 32 → ¬ (-100 - nI j : Int32) = 1 := by decide +kernel
theorem stS_many (j : Nat) : sMany (stS w o j S).2.2 x = sMany S x := by
  unfold stS
  split
  · rfl
  · split
    · rfl
    · split
      · rfl
      · rw [mPin_many, mPin_many]
theorem l109 (hw : w < 6) (ho : o < 6) : ∀ d j n kc ks (G : GS) (S : MS) (s6 : Slot), j + d = sMany S w → rA g G c n b ρ S → rPd G c ρ S (2 * j) → mvE g c b ρ n kc ks G (2 * d + 4) (12 * d + 77) (X g 109 33 [.val (va_rf (some c)), .val (.int i1), .val (.int i2), .val (va_rf (some (b + 5 + w))), .val (va_rf (some (b + 5 + o))), .val (.int (nI j)), s6] [] (gH n kc ks G)) (fMv (nI (sMany S w)) (mvL (stS w o) j d S)).1 (fMv (nI (sMany S w)) (mvL (stS w o) j d S)).2 := by
  intro d
  induction d with
  | zero =>
    intro j n kc ks G S s6 hj hA hP
    obtain ⟨w1, w2, w3, w4, w5, w6, w7, w8, w9, w10⟩ := rA_w hA hw
    have k0 : G.1 c = 15 := hA.1.2.1.1
    obtain ⟨h', h1, h2⟩ := mvE_146 (g := g) (kc := kc) (ks := ks) (i := nI (sMany S w)) hA hP (by omega)
    have c1 : nI (sMany S w) ≤ nI j := nI_le (by omega) (by omega)
    rw [mvL, fMv_0]
    refine mvE_le (a1 := 2) (a2 := 65) ?_ (by omega) (by omega)
    simp only [x109_0, x109_1, x109_4, x109_5, x109_8, x109_9, x109_10, x109_13, x109_14, x109_17, x109_19, x109_20, x109_23, x109_25, x109_28, x109_29, x109_30, x109_31, x109_33, x109_35, x109_36, x109_39, x109_42, x109_43, x109_44, x109_46, x109_48, x109_51, x109_53, x109_55, x109_56, x109_59, x109_61, x109_62, x109_68, x109_69, x109_70, x109_73, x109_76, gf_14_3 w1, w6, c1, gc_15 k0, h1, Option.bind_some, Option.toList_some, Option.toList_none, List.cons_append, List.nil_append, Option.isSome_some, if_true, eq_self, or_true, true_or, xb_01, mcl_cl, not_true_eq_false, not_false_eq_true, if_false]
    exact h2
  | succ d ih =>
    intro j n kc ks G S s6 hj hA hP
    obtain ⟨w1, w2, w3, w4, w5, w6, w7, w8, w9, w10⟩ := rA_w hA hw
    have k0 : G.1 c = 15 := hA.1.2.1.1
    have c1 : ¬ nI (sMany S w) ≤ nI j := nI_ge (by omega) (by omega)
    rcases e149 (g := g) (kc := kc) (ks := ks) hw ho (show j < 32 by omega) hA hP with ⟨f1, n1, kc1, ks1, G1, h1, h2, h3, h4, h5, h6, h7⟩ | ⟨f1, h', h1, h2⟩
    · have i1 := ih (j + 1) n1 kc1 ks1 G1 _ (.val (.int 1)) (by rw [stS_many]; omega) h2 h3
      rw [stS_many] at i1
      rw [mvL_go (f := stS w o) (y := (stS w o j S).1) (T := (stS w o j S).2.2) (by rw [← f1])]
      refine mvE_le (a1 := 2 * d + 4 + 2) (a2 := 12 * d + 77 + 12) (mvE_go (n1 := n1) (kc1 := kc1) (ks1 := ks1) (G1 := G1) ?_ h4 h5 h6 h7) (by omega) (by omega)
      simp only [x109_0, x109_1, x109_4, x109_5, x109_8, x109_9, x109_10, x109_13, x109_14, x109_17, x109_19, x109_20, x109_23, x109_25, x109_28, x109_29, x109_30, x109_31, x109_33, x109_35, x109_36, x109_39, x109_42, x109_43, x109_44, x109_46, x109_48, x109_51, x109_53, x109_55, x109_56, x109_59, x109_61, x109_62, x109_68, x109_69, x109_70, x109_73, x109_76, gf_14_3 w1, w6, c1, gc_15 k0, h1, Option.bind_some, Option.toList_some, Option.toList_none, List.cons_append, List.nil_append, Option.isSome_some, if_true, eq_self, or_true, true_or, xb_01, mcl_cl, not_true_eq_false, not_false_eq_true, if_false]
      simp only [x109_65, nI_1]
      exact i1
    · have c2 := nI_100 j (by omega)
      rw [mvL_no (f := stS w o) (y := (stS w o j S).1) (z := (stS w o j S).2.1) (T := (stS w o j S).2.2) rfl f1, fMv_1 f1]
      refine mvE_le (a1 := 4) (a2 := 77) ?_ (by omega) (by omega)
      simp only [x109_0, x109_1, x109_4, x109_5, x109_8, x109_9, x109_10, x109_13, x109_14, x109_17, x109_19, x109_20, x109_23, x109_25, x109_28, x109_29, x109_30, x109_31, x109_33, x109_35, x109_36, x109_39, x109_42, x109_43, x109_44, x109_46, x109_48, x109_51, x109_53, x109_55, x109_56, x109_59, x109_61, x109_62, x109_68, x109_69, x109_70, x109_73, x109_76, gf_14_3 w1, w6, c1, gc_15 k0, h1, c2, Option.bind_some, Option.toList_some, Option.toList_none, List.cons_append, List.nil_append, Option.isSome_some, if_true, eq_self, or_true, true_or, xb_01, mcl_cl, not_true_eq_false, not_false_eq_true, if_false]
      exact h2
theorem s109 (hA : rA g G c n b ρ S) (hp : G.2.2.1 (c + 7) 1 = 0) : sim g c n kc ks G 109 [.val (va_rf (some c)), .val (.int i), .val (.int j), .unset, .unset, .unset, .unset] (.int (fSwap S i j).1) (fSwap S i j).2 := by
  have k0 : G.1 c = 15 := hA.1.2.1.1
  have hb := hA.2.1
  have hB := hA.2.2.1
  unfold fSwap
  cases e1 : mSl i with
  | false =>
    have k13 := k13n (g := g) (kc := kc) (ks := ks) hA e1
    rw [if_pos rfl]
    refine sim_same hA hp ?_
    cases e2 : mSl j with
    | false =>
      have k13' := k13n (g := g) (kc := kc) (ks := ks) hA e2
      simp only [x109_0, x109_1, x109_4, x109_5, x109_8, x109_9, x109_10, x109_13, x109_14, x109_17, x109_19, x109_20, x109_23, x109_25, x109_28, x109_29, gf_15_9 k0, hb, gc_9 hB.1, k13, k13', Option.bind_some, Option.toList_some, Option.toList_none, List.cons_append, List.nil_append, Option.isSome_some, if_true, eq_self, or_true, true_or, xb_01, mcl_cl, not_true_eq_false, not_false_eq_true, if_false]
    | true =>
      obtain ⟨k13', hi'⟩ := k13w (g := g) (kc := kc) (ks := ks) hA e2
      simp only [x109_0, x109_1, x109_4, x109_5, x109_8, x109_9, x109_10, x109_13, x109_14, x109_17, x109_19, x109_20, x109_23, x109_25, x109_28, x109_29, gf_15_9 k0, hb, gc_9 hB.1, k13, k13', Option.bind_some, Option.toList_some, Option.toList_none, List.cons_append, List.nil_append, Option.isSome_some, if_true, eq_self, or_true, true_or, xb_01, mcl_cl, not_true_eq_false, not_false_eq_true, if_false]
  | true =>
    obtain ⟨k13, hi⟩ := k13w (g := g) (kc := kc) (ks := ks) hA e1
    have hne : ¬ (some (b + 5 + tn i) = none) := by simp
    rw [if_neg (by simp)]
    cases e2 : mSl j with
    | false =>
      have k13' := k13n (g := g) (kc := kc) (ks := ks) hA e2
      rw [if_pos rfl]
      refine sim_same hA hp ?_
      simp only [x109_0, x109_1, x109_4, x109_5, x109_8, x109_9, x109_10, x109_13, x109_14, x109_17, x109_19, x109_20, x109_23, x109_25, x109_28, x109_29, gf_15_9 k0, hb, gc_9 hB.1, k13, k13', hne, Option.bind_some, Option.toList_some, Option.toList_none, List.cons_append, List.nil_append, Option.isSome_some, if_true, eq_self, or_true, true_or, xb_01, mcl_cl, not_true_eq_false, not_false_eq_true, if_false]
    | true =>
      rw [if_neg (by simp)]
      obtain ⟨k13', hi'⟩ := k13w (g := g) (kc := kc) (ks := ks) hA e2
      have hne' : ¬ (some (b + 5 + tn j) = none) := by simp
      have hA2 : rA g G c n b ρ (msI S 16 0) := rA_ev mEv_16 hA
      have h1 := l109 (g := g) (c := c) (b := b) (ρ := ρ) (i1 := i) (i2 := j) hi hi' (sMany S (tn i)) 0 n kc ks G (msI S 16 0) .unset (Nat.zero_add _) hA2 (rPd_0 hp)
      have hm := rA_many hA hi
      refine sim_mv (b := b) (ρ := ρ) (mvE_le (a1 := 2 * sMany S (tn i) + 4) (a2 := 12 * sMany S (tn i) + 77) ?_ (by omega) (by omega))
      simp only [x109_0, x109_1, x109_4, x109_5, x109_8, x109_9, x109_10, x109_13, x109_14, x109_17, x109_19, x109_20, x109_23, x109_25, x109_28, x109_29, x109_30, x109_31, gf_15_9 k0, hb, gc_9 hB.1, k13, k13', hne, hne', Option.bind_some, Option.toList_some, Option.toList_none, List.cons_append, List.nil_append, Option.isSome_some, if_true, eq_self, or_true, true_or, xb_01, mcl_cl, not_true_eq_false, not_false_eq_true, if_false]
      exact h1
end K39
