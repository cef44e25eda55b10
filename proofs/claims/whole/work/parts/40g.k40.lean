/-! THE CLASS beside the reference, 27: copied at once -/
section K40
variable {g : xG} {n kc ks a b c s t w q l x y jn d r p n' e kb n1 kc1 ks1 e1 e2 a1 a2 o : Nat} {G T U G1 : GS} {h : xH} {i j k m v i1 i2 : Int32} {u z : Int64} {S S1 S' V : MS} {ρ κ : Nat → Nat} {L L' : List Nat} {A : Nat → Int32} {B : Nat → Int64}
theorem mRr_ev {x : Nat} : mEv (mRr S A B x) S := ⟨fun _ _ _ _ _ => rfl, rfl, fun q _ _ h _ _ => funext fun t => if_neg (fun z => h z.1), fun q _ h _ => funext fun t => if_neg (fun z => h z.1)⟩
theorem l148b (hw : w < 6) (ho : o < 6) : ∀ d j n kc ks (G : GS) (S : MS) (s4 : Slot), j + d = sMany S w → rA g G c n b ρ S → rPd G c ρ S j → sVw S w = v → (∀ x, x < sMany S w → okb (A x) (B x) ∧ G.2.2.1 (c + 5) x = A x ∧ G.2.2.2.1 (c + 4) x = B x) → mvE g c b ρ n kc ks G (d + 2) (6 * d + 65) (X g 148 81 [.val (va_rf (some c)), .val (va_rf (some (b + 5 + w))), .val (va_rf (some (b + 5 + o))), .val (.int (nI j)), s4] [] (gH n kc ks G)) (fMv (nI (sMany S w)) (mvL (stP o v A B) j d S)).1 (fMv (nI (sMany S w)) (mvL (stP o v A B) j d S)).2 := by
  intro d
  induction d with
  | zero =>
    intro j n kc ks G S s4 hj hA hP hv hx
    obtain ⟨w1, w2, w3, w4, w5, w6, w7, w8, w9, w10⟩ := rA_w hA hw
    have k0 : G.1 c = 15 := hA.1.2.1.1
    obtain ⟨h', h1, h2⟩ := mvE_146 (g := g) (kc := kc) (ks := ks) (i := nI (sMany S w)) hA hP (by omega)
    have c1 : nI (sMany S w) ≤ nI j := nI_le (by omega) (by omega)
    rw [mvL, fMv_0]
    simp only [x148_81, x148_82, x148_83, x148_86, x148_89, x148_90, x148_92, x148_95, x148_96, x148_99, x148_100, x148_103, x148_104, x148_105, x148_106, x148_109, x148_110, x148_111, x148_114, x148_115, x148_116, x148_117, x148_118, x148_121, x148_122, x148_125, x148_128, x148_130, x148_132, x148_133, x148_136, x148_137, x148_138, x148_139, x148_141, x148_144, x148_145, x148_151, x148_152, x148_153, x148_156, x148_159, gf_14_3 w1, w6, c1, gc_15 k0, h1, Option.bind_some, Option.toList_some, Option.toList_none, List.cons_append, List.nil_append, Option.isSome_some, if_true, eq_self, or_true, true_or, xb_01, mcl_cl, not_true_eq_false, not_false_eq_true, if_false]
    exact h2
  | succ d ih =>
    intro j n kc ks G S s4 hj hA hP hv hx
    obtain ⟨w1, w2, w3, w4, w5, w6, w7, w8, w9, w10⟩ := rA_w hA hw
    rw [hv] at w8
    have k0 : G.1 c = 15 := hA.1.2.1.1
    have k2 : G.1 (c + 2) = 16 := hA.1.2.1.2.2.1
    obtain ⟨k4, k4'⟩ := hA.1.2.1.2.2.2.2.1
    obtain ⟨k5, k5'⟩ := hA.1.2.1.2.2.2.2.2.1
    have c1 : ¬ nI (sMany S w) ≤ nI j := nI_ge (by omega) (by omega)
    have c32 : ¬ (32 : Int32) ≤ nI j := nI_ge (b := 32) (by omega) (by omega)
    have hxi : xin (nI j) 32 = true := xin_nI (by omega) (by decide)
    have hc : (nI j).toNatClampNeg = j := nI_clamp (by omega)
    obtain ⟨hok, v1, v2⟩ := hx j (by omega)
    have hq : bq (bxS G (c + 2) (A j) (B j)) G c := bq_x (Or.inl rfl)
    have hA1 := rA_bq hA hq
    have hP1 := rPd_bq hA hq hP
    have x0 : (bxS G (c + 2) (A j) (B j)).2.2.1 (c + 2) 0 = A j := by simp [bxS, gsI, gsJ]
    have x1 : (bxS G (c + 2) (A j) (B j)).2.2.2.1 (c + 2) 1 = B j := by simp [bxS, gsI, gsJ]
    obtain ⟨n1, kc1, ks1, G1, h1, h2, h3, h4, h5, h6, h7, h8, h9⟩ := rA_140 (g := g) (kc := kc) (ks := ks) (w := o) (j := nI j) (v := v) hA1 hP1 (by omega) ho (Or.inl rfl) x0 x1 hok
    have e0 : (bxS G (c + 2) (A j) (B j)).1 = G.1 := rfl
    have w1' : (bxS G (c + 2) (A j) (B j)).1 (b + 5 + w) = 14 := w1
    have w8' : (bxS G (c + 2) (A j) (B j)).2.2.1 (b + 5 + w) 4 = v := by rw [← hv]; exact (rA_w hA1 hw).2.2.2.2.2.2.2.1
    have k0' : (bxS G (c + 2) (A j) (B j)).1 c = 15 := k0
    have z0 : G1.1 c = 15 := h2.1.2.1.1
    rw [e0] at h8
    by_cases f2 : sPin S o (nI j) v (A j) = 0
    · rw [ans_yes f2] at h1
      have i1 := ih (j + 1) n1 kc1 ks1 G1 _ (.val (.int 1)) (by rw [mPin_many]; omega) h2 (h3 f2) (by rw [mPin_vw]; exact hv) (by
        intro x hx'
        rw [mPin_many] at hx'
        obtain ⟨o1, o2, o3⟩ := hx x hx'
        refine ⟨o1, ?_, ?_⟩
        · rw [(h9 (c + 5) (Or.inr (Or.inr (Or.inr rfl)))).1, ← o2]
          simp [bxS, gsI, gsJ]
        · rw [(h9 (c + 4) (Or.inr (Or.inr (Or.inl rfl)))).2, ← o3]
          simp [bxS, gsI, gsJ])
      rw [mPin_many] at i1
      rw [mvL_go (f := stP o v A B) (y := 1) (T := mPin S o (nI j) v (A j) (B j)) (by unfold stP; rw [f2])]
      refine mvE_le (a1 := d + 2 + 1) (a2 := 6 * d + 65 + 6) (mvE_go (n1 := n1) (kc1 := kc1) (ks1 := ks1) (G1 := G1) ?_ h5 h6 h7 h8) (by omega) (by omega)
      simp only [x148_81, x148_82, x148_83, x148_86, x148_89, x148_90, x148_92, x148_95, x148_96, x148_99, x148_100, x148_103, x148_104, x148_105, x148_106, x148_109, x148_110, x148_111, x148_114, x148_115, x148_116, x148_117, x148_118, x148_121, x148_122, x148_125, x148_128, x148_130, x148_132, x148_133, x148_136, x148_137, x148_138, x148_139, x148_141, x148_144, x148_145, gf_14_3 w1, w6, c1, c32, gf_15_1 k0, gf_15_4 k0, gf_15_3 k0, gl_18 k5, k5', gl_17 k4, k4', hxi, hc, v1, v2, gc_16 k2, c27' k2, gf_14_4 w1', w8', gf_15_1 k0', gc_15 k0', h1, Option.bind_some, Option.toList_some, Option.toList_none, List.cons_append, List.nil_append, Option.isSome_some, if_true, eq_self, or_true, true_or, xb_01, mcl_cl, not_true_eq_false, not_false_eq_true, if_false]
      simp only [x148_145, x148_148, nI_1]
      exact i1
    · obtain ⟨y1, y2⟩ := ans_no (sPin_why _ _ _ _ _) f2
      rw [y1] at h1
      have hno := h4 f2
      rw [mPin_no f2] at h2 hno
      obtain ⟨h', q1, q2⟩ := mvE_145 (g := g) (kc := kc1) (ks := ks1) (i := nI j) (j := 1) (k := sPin S o (nI j) v (A j)) h2 hno (by omega)
      rw [mvL_no (f := stP o v A B) (y := 1) (z := sPin S o (nI j) v (A j)) (T := S) (by unfold stP; rw [mPin_no f2]) f2, fMv_1 f2]
      refine mvE_le (a1 := 2 + 1) (a2 := 65 + 6) (mvE_go (n1 := n1) (kc1 := kc1) (ks1 := ks1) (G1 := G1) ?_ h5 h6 h7 h8) (by omega) (by omega)
      simp only [x148_81, x148_82, x148_83, x148_86, x148_89, x148_90, x148_92, x148_95, x148_96, x148_99, x148_100, x148_103, x148_104, x148_105, x148_106, x148_109, x148_110, x148_111, x148_114, x148_115, x148_116, x148_117, x148_118, x148_121, x148_122, x148_125, x148_128, x148_130, x148_132, x148_133, x148_136, x148_137, x148_138, x148_139, x148_141, x148_144, x148_145, gf_14_3 w1, w6, c1, c32, gf_15_1 k0, gf_15_4 k0, gf_15_3 k0, gl_18 k5, k5', gl_17 k4, k4', hxi, hc, v1, v2, gc_16 k2, c27' k2, gf_14_4 w1', w8', gf_15_1 k0', gc_15 k0', h1, y2, gc_15 z0, q1, Option.bind_some, Option.toList_some, Option.toList_none, List.cons_append, List.nil_append, Option.isSome_some, if_true, eq_self, or_true, true_or, xb_01, mcl_cl, not_true_eq_false, not_false_eq_true, if_false]
      exact q2
theorem l148a (hw : w < 6) : ∀ d j (G : GS) (s4 : Slot), j + d = sMany S w → rA g G c n b ρ S → G.2.2.1 (c + 7) 1 = 0 → S.1 16 = 0 → (∀ x, x < j → sLook S w (nI x) (sVw S w) = 0 ∧ G.2.2.1 (c + 5) x = sLk S w (nI x) (sVw S w) ∧ G.2.2.2.1 (c + 4) x = sLv S w (nI x) (sVw S w)) → ((mvL (stR w) j d S).2.2.1 = 0 ∧ ∃ T s4', X g 148 2 [.val (va_rf (some c)), .val (va_rf (some (b + 5 + w))), .val (va_rf (some (b + 5 + o))), .val (.int (nI j)), s4] [] (gH n kc ks G) = X g 148 79 [.val (va_rf (some c)), .val (va_rf (some (b + 5 + w))), .val (va_rf (some (b + 5 + o))), .val (.int (nI (sMany S w))), s4'] [] (gH n kc ks T) ∧ bq T G c ∧ ∀ x, x < sMany S w → sLook S w (nI x) (sVw S w) = 0 ∧ T.2.2.1 (c + 5) x = sLk S w (nI x) (sVw S w) ∧ T.2.2.2.1 (c + 4) x = sLv S w (nI x) (sVw S w)) ∨ (¬ (mvL (stR w) j d S).2.2.1 = 0 ∧ ∀ z, ∃ h', X g 148 2 [.val (va_rf (some c)), .val (va_rf (some (b + 5 + w))), .val (va_rf (some (b + 5 + o))), .val (.int (nI j)), s4] [] (gH n kc ks G) = some (some (.int (-100 - (mvL (stR w) j d S).1)), h') ∧ mvE g c b ρ n kc ks G 2 65 (some (some (.int (-100 - (mvL (stR w) j d S).1)), h')) (-100 - (mvL (stR w) j d S).1) (mStop (mRr S (fun j => sLk S w (nI j) (sVw S w)) (fun j => sLv S w (nI j) (sVw S w)) z) 0 (mvL (stR w) j d S).1 (mvL (stR w) j d S).2.1 (mvL (stR w) j d S).2.2.1)) := by
  intro d
  induction d with
  | zero =>
    intro j G s4 hj hA hp h16 hx
    have ej : j = sMany S w := by omega
    obtain ⟨w1, w2, w3, w4, w5, w6, w7, w8, w9, w10⟩ := rA_w hA hw
    have c1 : nI (sMany S w) ≤ nI j := nI_le (by omega) (by omega)
    refine Or.inl ⟨rfl, G, s4, ?_, bq_refl, by rw [← ej]; exact hx⟩
    rw [← ej] at c1 w6 ⊢
    simp only [x148_2, x148_3, x148_4, x148_7, gf_14_3 w1, w6, c1, Option.bind_some, Option.toList_some, Option.toList_none, List.cons_append, List.nil_append, Option.isSome_some, if_true, eq_self, or_true, true_or, xb_01, mcl_cl, not_true_eq_false, not_false_eq_true, if_false]
  | succ d ih =>
    intro j G s4 hj hA hp h16 hx
    obtain ⟨w1, w2, w3, w4, w5, w6, w7, w8, w9, w10⟩ := rA_w hA hw
    have k0 : G.1 c = 15 := hA.1.2.1.1
    have k2 : G.1 (c + 2) = 16 := hA.1.2.1.2.2.1
    obtain ⟨k4, k4'⟩ := hA.1.2.1.2.2.2.2.1
    obtain ⟨k5, k5'⟩ := hA.1.2.1.2.2.2.2.2.1
    have c1 : ¬ nI (sMany S w) ≤ nI j := nI_ge (by omega) (by omega)
    have c32 : ¬ (32 : Int32) ≤ nI j := nI_ge (b := 32) (by omega) (by omega)
    have hxi : xin (nI j) 32 = true := xin_nI (by omega) (by decide)
    have hc : (nI j).toNatClampNeg = j := nI_clamp (by omega)
    have k139 := c139 (g := g) (n := n) (kc := kc) (ks := ks) (j := nI j) hA hw w9 w10 k2
    by_cases f1 : sLook S w (nI j) (sVw S w) = 0
    · rw [if_pos f1, ans_yes f1] at k139
      have hg : mvL (stR w) j (d + 1) S = mvL (stR w) (j + 1) d S := mvL_go (y := 0) (by unfold stR; rw [f1])
      rw [hg]
      generalize ek : sLk S w (nI j) (sVw S w) = kw at *
      generalize eu : sLv S w (nI j) (sVw S w) = uw at *
      have hq : bq (gsJ (gsI (bxS G (c + 2) kw uw) (c + 5) j kw) (c + 4) j uw) G c := bq_trans (bq_x (Or.inl rfl)) (bq_trans (bq_I (by omega)) (bq_J (by omega)))
      have a0 : (bxS G (c + 2) kw uw).1 c = 15 := k0
      have a2 : (bxS G (c + 2) kw uw).1 (c + 2) = 16 := k2
      have a5 : (bxS G (c + 2) kw uw).1 (c + 5) = 18 := k5
      have a5' : (bxS G (c + 2) kw uw).2.1 (c + 5) = 32 := k5'
      have x0 : (bxS G (c + 2) kw uw).2.2.1 (c + 2) 0 = kw := by simp [bxS, gsI, gsJ]
      have b0 : (gsI (bxS G (c + 2) kw uw) (c + 5) j kw).1 c = 15 := k0
      have b2 : (gsI (bxS G (c + 2) kw uw) (c + 5) j kw).1 (c + 2) = 16 := k2
      have b4 : (gsI (bxS G (c + 2) kw uw) (c + 5) j kw).1 (c + 4) = 17 := k4
      have b4' : (gsI (bxS G (c + 2) kw uw) (c + 5) j kw).2.1 (c + 4) = 32 := k4'
      have x1 : (gsI (bxS G (c + 2) kw uw) (c + 5) j kw).2.2.2.1 (c + 2) 1 = uw := by simp [bxS, gsI, gsJ]
      have hA1 := rA_bq hA hq
      have i1 := ih (j + 1) (gsJ (gsI (bxS G (c + 2) kw uw) (c + 5) j kw) (c + 4) j uw) (.val (.int 1)) (by omega) hA1 (by rw [bq_7 hq]; exact hp) h16 (by
        intro x hx'
        by_cases z : x = j
        · subst z
          refine ⟨f1, ?_, ?_⟩
          · rw [ek]
            simp [bxS, gsI, gsJ]
          · rw [eu]
            simp [bxS, gsI, gsJ]
        · obtain ⟨o1, o2, o3⟩ := hx x (by omega)
          refine ⟨o1, ?_, ?_⟩
          · rw [← o2]
            simp [bxS, gsI, gsJ, z]
          · rw [← o3]
            simp [bxS, gsI, gsJ, z])
      have hgo : X g 148 2 [.val (va_rf (some c)), .val (va_rf (some (b + 5 + w))), .val (va_rf (some (b + 5 + o))), .val (.int (nI j)), s4] [] (gH n kc ks G) = X g 148 2 [.val (va_rf (some c)), .val (va_rf (some (b + 5 + w))), .val (va_rf (some (b + 5 + o))), .val (.int (nI (j + 1))), .val (.int 1)] [] (gH n kc ks (gsJ (gsI (bxS G (c + 2) kw uw) (c + 5) j kw) (c + 4) j uw)) := by
        generalize hR : X g 148 2 [.val (va_rf (some c)), .val (va_rf (some (b + 5 + w))), .val (va_rf (some (b + 5 + o))), .val (.int (nI (j + 1))), .val (.int 1)] [] (gH n kc ks (gsJ (gsI (bxS G (c + 2) kw uw) (c + 5) j kw) (c + 4) j uw)) = R
        simp only [x148_2, x148_3, x148_4, x148_7, x148_10, x148_11, x148_13, x148_16, x148_17, x148_18, x148_19, x148_20, x148_23, x148_24, x148_27, x148_30, x148_32, x148_34, x148_35, x148_38, x148_39, x148_40, x148_41, x148_43, x148_46, x148_47, x148_48, x148_51, x148_52, x148_53, x148_56, x148_59, x148_60, x148_61, x148_64, x148_65, x148_66, x148_69, x148_72, x148_73, gf_14_3 w1, w6, c1, c32, gf_14_4 w1, w8, gf_15_1 k0, gc_15 k0, k139, gf_15_4 a0, gf_15_1 a0, gf_16_0 a2, x0, gs_18 a5, a5', hxi, hc, gf_15_3 b0, gf_15_1 b0, gf_16_1 b2, x1, gs_17 b4, b4', Option.bind_some, Option.toList_some, Option.toList_none, List.cons_append, List.nil_append, Option.isSome_some, if_true, eq_self, or_true, true_or, xb_01, mcl_cl, not_true_eq_false, not_false_eq_true, if_false]
        simp only [x148_73, x148_76, nI_1]
        exact hR
      rw [hgo]
      rcases i1 with ⟨y1, T, s4', y2, y3, y4⟩ | ⟨y1, y2⟩
      · exact Or.inl ⟨y1, T, s4', y2, bq_trans hq y3, y4⟩
      · refine Or.inr ⟨y1, fun z => ?_⟩
        obtain ⟨h', z1, z2⟩ := y2 z
        exact ⟨h', z1, mvE_go (e1 := 0) (e2 := 0) z2 (Nat.le_refl _) (by omega) (by omega) (fun q _ => by rw [hq.1])⟩
    · obtain ⟨y1, y2⟩ := ans_no (sLook_why _ _ _ _) f1
      rw [if_neg f1, y1] at k139
      have hg : mvL (stR w) j (d + 1) S = (nI j, 0, sLook S w (nI j) (sVw S w), S) := mvL_no rfl f1
      rw [hg]
      refine Or.inr ⟨f1, fun z => ?_⟩
      have hA3 : rA g G c n b ρ (mRr S (fun j => sLk S w (nI j) (sVw S w)) (fun j => sLv S w (nI j) (sVw S w)) z) := rA_ev mRr_ev hA
      obtain ⟨h', q1, q2⟩ := mvE_145 (g := g) (kc := kc) (ks := ks) (p := 0) (i := nI j) (j := 0) (k := sLook S w (nI j) (sVw S w)) hA3 ⟨hp, h16, fun k hk => by omega⟩ (by omega)
      have e16 : tn ((mRr S (fun j => sLk S w (nI j) (sVw S w)) (fun j => sLv S w (nI j) (sVw S w)) z).1 16) = 0 := by
        show tn (S.1 16) = 0
        rw [h16]
        rfl
      rw [e16] at q2
      refine ⟨h', ?_, q2⟩
      simp only [x148_2, x148_3, x148_4, x148_7, x148_10, x148_11, x148_13, x148_16, x148_17, x148_18, x148_19, x148_20, x148_23, x148_24, x148_27, x148_30, x148_32, x148_34, x148_35, x148_38, x148_39, x148_40, x148_41, x148_43, x148_46, x148_47, x148_48, x148_51, x148_52, x148_53, x148_56, x148_59, x148_60, x148_61, x148_64, x148_65, x148_66, x148_69, x148_72, x148_73, gf_14_3 w1, w6, c1, c32, gf_14_4 w1, w8, gf_15_1 k0, gc_15 k0, k139, y2, q1, Option.bind_some, Option.toList_some, Option.toList_none, List.cons_append, List.nil_append, Option.isSome_some, if_true, eq_self, or_true, true_or, xb_01, mcl_cl, not_true_eq_false, not_false_eq_true, if_false]
theorem e148 (hw : w < 6) (ho : o < 6) (hA : rA g G c n b ρ S) (hp : G.2.2.1 (c + 7) 1 = 0) (h16 : S.1 16 = 0) : mvE g c b ρ n kc ks G 34 257 (X g 148 0 [.val (va_rf (some c)), .val (va_rf (some (b + 5 + w))), .val (va_rf (some (b + 5 + o))), .unset, .unset] [] (gH n kc ks G)) (fCpA S w o).1 (fCpA S w o).2 := by
  have hm := rA_many hA hw
  have h1 := l148a (g := g) (c := c) (b := b) (ρ := ρ) (o := o) (n := n) (kc := kc) (ks := ks) hw (sMany S w) 0 G .unset (Nat.zero_add _) hA hp h16 (fun x hx => by omega)
  unfold fCpA
  rcases h1 with ⟨y1, T, s4', y2, y3, y4⟩ | ⟨y1, y2⟩
  · rw [if_pos y1]
    have hA1 := rA_bq hA y3
    have hA2 : rA g T c n b ρ (mRr S (fun j => sLk S w (nI j) (sVw S w)) (fun j => sLv S w (nI j) (sVw S w)) (sMany S w)) := rA_ev mRr_ev hA1
    have em : sMany (mRr S (fun j => sLk S w (nI j) (sVw S w)) (fun j => sLv S w (nI j) (sVw S w)) (sMany S w)) w = sMany S w := by
      unfold sMany
      rw [mRr_A (by decide)]
    have ev : sVw (mRr S (fun j => sLk S w (nI j) (sVw S w)) (fun j => sLv S w (nI j) (sVw S w)) (sMany S w)) w = sVw S w := by
      unfold sVw
      rw [mRr_A (by decide)]
    have h2 := l148b (g := g) (c := c) (b := b) (ρ := ρ) (o := o) (v := sVw S w) (A := fun j => sLk S w (nI j) (sVw S w)) (B := fun j => sLv S w (nI j) (sVw S w)) hw ho (sMany S w) 0 n kc ks T _ s4' (by rw [em]; omega) hA2 ⟨by rw [bq_7 y3]; exact hp, h16, fun k hk => by omega⟩ ev (by
      rw [em]
      intro x hx
      obtain ⟨z1, z2, z3⟩ := y4 x hx
      exact ⟨okb_look hA.2.2.2.2.2.2.2.2.1 z1, z2, z3⟩)
    rw [em] at h2
    refine mvE_le (a1 := sMany S w + 2) (a2 := 6 * sMany S w + 65) (mvE_go (e1 := 0) (e2 := 0) (G1 := T) (n1 := n) (kc1 := kc) (ks1 := ks) ?_ (Nat.le_refl _) (by omega) (by omega) (fun q _ => by rw [y3.1])) (by omega) (by omega)
    have y2' : X g 148 2 [.val (va_rf (some c)), .val (va_rf (some (b + 5 + w))), .val (va_rf (some (b + 5 + o))), .val (.int 0), .unset] [] (gH n kc ks G) = _ := y2
    simp only [x148_0, x148_1, y2', Option.bind_some, Option.toList_some, Option.toList_none, List.cons_append, List.nil_append, Option.isSome_some, if_true, eq_self, or_true, true_or, xb_01, mcl_cl, not_true_eq_false, not_false_eq_true, if_false]
    simp only [x148_79, x148_80, Option.bind_some, Option.toList_some, Option.toList_none, List.cons_append, List.nil_append, Option.isSome_some, if_true, eq_self, or_true, true_or, xb_01, mcl_cl, not_true_eq_false, not_false_eq_true, if_false]
    exact h2
  · rw [if_neg y1]
    obtain ⟨h', z1, z2⟩ := y2 (tn (mvL (stR w) 0 (sMany S w) S).1)
    refine mvE_le (a1 := 2) (a2 := 65) ?_ (by omega) (by omega)
    have z1' : X g 148 2 [.val (va_rf (some c)), .val (va_rf (some (b + 5 + w))), .val (va_rf (some (b + 5 + o))), .val (.int 0), .unset] [] (gH n kc ks G) = _ := z1
    simp only [x148_0, x148_1, z1', Option.bind_some, Option.toList_some, Option.toList_none, List.cons_append, List.nil_append, Option.isSome_some, if_true, eq_self, or_true, true_or, xb_01, mcl_cl, not_true_eq_false, not_false_eq_true, if_false]
    exact z2
theorem s108 (hA : rA g G c n b ρ S) (hp : G.2.2.1 (c + 7) 1 = 0) : sim g c n kc ks G 108 [.val (va_rf (some c)), .val (.int i), .val (.int j), .val (.int k), .unset, .unset] (.int (fCopy S i j k).1) (fCopy S i j k).2 := by
  have k0 : G.1 c = 15 := hA.1.2.1.1
  have hb := hA.2.1
  have hB := hA.2.2.1
  unfold fCopy
  cases e1 : mSl i with
  | false =>
    have k13 := k13n (g := g) (kc := kc) (ks := ks) hA e1
    rw [if_pos rfl]
    refine sim_same hA hp ?_
    cases e2 : mSl j with
    | false =>
      have k13' := k13n (g := g) (kc := kc) (ks := ks) hA e2
      simp only [x108_0, x108_1, x108_4, x108_5, x108_8, x108_10, x108_11, x108_14, x108_15, x108_18, x108_20, x108_22, x108_25, x108_27, x108_30, x108_31, x108_34, x108_35, x108_36, x108_39, x108_40, x108_41, x108_42, x108_45, x108_46, x108_48, x108_50, x108_53, x108_56, x108_57, x108_59, x108_61, x108_64, gf_15_9 k0, hb, gc_9 hB.1, k13, k13', Option.bind_some, Option.toList_some, Option.toList_none, List.cons_append, List.nil_append, Option.isSome_some, if_true, eq_self, or_true, true_or, xb_01, mcl_cl, not_true_eq_false, not_false_eq_true, if_false]
    | true =>
      obtain ⟨k13', hi'⟩ := k13w (g := g) (kc := kc) (ks := ks) hA e2
      simp only [x108_0, x108_1, x108_4, x108_5, x108_8, x108_10, x108_11, x108_14, x108_15, x108_18, x108_20, x108_22, x108_25, x108_27, x108_30, x108_31, x108_34, x108_35, x108_36, x108_39, x108_40, x108_41, x108_42, x108_45, x108_46, x108_48, x108_50, x108_53, x108_56, x108_57, x108_59, x108_61, x108_64, gf_15_9 k0, hb, gc_9 hB.1, k13, k13', Option.bind_some, Option.toList_some, Option.toList_none, List.cons_append, List.nil_append, Option.isSome_some, if_true, eq_self, or_true, true_or, xb_01, mcl_cl, not_true_eq_false, not_false_eq_true, if_false]
  | true =>
    obtain ⟨k13, hi⟩ := k13w (g := g) (kc := kc) (ks := ks) hA e1
    have hne : ¬ (some (b + 5 + tn i) = none) := by simp
    rw [if_neg (by simp)]
    cases e2 : mSl j with
    | false =>
      have k13' := k13n (g := g) (kc := kc) (ks := ks) hA e2
      rw [if_pos rfl]
      refine sim_same hA hp ?_
      simp only [x108_0, x108_1, x108_4, x108_5, x108_8, x108_10, x108_11, x108_14, x108_15, x108_18, x108_20, x108_22, x108_25, x108_27, x108_30, x108_31, x108_34, x108_35, x108_36, x108_39, x108_40, x108_41, x108_42, x108_45, x108_46, x108_48, x108_50, x108_53, x108_56, x108_57, x108_59, x108_61, x108_64, gf_15_9 k0, hb, gc_9 hB.1, k13, k13', hne, Option.bind_some, Option.toList_some, Option.toList_none, List.cons_append, List.nil_append, Option.isSome_some, if_true, eq_self, or_true, true_or, xb_01, mcl_cl, not_true_eq_false, not_false_eq_true, if_false]
    | true =>
      rw [if_neg (by simp)]
      obtain ⟨k13', hi'⟩ := k13w (g := g) (kc := kc) (ks := ks) hA e2
      have hne' : ¬ (some (b + 5 + tn j) = none) := by simp
      cases e3 : mWithin k.toInt 0 1 with
      | false =>
        rw [if_pos rfl]
        refine sim_same hA hp ?_
        by_cases c1 : k < 0
        · simp only [x108_0, x108_1, x108_4, x108_5, x108_8, x108_10, x108_11, x108_14, x108_15, x108_18, x108_20, x108_22, x108_25, x108_27, x108_30, x108_31, x108_34, x108_35, x108_36, x108_39, x108_40, x108_41, x108_42, x108_45, x108_46, x108_48, x108_50, x108_53, x108_56, x108_57, x108_59, x108_61, x108_64, gf_15_9 k0, hb, gc_9 hB.1, k13, k13', hne, hne', c1, Option.bind_some, Option.toList_some, Option.toList_none, List.cons_append, List.nil_append, Option.isSome_some, if_true, eq_self, or_true, true_or, xb_01, mcl_cl, not_true_eq_false, not_false_eq_true, if_false]
        · have c2 : ¬ k ≤ 1 := by
            intro z
            rw [i32_lt, show (0 : Int32).toInt = 0 from rfl] at c1
            rw [i32_le, show (1 : Int32).toInt = 1 from rfl] at z
            have : mWithin k.toInt 0 1 = true := mWithin_iff.mpr ⟨by omega, by omega⟩
            rw [this] at e3
            exact absurd e3 (by decide)
          simp only [x108_0, x108_1, x108_4, x108_5, x108_8, x108_10, x108_11, x108_14, x108_15, x108_18, x108_20, x108_22, x108_25, x108_27, x108_30, x108_31, x108_34, x108_35, x108_36, x108_39, x108_40, x108_41, x108_42, x108_45, x108_46, x108_48, x108_50, x108_53, x108_56, x108_57, x108_59, x108_61, x108_64, gf_15_9 k0, hb, gc_9 hB.1, k13, k13', hne, hne', c1, c2, Option.bind_some, Option.toList_some, Option.toList_none, List.cons_append, List.nil_append, Option.isSome_some, if_true, eq_self, or_true, true_or, xb_01, mcl_cl, not_true_eq_false, not_false_eq_true, if_false]
      | true =>
        rw [if_neg (by simp)]
        obtain ⟨y1, y2⟩ := mWithin_iff.mp e3
        have c1 : ¬ k < 0 := by rw [i32_lt, show (0 : Int32).toInt = 0 from rfl]; omega
        have c2 : k ≤ 1 := by rw [i32_le, show (1 : Int32).toInt = 1 from rfl]; omega
        by_cases k00 : k = 0
        · rw [if_pos k00]
          have h1 := e147 (g := g) (kc := kc) (ks := ks) hi hi' hA hp
          obtain ⟨n', kc', ks', G', q1, q2⟩ := h1
          refine sim_mv (b := b) (ρ := ρ) (mvE_le (a1 := 34) (a2 := 257) ⟨n', kc', ks', G', ?_, q2⟩ (by omega) (by omega))
          subst k00
          simp only [x108_0, x108_1, x108_4, x108_5, x108_8, x108_10, x108_11, x108_14, x108_15, x108_18, x108_20, x108_22, x108_25, x108_27, x108_30, x108_31, x108_34, x108_35, x108_36, x108_39, x108_40, x108_41, x108_42, x108_45, x108_46, x108_48, x108_50, x108_53, x108_56, x108_57, x108_59, x108_61, x108_64, gf_15_9 k0, hb, gc_9 hB.1, k13, k13', hne, hne', c1, c2, gc_15 k0, q1, Option.bind_some, Option.toList_some, Option.toList_none, List.cons_append, List.nil_append, Option.isSome_some, if_true, eq_self, or_true, true_or, xb_01, mcl_cl, not_true_eq_false, not_false_eq_true, if_false]
        · rw [if_neg k00]
          have h1 := e148 (g := g) (kc := kc) (ks := ks) (S := msI S 16 0) hi hi' (rA_ev mEv_16 hA) hp rfl
          obtain ⟨n', kc', ks', G', q1, q2⟩ := h1
          refine sim_mv (b := b) (ρ := ρ) (mvE_le (a1 := 34) (a2 := 257) ⟨n', kc', ks', G', ?_, q2⟩ (by omega) (by omega))
          simp only [x108_0, x108_1, x108_4, x108_5, x108_8, x108_10, x108_11, x108_14, x108_15, x108_18, x108_20, x108_22, x108_25, x108_27, x108_30, x108_31, x108_34, x108_35, x108_36, x108_39, x108_40, x108_41, x108_42, x108_45, x108_46, x108_48, x108_50, x108_53, x108_56, x108_57, x108_59, x108_61, x108_64, gf_15_9 k0, hb, gc_9 hB.1, k13, k13', hne, hne', c1, c2, k00, gc_15 k0, q1, Option.bind_some, Option.toList_some, Option.toList_none, List.cons_append, List.nil_append, Option.isSome_some, if_true, eq_self, or_true, true_or, xb_01, mcl_cl, not_true_eq_false, not_false_eq_true, if_false]
end K40
