/-! THE CLASS beside the reference, 37: run, to its end -/
section K52
variable {g : xG} {n kc ks a b c s w q l x y tp d r p n' e m N N' n1 kc1 ks1 : Nat} {G T U G1 G2 : GS} {h : xH} {i j k v i1 i2 : Int32} {u z : Int64} {S S1 S' : MS} {F : Nat → Int32} {t : Nat → Int32} {ρ κ : Nat → Nat} {L : List Nat}
theorem c77 {k : Nat} (h1 : G.1 tp = 23) (h2 : G.1 (tp + 2) = 25) (h3 : G.2.1 (tp + 2) = 20) (hk : k < 20) : X g 77 0 [.val (va_rf (some tp)), .val (.int (nI k))] [] (gH n kc ks G) = some (some (va_rf (G.2.2.2.2 (tp + 2) k)), gH n kc ks G) := by
  have c0 : ¬ nI k < 0 := nI_pos (by omega)
  have c1 : ¬ nI 20 ≤ nI k := nI_ge hk (by decide)
  have hxi : xin (nI k) 20 = true := xin_nI hk (by decide)
  have hc : (nI k).toNatClampNeg = k := nI_clamp (by omega)
  simp only [x77_0, x77_1, x77_4, x77_5, x77_6, x77_9, x77_10, x77_13, x77_14, x77_17, x77_18, x77_19, x77_22, x77_23, c0, gf_23_1 h1, gN_25 h2, h3, c1, gl_25 h2, hxi, hc, Option.bind_some, Option.toList_some, Option.toList_none, List.cons_append, List.nil_append, Option.isSome_some, if_true, eq_self, or_true, true_or, xb_01, mcl_cl, not_true_eq_false, not_false_eq_true, if_false]
theorem l123 (hN : N ≤ 20) : ∀ d k n kc ks (G : GS) (S : MS) (s3 s4 : Slot), k + d = N → rA g G c n b ρ S → rPd G c ρ S k → LN G S c N → (∀ x, x < N → mLk S x) → G.2.2.1 (c + 10) 3 = nI N → mvE g c b ρ n kc ks G (d + 3) (6 * d + 71) (X g 123 34 [.val (va_rf (some c)), .val (.int i1), .val (.int (nI k)), s3, s4] [] (gH n kc ks G)) (fMv (nI N) (mvL stD k d S)).1 (fMv (nI N) (mvL stD k d S)).2 := by
  intro d
  induction d with
  | zero =>
    intro k n kc ks G S s3 s4 hk hA hP hLn hLk h3
    have k0 : G.1 c = 15 := hA.1.2.1.1
    have k10 : G.1 (c + 10) = 23 := hA.1.2.1.2.2.2.2.2.2.2.2.2.2.1
    obtain ⟨h', h1, h2⟩ := mvE_146 (g := g) (kc := kc) (ks := ks) (i := nI N) hA hP (by omega)
    have c1 : nI N ≤ nI k := nI_le (by omega) (by omega)
    rw [mvL, fMv_0]
    refine mvE_le (a1 := 2) (a2 := 65) ?_ (by omega) (by omega)
    simp only [x123_0, x123_1, x123_4, x123_7, x123_8, x123_9, x123_12, x123_13, x123_16, x123_17, x123_20, x123_23, x123_24, x123_27, x123_30, x123_31, x123_32, x123_33, x123_34, x123_35, x123_36, x123_39, x123_42, x123_45, x123_46, x123_49, x123_50, x123_53, x123_54, x123_55, x123_58, x123_61, x123_62, x123_65, x123_68, x123_69, x123_70, x123_71, x123_74, x123_77, x123_78, x123_79, x123_80, x123_83, x123_85, x123_87, x123_88, x123_91, x123_93, x123_94, x123_100, x123_101, x123_102, x123_105, x123_108, x123_111, gf_15_7 k0, gf_23_3 k10, h3, c1, gc_15 k0, h1, Option.bind_some, Option.toList_some, Option.toList_none, List.cons_append, List.nil_append, Option.isSome_some, if_true, eq_self, or_true, true_or, xb_01, mcl_cl, not_true_eq_false, not_false_eq_true, if_false]
    exact h2
  | succ d ih =>
    intro k n kc ks G S s3 s4 hk hA hP hLn hLk h3
    have k0 : G.1 c = 15 := hA.1.2.1.1
    have k10 : G.1 (c + 10) = 23 := hA.1.2.1.2.2.2.2.2.2.2.2.2.2.1
    obtain ⟨k12, k12'⟩ := hA.1.2.1.2.2.2.2.2.2.2.2.2.2.2.2.1
    have c1 : ¬ nI N ≤ nI k := nI_ge (by omega) (by omega)
    have k77 := c77 (g := g) (n := n) (kc := kc) (ks := ks) (tp := c + 10) (k := k) k10 k12 k12' (by omega)
    obtain ⟨x, x1, x2, x3⟩ := hLn k (by omega)
    have x1' : G.2.2.2.2 (c + 10 + 2) k = some x := x1
    rw [x1'] at k77
    have hne : ¬ (some x = none) := by simp
    have hr : G.2.2.1 x 2 = 0 ∨ G.2.2.1 x 2 = 1 := by
      rcases x3.2.2 with h | h
      · exact Or.inr h.1
      · exact Or.inl h.1
    rcases e150 (g := g) (kc := kc) (ks := ks) (show k < 40 by omega) hA hP (hLk k (by omega)) x2 x3 with ⟨f1, n1, kc1, ks1, G1, h1, h2, h4, h5, h6, h7, h8, h9⟩ | ⟨f1, h', h1, h2⟩
    · have e10 := h9 (c + 10) (by rw [k10]; decide)
      have i1' := ih (k + 1) n1 kc1 ks1 G1 (stD k S).2.2 (.val (va_rf (some x))) (.val (.int 1)) (by omega) h2 h4 (LN_S (fun q y a _ => stD_A q y a) (fun y => stD_B y) (LN_agr h9 (by decide) (by decide) k12 hLn)) (fun y hy => by
        have := hLk y hy
        unfold mLk at this ⊢
        rw [stD_A 37 y (by omega), stD_A 39 y (by omega)]
        exact this) (by rw [e10.2.2.1]; exact h3)
      rw [mvL_go (f := stD) (y := (stD k S).1) (T := (stD k S).2.2) (by rw [← f1])]
      refine mvE_le (a1 := d + 3 + 1) (a2 := 6 * d + 71 + 6) (mvE_go (n1 := n1) (kc1 := kc1) (ks1 := ks1) (G1 := G1) ?_ h5 h6 h7 h8) (by omega) (by omega)
      rcases hr with hr | hr
      · rw [hr, if_pos rfl] at h1
        simp only [x123_0, x123_1, x123_4, x123_7, x123_8, x123_9, x123_12, x123_13, x123_16, x123_17, x123_20, x123_23, x123_24, x123_27, x123_30, x123_31, x123_32, x123_33, x123_34, x123_35, x123_36, x123_39, x123_42, x123_45, x123_46, x123_49, x123_50, x123_53, x123_54, x123_55, x123_58, x123_61, x123_62, x123_65, x123_68, x123_69, x123_70, x123_71, x123_74, x123_77, x123_78, x123_79, x123_80, x123_83, x123_85, x123_87, x123_88, x123_91, x123_93, x123_94, x123_100, x123_101, x123_102, x123_105, x123_108, x123_111, gf_15_7 k0, gf_23_3 k10, h3, c1, gc_23 k10, k77, hne, gf_8_2 x2, hr, gc_15 k0, h1, Option.bind_some, Option.toList_some, Option.toList_none, List.cons_append, List.nil_append, Option.isSome_some, if_true, eq_self, or_true, true_or, xb_01, mcl_cl, not_true_eq_false, not_false_eq_true, if_false]
        simp only [x123_97, nI_1]
        exact i1'
      · rw [hr, if_neg (by decide)] at h1
        simp only [x123_0, x123_1, x123_4, x123_7, x123_8, x123_9, x123_12, x123_13, x123_16, x123_17, x123_20, x123_23, x123_24, x123_27, x123_30, x123_31, x123_32, x123_33, x123_34, x123_35, x123_36, x123_39, x123_42, x123_45, x123_46, x123_49, x123_50, x123_53, x123_54, x123_55, x123_58, x123_61, x123_62, x123_65, x123_68, x123_69, x123_70, x123_71, x123_74, x123_77, x123_78, x123_79, x123_80, x123_83, x123_85, x123_87, x123_88, x123_91, x123_93, x123_94, x123_100, x123_101, x123_102, x123_105, x123_108, x123_111, gf_15_7 k0, gf_23_3 k10, h3, c1, gc_23 k10, k77, hne, gf_8_2 x2, hr, i32_10, gc_15 k0, h1, Option.bind_some, Option.toList_some, Option.toList_none, List.cons_append, List.nil_append, Option.isSome_some, if_true, eq_self, or_true, true_or, xb_01, mcl_cl, not_true_eq_false, not_false_eq_true, if_false]
        simp only [x123_97, nI_1]
        exact i1'
    · have c2 := nI_100 k (by omega)
      rw [mvL_no (f := stD) (y := (stD k S).1) (z := (stD k S).2.1) (T := (stD k S).2.2) rfl f1, fMv_1 f1]
      refine mvE_le (a1 := 3) (a2 := 71) ?_ (by omega) (by omega)
      rcases hr with hr | hr
      · rw [hr, if_pos rfl] at h1
        simp only [x123_0, x123_1, x123_4, x123_7, x123_8, x123_9, x123_12, x123_13, x123_16, x123_17, x123_20, x123_23, x123_24, x123_27, x123_30, x123_31, x123_32, x123_33, x123_34, x123_35, x123_36, x123_39, x123_42, x123_45, x123_46, x123_49, x123_50, x123_53, x123_54, x123_55, x123_58, x123_61, x123_62, x123_65, x123_68, x123_69, x123_70, x123_71, x123_74, x123_77, x123_78, x123_79, x123_80, x123_83, x123_85, x123_87, x123_88, x123_91, x123_93, x123_94, x123_100, x123_101, x123_102, x123_105, x123_108, x123_111, gf_15_7 k0, gf_23_3 k10, h3, c1, gc_23 k10, k77, hne, gf_8_2 x2, hr, gc_15 k0, h1, c2, Option.bind_some, Option.toList_some, Option.toList_none, List.cons_append, List.nil_append, Option.isSome_some, if_true, eq_self, or_true, true_or, xb_01, mcl_cl, not_true_eq_false, not_false_eq_true, if_false]
        exact h2
      · rw [hr, if_neg (by decide)] at h1
        simp only [x123_0, x123_1, x123_4, x123_7, x123_8, x123_9, x123_12, x123_13, x123_16, x123_17, x123_20, x123_23, x123_24, x123_27, x123_30, x123_31, x123_32, x123_33, x123_34, x123_35, x123_36, x123_39, x123_42, x123_45, x123_46, x123_49, x123_50, x123_53, x123_54, x123_55, x123_58, x123_61, x123_62, x123_65, x123_68, x123_69, x123_70, x123_71, x123_74, x123_77, x123_78, x123_79, x123_80, x123_83, x123_85, x123_87, x123_88, x123_91, x123_93, x123_94, x123_100, x123_101, x123_102, x123_105, x123_108, x123_111, gf_15_7 k0, gf_23_3 k10, h3, c1, gc_23 k10, k77, hne, gf_8_2 x2, hr, i32_10, gc_15 k0, h1, c2, Option.bind_some, Option.toList_some, Option.toList_none, List.cons_append, List.nil_append, Option.isSome_some, if_true, eq_self, or_true, true_or, xb_01, mcl_cl, not_true_eq_false, not_false_eq_true, if_false]
        exact h2
theorem s123 (hA : rA g G c n b ρ S) (hp : G.2.2.1 (c + 7) 1 = 0) : sim g c n kc ks G 123 [.val (va_rf (some c)), .unset, .unset, .unset, .unset] (.int (fRun S).1) (fRun S).2 := by
  have hK := hA.1.2.1
  have k0 : G.1 c = 15 := hA.1.2.1.1
  have k10 : G.1 (c + 10) = 23 := hA.1.2.1.2.2.2.2.2.2.2.2.2.2.1
  obtain ⟨k12, k12'⟩ := hA.1.2.1.2.2.2.2.2.2.2.2.2.2.2.2.1
  obtain ⟨l, l1, l2, l3⟩ := hA.2.2.2.2.2.2.2.2.2.2.1
  obtain ⟨_, _, _, _, _, _, _, r8, r9⟩ := hA.2.2.2.2.2.2.2.1
  have tl : tn (S.1 34) = l := by rw [l1]; exact tn_nI (by omega)
  rw [tl] at r9
  have hn0 := hA.1.2.2.2.2.2.2
  -- the tape is read
  have g10 : (gsI G (c + 10) 4 0).1 (c + 10) = 23 := k10
  have hB0 : pB G (gsI (gsI G (c + 10) 4 0) (c + 10) 3 0) c n n := pB_I k10 (by decide) (pB_I k10 (by decide) ⟨Nat.le_refl n, fun q _ => ⟨rfl, rfl⟩, fun q a b => by omega, fun q hq => hn0 q hq, agr_refl, rfl⟩)
  obtain ⟨N', kc', ks', U, h1, h2, h3, h4, h5, h6, h7, h8⟩ := l78 (g := g) (n := n) (t := S.2.2.1 33) hK hn0 (by rw [r8]; exact l1) l2 (fun e he => ⟨r9 e he, l3 e he⟩) (l + 1) 0 0 n kc ks _ S .unset hB0 (fun y hy => by omega) (by rw [gsI3, if_pos ⟨rfl, rfl⟩]; rfl) (by rw [gsI3, if_neg (by omega), gsI3, if_pos ⟨rfl, rfl⟩]; rfl) (by omega) (by omega) (by omega) (by omega)
  have hok := mAll_ok (t := S.2.2.1 33) (l + 1) S (0, true) 0 (mTpe_of l1 l2) (by omega) (by omega) (by omega) (fun x hx => by omega)
  have hTx : mTx S = mAll l (S.2.2.1 33) (l + 1) S (0, true) 0 := by unfold mTx; rw [tl]
  rw [← hTx] at h1 h3 h4 hok
  have k78 : X g 78 0 [.val (va_rf (some (c + 10))), .unset, .unset] [] (gH n kc ks G) = some (some (.int (xb (mTx S).2.1.2)), gH N' kc' ks' U) := by
    have h1' : X g 78 12 [.val (va_rf (some (c + 10))), .val (.int 0), .unset] [] (gH n kc ks (gsI (gsI G (c + 10) 4 0) (c + 10) 3 0)) = _ := h1
    simp only [x78_0, x78_1, x78_2, x78_5, x78_6, x78_7, x78_10, x78_11, gf_23_4 k10, gp_23_4 k10, gf_23_3 g10, gp_23_3 g10, Option.isSome_some, if_true, h1', Option.bind_some, Option.toList_some, Option.toList_none, List.cons_append, List.nil_append, Option.isSome_some, if_true, eq_self, or_true, true_or, xb_01, mcl_cl, not_true_eq_false, not_false_eq_true, if_false]
  obtain ⟨o1, o2, o3, o4, o5, o6⟩ := hok
  -- both sides after that
  have hA1 := rA_pB hA h2
  have hEv : mEv (mQ (mTx S).1 (mTx S).2.1) S := by
    refine ⟨fun q a1 a2 a3 a4 => ?_, ?_, fun q a1 a2 a3 a4 a5 => ?_, fun q a1 a2 a3 => ?_⟩
    · show (if q = 36 then _ else if q = 35 then _ else (mTx S).1.1 q) = _
      rw [if_neg a4, if_neg a3, o2]
    · show (mTx S).1.2.1 11 = _
      rw [o3]
    · funext y
      exact o4 q y a5
    · funext y
      exact o5 q y a3
  have hA2 := rA_34 (rA_ev hEv hA1)
  have hA3 : rA g (gsI U (c + 10) 2 0) c N' b ρ (mTx1 S) := hA2
  have u0 : U.1 c = 15 := hA1.1.2.1.1
  have u10 : U.1 (c + 10) = 23 := hA1.1.2.1.2.2.2.2.2.2.2.2.2.2.1
  have u7 : U.2.2.1 (c + 7) 1 = 0 := by
    rw [(h2.2.2.2.2.1 (c + 7) (by rw [hK.2.2.2.2.2.2.2.1]; decide)).2.2.1]
    exact hp
  have v7 : (gsI U (c + 10) 2 0).2.2.1 (c + 7) 1 = 0 := by rw [gsI3, if_neg (by omega)]; exact u7
  have v0 : (gsI U (c + 10) 2 0).1 c = 15 := u0
  have v10 : (gsI U (c + 10) 2 0).1 (c + 10) = 23 := u10
  have v4 : (gsI U (c + 10) 2 0).2.2.1 (c + 10) 4 = nI (mTx S).2.1.1 := by rw [gsI3, if_neg (by omega)]; exact h3
  have hroles : ∀ q, q < n → (gsI U (c + 10) 2 0).1 q = G.1 q := fun q hq => (h2.2.1 q hq).1
  unfold fRun
  cases hb : (mTx S).2.1.2 with
  | false =>
    rw [hb] at k78
    rw [if_pos rfl]
    refine ⟨N', kc', ks', gsI U (c + 10) 2 0, b, ρ, ?_, hA3, v7, by omega, by omega, by omega, hroles⟩
    simp only [x123_0, x123_1, x123_4, x123_7, x123_8, x123_9, x123_12, x123_13, x123_16, x123_17, x123_20, x123_23, x123_24, x123_27, x123_30, x123_31, gf_15_7 k0, gc_23 k10, k78, xb_f, gf_15_7 u0, gf_23_2 u10, gp_23_2 u10, Option.isSome_some, if_true, gf_15_7 v0, gf_23_4 v10, v4, Option.bind_some, Option.toList_some, Option.toList_none, List.cons_append, List.nil_append, Option.isSome_some, if_true, eq_self, or_true, true_or, xb_01, mcl_cl, not_true_eq_false, not_false_eq_true, if_false]
  | true =>
    rw [hb] at k78
    rw [if_neg (by simp)]
    obtain ⟨q1, q2, hcnt⟩ := h4 hb
    have hA4 : rA g (gsI U (c + 10) 2 0) c N' b ρ (msI (mTx1 S) 16 0) := rA_ev mEv_16 hA3
    have hLN : LN (gsI U (c + 10) 2 0) (msI (mTx1 S) 16 0) c (mTx S).2.2 := by
      intro y hy
      obtain ⟨x, x1, x2, x3⟩ := q1 y hy
      have xc : x ≠ c + 10 := fun z => by
        rw [z, u10] at x2
        omega
      refine ⟨x, x1, x2, ?_⟩
      have : (gsI U (c + 10) 2 0).2.2.1 x = U.2.2.1 x := funext fun e => by rw [gsI3, if_neg (fun z => xc z.1)]
      rw [this]
      exact x3
    have hm := l123 (g := g) (c := c) (b := b) (ρ := ρ) (i1 := 1) hcnt (mTx S).2.2 0 N' kc' ks' (gsI U (c + 10) 2 0) (msI (mTx1 S) 16 0) .unset .unset (Nat.zero_add _) hA4 (rPd_0 v7) hLN (fun y hy => o1 hb y hy) (by rw [gsI3, if_neg (by omega)]; exact q2)
    refine sim_mv (b := b) (ρ := ρ) (mvE_le (a1 := (mTx S).2.2 + 3 + 20) (a2 := 6 * (mTx S).2.2 + 71 + 160) (mvE_go (n1 := N') (kc1 := kc') (ks1 := ks') (G1 := gsI U (c + 10) 2 0) ?_ (by omega) (by omega) (by omega) hroles) (by omega) (by omega))
    simp only [x123_0, x123_1, x123_4, x123_7, x123_8, x123_9, x123_12, x123_13, x123_16, x123_17, x123_20, x123_23, x123_24, x123_27, x123_30, x123_31, x123_32, x123_33, gf_15_7 k0, gc_23 k10, k78, xb_t, i32_10, gf_15_7 u0, gf_23_2 u10, gp_23_2 u10, Option.isSome_some, if_true, Option.bind_some, Option.toList_some, Option.toList_none, List.cons_append, List.nil_append, Option.isSome_some, if_true, eq_self, or_true, true_or, xb_01, mcl_cl, not_true_eq_false, not_false_eq_true, if_false]
    exact hm
end K52
