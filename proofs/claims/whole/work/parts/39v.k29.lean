/-! THE CLASS beside the reference, 16: rows in thought -/
section K29
variable {g : xG} {n kc ks a b c s t w q l x y jn d r p n' e kb : Nat} {G T U : GS} {h : xH} {i j k m v i1 i2 : Int32} {u z : Int64} {o : Option Nat} {S S1 S' : MS} {ρ κ : Nat → Nat} {L L' : List Nat} {cnt : Nat} {at' wk ik : Nat → Int32} {wv iv : Nat → Int64}
theorem sl_yes (hA : rA g G c n b ρ S) (e : mSlot i = true) (hR : mRow S (tn i) = true) : bRow G b i = some (ρ (mr S (tn i))) ∧ bHeld G b i = S.2.2.1 2 (mr S (tn i)) ∧ bRo G S (ρ (mr S (tn i))) (mr S (tn i)) ∧ mr S (tn i) < 10 ∧ sNo S i = 0 ∧ ¬ S.2.2.1 7 (tn i) = -11 ∧ rIn S (mr S (tn i)) := by
  have hi := (c127w e).2
  have hn := mRow_n11 hR
  unfold bRow bHeld sNo
  rw [if_pos e, if_pos e, if_neg (by rw [e]; simp), if_neg hn, if_pos hR]
  rcases hA.2.2.1.2.1 (tn i) hi with ⟨r0, r1, r2, r3, r4⟩ | r | r
  · exact ⟨r1, r2, r4, (mRow_eq hR).2, rfl, hn, tn i, hi, hR, rfl⟩
  · exact absurd r.1 hn
  · exfalso
    unfold mRow at hR
    rcases r.1 with r0 | r0
    · rw [r0] at hR
      exact absurd hR (by decide)
    · rw [r0] at hR
      exact absurd hR (by decide)
theorem sl_none (hA : rA g G c n b ρ S) (e : mSlot i = true) (hR : mRow S (tn i) = false) : bRow G b i = none ∧ (if bHeld G b i = -1 then -11 else -12) = sNo S i ∧ ¬ sNo S i = 0 ∧ ((S.2.2.1 7 (tn i) = -11 ∧ bHeld G b i = -1) ∨ (¬ S.2.2.1 7 (tn i) = -11 ∧ bHeld G b i = S.2.2.1 7 (tn i) ∧ ¬ bHeld G b i = -1 ∧ G.2.2.1 (b + 3) (tn i) = S.2.2.1 8 (tn i))) := by
  have hi := (c127w e).2
  unfold bRow bHeld sNo
  have hs : ¬ mSlot i = false := by rw [e]; simp
  have hm : ¬ mRow S (tn i) = true := by rw [hR]; simp
  rw [if_pos e, if_pos e, if_neg hs, if_neg hm]
  rcases hA.2.2.1.2.1 (tn i) hi with ⟨r0, r1, r2, r3, r4⟩ | ⟨r0, r1, r2⟩ | ⟨r0, r1, r2, r3⟩
  · rw [hR] at r0
    exact absurd r0 (by simp)
  · rw [r2, if_pos r0, if_pos rfl]
    exact ⟨r1, rfl, by decide, Or.inl ⟨r0, rfl⟩⟩
  · have n1 : ¬ S.2.2.1 7 (tn i) = -11 := by rcases r0 with r0 | r0 <;> rw [r0] <;> decide
    have n2 : ¬ S.2.2.1 7 (tn i) = -1 := by rcases r0 with r0 | r0 <;> rw [r0] <;> decide
    rw [r2, if_neg n1, if_neg n2]
    exact ⟨r1, rfl, by decide, Or.inr ⟨n1, rfl, n2, r3⟩⟩
theorem sNo_f (e : mSlot i = false) : sNo S i = -1 := by
  unfold sNo
  rw [if_pos e]
theorem l115 {A : Nat} (hE : gE g G) (ha : G.1 A = 1) : ∀ d s m, s + d = 8 → X g 115 38 [.val (va_rf (some c)), .val (.int i), .val (va_rf (some A)), .val (.int m), .val (.int (nI s))] [] (gH n kc ks G) = some (some (.int (mOr (fun t => pMay (G.2.2.1 A 0) (nI t)) s d m)), gH n kc ks G) := by
  intro d
  induction d with
  | zero =>
    intro s m hs
    have h1 : (7 : Int32) < nI s := nI_lt (a := 7) (by omega) (by omega)
    simp only [x115_0, x115_1, x115_4, x115_7, x115_8, x115_9, x115_10, x115_13, x115_14, x115_17, x115_18, x115_19, x115_22, x115_23, x115_26, x115_27, x115_30, x115_31, x115_34, x115_35, x115_36, x115_38, x115_40, x115_42, x115_45, x115_46, x115_49, x115_51, x115_54, x115_57, x115_58, x115_59, x115_61, x115_62, x115_63, x115_64, x115_70, x115_71, h1, Option.bind_some, Option.toList_some, Option.toList_none, List.cons_append, List.nil_append, Option.isSome_some, if_true, eq_self, or_true, true_or, xb_01, mcl_cl, not_true_eq_false, not_false_eq_true, if_false, mOr]
  | succ d ih =>
    intro s m hs
    have h1 : ¬ (7 : Int32) < nI s := nI_nlt (b := s) (a := 7) (by omega) (by omega)
    cases e : pMay (G.2.2.1 A 0) (nI s) with
    | true =>
      have h := ih (s + 1) (m ||| (1 <<< (nI s &&& 31))) (by omega)
      simp only [x115_0, x115_1, x115_4, x115_7, x115_8, x115_9, x115_10, x115_13, x115_14, x115_17, x115_18, x115_19, x115_22, x115_23, x115_26, x115_27, x115_30, x115_31, x115_34, x115_35, x115_36, x115_38, x115_40, x115_42, x115_45, x115_46, x115_49, x115_51, x115_54, x115_57, x115_58, x115_59, x115_61, x115_62, x115_63, x115_64, x115_70, x115_71, h1, gf_1_0 ha, e39 hE, e, xb_t, show ¬ (1 : Int32) = 0 by decide, Option.bind_some, Option.toList_some, Option.toList_none, List.cons_append, List.nil_append, Option.isSome_some, if_true, eq_self, or_true, true_or, xb_01, mcl_cl, not_true_eq_false, not_false_eq_true, if_false, mOr]
      simp only [x115_67, nI_1]
      exact h
    | false =>
      have h := ih (s + 1) m (by omega)
      simp only [x115_0, x115_1, x115_4, x115_7, x115_8, x115_9, x115_10, x115_13, x115_14, x115_17, x115_18, x115_19, x115_22, x115_23, x115_26, x115_27, x115_30, x115_31, x115_34, x115_35, x115_36, x115_38, x115_40, x115_42, x115_45, x115_46, x115_49, x115_51, x115_54, x115_57, x115_58, x115_59, x115_61, x115_62, x115_63, x115_64, x115_70, x115_71, h1, gf_1_0 ha, e39 hE, e, xb_f, Option.bind_some, Option.toList_some, Option.toList_none, List.cons_append, List.nil_append, Option.isSome_some, if_true, eq_self, or_true, true_or, xb_01, mcl_cl, not_true_eq_false, not_false_eq_true, if_false, mOr]
      simp only [x115_67, nI_1]
      rw [h]
      simp
theorem s115 (hA : rA g G c n b ρ S) (hp : G.2.2.1 (c + 7) 1 = 0) : sim g c n kc ks G 115 [.val (va_rf (some c)), .val (.int i), .unset, .unset, .unset] (.int (fViews S i)) S := by
  have k0 : G.1 c = 15 := hA.1.2.1.1
  have hb := hA.2.1
  have hB := hA.2.2.1
  have h10 : ¬ (1 : Int32) = 0 := by decide
  refine sim_same hA hp ?_
  unfold fViews
  cases e1 : mSlot i with
  | false =>
    rw [sNo_f e1, if_pos (by decide)]
    simp only [x115_0, x115_1, x115_4, x115_7, x115_8, x115_9, x115_10, x115_13, x115_14, x115_17, x115_18, x115_19, x115_22, x115_23, x115_26, x115_27, x115_30, x115_31, x115_34, x115_35, x115_36, x115_38, x115_40, x115_42, x115_45, x115_46, x115_49, x115_51, x115_54, x115_57, x115_58, x115_59, x115_61, x115_62, x115_63, x115_64, x115_70, x115_71, c127, e1, xb_f, Option.bind_some, Option.toList_some, Option.toList_none, List.cons_append, List.nil_append, Option.isSome_some, if_true, eq_self, or_true, true_or, xb_01, mcl_cl, not_true_eq_false, not_false_eq_true, if_false]
  | true =>
    have k9 := c9 (g := g) (n := n) (kc := kc) (ks := ks) (i := i) hA.1.1 hB.1
    cases e2 : mRow S (tn i) with
    | false =>
      obtain ⟨q1, q2, q3, _⟩ := sl_none hA e1 e2
      have k11 := c11 (g := g) (n := n) (kc := kc) (ks := ks) (i := i) hA.1.1 hB.1
      rw [q1] at k9
      rw [q2] at k11
      rw [if_pos q3]
      simp only [x115_0, x115_1, x115_4, x115_7, x115_8, x115_9, x115_10, x115_13, x115_14, x115_17, x115_18, x115_19, x115_22, x115_23, x115_26, x115_27, x115_30, x115_31, x115_34, x115_35, x115_36, x115_38, x115_40, x115_42, x115_45, x115_46, x115_49, x115_51, x115_54, x115_57, x115_58, x115_59, x115_61, x115_62, x115_63, x115_64, x115_70, x115_71, c127, e1, xb_t, h10, gf_15_9 k0, hb, gc_9 hB.1, k9, k11, Option.bind_some, Option.toList_some, Option.toList_none, List.cons_append, List.nil_append, Option.isSome_some, if_true, eq_self, or_true, true_or, xb_01, mcl_cl, not_true_eq_false, not_false_eq_true, if_false]
    | true =>
      obtain ⟨q1, q2, q3, q4, q5, q6, q7⟩ := sl_yes hA e1 e2
      rw [q1] at k9
      rw [q5, if_neg (by simp)]
      have hl := l115 (g := g) (n := n) (kc := kc) (ks := ks) (c := c) (i := i) hA.1.2.2.1 q3.1 8 0 256 (by omega)
      rw [q3.2.1] at hl
      have hne : ¬ (some (ρ (mr S (tn i))) = none) := by simp
      simp only [x115_0, x115_1, x115_4, x115_7, x115_8, x115_9, x115_10, x115_13, x115_14, x115_17, x115_18, x115_19, x115_22, x115_23, x115_26, x115_27, x115_30, x115_31, x115_34, x115_35, x115_36, c127, e1, xb_t, h10, gf_15_9 k0, hb, gc_9 hB.1, k9, hne, Option.bind_some, Option.toList_some, Option.toList_none, List.cons_append, List.nil_append, Option.isSome_some, if_true, eq_self, or_true, true_or, xb_01, mcl_cl, not_true_eq_false, not_false_eq_true, if_false]
      exact hl
theorem s116 (hA : rA g G c n b ρ S) (hp : G.2.2.1 (c + 7) 1 = 0) : sim g c n kc ks G 116 [.val (va_rf (some c)), .val (.int i), .val (.int k), .unset] (.int (fTakes S i k)) S := by
  have k0 : G.1 c = 15 := hA.1.2.1.1
  have hb := hA.2.1
  have hB := hA.2.2.1
  have h10 : ¬ (1 : Int32) = 0 := by decide
  refine sim_same hA hp ?_
  unfold fTakes
  cases e1 : mSlot i with
  | false =>
    rw [if_pos rfl]
    simp only [x116_0, x116_1, x116_4, x116_7, x116_8, x116_11, x116_14, x116_15, x116_16, x116_17, x116_20, x116_21, x116_24, x116_25, x116_26, x116_29, x116_30, x116_33, x116_34, x116_37, x116_38, x116_39, x116_40, x116_43, x116_46, x116_47, x116_50, x116_51, c127, e1, xb_f, Option.bind_some, Option.toList_some, Option.toList_none, List.cons_append, List.nil_append, Option.isSome_some, if_true, eq_self, or_true, true_or, xb_01, mcl_cl, not_true_eq_false, not_false_eq_true, if_false]
  | true =>
    rw [if_neg (by simp)]
    cases e3 : mWithin k.toInt 0 10 with
    | false =>
      rw [if_pos rfl]
      simp only [x116_0, x116_1, x116_4, x116_7, x116_8, x116_11, x116_14, x116_15, x116_16, x116_17, x116_20, x116_21, x116_24, x116_25, x116_26, x116_29, x116_30, x116_33, x116_34, x116_37, x116_38, x116_39, x116_40, x116_43, x116_46, x116_47, x116_50, x116_51, c127, e1, xb_t, h10, c130, e3, xb_f, Option.bind_some, Option.toList_some, Option.toList_none, List.cons_append, List.nil_append, Option.isSome_some, if_true, eq_self, or_true, true_or, xb_01, mcl_cl, not_true_eq_false, not_false_eq_true, if_false]
    | true =>
      rw [if_neg (by simp)]
      have k9 := c9 (g := g) (n := n) (kc := kc) (ks := ks) (i := i) hA.1.1 hB.1
      cases e2 : mRow S (tn i) with
      | false =>
        obtain ⟨q1, q2, q3, _⟩ := sl_none hA e1 e2
        have k11 := c11 (g := g) (n := n) (kc := kc) (ks := ks) (i := i) hA.1.1 hB.1
        rw [q1] at k9
        rw [q2] at k11
        rw [if_pos q3]
        simp only [x116_0, x116_1, x116_4, x116_7, x116_8, x116_11, x116_14, x116_15, x116_16, x116_17, x116_20, x116_21, x116_24, x116_25, x116_26, x116_29, x116_30, x116_33, x116_34, x116_37, x116_38, x116_39, x116_40, x116_43, x116_46, x116_47, x116_50, x116_51, c127, e1, xb_t, h10, c130, e3, gf_15_9 k0, hb, gc_9 hB.1, k9, k11, Option.bind_some, Option.toList_some, Option.toList_none, List.cons_append, List.nil_append, Option.isSome_some, if_true, eq_self, or_true, true_or, xb_01, mcl_cl, not_true_eq_false, not_false_eq_true, if_false]
      | true =>
        obtain ⟨q1, q2, q3, q4, q5, q6, q7⟩ := sl_yes hA e1 e2
        obtain ⟨y1, y2⟩ := hA.2.2.2.2.2.2.2.2.1.2.2.2.2.1 _ q4
        rw [q1] at k9
        rw [q5, if_neg (by simp)]
        have k73 := c73 (g := g) (n := n) (kc := kc) (ks := ks) (k := k) hA.1.2.2.1 q3.1 (by rw [q3.2.1]; exact y1) (by rw [q3.2.1]; exact y2)
        rw [q3.2.1] at k73
        have hne : ¬ (some (ρ (mr S (tn i))) = none) := by simp
        cases e4 : sAdm (S.2.2.1 2 (mr S (tn i))) k with
        | true =>
          rw [e4] at k73
          simp only [x116_0, x116_1, x116_4, x116_7, x116_8, x116_11, x116_14, x116_15, x116_16, x116_17, x116_20, x116_21, x116_24, x116_25, x116_26, x116_29, x116_30, x116_33, x116_34, x116_37, x116_38, x116_39, x116_40, x116_43, x116_46, x116_47, x116_50, x116_51, c127, e1, xb_t, h10, c130, e3, gf_15_9 k0, hb, gc_9 hB.1, k9, hne, gc_1 q3.1, k73, Option.bind_some, Option.toList_some, Option.toList_none, List.cons_append, List.nil_append, Option.isSome_some, if_true, eq_self, or_true, true_or, xb_01, mcl_cl, not_true_eq_false, not_false_eq_true, if_false]
        | false =>
          rw [e4] at k73
          simp only [x116_0, x116_1, x116_4, x116_7, x116_8, x116_11, x116_14, x116_15, x116_16, x116_17, x116_20, x116_21, x116_24, x116_25, x116_26, x116_29, x116_30, x116_33, x116_34, x116_37, x116_38, x116_39, x116_40, x116_43, x116_46, x116_47, x116_50, x116_51, c127, e1, xb_t, h10, c130, e3, gf_15_9 k0, hb, gc_9 hB.1, k9, hne, gc_1 q3.1, k73, xb_f, Option.bind_some, Option.toList_some, Option.toList_none, List.cons_append, List.nil_append, Option.isSome_some, if_true, eq_self, or_true, true_or, xb_01, mcl_cl, not_true_eq_false, not_false_eq_true, if_false]
theorem pMay_k8 (h : pMay k v = true) : k < 8 := by
  unfold pMay at h
  by_cases e : k = v
  · rw [if_pos e] at h
    have := (mWithin_iff.mp h).2
    rw [i32_lt, show (8 : Int32).toInt = 8 from rfl]
    omega
  · rw [if_neg e] at h
    by_cases e1 : k = 1
    · rw [e1]; decide
    · by_cases e2 : k = 2
      · rw [e2]; decide
      · by_cases e3 : k = 3
        · rw [e3]; decide
        · by_cases e4 : k = 4
          · rw [e4]; decide
          · by_cases e5 : k = 5
            · rw [e5]; decide
            · by_cases e6 : k = 6
              · rw [e6]; decide
              · rw [if_neg e1, if_neg e2, if_neg e3, if_neg e4, if_neg e5, if_neg e6] at h
                exact absurd h (by simp)
theorem l117 {A : Nat} (hA : rA g G c n b ρ S) (hr : rIn S r) (ha : A = ρ r) (hv : pMay (S.2.2.1 2 r) v = true) (h8 : S.2.2.1 2 r < 8) : ∀ d s m (s6 s7 s8 s9 : Slot), s + d = mz S r → X g 117 58 [.val (va_rf (some c)), .val (.int i), .val (.int v), .val (va_rf (some A)), .val (.int (nI m)), .val (.int (nI s)), s6, s7, s8, s9] [] (gH n kc ks G) = some (some (.int (nI (m + mCnt (sEx S r v) s d))), gH n kc ks G) := by
  subst ha
  have hO := hA.2.2.2.2.2.2.2.2.1
  obtain ⟨q1, q2, q3, q4⟩ := bS_row hA.2.2.1 hr
  have hr10 := rIn_lt hr
  obtain ⟨z1, z2⟩ := hO.1 r hr10
  have hz : mz S r ≤ 32 := by unfold mz tn; omega
  have k65 := c65 (g := g) (n := n) (kc := kc) (ks := ks) hA.1.1 q1
  rw [q3] at k65
  intro d
  induction d with
  | zero =>
    intro s m s6 s7 s8 s9 hs
    have h1 : nI (mz S r) ≤ nI s := nI_le (by omega) (by omega)
    simp only [x117_0, x117_1, x117_4, x117_7, x117_8, x117_11, x117_14, x117_15, x117_16, x117_17, x117_20, x117_21, x117_24, x117_25, x117_26, x117_29, x117_30, x117_33, x117_34, x117_37, x117_38, x117_39, x117_42, x117_43, x117_46, x117_49, x117_51, x117_52, x117_53, x117_55, x117_56, x117_58, x117_60, x117_61, x117_64, x117_67, x117_68, x117_70, x117_73, x117_75, x117_76, x117_79, x117_81, x117_82, x117_85, x117_87, x117_88, x117_91, x117_93, x117_96, x117_97, x117_99, x117_102, x117_103, x117_106, x117_109, x117_115, x117_117, gc_1 q1, k65, h1, Option.bind_some, Option.toList_some, Option.toList_none, List.cons_append, List.nil_append, Option.isSome_some, if_true, eq_self, or_true, true_or, xb_01, mcl_cl, not_true_eq_false, not_false_eq_true, if_false, mCnt, Nat.add_zero]
  | succ d ih =>
    intro s m s6 s7 s8 s9 hs
    have h1 : ¬ nI (mz S r) ≤ nI s := nI_ge (by omega) (by omega)
    have hx : xin (nI s) (mz S r) = true := xin_nI (by omega) (by omega)
    have k68 := c68 (g := g) (n := n) (kc := kc) (ks := ks) (i := nI s) hA.1.1 q1
    rw [q3, hx, if_pos rfl, tn_nI (by omega), (q4 s (by omega)).2] at k68
    have o1 := row_okv (r := r) (p := s) hO.2.1 hO.2.2.1 hr10 (by omega) h8
    have hv8 := pMay_8 hv
    have o2 : okv v (pView (S.2.2.1 2 r) (S.2.2.2 6 (32 * r + s)) v) := okv_view o1
    have k40 := c40 (g := g) (h := gH n kc ks G) (a := v) o1 hv8
    have k44a := c44 (g := g) (h := gH n kc ks G) o1 h8
    have k44b := c44 (g := g) (h := gH n kc ks G) o2 hv8
    rw [mCnt]
    by_cases c1 : pAmt (S.2.2.1 2 r) (S.2.2.2 6 (32 * r + s)) = pAmt v (pView (S.2.2.1 2 r) (S.2.2.2 6 (32 * r + s)) v)
    · have he : sEx S r v s = true := by unfold sEx; simp [c1]
      have h := ih (s + 1) (m + 1) (.val (.long (S.2.2.2 6 (32 * r + s)))) .second (.val (.long (pView (S.2.2.1 2 r) (S.2.2.2 6 (32 * r + s)) v))) .second (by omega)
      simp only [x117_0, x117_1, x117_4, x117_7, x117_8, x117_11, x117_14, x117_15, x117_16, x117_17, x117_20, x117_21, x117_24, x117_25, x117_26, x117_29, x117_30, x117_33, x117_34, x117_37, x117_38, x117_39, x117_42, x117_43, x117_46, x117_49, x117_51, x117_52, x117_53, x117_55, x117_56, x117_58, x117_60, x117_61, x117_64, x117_67, x117_68, x117_70, x117_73, x117_75, x117_76, x117_79, x117_81, x117_82, x117_85, x117_87, x117_88, x117_91, x117_93, x117_96, x117_97, x117_99, x117_102, x117_103, x117_106, x117_109, x117_115, x117_117, gc_1 q1, k65, h1, k68, gf_1_0 q1, q2, k40, k44a, k44b, lcmp_eq0, c1, Option.bind_some, Option.toList_some, Option.toList_none, List.cons_append, List.nil_append, Option.isSome_some, if_true, eq_self, or_true, true_or, xb_01, mcl_cl, not_true_eq_false, not_false_eq_true, if_false]
      simp only [x117_112, nI_1]
      rw [h, he]
      simp [Nat.add_assoc]
    · have he : sEx S r v s = false := by unfold sEx; simp [c1]
      have h := ih (s + 1) m (.val (.long (S.2.2.2 6 (32 * r + s)))) .second (.val (.long (pView (S.2.2.1 2 r) (S.2.2.2 6 (32 * r + s)) v))) .second (by omega)
      simp only [x117_0, x117_1, x117_4, x117_7, x117_8, x117_11, x117_14, x117_15, x117_16, x117_17, x117_20, x117_21, x117_24, x117_25, x117_26, x117_29, x117_30, x117_33, x117_34, x117_37, x117_38, x117_39, x117_42, x117_43, x117_46, x117_49, x117_51, x117_52, x117_53, x117_55, x117_56, x117_58, x117_60, x117_61, x117_64, x117_67, x117_68, x117_70, x117_73, x117_75, x117_76, x117_79, x117_81, x117_82, x117_85, x117_87, x117_88, x117_91, x117_93, x117_96, x117_97, x117_99, x117_102, x117_103, x117_106, x117_109, x117_115, x117_117, gc_1 q1, k65, h1, k68, gf_1_0 q1, q2, k40, k44a, k44b, lcmp_eq0, c1, Option.bind_some, Option.toList_some, Option.toList_none, List.cons_append, List.nil_append, Option.isSome_some, if_true, eq_self, or_true, true_or, xb_01, mcl_cl, not_true_eq_false, not_false_eq_true, if_false]
      simp only [x117_112, nI_1]
      rw [h, he]
      simp
theorem s117 (hA : rA g G c n b ρ S) (hp : G.2.2.1 (c + 7) 1 = 0) : sim g c n kc ks G 117 [.val (va_rf (some c)), .val (.int i), .val (.int v), .unset, .unset, .unset, .unset, .unset, .unset, .unset] (.int (fExact S i v)) S := by
  have k0 : G.1 c = 15 := hA.1.2.1.1
  have hb := hA.2.1
  have hB := hA.2.2.1
  have h10 : ¬ (1 : Int32) = 0 := by decide
  refine sim_same hA hp ?_
  unfold fExact
  cases e1 : mSlot i with
  | false =>
    rw [if_pos rfl]
    simp only [x117_0, x117_1, x117_4, x117_7, x117_8, x117_11, x117_14, x117_15, x117_16, x117_17, x117_20, x117_21, x117_24, x117_25, x117_26, x117_29, x117_30, x117_33, x117_34, x117_37, x117_38, x117_39, x117_42, x117_43, x117_46, x117_49, x117_51, x117_52, x117_53, x117_55, x117_56, x117_58, x117_60, x117_61, x117_64, x117_67, x117_68, x117_70, x117_73, x117_75, x117_76, x117_79, x117_81, x117_82, x117_85, x117_87, x117_88, x117_91, x117_93, x117_96, x117_97, x117_99, x117_102, x117_103, x117_106, x117_109, x117_115, x117_117, c127, e1, xb_f, Option.bind_some, Option.toList_some, Option.toList_none, List.cons_append, List.nil_append, Option.isSome_some, if_true, eq_self, or_true, true_or, xb_01, mcl_cl, not_true_eq_false, not_false_eq_true, if_false]
  | true =>
    rw [if_neg (by simp)]
    cases e3 : mWithin v.toInt 0 7 with
    | false =>
      rw [if_pos rfl]
      simp only [x117_0, x117_1, x117_4, x117_7, x117_8, x117_11, x117_14, x117_15, x117_16, x117_17, x117_20, x117_21, x117_24, x117_25, x117_26, x117_29, x117_30, x117_33, x117_34, x117_37, x117_38, x117_39, x117_42, x117_43, x117_46, x117_49, x117_51, x117_52, x117_53, x117_55, x117_56, x117_58, x117_60, x117_61, x117_64, x117_67, x117_68, x117_70, x117_73, x117_75, x117_76, x117_79, x117_81, x117_82, x117_85, x117_87, x117_88, x117_91, x117_93, x117_96, x117_97, x117_99, x117_102, x117_103, x117_106, x117_109, x117_115, x117_117, c127, e1, xb_t, h10, c129, e3, xb_f, Option.bind_some, Option.toList_some, Option.toList_none, List.cons_append, List.nil_append, Option.isSome_some, if_true, eq_self, or_true, true_or, xb_01, mcl_cl, not_true_eq_false, not_false_eq_true, if_false]
    | true =>
      rw [if_neg (by simp)]
      have k9 := c9 (g := g) (n := n) (kc := kc) (ks := ks) (i := i) hA.1.1 hB.1
      cases e2 : mRow S (tn i) with
      | false =>
        obtain ⟨q1, q2, q3, _⟩ := sl_none hA e1 e2
        have k11 := c11 (g := g) (n := n) (kc := kc) (ks := ks) (i := i) hA.1.1 hB.1
        rw [q1] at k9
        rw [q2] at k11
        rw [if_pos q3]
        simp only [x117_0, x117_1, x117_4, x117_7, x117_8, x117_11, x117_14, x117_15, x117_16, x117_17, x117_20, x117_21, x117_24, x117_25, x117_26, x117_29, x117_30, x117_33, x117_34, x117_37, x117_38, x117_39, x117_42, x117_43, x117_46, x117_49, x117_51, x117_52, x117_53, x117_55, x117_56, x117_58, x117_60, x117_61, x117_64, x117_67, x117_68, x117_70, x117_73, x117_75, x117_76, x117_79, x117_81, x117_82, x117_85, x117_87, x117_88, x117_91, x117_93, x117_96, x117_97, x117_99, x117_102, x117_103, x117_106, x117_109, x117_115, x117_117, c127, e1, xb_t, h10, c129, e3, gf_15_9 k0, hb, gc_9 hB.1, k9, k11, Option.bind_some, Option.toList_some, Option.toList_none, List.cons_append, List.nil_append, Option.isSome_some, if_true, eq_self, or_true, true_or, xb_01, mcl_cl, not_true_eq_false, not_false_eq_true, if_false]
      | true =>
        obtain ⟨q1, q2, q3, q4, q5, q6, q7⟩ := sl_yes hA e1 e2
        rw [q1] at k9
        rw [q5, if_neg (by simp)]
        have hne : ¬ (some (ρ (mr S (tn i))) = none) := by simp
        cases e4 : pMay (S.2.2.1 2 (mr S (tn i))) v with
        | false =>
          rw [if_pos rfl]
          simp only [x117_0, x117_1, x117_4, x117_7, x117_8, x117_11, x117_14, x117_15, x117_16, x117_17, x117_20, x117_21, x117_24, x117_25, x117_26, x117_29, x117_30, x117_33, x117_34, x117_37, x117_38, x117_39, x117_42, x117_43, x117_46, x117_49, x117_51, x117_52, x117_53, x117_55, x117_56, x117_58, x117_60, x117_61, x117_64, x117_67, x117_68, x117_70, x117_73, x117_75, x117_76, x117_79, x117_81, x117_82, x117_85, x117_87, x117_88, x117_91, x117_93, x117_96, x117_97, x117_99, x117_102, x117_103, x117_106, x117_109, x117_115, x117_117, c127, e1, xb_t, h10, c129, e3, gf_15_9 k0, hb, gc_9 hB.1, k9, hne, gf_1_0 q3.1, q3.2.1, e39 hA.1.2.2.1, e4, xb_f, Option.bind_some, Option.toList_some, Option.toList_none, List.cons_append, List.nil_append, Option.isSome_some, if_true, eq_self, or_true, true_or, xb_01, mcl_cl, not_true_eq_false, not_false_eq_true, if_false]
        | true =>
          rw [if_neg (by simp)]
          have h8 : S.2.2.1 2 (mr S (tn i)) < 8 := pMay_k8 e4
          have hl := l117 (g := g) (n := n) (kc := kc) (ks := ks) (i := i) hA q7 rfl e4 h8 (mz S (mr S (tn i))) 0 0 .unset .unset .unset .unset (by omega)
          rw [Nat.zero_add] at hl
          simp only [x117_0, x117_1, x117_4, x117_7, x117_8, x117_11, x117_14, x117_15, x117_16, x117_17, x117_20, x117_21, x117_24, x117_25, x117_26, x117_29, x117_30, x117_33, x117_34, x117_37, x117_38, x117_39, x117_42, x117_43, x117_46, x117_49, x117_51, x117_52, x117_53, x117_55, x117_56, c127, e1, xb_t, h10, c129, e3, gf_15_9 k0, hb, gc_9 hB.1, k9, hne, gf_1_0 q3.1, q3.2.1, e39 hA.1.2.2.1, e4, Option.bind_some, Option.toList_some, Option.toList_none, List.cons_append, List.nil_append, Option.isSome_some, if_true, eq_self, or_true, true_or, xb_01, mcl_cl, not_true_eq_false, not_false_eq_true, if_false]
          exact hl
end K29
