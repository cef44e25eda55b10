/-! THE CLASS beside the reference, 13: cells of windows read -/
section K26
variable {g : xG} {n kc ks a b c s t w q l x y jn d r p n' e kb : Nat} {G T U : GS} {h : xH} {i j k m v i1 i2 : Int32} {u z : Int64} {o : Option Nat} {S S1 S' : MS} {ρ κ : Nat → Nat} {L L' : List Nat} {cnt : Nat} {at' wk ik : Nat → Int32} {wv iv : Nat → Int64}
/-- all is as it was but for the boxes and what was read -/
def bq (T G : GS) (c : Nat) : Prop := T.1 = G.1 ∧ T.2.1 = G.2.1 ∧ T.2.2.2.2 = G.2.2.2.2 ∧ ∀ q, q ≠ c + 2 → q ≠ c + 3 → q ≠ c + 4 → q ≠ c + 5 → T.2.2.1 q = G.2.2.1 q ∧ T.2.2.2.1 q = G.2.2.2.1 q
theorem bq_refl : bq G G c := ⟨rfl, rfl, rfl, fun _ _ _ _ _ => ⟨rfl, rfl⟩⟩
theorem bq_trans (h1 : bq T G c) (h2 : bq U T c) : bq U G c := ⟨h2.1.trans h1.1, h2.2.1.trans h1.2.1, h2.2.2.1.trans h1.2.2.1, fun q a1 a2 a3 a4 => ⟨(h2.2.2.2 q a1 a2 a3 a4).1.trans (h1.2.2.2 q a1 a2 a3 a4).1, (h2.2.2.2 q a1 a2 a3 a4).2.trans (h1.2.2.2 q a1 a2 a3 a4).2⟩⟩
theorem bq_I (hx : x = c + 2 ∨ x = c + 3 ∨ x = c + 4 ∨ x = c + 5) : bq (gsI G x s k) G c := by
  refine ⟨rfl, rfl, rfl, fun q a1 a2 a3 a4 => ⟨?_, rfl⟩⟩
  funext t
  rw [gsI3, if_neg]
  rintro ⟨z, _⟩
  omega
theorem bq_J (hx : x = c + 2 ∨ x = c + 3 ∨ x = c + 4 ∨ x = c + 5) : bq (gsJ G x s u) G c := by
  refine ⟨rfl, rfl, rfl, fun q a1 a2 a3 a4 => ⟨rfl, ?_⟩⟩
  funext t
  rw [gsJ4, if_neg]
  rintro ⟨z, _⟩
  omega
theorem bq_x (hx : x = c + 2 ∨ x = c + 3) : bq (bxS G x k u) G c := bq_trans (bq_I (by omega)) (bq_J (by omega))
theorem bq_agr (hk : gK G c) (hq : bq T G c) : agr T G [16, 17, 18] := by
  obtain ⟨k0, k1, k2, k3, ⟨k4, _⟩, ⟨k5, _⟩, _⟩ := hk
  intro q hr
  have n2 : q ≠ c + 2 := by rintro rfl; exact hr (by rw [k2]; decide)
  have n3 : q ≠ c + 3 := by rintro rfl; exact hr (by rw [k3]; decide)
  have n4 : q ≠ c + 4 := by rintro rfl; exact hr (by rw [k4]; decide)
  have n5 : q ≠ c + 5 := by rintro rfl; exact hr (by rw [k5]; decide)
  obtain ⟨y1, y2⟩ := hq.2.2.2 q n2 n3 n4 n5
  exact ⟨by rw [hq.1], by rw [hq.2.1], y1, y2, by rw [hq.2.2.1]⟩
theorem rA_bq (hA : rA g G c n b ρ S) (hq : bq T G c) : rA g T c n b ρ S := by
  have hAg := bq_agr hA.1.2.1 hq
  have y1 := hq.2.2.2 (c + 1) (by omega) (by omega) (by omega) (by omega)
  have y7 := hq.2.2.2 (c + 7) (by omega) (by omega) (by omega) (by omega)
  exact rA_agr hAg (by decide) (by rw [y7.1]) (by rw [y7.1]) (by rw [y1.1]) (by rw [y1.2]) (gL_same hq.1 hq.2.1 hA.1) hA
theorem bq_7 (hq : bq T G c) : T.2.2.1 (c + 7) = G.2.2.1 (c + 7) := (hq.2.2.2 (c + 7) (by omega) (by omega) (by omega) (by omega)).1
theorem rPd_bq (hA : rA g G c n b ρ S) (hq : bq T G c) (hP : rPd G c ρ S p) : rPd T c ρ S p := by
  obtain ⟨h1, h2, h3⟩ := hP
  have k8 : G.1 (c + 8) = 21 := hA.1.2.1.2.2.2.2.2.2.2.2.1.1
  exact ⟨by rw [bq_7 hq]; exact h1, h2, rPu_agr (bq_agr hA.1.2.1 hq) (by decide) (by rw [k8]; decide) h3⟩
theorem sAns_1 (hx : sWhy i) : sAns i = 1 ↔ i = 0 := by
  unfold sAns
  rcases hx with h | h | h | h <;> subst h <;> simp
theorem sAns_n (hx : ¬ i = 0) : sAns i = i := by
  unfold sAns
  rw [if_neg hx]
/-- the window at a number -/
theorem rA_w (hA : rA g G c n b ρ S) (hw6 : w < 6) : G.1 (b + 5 + w) = 14 ∧ G.2.2.1 (b + 5 + w) 0 = nI (sSl S w) ∧ sSl S w < 10 ∧ G.2.2.1 (b + 5 + w) 1 = S.2.2.1 12 (5 * w + 1) ∧ G.2.2.1 (b + 5 + w) 2 = S.2.2.1 12 (5 * w + 2) ∧ G.2.2.1 (b + 5 + w) 3 = nI (sMany S w) ∧ sMany S w ≤ 32 ∧ G.2.2.1 (b + 5 + w) 4 = sVw S w ∧ 0 ≤ (sVw S w).toInt ∧ (sVw S w).toInt ≤ 8 := by
  have hB := hA.2.2.1
  obtain ⟨⟨m1, m2⟩, ⟨m3, m4⟩, m5, m6⟩ := hA.2.2.2.2.2.2.2.2.1.2.2.2.1 w hw6
  have h14 := (gW9 hA.1.1 hB.1).2.2.2.2.2.2.2.2 w hw6
  refine ⟨h14, ?_, ?_, hB.2.2 w 1 hw6 (by decide), hB.2.2 w 2 hw6 (by decide), ?_, ?_, hB.2.2 w 4 hw6 (by decide), m5, m6⟩
  · rw [hB.2.2 w 0 hw6 (by decide)]
    exact nI_tn m1
  · unfold sSl tn
    omega
  · rw [hB.2.2 w 3 hw6 (by decide)]
    exact nI_tn m3
  · unfold sMany tn
    omega
theorem sHas_x (hA : rA g G c n b ρ S) (hw6 : w < 6) : sHas S w j = xin j (sMany S w) := by
  obtain ⟨⟨m1, m2⟩, ⟨m3, m4⟩, m5, m6⟩ := hA.2.2.2.2.2.2.2.2.1.2.2.2.1 w hw6
  have hm : S.2.2.1 12 (5 * w + 3) = nI (sMany S w) := nI_tn m3
  unfold sHas
  rw [hm, ← xin_wi]
  unfold sMany tn
  omega
theorem xin_2 (hd : d < 2 ^ 31) : (!decide (j < 0) && !decide (nI d ≤ j)) = xin j d := by
  by_cases c1 : j < 0
  · rw [xin_neg c1, decide_eq_true c1]
    rfl
  · by_cases c2 : nI d ≤ j
    · rw [xin_ge hd c2, decide_eq_true c2, Bool.and_comm]
      rfl
    · rw [xin_lt hd c1 c2, decide_eq_false c1, decide_eq_false c2]
      rfl
theorem c139 (hA : rA g G c n b ρ S) (hw6 : w < 6) (hv0 : 0 ≤ v.toInt) (hv8 : v.toInt ≤ 8) (hx : G.1 x = 16) : X g 139 0 [.val (va_rf (some c)), .val (va_rf (some (b + 5 + w))), .val (.int j), .val (.int v), .val (va_rf (some x))] [] (gH n kc ks G) = some (some (.int (sAns (sLook S w j v))), gH n kc ks (if sLook S w j v = 0 then bxS G x (sLk S w j v) (sLv S w j v) else G)) := by
  obtain ⟨w1, w2, w3, w4, w5, w6, w7, w8, w9, w10⟩ := rA_w hA hw6
  have k0 : G.1 c = 15 := hA.1.2.1.1
  have k88 := c88 (g := g) (n := n) (kc := kc) (ks := ks) (i := j) w1
  have k89 := c89 (g := g) (n := n) (kc := kc) (ks := ks) (i := j) w1
  rw [w6, xin_2 (by omega)] at k88
  rw [w4, w5] at k89
  unfold sLook
  rw [sHas_x hA hw6]
  cases e1 : xin j (sMany S w) with
  | false =>
    rw [e1] at k88
    simp only [x139_0, x139_1, x139_2, x139_5, x139_8, x139_9, x139_10, x139_13, x139_14, x139_15, x139_18, x139_19, x139_21, x139_24, x139_27, x139_29, gc_14 w1, k88, xb_f, Option.bind_some, Option.toList_some, Option.toList_none, List.cons_append, List.nil_append, Option.isSome_some, if_true, eq_self, or_true, true_or, xb_01, mcl_cl, not_true_eq_false, not_false_eq_true, if_false]
    rfl
  | true =>
    rw [e1] at k88
    have k133 := c133 (g := g) (n := n) (kc := kc) (ks := ks) (i := sCell S w j) (v := v) hA.1.1 k0 hA.2.1 hA.2.2.1 hA.2.2.2.2.2.2.2.2.1 hA.1.2.2.1 w3 hv0 hv8 hx
    unfold sCell at k133
    simp only [x139_0, x139_1, x139_2, x139_5, x139_8, x139_9, x139_10, x139_13, x139_14, x139_15, x139_18, x139_19, x139_21, x139_24, x139_27, x139_29, gc_14 w1, k88, xb_t, show ¬ (1 : Int32) = 0 by decide, gf_14_0 w1, w2, k89, gc_15 k0, k133, Option.bind_some, Option.toList_some, Option.toList_none, List.cons_append, List.nil_append, Option.isSome_some, if_true, eq_self, or_true, true_or, xb_01, mcl_cl, not_true_eq_false, not_false_eq_true, if_false]
    rfl
theorem c141 (hA : rA g G c n b ρ S) (hw6 : w < 6) : ∃ T, X g 141 0 [.val (va_rf (some c)), .val (va_rf (some (b + 5 + w))), .val (.int j), .unset] [] (gH n kc ks G) = some (some (.int (sAns (sFa S w j))), gH n kc ks T) ∧ bq T G c := by
  obtain ⟨w1, w2, w3, w4, w5, w6, w7, w8, w9, w10⟩ := rA_w hA hw6
  have k0 : G.1 c = 15 := hA.1.2.1.1
  have k2 : G.1 (c + 2) = 16 := hA.1.2.1.2.2.1
  have k139 := c139 (g := g) (n := n) (kc := kc) (ks := ks) (j := j) hA hw6 w9 w10 k2
  have hwy := sLook_why S w j (sVw S w)
  have hs1 := sAns_1 hwy
  unfold sFa
  rw [show S.2.2.1 12 (5 * w + 4) = sVw S w from rfl]
  by_cases e : sLook S w j (sVw S w) = 0
  · have hb := okb_look hA.2.2.2.2.2.2.2.2.1 e
    rw [if_pos e, hs1.mpr e] at k139
    refine ⟨bxS G (c + 2) (sLk S w j (sVw S w)) (sLv S w j (sVw S w)), ?_, bq_x (Or.inl rfl)⟩
    have k2' : (bxS G (c + 2) (sLk S w j (sVw S w)) (sLv S w j (sVw S w))).1 (c + 2) = 16 := k2
    have k0' : (bxS G (c + 2) (sLk S w j (sVw S w)) (sLv S w j (sVw S w))).1 c = 15 := k0
    have e0 : (bxS G (c + 2) (sLk S w j (sVw S w)) (sLv S w j (sVw S w))).2.2.1 (c + 2) 0 = sLk S w j (sVw S w) := by simp [bxS, gsI, gsJ]
    have h80 : (8 : Int32).toInt = 8 := rfl
    by_cases h8 : 8 ≤ sLk S w j (sVw S w)
    · have hw : mWithin (sLk S w j (sVw S w)).toInt 0 7 = false := by
        rw [i32_le, h80] at h8
        exact Bool.eq_false_iff.mpr (fun z => by have := mWithin_iff.mp z; omega)
      rw [if_pos ⟨e, h8⟩]
      simp only [x141_0, x141_1, x141_2, x141_3, x141_4, x141_7, x141_8, x141_11, x141_14, x141_15, x141_16, x141_17, x141_20, x141_21, x141_22, x141_23, x141_26, x141_29, x141_32, x141_35, x141_36, x141_39, x141_41, gf_14_4 w1, w8, gf_15_1 k0, gc_15 k0, k139, gf_15_1 k0', gf_16_0 k2', e0, c43, hw, xb_f, Option.bind_some, Option.toList_some, Option.toList_none, List.cons_append, List.nil_append, Option.isSome_some, if_true, eq_self, or_true, true_or, xb_01, mcl_cl, not_true_eq_false, not_false_eq_true, if_false]
      rfl
    · have hw : mWithin (sLk S w j (sVw S w)).toInt 0 7 = true := by
        rw [i32_le, h80] at h8
        have := hb.2.1
        exact mWithin_iff.mpr ⟨this, by omega⟩
      rw [if_neg (fun z => h8 z.2), e]
      simp only [x141_0, x141_1, x141_2, x141_3, x141_4, x141_7, x141_8, x141_11, x141_14, x141_15, x141_16, x141_17, x141_20, x141_21, x141_22, x141_23, x141_26, x141_29, x141_32, x141_35, x141_36, x141_39, x141_41, gf_14_4 w1, w8, gf_15_1 k0, gc_15 k0, k139, gf_15_1 k0', gf_16_0 k2', e0, c43, hw, xb_t, show ¬ (1 : Int32) = 0 by decide, Option.bind_some, Option.toList_some, Option.toList_none, List.cons_append, List.nil_append, Option.isSome_some, if_true, eq_self, or_true, true_or, xb_01, mcl_cl, not_true_eq_false, not_false_eq_true, if_false]
      rfl
  · rw [if_neg e] at k139
    rw [if_neg (fun z => e z.1)]
    have hn : ¬ sAns (sLook S w j (sVw S w)) = 1 := fun z => e (hs1.mp z)
    refine ⟨G, ?_, bq_refl⟩
    simp only [x141_0, x141_1, x141_2, x141_3, x141_4, x141_7, x141_8, x141_11, x141_14, x141_15, x141_16, x141_17, x141_20, x141_21, x141_22, x141_23, x141_26, x141_29, x141_32, x141_35, x141_36, x141_39, x141_41, gf_14_4 w1, w8, gf_15_1 k0, gc_15 k0, k139, hn, Option.bind_some, Option.toList_some, Option.toList_none, List.cons_append, List.nil_append, Option.isSome_some, if_true, eq_self, or_true, true_or, xb_01, mcl_cl, not_true_eq_false, not_false_eq_true, if_false]
theorem sFa_why (S : MS) (w : Nat) (j : Int32) : sWhy (sFa S w j) := by
  unfold sFa
  split
  · exact Or.inr (Or.inr (Or.inl rfl))
  · exact sLook_why _ _ _ _
theorem l142 (hA : rA g G c n b ρ S) (hw6 : w < 6) : ∀ d s (T : GS), bq T G c → s + d = sMany S w → ∃ U, X g 142 2 [.val (va_rf (some c)), .val (va_rf (some (b + 5 + w))), .val (.int (nI s))] [] (gH n kc ks T) = some (some (.int (mFst (fun j => !decide (sFa S w (nI j) = 0)) s d)), gH n kc ks U) ∧ bq U G c := by
  intro d
  induction d with
  | zero =>
    intro s T hq hs
    have hT := rA_bq hA hq
    obtain ⟨w1, w2, w3, w4, w5, w6, w7, w8, w9, w10⟩ := rA_w hT hw6
    have h1 : nI (sMany S w) ≤ nI s := nI_le (by omega) (by omega)
    refine ⟨T, ?_, hq⟩
    simp only [x142_0, x142_1, x142_2, x142_3, x142_4, x142_7, x142_10, x142_11, x142_12, x142_13, x142_16, x142_17, x142_20, x142_21, x142_22, x142_28, x142_30, gf_14_3 w1, w6, h1, Option.bind_some, Option.toList_some, Option.toList_none, List.cons_append, List.nil_append, Option.isSome_some, if_true, eq_self, or_true, true_or, xb_01, mcl_cl, not_true_eq_false, not_false_eq_true, if_false, mFst]
  | succ d ih =>
    intro s T hq hs
    have hT := rA_bq hA hq
    obtain ⟨w1, w2, w3, w4, w5, w6, w7, w8, w9, w10⟩ := rA_w hT hw6
    have k0 : T.1 c = 15 := hT.1.2.1.1
    have h1 : ¬ nI (sMany S w) ≤ nI s := nI_ge (by omega) (by omega)
    obtain ⟨U, u1, u2⟩ := c141 (g := g) (n := n) (kc := kc) (ks := ks) (j := nI s) hT hw6
    have hs1 := sAns_1 (sFa_why S w (nI s))
    by_cases e : sFa S w (nI s) = 0
    · obtain ⟨V, v1, v2⟩ := ih (s + 1) U (bq_trans hq u2) (by omega)
      refine ⟨V, ?_, v2⟩
      rw [hs1.mpr e] at u1
      simp only [x142_0, x142_1, x142_2, x142_3, x142_4, x142_7, x142_10, x142_11, x142_12, x142_13, x142_16, x142_17, x142_20, x142_21, x142_22, x142_28, x142_30, gf_14_3 w1, w6, h1, gc_15 k0, u1, mFst, e, Option.bind_some, Option.toList_some, Option.toList_none, List.cons_append, List.nil_append, Option.isSome_some, if_true, eq_self, or_true, true_or, xb_01, mcl_cl, not_true_eq_false, not_false_eq_true, if_false]
      simp only [x142_25, nI_1]
      simp only [decide_true, Bool.not_true]
      rw [if_neg (by simp)]
      exact v1
    · have hn : ¬ sAns (sFa S w (nI s)) = 1 := fun z => e (hs1.mp z)
      refine ⟨U, ?_, bq_trans hq u2⟩
      simp only [x142_0, x142_1, x142_2, x142_3, x142_4, x142_7, x142_10, x142_11, x142_12, x142_13, x142_16, x142_17, x142_20, x142_21, x142_22, x142_28, x142_30, gf_14_3 w1, w6, h1, gc_15 k0, u1, hn, mFst, e, Option.bind_some, Option.toList_some, Option.toList_none, List.cons_append, List.nil_append, Option.isSome_some, if_true, eq_self, or_true, true_or, xb_01, mcl_cl, not_true_eq_false, not_false_eq_true, if_false]
      simp
theorem c142 (hA : rA g G c n b ρ S) (hw6 : w < 6) : ∃ U, X g 142 0 [.val (va_rf (some c)), .val (va_rf (some (b + 5 + w))), .unset] [] (gH n kc ks G) = some (some (.int (sFf S w)), gH n kc ks U) ∧ bq U G c := by
  obtain ⟨U, h1, h2⟩ := l142 (g := g) (n := n) (kc := kc) (ks := ks) hA hw6 (sMany S w) 0 G bq_refl (by omega)
  refine ⟨U, ?_, h2⟩
  simp only [x142_0, x142_1]
  exact h1
theorem mFst_ne {f : Nat → Bool} : ∀ d s, ¬ mFst f s d = -5 → ∃ q, s ≤ q ∧ q < s + d ∧ mFst f s d = nI q ∧ f q = true := by
  intro d
  induction d with
  | zero => intro s h; exact absurd rfl h
  | succ d ih =>
    intro s h
    rw [mFst] at h ⊢
    by_cases e : f s = true
    · rw [if_pos e]
      exact ⟨s, Nat.le_refl s, by omega, rfl, e⟩
    · rw [if_neg e] at h ⊢
      obtain ⟨q, h1, h2, h3, h4⟩ := ih (s + 1) h
      exact ⟨q, by omega, by omega, h3, h4⟩
theorem mFst_bad (e : ¬ sFf S w = -5) : ¬ sFa S w (sFf S w) = 0 := by
  obtain ⟨q, h1, h2, h3, h4⟩ := mFst_ne (sMany S w) 0 e
  unfold sFf
  rw [h3]
  simpa using h4
theorem sim_bq {v : Value} {L : List Slot} (hA : rA g G c n b ρ S) (hp : G.2.2.1 (c + 7) 1 = 0) (hq : bq T G c) (hx : X g y 0 L [] (gH n kc ks G) = some (some v, gH n kc ks T)) : sim g c n kc ks G y L v S := sim_in (rA_bq hA hq) (by rw [bq_7 hq]; exact hp) hq.1 hx
/-- the window of an argument -/
theorem k13w (hA : rA g G c n b ρ S) (e : mSl i = true) : X g 13 0 [.val (va_rf (some b)), .val (.int i)] [] (gH n kc ks G) = some (some (va_rf (some (b + 5 + tn i))), gH n kc ks G) ∧ tn i < 6 := by
  have k13 := c13 (g := g) (n := n) (kc := kc) (ks := ks) (i := i) hA.1.1 hA.2.2.1.1
  unfold bWin at k13
  rw [e, if_pos rfl] at k13
  exact ⟨k13, (xin_tn (sl_x e)).2⟩
theorem k13n (hA : rA g G c n b ρ S) (e : mSl i = false) : X g 13 0 [.val (va_rf (some b)), .val (.int i)] [] (gH n kc ks G) = some (some (va_rf none), gH n kc ks G) := by
  have k13 := c13 (g := g) (n := n) (kc := kc) (ks := ks) (i := i) hA.1.1 hA.2.2.1.1
  unfold bWin at k13
  rw [e, if_neg (by simp)] at k13
  exact k13
theorem s105 (hA : rA g G c n b ρ S) (hp : G.2.2.1 (c + 7) 1 = 0) : sim g c n kc ks G 105 [.val (va_rf (some c)), .val (.int i), .val (.int j), .unset, .unset] (.int (fFault S i j)) S := by
  have k0 : G.1 c = 15 := hA.1.2.1.1
  have hb := hA.2.1
  have hB := hA.2.2.1
  unfold fFault
  cases e1 : mSl i with
  | false =>
    have k13 := k13n (g := g) (kc := kc) (ks := ks) hA e1
    rw [if_pos rfl]
    refine sim_same hA hp ?_
    simp only [x105_0, x105_1, x105_4, x105_5, x105_8, x105_9, x105_10, x105_13, x105_14, x105_17, x105_18, x105_19, x105_22, x105_23, x105_24, x105_25, x105_26, x105_29, x105_31, x105_32, x105_35, x105_37, x105_39, x105_42, x105_44, x105_45, x105_46, x105_47, x105_49, x105_52, gf_15_9 k0, hb, gc_9 hB.1, k13, Option.bind_some, Option.toList_some, Option.toList_none, List.cons_append, List.nil_append, Option.isSome_some, if_true, eq_self, or_true, true_or, xb_01, mcl_cl, not_true_eq_false, not_false_eq_true, if_false]
  | true =>
    obtain ⟨k13, hi⟩ := k13w (g := g) (kc := kc) (ks := ks) hA e1
    rw [if_neg (by simp)]
    have hne : ¬ (some (b + 5 + tn i) = none) := by simp
    by_cases q1 : j < 0
    · rw [show mWithin j.toInt 0 1 = false from wi_1 (lo := 0) (hi := 1) q1, if_pos rfl]
      refine sim_same hA hp ?_
      simp only [x105_0, x105_1, x105_4, x105_5, x105_8, x105_9, x105_10, x105_13, x105_14, x105_17, x105_18, x105_19, x105_22, x105_23, x105_24, x105_25, x105_26, x105_29, x105_31, x105_32, x105_35, x105_37, x105_39, x105_42, x105_44, x105_45, x105_46, x105_47, x105_49, x105_52, gf_15_9 k0, hb, gc_9 hB.1, k13, hne, q1, Option.bind_some, Option.toList_some, Option.toList_none, List.cons_append, List.nil_append, Option.isSome_some, if_true, eq_self, or_true, true_or, xb_01, mcl_cl, not_true_eq_false, not_false_eq_true, if_false]
    · by_cases q2 : j ≤ 1
      · have q2' : ¬ 1 < j := by rw [i32_le] at q2; rw [i32_lt]; omega
        rw [show mWithin j.toInt 0 1 = true from wi_3 (lo := 0) (hi := 1) q1 q2', if_neg (by simp)]
        obtain ⟨T, t1, t2⟩ := c142 (g := g) (n := n) (kc := kc) (ks := ks) hA hi
        have hT := rA_bq hA t2
        have k0' : T.1 c = 15 := hT.1.2.1.1
        by_cases j0 : j = 0
        · refine sim_bq hA hp t2 ?_
          by_cases e5 : sFf S (tn i) = -5
          · rw [if_pos e5]
            simp only [x105_0, x105_1, x105_4, x105_5, x105_8, x105_9, x105_10, x105_13, x105_14, x105_17, x105_18, x105_19, x105_22, x105_23, x105_24, x105_25, x105_26, x105_29, x105_31, x105_32, x105_35, x105_37, x105_39, x105_42, x105_44, x105_45, x105_46, x105_47, x105_49, x105_52, gf_15_9 k0, hb, gc_9 hB.1, k13, hne, q1, q2, gc_15 k0, t1, j0, e5, Option.bind_some, Option.toList_some, Option.toList_none, List.cons_append, List.nil_append, Option.isSome_some, if_true, eq_self, or_true, true_or, xb_01, mcl_cl, not_true_eq_false, not_false_eq_true, if_false]
            simp
          · rw [if_neg e5, if_pos j0]
            simp only [x105_0, x105_1, x105_4, x105_5, x105_8, x105_9, x105_10, x105_13, x105_14, x105_17, x105_18, x105_19, x105_22, x105_23, x105_24, x105_25, x105_26, x105_29, x105_31, x105_32, x105_35, x105_37, x105_39, x105_42, x105_44, x105_45, x105_46, x105_47, x105_49, x105_52, gf_15_9 k0, hb, gc_9 hB.1, k13, hne, q1, q2, gc_15 k0, t1, j0, e5, Option.bind_some, Option.toList_some, Option.toList_none, List.cons_append, List.nil_append, Option.isSome_some, if_true, eq_self, or_true, true_or, xb_01, mcl_cl, not_true_eq_false, not_false_eq_true, if_false]
            simp
        · by_cases e5 : sFf S (tn i) = -5
          · rw [if_pos e5]
            refine sim_bq hA hp t2 ?_
            simp only [x105_0, x105_1, x105_4, x105_5, x105_8, x105_9, x105_10, x105_13, x105_14, x105_17, x105_18, x105_19, x105_22, x105_23, x105_24, x105_25, x105_26, x105_29, x105_31, x105_32, x105_35, x105_37, x105_39, x105_42, x105_44, x105_45, x105_46, x105_47, x105_49, x105_52, gf_15_9 k0, hb, gc_9 hB.1, k13, hne, q1, q2, gc_15 k0, t1, j0, e5, Option.bind_some, Option.toList_some, Option.toList_none, List.cons_append, List.nil_append, Option.isSome_some, if_true, eq_self, or_true, true_or, xb_01, mcl_cl, not_true_eq_false, not_false_eq_true, if_false]
          · rw [if_neg e5, if_neg j0]
            obtain ⟨U, u1, u2⟩ := c141 (g := g) (n := n) (kc := kc) (ks := ks) (j := sFf S (tn i)) hT hi
            have hf : ¬ sFa S (tn i) (sFf S (tn i)) = 0 := mFst_bad e5
            rw [sAns_n hf] at u1
            refine sim_bq hA hp (bq_trans t2 u2) ?_
            simp only [x105_0, x105_1, x105_4, x105_5, x105_8, x105_9, x105_10, x105_13, x105_14, x105_17, x105_18, x105_19, x105_22, x105_23, x105_24, x105_25, x105_26, x105_29, x105_31, x105_32, x105_35, x105_37, x105_39, x105_42, x105_44, x105_45, x105_46, x105_47, x105_49, x105_52, gf_15_9 k0, hb, gc_9 hB.1, k13, hne, q1, q2, gc_15 k0, gc_15 k0', t1, j0, e5, u1, Option.bind_some, Option.toList_some, Option.toList_none, List.cons_append, List.nil_append, Option.isSome_some, if_true, eq_self, or_true, true_or, xb_01, mcl_cl, not_true_eq_false, not_false_eq_true, if_false]
      · have q2' : 1 < j := by rw [i32_le] at q2; rw [i32_lt]; omega
        rw [show mWithin j.toInt 0 1 = false from wi_2 (lo := 0) (hi := 1) q2', if_pos rfl]
        refine sim_same hA hp ?_
        simp only [x105_0, x105_1, x105_4, x105_5, x105_8, x105_9, x105_10, x105_13, x105_14, x105_17, x105_18, x105_19, x105_22, x105_23, x105_24, x105_25, x105_26, x105_29, x105_31, x105_32, x105_35, x105_37, x105_39, x105_42, x105_44, x105_45, x105_46, x105_47, x105_49, x105_52, gf_15_9 k0, hb, gc_9 hB.1, k13, hne, q1, q2, Option.bind_some, Option.toList_some, Option.toList_none, List.cons_append, List.nil_append, Option.isSome_some, if_true, eq_self, or_true, true_or, xb_01, mcl_cl, not_true_eq_false, not_false_eq_true, if_false]
end K26
