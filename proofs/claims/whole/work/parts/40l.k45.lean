/-! THE CLASS beside the reference, 32: make -/
section K45
variable {g : xG} {n kc ks a b c s t w q l x y jn d r p n' e kb n1 kc1 ks1 m N r0 : Nat} {G T U G1 G2 : GS} {h : xH} {i j k v i1 i2 x7 x8 kk : Int32} {u z : Int64} {S S1 S' V W : MS} {ρ κ ρ' : Nat → Nat} {L L' : List Nat} {o : Option Nat}
/-- new things beside old ones -/
theorem gW_add (hw : gW G) (h0 : ∀ q, n ≤ q → G.1 q = 0) (he : ∀ q, q < n → T.1 q = G.1 q ∧ T.2.1 q = G.2.1 q) (hn : ∀ q, n ≤ q → (T.1 q = 1 → T.1 (q + 1) = 2 ∧ T.1 (q + 2) = 3 ∧ T.1 (q + 3) = 4 ∧ T.2.1 (q + 1) = T.2.1 (q + 2) ∧ T.2.1 (q + 3) = T.2.1 (q + 2) ∧ T.2.1 (q + 2) ≤ 32) ∧ (T.1 q = 6 → T.1 (q + 1) = 7 ∧ T.2.1 (q + 1) ≤ 64) ∧ (T.1 q = 9 → T.1 (q + 1) = 10 ∧ T.1 (q + 2) = 11 ∧ T.1 (q + 3) = 12 ∧ T.1 (q + 4) = 13 ∧ T.2.1 (q + 1) = 10 ∧ T.2.1 (q + 2) = 10 ∧ T.2.1 (q + 3) = 10 ∧ T.2.1 (q + 4) = 6 ∧ ∀ w, w < 6 → T.1 (q + 5 + w) = 14)) : gW T := by
  have lt : ∀ q, G.1 q ≠ 0 → q < n := fun q hq => Classical.byContradiction fun z => hq (h0 q (by omega))
  have e1 : ∀ q, G.1 q ≠ 0 → T.1 q = G.1 q := fun q hq => (he q (lt q hq)).1
  have e2 : ∀ q, G.1 q ≠ 0 → T.2.1 q = G.2.1 q := fun q hq => (he q (lt q hq)).2
  obtain ⟨w1, w2, w3⟩ := hw
  refine ⟨fun a ha => ?_, fun a ha => ?_, fun a ha => ?_⟩
  · by_cases c : n ≤ a
    · exact (hn a c).1 ha
    · rw [(he a (by omega)).1] at ha
      obtain ⟨y1, y2, y3, y4, y5, y6⟩ := w1 a ha
      have n1 : G.1 (a + 1) ≠ 0 := by rw [y1]; decide
      have n2 : G.1 (a + 2) ≠ 0 := by rw [y2]; decide
      have n3 : G.1 (a + 3) ≠ 0 := by rw [y3]; decide
      rw [e1 _ n1, e1 _ n2, e1 _ n3, e2 _ n1, e2 _ n2, e2 _ n3]
      exact ⟨y1, y2, y3, y4, y5, y6⟩
  · by_cases c : n ≤ a
    · exact (hn a c).2.1 ha
    · rw [(he a (by omega)).1] at ha
      obtain ⟨y1, y2⟩ := w2 a ha
      have n1 : G.1 (a + 1) ≠ 0 := by rw [y1]; decide
      rw [e1 _ n1, e2 _ n1]
      exact ⟨y1, y2⟩
  · by_cases c : n ≤ a
    · exact (hn a c).2.2 ha
    · rw [(he a (by omega)).1] at ha
      obtain ⟨y1, y2, y3, y4, y5, y6, y7, y8, y9⟩ := w3 a ha
      have n1 : G.1 (a + 1) ≠ 0 := by rw [y1]; decide
      have n2 : G.1 (a + 2) ≠ 0 := by rw [y2]; decide
      have n3 : G.1 (a + 3) ≠ 0 := by rw [y3]; decide
      have n4 : G.1 (a + 4) ≠ 0 := by rw [y4]; decide
      rw [e1 _ n1, e1 _ n2, e1 _ n3, e1 _ n4, e2 _ n1, e2 _ n2, e2 _ n3, e2 _ n4]
      refine ⟨y1, y2, y3, y4, y5, y6, y7, y8, fun w hw => ?_⟩
      rw [e1 _ (by rw [y9 w hw]; decide)]
      exact y9 w hw
theorem rMk_1 : (rMk G n k kk l).1 q = if q = n then 1 else if q = n + 1 then 2 else if q = n + 2 then 3 else if q = n + 3 then 4 else G.1 q := by
  show (if q = n then 1 else if q = n then 37 else if q = n + 1 then 2 else if q = n + 2 then 3 else if q = n + 3 then 4 else G.1 q) = _
  by_cases c : q = n
  · rw [if_pos c, if_pos c]
  · rw [if_neg c, if_neg c, if_neg c]
theorem rMk_2 : (rMk G n k kk l).2.1 q = if q = n then 0 else if q = n + 1 ∨ q = n + 2 ∨ q = n + 3 then l else G.2.1 q := rfl
theorem rMk_o (hq : ¬ (n ≤ q ∧ q ≤ n + 3)) : eqA (rMk G n k kk l) G q := by
  refine ⟨?_, ?_, ?_, ?_, ?_⟩
  · rw [rMk_1, if_neg (by omega), if_neg (by omega), if_neg (by omega), if_neg (by omega)]
  · rw [rMk_2, if_neg (by omega), if_neg (by omega)]
  · funext e
    show (if q = n then _ else if q = n + 1 then _ else if q = n + 2 ∨ q = n + 3 then _ else G.2.2.1 q e) = _
    rw [if_neg (by omega), if_neg (by omega), if_neg (by omega)]
  · funext e
    show (if n ≤ q ∧ q ≤ n + 3 then _ else G.2.2.2.1 q e) = _
    rw [if_neg hq]
  · funext e
    show (if q = n then _ else if n ≤ q ∧ q ≤ n + 3 then _ else G.2.2.2.2 q e) = _
    rw [if_neg (by omega), if_neg hq]
theorem gL_rMk (hL : gL g G c n) (hl : l ≤ 32) : gL g (rMk G n k kk l) c (n + 4) := by
  have h0 := hL.2.2.2.2.2.2
  have he : ∀ q, q < n → (rMk G n k kk l).1 q = G.1 q ∧ (rMk G n k kk l).2.1 q = G.2.1 q := fun q hq => ⟨(rMk_o (by omega)).1, (rMk_o (by omega)).2.1⟩
  refine gL_grow hL (gW_add hL.1 h0 he ?_) (fun q hq => (he q hq).1) (fun q hq => (he q hq).2) (by omega) (fun q hq => by rw [(rMk_o (by omega)).1]; exact h0 q (by omega))
  intro q hq
  refine ⟨fun h1 => ?_, fun h1 => ?_, fun h1 => ?_⟩
  · have c0 : q = n := by
      by_cases c0 : q = n
      · exact c0
      · rw [rMk_1, if_neg c0] at h1
        split at h1
        · omega
        · split at h1
          · omega
          · split at h1
            · omega
            · rw [h0 q hq] at h1
              omega
    subst c0
    rw [rMk_1, rMk_1, rMk_1, rMk_2, rMk_2, rMk_2]
    simp
    exact hl
  · exfalso
    rw [rMk_1, h0 q hq] at h1
    repeat' split at h1
    all_goals omega
  · exfalso
    rw [rMk_1, h0 q hq] at h1
    repeat' split at h1
    all_goals omega
theorem mMk_7 : (mMk W s r0 k j).2.2.1 7 q = if q = s then nI r0 else W.2.2.1 7 q := by
  simp [mMk, mFl, msA]
theorem mMk_2 : (mMk W s r0 k j).2.2.1 2 q = if q = r0 then k else W.2.2.1 2 q := by
  simp [mMk, mFl, msA]
theorem mMk_3 : (mMk W s r0 k j).2.2.1 3 q = if q = r0 then j else W.2.2.1 3 q := by
  simp [mMk, mFl, msA]
theorem mMk_4 : (mMk W s r0 k j).2.2.1 4 q = if q = r0 then 0 else W.2.2.1 4 q := by
  simp [mMk, mFl, msA]
theorem mMk_5 : (mMk W s r0 k j).2.2.1 5 q = if 32 * r0 ≤ q ∧ q < 32 * r0 + 32 then (if k < 8 then k else 8) else W.2.2.1 5 q := by
  simp [mMk, mFl, msA]
theorem mMk_6 : (mMk W s r0 k j).2.2.2 6 q = if 32 * r0 ≤ q ∧ q < 32 * r0 + 32 then 0 else W.2.2.2 6 q := by
  simp [mMk, mFl, msA]
theorem mMk_A (h : ¬ q ∈ [2, 3, 4, 5, 7]) : (mMk W s r0 k j).2.2.1 q = W.2.2.1 q := by
  simp only [List.mem_cons, List.not_mem_nil, or_false, not_or] at h
  funext t
  simp [mMk, mFl, msA, h.1, h.2.1, h.2.2.1, h.2.2.2.1, h.2.2.2.2]
theorem mMk_B (h : q ≠ 6) : (mMk W s r0 k j).2.2.2 q = W.2.2.2 q := by
  funext t
  simp [mMk, mFl, msA, h]
theorem pB0 (p : Nat) : pBit 0 p = false := Nat.zero_testBit p
theorem okv_0 (hk : 0 ≤ k.toInt) (h8 : k.toInt ≤ 8) : okv k 0 ∧ okl k 0 := by
  refine ⟨⟨fun _ => ⟨rfl, Or.inl rfl⟩, fun _ => by decide⟩, hk, fun h => ?_, fun h => ?_, by omega⟩
  · subst h
    exact absurd h8 (by decide)
  · subst h
    exact absurd h8 (by decide)
theorem s92 (hA : rA g G c n b ρ S) (hp : G.2.2.1 (c + 7) 1 = 0) (hW : sMake i k j = 1 → mLet S (tn i) W) : sim g c n kc ks G 92 [.val (va_rf (some c)), .val (.int i), .val (.int k), .val (.int j), .unset] (.int (sMake i k j)) (if sMake i k j = 1 then mMk W (tn i) (mFr S (tn i)) k j else S) := by
  have k0 : G.1 c = 15 := hA.1.2.1.1
  have hb := hA.2.1
  have hB := hA.2.2.1
  have h10 : ¬ (1 : Int32) = 0 := by decide
  revert hW
  unfold sMake
  cases e1 : mSlot i with
  | false =>
    intro _
    rw [if_pos rfl, if_neg (by decide)]
    refine sim_same hA hp ?_
    simp only [x92_0, x92_1, x92_4, x92_7, x92_8, x92_9, x92_10, x92_13, x92_14, x92_16, x92_19, x92_20, x92_22, x92_25, x92_27, x92_28, x92_29, x92_32, x92_34, x92_35, x92_36, x92_39, x92_40, x92_43, x92_45, x92_46, x92_49, x92_50, x92_53, x92_54, x92_55, x92_56, x92_59, x92_62, x92_63, x92_65, x92_68, x92_69, c127, e1, xb_f, Option.bind_some, Option.toList_some, Option.toList_none, List.cons_append, List.nil_append, Option.isSome_some, if_true, eq_self, or_true, true_or, xb_01, mcl_cl, not_true_eq_false, not_false_eq_true, if_false]
  | true =>
    rw [if_neg (by simp)]
    obtain ⟨hi, hi10⟩ := c127w e1
    have k9 := c9 (g := g) (n := n) (kc := kc) (ks := ks) (i := i) hA.1.1 hB.1
    unfold bRow at k9
    rw [e1, if_pos rfl] at k9
    by_cases q1 : k < 0
    · rw [show mWithin k.toInt 0 9 = false from wi_1 (lo := 0) (hi := 9) q1, if_pos rfl, if_neg (by decide)]
      intro _
      refine sim_same hA hp ?_
      simp only [x92_0, x92_1, x92_4, x92_7, x92_8, x92_9, x92_10, x92_13, x92_14, x92_16, x92_19, x92_20, x92_22, x92_25, x92_27, x92_28, x92_29, x92_32, x92_34, x92_35, x92_36, x92_39, x92_40, x92_43, x92_45, x92_46, x92_49, x92_50, x92_53, x92_54, x92_55, x92_56, x92_59, x92_62, x92_63, x92_65, x92_68, x92_69, c127, e1, xb_t, h10, q1, Option.bind_some, Option.toList_some, Option.toList_none, List.cons_append, List.nil_append, Option.isSome_some, if_true, eq_self, or_true, true_or, xb_01, mcl_cl, not_true_eq_false, not_false_eq_true, if_false]
    · by_cases q2 : 9 < k
      · rw [show mWithin k.toInt 0 9 = false from wi_2 (lo := 0) (hi := 9) q2, if_pos rfl, if_neg (by decide)]
        intro _
        refine sim_same hA hp ?_
        simp only [x92_0, x92_1, x92_4, x92_7, x92_8, x92_9, x92_10, x92_13, x92_14, x92_16, x92_19, x92_20, x92_22, x92_25, x92_27, x92_28, x92_29, x92_32, x92_34, x92_35, x92_36, x92_39, x92_40, x92_43, x92_45, x92_46, x92_49, x92_50, x92_53, x92_54, x92_55, x92_56, x92_59, x92_62, x92_63, x92_65, x92_68, x92_69, c127, e1, xb_t, h10, q1, q2, Option.bind_some, Option.toList_some, Option.toList_none, List.cons_append, List.nil_append, Option.isSome_some, if_true, eq_self, or_true, true_or, xb_01, mcl_cl, not_true_eq_false, not_false_eq_true, if_false]
      · rw [show mWithin k.toInt 0 9 = true from wi_3 (lo := 0) (hi := 9) q1 q2, if_neg (by simp)]
        by_cases q3 : j ≤ 32
        · rw [if_neg (fun z => z q3)]
          by_cases q4 : 0 ≤ j
          · rw [if_neg (fun z => z q4), if_pos rfl]
            intro hW
            have hW := hW rfl
            obtain ⟨kk0, kk9⟩ : 0 ≤ k.toInt ∧ k.toInt ≤ 9 := by
              rw [i32_lt, show (0 : Int32).toInt = 0 from rfl] at q1
              rw [i32_lt, show (9 : Int32).toInt = 9 from rfl] at q2
              omega
            obtain ⟨jj0, jj32⟩ : 0 ≤ j.toInt ∧ j.toInt ≤ 32 := by
              rw [i32_le, show (32 : Int32).toInt = 32 from rfl] at q3
              rw [i32_le, show (0 : Int32).toInt = 0 from rfl] at q4
              exact ⟨q4, q3⟩
            have ej : j = nI (tn j) := nI_tn jj0
            have hl : tn j ≤ 32 := by unfold tn; omega
            have hr0 := mFr_lt (S := S) hi10
            have hfr : mHolders (mLo S (tn i)) (nI (mFr S (tn i))) = 0 := by
              have := mUnl_no (f := fun r => !decide (mHolders (mLo S (tn i)) (nI r) = 0)) 10 0 (by
                have : mFr S (tn i) < 10 := hr0
                unfold mFr at this
                omega)
              simpa [mFr] using this
            -- the class
            have hL0 := gL_rMk (k := k) (kk := if k < 8 then k else 8) hA.1 hl
            generalize hG0 : rMk G n k (if k < 8 then k else 8) (tn j) = G0 at *
            have o0 : ∀ q, ¬ (n ≤ q ∧ q ≤ n + 3) → eqA G0 G q := fun q hq => by rw [← hG0]; exact rMk_o hq
            have lt : ∀ q, G.1 q ≠ 0 → q < n := fun q hq => gL_lt hA.1 hq
            have oG : ∀ q, G.1 q ≠ 0 → eqA G0 G q := fun q hq => o0 q (by have := lt q hq; omega)
            have hw := hA.1.1
            have hbr := hB.1
            obtain ⟨y1, y2, y3, y4, y5, y6, y7, y8, y9⟩ := gW9 hw hbr
            have ob1 := oG (b + 1) (by rw [y1]; decide)
            have ob2 := oG (b + 2) (by rw [y2]; decide)
            have ob3 := oG (b + 3) (by rw [y3]; decide)
            have obb := oG b (by rw [hbr]; decide)
            have g0b : G0.1 b = 9 := by rw [obb.1]; exact hbr
            have g0n : G0.1 n = 1 := by rw [← hG0, rMk_1, if_pos rfl]
            have g0n1 : G0.1 (n + 1) = 2 := by rw [← hG0, rMk_1, if_neg (by omega), if_pos rfl]
            have g0k : G0.2.2.1 n 0 = k := by
              rw [← hG0]
              show (if n = n then (if 0 = 0 then k else 0) else _) = k
              rw [if_pos rfl, if_pos rfl]
            have k14 := c14 (g := g) (n := n + 4) (kc := kc + 1 + 3) (ks := ks + 4 + tn j + tn j + tn j) (a := n) hL0.1 g0b g0n e1
            rw [g0k] at k14
            have k64 := c64 (g := g) (n := n) (kc := kc + 1) (ks := ks + 4) (G := G) (k := k) hl
            rw [hG0, ← ej] at k64
            have hL1 : gL g (bSet G0 b (tn i) (some n) k 0) c (n + 4) := gL_same rfl rfl hL0
            have hAb : agb (bSet G0 b (tn i) (some n) k 0) G [0] b := by
              intro q hq hq2
              have h1 := oG q (fun z => hq (by rw [z]; decide))
              have h2 := (bSet_agb (G := G0) (b := b) (s := tn i) (o := some n) (k := k) (j := 0) (L := [])) q (by simp) hq2
              exact ⟨h2.1.trans h1.1, h2.2.1.trans h1.2.1, h2.2.2.1.trans h1.2.2.1, h2.2.2.2.1.trans h1.2.2.2.1, h2.2.2.2.2.trans h1.2.2.2.2⟩
            have hnn : G.1 n = 0 := hA.1.2.2.2.2.2.2 n (Nat.le_refl n)
            obtain ⟨d, e, f1, f2, f3, f4⟩ := hA.2.2.2.2.2.2.1.2.2.1
            have rowne : ∀ r, rIn S r → ρ r ≠ n := by
              intro r hr z
              have := (bS_row hB hr).1
              rw [z, hnn] at this
              exact absurd this (by decide)
            obtain ⟨G2, g1, g2⟩ := rel_let (g := g) (kc := kc + 1 + 3) (ks := ks + 4 + tn j + tn j + tn j) hA hp hi10 hL1 hAb f2 f4 (fun hrow => cnt_let hB hA.2.2.2.1 hi10 hrow (fun q _ hq => by rw [bSet_R, if_neg hq, ob1.2.2.2.2]) (by
              rw [bSet_R, if_pos rfl]
              intro z
              injection z with z
              exact rowne _ ⟨tn i, hi10, hrow, rfl⟩ z.symm))
            have k0' : (bSet G0 b (tn i) (some n) k 0).1 c = 15 := hL1.2.1.1
            have z37 : (gnew G n 37 0).1 c = 15 := by rw [gnew1, if_neg (by have := lt c (by rw [k0]; decide); omega)]; exact k0
            obtain ⟨ρ', hρ1, hρ2⟩ : ∃ ρ' : Nat → Nat, ρ' (mFr S (tn i)) = n ∧ ∀ r, r ≠ mFr S (tn i) → ρ' r = ρ r := ⟨fun r => if r = mFr S (tn i) then n else ρ r, if_pos rfl, fun r hr => if_neg hr⟩
            refine ⟨n + 4, kc + 1 + 3, ks + 4 + tn j + tn j + tn j, G2, b, ρ', ?_, ?_, g2.2.2.2.1, by omega, by omega, by omega, fun q hq => ?_⟩
            · simp only [x92_0, x92_1, x92_4, x92_7, x92_8, x92_9, x92_10, x92_13, x92_14, x92_16, x92_19, x92_20, x92_22, x92_25, x92_27, x92_28, x92_29, x92_32, x92_34, x92_35, x92_36, x92_39, x92_40, x92_43, x92_45, x92_46, x92_49, x92_50, x92_53, x92_54, x92_55, x92_56, x92_59, x92_62, x92_63, x92_65, x92_68, x92_69, c127, e1, xb_t, h10, q1, q2, q3, q4, gf_15_9 k0, hb, gc_9 hB.1, k9, gn_37', gH1, k64, gc_9 g0b, k14, gc_15 k0', g1, Option.bind_some, Option.toList_some, Option.toList_none, List.cons_append, List.nil_append, Option.isSome_some, if_true, eq_self, or_true, true_or, xb_01, mcl_cl, not_true_eq_false, not_false_eq_true, if_false]
            · have l1 := hW.1
              have w3 : ∀ q t, q ≠ 7 → (q ≠ 17 ∧ q ≠ 18 ∧ q ≠ 20 ∧ q ≠ 22) → W.2.2.1 q t = S.2.2.1 q t := by
                intro q t h7 hh
                have e2 : (mLo S (tn i)).2.2.1 q t = S.2.2.1 q t := by simp [mLo, msA, h7]
                rw [l1.2.2.1 q t hh.1 hh.2.1 hh.2.2.1 hh.2.2.2, e2]
              have w7 : ∀ q, q ≠ tn i → W.2.2.1 7 q = S.2.2.1 7 q := by
                intro q hq
                have e2 : (mLo S (tn i)).2.2.1 7 q = S.2.2.1 7 q := by simp [mLo, msA, hq]
                rw [l1.2.2.1 7 q (by decide) (by decide) (by decide) (by decide), e2]
              have w6 : ∀ t, W.2.2.2 6 t = S.2.2.2 6 t := fun t => l1.2.2.2 6 t (by decide) (by decide)
              have v7 : ∀ q, q ≠ tn i → (mMk W (tn i) (mFr S (tn i)) k j).2.2.1 7 q = S.2.2.1 7 q := fun q hq => by rw [mMk_7, if_neg hq, w7 q hq]
              have v2 : ∀ r, r ≠ mFr S (tn i) → (mMk W (tn i) (mFr S (tn i)) k j).2.2.1 2 r = S.2.2.1 2 r := fun r hr => by rw [mMk_2, if_neg hr, w3 2 r (by decide) (by decide)]
              have v3 : ∀ r, r ≠ mFr S (tn i) → (mMk W (tn i) (mFr S (tn i)) k j).2.2.1 3 r = S.2.2.1 3 r := fun r hr => by rw [mMk_3, if_neg hr, w3 3 r (by decide) (by decide)]
              have v4 : ∀ r, r ≠ mFr S (tn i) → (mMk W (tn i) (mFr S (tn i)) k j).2.2.1 4 r = S.2.2.1 4 r := fun r hr => by rw [mMk_4, if_neg hr, w3 4 r (by decide) (by decide)]
              have v5 : ∀ r p, p < 32 → r ≠ mFr S (tn i) → (mMk W (tn i) (mFr S (tn i)) k j).2.2.1 5 (32 * r + p) = S.2.2.1 5 (32 * r + p) := fun r p hp' hr => by rw [mMk_5, if_neg (by omega), w3 5 _ (by decide) (by decide)]
              have v6 : ∀ r p, p < 32 → r ≠ mFr S (tn i) → (mMk W (tn i) (mFr S (tn i)) k j).2.2.2 6 (32 * r + p) = S.2.2.2 6 (32 * r + p) := fun r p hp' hr => by rw [mMk_6, if_neg (by omega), w6]
              have u7 : (mMk W (tn i) (mFr S (tn i)) k j).2.2.1 7 (tn i) = nI (mFr S (tn i)) := by rw [mMk_7, if_pos rfl]
              have ur : mRow (mMk W (tn i) (mFr S (tn i)) k j) (tn i) = true ∧ mr (mMk W (tn i) (mFr S (tn i)) k j) (tn i) = mFr S (tn i) := by
                refine ⟨?_, ?_⟩
                · unfold mRow
                  have h10' : ¬ (10 : Int32) ≤ nI (mFr S (tn i)) := nI_ge (b := 10) hr0 (by decide)
                  rw [u7, decide_eq_false (nI_pos (by omega)), decide_eq_false h10']
                  rfl
                · unfold mr
                  rw [u7]
                  exact tn_nI (by omega)
              -- other slots hold other rows
              have oth : ∀ q, q < 10 → q ≠ tn i → mRow S q = true → mr S q ≠ mFr S (tn i) := by
                intro q hq1 hq2 hq3 z
                have : 0 < mHolders (mLo S (tn i)) (nI (mFr S (tn i))) := by
                  unfold mHolders
                  refine mCnt_pos 10 0 q (by omega) (by omega) ?_
                  have e2 : (mLo S (tn i)).2.2.1 7 q = S.2.2.1 7 q := by simp [mLo, msA, hq2]
                  rw [e2, (mRow_eq hq3).1, z]
                  simp
                omega
              have hsub : ∀ r, rIn (mMk W (tn i) (mFr S (tn i)) k j) r → (r = mFr S (tn i)) ∨ (r ≠ mFr S (tn i) ∧ rIn S r) := by
                rintro r ⟨q, z1, z2, z3⟩
                by_cases c2 : q = tn i
                · subst c2
                  exact Or.inl (by rw [← z3]; exact ur.2)
                · obtain ⟨y1, y2⟩ := mRow_cg (v7 q c2)
                  rw [y1] at z2
                  rw [y2] at z3
                  exact Or.inr ⟨by rw [← z3]; exact oth q z1 c2 z2, q, z1, z2, z3⟩
              have m8 := mMk_A (W := W) (s := tn i) (r0 := mFr S (tn i)) (k := k) (j := j) (q := 8) (by decide)
              have m12 := mMk_A (W := W) (s := tn i) (r0 := mFr S (tn i)) (k := k) (j := j) (q := 12) (by decide)
              have u2 : (mMk W (tn i) (mFr S (tn i)) k j).2.2.1 2 (mFr S (tn i)) = k := by rw [mMk_2, if_pos rfl]
              have u3 : (mMk W (tn i) (mFr S (tn i)) k j).2.2.1 3 (mFr S (tn i)) = j := by rw [mMk_3, if_pos rfl]
              have u4 : (mMk W (tn i) (mFr S (tn i)) k j).2.2.1 4 (mFr S (tn i)) = 0 := by rw [mMk_4, if_pos rfl]
              have u5 : ∀ p, p < 32 → (mMk W (tn i) (mFr S (tn i)) k j).2.2.1 5 (32 * mFr S (tn i) + p) = if k < 8 then k else 8 := fun p hp' => by rw [mMk_5, if_pos (by omega)]
              have u6 : ∀ p, p < 32 → (mMk W (tn i) (mFr S (tn i)) k j).2.2.2 6 (32 * mFr S (tn i) + p) = 0 := fun p hp' => by rw [mMk_6, if_pos (by omega)]
              have jB : ∀ q, ¬ q ∈ [2, 3, 4, 5, 7] → (mMk W (tn i) (mFr S (tn i)) k j).2.2.1 q = W.2.2.1 q := fun q hq => mMk_A hq
              have jC : ∀ q, q ≠ 6 → (mMk W (tn i) (mFr S (tn i)) k j).2.2.2 q = W.2.2.2 q := fun q hq => mMk_B hq
              have jI : (mMk W (tn i) (mFr S (tn i)) k j).1 = W.1 := rfl
              have jl : (mMk W (tn i) (mFr S (tn i)) k j).2.1 = S.2.1 := l1.1
              generalize mMk W (tn i) (mFr S (tn i)) k j = S' at *
              generalize mFr S (tn i) = r0 at *
              have hO := hA.2.2.2.2.2.2.2.2.1
              refine rA_slot hA hL1 hAb f2 f4 g2 ⟨g0b, ?_, ?_⟩ ?_ ?_ ?_ hW (fun q h1 h2 => by rw [jI]; exact l1.2.1 q h1 h2) jl (by rw [jI]) (by rw [jI]) ?_ ?_ ?_ ?_ ?_
              · intro q hq
                unfold bSl
                by_cases c1 : q = tn i
                · subst c1
                  refine Or.inl ⟨ur.1, ?_, ?_, ?_, ?_⟩
                  · rw [bSet_R, if_pos rfl, ur.2, hρ1]
                  · rw [bSet_I2, if_pos rfl, ur.2, u2]
                  · rw [bSet_I3, if_pos rfl]
                  · rw [ur.2, hρ1]
                    have b1 : ∀ q, n ≤ q → (bSet G0 b (tn i) (some n) k 0).2.2.1 q = G0.2.2.1 q := by
                      intro q hq
                      have hbn : b + 3 < n := lt _ (by rw [y3]; decide)
                      funext e
                      simp only [bSet, gsI3]
                      rw [if_neg (by omega), if_neg (by omega)]
                      rfl
                    have b2 : (bSet G0 b (tn i) (some n) k 0).2.2.2.1 = G0.2.2.2.1 := rfl
                    have hmz : mz S' r0 = tn j := by unfold mz; rw [u3]
                    refine ⟨g0n, ?_, ?_, ?_⟩
                    · rw [b1 n (Nat.le_refl n), g0k, u2]
                    · rw [hmz]
                      show G0.2.1 (n + 2) = tn j
                      rw [← hG0, rMk_2, if_neg (by omega), if_pos (Or.inr (Or.inl rfl))]
                    · intro p hp'
                      rw [hmz] at hp'
                      rw [b1 (n + 1) (by omega), b2, u5 p (by omega), u6 p (by omega), ← hG0]
                      refine ⟨?_, ?_⟩
                      · show (if n + 1 = n then _ else if n + 1 = n + 1 then (if p < tn j then (if k < 8 then k else 8) else 0) else _) = _
                        rw [if_neg (by omega), if_pos rfl, if_pos hp']
                      · show (if n ≤ n + 2 ∧ n + 2 ≤ n + 3 then 0 else _) = _
                        rw [if_pos (by omega)]
                · obtain ⟨z1, z2⟩ := mRow_cg (v7 q c1)
                  rw [bSet_R, if_neg c1, bSet_I2, if_neg c1, bSet_I3, if_neg c1, z1, z2, v7 q c1, m8, w3 8 q (by decide) (by decide), ob1.2.2.2.2, ob2.2.2.1, ob3.2.2.1]
                  rcases hB.2.1 q hq with ⟨x0, x1, x2, x3, x4⟩ | r | r
                  · have hne := oth q hq c1 x0
                    refine Or.inl ⟨x0, by rw [hρ2 _ hne]; exact x1, by rw [v2 _ hne]; exact x2, x3, ?_⟩
                    rw [hρ2 _ hne]
                    obtain ⟨t1, t2, t3, _⟩ := hw.1 _ x4.1
                    have := bRo_at (agb_e hw hbr hAb (by rw [x4.1]; decide) (by rw [x4.1]; decide)) (agb_e hw hbr hAb (by rw [t1]; decide) (by rw [t1]; decide)) (agb_e hw hbr hAb (by rw [t2]; decide) (by rw [t2]; decide)) x4
                    have hmz : mz S' (mr S q) = mz S (mr S q) := by unfold mz; rw [v3 _ hne]
                    have h32 := (mz_eq hO.1 (mRow_eq x0).2).2
                    unfold bRo at this ⊢
                    rw [hmz, v2 _ hne]
                    refine ⟨this.1, this.2.1, this.2.2.1, fun p hp' => ?_⟩
                    rw [v5 _ p (by omega) hne, v6 _ p (by omega) hne]
                    exact this.2.2.2 p hp'
                  · exact Or.inr (Or.inl r)
                  · exact Or.inr (Or.inr r)
              · intro w k' hw' hk
                rw [m12, w3 12 _ (by decide) (by decide), ← hB.2.2 w k' hw' hk]
                simp only [bSet, gsI3]
                rw [if_neg (by omega), if_neg (by omega)]
                show G0.2.2.1 (b + 5 + w) k' = _
                rw [(oG (b + 5 + w) (by rw [y9 w hw']; decide)).2.2.1]
              · intro r r' z1 z2 z3
                rcases hsub r z1 with h | ⟨h, h'⟩
                · rcases hsub r' z2 with q | ⟨q, q'⟩
                  · rw [h, q]
                  · rw [h, hρ1, hρ2 _ q] at z3
                    exact absurd z3.symm (rowne r' q')
                · rcases hsub r' z2 with q | ⟨q, q'⟩
                  · rw [hρ2 _ h, q, hρ1] at z3
                    exact absurd z3 (rowne r h')
                  · rw [hρ2 _ h, hρ2 _ q] at z3
                    exact hA.2.2.2.1 r r' h' q' z3
              · intro r hr
                rcases hsub r hr with h | ⟨h, h'⟩
                · subst h
                  rw [hρ1, u4]
                  refine ⟨fun p hp' => ?_, fun p _ => pB0 p⟩
                  rw [pB0]
                  have hbn : b + 3 < n := lt _ (by rw [y3]; decide)
                  simp only [bSet, gsI3]
                  rw [if_neg (by omega), if_neg (by omega)]
                  show G0.2.2.1 (n + 3) p = _
                  rw [← hG0]
                  show (if n + 3 = n then _ else if n + 3 = n + 1 then _ else if n + 3 = n + 2 ∨ n + 3 = n + 3 then 0 else _) = _
                  rw [if_neg (by omega), if_neg (by omega), if_pos (by omega)]
                  rfl
                · have := tR_agb hw hbr hAb (by decide) (fun r hr => (bS_row hB hr).1) hA.2.2.2.2.1 r h'
                  rw [hρ2 _ h, v4 r h]
                  have hmz : mz S' r = mz S r := by unfold mz; rw [v3 _ h]
                  rw [hmz]
                  exact this
              · obtain ⟨o1, o2, o3, o4, o5, o6⟩ := hO
                have k8 : 0 ≤ (if k < 8 then k else 8 : Int32).toInt ∧ (if k < 8 then k else 8 : Int32).toInt ≤ 8 := by
                  split
                  · rename_i hk8
                    rw [i32_lt, show (8 : Int32).toInt = 8 from rfl] at hk8
                    omega
                  · decide
                have hok := okv_0 k8.1 k8.2
                refine ⟨fun r hr => ?_, fun q hq => ?_, fun r p hr hp' h8 => ?_, fun w hw' => ?_, fun r hr => ?_, fun q hq => ?_⟩
                · by_cases c : r = r0
                  · rw [c, u3]; exact ⟨jj0, jj32⟩
                  · rw [v3 r c]; exact o1 r hr
                · have eq : q = 32 * (q / 32) + q % 32 := by omega
                  rw [eq]
                  by_cases c : q / 32 = r0
                  · rw [c, u5 _ (by omega), u6 _ (by omega)]; exact hok.1
                  · rw [v5 _ _ (by omega) c, v6 _ _ (by omega) c, ← eq]; exact o2 q hq
                · by_cases c : r = r0
                  · rw [c] at h8 ⊢
                    rw [u2] at h8 ⊢
                    rw [u5 p hp', if_pos h8]
                  · rw [v2 r c] at h8 ⊢
                    rw [v5 r p hp' c]
                    exact o3 r p hr hp' h8
                · rw [m12, w3 12 _ (by decide) (by decide), w3 12 _ (by decide) (by decide), w3 12 _ (by decide) (by decide)]
                  exact o4 w hw'
                · by_cases c : r = r0
                  · rw [c, u2]; exact ⟨kk0, kk9⟩
                  · rw [v2 r c]; exact o5 r hr
                · have eq : q = 32 * (q / 32) + q % 32 := by omega
                  rw [eq]
                  by_cases c : q / 32 = r0
                  · rw [c, u5 _ (by omega), u6 _ (by omega)]; exact hok.2
                  · rw [v5 _ _ (by omega) c, v6 _ _ (by omega) c, ← eq]; exact o6 q hq
              · intro q hq
                simp only [List.mem_cons, List.not_mem_nil, or_false, not_or] at hq
                rw [jB q (by simp only [List.mem_cons, List.not_mem_nil, or_false, not_or]; exact ⟨hq.1, hq.2.1, hq.2.2.1, hq.2.2.2.1, hq.2.2.2.2.1⟩)]
                funext t
                exact w3 q t hq.2.2.2.2.1 ⟨hq.2.2.2.2.2.2.1, hq.2.2.2.2.2.2.2.1, hq.2.2.2.2.2.2.2.2.1, hq.2.2.2.2.2.2.2.2.2⟩
              · intro q hq
                simp only [List.mem_cons, List.not_mem_nil, or_false, not_or] at hq
                rw [jC q hq.1]
                funext t
                exact l1.2.2.2 q t hq.2.1 hq.2.2
              · intro w
                unfold mAc
                rw [jB 22 (by decide), jB 17 (by decide), jB 18 (by decide), jB 20 (by decide), jC 19 (by decide), jC 21 (by decide)]
                exact ⟨rfl, fun _ _ => ⟨rfl, rfl, rfl, rfl, rfl⟩⟩
              · intro r hr
                rcases hsub r hr with h | ⟨h, h'⟩
                · exact Or.inr (by rw [h, hρ1]; exact hnn)
                · exact Or.inl ⟨h', hρ2 r h⟩
              · intro r h1 h2
                obtain ⟨q, y1', y2', y3', y4'⟩ := held_oth h1 h2
                have hne := oth q y1' y2' y3'
                rw [y4'] at hne
                obtain ⟨z1, z2⟩ := mRow_cg (v7 q y2')
                exact ⟨⟨q, y1', by rw [z1]; exact y3', by rw [z2]; exact y4'⟩, hρ2 r hne, v2 r hne, v3 r hne⟩
            · rw [g2.2.1]
              show G0.1 q = G.1 q
              exact (o0 q (by omega)).1
          · rw [if_pos q4, if_neg (by decide)]
            intro _
            refine sim_same hA hp ?_
            simp only [x92_0, x92_1, x92_4, x92_7, x92_8, x92_9, x92_10, x92_13, x92_14, x92_16, x92_19, x92_20, x92_22, x92_25, x92_27, x92_28, x92_29, x92_32, x92_34, x92_35, x92_36, x92_39, x92_40, x92_43, x92_45, x92_46, x92_49, x92_50, x92_53, x92_54, x92_55, x92_56, x92_59, x92_62, x92_63, x92_65, x92_68, x92_69, c127, e1, xb_t, h10, q1, q2, q3, q4, Option.bind_some, Option.toList_some, Option.toList_none, List.cons_append, List.nil_append, Option.isSome_some, if_true, eq_self, or_true, true_or, xb_01, mcl_cl, not_true_eq_false, not_false_eq_true, if_false]
        · rw [if_pos q3, if_neg (by decide)]
          intro _
          refine sim_same hA hp ?_
          simp only [x92_0, x92_1, x92_4, x92_7, x92_8, x92_9, x92_10, x92_13, x92_14, x92_16, x92_19, x92_20, x92_22, x92_25, x92_27, x92_28, x92_29, x92_32, x92_34, x92_35, x92_36, x92_39, x92_40, x92_43, x92_45, x92_46, x92_49, x92_50, x92_53, x92_54, x92_55, x92_56, x92_59, x92_62, x92_63, x92_65, x92_68, x92_69, c127, e1, xb_t, h10, q1, q2, q3, Option.bind_some, Option.toList_some, Option.toList_none, List.cons_append, List.nil_append, Option.isSome_some, if_true, eq_self, or_true, true_or, xb_01, mcl_cl, not_true_eq_false, not_false_eq_true, if_false]
end K45
