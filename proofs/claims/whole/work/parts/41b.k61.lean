/-! THE LAW, 2: its cases -/
section K61
variable {g : xG} {n kc ks c p mu : Nat} {G : GS} {S T : MS} {F : Nat → Int32}
theorem mFg_ev : mEv (mFg S F) S := ⟨fun _ _ _ _ _ => rfl, rfl, fun q _ _ _ h31 _ => funext fun t => if_neg h31, fun _ _ _ _ => rfl⟩
theorem q0 (hI : inv g c mu n G S) (hp : p + 7 ≤ g.2.1) (hL : g.2.1 ≤ 3584) : ∃ n' kc' ks' G' S', X g 254 188 [.val (va_rf (some g.1)), .val (va_rf (some c)), .val (va_rf (some mu)), .val (.int (nI p))] [] (cH n kc ks G mu S) = X g 254 1458 [.val (va_rf (some g.1)), .val (va_rf (some c)), .val (va_rf (some mu)), .val (.int (nI p))] [] (cH n' kc' ks' G' mu S') ∧ inv g c mu n' G' S' ∧ kc' ≤ kc + 900 ∧ ks' ≤ ks + 9000 := by
  obtain ⟨b, ρ, hA, hp0, i3, i4, i5, i6⟩ := id hI
  have O := hA.2.2.2.2.2.2.2.2.1
  obtain ⟨d, e, hj⟩ := rA_mJ hA
  have hd := hj.1
  have h24 : d ≤ 24 := by have := hj.2.2.1; have := hj.2.2.2.1; omega
  obtain ⟨n', kc', ks', G', S', h1, h2, h3, _, h5, h6, h7, h8⟩ := both (y1 := 92) (y2 := 168) (L1 := [.val (va_rf (some c)), .val (.int (g.2.2.1 (p + 1))), .val (.int (g.2.2.1 (p + 2))), .val (.int (g.2.2.1 (p + 3))), .unset]) (L2 := [.val (va_rf (some mu)), .val (.int (g.2.2.1 (p + 1))), .val (.int (g.2.2.1 (p + 2))), .val (.int (g.2.2.1 (p + 3))), .unset, .unset]) (vv := .int (sMake (g.2.2.1 (p + 1)) (g.2.2.1 (p + 2)) (g.2.2.1 (p + 3)))) (kc := kc) (ks := ks) hI (fun n' kc' ks' => by
    obtain ⟨T, h, hl⟩ := e168 (g := g) (n := n') (kc := kc') (ks := ks') (mu := mu) hj
    exact ⟨_, h, s92 hA hp0 hl⟩)
  have z1 := (cH_none hI (Or.inl rfl)).1
  have z2 := (cH_none hI (Or.inl rfl)).2 S
  obtain ⟨_, _, _, _, _, j4, _, _⟩ := id h3
  have ec := cH_c (n := n) (kc := kc) (ks := ks) (mu := mu) (S := S) hA.1.2.1.1
  have em := cH_m (n := n') (kc := kc') (ks := ks') (S := S) (j4 mu (by omega) (by omega))
  have a1 : nI p + 1 = nI (p + 1) := nI_add p 1
  have l1 : xaldi g (cH n kc ks G mu S) g.1 (nI (p + 1)) = some (.int (g.2.2.1 (p + 1))) := by rw [cH_ld z1 z2, if_pos (xin_nI (by omega) (by omega)), nI_clamp (by omega)]
  have m1 : xaldi g (cH n' kc' ks' G' mu S) g.1 (nI (p + 1)) = some (.int (g.2.2.1 (p + 1))) := by rw [cH_ld h8 z2, if_pos (xin_nI (by omega) (by omega)), nI_clamp (by omega)]
  have a2 : nI p + 2 = nI (p + 2) := nI_add p 2
  have l2 : xaldi g (cH n kc ks G mu S) g.1 (nI (p + 2)) = some (.int (g.2.2.1 (p + 2))) := by rw [cH_ld z1 z2, if_pos (xin_nI (by omega) (by omega)), nI_clamp (by omega)]
  have m2 : xaldi g (cH n' kc' ks' G' mu S) g.1 (nI (p + 2)) = some (.int (g.2.2.1 (p + 2))) := by rw [cH_ld h8 z2, if_pos (xin_nI (by omega) (by omega)), nI_clamp (by omega)]
  have a3 : nI p + 3 = nI (p + 3) := nI_add p 3
  have l3 : xaldi g (cH n kc ks G mu S) g.1 (nI (p + 3)) = some (.int (g.2.2.1 (p + 3))) := by rw [cH_ld z1 z2, if_pos (xin_nI (by omega) (by omega)), nI_clamp (by omega)]
  have m3 : xaldi g (cH n' kc' ks' G' mu S) g.1 (nI (p + 3)) = some (.int (g.2.2.1 (p + 3))) := by rw [cH_ld h8 z2, if_pos (xin_nI (by omega) (by omega)), nI_clamp (by omega)]
  refine ⟨n', kc', ks', G', S', ?_, h3, h5, h6⟩
  simp only [x254_188, x254_189, x254_190, x254_191, x254_192, x254_193, x254_194, x254_195, x254_196, x254_197, x254_198, x254_199, x254_200, x254_201, x254_202, x254_203, x254_204, x254_207, x254_208, x254_209, x254_210, x254_211, x254_212, x254_213, x254_214, x254_215, x254_216, x254_217, x254_218, x254_219, x254_220, x254_221, x254_222, x254_223, x254_226, x254_229, x254_230, a1, l1, m1, a2, l2, m2, a3, l3, m3, ec, em, h1, h2, lcmp_eq0, Option.bind_some, Option.toList_some, Option.toList_none, List.cons_append, List.nil_append, Option.isSome_some, if_true, eq_self, or_true, true_or, xb_01, mcl_cl, not_true_eq_false, not_false_eq_true, if_false]
theorem q1 (hI : inv g c mu n G S) (hp : p + 7 ≤ g.2.1) (hL : g.2.1 ≤ 3584) : ∃ n' kc' ks' G' S', X g 254 231 [.val (va_rf (some g.1)), .val (va_rf (some c)), .val (va_rf (some mu)), .val (.int (nI p))] [] (cH n kc ks G mu S) = X g 254 1458 [.val (va_rf (some g.1)), .val (va_rf (some c)), .val (va_rf (some mu)), .val (.int (nI p))] [] (cH n' kc' ks' G' mu S') ∧ inv g c mu n' G' S' ∧ kc' ≤ kc + 900 ∧ ks' ≤ ks + 9000 := by
  obtain ⟨b, ρ, hA, hp0, i3, i4, i5, i6⟩ := id hI
  have O := hA.2.2.2.2.2.2.2.2.1
  obtain ⟨d, e, hj⟩ := rA_mJ hA
  have hd := hj.1
  have h24 : d ≤ 24 := by have := hj.2.2.1; have := hj.2.2.2.1; omega
  obtain ⟨n', kc', ks', G', S', h1, h2, h3, _, h5, h6, h7, h8⟩ := both (y1 := 93) (y2 := 169) (L1 := [.val (va_rf (some c)), .val (.int (g.2.2.1 (p + 1))), .val (.int (g.2.2.1 (p + 2))), .val (.int (g.2.2.1 (p + 3))), .unset]) (L2 := [.val (va_rf (some mu)), .val (.int (g.2.2.1 (p + 1))), .val (.int (g.2.2.1 (p + 2))), .val (.int (g.2.2.1 (p + 3)))]) (vv := .int (sThing (g.2.2.1 (p + 1)) (g.2.2.1 (p + 2)) (g.2.2.1 (p + 3)))) (kc := kc) (ks := ks) hI (fun n' kc' ks' => by
    obtain ⟨T, h, hl⟩ := e169 (g := g) (n := n') (kc := kc') (ks := ks') (mu := mu) hj
    exact ⟨_, h, s93 hA hp0 hl⟩)
  have z1 := (cH_none hI (Or.inl rfl)).1
  have z2 := (cH_none hI (Or.inl rfl)).2 S
  obtain ⟨_, _, _, _, _, j4, _, _⟩ := id h3
  have ec := cH_c (n := n) (kc := kc) (ks := ks) (mu := mu) (S := S) hA.1.2.1.1
  have em := cH_m (n := n') (kc := kc') (ks := ks') (S := S) (j4 mu (by omega) (by omega))
  have a1 : nI p + 1 = nI (p + 1) := nI_add p 1
  have l1 : xaldi g (cH n kc ks G mu S) g.1 (nI (p + 1)) = some (.int (g.2.2.1 (p + 1))) := by rw [cH_ld z1 z2, if_pos (xin_nI (by omega) (by omega)), nI_clamp (by omega)]
  have m1 : xaldi g (cH n' kc' ks' G' mu S) g.1 (nI (p + 1)) = some (.int (g.2.2.1 (p + 1))) := by rw [cH_ld h8 z2, if_pos (xin_nI (by omega) (by omega)), nI_clamp (by omega)]
  have a2 : nI p + 2 = nI (p + 2) := nI_add p 2
  have l2 : xaldi g (cH n kc ks G mu S) g.1 (nI (p + 2)) = some (.int (g.2.2.1 (p + 2))) := by rw [cH_ld z1 z2, if_pos (xin_nI (by omega) (by omega)), nI_clamp (by omega)]
  have m2 : xaldi g (cH n' kc' ks' G' mu S) g.1 (nI (p + 2)) = some (.int (g.2.2.1 (p + 2))) := by rw [cH_ld h8 z2, if_pos (xin_nI (by omega) (by omega)), nI_clamp (by omega)]
  have a3 : nI p + 3 = nI (p + 3) := nI_add p 3
  have l3 : xaldi g (cH n kc ks G mu S) g.1 (nI (p + 3)) = some (.int (g.2.2.1 (p + 3))) := by rw [cH_ld z1 z2, if_pos (xin_nI (by omega) (by omega)), nI_clamp (by omega)]
  have m3 : xaldi g (cH n' kc' ks' G' mu S) g.1 (nI (p + 3)) = some (.int (g.2.2.1 (p + 3))) := by rw [cH_ld h8 z2, if_pos (xin_nI (by omega) (by omega)), nI_clamp (by omega)]
  refine ⟨n', kc', ks', G', S', ?_, h3, h5, h6⟩
  simp only [x254_231, x254_232, x254_233, x254_234, x254_235, x254_236, x254_237, x254_238, x254_239, x254_240, x254_241, x254_242, x254_243, x254_244, x254_245, x254_246, x254_247, x254_250, x254_251, x254_252, x254_253, x254_254, x254_255, x254_256, x254_257, x254_258, x254_259, x254_260, x254_261, x254_262, x254_263, x254_264, x254_265, x254_266, x254_269, x254_272, x254_273, a1, l1, m1, a2, l2, m2, a3, l3, m3, ec, em, h1, h2, lcmp_eq0, Option.bind_some, Option.toList_some, Option.toList_none, List.cons_append, List.nil_append, Option.isSome_some, if_true, eq_self, or_true, true_or, xb_01, mcl_cl, not_true_eq_false, not_false_eq_true, if_false]
theorem q2 (hI : inv g c mu n G S) (hp : p + 7 ≤ g.2.1) (hL : g.2.1 ≤ 3584) : ∃ n' kc' ks' G' S', X g 254 274 [.val (va_rf (some g.1)), .val (va_rf (some c)), .val (va_rf (some mu)), .val (.int (nI p))] [] (cH n kc ks G mu S) = X g 254 1458 [.val (va_rf (some g.1)), .val (va_rf (some c)), .val (va_rf (some mu)), .val (.int (nI p))] [] (cH n' kc' ks' G' mu S') ∧ inv g c mu n' G' S' ∧ kc' ≤ kc + 900 ∧ ks' ≤ ks + 9000 := by
  obtain ⟨b, ρ, hA, hp0, i3, i4, i5, i6⟩ := id hI
  have O := hA.2.2.2.2.2.2.2.2.1
  obtain ⟨d, e, hj⟩ := rA_mJ hA
  have hd := hj.1
  have h24 : d ≤ 24 := by have := hj.2.2.1; have := hj.2.2.2.1; omega
  obtain ⟨n', kc', ks', G', S', h1, h2, h3, _, h5, h6, h7, h8⟩ := both (y1 := 94) (y2 := 170) (L1 := [.val (va_rf (some c)), .val (.int (g.2.2.1 (p + 1))), .val (.int (g.2.2.1 (p + 2))), .unset]) (L2 := [.val (va_rf (some mu)), .val (.int (g.2.2.1 (p + 1))), .val (.int (g.2.2.1 (p + 2)))]) (vv := .int (sSame (g.2.2.1 (p + 1)) (g.2.2.1 (p + 2)))) (kc := kc) (ks := ks) hI (fun n' kc' ks' => by
    obtain ⟨T, h, hl⟩ := e170 (g := g) (n := n') (kc := kc') (ks := ks') (mu := mu) hj
    exact ⟨_, h, s94 hA hp0 hl⟩)
  have z1 := (cH_none hI (Or.inl rfl)).1
  have z2 := (cH_none hI (Or.inl rfl)).2 S
  obtain ⟨_, _, _, _, _, j4, _, _⟩ := id h3
  have ec := cH_c (n := n) (kc := kc) (ks := ks) (mu := mu) (S := S) hA.1.2.1.1
  have em := cH_m (n := n') (kc := kc') (ks := ks') (S := S) (j4 mu (by omega) (by omega))
  have a1 : nI p + 1 = nI (p + 1) := nI_add p 1
  have l1 : xaldi g (cH n kc ks G mu S) g.1 (nI (p + 1)) = some (.int (g.2.2.1 (p + 1))) := by rw [cH_ld z1 z2, if_pos (xin_nI (by omega) (by omega)), nI_clamp (by omega)]
  have m1 : xaldi g (cH n' kc' ks' G' mu S) g.1 (nI (p + 1)) = some (.int (g.2.2.1 (p + 1))) := by rw [cH_ld h8 z2, if_pos (xin_nI (by omega) (by omega)), nI_clamp (by omega)]
  have a2 : nI p + 2 = nI (p + 2) := nI_add p 2
  have l2 : xaldi g (cH n kc ks G mu S) g.1 (nI (p + 2)) = some (.int (g.2.2.1 (p + 2))) := by rw [cH_ld z1 z2, if_pos (xin_nI (by omega) (by omega)), nI_clamp (by omega)]
  have m2 : xaldi g (cH n' kc' ks' G' mu S) g.1 (nI (p + 2)) = some (.int (g.2.2.1 (p + 2))) := by rw [cH_ld h8 z2, if_pos (xin_nI (by omega) (by omega)), nI_clamp (by omega)]
  refine ⟨n', kc', ks', G', S', ?_, h3, h5, h6⟩
  simp only [x254_274, x254_275, x254_276, x254_277, x254_278, x254_279, x254_280, x254_281, x254_282, x254_283, x254_284, x254_285, x254_288, x254_289, x254_290, x254_291, x254_292, x254_293, x254_294, x254_295, x254_296, x254_297, x254_298, x254_299, x254_302, x254_305, x254_306, a1, l1, m1, a2, l2, m2, ec, em, h1, h2, lcmp_eq0, Option.bind_some, Option.toList_some, Option.toList_none, List.cons_append, List.nil_append, Option.isSome_some, if_true, eq_self, or_true, true_or, xb_01, mcl_cl, not_true_eq_false, not_false_eq_true, if_false]
theorem q3 (hI : inv g c mu n G S) (hp : p + 7 ≤ g.2.1) (hL : g.2.1 ≤ 3584) : ∃ n' kc' ks' G' S', X g 254 307 [.val (va_rf (some g.1)), .val (va_rf (some c)), .val (va_rf (some mu)), .val (.int (nI p))] [] (cH n kc ks G mu S) = X g 254 1458 [.val (va_rf (some g.1)), .val (va_rf (some c)), .val (va_rf (some mu)), .val (.int (nI p))] [] (cH n' kc' ks' G' mu S') ∧ inv g c mu n' G' S' ∧ kc' ≤ kc + 900 ∧ ks' ≤ ks + 9000 := by
  obtain ⟨b, ρ, hA, hp0, i3, i4, i5, i6⟩ := id hI
  have O := hA.2.2.2.2.2.2.2.2.1
  obtain ⟨d, e, hj⟩ := rA_mJ hA
  have hd := hj.1
  have h24 : d ≤ 24 := by have := hj.2.2.1; have := hj.2.2.2.1; omega
  obtain ⟨n', kc', ks', G', S', h1, h2, h3, _, h5, h6, h7, h8⟩ := both (y1 := 95) (y2 := 172) (L1 := [.val (va_rf (some c)), .val (.int (g.2.2.1 (p + 1))), .val (.int (g.2.2.1 (p + 2))), .unset]) (L2 := [.val (va_rf (some mu)), .val (.int (g.2.2.1 (p + 1))), .val (.int (g.2.2.1 (p + 2))), .unset]) (vv := .int (fOf S (g.2.2.1 (p + 1)) (g.2.2.1 (p + 2)))) (kc := kc) (ks := ks) hI (fun n' kc' ks' => ⟨_, e172 , s95 hA hp0⟩)
  have z1 := (cH_none hI (Or.inl rfl)).1
  have z2 := (cH_none hI (Or.inl rfl)).2 S
  obtain ⟨_, _, _, _, _, j4, _, _⟩ := id h3
  have ec := cH_c (n := n) (kc := kc) (ks := ks) (mu := mu) (S := S) hA.1.2.1.1
  have em := cH_m (n := n') (kc := kc') (ks := ks') (S := S) (j4 mu (by omega) (by omega))
  have a1 : nI p + 1 = nI (p + 1) := nI_add p 1
  have l1 : xaldi g (cH n kc ks G mu S) g.1 (nI (p + 1)) = some (.int (g.2.2.1 (p + 1))) := by rw [cH_ld z1 z2, if_pos (xin_nI (by omega) (by omega)), nI_clamp (by omega)]
  have m1 : xaldi g (cH n' kc' ks' G' mu S) g.1 (nI (p + 1)) = some (.int (g.2.2.1 (p + 1))) := by rw [cH_ld h8 z2, if_pos (xin_nI (by omega) (by omega)), nI_clamp (by omega)]
  have a2 : nI p + 2 = nI (p + 2) := nI_add p 2
  have l2 : xaldi g (cH n kc ks G mu S) g.1 (nI (p + 2)) = some (.int (g.2.2.1 (p + 2))) := by rw [cH_ld z1 z2, if_pos (xin_nI (by omega) (by omega)), nI_clamp (by omega)]
  have m2 : xaldi g (cH n' kc' ks' G' mu S) g.1 (nI (p + 2)) = some (.int (g.2.2.1 (p + 2))) := by rw [cH_ld h8 z2, if_pos (xin_nI (by omega) (by omega)), nI_clamp (by omega)]
  refine ⟨n', kc', ks', G', S', ?_, h3, h5, h6⟩
  simp only [x254_307, x254_308, x254_309, x254_310, x254_311, x254_312, x254_313, x254_314, x254_315, x254_316, x254_317, x254_318, x254_321, x254_322, x254_323, x254_324, x254_325, x254_326, x254_327, x254_328, x254_329, x254_330, x254_331, x254_332, x254_335, x254_338, x254_339, a1, l1, m1, a2, l2, m2, ec, em, h1, h2, lcmp_eq0, Option.bind_some, Option.toList_some, Option.toList_none, List.cons_append, List.nil_append, Option.isSome_some, if_true, eq_self, or_true, true_or, xb_01, mcl_cl, not_true_eq_false, not_false_eq_true, if_false]
theorem q4 (hI : inv g c mu n G S) (hp : p + 7 ≤ g.2.1) (hL : g.2.1 ≤ 3584) : ∃ n' kc' ks' G' S', X g 254 340 [.val (va_rf (some g.1)), .val (va_rf (some c)), .val (va_rf (some mu)), .val (.int (nI p))] [] (cH n kc ks G mu S) = X g 254 1458 [.val (va_rf (some g.1)), .val (va_rf (some c)), .val (va_rf (some mu)), .val (.int (nI p))] [] (cH n' kc' ks' G' mu S') ∧ inv g c mu n' G' S' ∧ kc' ≤ kc + 900 ∧ ks' ≤ ks + 9000 := by
  obtain ⟨b, ρ, hA, hp0, i3, i4, i5, i6⟩ := id hI
  have O := hA.2.2.2.2.2.2.2.2.1
  obtain ⟨d, e, hj⟩ := rA_mJ hA
  have hd := hj.1
  have h24 : d ≤ 24 := by have := hj.2.2.1; have := hj.2.2.2.1; omega
  obtain ⟨n', kc', ks', G', S', h1, h2, h3, _, h5, h6, h7, h8⟩ := both (y1 := 96) (y2 := 178) (L1 := [.val (va_rf (some c)), .val (.int (g.2.2.1 (p + 1))), .val (.int (g.2.2.1 (p + 2))), .val (.int (g.2.2.1 (p + 3)))]) (L2 := [.val (va_rf (some mu)), .val (.int (g.2.2.1 (p + 1))), .val (.int (g.2.2.1 (p + 2))), .val (.int (g.2.2.1 (p + 3)))]) (vv := .int (fRead S (g.2.2.1 (p + 1)) (g.2.2.1 (p + 2)) (g.2.2.1 (p + 3))).1) (kc := kc) (ks := ks) hI (fun n' kc' ks' => ⟨_, e178 O.1 O.2.1 O.2.2.1, s96 hA hp0⟩)
  have z1 := (cH_none hI (Or.inl rfl)).1
  have z2 := (cH_none hI (Or.inl rfl)).2 S
  obtain ⟨_, _, _, _, _, j4, _, _⟩ := id h3
  have ec := cH_c (n := n) (kc := kc) (ks := ks) (mu := mu) (S := S) hA.1.2.1.1
  have em := cH_m (n := n') (kc := kc') (ks := ks') (S := S) (j4 mu (by omega) (by omega))
  have a1 : nI p + 1 = nI (p + 1) := nI_add p 1
  have l1 : xaldi g (cH n kc ks G mu S) g.1 (nI (p + 1)) = some (.int (g.2.2.1 (p + 1))) := by rw [cH_ld z1 z2, if_pos (xin_nI (by omega) (by omega)), nI_clamp (by omega)]
  have m1 : xaldi g (cH n' kc' ks' G' mu S) g.1 (nI (p + 1)) = some (.int (g.2.2.1 (p + 1))) := by rw [cH_ld h8 z2, if_pos (xin_nI (by omega) (by omega)), nI_clamp (by omega)]
  have a2 : nI p + 2 = nI (p + 2) := nI_add p 2
  have l2 : xaldi g (cH n kc ks G mu S) g.1 (nI (p + 2)) = some (.int (g.2.2.1 (p + 2))) := by rw [cH_ld z1 z2, if_pos (xin_nI (by omega) (by omega)), nI_clamp (by omega)]
  have m2 : xaldi g (cH n' kc' ks' G' mu S) g.1 (nI (p + 2)) = some (.int (g.2.2.1 (p + 2))) := by rw [cH_ld h8 z2, if_pos (xin_nI (by omega) (by omega)), nI_clamp (by omega)]
  have a3 : nI p + 3 = nI (p + 3) := nI_add p 3
  have l3 : xaldi g (cH n kc ks G mu S) g.1 (nI (p + 3)) = some (.int (g.2.2.1 (p + 3))) := by rw [cH_ld z1 z2, if_pos (xin_nI (by omega) (by omega)), nI_clamp (by omega)]
  have m3 : xaldi g (cH n' kc' ks' G' mu S) g.1 (nI (p + 3)) = some (.int (g.2.2.1 (p + 3))) := by rw [cH_ld h8 z2, if_pos (xin_nI (by omega) (by omega)), nI_clamp (by omega)]
  refine ⟨n', kc', ks', G', S', ?_, h3, h5, h6⟩
  simp only [x254_340, x254_341, x254_342, x254_343, x254_344, x254_345, x254_346, x254_347, x254_348, x254_349, x254_350, x254_351, x254_352, x254_353, x254_354, x254_355, x254_356, x254_359, x254_360, x254_361, x254_362, x254_363, x254_364, x254_365, x254_366, x254_367, x254_368, x254_369, x254_370, x254_371, x254_372, x254_373, x254_374, x254_375, x254_378, x254_381, x254_382, a1, l1, m1, a2, l2, m2, a3, l3, m3, ec, em, h1, h2, lcmp_eq0, Option.bind_some, Option.toList_some, Option.toList_none, List.cons_append, List.nil_append, Option.isSome_some, if_true, eq_self, or_true, true_or, xb_01, mcl_cl, not_true_eq_false, not_false_eq_true, if_false]
theorem q5 (hI : inv g c mu n G S) (hp : p + 7 ≤ g.2.1) (hL : g.2.1 ≤ 3584) : ∃ n' kc' ks' G' S', X g 254 383 [.val (va_rf (some g.1)), .val (va_rf (some c)), .val (va_rf (some mu)), .val (.int (nI p))] [] (cH n kc ks G mu S) = X g 254 1458 [.val (va_rf (some g.1)), .val (va_rf (some c)), .val (va_rf (some mu)), .val (.int (nI p))] [] (cH n' kc' ks' G' mu S') ∧ inv g c mu n' G' S' ∧ kc' ≤ kc + 900 ∧ ks' ≤ ks + 9000 := by
  obtain ⟨b, ρ, hA, hp0, i3, i4, i5, i6⟩ := id hI
  have O := hA.2.2.2.2.2.2.2.2.1
  obtain ⟨d, e, hj⟩ := rA_mJ hA
  have hd := hj.1
  have h24 : d ≤ 24 := by have := hj.2.2.1; have := hj.2.2.2.1; omega
  obtain ⟨n', kc', ks', G', S', h1, h2, h3, _, h5, h6, h7, h8⟩ := both (y1 := 97) (y2 := 179) (L1 := [.val (va_rf (some c)), .val (.int (g.2.2.1 (p + 1)))]) (L2 := [.val (va_rf (some mu)), .val (.int (g.2.2.1 (p + 1)))]) (vv := .long (fLatch S (g.2.2.1 (p + 1)))) (kc := kc) (ks := ks) hI (fun n' kc' ks' => ⟨_, e179 hA.2.2.2.2.2.2.2.2.2.1.1, s97 hA hp0⟩)
  have z1 := (cH_none hI (Or.inl rfl)).1
  have z2 := (cH_none hI (Or.inl rfl)).2 S
  obtain ⟨_, _, _, _, _, j4, _, _⟩ := id h3
  have ec := cH_c (n := n) (kc := kc) (ks := ks) (mu := mu) (S := S) hA.1.2.1.1
  have em := cH_m (n := n') (kc := kc') (ks := ks') (S := S) (j4 mu (by omega) (by omega))
  have a1 : nI p + 1 = nI (p + 1) := nI_add p 1
  have l1 : xaldi g (cH n kc ks G mu S) g.1 (nI (p + 1)) = some (.int (g.2.2.1 (p + 1))) := by rw [cH_ld z1 z2, if_pos (xin_nI (by omega) (by omega)), nI_clamp (by omega)]
  have m1 : xaldi g (cH n' kc' ks' G' mu S) g.1 (nI (p + 1)) = some (.int (g.2.2.1 (p + 1))) := by rw [cH_ld h8 z2, if_pos (xin_nI (by omega) (by omega)), nI_clamp (by omega)]
  refine ⟨n', kc', ks', G', S', ?_, h3, h5, h6⟩
  simp only [x254_383, x254_384, x254_385, x254_386, x254_387, x254_388, x254_389, x254_392, x254_393, x254_394, x254_395, x254_396, x254_397, x254_398, x254_401, x254_402, x254_405, x254_406, a1, l1, m1, ec, em, h1, h2, lcmp_eq0, Option.bind_some, Option.toList_some, Option.toList_none, List.cons_append, List.nil_append, Option.isSome_some, if_true, eq_self, or_true, true_or, xb_01, mcl_cl, not_true_eq_false, not_false_eq_true, if_false]
theorem q6 (hI : inv g c mu n G S) (hp : p + 7 ≤ g.2.1) (hL : g.2.1 ≤ 3584) : ∃ n' kc' ks' G' S', X g 254 407 [.val (va_rf (some g.1)), .val (va_rf (some c)), .val (va_rf (some mu)), .val (.int (nI p))] [] (cH n kc ks G mu S) = X g 254 1458 [.val (va_rf (some g.1)), .val (va_rf (some c)), .val (va_rf (some mu)), .val (.int (nI p))] [] (cH n' kc' ks' G' mu S') ∧ inv g c mu n' G' S' ∧ kc' ≤ kc + 900 ∧ ks' ≤ ks + 9000 := by
  obtain ⟨b, ρ, hA, hp0, i3, i4, i5, i6⟩ := id hI
  have O := hA.2.2.2.2.2.2.2.2.1
  obtain ⟨d, e, hj⟩ := rA_mJ hA
  have hd := hj.1
  have h24 : d ≤ 24 := by have := hj.2.2.1; have := hj.2.2.2.1; omega
  obtain ⟨n', kc', ks', G', S', h1, h2, h3, _, h5, h6, h7, h8⟩ := both (y1 := 98) (y2 := 181) (L1 := [.val (va_rf (some c)), .val (.int (g.2.2.1 (p + 1))), .val (.int (g.2.2.1 (p + 2))), .val (.int (g.2.2.1 (p + 3))), .val (.long ((g.2.2.1 (p + 4)).toInt64 <<< ((32 : Int32).toInt64 &&& 63) ||| (g.2.2.1 (p + 5)).toInt64 &&& 4294967295)), .second]) (L2 := [.val (va_rf (some mu)), .val (.int (g.2.2.1 (p + 1))), .val (.int (g.2.2.1 (p + 2))), .val (.int (g.2.2.1 (p + 3))), .val (.long ((g.2.2.1 (p + 4)).toInt64 <<< ((32 : Int32).toInt64 &&& 63) ||| (g.2.2.1 (p + 5)).toInt64 &&& 4294967295)), .second]) (vv := .int (fWrite S (g.2.2.1 (p + 1)) (g.2.2.1 (p + 2)) (g.2.2.1 (p + 3)) ((g.2.2.1 (p + 4)).toInt64 <<< ((32 : Int32).toInt64 &&& 63) ||| (g.2.2.1 (p + 5)).toInt64 &&& 4294967295)).1) (kc := kc) (ks := ks) hI (fun n' kc' ks' => by
    obtain ⟨x1, x2, h⟩ := e181 (g := g) (n := n') (kc := kc') (ks := ks') (mu := mu) hd h24 O
    exact ⟨_, h, sim_ev (s98 hA hp0) mIs_ev⟩)
  have z1 := (cH_none hI (Or.inl rfl)).1
  have z2 := (cH_none hI (Or.inl rfl)).2 S
  obtain ⟨_, _, _, _, _, j4, _, _⟩ := id h3
  have ec := cH_c (n := n) (kc := kc) (ks := ks) (mu := mu) (S := S) hA.1.2.1.1
  have em := cH_m (n := n') (kc := kc') (ks := ks') (S := S) (j4 mu (by omega) (by omega))
  have a1 : nI p + 1 = nI (p + 1) := nI_add p 1
  have l1 : xaldi g (cH n kc ks G mu S) g.1 (nI (p + 1)) = some (.int (g.2.2.1 (p + 1))) := by rw [cH_ld z1 z2, if_pos (xin_nI (by omega) (by omega)), nI_clamp (by omega)]
  have m1 : xaldi g (cH n' kc' ks' G' mu S) g.1 (nI (p + 1)) = some (.int (g.2.2.1 (p + 1))) := by rw [cH_ld h8 z2, if_pos (xin_nI (by omega) (by omega)), nI_clamp (by omega)]
  have a2 : nI p + 2 = nI (p + 2) := nI_add p 2
  have l2 : xaldi g (cH n kc ks G mu S) g.1 (nI (p + 2)) = some (.int (g.2.2.1 (p + 2))) := by rw [cH_ld z1 z2, if_pos (xin_nI (by omega) (by omega)), nI_clamp (by omega)]
  have m2 : xaldi g (cH n' kc' ks' G' mu S) g.1 (nI (p + 2)) = some (.int (g.2.2.1 (p + 2))) := by rw [cH_ld h8 z2, if_pos (xin_nI (by omega) (by omega)), nI_clamp (by omega)]
  have a3 : nI p + 3 = nI (p + 3) := nI_add p 3
  have l3 : xaldi g (cH n kc ks G mu S) g.1 (nI (p + 3)) = some (.int (g.2.2.1 (p + 3))) := by rw [cH_ld z1 z2, if_pos (xin_nI (by omega) (by omega)), nI_clamp (by omega)]
  have m3 : xaldi g (cH n' kc' ks' G' mu S) g.1 (nI (p + 3)) = some (.int (g.2.2.1 (p + 3))) := by rw [cH_ld h8 z2, if_pos (xin_nI (by omega) (by omega)), nI_clamp (by omega)]
  have a4 : nI p + 4 = nI (p + 4) := nI_add p 4
  have l4 : xaldi g (cH n kc ks G mu S) g.1 (nI (p + 4)) = some (.int (g.2.2.1 (p + 4))) := by rw [cH_ld z1 z2, if_pos (xin_nI (by omega) (by omega)), nI_clamp (by omega)]
  have m4 : xaldi g (cH n' kc' ks' G' mu S) g.1 (nI (p + 4)) = some (.int (g.2.2.1 (p + 4))) := by rw [cH_ld h8 z2, if_pos (xin_nI (by omega) (by omega)), nI_clamp (by omega)]
  have a5 : nI p + 5 = nI (p + 5) := nI_add p 5
  have l5 : xaldi g (cH n kc ks G mu S) g.1 (nI (p + 5)) = some (.int (g.2.2.1 (p + 5))) := by rw [cH_ld z1 z2, if_pos (xin_nI (by omega) (by omega)), nI_clamp (by omega)]
  have m5 : xaldi g (cH n' kc' ks' G' mu S) g.1 (nI (p + 5)) = some (.int (g.2.2.1 (p + 5))) := by rw [cH_ld h8 z2, if_pos (xin_nI (by omega) (by omega)), nI_clamp (by omega)]
  refine ⟨n', kc', ks', G', S', ?_, h3, h5, h6⟩
  simp only [x254_407, x254_408, x254_409, x254_410, x254_411, x254_412, x254_413, x254_414, x254_415, x254_416, x254_417, x254_418, x254_419, x254_420, x254_421, x254_422, x254_423, x254_424, x254_425, x254_426, x254_427, x254_428, x254_429, x254_431, x254_432, x254_433, x254_434, x254_435, x254_436, x254_437, x254_438, x254_441, x254_442, x254_443, x254_446, x254_447, x254_448, x254_449, x254_450, x254_451, x254_452, x254_453, x254_454, x254_455, x254_456, x254_457, x254_458, x254_459, x254_460, x254_461, x254_462, x254_463, x254_464, x254_465, x254_466, x254_467, x254_468, x254_470, x254_471, x254_472, x254_473, x254_474, x254_475, x254_476, x254_477, x254_480, x254_481, x254_482, x254_485, x254_488, x254_489, a1, l1, m1, a2, l2, m2, a3, l3, m3, a4, l4, m4, a5, l5, m5, ec, em, h1, h2, lcmp_eq0, Option.bind_some, Option.toList_some, Option.toList_none, List.cons_append, List.nil_append, Option.isSome_some, if_true, eq_self, or_true, true_or, xb_01, mcl_cl, not_true_eq_false, not_false_eq_true, if_false]
theorem q7 (hI : inv g c mu n G S) (hp : p + 7 ≤ g.2.1) (hL : g.2.1 ≤ 3584) : ∃ n' kc' ks' G' S', X g 254 490 [.val (va_rf (some g.1)), .val (va_rf (some c)), .val (va_rf (some mu)), .val (.int (nI p))] [] (cH n kc ks G mu S) = X g 254 1458 [.val (va_rf (some g.1)), .val (va_rf (some c)), .val (va_rf (some mu)), .val (.int (nI p))] [] (cH n' kc' ks' G' mu S') ∧ inv g c mu n' G' S' ∧ kc' ≤ kc + 900 ∧ ks' ≤ ks + 9000 := by
  obtain ⟨b, ρ, hA, hp0, i3, i4, i5, i6⟩ := id hI
  have O := hA.2.2.2.2.2.2.2.2.1
  obtain ⟨d, e, hj⟩ := rA_mJ hA
  have hd := hj.1
  have h24 : d ≤ 24 := by have := hj.2.2.1; have := hj.2.2.2.1; omega
  obtain ⟨n', kc', ks', G', S', h1, h2, h3, _, h5, h6, h7, h8⟩ := both (y1 := 99) (y2 := 182) (L1 := [.val (va_rf (some c)), .val (.int (g.2.2.1 (p + 1))), .val (.int (g.2.2.1 (p + 2))), .val (.int (g.2.2.1 (p + 3))), .val (.int (g.2.2.1 (p + 4))), .val (.int (g.2.2.1 (p + 5)))]) (L2 := [.val (va_rf (some mu)), .val (.int (g.2.2.1 (p + 1))), .val (.int (g.2.2.1 (p + 2))), .val (.int (g.2.2.1 (p + 3))), .val (.int (g.2.2.1 (p + 4))), .val (.int (g.2.2.1 (p + 5)))]) (vv := .int (fReal S (g.2.2.1 (p + 1)) (g.2.2.1 (p + 2)) (g.2.2.1 (p + 3)) (g.2.2.1 (p + 4)) (g.2.2.1 (p + 5))).1) (kc := kc) (ks := ks) hI (fun n' kc' ks' => by
    obtain ⟨x1, x2, h⟩ := e182 (g := g) (n := n') (kc := kc') (ks := ks') (mu := mu) hd h24 O
    exact ⟨_, h, sim_ev (s99 hA hp0) mIs_ev⟩)
  have z1 := (cH_none hI (Or.inl rfl)).1
  have z2 := (cH_none hI (Or.inl rfl)).2 S
  obtain ⟨_, _, _, _, _, j4, _, _⟩ := id h3
  have ec := cH_c (n := n) (kc := kc) (ks := ks) (mu := mu) (S := S) hA.1.2.1.1
  have em := cH_m (n := n') (kc := kc') (ks := ks') (S := S) (j4 mu (by omega) (by omega))
  have a1 : nI p + 1 = nI (p + 1) := nI_add p 1
  have l1 : xaldi g (cH n kc ks G mu S) g.1 (nI (p + 1)) = some (.int (g.2.2.1 (p + 1))) := by rw [cH_ld z1 z2, if_pos (xin_nI (by omega) (by omega)), nI_clamp (by omega)]
  have m1 : xaldi g (cH n' kc' ks' G' mu S) g.1 (nI (p + 1)) = some (.int (g.2.2.1 (p + 1))) := by rw [cH_ld h8 z2, if_pos (xin_nI (by omega) (by omega)), nI_clamp (by omega)]
  have a2 : nI p + 2 = nI (p + 2) := nI_add p 2
  have l2 : xaldi g (cH n kc ks G mu S) g.1 (nI (p + 2)) = some (.int (g.2.2.1 (p + 2))) := by rw [cH_ld z1 z2, if_pos (xin_nI (by omega) (by omega)), nI_clamp (by omega)]
  have m2 : xaldi g (cH n' kc' ks' G' mu S) g.1 (nI (p + 2)) = some (.int (g.2.2.1 (p + 2))) := by rw [cH_ld h8 z2, if_pos (xin_nI (by omega) (by omega)), nI_clamp (by omega)]
  have a3 : nI p + 3 = nI (p + 3) := nI_add p 3
  have l3 : xaldi g (cH n kc ks G mu S) g.1 (nI (p + 3)) = some (.int (g.2.2.1 (p + 3))) := by rw [cH_ld z1 z2, if_pos (xin_nI (by omega) (by omega)), nI_clamp (by omega)]
  have m3 : xaldi g (cH n' kc' ks' G' mu S) g.1 (nI (p + 3)) = some (.int (g.2.2.1 (p + 3))) := by rw [cH_ld h8 z2, if_pos (xin_nI (by omega) (by omega)), nI_clamp (by omega)]
  have a4 : nI p + 4 = nI (p + 4) := nI_add p 4
  have l4 : xaldi g (cH n kc ks G mu S) g.1 (nI (p + 4)) = some (.int (g.2.2.1 (p + 4))) := by rw [cH_ld z1 z2, if_pos (xin_nI (by omega) (by omega)), nI_clamp (by omega)]
  have m4 : xaldi g (cH n' kc' ks' G' mu S) g.1 (nI (p + 4)) = some (.int (g.2.2.1 (p + 4))) := by rw [cH_ld h8 z2, if_pos (xin_nI (by omega) (by omega)), nI_clamp (by omega)]
  have a5 : nI p + 5 = nI (p + 5) := nI_add p 5
  have l5 : xaldi g (cH n kc ks G mu S) g.1 (nI (p + 5)) = some (.int (g.2.2.1 (p + 5))) := by rw [cH_ld z1 z2, if_pos (xin_nI (by omega) (by omega)), nI_clamp (by omega)]
  have m5 : xaldi g (cH n' kc' ks' G' mu S) g.1 (nI (p + 5)) = some (.int (g.2.2.1 (p + 5))) := by rw [cH_ld h8 z2, if_pos (xin_nI (by omega) (by omega)), nI_clamp (by omega)]
  refine ⟨n', kc', ks', G', S', ?_, h3, h5, h6⟩
  simp only [x254_490, x254_491, x254_492, x254_493, x254_494, x254_495, x254_496, x254_497, x254_498, x254_499, x254_500, x254_501, x254_502, x254_503, x254_504, x254_505, x254_506, x254_507, x254_508, x254_509, x254_510, x254_511, x254_512, x254_513, x254_514, x254_515, x254_516, x254_519, x254_520, x254_521, x254_522, x254_523, x254_524, x254_525, x254_526, x254_527, x254_528, x254_529, x254_530, x254_531, x254_532, x254_533, x254_534, x254_535, x254_536, x254_537, x254_538, x254_539, x254_540, x254_541, x254_542, x254_543, x254_544, x254_545, x254_548, x254_551, x254_552, a1, l1, m1, a2, l2, m2, a3, l3, m3, a4, l4, m4, a5, l5, m5, ec, em, h1, h2, lcmp_eq0, Option.bind_some, Option.toList_some, Option.toList_none, List.cons_append, List.nil_append, Option.isSome_some, if_true, eq_self, or_true, true_or, xb_01, mcl_cl, not_true_eq_false, not_false_eq_true, if_false]
theorem q8 (hI : inv g c mu n G S) (hp : p + 7 ≤ g.2.1) (hL : g.2.1 ≤ 3584) : ∃ n' kc' ks' G' S', X g 254 553 [.val (va_rf (some g.1)), .val (va_rf (some c)), .val (va_rf (some mu)), .val (.int (nI p))] [] (cH n kc ks G mu S) = X g 254 1458 [.val (va_rf (some g.1)), .val (va_rf (some c)), .val (va_rf (some mu)), .val (.int (nI p))] [] (cH n' kc' ks' G' mu S') ∧ inv g c mu n' G' S' ∧ kc' ≤ kc + 900 ∧ ks' ≤ ks + 9000 := by
  obtain ⟨b, ρ, hA, hp0, i3, i4, i5, i6⟩ := id hI
  have O := hA.2.2.2.2.2.2.2.2.1
  obtain ⟨d, e, hj⟩ := rA_mJ hA
  have hd := hj.1
  have h24 : d ≤ 24 := by have := hj.2.2.1; have := hj.2.2.2.1; omega
  obtain ⟨n', kc', ks', G', S', h1, h2, h3, _, h5, h6, h7, h8⟩ := both (y1 := 100) (y2 := 183) (L1 := [.val (va_rf (some c)), .val (.int (g.2.2.1 (p + 1))), .val (.int (g.2.2.1 (p + 2))), .val (.int (g.2.2.1 (p + 3))), .val (.long ((g.2.2.1 (p + 4)).toInt64 <<< ((32 : Int32).toInt64 &&& 63) ||| (g.2.2.1 (p + 5)).toInt64 &&& 4294967295)), .second]) (L2 := [.val (va_rf (some mu)), .val (.int (g.2.2.1 (p + 1))), .val (.int (g.2.2.1 (p + 2))), .val (.int (g.2.2.1 (p + 3))), .val (.long ((g.2.2.1 (p + 4)).toInt64 <<< ((32 : Int32).toInt64 &&& 63) ||| (g.2.2.1 (p + 5)).toInt64 &&& 4294967295)), .second]) (vv := .int (fBox S (g.2.2.1 (p + 1)) (g.2.2.1 (p + 2)) (g.2.2.1 (p + 3)) ((g.2.2.1 (p + 4)).toInt64 <<< ((32 : Int32).toInt64 &&& 63) ||| (g.2.2.1 (p + 5)).toInt64 &&& 4294967295)).1) (kc := kc) (ks := ks) hI (fun n' kc' ks' => by
    obtain ⟨x1, x2, h⟩ := e183 (g := g) (n := n') (kc := kc') (ks := ks') (mu := mu) hd h24 O
    exact ⟨_, h, sim_ev (s100 hA hp0) mIs_ev⟩)
  have z1 := (cH_none hI (Or.inl rfl)).1
  have z2 := (cH_none hI (Or.inl rfl)).2 S
  obtain ⟨_, _, _, _, _, j4, _, _⟩ := id h3
  have ec := cH_c (n := n) (kc := kc) (ks := ks) (mu := mu) (S := S) hA.1.2.1.1
  have em := cH_m (n := n') (kc := kc') (ks := ks') (S := S) (j4 mu (by omega) (by omega))
  have a1 : nI p + 1 = nI (p + 1) := nI_add p 1
  have l1 : xaldi g (cH n kc ks G mu S) g.1 (nI (p + 1)) = some (.int (g.2.2.1 (p + 1))) := by rw [cH_ld z1 z2, if_pos (xin_nI (by omega) (by omega)), nI_clamp (by omega)]
  have m1 : xaldi g (cH n' kc' ks' G' mu S) g.1 (nI (p + 1)) = some (.int (g.2.2.1 (p + 1))) := by rw [cH_ld h8 z2, if_pos (xin_nI (by omega) (by omega)), nI_clamp (by omega)]
  have a2 : nI p + 2 = nI (p + 2) := nI_add p 2
  have l2 : xaldi g (cH n kc ks G mu S) g.1 (nI (p + 2)) = some (.int (g.2.2.1 (p + 2))) := by rw [cH_ld z1 z2, if_pos (xin_nI (by omega) (by omega)), nI_clamp (by omega)]
  have m2 : xaldi g (cH n' kc' ks' G' mu S) g.1 (nI (p + 2)) = some (.int (g.2.2.1 (p + 2))) := by rw [cH_ld h8 z2, if_pos (xin_nI (by omega) (by omega)), nI_clamp (by omega)]
  have a3 : nI p + 3 = nI (p + 3) := nI_add p 3
  have l3 : xaldi g (cH n kc ks G mu S) g.1 (nI (p + 3)) = some (.int (g.2.2.1 (p + 3))) := by rw [cH_ld z1 z2, if_pos (xin_nI (by omega) (by omega)), nI_clamp (by omega)]
  have m3 : xaldi g (cH n' kc' ks' G' mu S) g.1 (nI (p + 3)) = some (.int (g.2.2.1 (p + 3))) := by rw [cH_ld h8 z2, if_pos (xin_nI (by omega) (by omega)), nI_clamp (by omega)]
  have a4 : nI p + 4 = nI (p + 4) := nI_add p 4
  have l4 : xaldi g (cH n kc ks G mu S) g.1 (nI (p + 4)) = some (.int (g.2.2.1 (p + 4))) := by rw [cH_ld z1 z2, if_pos (xin_nI (by omega) (by omega)), nI_clamp (by omega)]
  have m4 : xaldi g (cH n' kc' ks' G' mu S) g.1 (nI (p + 4)) = some (.int (g.2.2.1 (p + 4))) := by rw [cH_ld h8 z2, if_pos (xin_nI (by omega) (by omega)), nI_clamp (by omega)]
  have a5 : nI p + 5 = nI (p + 5) := nI_add p 5
  have l5 : xaldi g (cH n kc ks G mu S) g.1 (nI (p + 5)) = some (.int (g.2.2.1 (p + 5))) := by rw [cH_ld z1 z2, if_pos (xin_nI (by omega) (by omega)), nI_clamp (by omega)]
  have m5 : xaldi g (cH n' kc' ks' G' mu S) g.1 (nI (p + 5)) = some (.int (g.2.2.1 (p + 5))) := by rw [cH_ld h8 z2, if_pos (xin_nI (by omega) (by omega)), nI_clamp (by omega)]
  refine ⟨n', kc', ks', G', S', ?_, h3, h5, h6⟩
  simp only [x254_553, x254_554, x254_555, x254_556, x254_557, x254_558, x254_559, x254_560, x254_561, x254_562, x254_563, x254_564, x254_565, x254_566, x254_567, x254_568, x254_569, x254_570, x254_571, x254_572, x254_573, x254_574, x254_575, x254_577, x254_578, x254_579, x254_580, x254_581, x254_582, x254_583, x254_584, x254_587, x254_588, x254_589, x254_592, x254_593, x254_594, x254_595, x254_596, x254_597, x254_598, x254_599, x254_600, x254_601, x254_602, x254_603, x254_604, x254_605, x254_606, x254_607, x254_608, x254_609, x254_610, x254_611, x254_612, x254_613, x254_614, x254_616, x254_617, x254_618, x254_619, x254_620, x254_621, x254_622, x254_623, x254_626, x254_627, x254_628, x254_631, x254_634, x254_635, a1, l1, m1, a2, l2, m2, a3, l3, m3, a4, l4, m4, a5, l5, m5, ec, em, h1, h2, lcmp_eq0, Option.bind_some, Option.toList_some, Option.toList_none, List.cons_append, List.nil_append, Option.isSome_some, if_true, eq_self, or_true, true_or, xb_01, mcl_cl, not_true_eq_false, not_false_eq_true, if_false]
theorem q9 (hI : inv g c mu n G S) (hp : p + 7 ≤ g.2.1) (hL : g.2.1 ≤ 3584) : ∃ n' kc' ks' G' S', X g 254 636 [.val (va_rf (some g.1)), .val (va_rf (some c)), .val (va_rf (some mu)), .val (.int (nI p))] [] (cH n kc ks G mu S) = X g 254 1458 [.val (va_rf (some g.1)), .val (va_rf (some c)), .val (va_rf (some mu)), .val (.int (nI p))] [] (cH n' kc' ks' G' mu S') ∧ inv g c mu n' G' S' ∧ kc' ≤ kc + 900 ∧ ks' ≤ ks + 9000 := by
  obtain ⟨b, ρ, hA, hp0, i3, i4, i5, i6⟩ := id hI
  have O := hA.2.2.2.2.2.2.2.2.1
  obtain ⟨d, e, hj⟩ := rA_mJ hA
  have hd := hj.1
  have h24 : d ≤ 24 := by have := hj.2.2.1; have := hj.2.2.2.1; omega
  obtain ⟨n', kc', ks', G', S', h1, h2, h3, _, h5, h6, h7, h8⟩ := both (y1 := 101) (y2 := 186) (L1 := [.val (va_rf (some c)), .val (.int (g.2.2.1 (p + 1))), .val (.int (g.2.2.1 (p + 2))), .val (.int (g.2.2.1 (p + 3))), .val (.int (g.2.2.1 (p + 4))), .val (.int (g.2.2.1 (p + 5))), .val (.int (g.2.2.1 (p + 6))), .unset]) (L2 := [.val (va_rf (some mu)), .val (.int (g.2.2.1 (p + 1))), .val (.int (g.2.2.1 (p + 2))), .val (.int (g.2.2.1 (p + 3))), .val (.int (g.2.2.1 (p + 4))), .val (.int (g.2.2.1 (p + 5))), .val (.int (g.2.2.1 (p + 6)))]) (vv := .int (fWin S (g.2.2.1 (p + 1)) (g.2.2.1 (p + 2)) (g.2.2.1 (p + 3)) (g.2.2.1 (p + 4)) (g.2.2.1 (p + 5)) (g.2.2.1 (p + 6))).1) (kc := kc) (ks := ks) hI (fun n' kc' ks' => ⟨_, e186 , s101 hA hp0⟩)
  have z1 := (cH_none hI (Or.inl rfl)).1
  have z2 := (cH_none hI (Or.inl rfl)).2 S
  obtain ⟨_, _, _, _, _, j4, _, _⟩ := id h3
  have ec := cH_c (n := n) (kc := kc) (ks := ks) (mu := mu) (S := S) hA.1.2.1.1
  have em := cH_m (n := n') (kc := kc') (ks := ks') (S := S) (j4 mu (by omega) (by omega))
  have a1 : nI p + 1 = nI (p + 1) := nI_add p 1
  have l1 : xaldi g (cH n kc ks G mu S) g.1 (nI (p + 1)) = some (.int (g.2.2.1 (p + 1))) := by rw [cH_ld z1 z2, if_pos (xin_nI (by omega) (by omega)), nI_clamp (by omega)]
  have m1 : xaldi g (cH n' kc' ks' G' mu S) g.1 (nI (p + 1)) = some (.int (g.2.2.1 (p + 1))) := by rw [cH_ld h8 z2, if_pos (xin_nI (by omega) (by omega)), nI_clamp (by omega)]
  have a2 : nI p + 2 = nI (p + 2) := nI_add p 2
  have l2 : xaldi g (cH n kc ks G mu S) g.1 (nI (p + 2)) = some (.int (g.2.2.1 (p + 2))) := by rw [cH_ld z1 z2, if_pos (xin_nI (by omega) (by omega)), nI_clamp (by omega)]
  have m2 : xaldi g (cH n' kc' ks' G' mu S) g.1 (nI (p + 2)) = some (.int (g.2.2.1 (p + 2))) := by rw [cH_ld h8 z2, if_pos (xin_nI (by omega) (by omega)), nI_clamp (by omega)]
  have a3 : nI p + 3 = nI (p + 3) := nI_add p 3
  have l3 : xaldi g (cH n kc ks G mu S) g.1 (nI (p + 3)) = some (.int (g.2.2.1 (p + 3))) := by rw [cH_ld z1 z2, if_pos (xin_nI (by omega) (by omega)), nI_clamp (by omega)]
  have m3 : xaldi g (cH n' kc' ks' G' mu S) g.1 (nI (p + 3)) = some (.int (g.2.2.1 (p + 3))) := by rw [cH_ld h8 z2, if_pos (xin_nI (by omega) (by omega)), nI_clamp (by omega)]
  have a4 : nI p + 4 = nI (p + 4) := nI_add p 4
  have l4 : xaldi g (cH n kc ks G mu S) g.1 (nI (p + 4)) = some (.int (g.2.2.1 (p + 4))) := by rw [cH_ld z1 z2, if_pos (xin_nI (by omega) (by omega)), nI_clamp (by omega)]
  have m4 : xaldi g (cH n' kc' ks' G' mu S) g.1 (nI (p + 4)) = some (.int (g.2.2.1 (p + 4))) := by rw [cH_ld h8 z2, if_pos (xin_nI (by omega) (by omega)), nI_clamp (by omega)]
  have a5 : nI p + 5 = nI (p + 5) := nI_add p 5
  have l5 : xaldi g (cH n kc ks G mu S) g.1 (nI (p + 5)) = some (.int (g.2.2.1 (p + 5))) := by rw [cH_ld z1 z2, if_pos (xin_nI (by omega) (by omega)), nI_clamp (by omega)]
  have m5 : xaldi g (cH n' kc' ks' G' mu S) g.1 (nI (p + 5)) = some (.int (g.2.2.1 (p + 5))) := by rw [cH_ld h8 z2, if_pos (xin_nI (by omega) (by omega)), nI_clamp (by omega)]
  have a6 : nI p + 6 = nI (p + 6) := nI_add p 6
  have l6 : xaldi g (cH n kc ks G mu S) g.1 (nI (p + 6)) = some (.int (g.2.2.1 (p + 6))) := by rw [cH_ld z1 z2, if_pos (xin_nI (by omega) (by omega)), nI_clamp (by omega)]
  have m6 : xaldi g (cH n' kc' ks' G' mu S) g.1 (nI (p + 6)) = some (.int (g.2.2.1 (p + 6))) := by rw [cH_ld h8 z2, if_pos (xin_nI (by omega) (by omega)), nI_clamp (by omega)]
  refine ⟨n', kc', ks', G', S', ?_, h3, h5, h6⟩
  simp only [x254_636, x254_637, x254_638, x254_639, x254_640, x254_641, x254_642, x254_643, x254_644, x254_645, x254_646, x254_647, x254_648, x254_649, x254_650, x254_651, x254_652, x254_653, x254_654, x254_655, x254_656, x254_657, x254_658, x254_659, x254_660, x254_661, x254_662, x254_663, x254_664, x254_666, x254_667, x254_668, x254_671, x254_672, x254_673, x254_674, x254_675, x254_676, x254_677, x254_678, x254_679, x254_680, x254_681, x254_682, x254_683, x254_684, x254_685, x254_686, x254_687, x254_688, x254_689, x254_690, x254_691, x254_692, x254_693, x254_694, x254_695, x254_696, x254_697, x254_698, x254_699, x254_701, x254_702, x254_703, x254_706, x254_709, x254_710, a1, l1, m1, a2, l2, m2, a3, l3, m3, a4, l4, m4, a5, l5, m5, a6, l6, m6, ec, em, h1, h2, lcmp_eq0, Option.bind_some, Option.toList_some, Option.toList_none, List.cons_append, List.nil_append, Option.isSome_some, if_true, eq_self, or_true, true_or, xb_01, mcl_cl, not_true_eq_false, not_false_eq_true, if_false]
theorem q10 (hI : inv g c mu n G S) (hp : p + 7 ≤ g.2.1) (hL : g.2.1 ≤ 3584) : ∃ n' kc' ks' G' S', X g 254 711 [.val (va_rf (some g.1)), .val (va_rf (some c)), .val (va_rf (some mu)), .val (.int (nI p))] [] (cH n kc ks G mu S) = X g 254 1458 [.val (va_rf (some g.1)), .val (va_rf (some c)), .val (va_rf (some mu)), .val (.int (nI p))] [] (cH n' kc' ks' G' mu S') ∧ inv g c mu n' G' S' ∧ kc' ≤ kc + 900 ∧ ks' ≤ ks + 9000 := by
  obtain ⟨b, ρ, hA, hp0, i3, i4, i5, i6⟩ := id hI
  have O := hA.2.2.2.2.2.2.2.2.1
  obtain ⟨d, e, hj⟩ := rA_mJ hA
  have hd := hj.1
  have h24 : d ≤ 24 := by have := hj.2.2.1; have := hj.2.2.2.1; omega
  obtain ⟨n', kc', ks', G', S', h1, h2, h3, _, h5, h6, h7, h8⟩ := both (y1 := 102) (y2 := 187) (L1 := [.val (va_rf (some c)), .val (.int (g.2.2.1 (p + 1))), .val (.int (g.2.2.1 (p + 2))), .unset]) (L2 := [.val (va_rf (some mu)), .val (.int (g.2.2.1 (p + 1))), .val (.int (g.2.2.1 (p + 2)))]) (vv := .int (fWinOf S (g.2.2.1 (p + 1)) (g.2.2.1 (p + 2)))) (kc := kc) (ks := ks) hI (fun n' kc' ks' => ⟨_, e187 , s102 hA hp0⟩)
  have z1 := (cH_none hI (Or.inl rfl)).1
  have z2 := (cH_none hI (Or.inl rfl)).2 S
  obtain ⟨_, _, _, _, _, j4, _, _⟩ := id h3
  have ec := cH_c (n := n) (kc := kc) (ks := ks) (mu := mu) (S := S) hA.1.2.1.1
  have em := cH_m (n := n') (kc := kc') (ks := ks') (S := S) (j4 mu (by omega) (by omega))
  have a1 : nI p + 1 = nI (p + 1) := nI_add p 1
  have l1 : xaldi g (cH n kc ks G mu S) g.1 (nI (p + 1)) = some (.int (g.2.2.1 (p + 1))) := by rw [cH_ld z1 z2, if_pos (xin_nI (by omega) (by omega)), nI_clamp (by omega)]
  have m1 : xaldi g (cH n' kc' ks' G' mu S) g.1 (nI (p + 1)) = some (.int (g.2.2.1 (p + 1))) := by rw [cH_ld h8 z2, if_pos (xin_nI (by omega) (by omega)), nI_clamp (by omega)]
  have a2 : nI p + 2 = nI (p + 2) := nI_add p 2
  have l2 : xaldi g (cH n kc ks G mu S) g.1 (nI (p + 2)) = some (.int (g.2.2.1 (p + 2))) := by rw [cH_ld z1 z2, if_pos (xin_nI (by omega) (by omega)), nI_clamp (by omega)]
  have m2 : xaldi g (cH n' kc' ks' G' mu S) g.1 (nI (p + 2)) = some (.int (g.2.2.1 (p + 2))) := by rw [cH_ld h8 z2, if_pos (xin_nI (by omega) (by omega)), nI_clamp (by omega)]
  refine ⟨n', kc', ks', G', S', ?_, h3, h5, h6⟩
  simp only [x254_711, x254_712, x254_713, x254_714, x254_715, x254_716, x254_717, x254_718, x254_719, x254_720, x254_721, x254_722, x254_725, x254_726, x254_727, x254_728, x254_729, x254_730, x254_731, x254_732, x254_733, x254_734, x254_735, x254_736, x254_739, x254_742, x254_743, a1, l1, m1, a2, l2, m2, ec, em, h1, h2, lcmp_eq0, Option.bind_some, Option.toList_some, Option.toList_none, List.cons_append, List.nil_append, Option.isSome_some, if_true, eq_self, or_true, true_or, xb_01, mcl_cl, not_true_eq_false, not_false_eq_true, if_false]
theorem q11 (hI : inv g c mu n G S) (hp : p + 7 ≤ g.2.1) (hL : g.2.1 ≤ 3584) : ∃ n' kc' ks' G' S', X g 254 744 [.val (va_rf (some g.1)), .val (va_rf (some c)), .val (va_rf (some mu)), .val (.int (nI p))] [] (cH n kc ks G mu S) = X g 254 1458 [.val (va_rf (some g.1)), .val (va_rf (some c)), .val (va_rf (some mu)), .val (.int (nI p))] [] (cH n' kc' ks' G' mu S') ∧ inv g c mu n' G' S' ∧ kc' ≤ kc + 900 ∧ ks' ≤ ks + 9000 := by
  obtain ⟨b, ρ, hA, hp0, i3, i4, i5, i6⟩ := id hI
  have O := hA.2.2.2.2.2.2.2.2.1
  obtain ⟨d, e, hj⟩ := rA_mJ hA
  have hd := hj.1
  have h24 : d ≤ 24 := by have := hj.2.2.1; have := hj.2.2.2.1; omega
  obtain ⟨n', kc', ks', G', S', h1, h2, h3, _, h5, h6, h7, h8⟩ := both (y1 := 103) (y2 := 191) (L1 := [.val (va_rf (some c)), .val (.int (g.2.2.1 (p + 1))), .val (.int (g.2.2.1 (p + 2))), .unset]) (L2 := [.val (va_rf (some mu)), .val (.int (g.2.2.1 (p + 1))), .val (.int (g.2.2.1 (p + 2)))]) (vv := .int (fLook S (g.2.2.1 (p + 1)) (g.2.2.1 (p + 2))).1) (kc := kc) (ks := ks) hI (fun n' kc' ks' => by
    obtain ⟨x1, x2, h⟩ := e191 (g := g) (n := n') (kc := kc') (ks := ks') (mu := mu) O.2.2.2.1 O.1 O.2.1 O.2.2.1
    exact ⟨_, h, sim_ev (s103 hA hp0) mIs_ev⟩)
  have z1 := (cH_none hI (Or.inl rfl)).1
  have z2 := (cH_none hI (Or.inl rfl)).2 S
  obtain ⟨_, _, _, _, _, j4, _, _⟩ := id h3
  have ec := cH_c (n := n) (kc := kc) (ks := ks) (mu := mu) (S := S) hA.1.2.1.1
  have em := cH_m (n := n') (kc := kc') (ks := ks') (S := S) (j4 mu (by omega) (by omega))
  have a1 : nI p + 1 = nI (p + 1) := nI_add p 1
  have l1 : xaldi g (cH n kc ks G mu S) g.1 (nI (p + 1)) = some (.int (g.2.2.1 (p + 1))) := by rw [cH_ld z1 z2, if_pos (xin_nI (by omega) (by omega)), nI_clamp (by omega)]
  have m1 : xaldi g (cH n' kc' ks' G' mu S) g.1 (nI (p + 1)) = some (.int (g.2.2.1 (p + 1))) := by rw [cH_ld h8 z2, if_pos (xin_nI (by omega) (by omega)), nI_clamp (by omega)]
  have a2 : nI p + 2 = nI (p + 2) := nI_add p 2
  have l2 : xaldi g (cH n kc ks G mu S) g.1 (nI (p + 2)) = some (.int (g.2.2.1 (p + 2))) := by rw [cH_ld z1 z2, if_pos (xin_nI (by omega) (by omega)), nI_clamp (by omega)]
  have m2 : xaldi g (cH n' kc' ks' G' mu S) g.1 (nI (p + 2)) = some (.int (g.2.2.1 (p + 2))) := by rw [cH_ld h8 z2, if_pos (xin_nI (by omega) (by omega)), nI_clamp (by omega)]
  refine ⟨n', kc', ks', G', S', ?_, h3, h5, h6⟩
  simp only [x254_744, x254_745, x254_746, x254_747, x254_748, x254_749, x254_750, x254_751, x254_752, x254_753, x254_754, x254_755, x254_758, x254_759, x254_760, x254_761, x254_762, x254_763, x254_764, x254_765, x254_766, x254_767, x254_768, x254_769, x254_772, x254_775, x254_776, a1, l1, m1, a2, l2, m2, ec, em, h1, h2, lcmp_eq0, Option.bind_some, Option.toList_some, Option.toList_none, List.cons_append, List.nil_append, Option.isSome_some, if_true, eq_self, or_true, true_or, xb_01, mcl_cl, not_true_eq_false, not_false_eq_true, if_false]
theorem q12 (hI : inv g c mu n G S) (hp : p + 7 ≤ g.2.1) (hL : g.2.1 ≤ 3584) : ∃ n' kc' ks' G' S', X g 254 777 [.val (va_rf (some g.1)), .val (va_rf (some c)), .val (va_rf (some mu)), .val (.int (nI p))] [] (cH n kc ks G mu S) = X g 254 1458 [.val (va_rf (some g.1)), .val (va_rf (some c)), .val (va_rf (some mu)), .val (.int (nI p))] [] (cH n' kc' ks' G' mu S') ∧ inv g c mu n' G' S' ∧ kc' ≤ kc + 900 ∧ ks' ≤ ks + 9000 := by
  obtain ⟨b, ρ, hA, hp0, i3, i4, i5, i6⟩ := id hI
  have O := hA.2.2.2.2.2.2.2.2.1
  obtain ⟨d, e, hj⟩ := rA_mJ hA
  have hd := hj.1
  have h24 : d ≤ 24 := by have := hj.2.2.1; have := hj.2.2.2.1; omega
  obtain ⟨n', kc', ks', G', S', h1, h2, h3, _, h5, h6, h7, h8⟩ := both (y1 := 104) (y2 := 194) (L1 := [.val (va_rf (some c)), .val (.int (g.2.2.1 (p + 1))), .unset, .unset, .unset, .unset]) (L2 := [.val (va_rf (some mu)), .val (.int (g.2.2.1 (p + 1))), .unset, .unset, .unset]) (vv := .long (fSum S (g.2.2.1 (p + 1)))) (kc := kc) (ks := ks) hI (fun n' kc' ks' => by
    obtain ⟨x1, x2, h⟩ := e194 (g := g) (n := n') (kc := kc') (ks := ks') (mu := mu) O.2.2.2.1 O.1 O.2.1 O.2.2.1
    exact ⟨_, h, sim_ev (s104 hA hp0) mIs_ev⟩)
  have z1 := (cH_none hI (Or.inl rfl)).1
  have z2 := (cH_none hI (Or.inl rfl)).2 S
  obtain ⟨_, _, _, _, _, j4, _, _⟩ := id h3
  have ec := cH_c (n := n) (kc := kc) (ks := ks) (mu := mu) (S := S) hA.1.2.1.1
  have em := cH_m (n := n') (kc := kc') (ks := ks') (S := S) (j4 mu (by omega) (by omega))
  have a1 : nI p + 1 = nI (p + 1) := nI_add p 1
  have l1 : xaldi g (cH n kc ks G mu S) g.1 (nI (p + 1)) = some (.int (g.2.2.1 (p + 1))) := by rw [cH_ld z1 z2, if_pos (xin_nI (by omega) (by omega)), nI_clamp (by omega)]
  have m1 : xaldi g (cH n' kc' ks' G' mu S) g.1 (nI (p + 1)) = some (.int (g.2.2.1 (p + 1))) := by rw [cH_ld h8 z2, if_pos (xin_nI (by omega) (by omega)), nI_clamp (by omega)]
  refine ⟨n', kc', ks', G', S', ?_, h3, h5, h6⟩
  simp only [x254_777, x254_778, x254_779, x254_780, x254_781, x254_782, x254_783, x254_786, x254_787, x254_788, x254_789, x254_790, x254_791, x254_792, x254_795, x254_796, x254_799, x254_800, a1, l1, m1, ec, em, h1, h2, lcmp_eq0, Option.bind_some, Option.toList_some, Option.toList_none, List.cons_append, List.nil_append, Option.isSome_some, if_true, eq_self, or_true, true_or, xb_01, mcl_cl, not_true_eq_false, not_false_eq_true, if_false]
theorem q13 (hI : inv g c mu n G S) (hp : p + 7 ≤ g.2.1) (hL : g.2.1 ≤ 3584) : ∃ n' kc' ks' G' S', X g 254 801 [.val (va_rf (some g.1)), .val (va_rf (some c)), .val (va_rf (some mu)), .val (.int (nI p))] [] (cH n kc ks G mu S) = X g 254 1458 [.val (va_rf (some g.1)), .val (va_rf (some c)), .val (va_rf (some mu)), .val (.int (nI p))] [] (cH n' kc' ks' G' mu S') ∧ inv g c mu n' G' S' ∧ kc' ≤ kc + 900 ∧ ks' ≤ ks + 9000 := by
  obtain ⟨b, ρ, hA, hp0, i3, i4, i5, i6⟩ := id hI
  have O := hA.2.2.2.2.2.2.2.2.1
  obtain ⟨d, e, hj⟩ := rA_mJ hA
  have hd := hj.1
  have h24 : d ≤ 24 := by have := hj.2.2.1; have := hj.2.2.2.1; omega
  obtain ⟨n', kc', ks', G', S', h1, h2, h3, _, h5, h6, h7, h8⟩ := both (y1 := 105) (y2 := 195) (L1 := [.val (va_rf (some c)), .val (.int (g.2.2.1 (p + 1))), .val (.int (g.2.2.1 (p + 2))), .unset, .unset]) (L2 := [.val (va_rf (some mu)), .val (.int (g.2.2.1 (p + 1))), .val (.int (g.2.2.1 (p + 2))), .unset]) (vv := .int (fFault S (g.2.2.1 (p + 1)) (g.2.2.1 (p + 2)))) (kc := kc) (ks := ks) hI (fun n' kc' ks' => by
    obtain ⟨x1, x2, h⟩ := e195 (g := g) (n := n') (kc := kc') (ks := ks') (mu := mu) O.2.2.2.1 O.1 O.2.1 O.2.2.1
    exact ⟨_, h, sim_ev (s105 hA hp0) mIs_ev⟩)
  have z1 := (cH_none hI (Or.inl rfl)).1
  have z2 := (cH_none hI (Or.inl rfl)).2 S
  obtain ⟨_, _, _, _, _, j4, _, _⟩ := id h3
  have ec := cH_c (n := n) (kc := kc) (ks := ks) (mu := mu) (S := S) hA.1.2.1.1
  have em := cH_m (n := n') (kc := kc') (ks := ks') (S := S) (j4 mu (by omega) (by omega))
  have a1 : nI p + 1 = nI (p + 1) := nI_add p 1
  have l1 : xaldi g (cH n kc ks G mu S) g.1 (nI (p + 1)) = some (.int (g.2.2.1 (p + 1))) := by rw [cH_ld z1 z2, if_pos (xin_nI (by omega) (by omega)), nI_clamp (by omega)]
  have m1 : xaldi g (cH n' kc' ks' G' mu S) g.1 (nI (p + 1)) = some (.int (g.2.2.1 (p + 1))) := by rw [cH_ld h8 z2, if_pos (xin_nI (by omega) (by omega)), nI_clamp (by omega)]
  have a2 : nI p + 2 = nI (p + 2) := nI_add p 2
  have l2 : xaldi g (cH n kc ks G mu S) g.1 (nI (p + 2)) = some (.int (g.2.2.1 (p + 2))) := by rw [cH_ld z1 z2, if_pos (xin_nI (by omega) (by omega)), nI_clamp (by omega)]
  have m2 : xaldi g (cH n' kc' ks' G' mu S) g.1 (nI (p + 2)) = some (.int (g.2.2.1 (p + 2))) := by rw [cH_ld h8 z2, if_pos (xin_nI (by omega) (by omega)), nI_clamp (by omega)]
  refine ⟨n', kc', ks', G', S', ?_, h3, h5, h6⟩
  simp only [x254_801, x254_802, x254_803, x254_804, x254_805, x254_806, x254_807, x254_808, x254_809, x254_810, x254_811, x254_812, x254_815, x254_816, x254_817, x254_818, x254_819, x254_820, x254_821, x254_822, x254_823, x254_824, x254_825, x254_826, x254_829, x254_832, x254_833, a1, l1, m1, a2, l2, m2, ec, em, h1, h2, lcmp_eq0, Option.bind_some, Option.toList_some, Option.toList_none, List.cons_append, List.nil_append, Option.isSome_some, if_true, eq_self, or_true, true_or, xb_01, mcl_cl, not_true_eq_false, not_false_eq_true, if_false]
theorem q14 (hI : inv g c mu n G S) (hp : p + 7 ≤ g.2.1) (hL : g.2.1 ≤ 3584) : ∃ n' kc' ks' G' S', X g 254 834 [.val (va_rf (some g.1)), .val (va_rf (some c)), .val (va_rf (some mu)), .val (.int (nI p))] [] (cH n kc ks G mu S) = X g 254 1458 [.val (va_rf (some g.1)), .val (va_rf (some c)), .val (va_rf (some mu)), .val (.int (nI p))] [] (cH n' kc' ks' G' mu S') ∧ inv g c mu n' G' S' ∧ kc' ≤ kc + 900 ∧ ks' ≤ ks + 9000 := by
  obtain ⟨b, ρ, hA, hp0, i3, i4, i5, i6⟩ := id hI
  have O := hA.2.2.2.2.2.2.2.2.1
  obtain ⟨d, e, hj⟩ := rA_mJ hA
  have hd := hj.1
  have h24 : d ≤ 24 := by have := hj.2.2.1; have := hj.2.2.2.1; omega
  obtain ⟨n', kc', ks', G', S', h1, h2, h3, _, h5, h6, h7, h8⟩ := both (y1 := 106) (y2 := 197) (L1 := [.val (va_rf (some c)), .val (.int (g.2.2.1 (p + 1))), .val (.int (g.2.2.1 (p + 2))), .unset, .unset, .unset, .unset]) (L2 := [.val (va_rf (some mu)), .val (.int (g.2.2.1 (p + 1))), .val (.int (g.2.2.1 (p + 2))), .unset, .unset, .unset, .unset]) (vv := .int (fLeast S (g.2.2.1 (p + 1)) (g.2.2.1 (p + 2)))) (kc := kc) (ks := ks) hI (fun n' kc' ks' => by
    obtain ⟨x1, x2, h⟩ := e197 (g := g) (n := n') (kc := kc') (ks := ks') (mu := mu) O.2.2.2.1 O.1 O.2.1 O.2.2.1
    exact ⟨_, h, sim_ev (s106 hA hp0) mIs_ev⟩)
  have z1 := (cH_none hI (Or.inl rfl)).1
  have z2 := (cH_none hI (Or.inl rfl)).2 S
  obtain ⟨_, _, _, _, _, j4, _, _⟩ := id h3
  have ec := cH_c (n := n) (kc := kc) (ks := ks) (mu := mu) (S := S) hA.1.2.1.1
  have em := cH_m (n := n') (kc := kc') (ks := ks') (S := S) (j4 mu (by omega) (by omega))
  have a1 : nI p + 1 = nI (p + 1) := nI_add p 1
  have l1 : xaldi g (cH n kc ks G mu S) g.1 (nI (p + 1)) = some (.int (g.2.2.1 (p + 1))) := by rw [cH_ld z1 z2, if_pos (xin_nI (by omega) (by omega)), nI_clamp (by omega)]
  have m1 : xaldi g (cH n' kc' ks' G' mu S) g.1 (nI (p + 1)) = some (.int (g.2.2.1 (p + 1))) := by rw [cH_ld h8 z2, if_pos (xin_nI (by omega) (by omega)), nI_clamp (by omega)]
  have a2 : nI p + 2 = nI (p + 2) := nI_add p 2
  have l2 : xaldi g (cH n kc ks G mu S) g.1 (nI (p + 2)) = some (.int (g.2.2.1 (p + 2))) := by rw [cH_ld z1 z2, if_pos (xin_nI (by omega) (by omega)), nI_clamp (by omega)]
  have m2 : xaldi g (cH n' kc' ks' G' mu S) g.1 (nI (p + 2)) = some (.int (g.2.2.1 (p + 2))) := by rw [cH_ld h8 z2, if_pos (xin_nI (by omega) (by omega)), nI_clamp (by omega)]
  refine ⟨n', kc', ks', G', S', ?_, h3, h5, h6⟩
  simp only [x254_834, x254_835, x254_836, x254_837, x254_838, x254_839, x254_840, x254_841, x254_842, x254_843, x254_844, x254_845, x254_848, x254_849, x254_850, x254_851, x254_852, x254_853, x254_854, x254_855, x254_856, x254_857, x254_858, x254_859, x254_862, x254_865, x254_866, a1, l1, m1, a2, l2, m2, ec, em, h1, h2, lcmp_eq0, Option.bind_some, Option.toList_some, Option.toList_none, List.cons_append, List.nil_append, Option.isSome_some, if_true, eq_self, or_true, true_or, xb_01, mcl_cl, not_true_eq_false, not_false_eq_true, if_false]
theorem q15 (hI : inv g c mu n G S) (hp : p + 7 ≤ g.2.1) (hL : g.2.1 ≤ 3584) : ∃ n' kc' ks' G' S', X g 254 867 [.val (va_rf (some g.1)), .val (va_rf (some c)), .val (va_rf (some mu)), .val (.int (nI p))] [] (cH n kc ks G mu S) = X g 254 1458 [.val (va_rf (some g.1)), .val (va_rf (some c)), .val (va_rf (some mu)), .val (.int (nI p))] [] (cH n' kc' ks' G' mu S') ∧ inv g c mu n' G' S' ∧ kc' ≤ kc + 900 ∧ ks' ≤ ks + 9000 := by
  obtain ⟨b, ρ, hA, hp0, i3, i4, i5, i6⟩ := id hI
  have O := hA.2.2.2.2.2.2.2.2.1
  obtain ⟨d, e, hj⟩ := rA_mJ hA
  have hd := hj.1
  have h24 : d ≤ 24 := by have := hj.2.2.1; have := hj.2.2.2.1; omega
  obtain ⟨n', kc', ks', G', S', h1, h2, h3, _, h5, h6, h7, h8⟩ := both (y1 := 107) (y2 := 198) (L1 := [.val (va_rf (some c)), .val (.int (g.2.2.1 (p + 1))), .val (.int (g.2.2.1 (p + 2))), .val (.int (g.2.2.1 (p + 3))), .val (.long ((g.2.2.1 (p + 4)).toInt64 <<< ((32 : Int32).toInt64 &&& 63) ||| (g.2.2.1 (p + 5)).toInt64 &&& 4294967295)), .second, .unset, .unset]) (L2 := [.val (va_rf (some mu)), .val (.int (g.2.2.1 (p + 1))), .val (.int (g.2.2.1 (p + 2))), .val (.int (g.2.2.1 (p + 3))), .val (.long ((g.2.2.1 (p + 4)).toInt64 <<< ((32 : Int32).toInt64 &&& 63) ||| (g.2.2.1 (p + 5)).toInt64 &&& 4294967295)), .second, .unset, .unset, .unset]) (vv := .int (fFind S (g.2.2.1 (p + 1)) (g.2.2.1 (p + 2)) (g.2.2.1 (p + 3)) ((g.2.2.1 (p + 4)).toInt64 <<< ((32 : Int32).toInt64 &&& 63) ||| (g.2.2.1 (p + 5)).toInt64 &&& 4294967295))) (kc := kc) (ks := ks) hI (fun n' kc' ks' => by
    obtain ⟨x1, x2, h⟩ := e198 (g := g) (n := n') (kc := kc') (ks := ks') (mu := mu) O.2.2.2.1 O.1 O.2.1 O.2.2.1
    exact ⟨_, h, sim_ev (s107 hA hp0) mIs_ev⟩)
  have z1 := (cH_none hI (Or.inl rfl)).1
  have z2 := (cH_none hI (Or.inl rfl)).2 S
  obtain ⟨_, _, _, _, _, j4, _, _⟩ := id h3
  have ec := cH_c (n := n) (kc := kc) (ks := ks) (mu := mu) (S := S) hA.1.2.1.1
  have em := cH_m (n := n') (kc := kc') (ks := ks') (S := S) (j4 mu (by omega) (by omega))
  have a1 : nI p + 1 = nI (p + 1) := nI_add p 1
  have l1 : xaldi g (cH n kc ks G mu S) g.1 (nI (p + 1)) = some (.int (g.2.2.1 (p + 1))) := by rw [cH_ld z1 z2, if_pos (xin_nI (by omega) (by omega)), nI_clamp (by omega)]
  have m1 : xaldi g (cH n' kc' ks' G' mu S) g.1 (nI (p + 1)) = some (.int (g.2.2.1 (p + 1))) := by rw [cH_ld h8 z2, if_pos (xin_nI (by omega) (by omega)), nI_clamp (by omega)]
  have a2 : nI p + 2 = nI (p + 2) := nI_add p 2
  have l2 : xaldi g (cH n kc ks G mu S) g.1 (nI (p + 2)) = some (.int (g.2.2.1 (p + 2))) := by rw [cH_ld z1 z2, if_pos (xin_nI (by omega) (by omega)), nI_clamp (by omega)]
  have m2 : xaldi g (cH n' kc' ks' G' mu S) g.1 (nI (p + 2)) = some (.int (g.2.2.1 (p + 2))) := by rw [cH_ld h8 z2, if_pos (xin_nI (by omega) (by omega)), nI_clamp (by omega)]
  have a3 : nI p + 3 = nI (p + 3) := nI_add p 3
  have l3 : xaldi g (cH n kc ks G mu S) g.1 (nI (p + 3)) = some (.int (g.2.2.1 (p + 3))) := by rw [cH_ld z1 z2, if_pos (xin_nI (by omega) (by omega)), nI_clamp (by omega)]
  have m3 : xaldi g (cH n' kc' ks' G' mu S) g.1 (nI (p + 3)) = some (.int (g.2.2.1 (p + 3))) := by rw [cH_ld h8 z2, if_pos (xin_nI (by omega) (by omega)), nI_clamp (by omega)]
  have a4 : nI p + 4 = nI (p + 4) := nI_add p 4
  have l4 : xaldi g (cH n kc ks G mu S) g.1 (nI (p + 4)) = some (.int (g.2.2.1 (p + 4))) := by rw [cH_ld z1 z2, if_pos (xin_nI (by omega) (by omega)), nI_clamp (by omega)]
  have m4 : xaldi g (cH n' kc' ks' G' mu S) g.1 (nI (p + 4)) = some (.int (g.2.2.1 (p + 4))) := by rw [cH_ld h8 z2, if_pos (xin_nI (by omega) (by omega)), nI_clamp (by omega)]
  have a5 : nI p + 5 = nI (p + 5) := nI_add p 5
  have l5 : xaldi g (cH n kc ks G mu S) g.1 (nI (p + 5)) = some (.int (g.2.2.1 (p + 5))) := by rw [cH_ld z1 z2, if_pos (xin_nI (by omega) (by omega)), nI_clamp (by omega)]
  have m5 : xaldi g (cH n' kc' ks' G' mu S) g.1 (nI (p + 5)) = some (.int (g.2.2.1 (p + 5))) := by rw [cH_ld h8 z2, if_pos (xin_nI (by omega) (by omega)), nI_clamp (by omega)]
  refine ⟨n', kc', ks', G', S', ?_, h3, h5, h6⟩
  simp only [x254_867, x254_868, x254_869, x254_870, x254_871, x254_872, x254_873, x254_874, x254_875, x254_876, x254_877, x254_878, x254_879, x254_880, x254_881, x254_882, x254_883, x254_884, x254_885, x254_886, x254_887, x254_888, x254_889, x254_891, x254_892, x254_893, x254_894, x254_895, x254_896, x254_897, x254_898, x254_901, x254_902, x254_903, x254_906, x254_907, x254_908, x254_909, x254_910, x254_911, x254_912, x254_913, x254_914, x254_915, x254_916, x254_917, x254_918, x254_919, x254_920, x254_921, x254_922, x254_923, x254_924, x254_925, x254_926, x254_927, x254_928, x254_930, x254_931, x254_932, x254_933, x254_934, x254_935, x254_936, x254_937, x254_940, x254_941, x254_942, x254_945, x254_948, x254_949, a1, l1, m1, a2, l2, m2, a3, l3, m3, a4, l4, m4, a5, l5, m5, ec, em, h1, h2, lcmp_eq0, Option.bind_some, Option.toList_some, Option.toList_none, List.cons_append, List.nil_append, Option.isSome_some, if_true, eq_self, or_true, true_or, xb_01, mcl_cl, not_true_eq_false, not_false_eq_true, if_false]
theorem q16 (hI : inv g c mu n G S) (hp : p + 7 ≤ g.2.1) (hL : g.2.1 ≤ 3584) : ∃ n' kc' ks' G' S', X g 254 950 [.val (va_rf (some g.1)), .val (va_rf (some c)), .val (va_rf (some mu)), .val (.int (nI p))] [] (cH n kc ks G mu S) = X g 254 1458 [.val (va_rf (some g.1)), .val (va_rf (some c)), .val (va_rf (some mu)), .val (.int (nI p))] [] (cH n' kc' ks' G' mu S') ∧ inv g c mu n' G' S' ∧ kc' ≤ kc + 900 ∧ ks' ≤ ks + 9000 := by
  obtain ⟨b, ρ, hA, hp0, i3, i4, i5, i6⟩ := id hI
  have O := hA.2.2.2.2.2.2.2.2.1
  obtain ⟨d, e, hj⟩ := rA_mJ hA
  have hd := hj.1
  have h24 : d ≤ 24 := by have := hj.2.2.1; have := hj.2.2.2.1; omega
  obtain ⟨n', kc', ks', G', S', h1, h2, h3, _, h5, h6, h7, h8⟩ := both (y1 := 108) (y2 := 212) (L1 := [.val (va_rf (some c)), .val (.int (g.2.2.1 (p + 1))), .val (.int (g.2.2.1 (p + 2))), .val (.int (g.2.2.1 (p + 3))), .unset, .unset]) (L2 := [.val (va_rf (some mu)), .val (.int (g.2.2.1 (p + 1))), .val (.int (g.2.2.1 (p + 2))), .val (.int (g.2.2.1 (p + 3)))]) (vv := .int (fCopy S (g.2.2.1 (p + 1)) (g.2.2.1 (p + 2)) (g.2.2.1 (p + 3))).1) (kc := kc) (ks := ks) hI (fun n' kc' ks' => by
    obtain ⟨x1, x2, h⟩ := e212 (g := g) (n := n') (kc := kc') (ks := ks') (mu := mu) hd h24 O
    exact ⟨_, h, sim_ev (s108 hA hp0) mIs_ev⟩)
  have z1 := (cH_none hI (Or.inl rfl)).1
  have z2 := (cH_none hI (Or.inl rfl)).2 S
  obtain ⟨_, _, _, _, _, j4, _, _⟩ := id h3
  have ec := cH_c (n := n) (kc := kc) (ks := ks) (mu := mu) (S := S) hA.1.2.1.1
  have em := cH_m (n := n') (kc := kc') (ks := ks') (S := S) (j4 mu (by omega) (by omega))
  have a1 : nI p + 1 = nI (p + 1) := nI_add p 1
  have l1 : xaldi g (cH n kc ks G mu S) g.1 (nI (p + 1)) = some (.int (g.2.2.1 (p + 1))) := by rw [cH_ld z1 z2, if_pos (xin_nI (by omega) (by omega)), nI_clamp (by omega)]
  have m1 : xaldi g (cH n' kc' ks' G' mu S) g.1 (nI (p + 1)) = some (.int (g.2.2.1 (p + 1))) := by rw [cH_ld h8 z2, if_pos (xin_nI (by omega) (by omega)), nI_clamp (by omega)]
  have a2 : nI p + 2 = nI (p + 2) := nI_add p 2
  have l2 : xaldi g (cH n kc ks G mu S) g.1 (nI (p + 2)) = some (.int (g.2.2.1 (p + 2))) := by rw [cH_ld z1 z2, if_pos (xin_nI (by omega) (by omega)), nI_clamp (by omega)]
  have m2 : xaldi g (cH n' kc' ks' G' mu S) g.1 (nI (p + 2)) = some (.int (g.2.2.1 (p + 2))) := by rw [cH_ld h8 z2, if_pos (xin_nI (by omega) (by omega)), nI_clamp (by omega)]
  have a3 : nI p + 3 = nI (p + 3) := nI_add p 3
  have l3 : xaldi g (cH n kc ks G mu S) g.1 (nI (p + 3)) = some (.int (g.2.2.1 (p + 3))) := by rw [cH_ld z1 z2, if_pos (xin_nI (by omega) (by omega)), nI_clamp (by omega)]
  have m3 : xaldi g (cH n' kc' ks' G' mu S) g.1 (nI (p + 3)) = some (.int (g.2.2.1 (p + 3))) := by rw [cH_ld h8 z2, if_pos (xin_nI (by omega) (by omega)), nI_clamp (by omega)]
  refine ⟨n', kc', ks', G', S', ?_, h3, h5, h6⟩
  simp only [x254_950, x254_951, x254_952, x254_953, x254_954, x254_955, x254_956, x254_957, x254_958, x254_959, x254_960, x254_961, x254_962, x254_963, x254_964, x254_965, x254_966, x254_969, x254_970, x254_971, x254_972, x254_973, x254_974, x254_975, x254_976, x254_977, x254_978, x254_979, x254_980, x254_981, x254_982, x254_983, x254_984, x254_985, x254_988, x254_991, x254_992, a1, l1, m1, a2, l2, m2, a3, l3, m3, ec, em, h1, h2, lcmp_eq0, Option.bind_some, Option.toList_some, Option.toList_none, List.cons_append, List.nil_append, Option.isSome_some, if_true, eq_self, or_true, true_or, xb_01, mcl_cl, not_true_eq_false, not_false_eq_true, if_false]
theorem q17 (hI : inv g c mu n G S) (hp : p + 7 ≤ g.2.1) (hL : g.2.1 ≤ 3584) : ∃ n' kc' ks' G' S', X g 254 993 [.val (va_rf (some g.1)), .val (va_rf (some c)), .val (va_rf (some mu)), .val (.int (nI p))] [] (cH n kc ks G mu S) = X g 254 1458 [.val (va_rf (some g.1)), .val (va_rf (some c)), .val (va_rf (some mu)), .val (.int (nI p))] [] (cH n' kc' ks' G' mu S') ∧ inv g c mu n' G' S' ∧ kc' ≤ kc + 900 ∧ ks' ≤ ks + 9000 := by
  obtain ⟨b, ρ, hA, hp0, i3, i4, i5, i6⟩ := id hI
  have O := hA.2.2.2.2.2.2.2.2.1
  obtain ⟨d, e, hj⟩ := rA_mJ hA
  have hd := hj.1
  have h24 : d ≤ 24 := by have := hj.2.2.1; have := hj.2.2.2.1; omega
  obtain ⟨n', kc', ks', G', S', h1, h2, h3, _, h5, h6, h7, h8⟩ := both (y1 := 109) (y2 := 213) (L1 := [.val (va_rf (some c)), .val (.int (g.2.2.1 (p + 1))), .val (.int (g.2.2.1 (p + 2))), .unset, .unset, .unset, .unset]) (L2 := [.val (va_rf (some mu)), .val (.int (g.2.2.1 (p + 1))), .val (.int (g.2.2.1 (p + 2))), .unset, .unset, .unset, .unset, .unset, .unset, .unset, .unset]) (vv := .int (fSwap S (g.2.2.1 (p + 1)) (g.2.2.1 (p + 2))).1) (kc := kc) (ks := ks) hI (fun n' kc' ks' => by
    obtain ⟨x1, x2, h⟩ := e213 (g := g) (n := n') (kc := kc') (ks := ks') (mu := mu) hd h24 O
    exact ⟨_, h, sim_ev (s109 hA hp0) mIs_ev⟩)
  have z1 := (cH_none hI (Or.inl rfl)).1
  have z2 := (cH_none hI (Or.inl rfl)).2 S
  obtain ⟨_, _, _, _, _, j4, _, _⟩ := id h3
  have ec := cH_c (n := n) (kc := kc) (ks := ks) (mu := mu) (S := S) hA.1.2.1.1
  have em := cH_m (n := n') (kc := kc') (ks := ks') (S := S) (j4 mu (by omega) (by omega))
  have a1 : nI p + 1 = nI (p + 1) := nI_add p 1
  have l1 : xaldi g (cH n kc ks G mu S) g.1 (nI (p + 1)) = some (.int (g.2.2.1 (p + 1))) := by rw [cH_ld z1 z2, if_pos (xin_nI (by omega) (by omega)), nI_clamp (by omega)]
  have m1 : xaldi g (cH n' kc' ks' G' mu S) g.1 (nI (p + 1)) = some (.int (g.2.2.1 (p + 1))) := by rw [cH_ld h8 z2, if_pos (xin_nI (by omega) (by omega)), nI_clamp (by omega)]
  have a2 : nI p + 2 = nI (p + 2) := nI_add p 2
  have l2 : xaldi g (cH n kc ks G mu S) g.1 (nI (p + 2)) = some (.int (g.2.2.1 (p + 2))) := by rw [cH_ld z1 z2, if_pos (xin_nI (by omega) (by omega)), nI_clamp (by omega)]
  have m2 : xaldi g (cH n' kc' ks' G' mu S) g.1 (nI (p + 2)) = some (.int (g.2.2.1 (p + 2))) := by rw [cH_ld h8 z2, if_pos (xin_nI (by omega) (by omega)), nI_clamp (by omega)]
  refine ⟨n', kc', ks', G', S', ?_, h3, h5, h6⟩
  simp only [x254_993, x254_994, x254_995, x254_996, x254_997, x254_998, x254_999, x254_1000, x254_1001, x254_1002, x254_1003, x254_1004, x254_1007, x254_1008, x254_1009, x254_1010, x254_1011, x254_1012, x254_1013, x254_1014, x254_1015, x254_1016, x254_1017, x254_1018, x254_1021, x254_1024, x254_1025, a1, l1, m1, a2, l2, m2, ec, em, h1, h2, lcmp_eq0, Option.bind_some, Option.toList_some, Option.toList_none, List.cons_append, List.nil_append, Option.isSome_some, if_true, eq_self, or_true, true_or, xb_01, mcl_cl, not_true_eq_false, not_false_eq_true, if_false]
theorem q18 (hI : inv g c mu n G S) (hp : p + 7 ≤ g.2.1) (hL : g.2.1 ≤ 3584) : ∃ n' kc' ks' G' S', X g 254 1026 [.val (va_rf (some g.1)), .val (va_rf (some c)), .val (va_rf (some mu)), .val (.int (nI p))] [] (cH n kc ks G mu S) = X g 254 1458 [.val (va_rf (some g.1)), .val (va_rf (some c)), .val (va_rf (some mu)), .val (.int (nI p))] [] (cH n' kc' ks' G' mu S') ∧ inv g c mu n' G' S' ∧ kc' ≤ kc + 900 ∧ ks' ≤ ks + 9000 := by
  obtain ⟨b, ρ, hA, hp0, i3, i4, i5, i6⟩ := id hI
  have O := hA.2.2.2.2.2.2.2.2.1
  obtain ⟨d, e, hj⟩ := rA_mJ hA
  have hd := hj.1
  have h24 : d ≤ 24 := by have := hj.2.2.1; have := hj.2.2.2.1; omega
  obtain ⟨n', kc', ks', G', S', h1, h2, h3, _, h5, h6, h7, h8⟩ := both (y1 := 110) (y2 := 214) (L1 := [.val (va_rf (some c)), .val (.int (g.2.2.1 (p + 1))), .val (.int (g.2.2.1 (p + 2))), .val (.long ((g.2.2.1 (p + 3)).toInt64 <<< ((32 : Int32).toInt64 &&& 63) ||| (g.2.2.1 (p + 4)).toInt64 &&& 4294967295)), .second, .unset, .unset, .unset]) (L2 := [.val (va_rf (some mu)), .val (.int (g.2.2.1 (p + 1))), .val (.int (g.2.2.1 (p + 2))), .val (.long ((g.2.2.1 (p + 3)).toInt64 <<< ((32 : Int32).toInt64 &&& 63) ||| (g.2.2.1 (p + 4)).toInt64 &&& 4294967295)), .second, .unset, .unset]) (vv := .int (fFill S (g.2.2.1 (p + 1)) (g.2.2.1 (p + 2)) ((g.2.2.1 (p + 3)).toInt64 <<< ((32 : Int32).toInt64 &&& 63) ||| (g.2.2.1 (p + 4)).toInt64 &&& 4294967295)).1) (kc := kc) (ks := ks) hI (fun n' kc' ks' => by
    obtain ⟨x1, x2, h⟩ := e214 (g := g) (n := n') (kc := kc') (ks := ks') (mu := mu) hd h24 O
    exact ⟨_, h, sim_ev (s110 hA hp0) mIs_ev⟩)
  have z1 := (cH_none hI (Or.inl rfl)).1
  have z2 := (cH_none hI (Or.inl rfl)).2 S
  obtain ⟨_, _, _, _, _, j4, _, _⟩ := id h3
  have ec := cH_c (n := n) (kc := kc) (ks := ks) (mu := mu) (S := S) hA.1.2.1.1
  have em := cH_m (n := n') (kc := kc') (ks := ks') (S := S) (j4 mu (by omega) (by omega))
  have a1 : nI p + 1 = nI (p + 1) := nI_add p 1
  have l1 : xaldi g (cH n kc ks G mu S) g.1 (nI (p + 1)) = some (.int (g.2.2.1 (p + 1))) := by rw [cH_ld z1 z2, if_pos (xin_nI (by omega) (by omega)), nI_clamp (by omega)]
  have m1 : xaldi g (cH n' kc' ks' G' mu S) g.1 (nI (p + 1)) = some (.int (g.2.2.1 (p + 1))) := by rw [cH_ld h8 z2, if_pos (xin_nI (by omega) (by omega)), nI_clamp (by omega)]
  have a2 : nI p + 2 = nI (p + 2) := nI_add p 2
  have l2 : xaldi g (cH n kc ks G mu S) g.1 (nI (p + 2)) = some (.int (g.2.2.1 (p + 2))) := by rw [cH_ld z1 z2, if_pos (xin_nI (by omega) (by omega)), nI_clamp (by omega)]
  have m2 : xaldi g (cH n' kc' ks' G' mu S) g.1 (nI (p + 2)) = some (.int (g.2.2.1 (p + 2))) := by rw [cH_ld h8 z2, if_pos (xin_nI (by omega) (by omega)), nI_clamp (by omega)]
  have a3 : nI p + 3 = nI (p + 3) := nI_add p 3
  have l3 : xaldi g (cH n kc ks G mu S) g.1 (nI (p + 3)) = some (.int (g.2.2.1 (p + 3))) := by rw [cH_ld z1 z2, if_pos (xin_nI (by omega) (by omega)), nI_clamp (by omega)]
  have m3 : xaldi g (cH n' kc' ks' G' mu S) g.1 (nI (p + 3)) = some (.int (g.2.2.1 (p + 3))) := by rw [cH_ld h8 z2, if_pos (xin_nI (by omega) (by omega)), nI_clamp (by omega)]
  have a4 : nI p + 4 = nI (p + 4) := nI_add p 4
  have l4 : xaldi g (cH n kc ks G mu S) g.1 (nI (p + 4)) = some (.int (g.2.2.1 (p + 4))) := by rw [cH_ld z1 z2, if_pos (xin_nI (by omega) (by omega)), nI_clamp (by omega)]
  have m4 : xaldi g (cH n' kc' ks' G' mu S) g.1 (nI (p + 4)) = some (.int (g.2.2.1 (p + 4))) := by rw [cH_ld h8 z2, if_pos (xin_nI (by omega) (by omega)), nI_clamp (by omega)]
  refine ⟨n', kc', ks', G', S', ?_, h3, h5, h6⟩
  simp only [x254_1026, x254_1027, x254_1028, x254_1029, x254_1030, x254_1031, x254_1032, x254_1033, x254_1034, x254_1035, x254_1036, x254_1037, x254_1038, x254_1039, x254_1040, x254_1041, x254_1042, x254_1043, x254_1045, x254_1046, x254_1047, x254_1048, x254_1049, x254_1050, x254_1051, x254_1052, x254_1055, x254_1056, x254_1057, x254_1060, x254_1061, x254_1062, x254_1063, x254_1064, x254_1065, x254_1066, x254_1067, x254_1068, x254_1069, x254_1070, x254_1071, x254_1072, x254_1073, x254_1074, x254_1075, x254_1076, x254_1077, x254_1079, x254_1080, x254_1081, x254_1082, x254_1083, x254_1084, x254_1085, x254_1086, x254_1089, x254_1090, x254_1091, x254_1094, x254_1097, x254_1098, a1, l1, m1, a2, l2, m2, a3, l3, m3, a4, l4, m4, ec, em, h1, h2, lcmp_eq0, Option.bind_some, Option.toList_some, Option.toList_none, List.cons_append, List.nil_append, Option.isSome_some, if_true, eq_self, or_true, true_or, xb_01, mcl_cl, not_true_eq_false, not_false_eq_true, if_false]
theorem q19 (hI : inv g c mu n G S) (hp : p + 7 ≤ g.2.1) (hL : g.2.1 ≤ 3584) : ∃ n' kc' ks' G' S', X g 254 1099 [.val (va_rf (some g.1)), .val (va_rf (some c)), .val (va_rf (some mu)), .val (.int (nI p))] [] (cH n kc ks G mu S) = X g 254 1458 [.val (va_rf (some g.1)), .val (va_rf (some c)), .val (va_rf (some mu)), .val (.int (nI p))] [] (cH n' kc' ks' G' mu S') ∧ inv g c mu n' G' S' ∧ kc' ≤ kc + 900 ∧ ks' ≤ ks + 9000 := by
  obtain ⟨b, ρ, hA, hp0, i3, i4, i5, i6⟩ := id hI
  have O := hA.2.2.2.2.2.2.2.2.1
  obtain ⟨d, e, hj⟩ := rA_mJ hA
  have hd := hj.1
  have h24 : d ≤ 24 := by have := hj.2.2.1; have := hj.2.2.2.1; omega
  obtain ⟨n', kc', ks', G', S', h1, h2, h3, _, h5, h6, h7, h8⟩ := both (y1 := 111) (y2 := 209) (L1 := [.val (va_rf (some c)), .val (.int (g.2.2.1 (p + 1)))]) (L2 := [.val (va_rf (some mu)), .val (.int (g.2.2.1 (p + 1)))]) (vv := .int (fStop S (g.2.2.1 (p + 1)))) (kc := kc) (ks := ks) hI (fun n' kc' ks' => ⟨_, e209 , s111 hA hp0⟩)
  have z1 := (cH_none hI (Or.inl rfl)).1
  have z2 := (cH_none hI (Or.inl rfl)).2 S
  obtain ⟨_, _, _, _, _, j4, _, _⟩ := id h3
  have ec := cH_c (n := n) (kc := kc) (ks := ks) (mu := mu) (S := S) hA.1.2.1.1
  have em := cH_m (n := n') (kc := kc') (ks := ks') (S := S) (j4 mu (by omega) (by omega))
  have a1 : nI p + 1 = nI (p + 1) := nI_add p 1
  have l1 : xaldi g (cH n kc ks G mu S) g.1 (nI (p + 1)) = some (.int (g.2.2.1 (p + 1))) := by rw [cH_ld z1 z2, if_pos (xin_nI (by omega) (by omega)), nI_clamp (by omega)]
  have m1 : xaldi g (cH n' kc' ks' G' mu S) g.1 (nI (p + 1)) = some (.int (g.2.2.1 (p + 1))) := by rw [cH_ld h8 z2, if_pos (xin_nI (by omega) (by omega)), nI_clamp (by omega)]
  refine ⟨n', kc', ks', G', S', ?_, h3, h5, h6⟩
  simp only [x254_1099, x254_1100, x254_1101, x254_1102, x254_1103, x254_1104, x254_1105, x254_1108, x254_1109, x254_1110, x254_1111, x254_1112, x254_1113, x254_1114, x254_1117, x254_1120, x254_1121, a1, l1, m1, ec, em, h1, h2, lcmp_eq0, Option.bind_some, Option.toList_some, Option.toList_none, List.cons_append, List.nil_append, Option.isSome_some, if_true, eq_self, or_true, true_or, xb_01, mcl_cl, not_true_eq_false, not_false_eq_true, if_false]
theorem q20 (hI : inv g c mu n G S) (hp : p + 7 ≤ g.2.1) (hL : g.2.1 ≤ 3584) : ∃ n' kc' ks' G' S', X g 254 1122 [.val (va_rf (some g.1)), .val (va_rf (some c)), .val (va_rf (some mu)), .val (.int (nI p))] [] (cH n kc ks G mu S) = X g 254 1458 [.val (va_rf (some g.1)), .val (va_rf (some c)), .val (va_rf (some mu)), .val (.int (nI p))] [] (cH n' kc' ks' G' mu S') ∧ inv g c mu n' G' S' ∧ kc' ≤ kc + 900 ∧ ks' ≤ ks + 9000 := by
  obtain ⟨b, ρ, hA, hp0, i3, i4, i5, i6⟩ := id hI
  have O := hA.2.2.2.2.2.2.2.2.1
  obtain ⟨d, e, hj⟩ := rA_mJ hA
  have hd := hj.1
  have h24 : d ≤ 24 := by have := hj.2.2.1; have := hj.2.2.2.1; omega
  obtain ⟨n', kc', ks', G', S', h1, h2, h3, _, h5, h6, h7, h8⟩ := both (y1 := 112) (y2 := 205) (L1 := [.val (va_rf (some c))]) (L2 := [.val (va_rf (some mu)), .unset, .unset]) (vv := .int (fUndo S ).1) (kc := kc) (ks := ks) hI (fun n' kc' ks' => ⟨_, e205 hd h24 (fun w hw => hj.2.2.2.2 w (by have := hj.2.2.1; omega)), s112' hA hp0⟩)
  have z1 := (cH_none hI (Or.inl rfl)).1
  have z2 := (cH_none hI (Or.inl rfl)).2 S
  obtain ⟨_, _, _, _, _, j4, _, _⟩ := id h3
  have ec := cH_c (n := n) (kc := kc) (ks := ks) (mu := mu) (S := S) hA.1.2.1.1
  have em := cH_m (n := n') (kc := kc') (ks := ks') (S := S) (j4 mu (by omega) (by omega))
  refine ⟨n', kc', ks', G', S', ?_, h3, h5, h6⟩
  simp only [x254_1122, x254_1123, x254_1126, x254_1127, x254_1130, x254_1133, x254_1134, ec, em, h1, h2, lcmp_eq0, Option.bind_some, Option.toList_some, Option.toList_none, List.cons_append, List.nil_append, Option.isSome_some, if_true, eq_self, or_true, true_or, xb_01, mcl_cl, not_true_eq_false, not_false_eq_true, if_false]
theorem q21 (hI : inv g c mu n G S) (hp : p + 7 ≤ g.2.1) (hL : g.2.1 ≤ 3584) : ∃ n' kc' ks' G' S', X g 254 1135 [.val (va_rf (some g.1)), .val (va_rf (some c)), .val (va_rf (some mu)), .val (.int (nI p))] [] (cH n kc ks G mu S) = X g 254 1458 [.val (va_rf (some g.1)), .val (va_rf (some c)), .val (va_rf (some mu)), .val (.int (nI p))] [] (cH n' kc' ks' G' mu S') ∧ inv g c mu n' G' S' ∧ kc' ≤ kc + 900 ∧ ks' ≤ ks + 9000 := by
  obtain ⟨b, ρ, hA, hp0, i3, i4, i5, i6⟩ := id hI
  have O := hA.2.2.2.2.2.2.2.2.1
  obtain ⟨d, e, hj⟩ := rA_mJ hA
  have hd := hj.1
  have h24 : d ≤ 24 := by have := hj.2.2.1; have := hj.2.2.2.1; omega
  obtain ⟨n', kc', ks', G', S', h1, h2, h3, _, h5, h6, h7, h8⟩ := both (y1 := 113) (y2 := 206) (L1 := [.val (va_rf (some c))]) (L2 := [.val (va_rf (some mu)), .unset, .unset]) (vv := .int (fRedo S ).1) (kc := kc) (ks := ks) hI (fun n' kc' ks' => ⟨_, e206 hj.1 hj.2.1 hj.2.2.1 hj.2.2.2.1 hj.2.2.2.2, s113 hA hp0⟩)
  have z1 := (cH_none hI (Or.inl rfl)).1
  have z2 := (cH_none hI (Or.inl rfl)).2 S
  obtain ⟨_, _, _, _, _, j4, _, _⟩ := id h3
  have ec := cH_c (n := n) (kc := kc) (ks := ks) (mu := mu) (S := S) hA.1.2.1.1
  have em := cH_m (n := n') (kc := kc') (ks := ks') (S := S) (j4 mu (by omega) (by omega))
  refine ⟨n', kc', ks', G', S', ?_, h3, h5, h6⟩
  simp only [x254_1135, x254_1136, x254_1139, x254_1140, x254_1143, x254_1146, x254_1147, ec, em, h1, h2, lcmp_eq0, Option.bind_some, Option.toList_some, Option.toList_none, List.cons_append, List.nil_append, Option.isSome_some, if_true, eq_self, or_true, true_or, xb_01, mcl_cl, not_true_eq_false, not_false_eq_true, if_false]
theorem q22 (hI : inv g c mu n G S) (hp : p + 7 ≤ g.2.1) (hL : g.2.1 ≤ 3584) : ∃ n' kc' ks' G' S', X g 254 1148 [.val (va_rf (some g.1)), .val (va_rf (some c)), .val (va_rf (some mu)), .val (.int (nI p))] [] (cH n kc ks G mu S) = X g 254 1458 [.val (va_rf (some g.1)), .val (va_rf (some c)), .val (va_rf (some mu)), .val (.int (nI p))] [] (cH n' kc' ks' G' mu S') ∧ inv g c mu n' G' S' ∧ kc' ≤ kc + 900 ∧ ks' ≤ ks + 9000 := by
  obtain ⟨b, ρ, hA, hp0, i3, i4, i5, i6⟩ := id hI
  have O := hA.2.2.2.2.2.2.2.2.1
  obtain ⟨d, e, hj⟩ := rA_mJ hA
  have hd := hj.1
  have h24 : d ≤ 24 := by have := hj.2.2.1; have := hj.2.2.2.1; omega
  obtain ⟨n', kc', ks', G', S', h1, h2, h3, _, h5, h6, h7, h8⟩ := both (y1 := 114) (y2 := 207) (L1 := [.val (va_rf (some c)), .val (.int (g.2.2.1 (p + 1))), .val (.int (g.2.2.1 (p + 2))), .unset]) (L2 := [.val (va_rf (some mu)), .val (.int (g.2.2.1 (p + 1))), .val (.int (g.2.2.1 (p + 2)))]) (vv := .int (fAct S (g.2.2.1 (p + 1)) (g.2.2.1 (p + 2)))) (kc := kc) (ks := ks) hI (fun n' kc' ks' => ⟨_, e207 hd h24 (fun w hw => hj.2.2.2.2 w (by have := hj.2.2.1; omega)), s114 hA hp0⟩)
  have z1 := (cH_none hI (Or.inl rfl)).1
  have z2 := (cH_none hI (Or.inl rfl)).2 S
  obtain ⟨_, _, _, _, _, j4, _, _⟩ := id h3
  have ec := cH_c (n := n) (kc := kc) (ks := ks) (mu := mu) (S := S) hA.1.2.1.1
  have em := cH_m (n := n') (kc := kc') (ks := ks') (S := S) (j4 mu (by omega) (by omega))
  have a1 : nI p + 1 = nI (p + 1) := nI_add p 1
  have l1 : xaldi g (cH n kc ks G mu S) g.1 (nI (p + 1)) = some (.int (g.2.2.1 (p + 1))) := by rw [cH_ld z1 z2, if_pos (xin_nI (by omega) (by omega)), nI_clamp (by omega)]
  have m1 : xaldi g (cH n' kc' ks' G' mu S) g.1 (nI (p + 1)) = some (.int (g.2.2.1 (p + 1))) := by rw [cH_ld h8 z2, if_pos (xin_nI (by omega) (by omega)), nI_clamp (by omega)]
  have a2 : nI p + 2 = nI (p + 2) := nI_add p 2
  have l2 : xaldi g (cH n kc ks G mu S) g.1 (nI (p + 2)) = some (.int (g.2.2.1 (p + 2))) := by rw [cH_ld z1 z2, if_pos (xin_nI (by omega) (by omega)), nI_clamp (by omega)]
  have m2 : xaldi g (cH n' kc' ks' G' mu S) g.1 (nI (p + 2)) = some (.int (g.2.2.1 (p + 2))) := by rw [cH_ld h8 z2, if_pos (xin_nI (by omega) (by omega)), nI_clamp (by omega)]
  refine ⟨n', kc', ks', G', S', ?_, h3, h5, h6⟩
  simp only [x254_1148, x254_1149, x254_1150, x254_1151, x254_1152, x254_1153, x254_1154, x254_1155, x254_1156, x254_1157, x254_1158, x254_1159, x254_1162, x254_1163, x254_1164, x254_1165, x254_1166, x254_1167, x254_1168, x254_1169, x254_1170, x254_1171, x254_1172, x254_1173, x254_1176, x254_1179, x254_1180, a1, l1, m1, a2, l2, m2, ec, em, h1, h2, lcmp_eq0, Option.bind_some, Option.toList_some, Option.toList_none, List.cons_append, List.nil_append, Option.isSome_some, if_true, eq_self, or_true, true_or, xb_01, mcl_cl, not_true_eq_false, not_false_eq_true, if_false]
theorem q23 (hI : inv g c mu n G S) (hp : p + 7 ≤ g.2.1) (hL : g.2.1 ≤ 3584) : ∃ n' kc' ks' G' S', X g 254 1181 [.val (va_rf (some g.1)), .val (va_rf (some c)), .val (va_rf (some mu)), .val (.int (nI p))] [] (cH n kc ks G mu S) = X g 254 1458 [.val (va_rf (some g.1)), .val (va_rf (some c)), .val (va_rf (some mu)), .val (.int (nI p))] [] (cH n' kc' ks' G' mu S') ∧ inv g c mu n' G' S' ∧ kc' ≤ kc + 900 ∧ ks' ≤ ks + 9000 := by
  obtain ⟨b, ρ, hA, hp0, i3, i4, i5, i6⟩ := id hI
  have O := hA.2.2.2.2.2.2.2.2.1
  obtain ⟨d, e, hj⟩ := rA_mJ hA
  have hd := hj.1
  have h24 : d ≤ 24 := by have := hj.2.2.1; have := hj.2.2.2.1; omega
  obtain ⟨n', kc', ks', G', S', h1, h2, h3, _, h5, h6, h7, h8⟩ := both (y1 := 115) (y2 := 216) (L1 := [.val (va_rf (some c)), .val (.int (g.2.2.1 (p + 1))), .unset, .unset, .unset]) (L2 := [.val (va_rf (some mu)), .val (.int (g.2.2.1 (p + 1))), .unset, .unset, .unset]) (vv := .int (fViews S (g.2.2.1 (p + 1)))) (kc := kc) (ks := ks) hI (fun n' kc' ks' => ⟨_, e216 , s115 hA hp0⟩)
  have z1 := (cH_none hI (Or.inl rfl)).1
  have z2 := (cH_none hI (Or.inl rfl)).2 S
  obtain ⟨_, _, _, _, _, j4, _, _⟩ := id h3
  have ec := cH_c (n := n) (kc := kc) (ks := ks) (mu := mu) (S := S) hA.1.2.1.1
  have em := cH_m (n := n') (kc := kc') (ks := ks') (S := S) (j4 mu (by omega) (by omega))
  have a1 : nI p + 1 = nI (p + 1) := nI_add p 1
  have l1 : xaldi g (cH n kc ks G mu S) g.1 (nI (p + 1)) = some (.int (g.2.2.1 (p + 1))) := by rw [cH_ld z1 z2, if_pos (xin_nI (by omega) (by omega)), nI_clamp (by omega)]
  have m1 : xaldi g (cH n' kc' ks' G' mu S) g.1 (nI (p + 1)) = some (.int (g.2.2.1 (p + 1))) := by rw [cH_ld h8 z2, if_pos (xin_nI (by omega) (by omega)), nI_clamp (by omega)]
  refine ⟨n', kc', ks', G', S', ?_, h3, h5, h6⟩
  simp only [x254_1181, x254_1182, x254_1183, x254_1184, x254_1185, x254_1186, x254_1187, x254_1190, x254_1191, x254_1192, x254_1193, x254_1194, x254_1195, x254_1196, x254_1199, x254_1202, x254_1203, a1, l1, m1, ec, em, h1, h2, lcmp_eq0, Option.bind_some, Option.toList_some, Option.toList_none, List.cons_append, List.nil_append, Option.isSome_some, if_true, eq_self, or_true, true_or, xb_01, mcl_cl, not_true_eq_false, not_false_eq_true, if_false]
theorem q24 (hI : inv g c mu n G S) (hp : p + 7 ≤ g.2.1) (hL : g.2.1 ≤ 3584) : ∃ n' kc' ks' G' S', X g 254 1204 [.val (va_rf (some g.1)), .val (va_rf (some c)), .val (va_rf (some mu)), .val (.int (nI p))] [] (cH n kc ks G mu S) = X g 254 1458 [.val (va_rf (some g.1)), .val (va_rf (some c)), .val (va_rf (some mu)), .val (.int (nI p))] [] (cH n' kc' ks' G' mu S') ∧ inv g c mu n' G' S' ∧ kc' ≤ kc + 900 ∧ ks' ≤ ks + 9000 := by
  obtain ⟨b, ρ, hA, hp0, i3, i4, i5, i6⟩ := id hI
  have O := hA.2.2.2.2.2.2.2.2.1
  obtain ⟨d, e, hj⟩ := rA_mJ hA
  have hd := hj.1
  have h24 : d ≤ 24 := by have := hj.2.2.1; have := hj.2.2.2.1; omega
  obtain ⟨n', kc', ks', G', S', h1, h2, h3, _, h5, h6, h7, h8⟩ := both (y1 := 116) (y2 := 217) (L1 := [.val (va_rf (some c)), .val (.int (g.2.2.1 (p + 1))), .val (.int (g.2.2.1 (p + 2))), .unset]) (L2 := [.val (va_rf (some mu)), .val (.int (g.2.2.1 (p + 1))), .val (.int (g.2.2.1 (p + 2))), .unset, .unset, .unset]) (vv := .int (fTakes S (g.2.2.1 (p + 1)) (g.2.2.1 (p + 2)))) (kc := kc) (ks := ks) hI (fun n' kc' ks' => ⟨_, e217 O.2.2.2.2.1, s116 hA hp0⟩)
  have z1 := (cH_none hI (Or.inl rfl)).1
  have z2 := (cH_none hI (Or.inl rfl)).2 S
  obtain ⟨_, _, _, _, _, j4, _, _⟩ := id h3
  have ec := cH_c (n := n) (kc := kc) (ks := ks) (mu := mu) (S := S) hA.1.2.1.1
  have em := cH_m (n := n') (kc := kc') (ks := ks') (S := S) (j4 mu (by omega) (by omega))
  have a1 : nI p + 1 = nI (p + 1) := nI_add p 1
  have l1 : xaldi g (cH n kc ks G mu S) g.1 (nI (p + 1)) = some (.int (g.2.2.1 (p + 1))) := by rw [cH_ld z1 z2, if_pos (xin_nI (by omega) (by omega)), nI_clamp (by omega)]
  have m1 : xaldi g (cH n' kc' ks' G' mu S) g.1 (nI (p + 1)) = some (.int (g.2.2.1 (p + 1))) := by rw [cH_ld h8 z2, if_pos (xin_nI (by omega) (by omega)), nI_clamp (by omega)]
  have a2 : nI p + 2 = nI (p + 2) := nI_add p 2
  have l2 : xaldi g (cH n kc ks G mu S) g.1 (nI (p + 2)) = some (.int (g.2.2.1 (p + 2))) := by rw [cH_ld z1 z2, if_pos (xin_nI (by omega) (by omega)), nI_clamp (by omega)]
  have m2 : xaldi g (cH n' kc' ks' G' mu S) g.1 (nI (p + 2)) = some (.int (g.2.2.1 (p + 2))) := by rw [cH_ld h8 z2, if_pos (xin_nI (by omega) (by omega)), nI_clamp (by omega)]
  refine ⟨n', kc', ks', G', S', ?_, h3, h5, h6⟩
  simp only [x254_1204, x254_1205, x254_1206, x254_1207, x254_1208, x254_1209, x254_1210, x254_1211, x254_1212, x254_1213, x254_1214, x254_1215, x254_1218, x254_1219, x254_1220, x254_1221, x254_1222, x254_1223, x254_1224, x254_1225, x254_1226, x254_1227, x254_1228, x254_1229, x254_1232, x254_1235, x254_1236, a1, l1, m1, a2, l2, m2, ec, em, h1, h2, lcmp_eq0, Option.bind_some, Option.toList_some, Option.toList_none, List.cons_append, List.nil_append, Option.isSome_some, if_true, eq_self, or_true, true_or, xb_01, mcl_cl, not_true_eq_false, not_false_eq_true, if_false]
theorem q25 (hI : inv g c mu n G S) (hp : p + 7 ≤ g.2.1) (hL : g.2.1 ≤ 3584) : ∃ n' kc' ks' G' S', X g 254 1237 [.val (va_rf (some g.1)), .val (va_rf (some c)), .val (va_rf (some mu)), .val (.int (nI p))] [] (cH n kc ks G mu S) = X g 254 1458 [.val (va_rf (some g.1)), .val (va_rf (some c)), .val (va_rf (some mu)), .val (.int (nI p))] [] (cH n' kc' ks' G' mu S') ∧ inv g c mu n' G' S' ∧ kc' ≤ kc + 900 ∧ ks' ≤ ks + 9000 := by
  obtain ⟨b, ρ, hA, hp0, i3, i4, i5, i6⟩ := id hI
  have O := hA.2.2.2.2.2.2.2.2.1
  obtain ⟨d, e, hj⟩ := rA_mJ hA
  have hd := hj.1
  have h24 : d ≤ 24 := by have := hj.2.2.1; have := hj.2.2.2.1; omega
  obtain ⟨n', kc', ks', G', S', h1, h2, h3, _, h5, h6, h7, h8⟩ := both (y1 := 117) (y2 := 218) (L1 := [.val (va_rf (some c)), .val (.int (g.2.2.1 (p + 1))), .val (.int (g.2.2.1 (p + 2))), .unset, .unset, .unset, .unset, .unset, .unset, .unset]) (L2 := [.val (va_rf (some mu)), .val (.int (g.2.2.1 (p + 1))), .val (.int (g.2.2.1 (p + 2))), .unset, .unset, .unset, .unset, .unset, .unset]) (vv := .int (fExact S (g.2.2.1 (p + 1)) (g.2.2.1 (p + 2)))) (kc := kc) (ks := ks) hI (fun n' kc' ks' => ⟨_, e218 O.1 O.2.1 O.2.2.1, s117 hA hp0⟩)
  have z1 := (cH_none hI (Or.inl rfl)).1
  have z2 := (cH_none hI (Or.inl rfl)).2 S
  obtain ⟨_, _, _, _, _, j4, _, _⟩ := id h3
  have ec := cH_c (n := n) (kc := kc) (ks := ks) (mu := mu) (S := S) hA.1.2.1.1
  have em := cH_m (n := n') (kc := kc') (ks := ks') (S := S) (j4 mu (by omega) (by omega))
  have a1 : nI p + 1 = nI (p + 1) := nI_add p 1
  have l1 : xaldi g (cH n kc ks G mu S) g.1 (nI (p + 1)) = some (.int (g.2.2.1 (p + 1))) := by rw [cH_ld z1 z2, if_pos (xin_nI (by omega) (by omega)), nI_clamp (by omega)]
  have m1 : xaldi g (cH n' kc' ks' G' mu S) g.1 (nI (p + 1)) = some (.int (g.2.2.1 (p + 1))) := by rw [cH_ld h8 z2, if_pos (xin_nI (by omega) (by omega)), nI_clamp (by omega)]
  have a2 : nI p + 2 = nI (p + 2) := nI_add p 2
  have l2 : xaldi g (cH n kc ks G mu S) g.1 (nI (p + 2)) = some (.int (g.2.2.1 (p + 2))) := by rw [cH_ld z1 z2, if_pos (xin_nI (by omega) (by omega)), nI_clamp (by omega)]
  have m2 : xaldi g (cH n' kc' ks' G' mu S) g.1 (nI (p + 2)) = some (.int (g.2.2.1 (p + 2))) := by rw [cH_ld h8 z2, if_pos (xin_nI (by omega) (by omega)), nI_clamp (by omega)]
  refine ⟨n', kc', ks', G', S', ?_, h3, h5, h6⟩
  simp only [x254_1237, x254_1238, x254_1239, x254_1240, x254_1241, x254_1242, x254_1243, x254_1244, x254_1245, x254_1246, x254_1247, x254_1248, x254_1251, x254_1252, x254_1253, x254_1254, x254_1255, x254_1256, x254_1257, x254_1258, x254_1259, x254_1260, x254_1261, x254_1262, x254_1265, x254_1268, x254_1269, a1, l1, m1, a2, l2, m2, ec, em, h1, h2, lcmp_eq0, Option.bind_some, Option.toList_some, Option.toList_none, List.cons_append, List.nil_append, Option.isSome_some, if_true, eq_self, or_true, true_or, xb_01, mcl_cl, not_true_eq_false, not_false_eq_true, if_false]
theorem q26 (hI : inv g c mu n G S) (hp : p + 7 ≤ g.2.1) (hL : g.2.1 ≤ 3584) : ∃ n' kc' ks' G' S', X g 254 1270 [.val (va_rf (some g.1)), .val (va_rf (some c)), .val (va_rf (some mu)), .val (.int (nI p))] [] (cH n kc ks G mu S) = X g 254 1458 [.val (va_rf (some g.1)), .val (va_rf (some c)), .val (va_rf (some mu)), .val (.int (nI p))] [] (cH n' kc' ks' G' mu S') ∧ inv g c mu n' G' S' ∧ kc' ≤ kc + 900 ∧ ks' ≤ ks + 9000 := by
  obtain ⟨b, ρ, hA, hp0, i3, i4, i5, i6⟩ := id hI
  have O := hA.2.2.2.2.2.2.2.2.1
  obtain ⟨d, e, hj⟩ := rA_mJ hA
  have hd := hj.1
  have h24 : d ≤ 24 := by have := hj.2.2.1; have := hj.2.2.2.1; omega
  obtain ⟨n', kc', ks', G', S', h1, h2, h3, _, h5, h6, h7, h8⟩ := both (y1 := 118) (y2 := 219) (L1 := [.val (va_rf (some c)), .val (.int (g.2.2.1 (p + 1))), .val (.int (g.2.2.1 (p + 2))), .unset, .unset]) (L2 := [.val (va_rf (some mu)), .val (.int (g.2.2.1 (p + 1))), .val (.int (g.2.2.1 (p + 2))), .unset, .unset, .unset]) (vv := .int (fAlike S (g.2.2.1 (p + 1)) (g.2.2.1 (p + 2)))) (kc := kc) (ks := ks) hI (fun n' kc' ks' => ⟨_, e219 O.1 O.2.1, s118 hA hp0⟩)
  have z1 := (cH_none hI (Or.inl rfl)).1
  have z2 := (cH_none hI (Or.inl rfl)).2 S
  obtain ⟨_, _, _, _, _, j4, _, _⟩ := id h3
  have ec := cH_c (n := n) (kc := kc) (ks := ks) (mu := mu) (S := S) hA.1.2.1.1
  have em := cH_m (n := n') (kc := kc') (ks := ks') (S := S) (j4 mu (by omega) (by omega))
  have a1 : nI p + 1 = nI (p + 1) := nI_add p 1
  have l1 : xaldi g (cH n kc ks G mu S) g.1 (nI (p + 1)) = some (.int (g.2.2.1 (p + 1))) := by rw [cH_ld z1 z2, if_pos (xin_nI (by omega) (by omega)), nI_clamp (by omega)]
  have m1 : xaldi g (cH n' kc' ks' G' mu S) g.1 (nI (p + 1)) = some (.int (g.2.2.1 (p + 1))) := by rw [cH_ld h8 z2, if_pos (xin_nI (by omega) (by omega)), nI_clamp (by omega)]
  have a2 : nI p + 2 = nI (p + 2) := nI_add p 2
  have l2 : xaldi g (cH n kc ks G mu S) g.1 (nI (p + 2)) = some (.int (g.2.2.1 (p + 2))) := by rw [cH_ld z1 z2, if_pos (xin_nI (by omega) (by omega)), nI_clamp (by omega)]
  have m2 : xaldi g (cH n' kc' ks' G' mu S) g.1 (nI (p + 2)) = some (.int (g.2.2.1 (p + 2))) := by rw [cH_ld h8 z2, if_pos (xin_nI (by omega) (by omega)), nI_clamp (by omega)]
  refine ⟨n', kc', ks', G', S', ?_, h3, h5, h6⟩
  simp only [x254_1270, x254_1271, x254_1272, x254_1273, x254_1274, x254_1275, x254_1276, x254_1277, x254_1278, x254_1279, x254_1280, x254_1281, x254_1284, x254_1285, x254_1286, x254_1287, x254_1288, x254_1289, x254_1290, x254_1291, x254_1292, x254_1293, x254_1294, x254_1295, x254_1298, x254_1301, x254_1302, a1, l1, m1, a2, l2, m2, ec, em, h1, h2, lcmp_eq0, Option.bind_some, Option.toList_some, Option.toList_none, List.cons_append, List.nil_append, Option.isSome_some, if_true, eq_self, or_true, true_or, xb_01, mcl_cl, not_true_eq_false, not_false_eq_true, if_false]
theorem q27 (hI : inv g c mu n G S) (hp : p + 7 ≤ g.2.1) (hL : g.2.1 ≤ 3584) : ∃ n' kc' ks' G' S', X g 254 1303 [.val (va_rf (some g.1)), .val (va_rf (some c)), .val (va_rf (some mu)), .val (.int (nI p))] [] (cH n kc ks G mu S) = X g 254 1458 [.val (va_rf (some g.1)), .val (va_rf (some c)), .val (va_rf (some mu)), .val (.int (nI p))] [] (cH n' kc' ks' G' mu S') ∧ inv g c mu n' G' S' ∧ kc' ≤ kc + 900 ∧ ks' ≤ ks + 9000 := by
  obtain ⟨b, ρ, hA, hp0, i3, i4, i5, i6⟩ := id hI
  have O := hA.2.2.2.2.2.2.2.2.1
  obtain ⟨d, e, hj⟩ := rA_mJ hA
  have hd := hj.1
  have h24 : d ≤ 24 := by have := hj.2.2.1; have := hj.2.2.2.1; omega
  obtain ⟨n', kc', ks', G', S', h1, h2, h3, _, h5, h6, h7, h8⟩ := both (y1 := 119) (y2 := 221) (L1 := [.val (va_rf (some c)), .val (.int (g.2.2.1 (p + 1))), .unset, .unset, .unset]) (L2 := [.val (va_rf (some mu)), .val (.int (g.2.2.1 (p + 1))), .unset, .unset, .unset]) (vv := .long (fDig S (g.2.2.1 (p + 1)))) (kc := kc) (ks := ks) hI (fun n' kc' ks' => ⟨_, e221 O.1, s119 hA hp0⟩)
  have z1 := (cH_none hI (Or.inl rfl)).1
  have z2 := (cH_none hI (Or.inl rfl)).2 S
  obtain ⟨_, _, _, _, _, j4, _, _⟩ := id h3
  have ec := cH_c (n := n) (kc := kc) (ks := ks) (mu := mu) (S := S) hA.1.2.1.1
  have em := cH_m (n := n') (kc := kc') (ks := ks') (S := S) (j4 mu (by omega) (by omega))
  have a1 : nI p + 1 = nI (p + 1) := nI_add p 1
  have l1 : xaldi g (cH n kc ks G mu S) g.1 (nI (p + 1)) = some (.int (g.2.2.1 (p + 1))) := by rw [cH_ld z1 z2, if_pos (xin_nI (by omega) (by omega)), nI_clamp (by omega)]
  have m1 : xaldi g (cH n' kc' ks' G' mu S) g.1 (nI (p + 1)) = some (.int (g.2.2.1 (p + 1))) := by rw [cH_ld h8 z2, if_pos (xin_nI (by omega) (by omega)), nI_clamp (by omega)]
  refine ⟨n', kc', ks', G', S', ?_, h3, h5, h6⟩
  simp only [x254_1303, x254_1304, x254_1305, x254_1306, x254_1307, x254_1308, x254_1309, x254_1312, x254_1313, x254_1314, x254_1315, x254_1316, x254_1317, x254_1318, x254_1321, x254_1322, x254_1325, x254_1326, a1, l1, m1, ec, em, h1, h2, lcmp_eq0, Option.bind_some, Option.toList_some, Option.toList_none, List.cons_append, List.nil_append, Option.isSome_some, if_true, eq_self, or_true, true_or, xb_01, mcl_cl, not_true_eq_false, not_false_eq_true, if_false]
theorem q28 (hI : inv g c mu n G S) (hp : p + 7 ≤ g.2.1) (hL : g.2.1 ≤ 3584) : ∃ n' kc' ks' G' S', X g 254 1327 [.val (va_rf (some g.1)), .val (va_rf (some c)), .val (va_rf (some mu)), .val (.int (nI p))] [] (cH n kc ks G mu S) = X g 254 1458 [.val (va_rf (some g.1)), .val (va_rf (some c)), .val (va_rf (some mu)), .val (.int (nI p))] [] (cH n' kc' ks' G' mu S') ∧ inv g c mu n' G' S' ∧ kc' ≤ kc + 900 ∧ ks' ≤ ks + 9000 := by
  obtain ⟨b, ρ, hA, hp0, i3, i4, i5, i6⟩ := id hI
  have O := hA.2.2.2.2.2.2.2.2.1
  obtain ⟨d, e, hj⟩ := rA_mJ hA
  have hd := hj.1
  have h24 : d ≤ 24 := by have := hj.2.2.1; have := hj.2.2.2.1; omega
  obtain ⟨n', kc', ks', G', S', h1, h2, h3, _, h5, h6, h7, h8⟩ := both (y1 := 120) (y2 := 224) (L1 := [.val (va_rf (some c)), .val (.int (g.2.2.1 (p + 1))), .unset]) (L2 := [.val (va_rf (some mu)), .val (.int (g.2.2.1 (p + 1))), .unset, .unset, .unset]) (vv := .int (fSpell S (g.2.2.1 (p + 1))).1) (kc := kc) (ks := ks) hI (fun n' kc' ks' => by
    obtain ⟨x1, h⟩ := e224 (g := g) (n := n') (kc := kc') (ks := ks') (mu := mu) O.1 O.2.2.2.2.1 hA.2.2.2.2.2.2.2.2.2.2.2.2.1
    exact ⟨_, h, sim_ev (s120 hA hp0) mFg_ev⟩)
  have z1 := (cH_none hI (Or.inl rfl)).1
  have z2 := (cH_none hI (Or.inl rfl)).2 S
  obtain ⟨_, _, _, _, _, j4, _, _⟩ := id h3
  have ec := cH_c (n := n) (kc := kc) (ks := ks) (mu := mu) (S := S) hA.1.2.1.1
  have em := cH_m (n := n') (kc := kc') (ks := ks') (S := S) (j4 mu (by omega) (by omega))
  have a1 : nI p + 1 = nI (p + 1) := nI_add p 1
  have l1 : xaldi g (cH n kc ks G mu S) g.1 (nI (p + 1)) = some (.int (g.2.2.1 (p + 1))) := by rw [cH_ld z1 z2, if_pos (xin_nI (by omega) (by omega)), nI_clamp (by omega)]
  have m1 : xaldi g (cH n' kc' ks' G' mu S) g.1 (nI (p + 1)) = some (.int (g.2.2.1 (p + 1))) := by rw [cH_ld h8 z2, if_pos (xin_nI (by omega) (by omega)), nI_clamp (by omega)]
  refine ⟨n', kc', ks', G', S', ?_, h3, h5, h6⟩
  simp only [x254_1327, x254_1328, x254_1329, x254_1330, x254_1331, x254_1332, x254_1333, x254_1336, x254_1337, x254_1338, x254_1339, x254_1340, x254_1341, x254_1342, x254_1345, x254_1348, x254_1349, a1, l1, m1, ec, em, h1, h2, lcmp_eq0, Option.bind_some, Option.toList_some, Option.toList_none, List.cons_append, List.nil_append, Option.isSome_some, if_true, eq_self, or_true, true_or, xb_01, mcl_cl, not_true_eq_false, not_false_eq_true, if_false]
theorem q29 (hI : inv g c mu n G S) (hp : p + 7 ≤ g.2.1) (hL : g.2.1 ≤ 3584) : ∃ n' kc' ks' G' S', X g 254 1350 [.val (va_rf (some g.1)), .val (va_rf (some c)), .val (va_rf (some mu)), .val (.int (nI p))] [] (cH n kc ks G mu S) = X g 254 1458 [.val (va_rf (some g.1)), .val (va_rf (some c)), .val (va_rf (some mu)), .val (.int (nI p))] [] (cH n' kc' ks' G' mu S') ∧ inv g c mu n' G' S' ∧ kc' ≤ kc + 900 ∧ ks' ≤ ks + 9000 := by
  obtain ⟨b, ρ, hA, hp0, i3, i4, i5, i6⟩ := id hI
  have O := hA.2.2.2.2.2.2.2.2.1
  obtain ⟨d, e, hj⟩ := rA_mJ hA
  have hd := hj.1
  have h24 : d ≤ 24 := by have := hj.2.2.1; have := hj.2.2.2.1; omega
  obtain ⟨l30, l31, l32⟩ := hA.2.2.2.2.2.2.2.2.2.2.2.1
  have p0 : 0 ≤ (S.1 30).toInt := by rw [l31, nI_toInt (by omega)]; omega
  have p8 : (S.1 30).toInt ≤ 800 := by rw [l31, nI_toInt (by omega)]; omega
  obtain ⟨n', kc', ks', G', S', h1, h2, h3, _, h5, h6, h7, h8⟩ := both (y1 := 121) (y2 := 225) (L1 := [.val (va_rf (some c)), .val (.int (g.2.2.1 (p + 1)))]) (L2 := [.val (va_rf (some mu)), .val (.int (g.2.2.1 (p + 1)))]) (vv := .int (fPaper S (g.2.2.1 (p + 1)))) (kc := kc) (ks := ks) hI (fun n' kc' ks' => ⟨_, e225 p0 p8, s121 hA hp0⟩)
  have z1 := (cH_none hI (Or.inl rfl)).1
  have z2 := (cH_none hI (Or.inl rfl)).2 S
  obtain ⟨_, _, _, _, _, j4, _, _⟩ := id h3
  have ec := cH_c (n := n) (kc := kc) (ks := ks) (mu := mu) (S := S) hA.1.2.1.1
  have em := cH_m (n := n') (kc := kc') (ks := ks') (S := S) (j4 mu (by omega) (by omega))
  have a1 : nI p + 1 = nI (p + 1) := nI_add p 1
  have l1 : xaldi g (cH n kc ks G mu S) g.1 (nI (p + 1)) = some (.int (g.2.2.1 (p + 1))) := by rw [cH_ld z1 z2, if_pos (xin_nI (by omega) (by omega)), nI_clamp (by omega)]
  have m1 : xaldi g (cH n' kc' ks' G' mu S) g.1 (nI (p + 1)) = some (.int (g.2.2.1 (p + 1))) := by rw [cH_ld h8 z2, if_pos (xin_nI (by omega) (by omega)), nI_clamp (by omega)]
  refine ⟨n', kc', ks', G', S', ?_, h3, h5, h6⟩
  simp only [x254_1350, x254_1351, x254_1352, x254_1353, x254_1354, x254_1355, x254_1356, x254_1359, x254_1360, x254_1361, x254_1362, x254_1363, x254_1364, x254_1365, x254_1368, x254_1371, x254_1372, a1, l1, m1, ec, em, h1, h2, lcmp_eq0, Option.bind_some, Option.toList_some, Option.toList_none, List.cons_append, List.nil_append, Option.isSome_some, if_true, eq_self, or_true, true_or, xb_01, mcl_cl, not_true_eq_false, not_false_eq_true, if_false]
theorem q30 (hI : inv g c mu n G S) (hp : p + 7 ≤ g.2.1) (hL : g.2.1 ≤ 3584) : ∃ n' kc' ks' G' S', X g 254 1373 [.val (va_rf (some g.1)), .val (va_rf (some c)), .val (va_rf (some mu)), .val (.int (nI p))] [] (cH n kc ks G mu S) = X g 254 1458 [.val (va_rf (some g.1)), .val (va_rf (some c)), .val (va_rf (some mu)), .val (.int (nI p))] [] (cH n' kc' ks' G' mu S') ∧ inv g c mu n' G' S' ∧ kc' ≤ kc + 900 ∧ ks' ≤ ks + 9000 := by
  obtain ⟨b, ρ, hA, hp0, i3, i4, i5, i6⟩ := id hI
  have O := hA.2.2.2.2.2.2.2.2.1
  obtain ⟨d, e, hj⟩ := rA_mJ hA
  have hd := hj.1
  have h24 : d ≤ 24 := by have := hj.2.2.1; have := hj.2.2.2.1; omega
  obtain ⟨l34, l1, l2, _⟩ := hA.2.2.2.2.2.2.2.2.2.2.1
  obtain ⟨n', kc', ks', G', S', h1, h2, h3, _, h5, h6, h7, h8⟩ := both (y1 := 122) (y2 := 226) (L1 := [.val (va_rf (some c)), .val (.int (g.2.2.1 (p + 1)))]) (L2 := [.val (va_rf (some mu)), .val (.int (g.2.2.1 (p + 1)))]) (vv := .int (fFeed S (g.2.2.1 (p + 1))).1) (kc := kc) (ks := ks) hI (fun n' kc' ks' => ⟨_, e226 l1 l2, s122 hA hp0⟩)
  have z1 := (cH_none hI (Or.inl rfl)).1
  have z2 := (cH_none hI (Or.inl rfl)).2 S
  obtain ⟨_, _, _, _, _, j4, _, _⟩ := id h3
  have ec := cH_c (n := n) (kc := kc) (ks := ks) (mu := mu) (S := S) hA.1.2.1.1
  have em := cH_m (n := n') (kc := kc') (ks := ks') (S := S) (j4 mu (by omega) (by omega))
  have a1 : nI p + 1 = nI (p + 1) := nI_add p 1
  have l1 : xaldi g (cH n kc ks G mu S) g.1 (nI (p + 1)) = some (.int (g.2.2.1 (p + 1))) := by rw [cH_ld z1 z2, if_pos (xin_nI (by omega) (by omega)), nI_clamp (by omega)]
  have m1 : xaldi g (cH n' kc' ks' G' mu S) g.1 (nI (p + 1)) = some (.int (g.2.2.1 (p + 1))) := by rw [cH_ld h8 z2, if_pos (xin_nI (by omega) (by omega)), nI_clamp (by omega)]
  refine ⟨n', kc', ks', G', S', ?_, h3, h5, h6⟩
  simp only [x254_1373, x254_1374, x254_1375, x254_1376, x254_1377, x254_1378, x254_1379, x254_1382, x254_1383, x254_1384, x254_1385, x254_1386, x254_1387, x254_1388, x254_1391, x254_1394, x254_1395, a1, l1, m1, ec, em, h1, h2, lcmp_eq0, Option.bind_some, Option.toList_some, Option.toList_none, List.cons_append, List.nil_append, Option.isSome_some, if_true, eq_self, or_true, true_or, xb_01, mcl_cl, not_true_eq_false, not_false_eq_true, if_false]
theorem q31 (hI : inv g c mu n G S) (hp : p + 7 ≤ g.2.1) (hL : g.2.1 ≤ 3584) : ∃ n' kc' ks' G' S', X g 254 1396 [.val (va_rf (some g.1)), .val (va_rf (some c)), .val (va_rf (some mu)), .val (.int (nI p))] [] (cH n kc ks G mu S) = X g 254 1458 [.val (va_rf (some g.1)), .val (va_rf (some c)), .val (va_rf (some mu)), .val (.int (nI p))] [] (cH n' kc' ks' G' mu S') ∧ inv g c mu n' G' S' ∧ kc' ≤ kc + 900 ∧ ks' ≤ ks + 9000 := by
  obtain ⟨b, ρ, hA, hp0, i3, i4, i5, i6⟩ := id hI
  have O := hA.2.2.2.2.2.2.2.2.1
  obtain ⟨d, e, hj⟩ := rA_mJ hA
  have hd := hj.1
  have h24 : d ≤ 24 := by have := hj.2.2.1; have := hj.2.2.2.1; omega
  obtain ⟨l34, l1, l2, _⟩ := hA.2.2.2.2.2.2.2.2.2.2.1
  obtain ⟨n', kc', ks', G', S', h1, h2, h3, _, h5, h6, h7, h8⟩ := both (y1 := 123) (y2 := 238) (L1 := [.val (va_rf (some c)), .unset, .unset, .unset, .unset]) (L2 := [.val (va_rf (some mu)), .unset, .unset, .unset]) (vv := .int (fRun S ).1) (kc := kc) (ks := ks) hI (fun n' kc' ks' => by
    obtain ⟨x1, x2, h⟩ := e238 (g := g) (n := n') (kc := kc') (ks := ks') (mu := mu) hd h24 O l1 l2
    exact ⟨_, h, sim_ev (s123 hA hp0) mIs_ev⟩)
  have z1 := (cH_none hI (Or.inl rfl)).1
  have z2 := (cH_none hI (Or.inl rfl)).2 S
  obtain ⟨_, _, _, _, _, j4, _, _⟩ := id h3
  have ec := cH_c (n := n) (kc := kc) (ks := ks) (mu := mu) (S := S) hA.1.2.1.1
  have em := cH_m (n := n') (kc := kc') (ks := ks') (S := S) (j4 mu (by omega) (by omega))
  refine ⟨n', kc', ks', G', S', ?_, h3, h5, h6⟩
  simp only [x254_1396, x254_1397, x254_1400, x254_1401, x254_1404, x254_1407, x254_1408, ec, em, h1, h2, lcmp_eq0, Option.bind_some, Option.toList_some, Option.toList_none, List.cons_append, List.nil_append, Option.isSome_some, if_true, eq_self, or_true, true_or, xb_01, mcl_cl, not_true_eq_false, not_false_eq_true, if_false]
theorem q32 (hI : inv g c mu n G S) (hp : p + 7 ≤ g.2.1) (hL : g.2.1 ≤ 3584) : ∃ n' kc' ks' G' S', X g 254 1409 [.val (va_rf (some g.1)), .val (va_rf (some c)), .val (va_rf (some mu)), .val (.int (nI p))] [] (cH n kc ks G mu S) = X g 254 1458 [.val (va_rf (some g.1)), .val (va_rf (some c)), .val (va_rf (some mu)), .val (.int (nI p))] [] (cH n' kc' ks' G' mu S') ∧ inv g c mu n' G' S' ∧ kc' ≤ kc + 900 ∧ ks' ≤ ks + 9000 := by
  obtain ⟨b, ρ, hA, hp0, i3, i4, i5, i6⟩ := id hI
  have O := hA.2.2.2.2.2.2.2.2.1
  obtain ⟨d, e, hj⟩ := rA_mJ hA
  have hd := hj.1
  have h24 : d ≤ 24 := by have := hj.2.2.1; have := hj.2.2.2.1; omega
  obtain ⟨n', kc', ks', G', S', h1, h2, h3, _, h5, h6, h7, h8⟩ := both (y1 := 124) (y2 := 241) (L1 := [.val (va_rf (some c))]) (L2 := [.val (va_rf (some mu)), .unset]) (vv := .int (nI (sRows S))) (kc := kc) (ks := ks) hI (fun n' kc' ks' => ⟨_, e241 , s124 hA hp0⟩)
  have z1 := (cH_none hI (Or.inl rfl)).1
  have z2 := (cH_none hI (Or.inl rfl)).2 S
  obtain ⟨_, _, _, _, _, j4, _, _⟩ := id h3
  have ec := cH_c (n := n) (kc := kc) (ks := ks) (mu := mu) (S := S) hA.1.2.1.1
  have em := cH_m (n := n') (kc := kc') (ks := ks') (S := S) (j4 mu (by omega) (by omega))
  refine ⟨n', kc', ks', G', S', ?_, h3, h5, h6⟩
  simp only [x254_1409, x254_1410, x254_1413, x254_1414, x254_1417, x254_1420, x254_1421, ec, em, h1, h2, lcmp_eq0, Option.bind_some, Option.toList_some, Option.toList_none, List.cons_append, List.nil_append, Option.isSome_some, if_true, eq_self, or_true, true_or, xb_01, mcl_cl, not_true_eq_false, not_false_eq_true, if_false]
theorem q33 (hI : inv g c mu n G S) (hp : p + 7 ≤ g.2.1) (hL : g.2.1 ≤ 3584) : ∃ n' kc' ks' G' S', X g 254 1422 [.val (va_rf (some g.1)), .val (va_rf (some c)), .val (va_rf (some mu)), .val (.int (nI p))] [] (cH n kc ks G mu S) = X g 254 1458 [.val (va_rf (some g.1)), .val (va_rf (some c)), .val (va_rf (some mu)), .val (.int (nI p))] [] (cH n' kc' ks' G' mu S') ∧ inv g c mu n' G' S' ∧ kc' ≤ kc + 900 ∧ ks' ≤ ks + 9000 := by
  obtain ⟨b, ρ, hA, hp0, i3, i4, i5, i6⟩ := id hI
  have O := hA.2.2.2.2.2.2.2.2.1
  obtain ⟨d, e, hj⟩ := rA_mJ hA
  have hd := hj.1
  have h24 : d ≤ 24 := by have := hj.2.2.1; have := hj.2.2.2.1; omega
  obtain ⟨n', kc', ks', G', S', h1, h2, h3, _, h5, h6, h7, h8⟩ := both (y1 := 125) (y2 := 242) (L1 := [.val (va_rf (some c))]) (L2 := [.val (va_rf (some mu)), .unset]) (vv := .int (fBack S ).1) (kc := kc) (ks := ks) hI (fun n' kc' ks' => ⟨_, e242 , s125 hA hp0⟩)
  have z1 := (cH_none hI (Or.inl rfl)).1
  have z2 := (cH_none hI (Or.inl rfl)).2 S
  obtain ⟨_, _, _, _, _, j4, _, _⟩ := id h3
  have ec := cH_c (n := n) (kc := kc) (ks := ks) (mu := mu) (S := S) hA.1.2.1.1
  have em := cH_m (n := n') (kc := kc') (ks := ks') (S := S) (j4 mu (by omega) (by omega))
  refine ⟨n', kc', ks', G', S', ?_, h3, h5, h6⟩
  simp only [x254_1422, x254_1423, x254_1426, x254_1427, x254_1430, x254_1433, x254_1434, ec, em, h1, h2, lcmp_eq0, Option.bind_some, Option.toList_some, Option.toList_none, List.cons_append, List.nil_append, Option.isSome_some, if_true, eq_self, or_true, true_or, xb_01, mcl_cl, not_true_eq_false, not_false_eq_true, if_false]
theorem q34 (hI : inv g c mu n G S) (hp : p + 7 ≤ g.2.1) (hL : g.2.1 ≤ 3584) : ∃ n' kc' ks' G' S', X g 254 1435 [.val (va_rf (some g.1)), .val (va_rf (some c)), .val (va_rf (some mu)), .val (.int (nI p))] [] (cH n kc ks G mu S) = X g 254 1458 [.val (va_rf (some g.1)), .val (va_rf (some c)), .val (va_rf (some mu)), .val (.int (nI p))] [] (cH n' kc' ks' G' mu S') ∧ inv g c mu n' G' S' ∧ kc' ≤ kc + 900 ∧ ks' ≤ ks + 9000 := by
  obtain ⟨b, ρ, hA, hp0, i3, i4, i5, i6⟩ := id hI
  have O := hA.2.2.2.2.2.2.2.2.1
  obtain ⟨d, e, hj⟩ := rA_mJ hA
  have hd := hj.1
  have h24 : d ≤ 24 := by have := hj.2.2.1; have := hj.2.2.2.1; omega
  obtain ⟨n', kc', ks', G', S', h1, h2, h3, _, h5, h6, h7, h8⟩ := both (y1 := 126) (y2 := 245) (L1 := [.val (va_rf (some c)), .val (.int (g.2.2.1 (p + 1)))]) (L2 := [.val (va_rf (some mu)), .val (.int (g.2.2.1 (p + 1)))]) (vv := .int (fCount S (g.2.2.1 (p + 1)))) (kc := kc) (ks := ks) hI (fun n' kc' ks' => ⟨_, e245 , s126 hA hp0⟩)
  have z1 := (cH_none hI (Or.inl rfl)).1
  have z2 := (cH_none hI (Or.inl rfl)).2 S
  obtain ⟨_, _, _, _, _, j4, _, _⟩ := id h3
  have ec := cH_c (n := n) (kc := kc) (ks := ks) (mu := mu) (S := S) hA.1.2.1.1
  have em := cH_m (n := n') (kc := kc') (ks := ks') (S := S) (j4 mu (by omega) (by omega))
  have a1 : nI p + 1 = nI (p + 1) := nI_add p 1
  have l1 : xaldi g (cH n kc ks G mu S) g.1 (nI (p + 1)) = some (.int (g.2.2.1 (p + 1))) := by rw [cH_ld z1 z2, if_pos (xin_nI (by omega) (by omega)), nI_clamp (by omega)]
  have m1 : xaldi g (cH n' kc' ks' G' mu S) g.1 (nI (p + 1)) = some (.int (g.2.2.1 (p + 1))) := by rw [cH_ld h8 z2, if_pos (xin_nI (by omega) (by omega)), nI_clamp (by omega)]
  refine ⟨n', kc', ks', G', S', ?_, h3, h5, h6⟩
  simp only [x254_1435, x254_1436, x254_1437, x254_1438, x254_1439, x254_1440, x254_1441, x254_1444, x254_1445, x254_1446, x254_1447, x254_1448, x254_1449, x254_1450, x254_1453, x254_1456, x254_1457, a1, l1, m1, ec, em, h1, h2, lcmp_eq0, Option.bind_some, Option.toList_some, Option.toList_none, List.cons_append, List.nil_append, Option.isSome_some, if_true, eq_self, or_true, true_or, xb_01, mcl_cl, not_true_eq_false, not_false_eq_true, if_false]
end K61
