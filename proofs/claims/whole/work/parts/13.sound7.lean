/-! SOUND, 7: natives, the String's two methods, and the run as a whole -/
def xStrM (l : Launch) (D : va_G) (ar : Nat → ClassId) (N0 : Nat) (g : xG) : Prop :=
  (∀ h : xH, Met l ⟨"java/lang/String", "length", "()I"⟩ (Cond.code ⟨"java/lang/String", "length", "()I"⟩ prog_19_method_54_code 1 (some .int) :: xws) { frames := 1, cells := 0, slots := 0, locals := 20 } (xPc D ar N0 g [.ref g.2.2.2.2] h) (xQc D ar N0 (some (.int 10), h)) 0 0 (xA N0)) ∧
  ∀ (h : xH) (j : Int32), ¬ (j < 0 ∨ 10 ≤ j.toNatClampNeg) → Met l ⟨"java/lang/String", "charAt", "(I)C"⟩ (Cond.code ⟨"java/lang/String", "charAt", "(I)C"⟩ prog_19_method_56_code 2 (some .char) :: xws) { frames := 3, cells := 0, slots := 0, locals := 64 } (xPc D ar N0 g [.ref g.2.2.2.2, .int j] h) (xQc D ar N0 (some (.int (xlet j.toNatClampNeg)), h)) 0 0 (xA N0)
section XS7
variable {p : Program} {l : Launch} {e : Env} {R : Room} {s : State} {m : MethodId} {args : Array Value} {below : List Frame} {meth : Method} {c : Code} {H : Heap} {locs : List Loc} {cells slots : Nat} {Q : State → Prop}
variable {cc : ByteArray} {pc len fr lo cn : Nat} {ls : Array Slot} {st st' : List Value} {D : va_G} {ar : Nat → ClassId} {N0 : Nat} {g : xG} {h : xH}
set_option maxHeartbeats 1000000 in
theorem xnat_ok {i : Instr} (hx : p.tables.exec = Jvm.exec) (hb : c.code = cc) (hml : c.maxLocals = ls.size) (hts : ∀ w ∈ xws, w.before args s = true) (hown : s.vm.findClass (xcn cn) = some m.cls) (hC : xCx D ar N0 g s) (hR : xHR D ar N0 h H) (hS : va_S (xA N0) s.heap H locs) (hstr : xStrM l D ar N0 g)
    (hfr : fr ≤ R.frames) (hlo : lo ≤ R.locals) (hrc : cells ≤ R.cells) (hrs : slots ≤ R.slots) (hd : decode cc pc = .ok (i, len)) (hz : xsz i len = true) (hs : xnat g cn fr lo i st = some st')
    (k : ∀ (H1 : Heap) (locs1 : List Loc), xHR D ar N0 h H1 → va_S (xA N0) s.heap H1 locs1 → W p l e R s m args below meth c H1 locs1 cells slots Q (F0 m (pc + len) ls st')) : W p l e R s m args below meth c H locs cells slots Q (F0 m pc ls st) := by
  unfold xnat at hs
  split at hs
  · cases hs
  rename_i hfl
  have hfl : (Nat.ble 1 fr && Nat.ble 20 lo) = true := by
    cases hq : (Nat.ble 1 fr && Nat.ble 20 lo) with
    | true => rfl
    | false => rw [hq] at hfl; exact absurd rfl hfl
  simp only [Bool.and_eq_true] at hfl
  have f1 : 1 ≤ R.frames := Nat.le_trans (Nat.le_of_ble_eq_true hfl.1) hfr
  have f2 : 20 ≤ R.locals := Nat.le_trans (Nat.le_of_ble_eq_true hfl.2) hlo
  cases i with
  | invokespecial n =>
    simp only [xsz, beq_iff_eq] at hz; subst hz
    dsimp only at hs
    split at hs
    · rename_i a1 b1 a r hq
      split at hs
      · rename_i hc
        simp only [Option.some.injEq] at hs; subst hs
        obtain ⟨q1, q2⟩ := xMt_inv hq
        have q2 : a1 = n := q2
        subst q2
        have q3 : decide (xlook b1.2.2 = some (Cond.methodLink (xcn cn) a1 Lib.objectInit)) = true := q1
        have h8 := xdep_ok hc
        refine W.objInit hx hb hown (hts _ (xw_mem (of_decide_eq_true q3) rfl)) (hts _ (xw_mem (i := 1028) (w := Cond.instanceMethod Lib.objectInit) (by decide +kernel) rfl)) (hts _ (xw_mem (i := 1029) (w := Cond.code Lib.objectInit ⟨#[0xb1]⟩ 1 none) (by decide +kernel) rfl)) (g := F0 m pc ls (.ref a :: r)) rfl hml.symm rfl hd f1 ?_ (k H locs hR hS)
        have := lv_room (m := m) (pc := pc) (ls := ls) (rest := .ref a :: r) h8
        omega
      · cases hs
    · cases hs
  | invokestatic n =>
    simp only [xsz, beq_iff_eq] at hz; subst hz
    dsimp only at hs
    split at hs
    · rename_i a1 b1 b r hq
      split at hs
      · rename_i hc
        simp only [Option.some.injEq] at hs; subst hs
        simp only [Bool.and_eq_true, Bool.not_eq_true'] at hc
        obtain ⟨q1, q2⟩ := xMt_inv hq
        have q2 : a1 = n := q2
        subst q2
        have q3 : decide (xlook b1.2.2 = some (Cond.methodLink (xcn cn) a1 ⟨"java/lang/Double", "longBitsToDouble", "(J)D"⟩)) = true := q1
        have h8 := xdep_ok hc.1.1
        have f3 : 23 ≤ R.locals := Nat.le_trans (Nat.le_of_ble_eq_true hc.1.2) hlo
        exact vn_l2d hx hb hml hown (hts _ (xw_mem (of_decide_eq_true q3) rfl)) (hts _ (xw_mem (i := 6041) (w := Cond.native ⟨"java/lang/Double", "longBitsToDouble", "(J)D"⟩) (by decide +kernel) rfl)) (hts _ (xw_mem (i := 6040) (w := Cond.static ⟨"java/lang/Double", "longBitsToDouble", "(J)D"⟩) (by decide +kernel) rfl)) (hts _ (xw_mem (i := 1014) (w := Cond.initialized "java/lang/Double") (by decide +kernel) rfl)) hc.2 f1 (by omega) hd (k H locs hR hS)
      · cases hs
    · rename_i a1 b1 b r hq
      split at hs
      · rename_i hc
        simp only [Option.some.injEq] at hs; subst hs
        obtain ⟨q1, q2⟩ := xMt_inv hq
        have q2 : a1 = n := q2
        subst q2
        have q3 : decide (xlook b1.2.2 = some (Cond.methodLink (xcn cn) a1 ⟨"java/lang/Double", "doubleToRawLongBits", "(D)J"⟩)) = true := q1
        simp only [Bool.and_eq_true] at hc
        have h8 := xdep_ok hc.1
        have f3 : 23 ≤ R.locals := Nat.le_trans (Nat.le_of_ble_eq_true hc.2) hlo
        exact vn_d2l hx hb hml hown (hts _ (xw_mem (of_decide_eq_true q3) rfl)) (hts _ (xw_mem (i := 6050) (w := Cond.native ⟨"java/lang/Double", "doubleToRawLongBits", "(D)J"⟩) (by decide +kernel) rfl)) (hts _ (xw_mem (i := 6049) (w := Cond.static ⟨"java/lang/Double", "doubleToRawLongBits", "(D)J"⟩) (by decide +kernel) rfl)) (hts _ (xw_mem (i := 1014) (w := Cond.initialized "java/lang/Double") (by decide +kernel) rfl)) f1 (by omega) hd (k H locs hR hS)
      · cases hs
    · rename_i a1 b1 b r hq
      split at hs
      · rename_i hc
        simp only [Option.some.injEq] at hs; subst hs
        simp only [Bool.and_eq_true, Bool.not_eq_true'] at hc
        obtain ⟨q1, q2⟩ := xMt_inv hq
        have q2 : a1 = n := q2
        subst q2
        have q3 : decide (xlook b1.2.2 = some (Cond.methodLink (xcn cn) a1 ⟨"java/lang/Float", "intBitsToFloat", "(I)F"⟩)) = true := q1
        have h8 := xdep_ok hc.1.1
        have f3 : 23 ≤ R.locals := Nat.le_trans (Nat.le_of_ble_eq_true hc.1.2) hlo
        exact vn_i2f hx hb hml hown (hts _ (xw_mem (of_decide_eq_true q3) rfl)) (hts _ (xw_mem (i := 6038) (w := Cond.native ⟨"java/lang/Float", "intBitsToFloat", "(I)F"⟩) (by decide +kernel) rfl)) (hts _ (xw_mem (i := 6037) (w := Cond.static ⟨"java/lang/Float", "intBitsToFloat", "(I)F"⟩) (by decide +kernel) rfl)) (hts _ (xw_mem (i := 1013) (w := Cond.initialized "java/lang/Float") (by decide +kernel) rfl)) hc.2 f1 (by omega) hd (k H locs hR hS)
      · cases hs
    · rename_i a1 b1 b r hq
      split at hs
      · rename_i hc
        simp only [Option.some.injEq] at hs; subst hs
        obtain ⟨q1, q2⟩ := xMt_inv hq
        have q2 : a1 = n := q2
        subst q2
        have q3 : decide (xlook b1.2.2 = some (Cond.methodLink (xcn cn) a1 ⟨"java/lang/Float", "floatToRawIntBits", "(F)I"⟩)) = true := q1
        simp only [Bool.and_eq_true] at hc
        have h8 := xdep_ok hc.1
        have f3 : 23 ≤ R.locals := Nat.le_trans (Nat.le_of_ble_eq_true hc.2) hlo
        exact vn_f2i hx hb hml hown (hts _ (xw_mem (of_decide_eq_true q3) rfl)) (hts _ (xw_mem (i := 6031) (w := Cond.native ⟨"java/lang/Float", "floatToRawIntBits", "(F)I"⟩) (by decide +kernel) rfl)) (hts _ (xw_mem (i := 6030) (w := Cond.static ⟨"java/lang/Float", "floatToRawIntBits", "(F)I"⟩) (by decide +kernel) rfl)) (hts _ (xw_mem (i := 1013) (w := Cond.initialized "java/lang/Float") (by decide +kernel) rfl)) f1 (by omega) hd (k H locs hR hS)
      · cases hs
    · rename_i a1 b1 y1 x1 r hq
      split at hs
      · rename_i hc
        simp only [Option.some.injEq] at hs; subst hs
        obtain ⟨q1, q2⟩ := xMt_inv hq
        have q2 : a1 = n := q2
        subst q2
        have q3 : decide (xlook b1.2.2 = some (Cond.methodLink (xcn cn) a1 Lib.Math.max.name)) = true := q1
        simp only [Bool.and_eq_true] at hc
        have h8 := xdep_ok hc.1
        have f3 : 21 ≤ R.locals := Nat.le_trans (Nat.le_of_ble_eq_true hc.2) hlo
        exact va_mmax hx hb hml hown (hts _ (xw_mem (of_decide_eq_true q3) rfl)) (hts _ (xw_mem (i := 2003) (w := Cond.static Lib.Math.max.name) (by decide +kernel) rfl)) (hts _ (xw_mem (i := 1010) (w := Cond.initialized "java/lang/Math") (by decide +kernel) rfl)) (hts _ (xw_mem (i := 2004) (w := Cond.code Lib.Math.max.name Lib.Math.max.code 2 (some .int)) (by decide +kernel) rfl)) f1 (by omega) hrc hrs hd (k H locs hR hS)
      · cases hs
    · rename_i a1 b1 y1 x1 r hq
      split at hs
      · rename_i hc
        simp only [Option.some.injEq] at hs; subst hs
        obtain ⟨q1, q2⟩ := xMt_inv hq
        have q2 : a1 = n := q2
        subst q2
        have q3 : decide (xlook b1.2.2 = some (Cond.methodLink (xcn cn) a1 Lib.Math.min.name)) = true := q1
        simp only [Bool.and_eq_true] at hc
        have h8 := xdep_ok hc.1
        have f3 : 21 ≤ R.locals := Nat.le_trans (Nat.le_of_ble_eq_true hc.2) hlo
        exact va_mmin hx hb hml hown (hts _ (xw_mem (of_decide_eq_true q3) rfl)) (hts _ (xw_mem (i := 2233) (w := Cond.static Lib.Math.min.name) (by decide +kernel) rfl)) (hts _ (xw_mem (i := 1010) (w := Cond.initialized "java/lang/Math") (by decide +kernel) rfl)) (hts _ (xw_mem (i := 2234) (w := Cond.code Lib.Math.min.name Lib.Math.min.code 2 (some .int)) (by decide +kernel) rfl)) f1 (by omega) hrc hrs hd (k H locs hR hS)
      · cases hs
    · cases hs
  | invokevirtual n =>
    simp only [xsz, beq_iff_eq] at hz; subst hz
    dsimp only at hs
    obtain ⟨adV, hE⟩ := hC.2.2.2.2.2.2.2.2.2.1
    split at hs
    · rename_i a1 b1 a r hq
      split at hs
      · rename_i hc
        simp only [Option.some.injEq] at hs; subst hs
        simp only [Bool.and_eq_true, beq_iff_eq] at hc
        obtain ⟨⟨⟨c1, rfl⟩, c3⟩, c4⟩ := hc
        obtain ⟨q1, q2⟩ := xMt_inv hq
        have q2 : a1 = n := q2
        subst q2
        have q3 : decide (xlook b1.2.2 = some (Cond.methodLink (xcn cn) a1 ⟨"java/lang/String", "length", "()I"⟩)) = true := q1
        refine xgo (r := (some (.int 10), h)) (mc := 0) (ms := 0) (va_runV (As := []) (rest := r) (C := "java/lang/String") (n := 0) ⟨hx, hb, hml, hown, hts⟩ (hstr.1 h) (cwV 0 hts (xgin ?_) rfl rfl rfl ⟨rfl, by decide, by decide, by decide +kernel⟩ ⟨Nat.le_trans (by decide) (Nat.le_trans (Nat.le_of_ble_eq_true c3) hfr), Nat.le_trans (by decide) (Nat.le_trans (Nat.le_of_ble_eq_true c4) hlo)⟩) ⟨xPc.blind, vk_recv hE (i := 0) (by decide) hS, fun U hU hW => ⟨rfl, hC.to hS hU hW, by rw [hU]; exact hR⟩⟩ rfl rfl rfl rfl (lv_room (m := m) (pc := pc) (ls := ls) (rest := .ref g.2.2.2.2 :: r) (xdep_ok c1)) hd ⟨hrc, hrs⟩) hS (fun H1 locs1 b1 b2 => k H1 locs1 b1 b2)
        intro w hw
        simp only [wsV, List.mem_append, List.mem_cons, List.not_mem_nil, or_false] at hw
        rcases hw with (rfl | rfl | rfl | rfl) | rfl | hw
        · exact xw_mem (of_decide_eq_true q3) rfl
        · exact xw_mem (i := 4015) (by decide +kernel) rfl
        · exact xw_mem (i := 4016) (by decide +kernel) rfl
        · exact xw_mem (i := 1017) (by decide +kernel) rfl
        · exact xw_mem (i := 4017) (by decide +kernel) rfl
        · exact hw
      · cases hs
    · rename_i a1 b1 j a r hq
      split at hs
      · rename_i hc
        simp only [Option.some.injEq] at hs; subst hs
        simp only [Bool.and_eq_true, beq_iff_eq] at hc
        obtain ⟨⟨⟨⟨c1, rfl⟩, c2⟩, c3⟩, c4⟩ := hc
        obtain ⟨q1, q2⟩ := xMt_inv hq
        have q2 : a1 = n := q2
        subst q2
        have q3 : (decide ((10 : Nat) = 10) && decide (xlook b1.2.2 = some (Cond.methodLink (xcn cn) a1 ⟨"java/lang/String", "charAt", "(I)C"⟩))) = true := q1
        simp only [Bool.and_eq_true, decide_eq_true_eq] at q3
        refine xgo (r := (some (.int (xlet j.toNatClampNeg)), h)) (mc := 0) (ms := 0) (va_runV (As := [.int j]) (rest := r) (C := "java/lang/String") (n := 1) ⟨hx, hb, hml, hown, hts⟩ (hstr.2 h j (xin_ok c2)) (cwV 1 hts (xgin ?_) rfl rfl rfl ⟨rfl, by decide, by decide, by decide +kernel⟩ ⟨Nat.le_trans (by decide) (Nat.le_trans (Nat.le_of_ble_eq_true c3) hfr), Nat.le_trans (by decide) (Nat.le_trans (Nat.le_of_ble_eq_true c4) hlo)⟩) ⟨xPc.blind, vk_recv hE (i := 0) (by decide) hS, fun U hU hW => ⟨rfl, hC.to hS hU hW, by rw [hU]; exact hR⟩⟩ rfl rfl rfl rfl (lv_room (m := m) (pc := pc) (ls := ls) (rest := .int j :: .ref g.2.2.2.2 :: r) (xdep_ok c1)) hd ⟨hrc, hrs⟩) hS (fun H1 locs1 b1 b2 => k H1 locs1 b1 b2)
        intro w hw
        simp only [wsV, List.mem_append, List.mem_cons, List.not_mem_nil, or_false] at hw
        rcases hw with (rfl | rfl | rfl | rfl) | rfl | hw
        · exact xw_mem q3.2 rfl
        · exact xw_mem (i := 4025) (by decide +kernel) rfl
        · exact xw_mem (i := 4026) (by decide +kernel) rfl
        · exact xw_mem (i := 1017) (by decide +kernel) rfl
        · exact xw_mem (i := 4027) (by decide +kernel) rfl
        · exact hw
      · cases hs
    · cases hs
  | _ => dsimp only at hs; cases hs
end XS7
