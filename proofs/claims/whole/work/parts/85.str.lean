/-! THE STRING: length and charAt of the constant -/
def RJ0 : String := "java/lang/String"
def RJ1 : String := "java/lang/StringLatin1"
def RJ3 : String := "jdk/internal/util/Preconditions"
abbrev cJ0_length_8abf5 : ByteArray := prog_19_method_54_code
def yJ0_length_8abf5 : MethodName := ⟨RJ0, "length", "()I"⟩
abbrev cJ0_charAt_5068e : ByteArray := prog_19_method_56_code
def yJ0_charAt_5068e : MethodName := ⟨RJ0, "charAt", "(I)C"⟩
abbrev cJ0_coder_7d493 : ByteArray := prog_19_method_152_code
def yJ0_coder_7d493 : MethodName := ⟨RJ0, "coder", "()B"⟩
abbrev cJ0_isLatin1_aae02 : ByteArray := prog_19_method_154_code
def yJ0_isLatin1_aae02 : MethodName := ⟨RJ0, "isLatin1", "()Z"⟩
abbrev cJ0_checkIndex_df160 : ByteArray := prog_19_method_155_code
def yJ0_checkIndex_df160 : MethodName := ⟨RJ0, "checkIndex", "(II)V"⟩
abbrev cJ1_charAt_3b067 : ByteArray := prog_20_method_2_code
def yJ1_charAt_3b067 : MethodName := ⟨RJ1, "charAt", "([BI)C"⟩
abbrev cJ3_checkIndex_8e157 : ByteArray := prog_22_method_11_code
def yJ3_checkIndex_8e157 : MethodName := ⟨RJ3, "checkIndex", "(IILjava/util/function/BiFunction;)I"⟩
theorem dJ0_length_8abf5_0 : decode cJ0_length_8abf5 0 = .ok (.aload_n 0, 1) := by decide +kernel
theorem dJ0_length_8abf5_1 : decode cJ0_length_8abf5 1 = .ok (.getfield 9, 3) := by decide +kernel
theorem dJ0_length_8abf5_4 : decode cJ0_length_8abf5 4 = .ok (.arraylength, 1) := by decide +kernel
theorem dJ0_length_8abf5_5 : decode cJ0_length_8abf5 5 = .ok (.aload_n 0, 1) := by decide +kernel
theorem dJ0_length_8abf5_6 : decode cJ0_length_8abf5 6 = .ok (.invokevirtual 335, 3) := by decide +kernel
theorem dJ0_length_8abf5_9 : decode cJ0_length_8abf5 9 = .ok (.ishr, 1) := by decide +kernel
theorem dJ0_length_8abf5_10 : decode cJ0_length_8abf5 10 = .ok (.ireturn, 1) := by decide +kernel
theorem dJ0_charAt_5068e_0 : decode cJ0_charAt_5068e 0 = .ok (.aload_n 0, 1) := by decide +kernel
theorem dJ0_charAt_5068e_1 : decode cJ0_charAt_5068e 1 = .ok (.invokevirtual 492, 3) := by decide +kernel
theorem dJ0_charAt_5068e_4 : decode cJ0_charAt_5068e 4 = .ok (.ifCond .eq 12, 3) := by decide +kernel
theorem dJ0_charAt_5068e_7 : decode cJ0_charAt_5068e 7 = .ok (.aload_n 0, 1) := by decide +kernel
theorem dJ0_charAt_5068e_8 : decode cJ0_charAt_5068e 8 = .ok (.getfield 9, 3) := by decide +kernel
theorem dJ0_charAt_5068e_11 : decode cJ0_charAt_5068e 11 = .ok (.iload_n 1, 1) := by decide +kernel
theorem dJ0_charAt_5068e_12 : decode cJ0_charAt_5068e 12 = .ok (.invokestatic 495, 3) := by decide +kernel
theorem dJ0_charAt_5068e_15 : decode cJ0_charAt_5068e 15 = .ok (.ireturn, 1) := by decide +kernel
theorem dJ0_charAt_5068e_16 : decode cJ0_charAt_5068e 16 = .ok (.aload_n 0, 1) := by decide +kernel
theorem dJ0_charAt_5068e_17 : decode cJ0_charAt_5068e 17 = .ok (.getfield 9, 3) := by decide +kernel
theorem dJ0_charAt_5068e_20 : decode cJ0_charAt_5068e 20 = .ok (.iload_n 1, 1) := by decide +kernel
theorem dJ0_charAt_5068e_21 : decode cJ0_charAt_5068e 21 = .ok (.invokestatic 498, 3) := by decide +kernel
theorem dJ0_charAt_5068e_24 : decode cJ0_charAt_5068e 24 = .ok (.ireturn, 1) := by decide +kernel
theorem dJ0_coder_7d493_0 : decode cJ0_coder_7d493 0 = .ok (.getstatic 38, 3) := by decide +kernel
theorem dJ0_coder_7d493_3 : decode cJ0_coder_7d493 3 = .ok (.ifCond .eq 10, 3) := by decide +kernel
theorem dJ0_coder_7d493_6 : decode cJ0_coder_7d493 6 = .ok (.aload_n 0, 1) := by decide +kernel
theorem dJ0_coder_7d493_7 : decode cJ0_coder_7d493 7 = .ok (.getfield 15, 3) := by decide +kernel
theorem dJ0_coder_7d493_10 : decode cJ0_coder_7d493 10 = .ok (.goto 4, 3) := by decide +kernel
theorem dJ0_coder_7d493_13 : decode cJ0_coder_7d493 13 = .ok (.iconst 1, 1) := by decide +kernel
theorem dJ0_coder_7d493_14 : decode cJ0_coder_7d493 14 = .ok (.ireturn, 1) := by decide +kernel
theorem dJ0_isLatin1_aae02_0 : decode cJ0_isLatin1_aae02 0 = .ok (.getstatic 38, 3) := by decide +kernel
theorem dJ0_isLatin1_aae02_3 : decode cJ0_isLatin1_aae02 3 = .ok (.ifCond .eq 14, 3) := by decide +kernel
theorem dJ0_isLatin1_aae02_6 : decode cJ0_isLatin1_aae02 6 = .ok (.aload_n 0, 1) := by decide +kernel
theorem dJ0_isLatin1_aae02_7 : decode cJ0_isLatin1_aae02 7 = .ok (.getfield 15, 3) := by decide +kernel
theorem dJ0_isLatin1_aae02_10 : decode cJ0_isLatin1_aae02 10 = .ok (.ifCond .ne 7, 3) := by decide +kernel
theorem dJ0_isLatin1_aae02_13 : decode cJ0_isLatin1_aae02 13 = .ok (.iconst 1, 1) := by decide +kernel
theorem dJ0_isLatin1_aae02_14 : decode cJ0_isLatin1_aae02 14 = .ok (.goto 4, 3) := by decide +kernel
theorem dJ0_isLatin1_aae02_17 : decode cJ0_isLatin1_aae02 17 = .ok (.iconst 0, 1) := by decide +kernel
theorem dJ0_isLatin1_aae02_18 : decode cJ0_isLatin1_aae02 18 = .ok (.ireturn, 1) := by decide +kernel
theorem dJ0_checkIndex_df160_0 : decode cJ0_checkIndex_df160 0 = .ok (.iload_n 0, 1) := by decide +kernel
theorem dJ0_checkIndex_df160_1 : decode cJ0_checkIndex_df160 1 = .ok (.iload_n 1, 1) := by decide +kernel
theorem dJ0_checkIndex_df160_2 : decode cJ0_checkIndex_df160 2 = .ok (.getstatic 1053, 3) := by decide +kernel
theorem dJ0_checkIndex_df160_5 : decode cJ0_checkIndex_df160 5 = .ok (.invokestatic 1059, 3) := by decide +kernel
theorem dJ0_checkIndex_df160_8 : decode cJ0_checkIndex_df160 8 = .ok (.pop, 1) := by decide +kernel
theorem dJ0_checkIndex_df160_9 : decode cJ0_checkIndex_df160 9 = .ok (.return_, 1) := by decide +kernel
theorem dJ1_charAt_3b067_0 : decode cJ1_charAt_3b067 0 = .ok (.iload_n 1, 1) := by decide +kernel
theorem dJ1_charAt_3b067_1 : decode cJ1_charAt_3b067 1 = .ok (.aload_n 0, 1) := by decide +kernel
theorem dJ1_charAt_3b067_2 : decode cJ1_charAt_3b067 2 = .ok (.arraylength, 1) := by decide +kernel
theorem dJ1_charAt_3b067_3 : decode cJ1_charAt_3b067 3 = .ok (.invokestatic 9, 3) := by decide +kernel
theorem dJ1_charAt_3b067_6 : decode cJ1_charAt_3b067 6 = .ok (.aload_n 0, 1) := by decide +kernel
theorem dJ1_charAt_3b067_7 : decode cJ1_charAt_3b067 7 = .ok (.iload_n 1, 1) := by decide +kernel
theorem dJ1_charAt_3b067_8 : decode cJ1_charAt_3b067 8 = .ok (.baload, 1) := by decide +kernel
theorem dJ1_charAt_3b067_9 : decode cJ1_charAt_3b067 9 = .ok (.sipush 255, 3) := by decide +kernel
theorem dJ1_charAt_3b067_12 : decode cJ1_charAt_3b067 12 = .ok (.iand, 1) := by decide +kernel
theorem dJ1_charAt_3b067_13 : decode cJ1_charAt_3b067 13 = .ok (.i2c, 1) := by decide +kernel
theorem dJ1_charAt_3b067_14 : decode cJ1_charAt_3b067 14 = .ok (.ireturn, 1) := by decide +kernel
theorem dJ3_checkIndex_8e157_0 : decode cJ3_checkIndex_8e157 0 = .ok (.iload_n 0, 1) := by decide +kernel
theorem dJ3_checkIndex_8e157_1 : decode cJ3_checkIndex_8e157 1 = .ok (.ifCond .lt 8, 3) := by decide +kernel
theorem dJ3_checkIndex_8e157_4 : decode cJ3_checkIndex_8e157 4 = .ok (.iload_n 0, 1) := by decide +kernel
theorem dJ3_checkIndex_8e157_5 : decode cJ3_checkIndex_8e157 5 = .ok (.iload_n 1, 1) := by decide +kernel
theorem dJ3_checkIndex_8e157_6 : decode cJ3_checkIndex_8e157 6 = .ok (.if_icmp .lt 10, 3) := by decide +kernel
theorem dJ3_checkIndex_8e157_9 : decode cJ3_checkIndex_8e157 9 = .ok (.aload_n 2, 1) := by decide +kernel
theorem dJ3_checkIndex_8e157_10 : decode cJ3_checkIndex_8e157 10 = .ok (.iload_n 0, 1) := by decide +kernel
theorem dJ3_checkIndex_8e157_11 : decode cJ3_checkIndex_8e157 11 = .ok (.iload_n 1, 1) := by decide +kernel
theorem dJ3_checkIndex_8e157_12 : decode cJ3_checkIndex_8e157 12 = .ok (.invokestatic 95, 3) := by decide +kernel
theorem dJ3_checkIndex_8e157_15 : decode cJ3_checkIndex_8e157 15 = .ok (.athrow, 1) := by decide +kernel
theorem dJ3_checkIndex_8e157_16 : decode cJ3_checkIndex_8e157 16 = .ok (.iload_n 0, 1) := by decide +kernel
theorem dJ3_checkIndex_8e157_17 : decode cJ3_checkIndex_8e157 17 = .ok (.ireturn, 1) := by decide +kernel
section STR
variable {l : Launch} {D : va_G} {ar : Nat → ClassId} {N0 : Nat} {g : xG}
abbrev wdJ (y : MethodName) (cc : ByteArray) (n : Nat) (rt : Option FieldType) : List Cond := Cond.code y cc n rt :: xws
set_option maxHeartbeats 1000000 in
theorem met_coder (h : xH) : Met l yJ0_coder_7d493 (wdJ yJ0_coder_7d493 cJ0_coder_7d493 1 (some .byte)) { frames := 0, cells := 0, slots := 0, locals := 0 } (xPc D ar N0 g [.ref g.2.2.2.2] h) (xQc D ar N0 (some (.int 0), h)) 0 0 (xA N0) := by
  refine Met.ofW (cc := cJ0_coder_7d493) (maxL := 1) (ret := some .byte) (by decide) rfl ?_
  intro p e s m args below meth c s₁ B hml hv
  obtain ⟨rfl, hC, hR⟩ := hv
  have hx := B.exec
  have hb := B.bytes
  have hr := B.returns
  have hlocks := B.notSynchronized
  have hts : ∀ w ∈ xws, w.before _ s = true := fun w hw => atoms_spec (ws := wdJ yJ0_coder_7d493 cJ0_coder_7d493 1 (some .byte)) B.pre w (List.mem_cons_of_mem _ hw)
  have hown : s.vm.findClass RJ0 = some m.cls := findClass_of_methodNamed B.named
  have hS : va_S (xA N0) s.heap s.heap [] := va_S.rf
  obtain ⟨adV, hE⟩ := hC.2.2.2.2.2.2.2.2.2.1
  have hl := lv_entry ([.ref g.2.2.2.2]) (n := 1) (Nat.le_of_ble_eq_true rfl)
  rw [lg_entry_eq]
  generalize (lg_sl ([.ref g.2.2.2.2]) ++ List.replicate (1 - (lg_sl ([.ref g.2.2.2.2])).length) Slot.unset).toArray = ls at hl ⊢
  have hl : lv_has ls 1 [(0, .ref g.2.2.2.2)] := hl
  refine va_gets hx hb hC.2.2.2.2.2.2.2.2.2.2.1 hS hown (hts _ (xw_mem (i := 4022) (w := Cond.fieldLink RJ0 38 "java/lang/String" "COMPACT_STRINGS" "Z") (by decide +kernel) rfl)) (fun _ z => z) dJ0_coder_7d493_0 ?_
  refine lv_if_eq (tgt := 13) hx hb dJ0_coder_7d493_3 (by decide) (fun q => absurd q (by decide)) (fun _ => ?_)
  refine lv_aload_n hx hb dJ0_coder_7d493_6 rfl (lv_at hl 0 rfl) ?_
  refine vk_getf hx hb (hE.1 0 (by decide)).2.1 hS hown (hts _ (xw_mem (i := 7115) (w := Cond.fieldLink RJ0 15 "java/lang/String" "coder" "B") (by decide +kernel) rfl)) (fun _ z => z) dJ0_coder_7d493_7 ?_
  refine lv_goto (tgt := 14) hx hb dJ0_coder_7d493_10 (by decide) ?_
  exact W.zret hx hb hr rfl (fun t ht hW => ⟨rfl, by rw [ht]; exact hR, hS.F ht⟩) hS.2.2 dJ0_coder_7d493_14 hlocks
set_option maxHeartbeats 1000000 in
theorem met_isLatin1 (h : xH) : Met l yJ0_isLatin1_aae02 (wdJ yJ0_isLatin1_aae02 cJ0_isLatin1_aae02 1 (some .boolean)) { frames := 0, cells := 0, slots := 0, locals := 0 } (xPc D ar N0 g [.ref g.2.2.2.2] h) (xQc D ar N0 (some (.int 1), h)) 0 0 (xA N0) := by
  refine Met.ofW (cc := cJ0_isLatin1_aae02) (maxL := 1) (ret := some .boolean) (by decide) rfl ?_
  intro p e s m args below meth c s₁ B hml hv
  obtain ⟨rfl, hC, hR⟩ := hv
  have hx := B.exec
  have hb := B.bytes
  have hr := B.returns
  have hlocks := B.notSynchronized
  have hts : ∀ w ∈ xws, w.before _ s = true := fun w hw => atoms_spec (ws := wdJ yJ0_isLatin1_aae02 cJ0_isLatin1_aae02 1 (some .boolean)) B.pre w (List.mem_cons_of_mem _ hw)
  have hown : s.vm.findClass RJ0 = some m.cls := findClass_of_methodNamed B.named
  have hS : va_S (xA N0) s.heap s.heap [] := va_S.rf
  obtain ⟨adV, hE⟩ := hC.2.2.2.2.2.2.2.2.2.1
  have hl := lv_entry ([.ref g.2.2.2.2]) (n := 1) (Nat.le_of_ble_eq_true rfl)
  rw [lg_entry_eq]
  generalize (lg_sl ([.ref g.2.2.2.2]) ++ List.replicate (1 - (lg_sl ([.ref g.2.2.2.2])).length) Slot.unset).toArray = ls at hl ⊢
  have hl : lv_has ls 1 [(0, .ref g.2.2.2.2)] := hl
  refine va_gets hx hb hC.2.2.2.2.2.2.2.2.2.2.1 hS hown (hts _ (xw_mem (i := 4022) (w := Cond.fieldLink RJ0 38 "java/lang/String" "COMPACT_STRINGS" "Z") (by decide +kernel) rfl)) (fun _ z => z) dJ0_isLatin1_aae02_0 ?_
  refine lv_if_eq (tgt := 17) hx hb dJ0_isLatin1_aae02_3 (by decide) (fun q => absurd q (by decide)) (fun _ => ?_)
  refine lv_aload_n hx hb dJ0_isLatin1_aae02_6 rfl (lv_at hl 0 rfl) ?_
  refine vk_getf hx hb (hE.1 0 (by decide)).2.1 hS hown (hts _ (xw_mem (i := 7115) (w := Cond.fieldLink RJ0 15 "java/lang/String" "coder" "B") (by decide +kernel) rfl)) (fun _ z => z) dJ0_isLatin1_aae02_7 ?_
  refine lv_if_ne (tgt := 17) hx hb dJ0_isLatin1_aae02_10 (by decide) (fun q => absurd rfl q) (fun _ => ?_)
  refine lv_iconst (v := 1) hx hb dJ0_isLatin1_aae02_13 (by decide) ?_
  refine lv_goto (tgt := 18) hx hb dJ0_isLatin1_aae02_14 (by decide) ?_
  exact W.zret hx hb hr rfl (fun t ht hW => ⟨rfl, by rw [ht]; exact hR, hS.F ht⟩) hS.2.2 dJ0_isLatin1_aae02_18 hlocks
set_option maxHeartbeats 1000000 in
theorem met_length (h : xH) : Met l yJ0_length_8abf5 (wdJ yJ0_length_8abf5 cJ0_length_8abf5 1 (some .int)) { frames := 1, cells := 0, slots := 0, locals := 20 } (xPc D ar N0 g [.ref g.2.2.2.2] h) (xQc D ar N0 (some (.int 10), h)) 0 0 (xA N0) := by
  refine Met.ofW (cc := cJ0_length_8abf5) (maxL := 1) (ret := some .int) (by decide) rfl ?_
  intro p e s m args below meth c s₁ B hml hv
  obtain ⟨rfl, hC, hR⟩ := hv
  have hx := B.exec
  have hb := B.bytes
  have hr := B.returns
  have hlocks := B.notSynchronized
  have hts : ∀ w ∈ xws, w.before _ s = true := fun w hw => atoms_spec (ws := wdJ yJ0_length_8abf5 cJ0_length_8abf5 1 (some .int)) B.pre w (List.mem_cons_of_mem _ hw)
  have hown : s.vm.findClass RJ0 = some m.cls := findClass_of_methodNamed B.named
  have hS : va_S (xA N0) s.heap s.heap [] := va_S.rf
  obtain ⟨adV, hE⟩ := hC.2.2.2.2.2.2.2.2.2.1
  have hl := lv_entry ([.ref g.2.2.2.2]) (n := 1) (Nat.le_of_ble_eq_true rfl)
  rw [lg_entry_eq]
  generalize (lg_sl ([.ref g.2.2.2.2]) ++ List.replicate (1 - (lg_sl ([.ref g.2.2.2.2])).length) Slot.unset).toArray = ls at hl ⊢
  have hl : lv_has ls 1 [(0, .ref g.2.2.2.2)] := hl
  refine lv_aload_n hx hb dJ0_length_8abf5_0 rfl (lv_at hl 0 rfl) ?_
  refine vk_getf hx hb (hE.1 0 (by decide)).2.2.1 hS hown (hts _ (xw_mem (i := 7114) (w := Cond.fieldLink RJ0 9 "java/lang/String" "value" "[B") (by decide +kernel) rfl)) (fun _ z => z) dJ0_length_8abf5_1 ?_
  refine va_tlen (v := 10) hx hb (hE.1 0 (by decide)).2.2.2 hS (by decide) dJ0_length_8abf5_4 ?_
  refine lv_aload_n hx hb dJ0_length_8abf5_5 rfl (lv_at hl 0 rfl) ?_
  refine xgo (r := (some (.int 0), h)) (mc := 0) (ms := 0) (va_runV (As := []) (rest := [.int 10]) (C := "java/lang/String") (n := 0) ⟨hx, hb, hml, hown, hts⟩ (met_coder h) (cwV 0 hts (xgin ?_) rfl rfl rfl ⟨rfl, by decide, by decide, by decide +kernel⟩ ⟨by decide, by decide⟩) ⟨xPc.blind, vk_recv hE (i := 0) (by decide) hS, fun U hU hW => ⟨rfl, hC.to hS hU hW, by rw [hU]; exact hR⟩⟩ rfl rfl hl.1 rfl (lv_room (Nat.le_of_ble_eq_true rfl)) dJ0_length_8abf5_6 ⟨Nat.zero_le _, Nat.zero_le _⟩) hS (fun H1 locs1 hR hS => ?_)
  · intro w hw
    simp only [wsV, List.mem_append, List.mem_cons, List.not_mem_nil, or_false] at hw
    rcases hw with (rfl | rfl | rfl | rfl) | rfl | hw
    · exact xw_mem (i := 4018) (by decide +kernel) rfl
    · exact xw_mem (i := 4019) (by decide +kernel) rfl
    · exact xw_mem (i := 4020) (by decide +kernel) rfl
    · exact xw_mem (i := 1017) (by decide +kernel) rfl
    · exact xw_mem (i := 4021) (by decide +kernel) rfl
    · exact hw
  · refine lv_ishr hx hb dJ0_length_8abf5_9 ?_
    exact W.iret (v := 10) hx hb hr (fun t ht hW => ⟨rfl, by rw [ht]; exact hR, hS.F ht⟩) hS.2.2 dJ0_length_8abf5_10 hlocks
set_option maxHeartbeats 1000000 in
theorem met_pre (h : xH) (j : Int32) (w : Value) (hw2 : w = .null ∨ ∃ t, w = .ref t) (hj : ¬ (j < 0 ∨ 10 ≤ j.toNatClampNeg)) : Met l yJ3_checkIndex_8e157 (wdJ yJ3_checkIndex_8e157 cJ3_checkIndex_8e157 3 (some .int)) { frames := 0, cells := 0, slots := 0, locals := 0 } (xPc D ar N0 g [.int j, .int 10, w] h) (xQc D ar N0 (some (.int j), h)) 0 0 (xA N0) := by
  refine Met.ofW (cc := cJ3_checkIndex_8e157) (maxL := 3) (ret := some .int) (by decide) rfl ?_
  intro p e s m args below meth c s₁ B hml hv
  obtain ⟨rfl, hC, hR⟩ := hv
  have hx := B.exec
  have hb := B.bytes
  have hr := B.returns
  have hlocks := B.notSynchronized
  have hS : va_S (xA N0) s.heap s.heap [] := va_S.rf
  have hl := lv_entry ([.int j, .int 10, w]) (n := 3) (by rcases hw2 with rfl | ⟨t, rfl⟩ <;> exact Nat.le_of_ble_eq_true rfl)
  rw [lg_entry_eq]
  generalize (lg_sl ([.int j, .int 10, w]) ++ List.replicate (3 - (lg_sl ([.int j, .int 10, w])).length) Slot.unset).toArray = ls at hl ⊢
  have hl : lv_has ls 3 [(0, .int j), (1, .int 10), (2, w)] := by
    rcases hw2 with rfl | ⟨t, rfl⟩ <;> exact hl
  refine lv_iload_n hx hb dJ3_checkIndex_8e157_0 rfl (lv_at hl 0 rfl) ?_
  refine lv_if_lt (tgt := 9) hx hb dJ3_checkIndex_8e157_1 (by decide) (fun q => absurd (Or.inl q) hj) (fun hn => ?_)
  refine lv_iload_n hx hb dJ3_checkIndex_8e157_4 rfl (lv_at hl 0 rfl) ?_
  refine lv_iload_n hx hb dJ3_checkIndex_8e157_5 rfl (lv_at hl 1 rfl) ?_
  refine lv_icmp_lt (tgt := 16) hx hb dJ3_checkIndex_8e157_6 (by decide) (fun _ => ?_) (fun q => ?_)
  · refine lv_iload_n hx hb dJ3_checkIndex_8e157_16 rfl (lv_at hl 0 rfl) ?_
    exact W.iret (v := j) hx hb hr (fun t ht hW => ⟨rfl, by rw [ht]; exact hR, hS.F ht⟩) hS.2.2 dJ3_checkIndex_8e157_17 hlocks
  · exfalso
    obtain ⟨k, hk, rfl⟩ := nI_of hn
    have h1 : (nI k).toNatClampNeg = k := nI_clamp hk
    rw [h1] at hj
    exact q (nI_lt (b := 10) (by omega) (by decide))
set_option maxHeartbeats 1000000 in
theorem met_check (h : xH) (j : Int32) (hj : ¬ (j < 0 ∨ 10 ≤ j.toNatClampNeg)) : Met l yJ0_checkIndex_df160 (wdJ yJ0_checkIndex_df160 cJ0_checkIndex_df160 2 none) { frames := 1, cells := 0, slots := 0, locals := 22 } (xPc D ar N0 g [.int j, .int 10] h) (xQc D ar N0 (none, h)) 0 0 (xA N0) := by
  refine Met.ofW (cc := cJ0_checkIndex_df160) (maxL := 2) (ret := none) (by decide) rfl ?_
  intro p e s m args below meth c s₁ B hml hv
  obtain ⟨rfl, hC, hR⟩ := hv
  have hx := B.exec
  have hb := B.bytes
  have hr := B.returns
  have hlocks := B.notSynchronized
  have hts : ∀ w ∈ xws, w.before _ s = true := fun w hw => atoms_spec (ws := wdJ yJ0_checkIndex_df160 cJ0_checkIndex_df160 2 none) B.pre w (List.mem_cons_of_mem _ hw)
  have hown : s.vm.findClass RJ0 = some m.cls := findClass_of_methodNamed B.named
  have hS : va_S (xA N0) s.heap s.heap [] := va_S.rf
  have hl := lv_entry ([.int j, .int 10]) (n := 2) (Nat.le_of_ble_eq_true rfl)
  rw [lg_entry_eq]
  generalize (lg_sl ([.int j, .int 10]) ++ List.replicate (2 - (lg_sl ([.int j, .int 10])).length) Slot.unset).toArray = ls at hl ⊢
  have hl : lv_has ls 2 [(0, .int j), (1, .int 10)] := hl
  refine lv_iload_n hx hb dJ0_checkIndex_df160_0 rfl (lv_at hl 0 rfl) ?_
  refine lv_iload_n hx hb dJ0_checkIndex_df160_1 rfl (lv_at hl 1 rfl) ?_
  have go : ∀ w : Value, (w = .null ∨ ∃ t, w = .ref t) → W p l e (headSpec (wdJ yJ0_checkIndex_df160 cJ0_checkIndex_df160 2 none) { frames := 1, cells := 0, slots := 0, locals := 22 }).room s m [Value.int j, Value.int 10].toArray below meth c s.heap [] 0 0 (MQ below (xQc D ar N0 (none, h)) [Value.int j, Value.int 10].toArray s 0 0 (xA N0)) (F0 m 5 ls [w, .int 10, .int j]) := by
    intro w hw2
    refine xgo (r := (some (.int j), h)) (mc := 0) (ms := 0) (va_runS (As := [.int j, .int 10, w]) (rest := []) (n := 3) ⟨hx, hb, hml, hown, hts⟩ (met_pre h j w hw2 hj) (va_cwS 3 hts (xgin ?_) rfl rfl rfl ⟨by decide, by decide, by decide +kernel⟩ ⟨by decide, by decide⟩) ⟨xPc.blind, fun U hU hW => ⟨rfl, hC.to hS hU hW, by rw [hU]; exact hR⟩⟩ rfl rfl hl.1 rfl (lv_room (Nat.le_of_ble_eq_true rfl)) dJ0_checkIndex_df160_5 ⟨Nat.zero_le _, Nat.zero_le _⟩) hS (fun H1 locs1 hR hS => ?_)
    · intro w hw
      simp only [va_wsS, List.mem_append, List.mem_cons, List.not_mem_nil, or_false] at hw
      rcases hw with (rfl | rfl | rfl) | rfl | hw
      · exact xw_mem (i := 4040) (by decide +kernel) rfl
      · exact xw_mem (i := 4041) (by decide +kernel) rfl
      · exact xw_mem (i := 1019) (by decide +kernel) rfl
      · exact xw_mem (i := 4042) (by decide +kernel) rfl
      · exact hw
    · refine lv_pop hx hb dJ0_checkIndex_df160_8 rfl ?_
      exact W.vret hx hb hr (fun t ht hW => ⟨rfl, by rw [ht]; exact hR, hS.F ht⟩) hS.2.2 dJ0_checkIndex_df160_9 hlocks
  rcases hC.2.2.2.2.2.2.2.2.2.2.2 with hZ | ⟨t, hZ⟩
  · exact va_gets hx hb hZ hS hown (hts _ (xw_mem (i := 4038) (w := Cond.fieldLink RJ0 1053 "jdk/internal/util/Preconditions" "SIOOBE_FORMATTER" "Ljava/util/function/BiFunction;") (by decide +kernel) rfl)) (fun _ z => z) dJ0_checkIndex_df160_2 (go _ (Or.inl rfl))
  · exact va_gets hx hb hZ hS hown (hts _ (xw_mem (i := 4038) (w := Cond.fieldLink RJ0 1053 "jdk/internal/util/Preconditions" "SIOOBE_FORMATTER" "Ljava/util/function/BiFunction;") (by decide +kernel) rfl)) (fun _ z => z) dJ0_checkIndex_df160_2 (go _ (Or.inr ⟨t, rfl⟩))
def xPs (D : va_G) (ar : Nat → ClassId) (N0 : Nat) (g : xG) (av : Nat) (j : Int32) (h : xH) : Array Value → State → Prop := va_Pc [.ref av, .int j] (fun U => xCx D ar N0 g U ∧ xHR D ar N0 h U.heap ∧ va_T .byte av 10 (fun j => .int (([[122, 98, 99, 115, 105, 106, 102, 100, 111, 108]] : List (List Int32)).getD 0 [] |>.getD j 0)) (xA N0) U U.heap)
theorem xlet_ok : ∀ k, k < 10 → ((xlet k &&& 255).toUInt32 % 65536).toInt32 = xlet k ∧ narrow .char (.int (xlet k)) = .int (xlet k) := by decide +kernel
set_option maxHeartbeats 1000000 in
theorem met_latin (h : xH) (av : Nat) (j : Int32) (hj : ¬ (j < 0 ∨ 10 ≤ j.toNatClampNeg)) : Met l yJ1_charAt_3b067 (wdJ yJ1_charAt_3b067 cJ1_charAt_3b067 2 (some .char)) { frames := 2, cells := 0, slots := 0, locals := 43 } (xPs D ar N0 g av j h) (xQc D ar N0 (some (.int (xlet j.toNatClampNeg)), h)) 0 0 (xA N0) := by
  refine Met.ofW (cc := cJ1_charAt_3b067) (maxL := 2) (ret := some .char) (by decide) rfl ?_
  intro p e s m args below meth c s₁ B hml hv
  obtain ⟨rfl, hC, hR, hT⟩ := hv
  have hx := B.exec
  have hb := B.bytes
  have hr := B.returns
  have hlocks := B.notSynchronized
  have hts : ∀ w ∈ xws, w.before _ s = true := fun w hw => atoms_spec (ws := wdJ yJ1_charAt_3b067 cJ1_charAt_3b067 2 (some .char)) B.pre w (List.mem_cons_of_mem _ hw)
  have hown : s.vm.findClass RJ1 = some m.cls := findClass_of_methodNamed B.named
  have hS : va_S (xA N0) s.heap s.heap [] := va_S.rf
  have hl := lv_entry ([.ref av, .int j]) (n := 2) (Nat.le_of_ble_eq_true rfl)
  rw [lg_entry_eq]
  generalize (lg_sl ([.ref av, .int j]) ++ List.replicate (2 - (lg_sl ([.ref av, .int j])).length) Slot.unset).toArray = ls at hl ⊢
  have hl : lv_has ls 2 [(0, .ref av), (1, .int j)] := hl
  have hk : j.toNatClampNeg < 10 := Nat.not_le.mp fun q => hj (Or.inr q)
  refine lv_iload_n hx hb dJ1_charAt_3b067_0 rfl (lv_at hl 1 rfl) ?_
  refine lv_aload_n hx hb dJ1_charAt_3b067_1 rfl (lv_at hl 0 rfl) ?_
  refine va_tlen (v := 10) hx hb hT hS (by decide) dJ1_charAt_3b067_2 ?_
  refine xgo (r := (none, h)) (mc := 0) (ms := 0) (va_runS (As := [.int j, .int 10]) (rest := []) (n := 2) ⟨hx, hb, hml, hown, hts⟩ (met_check h j hj) (va_cwS 2 hts (xgin ?_) rfl rfl rfl ⟨by decide, by decide, by decide +kernel⟩ ⟨by decide, by decide⟩) ⟨xPc.blind, fun U hU hW => ⟨rfl, hC.to hS hU hW, by rw [hU]; exact hR⟩⟩ rfl rfl hl.1 rfl (lv_room (Nat.le_of_ble_eq_true rfl)) dJ1_charAt_3b067_3 ⟨Nat.zero_le _, Nat.zero_le _⟩) hS (fun H1 locs1 hR hS => ?_)
  · intro w hw
    simp only [va_wsS, List.mem_append, List.mem_cons, List.not_mem_nil, or_false] at hw
    rcases hw with (rfl | rfl | rfl) | rfl | hw
    · exact xw_mem (i := 4035) (by decide +kernel) rfl
    · exact xw_mem (i := 4036) (by decide +kernel) rfl
    · exact xw_mem (i := 1017) (by decide +kernel) rfl
    · exact xw_mem (i := 4037) (by decide +kernel) rfl
    · exact hw
  · refine lv_aload_n hx hb dJ1_charAt_3b067_6 rfl (lv_at hl 0 rfl) ?_
    refine lv_iload_n hx hb dJ1_charAt_3b067_7 rfl (lv_at hl 1 rfl) ?_
    refine va_tb (v := .int (xlet j.toNatClampNeg)) hx hb hT hS hj rfl dJ1_charAt_3b067_8 ?_
    refine lv_sipush (v := 255) hx hb dJ1_charAt_3b067_9 (by decide) ?_
    refine lv_iand hx hb dJ1_charAt_3b067_12 ?_
    refine lv_i2c (v := xlet j.toNatClampNeg) hx hb dJ1_charAt_3b067_13 (xlet_ok _ hk).1 ?_
    exact W.zret hx hb hr (xlet_ok _ hk).2 (fun t ht hW => ⟨rfl, by rw [ht]; exact hR, hS.F ht⟩) hS.2.2 dJ1_charAt_3b067_14 hlocks
set_option maxHeartbeats 1000000 in
theorem met_charAt (h : xH) (j : Int32) (hj : ¬ (j < 0 ∨ 10 ≤ j.toNatClampNeg)) : Met l yJ0_charAt_5068e (wdJ yJ0_charAt_5068e cJ0_charAt_5068e 2 (some .char)) { frames := 3, cells := 0, slots := 0, locals := 64 } (xPc D ar N0 g [.ref g.2.2.2.2, .int j] h) (xQc D ar N0 (some (.int (xlet j.toNatClampNeg)), h)) 0 0 (xA N0) := by
  refine Met.ofW (cc := cJ0_charAt_5068e) (maxL := 2) (ret := some .char) (by decide) rfl ?_
  intro p e s m args below meth c s₁ B hml hv
  obtain ⟨rfl, hC, hR⟩ := hv
  have hx := B.exec
  have hb := B.bytes
  have hr := B.returns
  have hlocks := B.notSynchronized
  have hts : ∀ w ∈ xws, w.before _ s = true := fun w hw => atoms_spec (ws := wdJ yJ0_charAt_5068e cJ0_charAt_5068e 2 (some .char)) B.pre w (List.mem_cons_of_mem _ hw)
  have hown : s.vm.findClass RJ0 = some m.cls := findClass_of_methodNamed B.named
  have hS : va_S (xA N0) s.heap s.heap [] := va_S.rf
  obtain ⟨adV, hE⟩ := hC.2.2.2.2.2.2.2.2.2.1
  have hl := lv_entry ([.ref g.2.2.2.2, .int j]) (n := 2) (Nat.le_of_ble_eq_true rfl)
  rw [lg_entry_eq]
  generalize (lg_sl ([.ref g.2.2.2.2, .int j]) ++ List.replicate (2 - (lg_sl ([.ref g.2.2.2.2, .int j])).length) Slot.unset).toArray = ls at hl ⊢
  have hl : lv_has ls 2 [(0, .ref g.2.2.2.2), (1, .int j)] := hl
  have hk : j.toNatClampNeg < 10 := Nat.not_le.mp fun q => hj (Or.inr q)
  refine lv_aload_n hx hb dJ0_charAt_5068e_0 rfl (lv_at hl 0 rfl) ?_
  refine xgo (r := (some (.int 1), h)) (mc := 0) (ms := 0) (va_runV (As := []) (rest := []) (C := "java/lang/String") (n := 0) ⟨hx, hb, hml, hown, hts⟩ (met_isLatin1 h) (cwV 0 hts (xgin ?_) rfl rfl rfl ⟨rfl, by decide, by decide, by decide +kernel⟩ ⟨by decide, by decide⟩) ⟨xPc.blind, vk_recv hE (i := 0) (by decide) hS, fun U hU hW => ⟨rfl, hC.to hS hU hW, by rw [hU]; exact hR⟩⟩ rfl rfl hl.1 rfl (lv_room (Nat.le_of_ble_eq_true rfl)) dJ0_charAt_5068e_1 ⟨Nat.zero_le _, Nat.zero_le _⟩) hS (fun H1 locs1 hR hS => ?_)
  · intro w hw
    simp only [wsV, List.mem_append, List.mem_cons, List.not_mem_nil, or_false] at hw
    rcases hw with (rfl | rfl | rfl | rfl) | rfl | hw
    · exact xw_mem (i := 4028) (by decide +kernel) rfl
    · exact xw_mem (i := 4029) (by decide +kernel) rfl
    · exact xw_mem (i := 4030) (by decide +kernel) rfl
    · exact xw_mem (i := 1017) (by decide +kernel) rfl
    · exact xw_mem (i := 4031) (by decide +kernel) rfl
    · exact hw
  · refine lv_if_eq (tgt := 16) hx hb dJ0_charAt_5068e_4 (by decide) (fun q => absurd q (by decide)) (fun _ => ?_)
    refine lv_aload_n hx hb dJ0_charAt_5068e_7 rfl (lv_at hl 0 rfl) ?_
    refine vk_getf hx hb (hE.1 0 (by decide)).2.2.1 hS hown (hts _ (xw_mem (i := 7114) (w := Cond.fieldLink RJ0 9 "java/lang/String" "value" "[B") (by decide +kernel) rfl)) (fun _ z => z) dJ0_charAt_5068e_8 ?_
    refine lv_iload_n hx hb dJ0_charAt_5068e_11 rfl (lv_at hl 1 rfl) ?_
    refine xgo (r := (some (.int (xlet j.toNatClampNeg)), h)) (mc := 0) (ms := 0) (va_runS (As := [.ref (adV 0), .int j]) (rest := []) (n := 2) ⟨hx, hb, hml, hown, hts⟩ (met_latin h (adV 0) j hj) (va_cwS 2 hts (xgin ?_) rfl rfl rfl ⟨by decide, by decide, by decide +kernel⟩ ⟨by decide, by decide⟩) ⟨?_, fun U hU hW => ⟨rfl, hC.to hS hU hW, by rw [hU]; exact hR, by rw [hU]; exact (va_T.moved hW.alike (hE.1 0 (by decide)).2.2.2).kept hS.2.1⟩⟩ rfl rfl hl.1 rfl (lv_room (Nat.le_of_ble_eq_true rfl)) dJ0_charAt_5068e_12 ⟨Nat.zero_le _, Nat.zero_le _⟩) hS (fun H1 locs1 hR hS => ?_)
    · intro w hw
      simp only [va_wsS, List.mem_append, List.mem_cons, List.not_mem_nil, or_false] at hw
      rcases hw with (rfl | rfl | rfl) | rfl | hw
      · exact xw_mem (i := 4032) (by decide +kernel) rfl
      · exact xw_mem (i := 4033) (by decide +kernel) rfl
      · exact xw_mem (i := 1018) (by decide +kernel) rfl
      · exact xw_mem (i := 4034) (by decide +kernel) rfl
      · exact hw
    · intro a U g1 mk ⟨h1, h2, h3, h4⟩
      exact ⟨h1, xCx.same (u := U) (U := U.calling g1 mk a) rfl rfl h2, h3, va_T.moved (Vm.Alike.refl _) h4⟩
    · exact W.zret hx hb hr (xlet_ok _ hk).2 (fun t ht hW => ⟨rfl, by rw [ht]; exact hR, hS.F ht⟩) hS.2.2 dJ0_charAt_5068e_15 hlocks
theorem xstr (l : Launch) (D : va_G) (ar : Nat → ClassId) (N0 : Nat) (g : xG) : xStrM l D ar N0 g := ⟨met_length, met_charAt⟩
end STR
