/-! constants, classes, statics, written by wip/whole/gen.py -/
def iq_cnk (ow : Nat) (e : Nat × Value) : Prop := match e.2 with
  | .int v => Cond.constant (iq_nm ow) e.1 v ∈ iq_U
  | .ref k => 5000 ≤ k ∧ k < 5033 ∧ ∃ tx, (ow, e.1, tx, k - 5000) ∈ iq_srs
  | _ => False
theorem iq_cn2_0 : iq_cnk 2 (150, .int 1103515245) := (iq_mt6 (i := 171) rfl rfl)
theorem iq_cns_2 : ∀ e ∈ iq_cns 2, iq_cnk 2 e := List.forall_mem_cons.mpr ⟨iq_cn2_0, fun _ h => absurd h List.not_mem_nil⟩
theorem iq_cn4_0 : iq_cnk 4 (103, .int 1000000) := (iq_mt6 (i := 37) rfl rfl)
theorem iq_cns_4 : ∀ e ∈ iq_cns 4, iq_cnk 4 e := List.forall_mem_cons.mpr ⟨iq_cn4_0, fun _ h => absurd h List.not_mem_nil⟩
theorem iq_cn5_0 : iq_cnk 5 (57, .ref 5002) := ⟨by decide, by decide, "state", List.mem_of_getElem? (i := 2) rfl⟩
theorem iq_cn5_1 : iq_cnk 5 (106, .ref 5003) := ⟨by decide, by decide, "end", List.mem_of_getElem? (i := 3) rfl⟩
theorem iq_cn5_2 : iq_cnk 5 (66, .ref 5004) := ⟨by decide, by decide, "word", List.mem_of_getElem? (i := 4) rfl⟩
theorem iq_cn5_3 : iq_cnk 5 (71, .ref 5005) := ⟨by decide, by decide, "arc", List.mem_of_getElem? (i := 5) rfl⟩
theorem iq_cn5_4 : iq_cnk 5 (76, .ref 5006) := ⟨by decide, by decide, "cost", List.mem_of_getElem? (i := 6) rfl⟩
theorem iq_cn5_5 : iq_cnk 5 (81, .ref 5007) := ⟨by decide, by decide, "saying", List.mem_of_getElem? (i := 7) rfl⟩
theorem iq_cn5_6 : iq_cnk 5 (86, .ref 5008) := ⟨by decide, by decide, "habit", List.mem_of_getElem? (i := 8) rfl⟩
theorem iq_cn5_7 : iq_cnk 5 (230, .ref 5009) := ⟨by decide, by decide, "not", List.mem_of_getElem? (i := 9) rfl⟩
theorem iq_cn5_8 : iq_cnk 5 (250, .ref 5010) := ⟨by decide, by decide, "kind", List.mem_of_getElem? (i := 10) rfl⟩
theorem iq_cn5_9 : iq_cnk 5 (252, .ref 5011) := ⟨by decide, by decide, "letters", List.mem_of_getElem? (i := 11) rfl⟩
theorem iq_cn5_10 : iq_cnk 5 (254, .ref 5012) := ⟨by decide, by decide, "day", List.mem_of_getElem? (i := 12) rfl⟩
theorem iq_cn5_11 : iq_cnk 5 (256, .ref 5013) := ⟨by decide, by decide, "long", List.mem_of_getElem? (i := 13) rfl⟩
theorem iq_cn5_12 : iq_cnk 5 (258, .ref 5014) := ⟨by decide, by decide, "same", List.mem_of_getElem? (i := 14) rfl⟩
theorem iq_cn5_13 : iq_cnk 5 (260, .ref 5015) := ⟨by decide, by decide, "rhymes", List.mem_of_getElem? (i := 15) rfl⟩
theorem iq_cn5_14 : iq_cnk 5 (228, .ref 5016) := ⟨by decide, by decide, "and", List.mem_of_getElem? (i := 16) rfl⟩
theorem iq_cn5_15 : iq_cnk 5 (220, .ref 5017) := ⟨by decide, by decide, "or", List.mem_of_getElem? (i := 17) rfl⟩
theorem iq_cn5_16 : iq_cnk 5 (91, .ref 5018) := ⟨by decide, by decide, "law", List.mem_of_getElem? (i := 18) rfl⟩
theorem iq_cns_5 : ∀ e ∈ iq_cns 5, iq_cnk 5 e := List.forall_mem_cons.mpr ⟨iq_cn5_0, List.forall_mem_cons.mpr ⟨iq_cn5_1, List.forall_mem_cons.mpr ⟨iq_cn5_2, List.forall_mem_cons.mpr ⟨iq_cn5_3, List.forall_mem_cons.mpr ⟨iq_cn5_4, List.forall_mem_cons.mpr ⟨iq_cn5_5, List.forall_mem_cons.mpr ⟨iq_cn5_6, List.forall_mem_cons.mpr ⟨iq_cn5_7, List.forall_mem_cons.mpr ⟨iq_cn5_8, List.forall_mem_cons.mpr ⟨iq_cn5_9, List.forall_mem_cons.mpr ⟨iq_cn5_10, List.forall_mem_cons.mpr ⟨iq_cn5_11, List.forall_mem_cons.mpr ⟨iq_cn5_12, List.forall_mem_cons.mpr ⟨iq_cn5_13, List.forall_mem_cons.mpr ⟨iq_cn5_14, List.forall_mem_cons.mpr ⟨iq_cn5_15, List.forall_mem_cons.mpr ⟨iq_cn5_16, fun _ h => absurd h List.not_mem_nil⟩⟩⟩⟩⟩⟩⟩⟩⟩⟩⟩⟩⟩⟩⟩⟩⟩
theorem iq_cn8_0 : iq_cnk 8 (45, .ref 5001) := ⟨by decide, by decide, ";()+-*/<=", List.mem_of_getElem? (i := 1) rfl⟩
theorem iq_cns_8 : ∀ e ∈ iq_cns 8, iq_cnk 8 e := List.forall_mem_cons.mpr ⟨iq_cn8_0, fun _ h => absurd h List.not_mem_nil⟩
theorem iq_cn9_0 : iq_cnk 9 (84, .ref 5000) := ⟨by decide, by decide, "the tape has not so many bytes", List.mem_of_getElem? (i := 0) rfl⟩
theorem iq_cn9_1 : iq_cnk 9 (155, .ref 5019) := ⟨by decide, by decide, "nothing of that is counted", List.mem_of_getElem? (i := 19) rfl⟩
theorem iq_cn9_2 : iq_cnk 9 (338, .ref 5020) := ⟨by decide, by decide, "no such word", List.mem_of_getElem? (i := 20) rfl⟩
theorem iq_cn9_3 : iq_cnk 9 (164, .ref 5021) := ⟨by decide, by decide, "no such letter", List.mem_of_getElem? (i := 21) rfl⟩
theorem iq_cn9_4 : iq_cnk 9 (336, .ref 5022) := ⟨by decide, by decide, "no such state", List.mem_of_getElem? (i := 22) rfl⟩
theorem iq_cn9_5 : iq_cnk 9 (340, .ref 5023) := ⟨by decide, by decide, "no such kind", List.mem_of_getElem? (i := 23) rfl⟩
theorem iq_cn9_6 : iq_cnk 9 (342, .ref 5024) := ⟨by decide, by decide, "no such saying", List.mem_of_getElem? (i := 24) rfl⟩
theorem iq_cn9_7 : iq_cnk 9 (344, .ref 5025) := ⟨by decide, by decide, "no such place in the saying", List.mem_of_getElem? (i := 25) rfl⟩
theorem iq_cn9_8 : iq_cnk 9 (346, .ref 5026) := ⟨by decide, by decide, "no such place in a row", List.mem_of_getElem? (i := 26) rfl⟩
theorem iq_cn9_9 : iq_cnk 9 (238, .ref 5027) := ⟨by decide, by decide, "ways are of 0 to 12 words", List.mem_of_getElem? (i := 27) rfl⟩
theorem iq_cn9_10 : iq_cnk 9 (348, .ref 5028) := ⟨by decide, by decide, "nothing of that is known", List.mem_of_getElem? (i := 28) rfl⟩
theorem iq_cn9_11 : iq_cnk 9 (253, .ref 5029) := ⟨by decide, by decide, "from 0 to 60 can be spent", List.mem_of_getElem? (i := 29) rfl⟩
theorem iq_cn9_12 : iq_cnk 9 (265, .ref 5030) := ⟨by decide, by decide, "no such visitor", List.mem_of_getElem? (i := 30) rfl⟩
theorem iq_cn9_13 : iq_cnk 9 (296, .ref 5031) := ⟨by decide, by decide, "a season has 0 to 60 times", List.mem_of_getElem? (i := 31) rfl⟩
theorem iq_cn9_14 : iq_cnk 9 (316, .ref 5032) := ⟨by decide, by decide, "no words mend it", List.mem_of_getElem? (i := 32) rfl⟩
theorem iq_cns_9 : ∀ e ∈ iq_cns 9, iq_cnk 9 e := List.forall_mem_cons.mpr ⟨iq_cn9_0, List.forall_mem_cons.mpr ⟨iq_cn9_1, List.forall_mem_cons.mpr ⟨iq_cn9_2, List.forall_mem_cons.mpr ⟨iq_cn9_3, List.forall_mem_cons.mpr ⟨iq_cn9_4, List.forall_mem_cons.mpr ⟨iq_cn9_5, List.forall_mem_cons.mpr ⟨iq_cn9_6, List.forall_mem_cons.mpr ⟨iq_cn9_7, List.forall_mem_cons.mpr ⟨iq_cn9_8, List.forall_mem_cons.mpr ⟨iq_cn9_9, List.forall_mem_cons.mpr ⟨iq_cn9_10, List.forall_mem_cons.mpr ⟨iq_cn9_11, List.forall_mem_cons.mpr ⟨iq_cn9_12, List.forall_mem_cons.mpr ⟨iq_cn9_13, List.forall_mem_cons.mpr ⟨iq_cn9_14, fun _ h => absurd h List.not_mem_nil⟩⟩⟩⟩⟩⟩⟩⟩⟩⟩⟩⟩⟩⟩⟩
theorem iq_cn10_0 : iq_cnk 10 (427, .int 1000000) := (iq_mt9 (i := 130) rfl rfl)
theorem iq_cn10_1 : iq_cnk 10 (461, .int 1103515245) := (iq_mt10 (i := 5) rfl rfl)
theorem iq_cns_10 : ∀ e ∈ iq_cns 10, iq_cnk 10 e := List.forall_mem_cons.mpr ⟨iq_cn10_0, List.forall_mem_cons.mpr ⟨iq_cn10_1, fun _ h => absurd h List.not_mem_nil⟩⟩
theorem iq_cn12_0 : iq_cnk 12 (265, .int 1431655765) := (iq_mt2 (i := 227) rfl rfl)
theorem iq_cn12_1 : iq_cnk 12 (266, .int 858993459) := (iq_mt2 (i := 228) rfl rfl)
theorem iq_cn12_2 : iq_cnk 12 (267, .int 252645135) := (iq_mt2 (i := 229) rfl rfl)
theorem iq_cns_12 : ∀ e ∈ iq_cns 12, iq_cnk 12 e := List.forall_mem_cons.mpr ⟨iq_cn12_0, List.forall_mem_cons.mpr ⟨iq_cn12_1, List.forall_mem_cons.mpr ⟨iq_cn12_2, fun _ h => absurd h List.not_mem_nil⟩⟩⟩
theorem iq_cns_ok (ow : Nat) : ∀ e ∈ iq_cns ow, iq_cnk ow e := by
  intro e he
  unfold iq_cns at he
  split at he
  · exact iq_cns_2 e he
  · exact iq_cns_4 e he
  · exact iq_cns_5 e he
  · exact iq_cns_8 e he
  · exact iq_cns_9 e he
  · exact iq_cns_10 e he
  · exact iq_cns_12 e he
  · simp at he
theorem iq_cnl_ok (ow : Nat) : ∀ e ∈ iq_cnl ow, Cond.constantLong (iq_nm ow) e.1 e.2 ∈ iq_U := by
  intro e he
  unfold iq_cnl at he
  split at he
  · simp only [List.mem_cons, List.not_mem_nil, or_false] at he
    subst he
    exact (iq_mt8 (i := 109) rfl rfl)
  · simp at he
def iq_clk (ow : Nat) (e : Nat × Nat) : Prop := (e.2 = 50 ∧ Cond.classLink (iq_nm ow) e.1 "java/util/NoSuchElementException" ∈ iq_U) ∨ (e.2 = 51 ∧ Cond.classLink (iq_nm ow) e.1 "java/lang/IllegalArgumentException" ∈ iq_U) ∨ ∃ (CC : String) (TT : u_T) (N : Nat), vwCl[e.2]? = some (CC, TT, N) ∧ Cond.classLink (iq_nm ow) e.1 CC ∈ iq_U ∧ Cond.instantiable CC N ∈ iq_U ∧ Cond.initialized CC ∈ iq_U
theorem iq_cl1_0 : iq_clk 1 (18, 0) := Or.inr (Or.inr ⟨RX0, TX0, 5, rfl, (iq_mt1 (i := 144) rfl rfl), (iq_mt1 (i := 145) rfl rfl), (iq_mt1 (i := 6) rfl rfl)⟩)
theorem iq_cls_1 : ∀ e ∈ iq_cls 1, iq_clk 1 e := List.forall_mem_cons.mpr ⟨iq_cl1_0, fun _ h => absurd h List.not_mem_nil⟩
theorem iq_cl3_0 : iq_clk 3 (21, 7) := Or.inr (Or.inr ⟨RX7, TX7, 7, rfl, (iq_mt1 (i := 40) rfl rfl), (iq_mt1 (i := 41) rfl rfl), (iq_mt1 (i := 3) rfl rfl)⟩)
theorem iq_cls_3 : ∀ e ∈ iq_cls 3, iq_clk 3 e := List.forall_mem_cons.mpr ⟨iq_cl3_0, fun _ h => absurd h List.not_mem_nil⟩
theorem iq_cl5_0 : iq_clk 5 (9, 8) := Or.inr (Or.inr ⟨RX8, TX8, 5, rfl, (iq_mt1 (i := 220) rfl rfl), (iq_mt1 (i := 221) rfl rfl), (iq_mt1 (i := 8) rfl rfl)⟩)
theorem iq_cls_5 : ∀ e ∈ iq_cls 5, iq_clk 5 e := List.forall_mem_cons.mpr ⟨iq_cl5_0, fun _ h => absurd h List.not_mem_nil⟩
theorem iq_cl9_0 : iq_clk 9 (16, 3) := Or.inr (Or.inr ⟨RX3, TX3, 13, rfl, (iq_mt1 (i := 34) rfl rfl), (iq_mt1 (i := 35) rfl rfl), (iq_mt1 (i := 2) rfl rfl)⟩)
theorem iq_cl9_1 : iq_clk 9 (23, 1) := Or.inr (Or.inr ⟨RX1, TX1, 9, rfl, (iq_mt1 (i := 138) rfl rfl), (iq_mt1 (i := 139) rfl rfl), (iq_mt1 (i := 5) rfl rfl)⟩)
theorem iq_cl9_2 : iq_clk 9 (39, 5) := Or.inr (Or.inr ⟨RX5, TX5, 5, rfl, (iq_mt1 (i := 214) rfl rfl), (iq_mt1 (i := 215) rfl rfl), (iq_mt1 (i := 7) rfl rfl)⟩)
theorem iq_cl9_3 : iq_clk 9 (48, 4) := Or.inr (Or.inr ⟨RX4, TX4, 8, rfl, (iq_mt2 (i := 21) rfl rfl), (iq_mt2 (i := 22) rfl rfl), (iq_mt1 (i := 9) rfl rfl)⟩)
theorem iq_cl9_4 : iq_clk 9 (57, 2) := Or.inr (Or.inr ⟨RX2, TX2, 5, rfl, (iq_mt2 (i := 53) rfl rfl), (iq_mt2 (i := 54) rfl rfl), (iq_mt1 (i := 10) rfl rfl)⟩)
theorem iq_cl9_5 : iq_clk 9 (64, 6) := Or.inr (Or.inr ⟨RX6, TX6, 6, rfl, (iq_mt2 (i := 75) rfl rfl), (iq_mt2 (i := 76) rfl rfl), (iq_mt1 (i := 11) rfl rfl)⟩)
theorem iq_cl9_6 : iq_clk 9 (82, 51) := Or.inr (Or.inl ⟨rfl, (iq_mt3 (i := 56) rfl rfl)⟩)
theorem iq_cl9_7 : iq_clk 9 (153, 50) := Or.inl ⟨rfl, (iq_mt5 (i := 1) rfl rfl)⟩
theorem iq_cls_9 : ∀ e ∈ iq_cls 9, iq_clk 9 e := List.forall_mem_cons.mpr ⟨iq_cl9_0, List.forall_mem_cons.mpr ⟨iq_cl9_1, List.forall_mem_cons.mpr ⟨iq_cl9_2, List.forall_mem_cons.mpr ⟨iq_cl9_3, List.forall_mem_cons.mpr ⟨iq_cl9_4, List.forall_mem_cons.mpr ⟨iq_cl9_5, List.forall_mem_cons.mpr ⟨iq_cl9_6, List.forall_mem_cons.mpr ⟨iq_cl9_7, fun _ h => absurd h List.not_mem_nil⟩⟩⟩⟩⟩⟩⟩⟩
theorem iq_cl11_0 : iq_clk 11 (8, 9) := Or.inr (Or.inr ⟨RX9, TX9, 14, rfl, (iq_mt1 (i := 26) rfl rfl), (iq_mt1 (i := 27) rfl rfl), (iq_mt1 (i := 1) rfl rfl)⟩)
theorem iq_cl11_1 : iq_clk 11 (13, 51) := Or.inr (Or.inl ⟨rfl, (iq_mt3 (i := 51) rfl rfl)⟩)
theorem iq_cl11_2 : iq_clk 11 (18, 50) := Or.inl ⟨rfl, (iq_mt4 (i := 226) rfl rfl)⟩
theorem iq_cl11_3 : iq_clk 11 (115, 10) := Or.inr (Or.inr ⟨RX10, TX10, 74, rfl, (iq_mt7 (i := 67) rfl rfl), (iq_mt7 (i := 68) rfl rfl), (iq_mt1 (i := 12) rfl rfl)⟩)
theorem iq_cls_11 : ∀ e ∈ iq_cls 11, iq_clk 11 e := List.forall_mem_cons.mpr ⟨iq_cl11_0, List.forall_mem_cons.mpr ⟨iq_cl11_1, List.forall_mem_cons.mpr ⟨iq_cl11_2, List.forall_mem_cons.mpr ⟨iq_cl11_3, fun _ h => absurd h List.not_mem_nil⟩⟩⟩⟩
theorem iq_cls_ok (ow : Nat) : ∀ e ∈ iq_cls ow, iq_clk ow e := by
  intro e he
  unfold iq_cls at he
  split at he
  · exact iq_cls_1 e he
  · exact iq_cls_3 e he
  · exact iq_cls_5 e he
  · exact iq_cls_9 e he
  · exact iq_cls_11 e he
  · simp at he
theorem iq_born_ok {ci : Nat} {fs : List Nat} (h : iq_born ci = some fs) : ∃ (CC : String) (TT : u_T) (N : Nat) (ty : Nat → FieldType), vwCl[ci]? = some (CC, TT, N) ∧ fs.length = N ∧ (∀ k, k < N → parseFieldDescriptor (TT k).2.2.1 = some (ty k)) ∧ ∀ j, j < N → defaultValue (ty j) = vp_V (fs.map fun d => if d = 1 then Value.int 0 else if d = 2 then .long 0 else .null) j ∧ (fs.getD j 0 = 0 ∨ fs.getD j 0 = 1 ∨ fs.getD j 0 = 2) := by
  unfold iq_born at h
  split at h
  · cases h; exact ⟨RX0, TX0, 5, tyX0, rfl, rfl, tyX0_ok, by decide +kernel⟩
  · cases h; exact ⟨RX1, TX1, 9, tyX1, rfl, rfl, tyX1_ok, by decide +kernel⟩
  · cases h; exact ⟨RX2, TX2, 5, tyX2, rfl, rfl, tyX2_ok, by decide +kernel⟩
  · cases h; exact ⟨RX3, TX3, 13, tyX3, rfl, rfl, tyX3_ok, by decide +kernel⟩
  · cases h; exact ⟨RX4, TX4, 8, tyX4, rfl, rfl, tyX4_ok, by decide +kernel⟩
  · cases h; exact ⟨RX5, TX5, 5, tyX5, rfl, rfl, tyX5_ok, by decide +kernel⟩
  · cases h; exact ⟨RX6, TX6, 6, tyX6, rfl, rfl, tyX6_ok, by decide +kernel⟩
  · cases h; exact ⟨RX7, TX7, 7, tyX7, rfl, rfl, tyX7_ok, by decide +kernel⟩
  · cases h; exact ⟨RX8, TX8, 5, tyX8, rfl, rfl, tyX8_ok, by decide +kernel⟩
  · cases h; exact ⟨RX9, TX9, 14, tyX9, rfl, rfl, tyX9_ok, by decide +kernel⟩
  · cases h; exact ⟨RX10, TX10, 74, tyX10, rfl, rfl, tyX10_ok, by decide +kernel⟩
  · cases h
theorem iq_w_COMPACT_STRINGS : Cond.fieldLink (iq_nm 14) 38 "java/lang/String" "COMPACT_STRINGS" "Z" ∈ iq_U := (iq_mt3 (i := 171) rfl rfl)
theorem iq_w_SIOOBE_FORMATTER : Cond.fieldLink (iq_nm 14) 1053 "jdk/internal/util/Preconditions" "SIOOBE_FORMATTER" "Ljava/util/function/BiFunction;" ∈ iq_U := (iq_mt3 (i := 212) rfl rfl)
theorem iq_w_str1 : Cond.fieldLink (iq_nm 14) 15 "java/lang/String" "coder" "B" ∈ iq_U := (iq_mt10 (i := 30) rfl rfl)
theorem iq_w_str0 : Cond.fieldLink (iq_nm 14) 9 "java/lang/String" "value" "[B" ∈ iq_U := (iq_mt10 (i := 31) rfl rfl)
theorem iq_fdsS : iq_fds 14 = [(15, (20, 1, 0)), (9, (20, 0, 3))] := rfl
theorem iq_f20 {ow idx f ty : Nat} (h : (idx, (20, f, ty)) ∈ iq_fds ow) : ow = 14 := by
  unfold iq_fds at h
  split at h <;> first | rfl | (simp at h)
theorem iq_w_iniN : Cond.initialized "java/util/NoSuchElementException" ∈ iq_U := (iq_mt1 (i := 24) rfl rfl)
theorem iq_w_iniI : Cond.initialized "java/lang/IllegalArgumentException" ∈ iq_U := (iq_mt1 (i := 16) rfl rfl)
