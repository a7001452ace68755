/-! the words of methods, written by wip/whole/gen.py -/
def iq_cdw (mi : Nat) : Cond := match iq_hh mi with
  | [] => .code (iq_y mi) (iq_cc mi) (iq_ml mi) (iq_rty mi)
  | hh => .codeWith (iq_y mi) (iq_cc mi) (iq_ml mi) (iq_rty mi) hh
def iq_rtk : Nat → Option FieldType → Prop
  | 0, t => t = some .int
  | 1, t => t = some .boolean
  | 2, t => t = some .byte
  | 3, t => t = some .char
  | 4, t => t = some .long
  | 5, t => t = none
  | _, _ => False
def iq_cok (mi : Nat) : Prop := (iq_y mi).cls = iq_nm (iq_ow mi) ∧ plainName (iq_y mi).cls = true ∧ ((iq_y mi).cls ≠ "java/lang/invoke/MethodHandle" ∧ (iq_y mi).cls ≠ "java/lang/invoke/VarHandle") ∧ iq_rtk (iq_rt mi) (iq_rty mi) ∧ (iq_ini mi = true → (iq_y mi).name = "<init>") ∧ Cond.initialized (iq_nm (iq_ow mi)) ∈ iq_U ∧ iq_cdw mi ∈ iq_U ∧ iq_isL mi = false ∧ iq_ml mi ≤ 16
theorem iq_pl9 : plainName (iq_nm 9) = true ∧ (iq_nm 9 ≠ "java/lang/invoke/MethodHandle" ∧ iq_nm 9 ≠ "java/lang/invoke/VarHandle") := by decide +kernel
theorem iq_in9 : Cond.initialized (iq_nm 9) ∈ iq_U := (iq_mt1 (i := 1) rfl rfl)
theorem iq_pl0 : plainName (iq_nm 0) = true ∧ (iq_nm 0 ≠ "java/lang/invoke/MethodHandle" ∧ iq_nm 0 ≠ "java/lang/invoke/VarHandle") := by decide +kernel
theorem iq_in0 : Cond.initialized (iq_nm 0) ∈ iq_U := (iq_mt1 (i := 6) rfl rfl)
theorem iq_pl1 : plainName (iq_nm 1) = true ∧ (iq_nm 1 ≠ "java/lang/invoke/MethodHandle" ∧ iq_nm 1 ≠ "java/lang/invoke/VarHandle") := by decide +kernel
theorem iq_in1 : Cond.initialized (iq_nm 1) ∈ iq_U := (iq_mt1 (i := 5) rfl rfl)
theorem iq_pl2 : plainName (iq_nm 2) = true ∧ (iq_nm 2 ≠ "java/lang/invoke/MethodHandle" ∧ iq_nm 2 ≠ "java/lang/invoke/VarHandle") := by decide +kernel
theorem iq_in2 : Cond.initialized (iq_nm 2) ∈ iq_U := (iq_mt1 (i := 10) rfl rfl)
theorem iq_pl3 : plainName (iq_nm 3) = true ∧ (iq_nm 3 ≠ "java/lang/invoke/MethodHandle" ∧ iq_nm 3 ≠ "java/lang/invoke/VarHandle") := by decide +kernel
theorem iq_in3 : Cond.initialized (iq_nm 3) ∈ iq_U := (iq_mt1 (i := 2) rfl rfl)
theorem iq_pl4 : plainName (iq_nm 4) = true ∧ (iq_nm 4 ≠ "java/lang/invoke/MethodHandle" ∧ iq_nm 4 ≠ "java/lang/invoke/VarHandle") := by decide +kernel
theorem iq_in4 : Cond.initialized (iq_nm 4) ∈ iq_U := (iq_mt1 (i := 9) rfl rfl)
theorem iq_pl5 : plainName (iq_nm 5) = true ∧ (iq_nm 5 ≠ "java/lang/invoke/MethodHandle" ∧ iq_nm 5 ≠ "java/lang/invoke/VarHandle") := by decide +kernel
theorem iq_in5 : Cond.initialized (iq_nm 5) ∈ iq_U := (iq_mt1 (i := 7) rfl rfl)
theorem iq_pl6 : plainName (iq_nm 6) = true ∧ (iq_nm 6 ≠ "java/lang/invoke/MethodHandle" ∧ iq_nm 6 ≠ "java/lang/invoke/VarHandle") := by decide +kernel
theorem iq_in6 : Cond.initialized (iq_nm 6) ∈ iq_U := (iq_mt1 (i := 11) rfl rfl)
theorem iq_pl7 : plainName (iq_nm 7) = true ∧ (iq_nm 7 ≠ "java/lang/invoke/MethodHandle" ∧ iq_nm 7 ≠ "java/lang/invoke/VarHandle") := by decide +kernel
theorem iq_in7 : Cond.initialized (iq_nm 7) ∈ iq_U := (iq_mt1 (i := 3) rfl rfl)
theorem iq_pl8 : plainName (iq_nm 8) = true ∧ (iq_nm 8 ≠ "java/lang/invoke/MethodHandle" ∧ iq_nm 8 ≠ "java/lang/invoke/VarHandle") := by decide +kernel
theorem iq_in8 : Cond.initialized (iq_nm 8) ∈ iq_U := (iq_mt1 (i := 8) rfl rfl)
theorem iq_pl11 : plainName (iq_nm 11) = true ∧ (iq_nm 11 ≠ "java/lang/invoke/MethodHandle" ∧ iq_nm 11 ≠ "java/lang/invoke/VarHandle") := by decide +kernel
theorem iq_in11 : Cond.initialized (iq_nm 11) ∈ iq_U := (iq_mt1 (i := 0) rfl rfl)
theorem iq_pl10 : plainName (iq_nm 10) = true ∧ (iq_nm 10 ≠ "java/lang/invoke/MethodHandle" ∧ iq_nm 10 ≠ "java/lang/invoke/VarHandle") := by decide +kernel
theorem iq_in10 : Cond.initialized (iq_nm 10) ∈ iq_U := (iq_mt1 (i := 12) rfl rfl)
theorem iq_pl12 : plainName (iq_nm 12) = true ∧ (iq_nm 12 ≠ "java/lang/invoke/MethodHandle" ∧ iq_nm 12 ≠ "java/lang/invoke/VarHandle") := by decide +kernel
theorem iq_in12 : Cond.initialized (iq_nm 12) ∈ iq_U := (iq_mt1 (i := 25) rfl rfl)
theorem iq_pl14 : plainName (iq_nm 14) = true ∧ (iq_nm 14 ≠ "java/lang/invoke/MethodHandle" ∧ iq_nm 14 ≠ "java/lang/invoke/VarHandle") := by decide +kernel
theorem iq_in14 : Cond.initialized (iq_nm 14) ∈ iq_U := (iq_mt1 (i := 18) rfl rfl)
theorem iq_pl15 : plainName (iq_nm 15) = true ∧ (iq_nm 15 ≠ "java/lang/invoke/MethodHandle" ∧ iq_nm 15 ≠ "java/lang/invoke/VarHandle") := by decide +kernel
theorem iq_in15 : Cond.initialized (iq_nm 15) ∈ iq_U := (iq_mt1 (i := 19) rfl rfl)
theorem iq_pl16 : plainName (iq_nm 16) = true ∧ (iq_nm 16 ≠ "java/lang/invoke/MethodHandle" ∧ iq_nm 16 ≠ "java/lang/invoke/VarHandle") := by decide +kernel
theorem iq_in16 : Cond.initialized (iq_nm 16) ∈ iq_U := (iq_mt1 (i := 4) rfl rfl)
theorem iq_pl17 : plainName (iq_nm 17) = true ∧ (iq_nm 17 ≠ "java/lang/invoke/MethodHandle" ∧ iq_nm 17 ≠ "java/lang/invoke/VarHandle") := by decide +kernel
theorem iq_in17 : Cond.initialized (iq_nm 17) ∈ iq_U := (iq_mt1 (i := 21) rfl rfl)
theorem iq_c0 : iq_cok 0 := ⟨rfl, iq_pl0.1, iq_pl0.2, rfl, by first | (intro _; rfl) | (intro h; cases h), iq_in0, (iq_mt1 (i := 148) rfl rfl), rfl, by decide⟩
theorem iq_c1 : iq_cok 1 := ⟨rfl, iq_pl0.1, iq_pl0.2, rfl, by first | (intro _; rfl) | (intro h; cases h), iq_in0, (iq_mt2 (i := 166) rfl rfl), rfl, by decide⟩
theorem iq_c2 : iq_cok 2 := ⟨rfl, iq_pl0.1, iq_pl0.2, rfl, by first | (intro _; rfl) | (intro h; cases h), iq_in0, (iq_mt2 (i := 170) rfl rfl), rfl, by decide⟩
theorem iq_c3 : iq_cok 3 := ⟨rfl, iq_pl0.1, iq_pl0.2, rfl, by first | (intro _; rfl) | (intro h; cases h), iq_in0, (iq_mt3 (i := 43) rfl rfl), rfl, by decide⟩
theorem iq_c4 : iq_cok 4 := ⟨rfl, iq_pl1.1, iq_pl1.2, rfl, by first | (intro _; rfl) | (intro h; cases h), iq_in1, (iq_mt1 (i := 142) rfl rfl), rfl, by decide⟩
theorem iq_c5 : iq_cok 5 := ⟨rfl, iq_pl1.1, iq_pl1.2, rfl, by first | (intro _; rfl) | (intro h; cases h), iq_in1, (iq_mt3 (i := 139) rfl rfl), rfl, by decide⟩
theorem iq_c6 : iq_cok 6 := ⟨rfl, iq_pl1.1, iq_pl1.2, rfl, by first | (intro _; rfl) | (intro h; cases h), iq_in1, (iq_mt3 (i := 39) rfl rfl), rfl, by decide⟩
theorem iq_c7 : iq_cok 7 := ⟨rfl, iq_pl1.1, iq_pl1.2, rfl, by first | (intro _; rfl) | (intro h; cases h), iq_in1, (iq_mt4 (i := 131) rfl rfl), rfl, by decide⟩
theorem iq_c8 : iq_cok 8 := ⟨rfl, iq_pl1.1, iq_pl1.2, rfl, by first | (intro _; rfl) | (intro h; cases h), iq_in1, (iq_mt2 (i := 210) rfl rfl), rfl, by decide⟩
theorem iq_c9 : iq_cok 9 := ⟨rfl, iq_pl1.1, iq_pl1.2, rfl, by first | (intro _; rfl) | (intro h; cases h), iq_in1, (iq_mt2 (i := 189) rfl rfl), rfl, by decide⟩
theorem iq_c10 : iq_cok 10 := ⟨rfl, iq_pl1.1, iq_pl1.2, rfl, by first | (intro _; rfl) | (intro h; cases h), iq_in1, (iq_mt2 (i := 219) rfl rfl), rfl, by decide⟩
theorem iq_c11 : iq_cok 11 := ⟨rfl, iq_pl1.1, iq_pl1.2, rfl, by first | (intro _; rfl) | (intro h; cases h), iq_in1, (iq_mt4 (i := 239) rfl rfl), rfl, by decide⟩
theorem iq_c12 : iq_cok 12 := ⟨rfl, iq_pl1.1, iq_pl1.2, rfl, by first | (intro _; rfl) | (intro h; cases h), iq_in1, (iq_mt5 (i := 119) rfl rfl), rfl, by decide⟩
theorem iq_c13 : iq_cok 13 := ⟨rfl, iq_pl1.1, iq_pl1.2, rfl, by first | (intro _; rfl) | (intro h; cases h), iq_in1, (iq_mt2 (i := 194) rfl rfl), rfl, by decide⟩
theorem iq_c14 : iq_cok 14 := ⟨rfl, iq_pl1.1, iq_pl1.2, rfl, by first | (intro _; rfl) | (intro h; cases h), iq_in1, (iq_mt2 (i := 185) rfl rfl), rfl, by decide⟩
theorem iq_c15 : iq_cok 15 := ⟨rfl, iq_pl1.1, iq_pl1.2, rfl, by first | (intro _; rfl) | (intro h; cases h), iq_in1, (iq_mt2 (i := 162) rfl rfl), rfl, by decide⟩
theorem iq_c16 : iq_cok 16 := ⟨rfl, iq_pl1.1, iq_pl1.2, rfl, by first | (intro _; rfl) | (intro h; cases h), iq_in1, (iq_mt2 (i := 181) rfl rfl), rfl, by decide⟩
theorem iq_c17 : iq_cok 17 := ⟨rfl, iq_pl1.1, iq_pl1.2, rfl, by first | (intro _; rfl) | (intro h; cases h), iq_in1, (iq_mt6 (i := 96) rfl rfl), rfl, by decide⟩
theorem iq_c18 : iq_cok 18 := ⟨rfl, iq_pl2.1, iq_pl2.2, rfl, by first | (intro _; rfl) | (intro h; cases h), iq_in2, (iq_mt2 (i := 57) rfl rfl), rfl, by decide⟩
theorem iq_c19 : iq_cok 19 := ⟨rfl, iq_pl2.1, iq_pl2.2, rfl, by first | (intro _; rfl) | (intro h; cases h), iq_in2, (iq_mt5 (i := 85) rfl rfl), rfl, by decide⟩
theorem iq_c20 : iq_cok 20 := ⟨rfl, iq_pl2.1, iq_pl2.2, rfl, by first | (intro _; rfl) | (intro h; cases h), iq_in2, (iq_mt6 (i := 229) rfl rfl), rfl, by decide⟩
theorem iq_c21 : iq_cok 21 := ⟨rfl, iq_pl2.1, iq_pl2.2, rfl, by first | (intro _; rfl) | (intro h; cases h), iq_in2, (iq_mt5 (i := 90) rfl rfl), rfl, by decide⟩
theorem iq_c22 : iq_cok 22 := ⟨rfl, iq_pl2.1, iq_pl2.2, rfl, by first | (intro _; rfl) | (intro h; cases h), iq_in2, (iq_mt5 (i := 101) rfl rfl), rfl, by decide⟩
theorem iq_c23 : iq_cok 23 := ⟨rfl, iq_pl2.1, iq_pl2.2, rfl, by first | (intro _; rfl) | (intro h; cases h), iq_in2, (iq_mt5 (i := 105) rfl rfl), rfl, by decide⟩
theorem iq_c24 : iq_cok 24 := ⟨rfl, iq_pl2.1, iq_pl2.2, rfl, by first | (intro _; rfl) | (intro h; cases h), iq_in2, (iq_mt6 (i := 75) rfl rfl), rfl, by decide⟩
theorem iq_c25 : iq_cok 25 := ⟨rfl, iq_pl2.1, iq_pl2.2, rfl, by first | (intro _; rfl) | (intro h; cases h), iq_in2, (iq_mt6 (i := 82) rfl rfl), rfl, by decide⟩
theorem iq_c26 : iq_cok 26 := ⟨rfl, iq_pl2.1, iq_pl2.2, rfl, by first | (intro _; rfl) | (intro h; cases h), iq_in2, (iq_mt6 (i := 71) rfl rfl), rfl, by decide⟩
theorem iq_c27 : iq_cok 27 := ⟨rfl, iq_pl2.1, iq_pl2.2, rfl, by first | (intro _; rfl) | (intro h; cases h), iq_in2, (iq_mt6 (i := 85) rfl rfl), rfl, by decide⟩
theorem iq_c28 : iq_cok 28 := ⟨rfl, iq_pl2.1, iq_pl2.2, rfl, by first | (intro _; rfl) | (intro h; cases h), iq_in2, (iq_mt6 (i := 107) rfl rfl), rfl, by decide⟩
theorem iq_c29 : iq_cok 29 := ⟨rfl, iq_pl2.1, iq_pl2.2, rfl, by first | (intro _; rfl) | (intro h; cases h), iq_in2, (iq_mt6 (i := 115) rfl rfl), rfl, by decide⟩
theorem iq_c30 : iq_cok 30 := ⟨rfl, iq_pl2.1, iq_pl2.2, rfl, by first | (intro _; rfl) | (intro h; cases h), iq_in2, (iq_mt6 (i := 111) rfl rfl), rfl, by decide⟩
theorem iq_c31 : iq_cok 31 := ⟨rfl, iq_pl2.1, iq_pl2.2, rfl, by first | (intro _; rfl) | (intro h; cases h), iq_in2, (iq_mt6 (i := 167) rfl rfl), rfl, by decide⟩
theorem iq_c32 : iq_cok 32 := ⟨rfl, iq_pl2.1, iq_pl2.2, rfl, by first | (intro _; rfl) | (intro h; cases h), iq_in2, (iq_mt6 (i := 170) rfl rfl), rfl, by decide⟩
theorem iq_c33 : iq_cok 33 := ⟨rfl, iq_pl2.1, iq_pl2.2, rfl, by first | (intro _; rfl) | (intro h; cases h), iq_in2, (iq_mt6 (i := 174) rfl rfl), rfl, by decide⟩
theorem iq_c34 : iq_cok 34 := ⟨rfl, iq_pl2.1, iq_pl2.2, rfl, by first | (intro _; rfl) | (intro h; cases h), iq_in2, (iq_mt6 (i := 178) rfl rfl), rfl, by decide⟩
theorem iq_c35 : iq_cok 35 := ⟨rfl, iq_pl3.1, iq_pl3.2, rfl, by first | (intro _; rfl) | (intro h; cases h), iq_in3, (iq_mt1 (i := 38) rfl rfl), rfl, by decide⟩
theorem iq_c36 : iq_cok 36 := ⟨rfl, iq_pl3.1, iq_pl3.2, rfl, by first | (intro _; rfl) | (intro h; cases h), iq_in3, (iq_mt3 (i := 130) rfl rfl), rfl, by decide⟩
theorem iq_c37 : iq_cok 37 := ⟨rfl, iq_pl3.1, iq_pl3.2, rfl, by first | (intro _; rfl) | (intro h; cases h), iq_in3, (iq_mt4 (i := 216) rfl rfl), rfl, by decide⟩
theorem iq_c38 : iq_cok 38 := ⟨rfl, iq_pl3.1, iq_pl3.2, rfl, by first | (intro _; rfl) | (intro h; cases h), iq_in3, (iq_mt4 (i := 46) rfl rfl), rfl, by decide⟩
theorem iq_c39 : iq_cok 39 := ⟨rfl, iq_pl3.1, iq_pl3.2, rfl, by first | (intro _; rfl) | (intro h; cases h), iq_in3, (iq_mt4 (i := 99) rfl rfl), rfl, by decide⟩
theorem iq_c40 : iq_cok 40 := ⟨rfl, iq_pl3.1, iq_pl3.2, rfl, by first | (intro _; rfl) | (intro h; cases h), iq_in3, (iq_mt4 (i := 87) rfl rfl), rfl, by decide⟩
theorem iq_c41 : iq_cok 41 := ⟨rfl, iq_pl3.1, iq_pl3.2, rfl, by first | (intro _; rfl) | (intro h; cases h), iq_in3, (iq_mt4 (i := 113) rfl rfl), rfl, by decide⟩
theorem iq_c42 : iq_cok 42 := ⟨rfl, iq_pl3.1, iq_pl3.2, rfl, by first | (intro _; rfl) | (intro h; cases h), iq_in3, (iq_mt4 (i := 122) rfl rfl), rfl, by decide⟩
theorem iq_c43 : iq_cok 43 := ⟨rfl, iq_pl3.1, iq_pl3.2, rfl, by first | (intro _; rfl) | (intro h; cases h), iq_in3, (iq_mt4 (i := 79) rfl rfl), rfl, by decide⟩
theorem iq_c44 : iq_cok 44 := ⟨rfl, iq_pl3.1, iq_pl3.2, rfl, by first | (intro _; rfl) | (intro h; cases h), iq_in3, (iq_mt5 (i := 110) rfl rfl), rfl, by decide⟩
theorem iq_c45 : iq_cok 45 := ⟨rfl, iq_pl3.1, iq_pl3.2, rfl, by first | (intro _; rfl) | (intro h; cases h), iq_in3, (iq_mt4 (i := 75) rfl rfl), rfl, by decide⟩
theorem iq_c46 : iq_cok 46 := ⟨rfl, iq_pl3.1, iq_pl3.2, rfl, by first | (intro _; rfl) | (intro h; cases h), iq_in3, (iq_mt5 (i := 114) rfl rfl), rfl, by decide⟩
theorem iq_c47 : iq_cok 47 := ⟨rfl, iq_pl3.1, iq_pl3.2, rfl, by first | (intro _; rfl) | (intro h; cases h), iq_in3, (iq_mt6 (i := 41) rfl rfl), rfl, by decide⟩
theorem iq_c48 : iq_cok 48 := ⟨rfl, iq_pl3.1, iq_pl3.2, rfl, by first | (intro _; rfl) | (intro h; cases h), iq_in3, (iq_mt3 (i := 1) rfl rfl), rfl, by decide⟩
theorem iq_c49 : iq_cok 49 := ⟨rfl, iq_pl3.1, iq_pl3.2, rfl, by first | (intro _; rfl) | (intro h; cases h), iq_in3, (iq_mt2 (i := 223) rfl rfl), rfl, by decide⟩
theorem iq_c50 : iq_cok 50 := ⟨rfl, iq_pl3.1, iq_pl3.2, rfl, by first | (intro _; rfl) | (intro h; cases h), iq_in3, (iq_mt5 (i := 95) rfl rfl), rfl, by decide⟩
theorem iq_c51 : iq_cok 51 := ⟨rfl, iq_pl3.1, iq_pl3.2, rfl, by first | (intro _; rfl) | (intro h; cases h), iq_in3, (iq_mt2 (i := 206) rfl rfl), rfl, by decide⟩
theorem iq_c52 : iq_cok 52 := ⟨rfl, iq_pl3.1, iq_pl3.2, rfl, by first | (intro _; rfl) | (intro h; cases h), iq_in3, (iq_mt2 (i := 214) rfl rfl), rfl, by decide⟩
theorem iq_c53 : iq_cok 53 := ⟨rfl, iq_pl4.1, iq_pl4.2, rfl, by first | (intro _; rfl) | (intro h; cases h), iq_in4, (iq_mt2 (i := 25) rfl rfl), rfl, by decide⟩
theorem iq_c54 : iq_cok 54 := ⟨rfl, iq_pl4.1, iq_pl4.2, rfl, by first | (intro _; rfl) | (intro h; cases h), iq_in4, (iq_mt3 (i := 5) rfl rfl), rfl, by decide⟩
theorem iq_c55 : iq_cok 55 := ⟨rfl, iq_pl4.1, iq_pl4.2, rfl, by first | (intro _; rfl) | (intro h; cases h), iq_in4, (iq_mt2 (i := 237) rfl rfl), rfl, by decide⟩
theorem iq_c56 : iq_cok 56 := ⟨rfl, iq_pl4.1, iq_pl4.2, rfl, by first | (intro _; rfl) | (intro h; cases h), iq_in4, (iq_mt6 (i := 207) rfl rfl), rfl, by decide⟩
theorem iq_c57 : iq_cok 57 := ⟨rfl, iq_pl4.1, iq_pl4.2, rfl, by first | (intro _; rfl) | (intro h; cases h), iq_in4, (iq_mt3 (i := 9) rfl rfl), rfl, by decide⟩
theorem iq_c58 : iq_cok 58 := ⟨rfl, iq_pl4.1, iq_pl4.2, rfl, by first | (intro _; rfl) | (intro h; cases h), iq_in4, (iq_mt5 (i := 171) rfl rfl), rfl, by decide⟩
theorem iq_c59 : iq_cok 59 := ⟨rfl, iq_pl4.1, iq_pl4.2, rfl, by first | (intro _; rfl) | (intro h; cases h), iq_in4, (iq_mt5 (i := 167) rfl rfl), rfl, by decide⟩
theorem iq_c60 : iq_cok 60 := ⟨rfl, iq_pl4.1, iq_pl4.2, rfl, by first | (intro _; rfl) | (intro h; cases h), iq_in4, (iq_mt5 (i := 215) rfl rfl), rfl, by decide⟩
theorem iq_c61 : iq_cok 61 := ⟨rfl, iq_pl4.1, iq_pl4.2, rfl, by first | (intro _; rfl) | (intro h; cases h), iq_in4, (iq_mt5 (i := 191) rfl rfl), rfl, by decide⟩
theorem iq_c62 : iq_cok 62 := ⟨rfl, iq_pl4.1, iq_pl4.2, rfl, by first | (intro _; rfl) | (intro h; cases h), iq_in4, (iq_mt5 (i := 195) rfl rfl), rfl, by decide⟩
theorem iq_c63 : iq_cok 63 := ⟨rfl, iq_pl4.1, iq_pl4.2, rfl, by first | (intro _; rfl) | (intro h; cases h), iq_in4, (iq_mt5 (i := 187) rfl rfl), rfl, by decide⟩
theorem iq_c64 : iq_cok 64 := ⟨rfl, iq_pl4.1, iq_pl4.2, rfl, by first | (intro _; rfl) | (intro h; cases h), iq_in4, (iq_mt5 (i := 199) rfl rfl), rfl, by decide⟩
theorem iq_c65 : iq_cok 65 := ⟨rfl, iq_pl4.1, iq_pl4.2, rfl, by first | (intro _; rfl) | (intro h; cases h), iq_in4, (iq_mt5 (i := 203) rfl rfl), rfl, by decide⟩
theorem iq_c66 : iq_cok 66 := ⟨rfl, iq_pl4.1, iq_pl4.2, rfl, by first | (intro _; rfl) | (intro h; cases h), iq_in4, (iq_mt5 (i := 227) rfl rfl), rfl, by decide⟩
theorem iq_c67 : iq_cok 67 := ⟨rfl, iq_pl4.1, iq_pl4.2, rfl, by first | (intro _; rfl) | (intro h; cases h), iq_in4, (iq_mt5 (i := 231) rfl rfl), rfl, by decide⟩
theorem iq_c68 : iq_cok 68 := ⟨rfl, iq_pl4.1, iq_pl4.2, rfl, by first | (intro _; rfl) | (intro h; cases h), iq_in4, (iq_mt6 (i := 12) rfl rfl), rfl, by decide⟩
theorem iq_c69 : iq_cok 69 := ⟨rfl, iq_pl4.1, iq_pl4.2, rfl, by first | (intro _; rfl) | (intro h; cases h), iq_in4, (iq_mt6 (i := 8) rfl rfl), rfl, by decide⟩
theorem iq_c70 : iq_cok 70 := ⟨rfl, iq_pl4.1, iq_pl4.2, rfl, by first | (intro _; rfl) | (intro h; cases h), iq_in4, (iq_mt6 (i := 16) rfl rfl), rfl, by decide⟩
theorem iq_c71 : iq_cok 71 := ⟨rfl, iq_pl4.1, iq_pl4.2, rfl, by first | (intro _; rfl) | (intro h; cases h), iq_in4, (iq_mt6 (i := 32) rfl rfl), rfl, by decide⟩
theorem iq_c72 : iq_cok 72 := ⟨rfl, iq_pl4.1, iq_pl4.2, rfl, by first | (intro _; rfl) | (intro h; cases h), iq_in4, (iq_mt6 (i := 36) rfl rfl), rfl, by decide⟩
theorem iq_c73 : iq_cok 73 := ⟨rfl, iq_pl4.1, iq_pl4.2, rfl, by first | (intro _; rfl) | (intro h; cases h), iq_in4, (iq_mt6 (i := 45) rfl rfl), rfl, by decide⟩
theorem iq_c74 : iq_cok 74 := ⟨rfl, iq_pl4.1, iq_pl4.2, rfl, by first | (intro _; rfl) | (intro h; cases h), iq_in4, (iq_mt6 (i := 28) rfl rfl), rfl, by decide⟩
theorem iq_c75 : iq_cok 75 := ⟨rfl, iq_pl4.1, iq_pl4.2, rfl, by first | (intro _; rfl) | (intro h; cases h), iq_in4, (iq_mt6 (i := 50) rfl rfl), rfl, by decide⟩
theorem iq_c76 : iq_cok 76 := ⟨rfl, iq_pl4.1, iq_pl4.2, rfl, by first | (intro _; rfl) | (intro h; cases h), iq_in4, (iq_mt6 (i := 54) rfl rfl), rfl, by decide⟩
theorem iq_c77 : iq_cok 77 := ⟨rfl, iq_pl4.1, iq_pl4.2, rfl, by first | (intro _; rfl) | (intro h; cases h), iq_in4, (iq_mt6 (i := 58) rfl rfl), rfl, by decide⟩
theorem iq_c78 : iq_cok 78 := ⟨rfl, iq_pl4.1, iq_pl4.2, rfl, by first | (intro _; rfl) | (intro h; cases h), iq_in4, (iq_mt2 (i := 202) rfl rfl), rfl, by decide⟩
theorem iq_c79 : iq_cok 79 := ⟨rfl, iq_pl4.1, iq_pl4.2, rfl, by first | (intro _; rfl) | (intro h; cases h), iq_in4, (iq_mt2 (i := 233) rfl rfl), rfl, by decide⟩
theorem iq_c80 : iq_cok 80 := ⟨rfl, iq_pl4.1, iq_pl4.2, rfl, by first | (intro _; rfl) | (intro h; cases h), iq_in4, (iq_mt6 (i := 191) rfl rfl), rfl, by decide⟩
theorem iq_c81 : iq_cok 81 := ⟨rfl, iq_pl4.1, iq_pl4.2, rfl, by first | (intro _; rfl) | (intro h; cases h), iq_in4, (iq_mt6 (i := 203) rfl rfl), rfl, by decide⟩
theorem iq_c82 : iq_cok 82 := ⟨rfl, iq_pl4.1, iq_pl4.2, rfl, by first | (intro _; rfl) | (intro h; cases h), iq_in4, (iq_mt6 (i := 218) rfl rfl), rfl, by decide⟩
theorem iq_c83 : iq_cok 83 := ⟨rfl, iq_pl5.1, iq_pl5.2, rfl, by first | (intro _; rfl) | (intro h; cases h), iq_in5, (iq_mt1 (i := 218) rfl rfl), rfl, by decide⟩
theorem iq_c84 : iq_cok 84 := ⟨rfl, iq_pl5.1, iq_pl5.2, rfl, by first | (intro _; rfl) | (intro h; cases h), iq_in5, (iq_mt3 (i := 126) rfl rfl), rfl, by decide⟩
theorem iq_c85 : iq_cok 85 := ⟨rfl, iq_pl5.1, iq_pl5.2, rfl, by first | (intro _; rfl) | (intro h; cases h), iq_in5, (iq_mt4 (i := 40) rfl rfl), rfl, by decide⟩
theorem iq_c86 : iq_cok 86 := ⟨rfl, iq_pl5.1, iq_pl5.2, rfl, by first | (intro _; rfl) | (intro h; cases h), iq_in5, (iq_mt4 (i := 6) rfl rfl), rfl, by decide⟩
theorem iq_c87 : iq_cok 87 := ⟨rfl, iq_pl5.1, iq_pl5.2, rfl, by first | (intro _; rfl) | (intro h; cases h), iq_in5, (iq_mt4 (i := 36) rfl rfl), rfl, by decide⟩
theorem iq_c88 : iq_cok 88 := ⟨rfl, iq_pl5.1, iq_pl5.2, rfl, by first | (intro _; rfl) | (intro h; cases h), iq_in5, (iq_mt4 (i := 59) rfl rfl), rfl, by decide⟩
theorem iq_c89 : iq_cok 89 := ⟨rfl, iq_pl5.1, iq_pl5.2, rfl, by first | (intro _; rfl) | (intro h; cases h), iq_in5, (iq_mt4 (i := 67) rfl rfl), rfl, by decide⟩
theorem iq_c90 : iq_cok 90 := ⟨rfl, iq_pl5.1, iq_pl5.2, rfl, by first | (intro _; rfl) | (intro h; cases h), iq_in5, (iq_mt4 (i := 71) rfl rfl), rfl, by decide⟩
theorem iq_c91 : iq_cok 91 := ⟨rfl, iq_pl5.1, iq_pl5.2, rfl, by first | (intro _; rfl) | (intro h; cases h), iq_in5, (iq_mt4 (i := 104) rfl rfl), rfl, by decide⟩
theorem iq_c92 : iq_cok 92 := ⟨rfl, iq_pl5.1, iq_pl5.2, rfl, by first | (intro _; rfl) | (intro h; cases h), iq_in5, (iq_mt4 (i := 118) rfl rfl), rfl, by decide⟩
theorem iq_c93 : iq_cok 93 := ⟨rfl, iq_pl5.1, iq_pl5.2, rfl, by first | (intro _; rfl) | (intro h; cases h), iq_in5, (iq_mt4 (i := 127) rfl rfl), rfl, by decide⟩
theorem iq_c94 : iq_cok 94 := ⟨rfl, iq_pl5.1, iq_pl5.2, rfl, by first | (intro _; rfl) | (intro h; cases h), iq_in5, (iq_mt4 (i := 135) rfl rfl), rfl, by decide⟩
theorem iq_c95 : iq_cok 95 := ⟨rfl, iq_pl5.1, iq_pl5.2, rfl, by first | (intro _; rfl) | (intro h; cases h), iq_in5, (iq_mt4 (i := 143) rfl rfl), rfl, by decide⟩
theorem iq_c96 : iq_cok 96 := ⟨rfl, iq_pl5.1, iq_pl5.2, rfl, by first | (intro _; rfl) | (intro h; cases h), iq_in5, (iq_mt4 (i := 212) rfl rfl), rfl, by decide⟩
theorem iq_c97 : iq_cok 97 := ⟨rfl, iq_pl5.1, iq_pl5.2, rfl, by first | (intro _; rfl) | (intro h; cases h), iq_in5, (iq_mt4 (i := 147) rfl rfl), rfl, by decide⟩
theorem iq_c98 : iq_cok 98 := ⟨rfl, iq_pl5.1, iq_pl5.2, rfl, by first | (intro _; rfl) | (intro h; cases h), iq_in5, (iq_mt4 (i := 155) rfl rfl), rfl, by decide⟩
theorem iq_c99 : iq_cok 99 := ⟨rfl, iq_pl5.1, iq_pl5.2, rfl, by first | (intro _; rfl) | (intro h; cases h), iq_in5, (iq_mt4 (i := 159) rfl rfl), rfl, by decide⟩
theorem iq_c100 : iq_cok 100 := ⟨rfl, iq_pl5.1, iq_pl5.2, rfl, by first | (intro _; rfl) | (intro h; cases h), iq_in5, (iq_mt4 (i := 163) rfl rfl), rfl, by decide⟩
theorem iq_c101 : iq_cok 101 := ⟨rfl, iq_pl5.1, iq_pl5.2, rfl, by first | (intro _; rfl) | (intro h; cases h), iq_in5, (iq_mt4 (i := 167) rfl rfl), rfl, by decide⟩
theorem iq_c102 : iq_cok 102 := ⟨rfl, iq_pl5.1, iq_pl5.2, rfl, by first | (intro _; rfl) | (intro h; cases h), iq_in5, (iq_mt4 (i := 172) rfl rfl), rfl, by decide⟩
theorem iq_c103 : iq_cok 103 := ⟨rfl, iq_pl5.1, iq_pl5.2, rfl, by first | (intro _; rfl) | (intro h; cases h), iq_in5, (iq_mt4 (i := 176) rfl rfl), rfl, by decide⟩
theorem iq_c104 : iq_cok 104 := ⟨rfl, iq_pl5.1, iq_pl5.2, rfl, by first | (intro _; rfl) | (intro h; cases h), iq_in5, (iq_mt4 (i := 180) rfl rfl), rfl, by decide⟩
theorem iq_c105 : iq_cok 105 := ⟨rfl, iq_pl5.1, iq_pl5.2, rfl, by first | (intro _; rfl) | (intro h; cases h), iq_in5, (iq_mt4 (i := 184) rfl rfl), rfl, by decide⟩
theorem iq_c106 : iq_cok 106 := ⟨rfl, iq_pl5.1, iq_pl5.2, rfl, by first | (intro _; rfl) | (intro h; cases h), iq_in5, (iq_mt4 (i := 188) rfl rfl), rfl, by decide⟩
theorem iq_c107 : iq_cok 107 := ⟨rfl, iq_pl5.1, iq_pl5.2, rfl, by first | (intro _; rfl) | (intro h; cases h), iq_in5, (iq_mt4 (i := 50) rfl rfl), rfl, by decide⟩
theorem iq_c108 : iq_cok 108 := ⟨rfl, iq_pl5.1, iq_pl5.2, rfl, by first | (intro _; rfl) | (intro h; cases h), iq_in5, (iq_mt4 (i := 91) rfl rfl), rfl, by decide⟩
theorem iq_c109 : iq_cok 109 := ⟨rfl, iq_pl5.1, iq_pl5.2, rfl, by first | (intro _; rfl) | (intro h; cases h), iq_in5, (iq_mt4 (i := 108) rfl rfl), rfl, by decide⟩
theorem iq_c110 : iq_cok 110 := ⟨rfl, iq_pl6.1, iq_pl6.2, rfl, by first | (intro _; rfl) | (intro h; cases h), iq_in6, (iq_mt2 (i := 79) rfl rfl), rfl, by decide⟩
theorem iq_c111 : iq_cok 111 := ⟨rfl, iq_pl6.1, iq_pl6.2, rfl, by first | (intro _; rfl) | (intro h; cases h), iq_in6, (iq_mt4 (i := 234) rfl rfl), rfl, by decide⟩
theorem iq_c112 : iq_cok 112 := ⟨rfl, iq_pl6.1, iq_pl6.2, rfl, by first | (intro _; rfl) | (intro h; cases h), iq_in6, (iq_mt6 (i := 126) rfl rfl), rfl, by decide⟩
theorem iq_c113 : iq_cok 113 := ⟨rfl, iq_pl6.1, iq_pl6.2, rfl, by first | (intro _; rfl) | (intro h; cases h), iq_in6, (iq_mt3 (i := 25) rfl rfl), rfl, by decide⟩
theorem iq_c114 : iq_cok 114 := ⟨rfl, iq_pl6.1, iq_pl6.2, rfl, by first | (intro _; rfl) | (intro h; cases h), iq_in6, (iq_mt3 (i := 21) rfl rfl), rfl, by decide⟩
theorem iq_c115 : iq_cok 115 := ⟨rfl, iq_pl6.1, iq_pl6.2, rfl, by first | (intro _; rfl) | (intro h; cases h), iq_in6, (iq_mt6 (i := 146) rfl rfl), rfl, by decide⟩
theorem iq_c116 : iq_cok 116 := ⟨rfl, iq_pl6.1, iq_pl6.2, rfl, by first | (intro _; rfl) | (intro h; cases h), iq_in6, (iq_mt6 (i := 155) rfl rfl), rfl, by decide⟩
theorem iq_c117 : iq_cok 117 := ⟨rfl, iq_pl6.1, iq_pl6.2, rfl, by first | (intro _; rfl) | (intro h; cases h), iq_in6, (iq_mt6 (i := 150) rfl rfl), rfl, by decide⟩
theorem iq_c118 : iq_cok 118 := ⟨rfl, iq_pl6.1, iq_pl6.2, rfl, by first | (intro _; rfl) | (intro h; cases h), iq_in6, (iq_mt7 (i := 0) rfl rfl), rfl, by decide⟩
theorem iq_c119 : iq_cok 119 := ⟨rfl, iq_pl6.1, iq_pl6.2, rfl, by first | (intro _; rfl) | (intro h; cases h), iq_in6, (iq_mt7 (i := 4) rfl rfl), rfl, by decide⟩
theorem iq_c120 : iq_cok 120 := ⟨rfl, iq_pl6.1, iq_pl6.2, rfl, by first | (intro _; rfl) | (intro h; cases h), iq_in6, (iq_mt7 (i := 8) rfl rfl), rfl, by decide⟩
theorem iq_c121 : iq_cok 121 := ⟨rfl, iq_pl6.1, iq_pl6.2, rfl, by first | (intro _; rfl) | (intro h; cases h), iq_in6, (iq_mt7 (i := 13) rfl rfl), rfl, by decide⟩
theorem iq_c122 : iq_cok 122 := ⟨rfl, iq_pl6.1, iq_pl6.2, rfl, by first | (intro _; rfl) | (intro h; cases h), iq_in6, (iq_mt7 (i := 18) rfl rfl), rfl, by decide⟩
theorem iq_c123 : iq_cok 123 := ⟨rfl, iq_pl6.1, iq_pl6.2, rfl, by first | (intro _; rfl) | (intro h; cases h), iq_in6, (iq_mt7 (i := 22) rfl rfl), rfl, by decide⟩
theorem iq_c124 : iq_cok 124 := ⟨rfl, iq_pl6.1, iq_pl6.2, rfl, by first | (intro _; rfl) | (intro h; cases h), iq_in6, (iq_mt7 (i := 33) rfl rfl), rfl, by decide⟩
theorem iq_c125 : iq_cok 125 := ⟨rfl, iq_pl6.1, iq_pl6.2, rfl, by first | (intro _; rfl) | (intro h; cases h), iq_in6, (iq_mt7 (i := 42) rfl rfl), rfl, by decide⟩
theorem iq_c126 : iq_cok 126 := ⟨rfl, iq_pl6.1, iq_pl6.2, rfl, by first | (intro _; rfl) | (intro h; cases h), iq_in6, (iq_mt7 (i := 37) rfl rfl), rfl, by decide⟩
theorem iq_c127 : iq_cok 127 := ⟨rfl, iq_pl7.1, iq_pl7.2, rfl, by first | (intro _; rfl) | (intro h; cases h), iq_in7, (iq_mt1 (i := 44) rfl rfl), rfl, by decide⟩
theorem iq_c128 : iq_cok 128 := ⟨rfl, iq_pl7.1, iq_pl7.2, rfl, by first | (intro _; rfl) | (intro h; cases h), iq_in7, (iq_mt3 (i := 134) rfl rfl), rfl, by decide⟩
theorem iq_c129 : iq_cok 129 := ⟨rfl, iq_pl7.1, iq_pl7.2, rfl, by first | (intro _; rfl) | (intro h; cases h), iq_in7, (iq_mt4 (i := 221) rfl rfl), rfl, by decide⟩
theorem iq_c130 : iq_cok 130 := ⟨rfl, iq_pl7.1, iq_pl7.2, rfl, by first | (intro _; rfl) | (intro h; cases h), iq_in7, (iq_mt4 (i := 151) rfl rfl), rfl, by decide⟩
theorem iq_c131 : iq_cok 131 := ⟨rfl, iq_pl7.1, iq_pl7.2, rfl, by first | (intro _; rfl) | (intro h; cases h), iq_in7, (iq_mt4 (i := 207) rfl rfl), rfl, by decide⟩
theorem iq_c132 : iq_cok 132 := ⟨rfl, iq_pl7.1, iq_pl7.2, rfl, by first | (intro _; rfl) | (intro h; cases h), iq_in7, (iq_mt4 (i := 201) rfl rfl), rfl, by decide⟩
theorem iq_c133 : iq_cok 133 := ⟨rfl, iq_pl7.1, iq_pl7.2, rfl, by first | (intro _; rfl) | (intro h; cases h), iq_in7, (iq_mt4 (i := 197) rfl rfl), rfl, by decide⟩
theorem iq_c134 : iq_cok 134 := ⟨rfl, iq_pl7.1, iq_pl7.2, rfl, by first | (intro _; rfl) | (intro h; cases h), iq_in7, (iq_mt5 (i := 123) rfl rfl), rfl, by decide⟩
theorem iq_c135 : iq_cok 135 := ⟨rfl, iq_pl7.1, iq_pl7.2, rfl, by first | (intro _; rfl) | (intro h; cases h), iq_in7, (iq_mt5 (i := 126) rfl rfl), rfl, by decide⟩
theorem iq_c136 : iq_cok 136 := ⟨rfl, iq_pl7.1, iq_pl7.2, rfl, by first | (intro _; rfl) | (intro h; cases h), iq_in7, (iq_mt5 (i := 129) rfl rfl), rfl, by decide⟩
theorem iq_c137 : iq_cok 137 := ⟨rfl, iq_pl8.1, iq_pl8.2, rfl, by first | (intro _; rfl) | (intro h; cases h), iq_in8, (iq_mt1 (i := 224) rfl rfl), rfl, by decide⟩
theorem iq_c138 : iq_cok 138 := ⟨rfl, iq_pl8.1, iq_pl8.2, rfl, by first | (intro _; rfl) | (intro h; cases h), iq_in8, (iq_mt3 (i := 143) rfl rfl), rfl, by decide⟩
theorem iq_c139 : iq_cok 139 := ⟨rfl, iq_pl8.1, iq_pl8.2, rfl, by first | (intro _; rfl) | (intro h; cases h), iq_in8, (iq_mt3 (i := 148) rfl rfl), rfl, by decide⟩
theorem iq_c140 : iq_cok 140 := ⟨rfl, iq_pl8.1, iq_pl8.2, rfl, by first | (intro _; rfl) | (intro h; cases h), iq_in8, (iq_mt4 (i := 63) rfl rfl), rfl, by decide⟩
theorem iq_c141 : iq_cok 141 := ⟨rfl, iq_pl8.1, iq_pl8.2, rfl, by first | (intro _; rfl) | (intro h; cases h), iq_in8, (iq_mt4 (i := 54) rfl rfl), rfl, by decide⟩
theorem iq_c142 : iq_cok 142 := ⟨rfl, iq_pl8.1, iq_pl8.2, rfl, by first | (intro _; rfl) | (intro h; cases h), iq_in8, (iq_mt4 (i := 11) rfl rfl), rfl, by decide⟩
theorem iq_c143 : iq_cok 143 := ⟨rfl, iq_pl8.1, iq_pl8.2, rfl, by first | (intro _; rfl) | (intro h; cases h), iq_in8, (iq_mt4 (i := 83) rfl rfl), rfl, by decide⟩
theorem iq_c144 : iq_cok 144 := ⟨rfl, iq_pl8.1, iq_pl8.2, rfl, by first | (intro _; rfl) | (intro h; cases h), iq_in8, (iq_mt4 (i := 95) rfl rfl), rfl, by decide⟩
theorem iq_c145 : iq_cok 145 := ⟨rfl, iq_pl8.1, iq_pl8.2, rfl, by first | (intro _; rfl) | (intro h; cases h), iq_in8, (iq_mt3 (i := 151) rfl rfl), rfl, by decide⟩
theorem iq_c146 : iq_cok 146 := ⟨rfl, iq_pl8.1, iq_pl8.2, rfl, by first | (intro _; rfl) | (intro h; cases h), iq_in8, (iq_mt3 (i := 154) rfl rfl), rfl, by decide⟩
theorem iq_c147 : iq_cok 147 := ⟨rfl, iq_pl8.1, iq_pl8.2, rfl, by first | (intro _; rfl) | (intro h; cases h), iq_in8, (iq_mt3 (i := 157) rfl rfl), rfl, by decide⟩
theorem iq_c148 : iq_cok 148 := ⟨rfl, iq_pl9.1, iq_pl9.2, rfl, by first | (intro _; rfl) | (intro h; cases h), iq_in9, (iq_mt1 (i := 30) rfl rfl), rfl, by decide⟩
theorem iq_c149 : iq_cok 149 := ⟨rfl, iq_pl9.1, iq_pl9.2, rfl, by first | (intro _; rfl) | (intro h; cases h), iq_in9, (iq_mt2 (i := 146) rfl rfl), rfl, by decide⟩
theorem iq_c150 : iq_cok 150 := ⟨rfl, iq_pl9.1, iq_pl9.2, rfl, by first | (intro _; rfl) | (intro h; cases h), iq_in9, (iq_mt3 (i := 55) rfl rfl), rfl, by decide⟩
theorem iq_c151 : iq_cok 151 := ⟨rfl, iq_pl9.1, iq_pl9.2, rfl, by first | (intro _; rfl) | (intro h; cases h), iq_in9, (iq_mt2 (i := 154) rfl rfl), rfl, by decide⟩
theorem iq_c152 : iq_cok 152 := ⟨rfl, iq_pl9.1, iq_pl9.2, rfl, by first | (intro _; rfl) | (intro h; cases h), iq_in9, (iq_mt4 (i := 230) rfl rfl), rfl, by decide⟩
theorem iq_c153 : iq_cok 153 := ⟨rfl, iq_pl9.1, iq_pl9.2, rfl, by first | (intro _; rfl) | (intro h; cases h), iq_in9, (iq_mt5 (i := 23) rfl rfl), rfl, by decide⟩
theorem iq_c154 : iq_cok 154 := ⟨rfl, iq_pl9.1, iq_pl9.2, rfl, by first | (intro _; rfl) | (intro h; cases h), iq_in9, (iq_mt5 (i := 37) rfl rfl), rfl, by decide⟩
theorem iq_c155 : iq_cok 155 := ⟨rfl, iq_pl9.1, iq_pl9.2, rfl, by first | (intro _; rfl) | (intro h; cases h), iq_in9, (iq_mt5 (i := 44) rfl rfl), rfl, by decide⟩
theorem iq_c156 : iq_cok 156 := ⟨rfl, iq_pl9.1, iq_pl9.2, rfl, by first | (intro _; rfl) | (intro h; cases h), iq_in9, (iq_mt5 (i := 62) rfl rfl), rfl, by decide⟩
theorem iq_c157 : iq_cok 157 := ⟨rfl, iq_pl9.1, iq_pl9.2, rfl, by first | (intro _; rfl) | (intro h; cases h), iq_in9, (iq_mt5 (i := 81) rfl rfl), rfl, by decide⟩
theorem iq_c158 : iq_cok 158 := ⟨rfl, iq_pl9.1, iq_pl9.2, rfl, by first | (intro _; rfl) | (intro h; cases h), iq_in9, (iq_mt5 (i := 136) rfl rfl), rfl, by decide⟩
theorem iq_c159 : iq_cok 159 := ⟨rfl, iq_pl9.1, iq_pl9.2, rfl, by first | (intro _; rfl) | (intro h; cases h), iq_in9, (iq_mt5 (i := 148) rfl rfl), rfl, by decide⟩
theorem iq_c160 : iq_cok 160 := ⟨rfl, iq_pl9.1, iq_pl9.2, rfl, by first | (intro _; rfl) | (intro h; cases h), iq_in9, (iq_mt5 (i := 155) rfl rfl), rfl, by decide⟩
theorem iq_c161 : iq_cok 161 := ⟨rfl, iq_pl9.1, iq_pl9.2, rfl, by first | (intro _; rfl) | (intro h; cases h), iq_in9, (iq_mt2 (i := 158) rfl rfl), rfl, by decide⟩
theorem iq_c162 : iq_cok 162 := ⟨rfl, iq_pl9.1, iq_pl9.2, rfl, by first | (intro _; rfl) | (intro h; cases h), iq_in9, (iq_mt2 (i := 177) rfl rfl), rfl, by decide⟩
theorem iq_c163 : iq_cok 163 := ⟨rfl, iq_pl9.1, iq_pl9.2, rfl, by first | (intro _; rfl) | (intro h; cases h), iq_in9, (iq_mt5 (i := 163) rfl rfl), rfl, by decide⟩
theorem iq_c164 : iq_cok 164 := ⟨rfl, iq_pl9.1, iq_pl9.2, rfl, by first | (intro _; rfl) | (intro h; cases h), iq_in9, (iq_mt5 (i := 178) rfl rfl), rfl, by decide⟩
theorem iq_c165 : iq_cok 165 := ⟨rfl, iq_pl9.1, iq_pl9.2, rfl, by first | (intro _; rfl) | (intro h; cases h), iq_in9, (iq_mt5 (i := 211) rfl rfl), rfl, by decide⟩
theorem iq_c166 : iq_cok 166 := ⟨rfl, iq_pl9.1, iq_pl9.2, rfl, by first | (intro _; rfl) | (intro h; cases h), iq_in9, (iq_mt5 (i := 222) rfl rfl), rfl, by decide⟩
theorem iq_c167 : iq_cok 167 := ⟨rfl, iq_pl9.1, iq_pl9.2, rfl, by first | (intro _; rfl) | (intro h; cases h), iq_in9, (iq_mt5 (i := 239) rfl rfl), rfl, by decide⟩
theorem iq_c168 : iq_cok 168 := ⟨rfl, iq_pl9.1, iq_pl9.2, rfl, by first | (intro _; rfl) | (intro h; cases h), iq_in9, (iq_mt6 (i := 23) rfl rfl), rfl, by decide⟩
theorem iq_c169 : iq_cok 169 := ⟨rfl, iq_pl9.1, iq_pl9.2, rfl, by first | (intro _; rfl) | (intro h; cases h), iq_in9, (iq_mt2 (i := 198) rfl rfl), rfl, by decide⟩
theorem iq_c170 : iq_cok 170 := ⟨rfl, iq_pl9.1, iq_pl9.2, rfl, by first | (intro _; rfl) | (intro h; cases h), iq_in9, (iq_mt6 (i := 66) rfl rfl), rfl, by decide⟩
theorem iq_c171 : iq_cok 171 := ⟨rfl, iq_pl9.1, iq_pl9.2, rfl, by first | (intro _; rfl) | (intro h; cases h), iq_in9, (iq_mt6 (i := 92) rfl rfl), rfl, by decide⟩
theorem iq_c172 : iq_cok 172 := ⟨rfl, iq_pl9.1, iq_pl9.2, rfl, by first | (intro _; rfl) | (intro h; cases h), iq_in9, (iq_mt3 (i := 13) rfl rfl), rfl, by decide⟩
theorem iq_c173 : iq_cok 173 := ⟨rfl, iq_pl9.1, iq_pl9.2, rfl, by first | (intro _; rfl) | (intro h; cases h), iq_in9, (iq_mt6 (i := 103) rfl rfl), rfl, by decide⟩
theorem iq_c174 : iq_cok 174 := ⟨rfl, iq_pl9.1, iq_pl9.2, rfl, by first | (intro _; rfl) | (intro h; cases h), iq_in9, (iq_mt6 (i := 122) rfl rfl), rfl, by decide⟩
theorem iq_c175 : iq_cok 175 := ⟨rfl, iq_pl9.1, iq_pl9.2, rfl, by first | (intro _; rfl) | (intro h; cases h), iq_in9, (iq_mt6 (i := 134) rfl rfl), rfl, by decide⟩
theorem iq_c176 : iq_cok 176 := ⟨rfl, iq_pl9.1, iq_pl9.2, rfl, by first | (intro _; rfl) | (intro h; cases h), iq_in9, (iq_mt3 (i := 17) rfl rfl), rfl, by decide⟩
theorem iq_c177 : iq_cok 177 := ⟨rfl, iq_pl9.1, iq_pl9.2, rfl, by first | (intro _; rfl) | (intro h; cases h), iq_in9, (iq_mt6 (i := 142) rfl rfl), rfl, by decide⟩
theorem iq_c178 : iq_cok 178 := ⟨rfl, iq_pl9.1, iq_pl9.2, rfl, by first | (intro _; rfl) | (intro h; cases h), iq_in9, (iq_mt6 (i := 162) rfl rfl), rfl, by decide⟩
theorem iq_c179 : iq_cok 179 := ⟨rfl, iq_pl9.1, iq_pl9.2, rfl, by first | (intro _; rfl) | (intro h; cases h), iq_in9, (iq_mt6 (i := 187) rfl rfl), rfl, by decide⟩
theorem iq_c180 : iq_cok 180 := ⟨rfl, iq_pl9.1, iq_pl9.2, rfl, by first | (intro _; rfl) | (intro h; cases h), iq_in9, (iq_mt6 (i := 199) rfl rfl), rfl, by decide⟩
theorem iq_c181 : iq_cok 181 := ⟨rfl, iq_pl9.1, iq_pl9.2, rfl, by first | (intro _; rfl) | (intro h; cases h), iq_in9, (iq_mt6 (i := 214) rfl rfl), rfl, by decide⟩
theorem iq_c182 : iq_cok 182 := ⟨rfl, iq_pl9.1, iq_pl9.2, rfl, by first | (intro _; rfl) | (intro h; cases h), iq_in9, (iq_mt6 (i := 225) rfl rfl), rfl, by decide⟩
theorem iq_c183 : iq_cok 183 := ⟨rfl, iq_pl9.1, iq_pl9.2, rfl, by first | (intro _; rfl) | (intro h; cases h), iq_in9, (iq_mt6 (i := 236) rfl rfl), rfl, by decide⟩
theorem iq_c184 : iq_cok 184 := ⟨rfl, iq_pl9.1, iq_pl9.2, rfl, by first | (intro _; rfl) | (intro h; cases h), iq_in9, (iq_mt7 (i := 29) rfl rfl), rfl, by decide⟩
theorem iq_c185 : iq_cok 185 := ⟨rfl, iq_pl9.1, iq_pl9.2, rfl, by first | (intro _; rfl) | (intro h; cases h), iq_in9, (iq_mt7 (i := 49) rfl rfl), rfl, by decide⟩
theorem iq_c186 : iq_cok 186 := ⟨rfl, iq_pl9.1, iq_pl9.2, rfl, by first | (intro _; rfl) | (intro h; cases h), iq_in9, (iq_mt7 (i := 57) rfl rfl), rfl, by decide⟩
theorem iq_c187 : iq_cok 187 := ⟨rfl, iq_pl9.1, iq_pl9.2, rfl, by first | (intro _; rfl) | (intro h; cases h), iq_in9, (iq_mt7 (i := 65) rfl rfl), rfl, by decide⟩
theorem iq_c188 : iq_cok 188 := ⟨rfl, iq_pl9.1, iq_pl9.2, rfl, by first | (intro _; rfl) | (intro h; cases h), iq_in9, (iq_mt3 (i := 35) rfl rfl), rfl, by decide⟩
theorem iq_c189 : iq_cok 189 := ⟨rfl, iq_pl9.1, iq_pl9.2, rfl, by first | (intro _; rfl) | (intro h; cases h), iq_in9, (iq_mt3 (i := 47) rfl rfl), rfl, by decide⟩
theorem iq_c190 : iq_cok 190 := ⟨rfl, iq_pl9.1, iq_pl9.2, rfl, by first | (intro _; rfl) | (intro h; cases h), iq_in9, (iq_mt2 (i := 150) rfl rfl), rfl, by decide⟩
theorem iq_c191 : iq_cok 191 := ⟨rfl, iq_pl9.1, iq_pl9.2, rfl, by first | (intro _; rfl) | (intro h; cases h), iq_in9, (iq_mt5 (i := 140) rfl rfl), rfl, by decide⟩
theorem iq_c192 : iq_cok 192 := ⟨rfl, iq_pl9.1, iq_pl9.2, rfl, by first | (intro _; rfl) | (intro h; cases h), iq_in9, (iq_mt5 (i := 48) rfl rfl), rfl, by decide⟩
theorem iq_c193 : iq_cok 193 := ⟨rfl, iq_pl9.1, iq_pl9.2, rfl, by first | (intro _; rfl) | (intro h; cases h), iq_in9, (iq_mt5 (i := 27) rfl rfl), rfl, by decide⟩
theorem iq_c194 : iq_cok 194 := ⟨rfl, iq_pl9.1, iq_pl9.2, rfl, by first | (intro _; rfl) | (intro h; cases h), iq_in9, (iq_mt5 (i := 53) rfl rfl), rfl, by decide⟩
theorem iq_c195 : iq_cok 195 := ⟨rfl, iq_pl9.1, iq_pl9.2, rfl, by first | (intro _; rfl) | (intro h; cases h), iq_in9, (iq_mt5 (i := 66) rfl rfl), rfl, by decide⟩
theorem iq_c196 : iq_cok 196 := ⟨rfl, iq_pl9.1, iq_pl9.2, rfl, by first | (intro _; rfl) | (intro h; cases h), iq_in9, (iq_mt5 (i := 72) rfl rfl), rfl, by decide⟩
theorem iq_c197 : iq_cok 197 := ⟨rfl, iq_pl9.1, iq_pl9.2, rfl, by first | (intro _; rfl) | (intro h; cases h), iq_in9, (iq_mt5 (i := 182) rfl rfl), rfl, by decide⟩
theorem iq_c198 : iq_cok 198 := ⟨rfl, iq_pl9.1, iq_pl9.2, rfl, by first | (intro _; rfl) | (intro h; cases h), iq_in9, (iq_mt6 (i := 3) rfl rfl), rfl, by decide⟩
theorem iq_c199 : iq_cok 199 := ⟨rfl, iq_pl10.1, iq_pl10.2, rfl, by first | (intro _; rfl) | (intro h; cases h), iq_in10, (iq_mt7 (i := 71) rfl rfl), rfl, by decide⟩
theorem iq_c200 : iq_cok 200 := ⟨rfl, iq_pl10.1, iq_pl10.2, rfl, by first | (intro _; rfl) | (intro h; cases h), iq_in10, (iq_mt8 (i := 60) rfl rfl), rfl, by decide⟩
theorem iq_c201 : iq_cok 201 := ⟨rfl, iq_pl10.1, iq_pl10.2, rfl, by first | (intro _; rfl) | (intro h; cases h), iq_in10, (iq_mt8 (i := 76) rfl rfl), rfl, by decide⟩
theorem iq_c202 : iq_cok 202 := ⟨rfl, iq_pl10.1, iq_pl10.2, rfl, by first | (intro _; rfl) | (intro h; cases h), iq_in10, (iq_mt8 (i := 214) rfl rfl), rfl, by decide⟩
theorem iq_c203 : iq_cok 203 := ⟨rfl, iq_pl10.1, iq_pl10.2, rfl, by first | (intro _; rfl) | (intro h; cases h), iq_in10, (iq_mt8 (i := 199) rfl rfl), rfl, by decide⟩
theorem iq_c204 : iq_cok 204 := ⟨rfl, iq_pl10.1, iq_pl10.2, rfl, by first | (intro _; rfl) | (intro h; cases h), iq_in10, (iq_mt9 (i := 137) rfl rfl), rfl, by decide⟩
theorem iq_c205 : iq_cok 205 := ⟨rfl, iq_pl10.1, iq_pl10.2, rfl, by first | (intro _; rfl) | (intro h; cases h), iq_in10, (iq_mt8 (i := 64) rfl rfl), rfl, by decide⟩
theorem iq_c206 : iq_cok 206 := ⟨rfl, iq_pl10.1, iq_pl10.2, rfl, by first | (intro _; rfl) | (intro h; cases h), iq_in10, (iq_mt8 (i := 68) rfl rfl), rfl, by decide⟩
theorem iq_c207 : iq_cok 207 := ⟨rfl, iq_pl10.1, iq_pl10.2, rfl, by first | (intro _; rfl) | (intro h; cases h), iq_in10, (iq_mt8 (i := 84) rfl rfl), rfl, by decide⟩
theorem iq_c208 : iq_cok 208 := ⟨rfl, iq_pl10.1, iq_pl10.2, rfl, by first | (intro _; rfl) | (intro h; cases h), iq_in10, (iq_mt8 (i := 87) rfl rfl), rfl, by decide⟩
theorem iq_c209 : iq_cok 209 := ⟨rfl, iq_pl10.1, iq_pl10.2, rfl, by first | (intro _; rfl) | (intro h; cases h), iq_in10, (iq_mt8 (i := 90) rfl rfl), rfl, by decide⟩
theorem iq_c210 : iq_cok 210 := ⟨rfl, iq_pl10.1, iq_pl10.2, rfl, by first | (intro _; rfl) | (intro h; cases h), iq_in10, (iq_mt8 (i := 80) rfl rfl), rfl, by decide⟩
theorem iq_c211 : iq_cok 211 := ⟨rfl, iq_pl10.1, iq_pl10.2, rfl, by first | (intro _; rfl) | (intro h; cases h), iq_in10, (iq_mt8 (i := 108) rfl rfl), rfl, by decide⟩
theorem iq_c212 : iq_cok 212 := ⟨rfl, iq_pl10.1, iq_pl10.2, rfl, by first | (intro _; rfl) | (intro h; cases h), iq_in10, (iq_mt8 (i := 105) rfl rfl), rfl, by decide⟩
theorem iq_c213 : iq_cok 213 := ⟨rfl, iq_pl10.1, iq_pl10.2, rfl, by first | (intro _; rfl) | (intro h; cases h), iq_in10, (iq_mt8 (i := 102) rfl rfl), rfl, by decide⟩
theorem iq_c214 : iq_cok 214 := ⟨rfl, iq_pl10.1, iq_pl10.2, rfl, by first | (intro _; rfl) | (intro h; cases h), iq_in10, (iq_mt8 (i := 113) rfl rfl), rfl, by decide⟩
theorem iq_c215 : iq_cok 215 := ⟨rfl, iq_pl10.1, iq_pl10.2, rfl, by first | (intro _; rfl) | (intro h; cases h), iq_in10, (iq_mt8 (i := 94) rfl rfl), rfl, by decide⟩
theorem iq_c216 : iq_cok 216 := ⟨rfl, iq_pl10.1, iq_pl10.2, rfl, by first | (intro _; rfl) | (intro h; cases h), iq_in10, (iq_mt8 (i := 157) rfl rfl), rfl, by decide⟩
theorem iq_c217 : iq_cok 217 := ⟨rfl, iq_pl10.1, iq_pl10.2, rfl, by first | (intro _; rfl) | (intro h; cases h), iq_in10, (iq_mt8 (i := 195) rfl rfl), rfl, by decide⟩
theorem iq_c218 : iq_cok 218 := ⟨rfl, iq_pl10.1, iq_pl10.2, rfl, by first | (intro _; rfl) | (intro h; cases h), iq_in10, (iq_mt8 (i := 129) rfl rfl), rfl, by decide⟩
theorem iq_c219 : iq_cok 219 := ⟨rfl, iq_pl10.1, iq_pl10.2, rfl, by first | (intro _; rfl) | (intro h; cases h), iq_in10, (iq_mt8 (i := 125) rfl rfl), rfl, by decide⟩
theorem iq_c220 : iq_cok 220 := ⟨rfl, iq_pl10.1, iq_pl10.2, rfl, by first | (intro _; rfl) | (intro h; cases h), iq_in10, (iq_mt8 (i := 141) rfl rfl), rfl, by decide⟩
theorem iq_c221 : iq_cok 221 := ⟨rfl, iq_pl10.1, iq_pl10.2, rfl, by first | (intro _; rfl) | (intro h; cases h), iq_in10, (iq_mt8 (i := 137) rfl rfl), rfl, by decide⟩
theorem iq_c222 : iq_cok 222 := ⟨rfl, iq_pl10.1, iq_pl10.2, rfl, by first | (intro _; rfl) | (intro h; cases h), iq_in10, (iq_mt8 (i := 173) rfl rfl), rfl, by decide⟩
theorem iq_c223 : iq_cok 223 := ⟨rfl, iq_pl10.1, iq_pl10.2, rfl, by first | (intro _; rfl) | (intro h; cases h), iq_in10, (iq_mt8 (i := 180) rfl rfl), rfl, by decide⟩
theorem iq_c224 : iq_cok 224 := ⟨rfl, iq_pl10.1, iq_pl10.2, rfl, by first | (intro _; rfl) | (intro h; cases h), iq_in10, (iq_mt8 (i := 183) rfl rfl), rfl, by decide⟩
theorem iq_c225 : iq_cok 225 := ⟨rfl, iq_pl10.1, iq_pl10.2, rfl, by first | (intro _; rfl) | (intro h; cases h), iq_in10, (iq_mt8 (i := 177) rfl rfl), rfl, by decide⟩
theorem iq_c226 : iq_cok 226 := ⟨rfl, iq_pl10.1, iq_pl10.2, rfl, by first | (intro _; rfl) | (intro h; cases h), iq_in10, (iq_mt8 (i := 165) rfl rfl), rfl, by decide⟩
theorem iq_c227 : iq_cok 227 := ⟨rfl, iq_pl10.1, iq_pl10.2, rfl, by first | (intro _; rfl) | (intro h; cases h), iq_in10, (iq_mt8 (i := 169) rfl rfl), rfl, by decide⟩
theorem iq_c228 : iq_cok 228 := ⟨rfl, iq_pl10.1, iq_pl10.2, rfl, by first | (intro _; rfl) | (intro h; cases h), iq_in10, (iq_mt8 (i := 153) rfl rfl), rfl, by decide⟩
theorem iq_c229 : iq_cok 229 := ⟨rfl, iq_pl10.1, iq_pl10.2, rfl, by first | (intro _; rfl) | (intro h; cases h), iq_in10, (iq_mt8 (i := 161) rfl rfl), rfl, by decide⟩
theorem iq_c230 : iq_cok 230 := ⟨rfl, iq_pl10.1, iq_pl10.2, rfl, by first | (intro _; rfl) | (intro h; cases h), iq_in10, (iq_mt8 (i := 187) rfl rfl), rfl, by decide⟩
theorem iq_c231 : iq_cok 231 := ⟨rfl, iq_pl10.1, iq_pl10.2, rfl, by first | (intro _; rfl) | (intro h; cases h), iq_in10, (iq_mt8 (i := 191) rfl rfl), rfl, by decide⟩
theorem iq_c232 : iq_cok 232 := ⟨rfl, iq_pl10.1, iq_pl10.2, rfl, by first | (intro _; rfl) | (intro h; cases h), iq_in10, (iq_mt8 (i := 149) rfl rfl), rfl, by decide⟩
theorem iq_c233 : iq_cok 233 := ⟨rfl, iq_pl10.1, iq_pl10.2, rfl, by first | (intro _; rfl) | (intro h; cases h), iq_in10, (iq_mt8 (i := 121) rfl rfl), rfl, by decide⟩
theorem iq_c234 : iq_cok 234 := ⟨rfl, iq_pl10.1, iq_pl10.2, rfl, by first | (intro _; rfl) | (intro h; cases h), iq_in10, (iq_mt8 (i := 117) rfl rfl), rfl, by decide⟩
theorem iq_c235 : iq_cok 235 := ⟨rfl, iq_pl10.1, iq_pl10.2, rfl, by first | (intro _; rfl) | (intro h; cases h), iq_in10, (iq_mt8 (i := 133) rfl rfl), rfl, by decide⟩
theorem iq_c236 : iq_cok 236 := ⟨rfl, iq_pl10.1, iq_pl10.2, rfl, by first | (intro _; rfl) | (intro h; cases h), iq_in10, (iq_mt8 (i := 145) rfl rfl), rfl, by decide⟩
theorem iq_c237 : iq_cok 237 := ⟨rfl, iq_pl10.1, iq_pl10.2, rfl, by first | (intro _; rfl) | (intro h; cases h), iq_in10, (iq_mt8 (i := 98) rfl rfl), rfl, by decide⟩
theorem iq_c238 : iq_cok 238 := ⟨rfl, iq_pl10.1, iq_pl10.2, rfl, by first | (intro _; rfl) | (intro h; cases h), iq_in10, (iq_mt8 (i := 72) rfl rfl), rfl, by decide⟩
theorem iq_c239 : iq_cok 239 := ⟨rfl, iq_pl10.1, iq_pl10.2, rfl, by first | (intro _; rfl) | (intro h; cases h), iq_in10, (iq_mt8 (i := 203) rfl rfl), rfl, by decide⟩
theorem iq_c240 : iq_cok 240 := ⟨rfl, iq_pl10.1, iq_pl10.2, rfl, by first | (intro _; rfl) | (intro h; cases h), iq_in10, (iq_mt9 (i := 69) rfl rfl), rfl, by decide⟩
theorem iq_c241 : iq_cok 241 := ⟨rfl, iq_pl10.1, iq_pl10.2, rfl, by first | (intro _; rfl) | (intro h; cases h), iq_in10, (iq_mt9 (i := 65) rfl rfl), rfl, by decide⟩
theorem iq_c242 : iq_cok 242 := ⟨rfl, iq_pl10.1, iq_pl10.2, rfl, by first | (intro _; rfl) | (intro h; cases h), iq_in10, (iq_mt8 (i := 207) rfl rfl), rfl, by decide⟩
theorem iq_c243 : iq_cok 243 := ⟨rfl, iq_pl10.1, iq_pl10.2, rfl, by first | (intro _; rfl) | (intro h; cases h), iq_in10, (iq_mt8 (i := 234) rfl rfl), rfl, by decide⟩
theorem iq_c244 : iq_cok 244 := ⟨rfl, iq_pl10.1, iq_pl10.2, rfl, by first | (intro _; rfl) | (intro h; cases h), iq_in10, (iq_mt8 (i := 238) rfl rfl), rfl, by decide⟩
theorem iq_c245 : iq_cok 245 := ⟨rfl, iq_pl10.1, iq_pl10.2, rfl, by first | (intro _; rfl) | (intro h; cases h), iq_in10, (iq_mt8 (i := 230) rfl rfl), rfl, by decide⟩
theorem iq_c246 : iq_cok 246 := ⟨rfl, iq_pl10.1, iq_pl10.2, rfl, by first | (intro _; rfl) | (intro h; cases h), iq_in10, (iq_mt8 (i := 226) rfl rfl), rfl, by decide⟩
theorem iq_c247 : iq_cok 247 := ⟨rfl, iq_pl10.1, iq_pl10.2, rfl, by first | (intro _; rfl) | (intro h; cases h), iq_in10, (iq_mt8 (i := 218) rfl rfl), rfl, by decide⟩
theorem iq_c248 : iq_cok 248 := ⟨rfl, iq_pl10.1, iq_pl10.2, rfl, by first | (intro _; rfl) | (intro h; cases h), iq_in10, (iq_mt8 (i := 222) rfl rfl), rfl, by decide⟩
theorem iq_c249 : iq_cok 249 := ⟨rfl, iq_pl10.1, iq_pl10.2, rfl, by first | (intro _; rfl) | (intro h; cases h), iq_in10, (iq_mt8 (i := 211) rfl rfl), rfl, by decide⟩
theorem iq_c250 : iq_cok 250 := ⟨rfl, iq_pl10.1, iq_pl10.2, rfl, by first | (intro _; rfl) | (intro h; cases h), iq_in10, (iq_mt9 (i := 18) rfl rfl), rfl, by decide⟩
theorem iq_c251 : iq_cok 251 := ⟨rfl, iq_pl10.1, iq_pl10.2, rfl, by first | (intro _; rfl) | (intro h; cases h), iq_in10, (iq_mt9 (i := 6) rfl rfl), rfl, by decide⟩
theorem iq_c252 : iq_cok 252 := ⟨rfl, iq_pl10.1, iq_pl10.2, rfl, by first | (intro _; rfl) | (intro h; cases h), iq_in10, (iq_mt9 (i := 30) rfl rfl), rfl, by decide⟩
theorem iq_c253 : iq_cok 253 := ⟨rfl, iq_pl10.1, iq_pl10.2, rfl, by first | (intro _; rfl) | (intro h; cases h), iq_in10, (iq_mt9 (i := 22) rfl rfl), rfl, by decide⟩
theorem iq_c254 : iq_cok 254 := ⟨rfl, iq_pl10.1, iq_pl10.2, rfl, by first | (intro _; rfl) | (intro h; cases h), iq_in10, (iq_mt9 (i := 2) rfl rfl), rfl, by decide⟩
theorem iq_c255 : iq_cok 255 := ⟨rfl, iq_pl10.1, iq_pl10.2, rfl, by first | (intro _; rfl) | (intro h; cases h), iq_in10, (iq_mt9 (i := 10) rfl rfl), rfl, by decide⟩
theorem iq_c256 : iq_cok 256 := ⟨rfl, iq_pl10.1, iq_pl10.2, rfl, by first | (intro _; rfl) | (intro h; cases h), iq_in10, (iq_mt9 (i := 14) rfl rfl), rfl, by decide⟩
theorem iq_c257 : iq_cok 257 := ⟨rfl, iq_pl10.1, iq_pl10.2, rfl, by first | (intro _; rfl) | (intro h; cases h), iq_in10, (iq_mt9 (i := 26) rfl rfl), rfl, by decide⟩
theorem iq_c258 : iq_cok 258 := ⟨rfl, iq_pl10.1, iq_pl10.2, rfl, by first | (intro _; rfl) | (intro h; cases h), iq_in10, (iq_mt9 (i := 57) rfl rfl), rfl, by decide⟩
theorem iq_c259 : iq_cok 259 := ⟨rfl, iq_pl10.1, iq_pl10.2, rfl, by first | (intro _; rfl) | (intro h; cases h), iq_in10, (iq_mt9 (i := 54) rfl rfl), rfl, by decide⟩
theorem iq_c260 : iq_cok 260 := ⟨rfl, iq_pl10.1, iq_pl10.2, rfl, by first | (intro _; rfl) | (intro h; cases h), iq_in10, (iq_mt9 (i := 50) rfl rfl), rfl, by decide⟩
theorem iq_c261 : iq_cok 261 := ⟨rfl, iq_pl10.1, iq_pl10.2, rfl, by first | (intro _; rfl) | (intro h; cases h), iq_in10, (iq_mt9 (i := 46) rfl rfl), rfl, by decide⟩
theorem iq_c262 : iq_cok 262 := ⟨rfl, iq_pl10.1, iq_pl10.2, rfl, by first | (intro _; rfl) | (intro h; cases h), iq_in10, (iq_mt9 (i := 42) rfl rfl), rfl, by decide⟩
theorem iq_c263 : iq_cok 263 := ⟨rfl, iq_pl10.1, iq_pl10.2, rfl, by first | (intro _; rfl) | (intro h; cases h), iq_in10, (iq_mt9 (i := 38) rfl rfl), rfl, by decide⟩
theorem iq_c264 : iq_cok 264 := ⟨rfl, iq_pl10.1, iq_pl10.2, rfl, by first | (intro _; rfl) | (intro h; cases h), iq_in10, (iq_mt9 (i := 34) rfl rfl), rfl, by decide⟩
theorem iq_c265 : iq_cok 265 := ⟨rfl, iq_pl10.1, iq_pl10.2, rfl, by first | (intro _; rfl) | (intro h; cases h), iq_in10, (iq_mt9 (i := 73) rfl rfl), rfl, by decide⟩
theorem iq_c266 : iq_cok 266 := ⟨rfl, iq_pl10.1, iq_pl10.2, rfl, by first | (intro _; rfl) | (intro h; cases h), iq_in10, (iq_mt9 (i := 61) rfl rfl), rfl, by decide⟩
theorem iq_c267 : iq_cok 267 := ⟨rfl, iq_pl10.1, iq_pl10.2, rfl, by first | (intro _; rfl) | (intro h; cases h), iq_in10, (iq_mt9 (i := 77) rfl rfl), rfl, by decide⟩
theorem iq_c268 : iq_cok 268 := ⟨rfl, iq_pl10.1, iq_pl10.2, rfl, by first | (intro _; rfl) | (intro h; cases h), iq_in10, (iq_mt9 (i := 81) rfl rfl), rfl, by decide⟩
theorem iq_c269 : iq_cok 269 := ⟨rfl, iq_pl10.1, iq_pl10.2, rfl, by first | (intro _; rfl) | (intro h; cases h), iq_in10, (iq_mt9 (i := 85) rfl rfl), rfl, by decide⟩
theorem iq_c270 : iq_cok 270 := ⟨rfl, iq_pl10.1, iq_pl10.2, rfl, by first | (intro _; rfl) | (intro h; cases h), iq_in10, (iq_mt9 (i := 101) rfl rfl), rfl, by decide⟩
theorem iq_c271 : iq_cok 271 := ⟨rfl, iq_pl10.1, iq_pl10.2, rfl, by first | (intro _; rfl) | (intro h; cases h), iq_in10, (iq_mt9 (i := 97) rfl rfl), rfl, by decide⟩
theorem iq_c272 : iq_cok 272 := ⟨rfl, iq_pl10.1, iq_pl10.2, rfl, by first | (intro _; rfl) | (intro h; cases h), iq_in10, (iq_mt9 (i := 93) rfl rfl), rfl, by decide⟩
theorem iq_c273 : iq_cok 273 := ⟨rfl, iq_pl10.1, iq_pl10.2, rfl, by first | (intro _; rfl) | (intro h; cases h), iq_in10, (iq_mt9 (i := 89) rfl rfl), rfl, by decide⟩
theorem iq_c274 : iq_cok 274 := ⟨rfl, iq_pl10.1, iq_pl10.2, rfl, by first | (intro _; rfl) | (intro h; cases h), iq_in10, (iq_mt9 (i := 109) rfl rfl), rfl, by decide⟩
theorem iq_c275 : iq_cok 275 := ⟨rfl, iq_pl10.1, iq_pl10.2, rfl, by first | (intro _; rfl) | (intro h; cases h), iq_in10, (iq_mt9 (i := 105) rfl rfl), rfl, by decide⟩
theorem iq_c276 : iq_cok 276 := ⟨rfl, iq_pl10.1, iq_pl10.2, rfl, by first | (intro _; rfl) | (intro h; cases h), iq_in10, (iq_mt9 (i := 113) rfl rfl), rfl, by decide⟩
theorem iq_c277 : iq_cok 277 := ⟨rfl, iq_pl10.1, iq_pl10.2, rfl, by first | (intro _; rfl) | (intro h; cases h), iq_in10, (iq_mt9 (i := 117) rfl rfl), rfl, by decide⟩
theorem iq_c278 : iq_cok 278 := ⟨rfl, iq_pl10.1, iq_pl10.2, rfl, by first | (intro _; rfl) | (intro h; cases h), iq_in10, (iq_mt9 (i := 125) rfl rfl), rfl, by decide⟩
theorem iq_c279 : iq_cok 279 := ⟨rfl, iq_pl10.1, iq_pl10.2, rfl, by first | (intro _; rfl) | (intro h; cases h), iq_in10, (iq_mt9 (i := 121) rfl rfl), rfl, by decide⟩
theorem iq_c280 : iq_cok 280 := ⟨rfl, iq_pl10.1, iq_pl10.2, rfl, by first | (intro _; rfl) | (intro h; cases h), iq_in10, (iq_mt9 (i := 129) rfl rfl), rfl, by decide⟩
theorem iq_c281 : iq_cok 281 := ⟨rfl, iq_pl10.1, iq_pl10.2, rfl, by first | (intro _; rfl) | (intro h; cases h), iq_in10, (iq_mt9 (i := 134) rfl rfl), rfl, by decide⟩
theorem iq_c282 : iq_cok 282 := ⟨rfl, iq_pl10.1, iq_pl10.2, rfl, by first | (intro _; rfl) | (intro h; cases h), iq_in10, (iq_mt9 (i := 149) rfl rfl), rfl, by decide⟩
theorem iq_c283 : iq_cok 283 := ⟨rfl, iq_pl10.1, iq_pl10.2, rfl, by first | (intro _; rfl) | (intro h; cases h), iq_in10, (iq_mt9 (i := 153) rfl rfl), rfl, by decide⟩
theorem iq_c284 : iq_cok 284 := ⟨rfl, iq_pl10.1, iq_pl10.2, rfl, by first | (intro _; rfl) | (intro h; cases h), iq_in10, (iq_mt9 (i := 156) rfl rfl), rfl, by decide⟩
theorem iq_c285 : iq_cok 285 := ⟨rfl, iq_pl10.1, iq_pl10.2, rfl, by first | (intro _; rfl) | (intro h; cases h), iq_in10, (iq_mt9 (i := 145) rfl rfl), rfl, by decide⟩
theorem iq_c286 : iq_cok 286 := ⟨rfl, iq_pl10.1, iq_pl10.2, rfl, by first | (intro _; rfl) | (intro h; cases h), iq_in10, (iq_mt9 (i := 141) rfl rfl), rfl, by decide⟩
theorem iq_c287 : iq_cok 287 := ⟨rfl, iq_pl10.1, iq_pl10.2, rfl, by first | (intro _; rfl) | (intro h; cases h), iq_in10, (iq_mt9 (i := 160) rfl rfl), rfl, by decide⟩
theorem iq_c288 : iq_cok 288 := ⟨rfl, iq_pl10.1, iq_pl10.2, rfl, by first | (intro _; rfl) | (intro h; cases h), iq_in10, (iq_mt9 (i := 164) rfl rfl), rfl, by decide⟩
theorem iq_c289 : iq_cok 289 := ⟨rfl, iq_pl10.1, iq_pl10.2, rfl, by first | (intro _; rfl) | (intro h; cases h), iq_in10, (iq_mt9 (i := 172) rfl rfl), rfl, by decide⟩
theorem iq_c290 : iq_cok 290 := ⟨rfl, iq_pl10.1, iq_pl10.2, rfl, by first | (intro _; rfl) | (intro h; cases h), iq_in10, (iq_mt9 (i := 168) rfl rfl), rfl, by decide⟩
theorem iq_c291 : iq_cok 291 := ⟨rfl, iq_pl10.1, iq_pl10.2, rfl, by first | (intro _; rfl) | (intro h; cases h), iq_in10, (iq_mt9 (i := 176) rfl rfl), rfl, by decide⟩
theorem iq_c292 : iq_cok 292 := ⟨rfl, iq_pl10.1, iq_pl10.2, rfl, by first | (intro _; rfl) | (intro h; cases h), iq_in10, (iq_mt9 (i := 184) rfl rfl), rfl, by decide⟩
theorem iq_c293 : iq_cok 293 := ⟨rfl, iq_pl10.1, iq_pl10.2, rfl, by first | (intro _; rfl) | (intro h; cases h), iq_in10, (iq_mt9 (i := 180) rfl rfl), rfl, by decide⟩
theorem iq_c294 : iq_cok 294 := ⟨rfl, iq_pl10.1, iq_pl10.2, rfl, by first | (intro _; rfl) | (intro h; cases h), iq_in10, (iq_mt9 (i := 188) rfl rfl), rfl, by decide⟩
theorem iq_c295 : iq_cok 295 := ⟨rfl, iq_pl10.1, iq_pl10.2, rfl, by first | (intro _; rfl) | (intro h; cases h), iq_in10, (iq_mt9 (i := 192) rfl rfl), rfl, by decide⟩
theorem iq_c296 : iq_cok 296 := ⟨rfl, iq_pl10.1, iq_pl10.2, rfl, by first | (intro _; rfl) | (intro h; cases h), iq_in10, (iq_mt9 (i := 196) rfl rfl), rfl, by decide⟩
theorem iq_c297 : iq_cok 297 := ⟨rfl, iq_pl10.1, iq_pl10.2, rfl, by first | (intro _; rfl) | (intro h; cases h), iq_in10, (iq_mt9 (i := 204) rfl rfl), rfl, by decide⟩
theorem iq_c298 : iq_cok 298 := ⟨rfl, iq_pl10.1, iq_pl10.2, rfl, by first | (intro _; rfl) | (intro h; cases h), iq_in10, (iq_mt9 (i := 200) rfl rfl), rfl, by decide⟩
theorem iq_c299 : iq_cok 299 := ⟨rfl, iq_pl10.1, iq_pl10.2, rfl, by first | (intro _; rfl) | (intro h; cases h), iq_in10, (iq_mt9 (i := 208) rfl rfl), rfl, by decide⟩
theorem iq_c300 : iq_cok 300 := ⟨rfl, iq_pl10.1, iq_pl10.2, rfl, by first | (intro _; rfl) | (intro h; cases h), iq_in10, (iq_mt9 (i := 212) rfl rfl), rfl, by decide⟩
theorem iq_c301 : iq_cok 301 := ⟨rfl, iq_pl10.1, iq_pl10.2, rfl, by first | (intro _; rfl) | (intro h; cases h), iq_in10, (iq_mt9 (i := 220) rfl rfl), rfl, by decide⟩
theorem iq_c302 : iq_cok 302 := ⟨rfl, iq_pl10.1, iq_pl10.2, rfl, by first | (intro _; rfl) | (intro h; cases h), iq_in10, (iq_mt9 (i := 216) rfl rfl), rfl, by decide⟩
theorem iq_c303 : iq_cok 303 := ⟨rfl, iq_pl10.1, iq_pl10.2, rfl, by first | (intro _; rfl) | (intro h; cases h), iq_in10, (iq_mt9 (i := 224) rfl rfl), rfl, by decide⟩
theorem iq_c304 : iq_cok 304 := ⟨rfl, iq_pl10.1, iq_pl10.2, rfl, by first | (intro _; rfl) | (intro h; cases h), iq_in10, (iq_mt9 (i := 228) rfl rfl), rfl, by decide⟩
theorem iq_c305 : iq_cok 305 := ⟨rfl, iq_pl10.1, iq_pl10.2, rfl, by first | (intro _; rfl) | (intro h; cases h), iq_in10, (iq_mt9 (i := 232) rfl rfl), rfl, by decide⟩
theorem iq_c306 : iq_cok 306 := ⟨rfl, iq_pl10.1, iq_pl10.2, rfl, by first | (intro _; rfl) | (intro h; cases h), iq_in10, (iq_mt9 (i := 236) rfl rfl), rfl, by decide⟩
theorem iq_c307 : iq_cok 307 := ⟨rfl, iq_pl10.1, iq_pl10.2, rfl, by first | (intro _; rfl) | (intro h; cases h), iq_in10, (iq_mt10 (i := 4) rfl rfl), rfl, by decide⟩
theorem iq_c308 : iq_cok 308 := ⟨rfl, iq_pl10.1, iq_pl10.2, rfl, by first | (intro _; rfl) | (intro h; cases h), iq_in10, (iq_mt10 (i := 0) rfl rfl), rfl, by decide⟩
theorem iq_c309 : iq_cok 309 := ⟨rfl, iq_pl10.1, iq_pl10.2, rfl, by first | (intro _; rfl) | (intro h; cases h), iq_in10, (iq_mt10 (i := 9) rfl rfl), rfl, by decide⟩
theorem iq_c310 : iq_cok 310 := ⟨rfl, iq_pl10.1, iq_pl10.2, rfl, by first | (intro _; rfl) | (intro h; cases h), iq_in10, (iq_mt10 (i := 13) rfl rfl), rfl, by decide⟩
theorem iq_c311 : iq_cok 311 := ⟨rfl, iq_pl12.1, iq_pl12.2, rfl, by first | (intro _; rfl) | (intro h; cases h), iq_in12, (iq_mt2 (i := 226) rfl rfl), rfl, by decide⟩
theorem iq_c312 : iq_cok 312 := ⟨rfl, iq_pl14.1, iq_pl14.2, rfl, by first | (intro _; rfl) | (intro h; cases h), iq_in14, (iq_mt3 (i := 176) rfl rfl), rfl, by decide⟩
theorem iq_c313 : iq_cok 313 := ⟨rfl, iq_pl14.1, iq_pl14.2, rfl, by first | (intro _; rfl) | (intro h; cases h), iq_in14, (iq_mt4 (i := 16) rfl rfl), rfl, by decide⟩
theorem iq_c314 : iq_cok 314 := ⟨rfl, iq_pl14.1, iq_pl14.2, rfl, by first | (intro _; rfl) | (intro h; cases h), iq_in14, (iq_mt3 (i := 162) rfl rfl), rfl, by decide⟩
theorem iq_c315 : iq_cok 315 := ⟨rfl, iq_pl14.1, iq_pl14.2, rfl, by first | (intro _; rfl) | (intro h; cases h), iq_in14, (iq_mt3 (i := 166) rfl rfl), rfl, by decide⟩
theorem iq_c316 : iq_cok 316 := ⟨rfl, iq_pl14.1, iq_pl14.2, rfl, by first | (intro _; rfl) | (intro h; cases h), iq_in14, (iq_mt3 (i := 180) rfl rfl), rfl, by decide⟩
theorem iq_c317 : iq_cok 317 := ⟨rfl, iq_pl14.1, iq_pl14.2, rfl, by first | (intro _; rfl) | (intro h; cases h), iq_in14, (iq_mt3 (i := 170) rfl rfl), rfl, by decide⟩
theorem iq_c318 : iq_cok 318 := ⟨rfl, iq_pl14.1, iq_pl14.2, rfl, by first | (intro _; rfl) | (intro h; cases h), iq_in14, (iq_mt4 (i := 22) rfl rfl), rfl, by decide⟩
theorem iq_c319 : iq_cok 319 := ⟨rfl, iq_pl15.1, iq_pl15.2, rfl, by first | (intro _; rfl) | (intro h; cases h), iq_in15, (iq_mt4 (i := 19) rfl rfl), rfl, by decide⟩
theorem iq_c320 : iq_cok 320 := ⟨rfl, iq_pl15.1, iq_pl15.2, rfl, by first | (intro _; rfl) | (intro h; cases h), iq_in15, (iq_mt3 (i := 186) rfl rfl), rfl, by decide⟩
theorem iq_c321 : iq_cok 321 := ⟨rfl, iq_pl15.1, iq_pl15.2, rfl, by first | (intro _; rfl) | (intro h; cases h), iq_in15, (iq_mt3 (i := 183) rfl rfl), rfl, by decide⟩
theorem iq_c322 : iq_cok 322 := ⟨rfl, iq_pl15.1, iq_pl15.2, rfl, by first | (intro _; rfl) | (intro h; cases h), iq_in15, (iq_mt3 (i := 193) rfl rfl), rfl, by decide⟩
theorem iq_c323 : iq_cok 323 := ⟨rfl, iq_pl16.1, iq_pl16.2, rfl, by first | (intro _; rfl) | (intro h; cases h), iq_in16, (iq_mt1 (i := 76) rfl rfl), rfl, by decide⟩
theorem iq_c324 : iq_cok 324 := ⟨rfl, iq_pl17.1, iq_pl17.2, rfl, by first | (intro _; rfl) | (intro h; cases h), iq_in17, (iq_mt4 (i := 25) rfl rfl), rfl, by decide⟩
theorem iq_c325 : iq_cok 325 := ⟨rfl, iq_pl11.1, iq_pl11.2, rfl, by first | (intro _; rfl) | (intro h; cases h), iq_in11, (iq_mt3 (i := 50) rfl rfl), rfl, by decide⟩
theorem iq_c326 : iq_cok 326 := ⟨rfl, iq_pl11.1, iq_pl11.2, rfl, by first | (intro _; rfl) | (intro h; cases h), iq_in11, (iq_mt4 (i := 225) rfl rfl), rfl, by decide⟩
theorem iq_c327 : iq_cok 327 := ⟨rfl, iq_pl11.1, iq_pl11.2, rfl, by first | (intro _; rfl) | (intro h; cases h), iq_in11, (iq_mt5 (i := 19) rfl rfl), rfl, by decide⟩
theorem iq_c328 : iq_cok 328 := ⟨rfl, iq_pl11.1, iq_pl11.2, rfl, by first | (intro _; rfl) | (intro h; cases h), iq_in11, (iq_mt5 (i := 33) rfl rfl), rfl, by decide⟩
theorem iq_c329 : iq_cok 329 := ⟨rfl, iq_pl11.1, iq_pl11.2, rfl, by first | (intro _; rfl) | (intro h; cases h), iq_in11, (iq_mt5 (i := 40) rfl rfl), rfl, by decide⟩
theorem iq_c330 : iq_cok 330 := ⟨rfl, iq_pl11.1, iq_pl11.2, rfl, by first | (intro _; rfl) | (intro h; cases h), iq_in11, (iq_mt5 (i := 58) rfl rfl), rfl, by decide⟩
theorem iq_c331 : iq_cok 331 := ⟨rfl, iq_pl11.1, iq_pl11.2, rfl, by first | (intro _; rfl) | (intro h; cases h), iq_in11, (iq_mt5 (i := 77) rfl rfl), rfl, by decide⟩
theorem iq_c332 : iq_cok 332 := ⟨rfl, iq_pl11.1, iq_pl11.2, rfl, by first | (intro _; rfl) | (intro h; cases h), iq_in11, (iq_mt5 (i := 132) rfl rfl), rfl, by decide⟩
theorem iq_c333 : iq_cok 333 := ⟨rfl, iq_pl11.1, iq_pl11.2, rfl, by first | (intro _; rfl) | (intro h; cases h), iq_in11, (iq_mt5 (i := 144) rfl rfl), rfl, by decide⟩
theorem iq_c334 : iq_cok 334 := ⟨rfl, iq_pl11.1, iq_pl11.2, rfl, by first | (intro _; rfl) | (intro h; cases h), iq_in11, (iq_mt5 (i := 151) rfl rfl), rfl, by decide⟩
theorem iq_c335 : iq_cok 335 := ⟨rfl, iq_pl11.1, iq_pl11.2, rfl, by first | (intro _; rfl) | (intro h; cases h), iq_in11, (iq_mt5 (i := 159) rfl rfl), rfl, by decide⟩
theorem iq_c336 : iq_cok 336 := ⟨rfl, iq_pl11.1, iq_pl11.2, rfl, by first | (intro _; rfl) | (intro h; cases h), iq_in11, (iq_mt5 (i := 174) rfl rfl), rfl, by decide⟩
theorem iq_c337 : iq_cok 337 := ⟨rfl, iq_pl11.1, iq_pl11.2, rfl, by first | (intro _; rfl) | (intro h; cases h), iq_in11, (iq_mt5 (i := 207) rfl rfl), rfl, by decide⟩
theorem iq_c338 : iq_cok 338 := ⟨rfl, iq_pl11.1, iq_pl11.2, rfl, by first | (intro _; rfl) | (intro h; cases h), iq_in11, (iq_mt5 (i := 218) rfl rfl), rfl, by decide⟩
theorem iq_c339 : iq_cok 339 := ⟨rfl, iq_pl11.1, iq_pl11.2, rfl, by first | (intro _; rfl) | (intro h; cases h), iq_in11, (iq_mt5 (i := 235) rfl rfl), rfl, by decide⟩
theorem iq_c340 : iq_cok 340 := ⟨rfl, iq_pl11.1, iq_pl11.2, rfl, by first | (intro _; rfl) | (intro h; cases h), iq_in11, (iq_mt6 (i := 19) rfl rfl), rfl, by decide⟩
theorem iq_c341 : iq_cok 341 := ⟨rfl, iq_pl11.1, iq_pl11.2, rfl, by first | (intro _; rfl) | (intro h; cases h), iq_in11, (iq_mt6 (i := 62) rfl rfl), rfl, by decide⟩
theorem iq_c342 : iq_cok 342 := ⟨rfl, iq_pl11.1, iq_pl11.2, rfl, by first | (intro _; rfl) | (intro h; cases h), iq_in11, (iq_mt6 (i := 88) rfl rfl), rfl, by decide⟩
theorem iq_c343 : iq_cok 343 := ⟨rfl, iq_pl11.1, iq_pl11.2, rfl, by first | (intro _; rfl) | (intro h; cases h), iq_in11, (iq_mt6 (i := 99) rfl rfl), rfl, by decide⟩
theorem iq_c344 : iq_cok 344 := ⟨rfl, iq_pl11.1, iq_pl11.2, rfl, by first | (intro _; rfl) | (intro h; cases h), iq_in11, (iq_mt6 (i := 118) rfl rfl), rfl, by decide⟩
theorem iq_c345 : iq_cok 345 := ⟨rfl, iq_pl11.1, iq_pl11.2, rfl, by first | (intro _; rfl) | (intro h; cases h), iq_in11, (iq_mt6 (i := 130) rfl rfl), rfl, by decide⟩
theorem iq_c346 : iq_cok 346 := ⟨rfl, iq_pl11.1, iq_pl11.2, rfl, by first | (intro _; rfl) | (intro h; cases h), iq_in11, (iq_mt6 (i := 138) rfl rfl), rfl, by decide⟩
theorem iq_c347 : iq_cok 347 := ⟨rfl, iq_pl11.1, iq_pl11.2, rfl, by first | (intro _; rfl) | (intro h; cases h), iq_in11, (iq_mt6 (i := 158) rfl rfl), rfl, by decide⟩
theorem iq_c348 : iq_cok 348 := ⟨rfl, iq_pl11.1, iq_pl11.2, rfl, by first | (intro _; rfl) | (intro h; cases h), iq_in11, (iq_mt6 (i := 183) rfl rfl), rfl, by decide⟩
theorem iq_c349 : iq_cok 349 := ⟨rfl, iq_pl11.1, iq_pl11.2, rfl, by first | (intro _; rfl) | (intro h; cases h), iq_in11, (iq_mt6 (i := 195) rfl rfl), rfl, by decide⟩
theorem iq_c350 : iq_cok 350 := ⟨rfl, iq_pl11.1, iq_pl11.2, rfl, by first | (intro _; rfl) | (intro h; cases h), iq_in11, (iq_mt6 (i := 210) rfl rfl), rfl, by decide⟩
theorem iq_c351 : iq_cok 351 := ⟨rfl, iq_pl11.1, iq_pl11.2, rfl, by first | (intro _; rfl) | (intro h; cases h), iq_in11, (iq_mt6 (i := 221) rfl rfl), rfl, by decide⟩
theorem iq_c352 : iq_cok 352 := ⟨rfl, iq_pl11.1, iq_pl11.2, rfl, by first | (intro _; rfl) | (intro h; cases h), iq_in11, (iq_mt6 (i := 232) rfl rfl), rfl, by decide⟩
theorem iq_c353 : iq_cok 353 := ⟨rfl, iq_pl11.1, iq_pl11.2, rfl, by first | (intro _; rfl) | (intro h; cases h), iq_in11, (iq_mt7 (i := 25) rfl rfl), rfl, by decide⟩
theorem iq_c354 : iq_cok 354 := ⟨rfl, iq_pl11.1, iq_pl11.2, rfl, by first | (intro _; rfl) | (intro h; cases h), iq_in11, (iq_mt7 (i := 45) rfl rfl), rfl, by decide⟩
theorem iq_c355 : iq_cok 355 := ⟨rfl, iq_pl11.1, iq_pl11.2, rfl, by first | (intro _; rfl) | (intro h; cases h), iq_in11, (iq_mt7 (i := 53) rfl rfl), rfl, by decide⟩
theorem iq_c356 : iq_cok 356 := ⟨rfl, iq_pl11.1, iq_pl11.2, rfl, by first | (intro _; rfl) | (intro h; cases h), iq_in11, (iq_mt7 (i := 61) rfl rfl), rfl, by decide⟩
theorem iq_cb0 : ∀ mi ∈ ([0, 1, 2, 3, 4, 5, 6, 7, 8, 9, 10, 11, 12, 13, 14, 15, 16, 17, 18, 19, 20, 21, 22, 23, 24, 25, 26, 27, 28, 29, 30, 31, 32, 33, 34, 35, 36, 37, 38, 39] : List Nat), iq_cok mi := List.forall_mem_cons.mpr ⟨iq_c0, List.forall_mem_cons.mpr ⟨iq_c1, List.forall_mem_cons.mpr ⟨iq_c2, List.forall_mem_cons.mpr ⟨iq_c3, List.forall_mem_cons.mpr ⟨iq_c4, List.forall_mem_cons.mpr ⟨iq_c5, List.forall_mem_cons.mpr ⟨iq_c6, List.forall_mem_cons.mpr ⟨iq_c7, List.forall_mem_cons.mpr ⟨iq_c8, List.forall_mem_cons.mpr ⟨iq_c9, List.forall_mem_cons.mpr ⟨iq_c10, List.forall_mem_cons.mpr ⟨iq_c11, List.forall_mem_cons.mpr ⟨iq_c12, List.forall_mem_cons.mpr ⟨iq_c13, List.forall_mem_cons.mpr ⟨iq_c14, List.forall_mem_cons.mpr ⟨iq_c15, List.forall_mem_cons.mpr ⟨iq_c16, List.forall_mem_cons.mpr ⟨iq_c17, List.forall_mem_cons.mpr ⟨iq_c18, List.forall_mem_cons.mpr ⟨iq_c19, List.forall_mem_cons.mpr ⟨iq_c20, List.forall_mem_cons.mpr ⟨iq_c21, List.forall_mem_cons.mpr ⟨iq_c22, List.forall_mem_cons.mpr ⟨iq_c23, List.forall_mem_cons.mpr ⟨iq_c24, List.forall_mem_cons.mpr ⟨iq_c25, List.forall_mem_cons.mpr ⟨iq_c26, List.forall_mem_cons.mpr ⟨iq_c27, List.forall_mem_cons.mpr ⟨iq_c28, List.forall_mem_cons.mpr ⟨iq_c29, List.forall_mem_cons.mpr ⟨iq_c30, List.forall_mem_cons.mpr ⟨iq_c31, List.forall_mem_cons.mpr ⟨iq_c32, List.forall_mem_cons.mpr ⟨iq_c33, List.forall_mem_cons.mpr ⟨iq_c34, List.forall_mem_cons.mpr ⟨iq_c35, List.forall_mem_cons.mpr ⟨iq_c36, List.forall_mem_cons.mpr ⟨iq_c37, List.forall_mem_cons.mpr ⟨iq_c38, List.forall_mem_cons.mpr ⟨iq_c39, fun _ h => absurd h List.not_mem_nil⟩⟩⟩⟩⟩⟩⟩⟩⟩⟩⟩⟩⟩⟩⟩⟩⟩⟩⟩⟩⟩⟩⟩⟩⟩⟩⟩⟩⟩⟩⟩⟩⟩⟩⟩⟩⟩⟩⟩⟩
theorem iq_cb1 : ∀ mi ∈ ([40, 41, 42, 43, 44, 45, 46, 47, 48, 49, 50, 51, 52, 53, 54, 55, 56, 57, 58, 59, 60, 61, 62, 63, 64, 65, 66, 67, 68, 69, 70, 71, 72, 73, 74, 75, 76, 77, 78, 79] : List Nat), iq_cok mi := List.forall_mem_cons.mpr ⟨iq_c40, List.forall_mem_cons.mpr ⟨iq_c41, List.forall_mem_cons.mpr ⟨iq_c42, List.forall_mem_cons.mpr ⟨iq_c43, List.forall_mem_cons.mpr ⟨iq_c44, List.forall_mem_cons.mpr ⟨iq_c45, List.forall_mem_cons.mpr ⟨iq_c46, List.forall_mem_cons.mpr ⟨iq_c47, List.forall_mem_cons.mpr ⟨iq_c48, List.forall_mem_cons.mpr ⟨iq_c49, List.forall_mem_cons.mpr ⟨iq_c50, List.forall_mem_cons.mpr ⟨iq_c51, List.forall_mem_cons.mpr ⟨iq_c52, List.forall_mem_cons.mpr ⟨iq_c53, List.forall_mem_cons.mpr ⟨iq_c54, List.forall_mem_cons.mpr ⟨iq_c55, List.forall_mem_cons.mpr ⟨iq_c56, List.forall_mem_cons.mpr ⟨iq_c57, List.forall_mem_cons.mpr ⟨iq_c58, List.forall_mem_cons.mpr ⟨iq_c59, List.forall_mem_cons.mpr ⟨iq_c60, List.forall_mem_cons.mpr ⟨iq_c61, List.forall_mem_cons.mpr ⟨iq_c62, List.forall_mem_cons.mpr ⟨iq_c63, List.forall_mem_cons.mpr ⟨iq_c64, List.forall_mem_cons.mpr ⟨iq_c65, List.forall_mem_cons.mpr ⟨iq_c66, List.forall_mem_cons.mpr ⟨iq_c67, List.forall_mem_cons.mpr ⟨iq_c68, List.forall_mem_cons.mpr ⟨iq_c69, List.forall_mem_cons.mpr ⟨iq_c70, List.forall_mem_cons.mpr ⟨iq_c71, List.forall_mem_cons.mpr ⟨iq_c72, List.forall_mem_cons.mpr ⟨iq_c73, List.forall_mem_cons.mpr ⟨iq_c74, List.forall_mem_cons.mpr ⟨iq_c75, List.forall_mem_cons.mpr ⟨iq_c76, List.forall_mem_cons.mpr ⟨iq_c77, List.forall_mem_cons.mpr ⟨iq_c78, List.forall_mem_cons.mpr ⟨iq_c79, fun _ h => absurd h List.not_mem_nil⟩⟩⟩⟩⟩⟩⟩⟩⟩⟩⟩⟩⟩⟩⟩⟩⟩⟩⟩⟩⟩⟩⟩⟩⟩⟩⟩⟩⟩⟩⟩⟩⟩⟩⟩⟩⟩⟩⟩⟩
theorem iq_cb2 : ∀ mi ∈ ([80, 81, 82, 83, 84, 85, 86, 87, 88, 89, 90, 91, 92, 93, 94, 95, 96, 97, 98, 99, 100, 101, 102, 103, 104, 105, 106, 107, 108, 109, 110, 111, 112, 113, 114, 115, 116, 117, 118, 119] : List Nat), iq_cok mi := List.forall_mem_cons.mpr ⟨iq_c80, List.forall_mem_cons.mpr ⟨iq_c81, List.forall_mem_cons.mpr ⟨iq_c82, List.forall_mem_cons.mpr ⟨iq_c83, List.forall_mem_cons.mpr ⟨iq_c84, List.forall_mem_cons.mpr ⟨iq_c85, List.forall_mem_cons.mpr ⟨iq_c86, List.forall_mem_cons.mpr ⟨iq_c87, List.forall_mem_cons.mpr ⟨iq_c88, List.forall_mem_cons.mpr ⟨iq_c89, List.forall_mem_cons.mpr ⟨iq_c90, List.forall_mem_cons.mpr ⟨iq_c91, List.forall_mem_cons.mpr ⟨iq_c92, List.forall_mem_cons.mpr ⟨iq_c93, List.forall_mem_cons.mpr ⟨iq_c94, List.forall_mem_cons.mpr ⟨iq_c95, List.forall_mem_cons.mpr ⟨iq_c96, List.forall_mem_cons.mpr ⟨iq_c97, List.forall_mem_cons.mpr ⟨iq_c98, List.forall_mem_cons.mpr ⟨iq_c99, List.forall_mem_cons.mpr ⟨iq_c100, List.forall_mem_cons.mpr ⟨iq_c101, List.forall_mem_cons.mpr ⟨iq_c102, List.forall_mem_cons.mpr ⟨iq_c103, List.forall_mem_cons.mpr ⟨iq_c104, List.forall_mem_cons.mpr ⟨iq_c105, List.forall_mem_cons.mpr ⟨iq_c106, List.forall_mem_cons.mpr ⟨iq_c107, List.forall_mem_cons.mpr ⟨iq_c108, List.forall_mem_cons.mpr ⟨iq_c109, List.forall_mem_cons.mpr ⟨iq_c110, List.forall_mem_cons.mpr ⟨iq_c111, List.forall_mem_cons.mpr ⟨iq_c112, List.forall_mem_cons.mpr ⟨iq_c113, List.forall_mem_cons.mpr ⟨iq_c114, List.forall_mem_cons.mpr ⟨iq_c115, List.forall_mem_cons.mpr ⟨iq_c116, List.forall_mem_cons.mpr ⟨iq_c117, List.forall_mem_cons.mpr ⟨iq_c118, List.forall_mem_cons.mpr ⟨iq_c119, fun _ h => absurd h List.not_mem_nil⟩⟩⟩⟩⟩⟩⟩⟩⟩⟩⟩⟩⟩⟩⟩⟩⟩⟩⟩⟩⟩⟩⟩⟩⟩⟩⟩⟩⟩⟩⟩⟩⟩⟩⟩⟩⟩⟩⟩⟩
theorem iq_cb3 : ∀ mi ∈ ([120, 121, 122, 123, 124, 125, 126, 127, 128, 129, 130, 131, 132, 133, 134, 135, 136, 137, 138, 139, 140, 141, 142, 143, 144, 145, 146, 147, 148, 149, 150, 151, 152, 153, 154, 155, 156, 157, 158, 159] : List Nat), iq_cok mi := List.forall_mem_cons.mpr ⟨iq_c120, List.forall_mem_cons.mpr ⟨iq_c121, List.forall_mem_cons.mpr ⟨iq_c122, List.forall_mem_cons.mpr ⟨iq_c123, List.forall_mem_cons.mpr ⟨iq_c124, List.forall_mem_cons.mpr ⟨iq_c125, List.forall_mem_cons.mpr ⟨iq_c126, List.forall_mem_cons.mpr ⟨iq_c127, List.forall_mem_cons.mpr ⟨iq_c128, List.forall_mem_cons.mpr ⟨iq_c129, List.forall_mem_cons.mpr ⟨iq_c130, List.forall_mem_cons.mpr ⟨iq_c131, List.forall_mem_cons.mpr ⟨iq_c132, List.forall_mem_cons.mpr ⟨iq_c133, List.forall_mem_cons.mpr ⟨iq_c134, List.forall_mem_cons.mpr ⟨iq_c135, List.forall_mem_cons.mpr ⟨iq_c136, List.forall_mem_cons.mpr ⟨iq_c137, List.forall_mem_cons.mpr ⟨iq_c138, List.forall_mem_cons.mpr ⟨iq_c139, List.forall_mem_cons.mpr ⟨iq_c140, List.forall_mem_cons.mpr ⟨iq_c141, List.forall_mem_cons.mpr ⟨iq_c142, List.forall_mem_cons.mpr ⟨iq_c143, List.forall_mem_cons.mpr ⟨iq_c144, List.forall_mem_cons.mpr ⟨iq_c145, List.forall_mem_cons.mpr ⟨iq_c146, List.forall_mem_cons.mpr ⟨iq_c147, List.forall_mem_cons.mpr ⟨iq_c148, List.forall_mem_cons.mpr ⟨iq_c149, List.forall_mem_cons.mpr ⟨iq_c150, List.forall_mem_cons.mpr ⟨iq_c151, List.forall_mem_cons.mpr ⟨iq_c152, List.forall_mem_cons.mpr ⟨iq_c153, List.forall_mem_cons.mpr ⟨iq_c154, List.forall_mem_cons.mpr ⟨iq_c155, List.forall_mem_cons.mpr ⟨iq_c156, List.forall_mem_cons.mpr ⟨iq_c157, List.forall_mem_cons.mpr ⟨iq_c158, List.forall_mem_cons.mpr ⟨iq_c159, fun _ h => absurd h List.not_mem_nil⟩⟩⟩⟩⟩⟩⟩⟩⟩⟩⟩⟩⟩⟩⟩⟩⟩⟩⟩⟩⟩⟩⟩⟩⟩⟩⟩⟩⟩⟩⟩⟩⟩⟩⟩⟩⟩⟩⟩⟩
theorem iq_cb4 : ∀ mi ∈ ([160, 161, 162, 163, 164, 165, 166, 167, 168, 169, 170, 171, 172, 173, 174, 175, 176, 177, 178, 179, 180, 181, 182, 183, 184, 185, 186, 187, 188, 189, 190, 191, 192, 193, 194, 195, 196, 197, 198, 199] : List Nat), iq_cok mi := List.forall_mem_cons.mpr ⟨iq_c160, List.forall_mem_cons.mpr ⟨iq_c161, List.forall_mem_cons.mpr ⟨iq_c162, List.forall_mem_cons.mpr ⟨iq_c163, List.forall_mem_cons.mpr ⟨iq_c164, List.forall_mem_cons.mpr ⟨iq_c165, List.forall_mem_cons.mpr ⟨iq_c166, List.forall_mem_cons.mpr ⟨iq_c167, List.forall_mem_cons.mpr ⟨iq_c168, List.forall_mem_cons.mpr ⟨iq_c169, List.forall_mem_cons.mpr ⟨iq_c170, List.forall_mem_cons.mpr ⟨iq_c171, List.forall_mem_cons.mpr ⟨iq_c172, List.forall_mem_cons.mpr ⟨iq_c173, List.forall_mem_cons.mpr ⟨iq_c174, List.forall_mem_cons.mpr ⟨iq_c175, List.forall_mem_cons.mpr ⟨iq_c176, List.forall_mem_cons.mpr ⟨iq_c177, List.forall_mem_cons.mpr ⟨iq_c178, List.forall_mem_cons.mpr ⟨iq_c179, List.forall_mem_cons.mpr ⟨iq_c180, List.forall_mem_cons.mpr ⟨iq_c181, List.forall_mem_cons.mpr ⟨iq_c182, List.forall_mem_cons.mpr ⟨iq_c183, List.forall_mem_cons.mpr ⟨iq_c184, List.forall_mem_cons.mpr ⟨iq_c185, List.forall_mem_cons.mpr ⟨iq_c186, List.forall_mem_cons.mpr ⟨iq_c187, List.forall_mem_cons.mpr ⟨iq_c188, List.forall_mem_cons.mpr ⟨iq_c189, List.forall_mem_cons.mpr ⟨iq_c190, List.forall_mem_cons.mpr ⟨iq_c191, List.forall_mem_cons.mpr ⟨iq_c192, List.forall_mem_cons.mpr ⟨iq_c193, List.forall_mem_cons.mpr ⟨iq_c194, List.forall_mem_cons.mpr ⟨iq_c195, List.forall_mem_cons.mpr ⟨iq_c196, List.forall_mem_cons.mpr ⟨iq_c197, List.forall_mem_cons.mpr ⟨iq_c198, List.forall_mem_cons.mpr ⟨iq_c199, fun _ h => absurd h List.not_mem_nil⟩⟩⟩⟩⟩⟩⟩⟩⟩⟩⟩⟩⟩⟩⟩⟩⟩⟩⟩⟩⟩⟩⟩⟩⟩⟩⟩⟩⟩⟩⟩⟩⟩⟩⟩⟩⟩⟩⟩⟩
theorem iq_cb5 : ∀ mi ∈ ([200, 201, 202, 203, 204, 205, 206, 207, 208, 209, 210, 211, 212, 213, 214, 215, 216, 217, 218, 219, 220, 221, 222, 223, 224, 225, 226, 227, 228, 229, 230, 231, 232, 233, 234, 235, 236, 237, 238, 239] : List Nat), iq_cok mi := List.forall_mem_cons.mpr ⟨iq_c200, List.forall_mem_cons.mpr ⟨iq_c201, List.forall_mem_cons.mpr ⟨iq_c202, List.forall_mem_cons.mpr ⟨iq_c203, List.forall_mem_cons.mpr ⟨iq_c204, List.forall_mem_cons.mpr ⟨iq_c205, List.forall_mem_cons.mpr ⟨iq_c206, List.forall_mem_cons.mpr ⟨iq_c207, List.forall_mem_cons.mpr ⟨iq_c208, List.forall_mem_cons.mpr ⟨iq_c209, List.forall_mem_cons.mpr ⟨iq_c210, List.forall_mem_cons.mpr ⟨iq_c211, List.forall_mem_cons.mpr ⟨iq_c212, List.forall_mem_cons.mpr ⟨iq_c213, List.forall_mem_cons.mpr ⟨iq_c214, List.forall_mem_cons.mpr ⟨iq_c215, List.forall_mem_cons.mpr ⟨iq_c216, List.forall_mem_cons.mpr ⟨iq_c217, List.forall_mem_cons.mpr ⟨iq_c218, List.forall_mem_cons.mpr ⟨iq_c219, List.forall_mem_cons.mpr ⟨iq_c220, List.forall_mem_cons.mpr ⟨iq_c221, List.forall_mem_cons.mpr ⟨iq_c222, List.forall_mem_cons.mpr ⟨iq_c223, List.forall_mem_cons.mpr ⟨iq_c224, List.forall_mem_cons.mpr ⟨iq_c225, List.forall_mem_cons.mpr ⟨iq_c226, List.forall_mem_cons.mpr ⟨iq_c227, List.forall_mem_cons.mpr ⟨iq_c228, List.forall_mem_cons.mpr ⟨iq_c229, List.forall_mem_cons.mpr ⟨iq_c230, List.forall_mem_cons.mpr ⟨iq_c231, List.forall_mem_cons.mpr ⟨iq_c232, List.forall_mem_cons.mpr ⟨iq_c233, List.forall_mem_cons.mpr ⟨iq_c234, List.forall_mem_cons.mpr ⟨iq_c235, List.forall_mem_cons.mpr ⟨iq_c236, List.forall_mem_cons.mpr ⟨iq_c237, List.forall_mem_cons.mpr ⟨iq_c238, List.forall_mem_cons.mpr ⟨iq_c239, fun _ h => absurd h List.not_mem_nil⟩⟩⟩⟩⟩⟩⟩⟩⟩⟩⟩⟩⟩⟩⟩⟩⟩⟩⟩⟩⟩⟩⟩⟩⟩⟩⟩⟩⟩⟩⟩⟩⟩⟩⟩⟩⟩⟩⟩⟩
theorem iq_cb6 : ∀ mi ∈ ([240, 241, 242, 243, 244, 245, 246, 247, 248, 249, 250, 251, 252, 253, 254, 255, 256, 257, 258, 259, 260, 261, 262, 263, 264, 265, 266, 267, 268, 269, 270, 271, 272, 273, 274, 275, 276, 277, 278, 279] : List Nat), iq_cok mi := List.forall_mem_cons.mpr ⟨iq_c240, List.forall_mem_cons.mpr ⟨iq_c241, List.forall_mem_cons.mpr ⟨iq_c242, List.forall_mem_cons.mpr ⟨iq_c243, List.forall_mem_cons.mpr ⟨iq_c244, List.forall_mem_cons.mpr ⟨iq_c245, List.forall_mem_cons.mpr ⟨iq_c246, List.forall_mem_cons.mpr ⟨iq_c247, List.forall_mem_cons.mpr ⟨iq_c248, List.forall_mem_cons.mpr ⟨iq_c249, List.forall_mem_cons.mpr ⟨iq_c250, List.forall_mem_cons.mpr ⟨iq_c251, List.forall_mem_cons.mpr ⟨iq_c252, List.forall_mem_cons.mpr ⟨iq_c253, List.forall_mem_cons.mpr ⟨iq_c254, List.forall_mem_cons.mpr ⟨iq_c255, List.forall_mem_cons.mpr ⟨iq_c256, List.forall_mem_cons.mpr ⟨iq_c257, List.forall_mem_cons.mpr ⟨iq_c258, List.forall_mem_cons.mpr ⟨iq_c259, List.forall_mem_cons.mpr ⟨iq_c260, List.forall_mem_cons.mpr ⟨iq_c261, List.forall_mem_cons.mpr ⟨iq_c262, List.forall_mem_cons.mpr ⟨iq_c263, List.forall_mem_cons.mpr ⟨iq_c264, List.forall_mem_cons.mpr ⟨iq_c265, List.forall_mem_cons.mpr ⟨iq_c266, List.forall_mem_cons.mpr ⟨iq_c267, List.forall_mem_cons.mpr ⟨iq_c268, List.forall_mem_cons.mpr ⟨iq_c269, List.forall_mem_cons.mpr ⟨iq_c270, List.forall_mem_cons.mpr ⟨iq_c271, List.forall_mem_cons.mpr ⟨iq_c272, List.forall_mem_cons.mpr ⟨iq_c273, List.forall_mem_cons.mpr ⟨iq_c274, List.forall_mem_cons.mpr ⟨iq_c275, List.forall_mem_cons.mpr ⟨iq_c276, List.forall_mem_cons.mpr ⟨iq_c277, List.forall_mem_cons.mpr ⟨iq_c278, List.forall_mem_cons.mpr ⟨iq_c279, fun _ h => absurd h List.not_mem_nil⟩⟩⟩⟩⟩⟩⟩⟩⟩⟩⟩⟩⟩⟩⟩⟩⟩⟩⟩⟩⟩⟩⟩⟩⟩⟩⟩⟩⟩⟩⟩⟩⟩⟩⟩⟩⟩⟩⟩⟩
theorem iq_cb7 : ∀ mi ∈ ([280, 281, 282, 283, 284, 285, 286, 287, 288, 289, 290, 291, 292, 293, 294, 295, 296, 297, 298, 299, 300, 301, 302, 303, 304, 305, 306, 307, 308, 309, 310, 311, 312, 313, 314, 315, 316, 317, 318, 319] : List Nat), iq_cok mi := List.forall_mem_cons.mpr ⟨iq_c280, List.forall_mem_cons.mpr ⟨iq_c281, List.forall_mem_cons.mpr ⟨iq_c282, List.forall_mem_cons.mpr ⟨iq_c283, List.forall_mem_cons.mpr ⟨iq_c284, List.forall_mem_cons.mpr ⟨iq_c285, List.forall_mem_cons.mpr ⟨iq_c286, List.forall_mem_cons.mpr ⟨iq_c287, List.forall_mem_cons.mpr ⟨iq_c288, List.forall_mem_cons.mpr ⟨iq_c289, List.forall_mem_cons.mpr ⟨iq_c290, List.forall_mem_cons.mpr ⟨iq_c291, List.forall_mem_cons.mpr ⟨iq_c292, List.forall_mem_cons.mpr ⟨iq_c293, List.forall_mem_cons.mpr ⟨iq_c294, List.forall_mem_cons.mpr ⟨iq_c295, List.forall_mem_cons.mpr ⟨iq_c296, List.forall_mem_cons.mpr ⟨iq_c297, List.forall_mem_cons.mpr ⟨iq_c298, List.forall_mem_cons.mpr ⟨iq_c299, List.forall_mem_cons.mpr ⟨iq_c300, List.forall_mem_cons.mpr ⟨iq_c301, List.forall_mem_cons.mpr ⟨iq_c302, List.forall_mem_cons.mpr ⟨iq_c303, List.forall_mem_cons.mpr ⟨iq_c304, List.forall_mem_cons.mpr ⟨iq_c305, List.forall_mem_cons.mpr ⟨iq_c306, List.forall_mem_cons.mpr ⟨iq_c307, List.forall_mem_cons.mpr ⟨iq_c308, List.forall_mem_cons.mpr ⟨iq_c309, List.forall_mem_cons.mpr ⟨iq_c310, List.forall_mem_cons.mpr ⟨iq_c311, List.forall_mem_cons.mpr ⟨iq_c312, List.forall_mem_cons.mpr ⟨iq_c313, List.forall_mem_cons.mpr ⟨iq_c314, List.forall_mem_cons.mpr ⟨iq_c315, List.forall_mem_cons.mpr ⟨iq_c316, List.forall_mem_cons.mpr ⟨iq_c317, List.forall_mem_cons.mpr ⟨iq_c318, List.forall_mem_cons.mpr ⟨iq_c319, fun _ h => absurd h List.not_mem_nil⟩⟩⟩⟩⟩⟩⟩⟩⟩⟩⟩⟩⟩⟩⟩⟩⟩⟩⟩⟩⟩⟩⟩⟩⟩⟩⟩⟩⟩⟩⟩⟩⟩⟩⟩⟩⟩⟩⟩⟩
theorem iq_cb8 : ∀ mi ∈ ([320, 321, 322, 323, 324, 325, 326, 327, 328, 329, 330, 331, 332, 333, 334, 335, 336, 337, 338, 339, 340, 341, 342, 343, 344, 345, 346, 347, 348, 349, 350, 351, 352, 353, 354, 355, 356] : List Nat), iq_cok mi := List.forall_mem_cons.mpr ⟨iq_c320, List.forall_mem_cons.mpr ⟨iq_c321, List.forall_mem_cons.mpr ⟨iq_c322, List.forall_mem_cons.mpr ⟨iq_c323, List.forall_mem_cons.mpr ⟨iq_c324, List.forall_mem_cons.mpr ⟨iq_c325, List.forall_mem_cons.mpr ⟨iq_c326, List.forall_mem_cons.mpr ⟨iq_c327, List.forall_mem_cons.mpr ⟨iq_c328, List.forall_mem_cons.mpr ⟨iq_c329, List.forall_mem_cons.mpr ⟨iq_c330, List.forall_mem_cons.mpr ⟨iq_c331, List.forall_mem_cons.mpr ⟨iq_c332, List.forall_mem_cons.mpr ⟨iq_c333, List.forall_mem_cons.mpr ⟨iq_c334, List.forall_mem_cons.mpr ⟨iq_c335, List.forall_mem_cons.mpr ⟨iq_c336, List.forall_mem_cons.mpr ⟨iq_c337, List.forall_mem_cons.mpr ⟨iq_c338, List.forall_mem_cons.mpr ⟨iq_c339, List.forall_mem_cons.mpr ⟨iq_c340, List.forall_mem_cons.mpr ⟨iq_c341, List.forall_mem_cons.mpr ⟨iq_c342, List.forall_mem_cons.mpr ⟨iq_c343, List.forall_mem_cons.mpr ⟨iq_c344, List.forall_mem_cons.mpr ⟨iq_c345, List.forall_mem_cons.mpr ⟨iq_c346, List.forall_mem_cons.mpr ⟨iq_c347, List.forall_mem_cons.mpr ⟨iq_c348, List.forall_mem_cons.mpr ⟨iq_c349, List.forall_mem_cons.mpr ⟨iq_c350, List.forall_mem_cons.mpr ⟨iq_c351, List.forall_mem_cons.mpr ⟨iq_c352, List.forall_mem_cons.mpr ⟨iq_c353, List.forall_mem_cons.mpr ⟨iq_c354, List.forall_mem_cons.mpr ⟨iq_c355, List.forall_mem_cons.mpr ⟨iq_c356, fun _ h => absurd h List.not_mem_nil⟩⟩⟩⟩⟩⟩⟩⟩⟩⟩⟩⟩⟩⟩⟩⟩⟩⟩⟩⟩⟩⟩⟩⟩⟩⟩⟩⟩⟩⟩⟩⟩⟩⟩⟩⟩⟩
theorem iq_c_ok (mi : Nat) (h : mi < 357) : iq_cok mi := by
  by_cases h0 : mi < 40
  · exact iq_cb0 mi (by simp only [List.mem_cons, List.not_mem_nil, or_false]; omega)
  by_cases h1 : mi < 80
  · exact iq_cb1 mi (by simp only [List.mem_cons, List.not_mem_nil, or_false]; omega)
  by_cases h2 : mi < 120
  · exact iq_cb2 mi (by simp only [List.mem_cons, List.not_mem_nil, or_false]; omega)
  by_cases h3 : mi < 160
  · exact iq_cb3 mi (by simp only [List.mem_cons, List.not_mem_nil, or_false]; omega)
  by_cases h4 : mi < 200
  · exact iq_cb4 mi (by simp only [List.mem_cons, List.not_mem_nil, or_false]; omega)
  by_cases h5 : mi < 240
  · exact iq_cb5 mi (by simp only [List.mem_cons, List.not_mem_nil, or_false]; omega)
  by_cases h6 : mi < 280
  · exact iq_cb6 mi (by simp only [List.mem_cons, List.not_mem_nil, or_false]; omega)
  by_cases h7 : mi < 320
  · exact iq_cb7 mi (by simp only [List.mem_cons, List.not_mem_nil, or_false]; omega)
  by_cases h8 : mi < 357
  · exact iq_cb8 mi (by simp only [List.mem_cons, List.not_mem_nil, or_false]; omega)
  omega
