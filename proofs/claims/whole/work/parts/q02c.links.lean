/-! the words of calls, written by wip/whole/gen.py -/
/-- what a link of a method says -/
def iq_mok (ow : Nat) (e : Nat × (Nat × Nat × Nat)) : Prop := match e.2.2.2 with
  | 0 => e.2.1 < 357 ∧ Cond.methodLink (iq_nm ow) e.1 (iq_y e.2.1) ∈ iq_U ∧ Cond.instanceMethod (iq_y e.2.1) ∈ iq_U ∧ Cond.selects (iq_nm (iq_ow e.2.1)) (iq_y e.2.1) (iq_y e.2.1) ∈ iq_U ∧ (parseMethodDescriptor (iq_y e.2.1).desc).map (fun d => d.parameters.length) = some e.2.2.1
  | 1 => e.2.1 < 357 ∧ Cond.methodLink (iq_nm ow) e.1 (iq_y e.2.1) ∈ iq_U ∧ Cond.static (iq_y e.2.1) ∈ iq_U ∧ (parseMethodDescriptor (iq_y e.2.1).desc).map (fun d => d.parameters.length) = some e.2.2.1
  | 2 => e.2.1 < 357 ∧ (Cond.methodLink (iq_nm ow) e.1 (iq_y e.2.1) ∈ iq_U ∨ Cond.methodLinkNest (iq_nm ow) e.1 (iq_y e.2.1) "OpenSaying" ∈ lw_tbl) ∧ Cond.instanceMethod (iq_y e.2.1) ∈ iq_U ∧ (iq_y e.2.1).name = "<init>" ∧ iq_rty e.2.1 = none ∧ iq_hh e.2.1 = [] ∧ (parseMethodDescriptor (iq_y e.2.1).desc).map (fun d => d.parameters.length) = some e.2.2.1
  | 3 => Cond.methodLink (iq_nm ow) e.1 arraycopyName ∈ iq_U
  | 4 => Cond.methodLink (iq_nm ow) e.1 objectInit ∈ iq_U
  | 7 => Cond.methodLink (iq_nm ow) e.1 Lib.Math.max.name ∈ iq_U
  | 8 => Cond.methodLink (iq_nm ow) e.1 Lib.Math.min.name ∈ iq_U
  | _ => True
theorem iq_m0_0 : iq_mok 0 (3, (0, 0, 4)) := (iq_mt1 (i := 149) rfl rfl)
theorem iq_m0_1 : iq_mok 0 (28, (2, 0, 0)) := ⟨by decide, (iq_mt2 (i := 167) rfl rfl), (iq_mt2 (i := 169) rfl rfl), (iq_mem (i := 1) rfl rfl), by decide +kernel⟩
theorem iq_m0_2 : iq_mok 0 (31, (0, 5, 3)) := (iq_mt2 (i := 171) rfl rfl)
theorem iq_mds_0 : ∀ e ∈ iq_mds 0, iq_mok 0 e := List.forall_mem_cons.mpr ⟨iq_m0_0, List.forall_mem_cons.mpr ⟨iq_m0_1, List.forall_mem_cons.mpr ⟨iq_m0_2, fun _ h => absurd h List.not_mem_nil⟩⟩⟩
theorem iq_m1_0 : iq_mok 1 (3, (0, 0, 4)) := (iq_mt1 (i := 143) rfl rfl)
theorem iq_m1_1 : iq_mok 1 (75, (14, 2, 0)) := ⟨by decide, (iq_mt2 (i := 182) rfl rfl), (iq_mt2 (i := 183) rfl rfl), (iq_mt2 (i := 184) rfl rfl), by decide +kernel⟩
theorem iq_m1_2 : iq_mok 1 (57, (9, 1, 0)) := ⟨by decide, (iq_mt2 (i := 186) rfl rfl), (iq_mt2 (i := 187) rfl rfl), (iq_mt2 (i := 188) rfl rfl), by decide +kernel⟩
theorem iq_m1_3 : iq_mok 1 (47, (0, 5, 3)) := (iq_mt2 (i := 190) rfl rfl)
theorem iq_m1_4 : iq_mok 1 (79, (13, 3, 0)) := ⟨by decide, (iq_mt2 (i := 191) rfl rfl), (iq_mt2 (i := 192) rfl rfl), (iq_mt2 (i := 193) rfl rfl), by decide +kernel⟩
theorem iq_m1_5 : iq_mok 1 (53, (3, 1, 0)) := ⟨by decide, (iq_mt3 (i := 40) rfl rfl), (iq_mt3 (i := 41) rfl rfl), (iq_mt3 (i := 42) rfl rfl), by decide +kernel⟩
theorem iq_m1_6 : iq_mok 1 (61, (0, 2, 7)) := (iq_mt5 (i := 0) rfl rfl)
theorem iq_m1_7 : iq_mok 1 (20, (0, 0, 2)) := ⟨by decide, Or.inr (List.mem_of_getElem? (i := 270) (by decide +kernel)), (iq_mt1 (i := 147) rfl rfl), rfl, rfl, rfl, by decide +kernel⟩
theorem iq_mds_1 : ∀ e ∈ iq_mds 1, iq_mok 1 e := List.forall_mem_cons.mpr ⟨iq_m1_0, List.forall_mem_cons.mpr ⟨iq_m1_1, List.forall_mem_cons.mpr ⟨iq_m1_2, List.forall_mem_cons.mpr ⟨iq_m1_3, List.forall_mem_cons.mpr ⟨iq_m1_4, List.forall_mem_cons.mpr ⟨iq_m1_5, List.forall_mem_cons.mpr ⟨iq_m1_6, List.forall_mem_cons.mpr ⟨iq_m1_7, fun _ h => absurd h List.not_mem_nil⟩⟩⟩⟩⟩⟩⟩⟩
theorem iq_m2_0 : iq_mok 2 (3, (0, 0, 4)) := (iq_mt2 (i := 58) rfl rfl)
theorem iq_m2_1 : iq_mok 2 (24, (51, 2, 0)) := ⟨by decide, (iq_mt5 (i := 86) rfl rfl), (iq_mt2 (i := 204) rfl rfl), (iq_mt2 (i := 205) rfl rfl), by decide +kernel⟩
theorem iq_m2_2 : iq_mok 2 (34, (21, 4, 0)) := ⟨by decide, (iq_mt5 (i := 87) rfl rfl), (iq_mt5 (i := 89) rfl rfl), (iq_mem (i := 37) rfl rfl), by decide +kernel⟩
theorem iq_m2_3 : iq_mok 2 (46, (49, 2, 0)) := ⟨by decide, (iq_mt5 (i := 91) rfl rfl), (iq_mt2 (i := 221) rfl rfl), (iq_mt2 (i := 222) rfl rfl), by decide +kernel⟩
theorem iq_m2_4 : iq_mok 2 (50, (50, 1, 0)) := ⟨by decide, (iq_mt5 (i := 92) rfl rfl), (iq_mt5 (i := 93) rfl rfl), (iq_mt5 (i := 94) rfl rfl), by decide +kernel⟩
theorem iq_m2_5 : iq_mok 2 (54, (9, 1, 0)) := ⟨by decide, (iq_mt5 (i := 97) rfl rfl), (iq_mt2 (i := 187) rfl rfl), (iq_mt2 (i := 188) rfl rfl), by decide +kernel⟩
theorem iq_m2_6 : iq_mok 2 (43, (22, 4, 0)) := ⟨by decide, (iq_mt5 (i := 98) rfl rfl), (iq_mt5 (i := 100) rfl rfl), (iq_mem (i := 38) rfl rfl), by decide +kernel⟩
theorem iq_m2_7 : iq_mok 2 (66, (23, 4, 0)) := ⟨by decide, (iq_mt5 (i := 102) rfl rfl), (iq_mt5 (i := 104) rfl rfl), (iq_mem (i := 39) rfl rfl), by decide +kernel⟩
theorem iq_m2_8 : iq_mok 2 (74, (10, 2, 0)) := ⟨by decide, (iq_mt5 (i := 106) rfl rfl), (iq_mt2 (i := 217) rfl rfl), (iq_mt2 (i := 218) rfl rfl), by decide +kernel⟩
theorem iq_m2_9 : iq_mok 2 (77, (44, 1, 0)) := ⟨by decide, (iq_mt5 (i := 107) rfl rfl), (iq_mt5 (i := 108) rfl rfl), (iq_mt5 (i := 109) rfl rfl), by decide +kernel⟩
theorem iq_m2_10 : iq_mok 2 (80, (46, 1, 0)) := ⟨by decide, (iq_mt5 (i := 111) rfl rfl), (iq_mt5 (i := 112) rfl rfl), (iq_mt5 (i := 113) rfl rfl), by decide +kernel⟩
theorem iq_m2_11 : iq_mok 2 (83, (45, 1, 0)) := ⟨by decide, (iq_mt5 (i := 115) rfl rfl), (iq_mt4 (i := 73) rfl rfl), (iq_mt4 (i := 74) rfl rfl), by decide +kernel⟩
theorem iq_m2_12 : iq_mok 2 (84, (12, 2, 0)) := ⟨by decide, (iq_mt5 (i := 116) rfl rfl), (iq_mt5 (i := 117) rfl rfl), (iq_mt5 (i := 118) rfl rfl), by decide +kernel⟩
theorem iq_m2_13 : iq_mok 2 (70, (134, 2, 0)) := ⟨by decide, (iq_mt5 (i := 120) rfl rfl), (iq_mt5 (i := 121) rfl rfl), (iq_mt5 (i := 122) rfl rfl), by decide +kernel⟩
theorem iq_m2_14 : iq_mok 2 (98, (24, 3, 0)) := ⟨by decide, (iq_mt6 (i := 72) rfl rfl), (iq_mt6 (i := 74) rfl rfl), (iq_mem (i := 54) rfl rfl), by decide +kernel⟩
theorem iq_m2_15 : iq_mok 2 (87, (19, 2, 0)) := ⟨by decide, (iq_mt6 (i := 76) rfl rfl), (iq_mt5 (i := 83) rfl rfl), (iq_mt5 (i := 84) rfl rfl), by decide +kernel⟩
theorem iq_m2_16 : iq_mok 2 (90, (0, 2, 8)) := (iq_mt6 (i := 77) rfl rfl)
theorem iq_m2_17 : iq_mok 2 (95, (0, 2, 7)) := (iq_mt6 (i := 78) rfl rfl)
theorem iq_m2_18 : iq_mok 2 (102, (25, 1, 0)) := ⟨by decide, (iq_mt6 (i := 79) rfl rfl), (iq_mt6 (i := 81) rfl rfl), (iq_mem (i := 55) rfl rfl), by decide +kernel⟩
theorem iq_m2_19 : iq_mok 2 (105, (27, 2, 1)) := ⟨by decide, (iq_mt6 (i := 83) rfl rfl), (iq_mt6 (i := 84) rfl rfl), by decide +kernel⟩
theorem iq_m2_20 : iq_mok 2 (111, (30, 2, 0)) := ⟨by decide, (iq_mt6 (i := 108) rfl rfl), (iq_mt6 (i := 110) rfl rfl), (iq_mem (i := 56) rfl rfl), by decide +kernel⟩
theorem iq_m2_21 : iq_mok 2 (134, (32, 1, 1)) := ⟨by decide, (iq_mt6 (i := 168) rfl rfl), (iq_mt6 (i := 169) rfl rfl), by decide +kernel⟩
theorem iq_m2_22 : iq_mok 2 (137, (33, 2, 1)) := ⟨by decide, (iq_mt6 (i := 172) rfl rfl), (iq_mt6 (i := 173) rfl rfl), by decide +kernel⟩
theorem iq_m2_23 : iq_mok 2 (140, (34, 1, 0)) := ⟨by decide, (iq_mt6 (i := 175) rfl rfl), (iq_mt6 (i := 177) rfl rfl), (iq_mem (i := 58) rfl rfl), by decide +kernel⟩
theorem iq_m2_24 : iq_mok 2 (143, (13, 3, 0)) := ⟨by decide, (iq_mt6 (i := 179) rfl rfl), (iq_mt2 (i := 192) rfl rfl), (iq_mt2 (i := 193) rfl rfl), by decide +kernel⟩
theorem iq_m2_25 : iq_mok 2 (147, (15, 0, 0)) := ⟨by decide, (iq_mt6 (i := 180) rfl rfl), (iq_mt2 (i := 160) rfl rfl), (iq_mt2 (i := 161) rfl rfl), by decide +kernel⟩
theorem iq_mds_2 : ∀ e ∈ iq_mds 2, iq_mok 2 e := List.forall_mem_cons.mpr ⟨iq_m2_0, List.forall_mem_cons.mpr ⟨iq_m2_1, List.forall_mem_cons.mpr ⟨iq_m2_2, List.forall_mem_cons.mpr ⟨iq_m2_3, List.forall_mem_cons.mpr ⟨iq_m2_4, List.forall_mem_cons.mpr ⟨iq_m2_5, List.forall_mem_cons.mpr ⟨iq_m2_6, List.forall_mem_cons.mpr ⟨iq_m2_7, List.forall_mem_cons.mpr ⟨iq_m2_8, List.forall_mem_cons.mpr ⟨iq_m2_9, List.forall_mem_cons.mpr ⟨iq_m2_10, List.forall_mem_cons.mpr ⟨iq_m2_11, List.forall_mem_cons.mpr ⟨iq_m2_12, List.forall_mem_cons.mpr ⟨iq_m2_13, List.forall_mem_cons.mpr ⟨iq_m2_14, List.forall_mem_cons.mpr ⟨iq_m2_15, List.forall_mem_cons.mpr ⟨iq_m2_16, List.forall_mem_cons.mpr ⟨iq_m2_17, List.forall_mem_cons.mpr ⟨iq_m2_18, List.forall_mem_cons.mpr ⟨iq_m2_19, List.forall_mem_cons.mpr ⟨iq_m2_20, List.forall_mem_cons.mpr ⟨iq_m2_21, List.forall_mem_cons.mpr ⟨iq_m2_22, List.forall_mem_cons.mpr ⟨iq_m2_23, List.forall_mem_cons.mpr ⟨iq_m2_24, List.forall_mem_cons.mpr ⟨iq_m2_25, fun _ h => absurd h List.not_mem_nil⟩⟩⟩⟩⟩⟩⟩⟩⟩⟩⟩⟩⟩⟩⟩⟩⟩⟩⟩⟩⟩⟩⟩⟩⟩⟩
theorem iq_m3_0 : iq_mok 3 (3, (0, 0, 4)) := (iq_mt1 (i := 39) rfl rfl)
theorem iq_m3_1 : iq_mok 3 (37, (323, 2, 1)) := ⟨by decide, (iq_mt1 (i := 74) rfl rfl), (iq_mt1 (i := 75) rfl rfl), by decide +kernel⟩
theorem iq_m3_2 : iq_mok 3 (79, (8, 1, 0)) := ⟨by decide, (iq_mt2 (i := 207) rfl rfl), (iq_mt2 (i := 208) rfl rfl), (iq_mt2 (i := 209) rfl rfl), by decide +kernel⟩
theorem iq_m3_3 : iq_mok 3 (85, (52, 4, 0)) := ⟨by decide, (iq_mt2 (i := 211) rfl rfl), (iq_mt2 (i := 212) rfl rfl), (iq_mt2 (i := 213) rfl rfl), by decide +kernel⟩
theorem iq_m3_4 : iq_mok 3 (89, (9, 1, 0)) := ⟨by decide, (iq_mt2 (i := 215) rfl rfl), (iq_mt2 (i := 187) rfl rfl), (iq_mt2 (i := 188) rfl rfl), by decide +kernel⟩
theorem iq_m3_5 : iq_mok 3 (92, (10, 2, 0)) := ⟨by decide, (iq_mt2 (i := 216) rfl rfl), (iq_mt2 (i := 217) rfl rfl), (iq_mt2 (i := 218) rfl rfl), by decide +kernel⟩
theorem iq_m3_6 : iq_mok 3 (95, (49, 2, 0)) := ⟨by decide, (iq_mt2 (i := 220) rfl rfl), (iq_mt2 (i := 221) rfl rfl), (iq_mt2 (i := 222) rfl rfl), by decide +kernel⟩
theorem iq_m3_7 : iq_mok 3 (62, (128, 0, 0)) := ⟨by decide, (iq_mt3 (i := 131) rfl rfl), (iq_mt3 (i := 132) rfl rfl), (iq_mt3 (i := 133) rfl rfl), by decide +kernel⟩
theorem iq_m3_8 : iq_mok 3 (65, (0, 5, 3)) := (iq_mt4 (i := 217) rfl rfl)
theorem iq_m3_9 : iq_mok 3 (71, (129, 1, 0)) := ⟨by decide, (iq_mt4 (i := 218) rfl rfl), (iq_mt4 (i := 219) rfl rfl), (iq_mt4 (i := 220) rfl rfl), by decide +kernel⟩
theorem iq_m3_10 : iq_mok 3 (75, (48, 2, 0)) := ⟨by decide, (iq_mt5 (i := 96) rfl rfl), (iq_mt2 (i := 239) rfl rfl), (iq_mt3 (i := 0) rfl rfl), by decide +kernel⟩
theorem iq_m3_11 : iq_mok 3 (23, (127, 0, 2)) := ⟨by decide, Or.inr (List.mem_of_getElem? (i := 166) (by decide +kernel)), (iq_mt1 (i := 43) rfl rfl), rfl, rfl, rfl, by decide +kernel⟩
theorem iq_mds_3 : ∀ e ∈ iq_mds 3, iq_mok 3 e := List.forall_mem_cons.mpr ⟨iq_m3_0, List.forall_mem_cons.mpr ⟨iq_m3_1, List.forall_mem_cons.mpr ⟨iq_m3_2, List.forall_mem_cons.mpr ⟨iq_m3_3, List.forall_mem_cons.mpr ⟨iq_m3_4, List.forall_mem_cons.mpr ⟨iq_m3_5, List.forall_mem_cons.mpr ⟨iq_m3_6, List.forall_mem_cons.mpr ⟨iq_m3_7, List.forall_mem_cons.mpr ⟨iq_m3_8, List.forall_mem_cons.mpr ⟨iq_m3_9, List.forall_mem_cons.mpr ⟨iq_m3_10, List.forall_mem_cons.mpr ⟨iq_m3_11, fun _ h => absurd h List.not_mem_nil⟩⟩⟩⟩⟩⟩⟩⟩⟩⟩⟩⟩
theorem iq_m4_0 : iq_mok 4 (3, (0, 0, 4)) := (iq_mt2 (i := 26) rfl rfl)
theorem iq_m4_1 : iq_mok 4 (133, (51, 2, 0)) := ⟨by decide, (iq_mt2 (i := 203) rfl rfl), (iq_mt2 (i := 204) rfl rfl), (iq_mt2 (i := 205) rfl rfl), by decide +kernel⟩
theorem iq_m4_2 : iq_mok 4 (137, (311, 1, 1)) := ⟨by decide, (iq_mt2 (i := 224) rfl rfl), (iq_mt2 (i := 225) rfl rfl), by decide +kernel⟩
theorem iq_m4_3 : iq_mok 4 (142, (79, 1, 0)) := ⟨by decide, (iq_mt2 (i := 230) rfl rfl), (iq_mt2 (i := 232) rfl rfl), (iq_mem (i := 2) rfl rfl), by decide +kernel⟩
theorem iq_m4_4 : iq_mok 4 (48, (55, 1, 0)) := ⟨by decide, (iq_mt2 (i := 234) rfl rfl), (iq_mt2 (i := 236) rfl rfl), (iq_mem (i := 3) rfl rfl), by decide +kernel⟩
theorem iq_m4_5 : iq_mok 4 (41, (48, 2, 0)) := ⟨by decide, (iq_mt2 (i := 238) rfl rfl), (iq_mt2 (i := 239) rfl rfl), (iq_mt3 (i := 0) rfl rfl), by decide +kernel⟩
theorem iq_m4_6 : iq_mok 4 (52, (54, 0, 0)) := ⟨by decide, (iq_mt3 (i := 2) rfl rfl), (iq_mt3 (i := 4) rfl rfl), (iq_mem (i := 4) rfl rfl), by decide +kernel⟩
theorem iq_m4_7 : iq_mok 4 (45, (57, 2, 0)) := ⟨by decide, (iq_mt3 (i := 6) rfl rfl), (iq_mt3 (i := 8) rfl rfl), (iq_mem (i := 5) rfl rfl), by decide +kernel⟩
theorem iq_m4_8 : iq_mok 4 (56, (58, 2, 0)) := ⟨by decide, (iq_mt5 (i := 168) rfl rfl), (iq_mt5 (i := 170) rfl rfl), (iq_mem (i := 41) rfl rfl), by decide +kernel⟩
theorem iq_m4_9 : iq_mok 4 (62, (61, 0, 0)) := ⟨by decide, (iq_mt5 (i := 188) rfl rfl), (iq_mt5 (i := 190) rfl rfl), (iq_mem (i := 43) rfl rfl), by decide +kernel⟩
theorem iq_m4_10 : iq_mok 4 (65, (62, 1, 0)) := ⟨by decide, (iq_mt5 (i := 192) rfl rfl), (iq_mt5 (i := 194) rfl rfl), (iq_mem (i := 44) rfl rfl), by decide +kernel⟩
theorem iq_m4_11 : iq_mok 4 (69, (65, 1, 0)) := ⟨by decide, (iq_mt5 (i := 200) rfl rfl), (iq_mt5 (i := 202) rfl rfl), (iq_mem (i := 45) rfl rfl), by decide +kernel⟩
theorem iq_m4_12 : iq_mok 4 (72, (49, 2, 0)) := ⟨by decide, (iq_mt5 (i := 204) rfl rfl), (iq_mt2 (i := 221) rfl rfl), (iq_mt2 (i := 222) rfl rfl), by decide +kernel⟩
theorem iq_m4_13 : iq_mok 4 (78, (67, 1, 0)) := ⟨by decide, (iq_mt5 (i := 228) rfl rfl), (iq_mt5 (i := 230) rfl rfl), (iq_mem (i := 46) rfl rfl), by decide +kernel⟩
theorem iq_m4_14 : iq_mok 4 (82, (0, 5, 3)) := (iq_mt5 (i := 232) rfl rfl)
theorem iq_m4_15 : iq_mok 4 (97, (68, 0, 0)) := ⟨by decide, (iq_mt6 (i := 9) rfl rfl), (iq_mt6 (i := 11) rfl rfl), (iq_mem (i := 48) rfl rfl), by decide +kernel⟩
theorem iq_m4_16 : iq_mok 4 (115, (71, 0, 0)) := ⟨by decide, (iq_mt6 (i := 29) rfl rfl), (iq_mt6 (i := 31) rfl rfl), (iq_mem (i := 49) rfl rfl), by decide +kernel⟩
theorem iq_m4_17 : iq_mok 4 (100, (72, 2, 0)) := ⟨by decide, (iq_mt6 (i := 33) rfl rfl), (iq_mt6 (i := 35) rfl rfl), (iq_mem (i := 50) rfl rfl), by decide +kernel⟩
theorem iq_m4_18 : iq_mok 4 (104, (47, 1, 0)) := ⟨by decide, (iq_mt6 (i := 38) rfl rfl), (iq_mt6 (i := 39) rfl rfl), (iq_mt6 (i := 40) rfl rfl), by decide +kernel⟩
theorem iq_m4_19 : iq_mok 4 (107, (73, 2, 0)) := ⟨by decide, (iq_mt6 (i := 42) rfl rfl), (iq_mt6 (i := 44) rfl rfl), (iq_mem (i := 51) rfl rfl), by decide +kernel⟩
theorem iq_m4_20 : iq_mok 4 (110, (0, 2, 8)) := (iq_mt6 (i := 46) rfl rfl)
theorem iq_m4_21 : iq_mok 4 (118, (75, 2, 0)) := ⟨by decide, (iq_mt6 (i := 47) rfl rfl), (iq_mt6 (i := 49) rfl rfl), (iq_mem (i := 52) rfl rfl), by decide +kernel⟩
theorem iq_m4_22 : iq_mok 4 (121, (77, 3, 0)) := ⟨by decide, (iq_mt6 (i := 55) rfl rfl), (iq_mt6 (i := 57) rfl rfl), (iq_mem (i := 53) rfl rfl), by decide +kernel⟩
theorem iq_m4_23 : iq_mok 4 (125, (46, 1, 0)) := ⟨by decide, (iq_mt6 (i := 59) rfl rfl), (iq_mt5 (i := 112) rfl rfl), (iq_mt5 (i := 113) rfl rfl), by decide +kernel⟩
theorem iq_m4_24 : iq_mok 4 (145, (50, 1, 0)) := ⟨by decide, (iq_mt6 (i := 192) rfl rfl), (iq_mt5 (i := 93) rfl rfl), (iq_mt5 (i := 94) rfl rfl), by decide +kernel⟩
theorem iq_m4_25 : iq_mok 4 (149, (56, 1, 0)) := ⟨by decide, (iq_mt6 (i := 204) rfl rfl), (iq_mt6 (i := 206) rfl rfl), (iq_mem (i := 59) rfl rfl), by decide +kernel⟩
theorem iq_mds_4 : ∀ e ∈ iq_mds 4, iq_mok 4 e := List.forall_mem_cons.mpr ⟨iq_m4_0, List.forall_mem_cons.mpr ⟨iq_m4_1, List.forall_mem_cons.mpr ⟨iq_m4_2, List.forall_mem_cons.mpr ⟨iq_m4_3, List.forall_mem_cons.mpr ⟨iq_m4_4, List.forall_mem_cons.mpr ⟨iq_m4_5, List.forall_mem_cons.mpr ⟨iq_m4_6, List.forall_mem_cons.mpr ⟨iq_m4_7, List.forall_mem_cons.mpr ⟨iq_m4_8, List.forall_mem_cons.mpr ⟨iq_m4_9, List.forall_mem_cons.mpr ⟨iq_m4_10, List.forall_mem_cons.mpr ⟨iq_m4_11, List.forall_mem_cons.mpr ⟨iq_m4_12, List.forall_mem_cons.mpr ⟨iq_m4_13, List.forall_mem_cons.mpr ⟨iq_m4_14, List.forall_mem_cons.mpr ⟨iq_m4_15, List.forall_mem_cons.mpr ⟨iq_m4_16, List.forall_mem_cons.mpr ⟨iq_m4_17, List.forall_mem_cons.mpr ⟨iq_m4_18, List.forall_mem_cons.mpr ⟨iq_m4_19, List.forall_mem_cons.mpr ⟨iq_m4_20, List.forall_mem_cons.mpr ⟨iq_m4_21, List.forall_mem_cons.mpr ⟨iq_m4_22, List.forall_mem_cons.mpr ⟨iq_m4_23, List.forall_mem_cons.mpr ⟨iq_m4_24, List.forall_mem_cons.mpr ⟨iq_m4_25, fun _ h => absurd h List.not_mem_nil⟩⟩⟩⟩⟩⟩⟩⟩⟩⟩⟩⟩⟩⟩⟩⟩⟩⟩⟩⟩⟩⟩⟩⟩⟩⟩
theorem iq_m5_0 : iq_mok 5 (3, (0, 0, 4)) := (iq_mt1 (i := 219) rfl rfl)
theorem iq_m5_1 : iq_mok 5 (11, (137, 1, 2)) := ⟨by decide, Or.inl (iq_mt1 (i := 222) rfl rfl), (iq_mt1 (i := 223) rfl rfl), rfl, rfl, rfl, by decide +kernel⟩
theorem iq_m5_2 : iq_mok 5 (28, (36, 0, 0)) := ⟨by decide, (iq_mt3 (i := 127) rfl rfl), (iq_mt3 (i := 128) rfl rfl), (iq_mt3 (i := 129) rfl rfl), by decide +kernel⟩
theorem iq_m5_3 : iq_mok 5 (33, (5, 0, 0)) := ⟨by decide, (iq_mt3 (i := 136) rfl rfl), (iq_mt3 (i := 137) rfl rfl), (iq_mt3 (i := 138) rfl rfl), by decide +kernel⟩
theorem iq_m5_4 : iq_mok 5 (43, (138, 1, 0)) := ⟨by decide, (iq_mt3 (i := 140) rfl rfl), (iq_mt3 (i := 141) rfl rfl), (iq_mt3 (i := 142) rfl rfl), by decide +kernel⟩
theorem iq_m5_5 : iq_mok 5 (50, (86, 0, 0)) := ⟨by decide, (iq_mt4 (i := 3) rfl rfl), (iq_mt4 (i := 5) rfl rfl), (iq_mem (i := 7) rfl rfl), by decide +kernel⟩
theorem iq_m5_6 : iq_mok 5 (59, (142, 1, 0)) := ⟨by decide, (iq_mt4 (i := 8) rfl rfl), (iq_mt4 (i := 9) rfl rfl), (iq_mt4 (i := 10) rfl rfl), by decide +kernel⟩
theorem iq_m5_7 : iq_mok 5 (63, (87, 0, 0)) := ⟨by decide, (iq_mt4 (i := 33) rfl rfl), (iq_mt4 (i := 35) rfl rfl), (iq_mem (i := 8) rfl rfl), by decide +kernel⟩
theorem iq_m5_8 : iq_mok 5 (96, (85, 1, 0)) := ⟨by decide, (iq_mt4 (i := 37) rfl rfl), (iq_mt4 (i := 39) rfl rfl), (iq_mem (i := 9) rfl rfl), by decide +kernel⟩
theorem iq_m5_9 : iq_mok 5 (103, (139, 0, 0)) := ⟨by decide, (iq_mt4 (i := 41) rfl rfl), (iq_mt3 (i := 146) rfl rfl), (iq_mt3 (i := 147) rfl rfl), by decide +kernel⟩
theorem iq_m5_10 : iq_mok 5 (108, (38, 1, 0)) := ⟨by decide, (iq_mt4 (i := 43) rfl rfl), (iq_mt4 (i := 44) rfl rfl), (iq_mt4 (i := 45) rfl rfl), by decide +kernel⟩
theorem iq_m5_11 : iq_mok 5 (112, (107, 0, 0)) := ⟨by decide, (iq_mt4 (i := 47) rfl rfl), (iq_mt4 (i := 49) rfl rfl), (iq_mem (i := 10) rfl rfl), by decide +kernel⟩
theorem iq_m5_12 : iq_mok 5 (177, (141, 1, 0)) := ⟨by decide, (iq_mt4 (i := 51) rfl rfl), (iq_mt4 (i := 52) rfl rfl), (iq_mt4 (i := 53) rfl rfl), by decide +kernel⟩
theorem iq_m5_13 : iq_mok 5 (68, (88, 0, 0)) := ⟨by decide, (iq_mt4 (i := 56) rfl rfl), (iq_mt4 (i := 58) rfl rfl), (iq_mem (i := 11) rfl rfl), by decide +kernel⟩
theorem iq_m5_14 : iq_mok 5 (118, (140, 0, 0)) := ⟨by decide, (iq_mt4 (i := 60) rfl rfl), (iq_mt4 (i := 61) rfl rfl), (iq_mt4 (i := 62) rfl rfl), by decide +kernel⟩
theorem iq_m5_15 : iq_mok 5 (122, (89, 0, 0)) := ⟨by decide, (iq_mt4 (i := 64) rfl rfl), (iq_mt4 (i := 66) rfl rfl), (iq_mem (i := 12) rfl rfl), by decide +kernel⟩
theorem iq_m5_16 : iq_mok 5 (143, (90, 1, 0)) := ⟨by decide, (iq_mt4 (i := 68) rfl rfl), (iq_mt4 (i := 70) rfl rfl), (iq_mem (i := 13) rfl rfl), by decide +kernel⟩
theorem iq_m5_17 : iq_mok 5 (146, (45, 1, 0)) := ⟨by decide, (iq_mt4 (i := 72) rfl rfl), (iq_mt4 (i := 73) rfl rfl), (iq_mt4 (i := 74) rfl rfl), by decide +kernel⟩
theorem iq_m5_18 : iq_mok 5 (149, (43, 2, 0)) := ⟨by decide, (iq_mt4 (i := 76) rfl rfl), (iq_mt4 (i := 77) rfl rfl), (iq_mt4 (i := 78) rfl rfl), by decide +kernel⟩
theorem iq_m5_19 : iq_mok 5 (125, (143, 1, 0)) := ⟨by decide, (iq_mt4 (i := 80) rfl rfl), (iq_mt4 (i := 81) rfl rfl), (iq_mt4 (i := 82) rfl rfl), by decide +kernel⟩
theorem iq_m5_20 : iq_mok 5 (129, (40, 3, 0)) := ⟨by decide, (iq_mt4 (i := 84) rfl rfl), (iq_mt4 (i := 85) rfl rfl), (iq_mt4 (i := 86) rfl rfl), by decide +kernel⟩
theorem iq_m5_21 : iq_mok 5 (133, (108, 1, 0)) := ⟨by decide, (iq_mt4 (i := 88) rfl rfl), (iq_mt4 (i := 90) rfl rfl), (iq_mem (i := 14) rfl rfl), by decide +kernel⟩
theorem iq_m5_22 : iq_mok 5 (136, (144, 0, 0)) := ⟨by decide, (iq_mt4 (i := 92) rfl rfl), (iq_mt4 (i := 93) rfl rfl), (iq_mt4 (i := 94) rfl rfl), by decide +kernel⟩
theorem iq_m5_23 : iq_mok 5 (139, (39, 2, 0)) := ⟨by decide, (iq_mt4 (i := 96) rfl rfl), (iq_mt4 (i := 97) rfl rfl), (iq_mt4 (i := 98) rfl rfl), by decide +kernel⟩
theorem iq_m5_24 : iq_mok 5 (73, (91, 0, 0)) := ⟨by decide, (iq_mt4 (i := 101) rfl rfl), (iq_mt4 (i := 103) rfl rfl), (iq_mem (i := 15) rfl rfl), by decide +kernel⟩
theorem iq_m5_25 : iq_mok 5 (156, (109, 1, 0)) := ⟨by decide, (iq_mt4 (i := 105) rfl rfl), (iq_mt4 (i := 107) rfl rfl), (iq_mem (i := 16) rfl rfl), by decide +kernel⟩
theorem iq_m5_26 : iq_mok 5 (159, (48, 2, 0)) := ⟨by decide, (iq_mt4 (i := 109) rfl rfl), (iq_mt2 (i := 239) rfl rfl), (iq_mt3 (i := 0) rfl rfl), by decide +kernel⟩
theorem iq_m5_27 : iq_mok 5 (162, (41, 3, 0)) := ⟨by decide, (iq_mt4 (i := 110) rfl rfl), (iq_mt4 (i := 111) rfl rfl), (iq_mt4 (i := 112) rfl rfl), by decide +kernel⟩
theorem iq_m5_28 : iq_mok 5 (78, (92, 0, 0)) := ⟨by decide, (iq_mt4 (i := 115) rfl rfl), (iq_mt4 (i := 117) rfl rfl), (iq_mem (i := 17) rfl rfl), by decide +kernel⟩
theorem iq_m5_29 : iq_mok 5 (168, (42, 2, 0)) := ⟨by decide, (iq_mt4 (i := 119) rfl rfl), (iq_mt4 (i := 120) rfl rfl), (iq_mt4 (i := 121) rfl rfl), by decide +kernel⟩
theorem iq_m5_30 : iq_mok 5 (83, (93, 0, 0)) := ⟨by decide, (iq_mt4 (i := 124) rfl rfl), (iq_mt4 (i := 126) rfl rfl), (iq_mem (i := 18) rfl rfl), by decide +kernel⟩
theorem iq_m5_31 : iq_mok 5 (174, (7, 1, 0)) := ⟨by decide, (iq_mt4 (i := 128) rfl rfl), (iq_mt4 (i := 129) rfl rfl), (iq_mt4 (i := 130) rfl rfl), by decide +kernel⟩
theorem iq_m5_32 : iq_mok 5 (181, (94, 2, 0)) := ⟨by decide, (iq_mt4 (i := 132) rfl rfl), (iq_mt4 (i := 134) rfl rfl), (iq_mem (i := 19) rfl rfl), by decide +kernel⟩
theorem iq_m5_33 : iq_mok 5 (191, (9, 1, 0)) := ⟨by decide, (iq_mt4 (i := 136) rfl rfl), (iq_mt2 (i := 187) rfl rfl), (iq_mt2 (i := 188) rfl rfl), by decide +kernel⟩
theorem iq_m5_34 : iq_mok 5 (185, (49, 2, 0)) := ⟨by decide, (iq_mt4 (i := 137) rfl rfl), (iq_mt2 (i := 221) rfl rfl), (iq_mt2 (i := 222) rfl rfl), by decide +kernel⟩
theorem iq_m5_35 : iq_mok 5 (188, (13, 3, 0)) := ⟨by decide, (iq_mt4 (i := 138) rfl rfl), (iq_mt2 (i := 192) rfl rfl), (iq_mt2 (i := 193) rfl rfl), by decide +kernel⟩
theorem iq_m5_36 : iq_mok 5 (88, (95, 0, 0)) := ⟨by decide, (iq_mt4 (i := 140) rfl rfl), (iq_mt4 (i := 142) rfl rfl), (iq_mem (i := 20) rfl rfl), by decide +kernel⟩
theorem iq_m5_37 : iq_mok 5 (201, (97, 1, 0)) := ⟨by decide, (iq_mt4 (i := 144) rfl rfl), (iq_mt4 (i := 146) rfl rfl), (iq_mem (i := 21) rfl rfl), by decide +kernel⟩
theorem iq_m5_38 : iq_mok 5 (208, (130, 1, 0)) := ⟨by decide, (iq_mt4 (i := 148) rfl rfl), (iq_mt4 (i := 149) rfl rfl), (iq_mt4 (i := 150) rfl rfl), by decide +kernel⟩
theorem iq_m5_39 : iq_mok 5 (209, (98, 1, 0)) := ⟨by decide, (iq_mt4 (i := 152) rfl rfl), (iq_mt4 (i := 154) rfl rfl), (iq_mem (i := 22) rfl rfl), by decide +kernel⟩
theorem iq_m5_40 : iq_mok 5 (214, (99, 0, 0)) := ⟨by decide, (iq_mt4 (i := 156) rfl rfl), (iq_mt4 (i := 158) rfl rfl), (iq_mem (i := 23) rfl rfl), by decide +kernel⟩
theorem iq_m5_41 : iq_mok 5 (217, (100, 1, 0)) := ⟨by decide, (iq_mt4 (i := 160) rfl rfl), (iq_mt4 (i := 162) rfl rfl), (iq_mem (i := 24) rfl rfl), by decide +kernel⟩
theorem iq_m5_42 : iq_mok 5 (225, (101, 1, 0)) := ⟨by decide, (iq_mt4 (i := 164) rfl rfl), (iq_mt4 (i := 166) rfl rfl), (iq_mem (i := 25) rfl rfl), by decide +kernel⟩
theorem iq_m5_43 : iq_mok 5 (232, (102, 1, 0)) := ⟨by decide, (iq_mt4 (i := 169) rfl rfl), (iq_mt4 (i := 171) rfl rfl), (iq_mem (i := 26) rfl rfl), by decide +kernel⟩
theorem iq_m5_44 : iq_mok 5 (235, (103, 1, 0)) := ⟨by decide, (iq_mt4 (i := 173) rfl rfl), (iq_mt4 (i := 175) rfl rfl), (iq_mem (i := 27) rfl rfl), by decide +kernel⟩
theorem iq_m5_45 : iq_mok 5 (238, (104, 1, 0)) := ⟨by decide, (iq_mt4 (i := 177) rfl rfl), (iq_mt4 (i := 179) rfl rfl), (iq_mem (i := 28) rfl rfl), by decide +kernel⟩
theorem iq_m5_46 : iq_mok 5 (241, (105, 1, 0)) := ⟨by decide, (iq_mt4 (i := 181) rfl rfl), (iq_mt4 (i := 183) rfl rfl), (iq_mem (i := 29) rfl rfl), by decide +kernel⟩
theorem iq_m5_47 : iq_mok 5 (244, (106, 0, 0)) := ⟨by decide, (iq_mt4 (i := 185) rfl rfl), (iq_mt4 (i := 187) rfl rfl), (iq_mem (i := 30) rfl rfl), by decide +kernel⟩
theorem iq_m5_48 : iq_mok 5 (247, (133, 1, 1)) := ⟨by decide, (iq_mt4 (i := 195) rfl rfl), (iq_mt4 (i := 196) rfl rfl), by decide +kernel⟩
theorem iq_m5_49 : iq_mok 5 (222, (132, 1, 0)) := ⟨by decide, (iq_mt4 (i := 198) rfl rfl), (iq_mt4 (i := 199) rfl rfl), (iq_mt4 (i := 200) rfl rfl), by decide +kernel⟩
theorem iq_m5_50 : iq_mok 5 (212, (131, 1, 0)) := ⟨by decide, (iq_mt4 (i := 204) rfl rfl), (iq_mt4 (i := 205) rfl rfl), (iq_mt4 (i := 206) rfl rfl), by decide +kernel⟩
theorem iq_m5_51 : iq_mok 5 (93, (96, 0, 0)) := ⟨by decide, (iq_mt4 (i := 209) rfl rfl), (iq_mt4 (i := 211) rfl rfl), (iq_mem (i := 31) rfl rfl), by decide +kernel⟩
theorem iq_mds_5 : ∀ e ∈ iq_mds 5, iq_mok 5 e := List.forall_mem_cons.mpr ⟨iq_m5_0, List.forall_mem_cons.mpr ⟨iq_m5_1, List.forall_mem_cons.mpr ⟨iq_m5_2, List.forall_mem_cons.mpr ⟨iq_m5_3, List.forall_mem_cons.mpr ⟨iq_m5_4, List.forall_mem_cons.mpr ⟨iq_m5_5, List.forall_mem_cons.mpr ⟨iq_m5_6, List.forall_mem_cons.mpr ⟨iq_m5_7, List.forall_mem_cons.mpr ⟨iq_m5_8, List.forall_mem_cons.mpr ⟨iq_m5_9, List.forall_mem_cons.mpr ⟨iq_m5_10, List.forall_mem_cons.mpr ⟨iq_m5_11, List.forall_mem_cons.mpr ⟨iq_m5_12, List.forall_mem_cons.mpr ⟨iq_m5_13, List.forall_mem_cons.mpr ⟨iq_m5_14, List.forall_mem_cons.mpr ⟨iq_m5_15, List.forall_mem_cons.mpr ⟨iq_m5_16, List.forall_mem_cons.mpr ⟨iq_m5_17, List.forall_mem_cons.mpr ⟨iq_m5_18, List.forall_mem_cons.mpr ⟨iq_m5_19, List.forall_mem_cons.mpr ⟨iq_m5_20, List.forall_mem_cons.mpr ⟨iq_m5_21, List.forall_mem_cons.mpr ⟨iq_m5_22, List.forall_mem_cons.mpr ⟨iq_m5_23, List.forall_mem_cons.mpr ⟨iq_m5_24, List.forall_mem_cons.mpr ⟨iq_m5_25, List.forall_mem_cons.mpr ⟨iq_m5_26, List.forall_mem_cons.mpr ⟨iq_m5_27, List.forall_mem_cons.mpr ⟨iq_m5_28, List.forall_mem_cons.mpr ⟨iq_m5_29, List.forall_mem_cons.mpr ⟨iq_m5_30, List.forall_mem_cons.mpr ⟨iq_m5_31, List.forall_mem_cons.mpr ⟨iq_m5_32, List.forall_mem_cons.mpr ⟨iq_m5_33, List.forall_mem_cons.mpr ⟨iq_m5_34, List.forall_mem_cons.mpr ⟨iq_m5_35, List.forall_mem_cons.mpr ⟨iq_m5_36, List.forall_mem_cons.mpr ⟨iq_m5_37, List.forall_mem_cons.mpr ⟨iq_m5_38, List.forall_mem_cons.mpr ⟨iq_m5_39, List.forall_mem_cons.mpr ⟨iq_m5_40, List.forall_mem_cons.mpr ⟨iq_m5_41, List.forall_mem_cons.mpr ⟨iq_m5_42, List.forall_mem_cons.mpr ⟨iq_m5_43, List.forall_mem_cons.mpr ⟨iq_m5_44, List.forall_mem_cons.mpr ⟨iq_m5_45, List.forall_mem_cons.mpr ⟨iq_m5_46, List.forall_mem_cons.mpr ⟨iq_m5_47, List.forall_mem_cons.mpr ⟨iq_m5_48, List.forall_mem_cons.mpr ⟨iq_m5_49, List.forall_mem_cons.mpr ⟨iq_m5_50, List.forall_mem_cons.mpr ⟨iq_m5_51, fun _ h => absurd h List.not_mem_nil⟩⟩⟩⟩⟩⟩⟩⟩⟩⟩⟩⟩⟩⟩⟩⟩⟩⟩⟩⟩⟩⟩⟩⟩⟩⟩⟩⟩⟩⟩⟩⟩⟩⟩⟩⟩⟩⟩⟩⟩⟩⟩⟩⟩⟩⟩⟩⟩⟩⟩⟩⟩
theorem iq_m6_0 : iq_mok 6 (3, (0, 0, 4)) := (iq_mt2 (i := 80) rfl rfl)
theorem iq_m6_1 : iq_mok 6 (63, (113, 3, 0)) := ⟨by decide, (iq_mt3 (i := 22) rfl rfl), (iq_mt3 (i := 23) rfl rfl), (iq_mt3 (i := 24) rfl rfl), by decide +kernel⟩
theorem iq_m6_2 : iq_mok 6 (44, (9, 1, 0)) := ⟨by decide, (iq_mt3 (i := 26) rfl rfl), (iq_mt2 (i := 187) rfl rfl), (iq_mt2 (i := 188) rfl rfl), by decide +kernel⟩
theorem iq_m6_3 : iq_mok 6 (48, (10, 2, 0)) := ⟨by decide, (iq_mt3 (i := 27) rfl rfl), (iq_mt2 (i := 217) rfl rfl), (iq_mt2 (i := 218) rfl rfl), by decide +kernel⟩
theorem iq_m6_4 : iq_mok 6 (52, (0, 2, 8)) := (iq_mt3 (i := 28) rfl rfl)
theorem iq_m6_5 : iq_mok 6 (57, (0, 5, 3)) := (iq_mt3 (i := 31) rfl rfl)
theorem iq_m6_6 : iq_mok 6 (31, (51, 2, 0)) := ⟨by decide, (iq_mt4 (i := 235) rfl rfl), (iq_mt2 (i := 204) rfl rfl), (iq_mt2 (i := 205) rfl rfl), by decide +kernel⟩
theorem iq_m6_7 : iq_mok 6 (40, (52, 4, 0)) := ⟨by decide, (iq_mt6 (i := 127) rfl rfl), (iq_mt2 (i := 212) rfl rfl), (iq_mt2 (i := 213) rfl rfl), by decide +kernel⟩
theorem iq_m6_8 : iq_mok 6 (67, (117, 3, 0)) := ⟨by decide, (iq_mt6 (i := 147) rfl rfl), (iq_mt6 (i := 149) rfl rfl), (iq_mem (i := 57) rfl rfl), by decide +kernel⟩
theorem iq_m6_9 : iq_mok 6 (71, (8, 1, 0)) := ⟨by decide, (iq_mt6 (i := 151) rfl rfl), (iq_mt2 (i := 208) rfl rfl), (iq_mt2 (i := 209) rfl rfl), by decide +kernel⟩
theorem iq_m6_10 : iq_mok 6 (74, (119, 4, 0)) := ⟨by decide, (iq_mt7 (i := 1) rfl rfl), (iq_mt7 (i := 3) rfl rfl), (iq_mem (i := 60) rfl rfl), by decide +kernel⟩
theorem iq_m6_11 : iq_mok 6 (83, (120, 5, 0)) := ⟨by decide, (iq_mt7 (i := 5) rfl rfl), (iq_mt7 (i := 7) rfl rfl), (iq_mem (i := 61) rfl rfl), by decide +kernel⟩
theorem iq_m6_12 : iq_mok 6 (87, (49, 2, 0)) := ⟨by decide, (iq_mt7 (i := 9) rfl rfl), (iq_mt2 (i := 221) rfl rfl), (iq_mt2 (i := 222) rfl rfl), by decide +kernel⟩
theorem iq_m6_13 : iq_mok 6 (77, (121, 2, 0)) := ⟨by decide, (iq_mt7 (i := 10) rfl rfl), (iq_mt7 (i := 12) rfl rfl), (iq_mem (i := 62) rfl rfl), by decide +kernel⟩
theorem iq_m6_14 : iq_mok 6 (90, (123, 4, 0)) := ⟨by decide, (iq_mt7 (i := 19) rfl rfl), (iq_mt7 (i := 21) rfl rfl), (iq_mem (i := 63) rfl rfl), by decide +kernel⟩
theorem iq_m6_15 : iq_mok 6 (93, (126, 3, 0)) := ⟨by decide, (iq_mt7 (i := 34) rfl rfl), (iq_mt7 (i := 36) rfl rfl), (iq_mem (i := 64) rfl rfl), by decide +kernel⟩
theorem iq_m6_16 : iq_mok 6 (103, (323, 2, 1)) := ⟨by decide, (iq_mt7 (i := 38) rfl rfl), (iq_mt1 (i := 75) rfl rfl), by decide +kernel⟩
theorem iq_mds_6 : ∀ e ∈ iq_mds 6, iq_mok 6 e := List.forall_mem_cons.mpr ⟨iq_m6_0, List.forall_mem_cons.mpr ⟨iq_m6_1, List.forall_mem_cons.mpr ⟨iq_m6_2, List.forall_mem_cons.mpr ⟨iq_m6_3, List.forall_mem_cons.mpr ⟨iq_m6_4, List.forall_mem_cons.mpr ⟨iq_m6_5, List.forall_mem_cons.mpr ⟨iq_m6_6, List.forall_mem_cons.mpr ⟨iq_m6_7, List.forall_mem_cons.mpr ⟨iq_m6_8, List.forall_mem_cons.mpr ⟨iq_m6_9, List.forall_mem_cons.mpr ⟨iq_m6_10, List.forall_mem_cons.mpr ⟨iq_m6_11, List.forall_mem_cons.mpr ⟨iq_m6_12, List.forall_mem_cons.mpr ⟨iq_m6_13, List.forall_mem_cons.mpr ⟨iq_m6_14, List.forall_mem_cons.mpr ⟨iq_m6_15, List.forall_mem_cons.mpr ⟨iq_m6_16, fun _ h => absurd h List.not_mem_nil⟩⟩⟩⟩⟩⟩⟩⟩⟩⟩⟩⟩⟩⟩⟩⟩⟩
theorem iq_m7_0 : iq_mok 7 (3, (0, 0, 4)) := (iq_mt1 (i := 45) rfl rfl)
theorem iq_m7_1 : iq_mok 7 (35, (323, 2, 1)) := ⟨by decide, (iq_mt3 (i := 135) rfl rfl), (iq_mt1 (i := 75) rfl rfl), by decide +kernel⟩
theorem iq_m7_2 : iq_mok 7 (41, (0, 5, 3)) := (iq_mt4 (i := 222) rfl rfl)
theorem iq_m7_3 : iq_mok 7 (47, (135, 2, 1)) := ⟨by decide, (iq_mt5 (i := 124) rfl rfl), (iq_mt5 (i := 125) rfl rfl), by decide +kernel⟩
theorem iq_m7_4 : iq_mok 7 (51, (136, 3, 1)) := ⟨by decide, (iq_mt5 (i := 127) rfl rfl), (iq_mt5 (i := 128) rfl rfl), by decide +kernel⟩
theorem iq_mds_7 : ∀ e ∈ iq_mds 7, iq_mok 7 e := List.forall_mem_cons.mpr ⟨iq_m7_0, List.forall_mem_cons.mpr ⟨iq_m7_1, List.forall_mem_cons.mpr ⟨iq_m7_2, List.forall_mem_cons.mpr ⟨iq_m7_3, List.forall_mem_cons.mpr ⟨iq_m7_4, fun _ h => absurd h List.not_mem_nil⟩⟩⟩⟩⟩
theorem iq_m8_0 : iq_mok 8 (1, (0, 0, 4)) := (iq_mt1 (i := 225) rfl rfl)
theorem iq_m8_1 : iq_mok 8 (13, (0, 2, 8)) := (iq_mt3 (i := 144) rfl rfl)
theorem iq_m8_2 : iq_mok 8 (26, (139, 0, 0)) := ⟨by decide, (iq_mt3 (i := 145) rfl rfl), (iq_mt3 (i := 146) rfl rfl), (iq_mt3 (i := 147) rfl rfl), by decide +kernel⟩
theorem iq_m8_3 : iq_mok 8 (32, (145, 1, 1)) := ⟨by decide, (iq_mt3 (i := 149) rfl rfl), (iq_mt3 (i := 150) rfl rfl), by decide +kernel⟩
theorem iq_m8_4 : iq_mok 8 (39, (146, 1, 1)) := ⟨by decide, (iq_mt3 (i := 152) rfl rfl), (iq_mt3 (i := 153) rfl rfl), by decide +kernel⟩
theorem iq_m8_5 : iq_mok 8 (42, (147, 1, 1)) := ⟨by decide, (iq_mt3 (i := 155) rfl rfl), (iq_mt3 (i := 156) rfl rfl), by decide +kernel⟩
theorem iq_m8_6 : iq_mok 8 (47, (314, 1, 0)) := ⟨by decide, (iq_mt3 (i := 159) rfl rfl), (iq_mt3 (i := 160) rfl rfl), (iq_mt3 (i := 161) rfl rfl), by decide +kernel⟩
theorem iq_m8_7 : iq_mok 8 (53, (312, 0, 0)) := ⟨by decide, (iq_mt4 (i := 12) rfl rfl), (iq_mt3 (i := 174) rfl rfl), (iq_mt3 (i := 175) rfl rfl), by decide +kernel⟩
theorem iq_m8_8 : iq_mok 8 (56, (313, 1, 0)) := ⟨by decide, (iq_mt4 (i := 13) rfl rfl), (iq_mt4 (i := 14) rfl rfl), (iq_mt4 (i := 15) rfl rfl), by decide +kernel⟩
theorem iq_mds_8 : ∀ e ∈ iq_mds 8, iq_mok 8 e := List.forall_mem_cons.mpr ⟨iq_m8_0, List.forall_mem_cons.mpr ⟨iq_m8_1, List.forall_mem_cons.mpr ⟨iq_m8_2, List.forall_mem_cons.mpr ⟨iq_m8_3, List.forall_mem_cons.mpr ⟨iq_m8_4, List.forall_mem_cons.mpr ⟨iq_m8_5, List.forall_mem_cons.mpr ⟨iq_m8_6, List.forall_mem_cons.mpr ⟨iq_m8_7, List.forall_mem_cons.mpr ⟨iq_m8_8, fun _ h => absurd h List.not_mem_nil⟩⟩⟩⟩⟩⟩⟩⟩⟩
theorem iq_m9_0 : iq_mok 9 (1, (0, 0, 4)) := (iq_mt1 (i := 31) rfl rfl)
theorem iq_m9_1 : iq_mok 9 (18, (35, 0, 2)) := ⟨by decide, Or.inl (iq_mt1 (i := 36) rfl rfl), (iq_mt1 (i := 37) rfl rfl), rfl, rfl, rfl, by decide +kernel⟩
theorem iq_m9_2 : iq_mok 9 (41, (83, 3, 2)) := ⟨by decide, Or.inl (iq_mt1 (i := 216) rfl rfl), (iq_mt1 (i := 217) rfl rfl), rfl, rfl, rfl, by decide +kernel⟩
theorem iq_m9_3 : iq_mok 9 (50, (53, 1, 2)) := ⟨by decide, Or.inl (iq_mt2 (i := 23) rfl rfl), (iq_mt2 (i := 24) rfl rfl), rfl, rfl, rfl, by decide +kernel⟩
theorem iq_m9_4 : iq_mok 9 (59, (18, 1, 2)) := ⟨by decide, Or.inl (iq_mt2 (i := 55) rfl rfl), (iq_mt2 (i := 56) rfl rfl), rfl, rfl, rfl, by decide +kernel⟩
theorem iq_m9_5 : iq_mok 9 (66, (110, 1, 2)) := ⟨by decide, Or.inl (iq_mt2 (i := 77) rfl rfl), (iq_mt2 (i := 78) rfl rfl), rfl, rfl, rfl, by decide +kernel⟩
theorem iq_m9_6 : iq_mok 9 (78, (190, 1, 0)) := ⟨by decide, (iq_mt2 (i := 147) rfl rfl), (iq_mt2 (i := 149) rfl rfl), (iq_mem (i := 0) rfl rfl), by decide +kernel⟩
theorem iq_m9_7 : iq_mok 9 (217, (15, 0, 0)) := ⟨by decide, (iq_mt2 (i := 159) rfl rfl), (iq_mt2 (i := 160) rfl rfl), (iq_mt2 (i := 161) rfl rfl), by decide +kernel⟩
theorem iq_m9_8 : iq_mok 9 (210, (1, 4, 0)) := ⟨by decide, (iq_mt2 (i := 163) rfl rfl), (iq_mt2 (i := 164) rfl rfl), (iq_mt2 (i := 165) rfl rfl), by decide +kernel⟩
theorem iq_m9_9 : iq_mok 9 (220, (16, 0, 0)) := ⟨by decide, (iq_mt2 (i := 178) rfl rfl), (iq_mt2 (i := 179) rfl rfl), (iq_mt2 (i := 180) rfl rfl), by decide +kernel⟩
theorem iq_m9_10 : iq_mok 9 (262, (78, 1, 0)) := ⟨by decide, (iq_mt2 (i := 199) rfl rfl), (iq_mt2 (i := 200) rfl rfl), (iq_mt2 (i := 201) rfl rfl), by decide +kernel⟩
theorem iq_m9_11 : iq_mok 9 (287, (114, 1, 0)) := ⟨by decide, (iq_mt3 (i := 18) rfl rfl), (iq_mt3 (i := 19) rfl rfl), (iq_mt3 (i := 20) rfl rfl), by decide +kernel⟩
theorem iq_m9_12 : iq_mok 9 (99, (6, 1, 0)) := ⟨by decide, (iq_mt3 (i := 36) rfl rfl), (iq_mt3 (i := 37) rfl rfl), (iq_mt3 (i := 38) rfl rfl), by decide +kernel⟩
theorem iq_m9_13 : iq_mok 9 (86, (0, 1, 6)) := trivial
theorem iq_m9_14 : iq_mok 9 (89, (84, 1, 0)) := ⟨by decide, (iq_mt3 (i := 123) rfl rfl), (iq_mt3 (i := 124) rfl rfl), (iq_mt3 (i := 125) rfl rfl), by decide +kernel⟩
theorem iq_m9_15 : iq_mok 9 (96, (37, 1, 0)) := ⟨by decide, (iq_mt4 (i := 213) rfl rfl), (iq_mt4 (i := 214) rfl rfl), (iq_mt4 (i := 215) rfl rfl), by decide +kernel⟩
theorem iq_m9_16 : iq_mok 9 (142, (111, 1, 0)) := ⟨by decide, (iq_mt4 (i := 231) rfl rfl), (iq_mt4 (i := 232) rfl rfl), (iq_mt4 (i := 233) rfl rfl), by decide +kernel⟩
theorem iq_m9_17 : iq_mok 9 (149, (11, 0, 0)) := ⟨by decide, (iq_mt4 (i := 236) rfl rfl), (iq_mt4 (i := 237) rfl rfl), (iq_mt4 (i := 238) rfl rfl), by decide +kernel⟩
theorem iq_m9_18 : iq_mok 9 (157, (0, 1, 6)) := trivial
theorem iq_m9_19 : iq_mok 9 (158, (193, 1, 0)) := ⟨by decide, (iq_mt5 (i := 24) rfl rfl), (iq_mt5 (i := 26) rfl rfl), (iq_mem (i := 32) rfl rfl), by decide +kernel⟩
theorem iq_m9_20 : iq_mok 9 (166, (43, 2, 0)) := ⟨by decide, (iq_mt5 (i := 30) rfl rfl), (iq_mt4 (i := 77) rfl rfl), (iq_mt4 (i := 78) rfl rfl), by decide +kernel⟩
theorem iq_m9_21 : iq_mok 9 (173, (192, 1, 0)) := ⟨by decide, (iq_mt5 (i := 45) rfl rfl), (iq_mt5 (i := 47) rfl rfl), (iq_mem (i := 33) rfl rfl), by decide +kernel⟩
theorem iq_m9_22 : iq_mok 9 (176, (194, 1, 0)) := ⟨by decide, (iq_mt5 (i := 50) rfl rfl), (iq_mt5 (i := 52) rfl rfl), (iq_mem (i := 34) rfl rfl), by decide +kernel⟩
theorem iq_m9_23 : iq_mok 9 (179, (48, 2, 0)) := ⟨by decide, (iq_mt5 (i := 55) rfl rfl), (iq_mt2 (i := 239) rfl rfl), (iq_mt3 (i := 0) rfl rfl), by decide +kernel⟩
theorem iq_m9_24 : iq_mok 9 (182, (195, 1, 0)) := ⟨by decide, (iq_mt5 (i := 63) rfl rfl), (iq_mt5 (i := 65) rfl rfl), (iq_mem (i := 35) rfl rfl), by decide +kernel⟩
theorem iq_m9_25 : iq_mok 9 (186, (51, 2, 0)) := ⟨by decide, (iq_mt5 (i := 68) rfl rfl), (iq_mt2 (i := 204) rfl rfl), (iq_mt2 (i := 205) rfl rfl), by decide +kernel⟩
theorem iq_m9_26 : iq_mok 9 (193, (196, 2, 0)) := ⟨by decide, (iq_mt5 (i := 69) rfl rfl), (iq_mt5 (i := 71) rfl rfl), (iq_mem (i := 36) rfl rfl), by decide +kernel⟩
theorem iq_m9_27 : iq_mok 9 (197, (10, 2, 0)) := ⟨by decide, (iq_mt5 (i := 74) rfl rfl), (iq_mt2 (i := 217) rfl rfl), (iq_mt2 (i := 218) rfl rfl), by decide +kernel⟩
theorem iq_m9_28 : iq_mok 9 (200, (19, 2, 0)) := ⟨by decide, (iq_mt5 (i := 82) rfl rfl), (iq_mt5 (i := 83) rfl rfl), (iq_mt5 (i := 84) rfl rfl), by decide +kernel⟩
theorem iq_m9_29 : iq_mok 9 (203, (191, 0, 0)) := ⟨by decide, (iq_mt5 (i := 137) rfl rfl), (iq_mt5 (i := 139) rfl rfl), (iq_mem (i := 40) rfl rfl), by decide +kernel⟩
theorem iq_m9_30 : iq_mok 9 (206, (13, 3, 0)) := ⟨by decide, (iq_mt5 (i := 141) rfl rfl), (iq_mt2 (i := 192) rfl rfl), (iq_mt2 (i := 193) rfl rfl), by decide +kernel⟩
theorem iq_m9_31 : iq_mok 9 (214, (14, 2, 0)) := ⟨by decide, (iq_mt5 (i := 156) rfl rfl), (iq_mt2 (i := 183) rfl rfl), (iq_mt2 (i := 184) rfl rfl), by decide +kernel⟩
theorem iq_m9_32 : iq_mok 9 (223, (59, 1, 0)) := ⟨by decide, (iq_mt5 (i := 164) rfl rfl), (iq_mt5 (i := 165) rfl rfl), (iq_mt5 (i := 166) rfl rfl), by decide +kernel⟩
theorem iq_m9_33 : iq_mok 9 (226, (197, 1, 0)) := ⟨by decide, (iq_mt5 (i := 179) rfl rfl), (iq_mt5 (i := 181) rfl rfl), (iq_mem (i := 42) rfl rfl), by decide +kernel⟩
theorem iq_m9_34 : iq_mok 9 (229, (63, 1, 0)) := ⟨by decide, (iq_mt5 (i := 184) rfl rfl), (iq_mt5 (i := 185) rfl rfl), (iq_mt5 (i := 186) rfl rfl), by decide +kernel⟩
theorem iq_m9_35 : iq_mok 9 (232, (64, 2, 0)) := ⟨by decide, (iq_mt5 (i := 196) rfl rfl), (iq_mt5 (i := 197) rfl rfl), (iq_mt5 (i := 198) rfl rfl), by decide +kernel⟩
theorem iq_m9_36 : iq_mok 9 (235, (60, 1, 0)) := ⟨by decide, (iq_mt5 (i := 212) rfl rfl), (iq_mt5 (i := 213) rfl rfl), (iq_mt5 (i := 214) rfl rfl), by decide +kernel⟩
theorem iq_m9_37 : iq_mok 9 (240, (66, 3, 0)) := ⟨by decide, (iq_mt5 (i := 224) rfl rfl), (iq_mt5 (i := 225) rfl rfl), (iq_mt5 (i := 226) rfl rfl), by decide +kernel⟩
theorem iq_m9_38 : iq_mok 9 (244, (198, 1, 0)) := ⟨by decide, (iq_mt6 (i := 0) rfl rfl), (iq_mt6 (i := 2) rfl rfl), (iq_mem (i := 47) rfl rfl), by decide +kernel⟩
theorem iq_m9_39 : iq_mok 9 (247, (69, 1, 0)) := ⟨by decide, (iq_mt6 (i := 5) rfl rfl), (iq_mt6 (i := 6) rfl rfl), (iq_mt6 (i := 7) rfl rfl), by decide +kernel⟩
theorem iq_m9_40 : iq_mok 9 (250, (70, 1, 0)) := ⟨by decide, (iq_mt6 (i := 13) rfl rfl), (iq_mt6 (i := 14) rfl rfl), (iq_mt6 (i := 15) rfl rfl), by decide +kernel⟩
theorem iq_m9_41 : iq_mok 9 (255, (74, 2, 0)) := ⟨by decide, (iq_mt6 (i := 25) rfl rfl), (iq_mt6 (i := 26) rfl rfl), (iq_mt6 (i := 27) rfl rfl), by decide +kernel⟩
theorem iq_m9_42 : iq_mok 9 (258, (76, 3, 0)) := ⟨by decide, (iq_mt6 (i := 51) rfl rfl), (iq_mt6 (i := 52) rfl rfl), (iq_mt6 (i := 53) rfl rfl), by decide +kernel⟩
theorem iq_m9_43 : iq_mok 9 (267, (26, 5, 0)) := ⟨by decide, (iq_mt6 (i := 68) rfl rfl), (iq_mt6 (i := 69) rfl rfl), (iq_mt6 (i := 70) rfl rfl), by decide +kernel⟩
theorem iq_m9_44 : iq_mok 9 (271, (17, 2, 0)) := ⟨by decide, (iq_mt6 (i := 93) rfl rfl), (iq_mt6 (i := 94) rfl rfl), (iq_mt6 (i := 95) rfl rfl), by decide +kernel⟩
theorem iq_m9_45 : iq_mok 9 (274, (28, 1, 0)) := ⟨by decide, (iq_mt6 (i := 104) rfl rfl), (iq_mt6 (i := 105) rfl rfl), (iq_mt6 (i := 106) rfl rfl), by decide +kernel⟩
theorem iq_m9_46 : iq_mok 9 (277, (29, 1, 0)) := ⟨by decide, (iq_mt6 (i := 112) rfl rfl), (iq_mt6 (i := 113) rfl rfl), (iq_mt6 (i := 114) rfl rfl), by decide +kernel⟩
theorem iq_m9_47 : iq_mok 9 (280, (112, 2, 0)) := ⟨by decide, (iq_mt6 (i := 123) rfl rfl), (iq_mt6 (i := 124) rfl rfl), (iq_mt6 (i := 125) rfl rfl), by decide +kernel⟩
theorem iq_m9_48 : iq_mok 9 (283, (113, 3, 0)) := ⟨by decide, (iq_mt6 (i := 135) rfl rfl), (iq_mt3 (i := 23) rfl rfl), (iq_mt3 (i := 24) rfl rfl), by decide +kernel⟩
theorem iq_m9_49 : iq_mok 9 (290, (115, 2, 0)) := ⟨by decide, (iq_mt6 (i := 143) rfl rfl), (iq_mt6 (i := 144) rfl rfl), (iq_mt6 (i := 145) rfl rfl), by decide +kernel⟩
theorem iq_m9_50 : iq_mok 9 (293, (116, 2, 0)) := ⟨by decide, (iq_mt6 (i := 152) rfl rfl), (iq_mt6 (i := 153) rfl rfl), (iq_mt6 (i := 154) rfl rfl), by decide +kernel⟩
theorem iq_m9_51 : iq_mok 9 (298, (31, 3, 0)) := ⟨by decide, (iq_mt6 (i := 164) rfl rfl), (iq_mt6 (i := 165) rfl rfl), (iq_mt6 (i := 166) rfl rfl), by decide +kernel⟩
theorem iq_m9_52 : iq_mok 9 (301, (80, 1, 0)) := ⟨by decide, (iq_mt6 (i := 188) rfl rfl), (iq_mt6 (i := 189) rfl rfl), (iq_mt6 (i := 190) rfl rfl), by decide +kernel⟩
theorem iq_m9_53 : iq_mok 9 (304, (81, 1, 0)) := ⟨by decide, (iq_mt6 (i := 200) rfl rfl), (iq_mt6 (i := 201) rfl rfl), (iq_mt6 (i := 202) rfl rfl), by decide +kernel⟩
theorem iq_m9_54 : iq_mok 9 (307, (82, 2, 0)) := ⟨by decide, (iq_mt6 (i := 215) rfl rfl), (iq_mt6 (i := 216) rfl rfl), (iq_mt6 (i := 217) rfl rfl), by decide +kernel⟩
theorem iq_m9_55 : iq_mok 9 (310, (20, 3, 0)) := ⟨by decide, (iq_mt6 (i := 226) rfl rfl), (iq_mt6 (i := 227) rfl rfl), (iq_mt6 (i := 228) rfl rfl), by decide +kernel⟩
theorem iq_m9_56 : iq_mok 9 (313, (118, 2, 0)) := ⟨by decide, (iq_mt6 (i := 237) rfl rfl), (iq_mt6 (i := 238) rfl rfl), (iq_mt6 (i := 239) rfl rfl), by decide +kernel⟩
theorem iq_m9_57 : iq_mok 9 (318, (122, 3, 0)) := ⟨by decide, (iq_mt7 (i := 15) rfl rfl), (iq_mt7 (i := 16) rfl rfl), (iq_mt7 (i := 17) rfl rfl), by decide +kernel⟩
theorem iq_m9_58 : iq_mok 9 (321, (124, 3, 0)) := ⟨by decide, (iq_mt7 (i := 30) rfl rfl), (iq_mt7 (i := 31) rfl rfl), (iq_mt7 (i := 32) rfl rfl), by decide +kernel⟩
theorem iq_m9_59 : iq_mok 9 (324, (125, 3, 0)) := ⟨by decide, (iq_mt7 (i := 39) rfl rfl), (iq_mt7 (i := 40) rfl rfl), (iq_mt7 (i := 41) rfl rfl), by decide +kernel⟩
theorem iq_m9_60 : iq_mok 9 (327, (12, 2, 0)) := ⟨by decide, (iq_mt7 (i := 50) rfl rfl), (iq_mt5 (i := 117) rfl rfl), (iq_mt5 (i := 118) rfl rfl), by decide +kernel⟩
theorem iq_m9_61 : iq_mok 9 (330, (46, 1, 0)) := ⟨by decide, (iq_mt7 (i := 58) rfl rfl), (iq_mt5 (i := 112) rfl rfl), (iq_mt5 (i := 113) rfl rfl), by decide +kernel⟩
theorem iq_m9_62 : iq_mok 9 (333, (47, 1, 0)) := ⟨by decide, (iq_mt7 (i := 66) rfl rfl), (iq_mt6 (i := 39) rfl rfl), (iq_mt6 (i := 40) rfl rfl), by decide +kernel⟩
theorem iq_m9_63 : iq_mok 9 (25, (4, 0, 2)) := ⟨by decide, Or.inr (List.mem_of_getElem? (i := 264) (by decide +kernel)), (iq_mt1 (i := 141) rfl rfl), rfl, rfl, rfl, by decide +kernel⟩
theorem iq_mds_9 : ∀ e ∈ iq_mds 9, iq_mok 9 e := List.forall_mem_cons.mpr ⟨iq_m9_0, List.forall_mem_cons.mpr ⟨iq_m9_1, List.forall_mem_cons.mpr ⟨iq_m9_2, List.forall_mem_cons.mpr ⟨iq_m9_3, List.forall_mem_cons.mpr ⟨iq_m9_4, List.forall_mem_cons.mpr ⟨iq_m9_5, List.forall_mem_cons.mpr ⟨iq_m9_6, List.forall_mem_cons.mpr ⟨iq_m9_7, List.forall_mem_cons.mpr ⟨iq_m9_8, List.forall_mem_cons.mpr ⟨iq_m9_9, List.forall_mem_cons.mpr ⟨iq_m9_10, List.forall_mem_cons.mpr ⟨iq_m9_11, List.forall_mem_cons.mpr ⟨iq_m9_12, List.forall_mem_cons.mpr ⟨iq_m9_13, List.forall_mem_cons.mpr ⟨iq_m9_14, List.forall_mem_cons.mpr ⟨iq_m9_15, List.forall_mem_cons.mpr ⟨iq_m9_16, List.forall_mem_cons.mpr ⟨iq_m9_17, List.forall_mem_cons.mpr ⟨iq_m9_18, List.forall_mem_cons.mpr ⟨iq_m9_19, List.forall_mem_cons.mpr ⟨iq_m9_20, List.forall_mem_cons.mpr ⟨iq_m9_21, List.forall_mem_cons.mpr ⟨iq_m9_22, List.forall_mem_cons.mpr ⟨iq_m9_23, List.forall_mem_cons.mpr ⟨iq_m9_24, List.forall_mem_cons.mpr ⟨iq_m9_25, List.forall_mem_cons.mpr ⟨iq_m9_26, List.forall_mem_cons.mpr ⟨iq_m9_27, List.forall_mem_cons.mpr ⟨iq_m9_28, List.forall_mem_cons.mpr ⟨iq_m9_29, List.forall_mem_cons.mpr ⟨iq_m9_30, List.forall_mem_cons.mpr ⟨iq_m9_31, List.forall_mem_cons.mpr ⟨iq_m9_32, List.forall_mem_cons.mpr ⟨iq_m9_33, List.forall_mem_cons.mpr ⟨iq_m9_34, List.forall_mem_cons.mpr ⟨iq_m9_35, List.forall_mem_cons.mpr ⟨iq_m9_36, List.forall_mem_cons.mpr ⟨iq_m9_37, List.forall_mem_cons.mpr ⟨iq_m9_38, List.forall_mem_cons.mpr ⟨iq_m9_39, List.forall_mem_cons.mpr ⟨iq_m9_40, List.forall_mem_cons.mpr ⟨iq_m9_41, List.forall_mem_cons.mpr ⟨iq_m9_42, List.forall_mem_cons.mpr ⟨iq_m9_43, List.forall_mem_cons.mpr ⟨iq_m9_44, List.forall_mem_cons.mpr ⟨iq_m9_45, List.forall_mem_cons.mpr ⟨iq_m9_46, List.forall_mem_cons.mpr ⟨iq_m9_47, List.forall_mem_cons.mpr ⟨iq_m9_48, List.forall_mem_cons.mpr ⟨iq_m9_49, List.forall_mem_cons.mpr ⟨iq_m9_50, List.forall_mem_cons.mpr ⟨iq_m9_51, List.forall_mem_cons.mpr ⟨iq_m9_52, List.forall_mem_cons.mpr ⟨iq_m9_53, List.forall_mem_cons.mpr ⟨iq_m9_54, List.forall_mem_cons.mpr ⟨iq_m9_55, List.forall_mem_cons.mpr ⟨iq_m9_56, List.forall_mem_cons.mpr ⟨iq_m9_57, List.forall_mem_cons.mpr ⟨iq_m9_58, List.forall_mem_cons.mpr ⟨iq_m9_59, List.forall_mem_cons.mpr ⟨iq_m9_60, List.forall_mem_cons.mpr ⟨iq_m9_61, List.forall_mem_cons.mpr ⟨iq_m9_62, List.forall_mem_cons.mpr ⟨iq_m9_63, fun _ h => absurd h List.not_mem_nil⟩⟩⟩⟩⟩⟩⟩⟩⟩⟩⟩⟩⟩⟩⟩⟩⟩⟩⟩⟩⟩⟩⟩⟩⟩⟩⟩⟩⟩⟩⟩⟩⟩⟩⟩⟩⟩⟩⟩⟩⟩⟩⟩⟩⟩⟩⟩⟩⟩⟩⟩⟩⟩⟩⟩⟩⟩⟩⟩⟩⟩⟩⟩⟩
theorem iq_m10_0 : iq_mok 10 (1, (0, 0, 4)) := (iq_mt7 (i := 72) rfl rfl)
theorem iq_m10_1 : iq_mok 10 (136, (206, 1, 0)) := ⟨by decide, (iq_mt8 (i := 65) rfl rfl), (iq_mt8 (i := 67) rfl rfl), (iq_mem (i := 65) rfl rfl), by decide +kernel⟩
theorem iq_m10_2 : iq_mok 10 (302, (201, 2, 0)) := ⟨by decide, (iq_mt8 (i := 73) rfl rfl), (iq_mt8 (i := 75) rfl rfl), (iq_mem (i := 66) rfl rfl), by decide +kernel⟩
theorem iq_m10_3 : iq_mok 10 (193, (210, 0, 0)) := ⟨by decide, (iq_mt8 (i := 77) rfl rfl), (iq_mt8 (i := 79) rfl rfl), (iq_mem (i := 67) rfl rfl), by decide +kernel⟩
theorem iq_m10_4 : iq_mok 10 (146, (207, 1, 0)) := ⟨by decide, (iq_mt8 (i := 81) rfl rfl), (iq_mt8 (i := 83) rfl rfl), (iq_mem (i := 68) rfl rfl), by decide +kernel⟩
theorem iq_m10_5 : iq_mok 10 (166, (208, 1, 1)) := ⟨by decide, (iq_mt8 (i := 85) rfl rfl), (iq_mt8 (i := 86) rfl rfl), by decide +kernel⟩
theorem iq_m10_6 : iq_mok 10 (170, (209, 1, 1)) := ⟨by decide, (iq_mt8 (i := 88) rfl rfl), (iq_mt8 (i := 89) rfl rfl), by decide +kernel⟩
theorem iq_m10_7 : iq_mok 10 (189, (215, 0, 0)) := ⟨by decide, (iq_mt8 (i := 91) rfl rfl), (iq_mt8 (i := 93) rfl rfl), (iq_mem (i := 69) rfl rfl), by decide +kernel⟩
theorem iq_m10_8 : iq_mok 10 (306, (237, 0, 0)) := ⟨by decide, (iq_mt8 (i := 95) rfl rfl), (iq_mt8 (i := 97) rfl rfl), (iq_mem (i := 70) rfl rfl), by decide +kernel⟩
theorem iq_m10_9 : iq_mok 10 (221, (213, 0, 0)) := ⟨by decide, (iq_mt8 (i := 99) rfl rfl), (iq_mt8 (i := 101) rfl rfl), (iq_mem (i := 71) rfl rfl), by decide +kernel⟩
theorem iq_m10_10 : iq_mok 10 (182, (212, 1, 1)) := ⟨by decide, (iq_mt8 (i := 103) rfl rfl), (iq_mt8 (i := 104) rfl rfl), by decide +kernel⟩
theorem iq_m10_11 : iq_mok 10 (178, (211, 7, 1)) := ⟨by decide, (iq_mt8 (i := 106) rfl rfl), (iq_mt8 (i := 107) rfl rfl), by decide +kernel⟩
theorem iq_m10_12 : iq_mok 10 (196, (214, 1, 0)) := ⟨by decide, (iq_mt8 (i := 110) rfl rfl), (iq_mt8 (i := 112) rfl rfl), (iq_mem (i := 72) rfl rfl), by decide +kernel⟩
theorem iq_m10_13 : iq_mok 10 (278, (234, 0, 0)) := ⟨by decide, (iq_mt8 (i := 114) rfl rfl), (iq_mt8 (i := 116) rfl rfl), (iq_mem (i := 73) rfl rfl), by decide +kernel⟩
theorem iq_m10_14 : iq_mok 10 (256, (233, 1, 0)) := ⟨by decide, (iq_mt8 (i := 118) rfl rfl), (iq_mt8 (i := 120) rfl rfl), (iq_mem (i := 74) rfl rfl), by decide +kernel⟩
theorem iq_m10_15 : iq_mok 10 (259, (219, 2, 0)) := ⟨by decide, (iq_mt8 (i := 122) rfl rfl), (iq_mt8 (i := 124) rfl rfl), (iq_mem (i := 75) rfl rfl), by decide +kernel⟩
theorem iq_m10_16 : iq_mok 10 (199, (218, 2, 0)) := ⟨by decide, (iq_mt8 (i := 126) rfl rfl), (iq_mt8 (i := 128) rfl rfl), (iq_mem (i := 76) rfl rfl), by decide +kernel⟩
theorem iq_m10_17 : iq_mok 10 (281, (235, 0, 0)) := ⟨by decide, (iq_mt8 (i := 130) rfl rfl), (iq_mt8 (i := 132) rfl rfl), (iq_mem (i := 77) rfl rfl), by decide +kernel⟩
theorem iq_m10_18 : iq_mok 10 (269, (221, 1, 0)) := ⟨by decide, (iq_mt8 (i := 134) rfl rfl), (iq_mt8 (i := 136) rfl rfl), (iq_mem (i := 78) rfl rfl), by decide +kernel⟩
theorem iq_m10_19 : iq_mok 10 (203, (220, 1, 0)) := ⟨by decide, (iq_mt8 (i := 138) rfl rfl), (iq_mt8 (i := 140) rfl rfl), (iq_mem (i := 79) rfl rfl), by decide +kernel⟩
theorem iq_m10_20 : iq_mok 10 (287, (236, 0, 0)) := ⟨by decide, (iq_mt8 (i := 142) rfl rfl), (iq_mt8 (i := 144) rfl rfl), (iq_mem (i := 80) rfl rfl), by decide +kernel⟩
theorem iq_m10_21 : iq_mok 10 (293, (232, 0, 0)) := ⟨by decide, (iq_mt8 (i := 146) rfl rfl), (iq_mt8 (i := 148) rfl rfl), (iq_mem (i := 81) rfl rfl), by decide +kernel⟩
theorem iq_m10_22 : iq_mok 10 (234, (228, 0, 0)) := ⟨by decide, (iq_mt8 (i := 150) rfl rfl), (iq_mt8 (i := 152) rfl rfl), (iq_mem (i := 82) rfl rfl), by decide +kernel⟩
theorem iq_m10_23 : iq_mok 10 (228, (216, 1, 0)) := ⟨by decide, (iq_mt8 (i := 154) rfl rfl), (iq_mt8 (i := 156) rfl rfl), (iq_mem (i := 83) rfl rfl), by decide +kernel⟩
theorem iq_m10_24 : iq_mok 10 (243, (229, 1, 0)) := ⟨by decide, (iq_mt8 (i := 158) rfl rfl), (iq_mt8 (i := 160) rfl rfl), (iq_mem (i := 84) rfl rfl), by decide +kernel⟩
theorem iq_m10_25 : iq_mok 10 (231, (226, 1, 0)) := ⟨by decide, (iq_mt8 (i := 162) rfl rfl), (iq_mt8 (i := 164) rfl rfl), (iq_mem (i := 85) rfl rfl), by decide +kernel⟩
theorem iq_m10_26 : iq_mok 10 (237, (227, 0, 0)) := ⟨by decide, (iq_mt8 (i := 166) rfl rfl), (iq_mt8 (i := 168) rfl rfl), (iq_mem (i := 86) rfl rfl), by decide +kernel⟩
theorem iq_m10_27 : iq_mok 10 (218, (222, 1, 0)) := ⟨by decide, (iq_mt8 (i := 170) rfl rfl), (iq_mt8 (i := 172) rfl rfl), (iq_mem (i := 87) rfl rfl), by decide +kernel⟩
theorem iq_m10_28 : iq_mok 10 (240, (225, 1, 0)) := ⟨by decide, (iq_mt8 (i := 174) rfl rfl), (iq_mt8 (i := 176) rfl rfl), (iq_mem (i := 88) rfl rfl), by decide +kernel⟩
theorem iq_m10_29 : iq_mok 10 (212, (223, 1, 1)) := ⟨by decide, (iq_mt8 (i := 178) rfl rfl), (iq_mt8 (i := 179) rfl rfl), by decide +kernel⟩
theorem iq_m10_30 : iq_mok 10 (215, (224, 1, 1)) := ⟨by decide, (iq_mt8 (i := 181) rfl rfl), (iq_mt8 (i := 182) rfl rfl), by decide +kernel⟩
theorem iq_m10_31 : iq_mok 10 (247, (230, 0, 0)) := ⟨by decide, (iq_mt8 (i := 184) rfl rfl), (iq_mt8 (i := 186) rfl rfl), (iq_mem (i := 89) rfl rfl), by decide +kernel⟩
theorem iq_m10_32 : iq_mok 10 (250, (231, 0, 0)) := ⟨by decide, (iq_mt8 (i := 188) rfl rfl), (iq_mt8 (i := 190) rfl rfl), (iq_mem (i := 90) rfl rfl), by decide +kernel⟩
theorem iq_m10_33 : iq_mok 10 (299, (217, 1, 0)) := ⟨by decide, (iq_mt8 (i := 192) rfl rfl), (iq_mt8 (i := 194) rfl rfl), (iq_mem (i := 91) rfl rfl), by decide +kernel⟩
theorem iq_m10_34 : iq_mok 10 (327, (203, 2, 0)) := ⟨by decide, (iq_mt8 (i := 196) rfl rfl), (iq_mt8 (i := 198) rfl rfl), (iq_mem (i := 92) rfl rfl), by decide +kernel⟩
theorem iq_m10_35 : iq_mok 10 (356, (202, 3, 1)) := ⟨by decide, (iq_mt8 (i := 212) rfl rfl), (iq_mt8 (i := 213) rfl rfl), by decide +kernel⟩
theorem iq_m10_36 : iq_mok 10 (360, (247, 0, 0)) := ⟨by decide, (iq_mt8 (i := 215) rfl rfl), (iq_mt8 (i := 217) rfl rfl), (iq_mem (i := 93) rfl rfl), by decide +kernel⟩
theorem iq_m10_37 : iq_mok 10 (363, (248, 0, 0)) := ⟨by decide, (iq_mt8 (i := 219) rfl rfl), (iq_mt8 (i := 221) rfl rfl), (iq_mem (i := 94) rfl rfl), by decide +kernel⟩
theorem iq_m10_38 : iq_mok 10 (352, (246, 2, 0)) := ⟨by decide, (iq_mt8 (i := 223) rfl rfl), (iq_mt8 (i := 225) rfl rfl), (iq_mem (i := 95) rfl rfl), by decide +kernel⟩
theorem iq_m10_39 : iq_mok 10 (348, (245, 4, 0)) := ⟨by decide, (iq_mt8 (i := 227) rfl rfl), (iq_mt8 (i := 229) rfl rfl), (iq_mem (i := 96) rfl rfl), by decide +kernel⟩
theorem iq_m10_40 : iq_mok 10 (341, (243, 3, 0)) := ⟨by decide, (iq_mt8 (i := 231) rfl rfl), (iq_mt8 (i := 233) rfl rfl), (iq_mem (i := 97) rfl rfl), by decide +kernel⟩
theorem iq_m10_41 : iq_mok 10 (345, (244, 2, 0)) := ⟨by decide, (iq_mt8 (i := 235) rfl rfl), (iq_mt8 (i := 237) rfl rfl), (iq_mem (i := 98) rfl rfl), by decide +kernel⟩
theorem iq_m10_42 : iq_mok 10 (366, (251, 1, 0)) := ⟨by decide, (iq_mt9 (i := 3) rfl rfl), (iq_mt9 (i := 5) rfl rfl), (iq_mem (i := 99) rfl rfl), by decide +kernel⟩
theorem iq_m10_43 : iq_mok 10 (369, (250, 1, 0)) := ⟨by decide, (iq_mt9 (i := 15) rfl rfl), (iq_mt9 (i := 17) rfl rfl), (iq_mem (i := 100) rfl rfl), by decide +kernel⟩
theorem iq_m10_44 : iq_mok 10 (372, (253, 2, 0)) := ⟨by decide, (iq_mt9 (i := 19) rfl rfl), (iq_mt9 (i := 21) rfl rfl), (iq_mem (i := 101) rfl rfl), by decide +kernel⟩
theorem iq_m10_45 : iq_mok 10 (375, (252, 1, 0)) := ⟨by decide, (iq_mt9 (i := 27) rfl rfl), (iq_mt9 (i := 29) rfl rfl), (iq_mem (i := 102) rfl rfl), by decide +kernel⟩
theorem iq_m10_46 : iq_mok 10 (395, (263, 4, 0)) := ⟨by decide, (iq_mt9 (i := 35) rfl rfl), (iq_mt9 (i := 37) rfl rfl), (iq_mem (i := 103) rfl rfl), by decide +kernel⟩
theorem iq_m10_47 : iq_mok 10 (388, (262, 1, 0)) := ⟨by decide, (iq_mt9 (i := 39) rfl rfl), (iq_mt9 (i := 41) rfl rfl), (iq_mem (i := 104) rfl rfl), by decide +kernel⟩
theorem iq_m10_48 : iq_mok 10 (391, (261, 4, 0)) := ⟨by decide, (iq_mt9 (i := 43) rfl rfl), (iq_mt9 (i := 45) rfl rfl), (iq_mem (i := 105) rfl rfl), by decide +kernel⟩
theorem iq_m10_49 : iq_mok 10 (382, (260, 1, 0)) := ⟨by decide, (iq_mt9 (i := 47) rfl rfl), (iq_mt9 (i := 49) rfl rfl), (iq_mem (i := 106) rfl rfl), by decide +kernel⟩
theorem iq_m10_50 : iq_mok 10 (385, (259, 1, 0)) := ⟨by decide, (iq_mt9 (i := 51) rfl rfl), (iq_mt9 (i := 53) rfl rfl), (iq_mem (i := 107) rfl rfl), by decide +kernel⟩
theorem iq_m10_51 : iq_mok 10 (378, (258, 3, 1)) := ⟨by decide, (iq_mt9 (i := 55) rfl rfl), (iq_mt9 (i := 56) rfl rfl), by decide +kernel⟩
theorem iq_m10_52 : iq_mok 10 (399, (241, 1, 0)) := ⟨by decide, (iq_mt9 (i := 62) rfl rfl), (iq_mt9 (i := 64) rfl rfl), (iq_mem (i := 108) rfl rfl), by decide +kernel⟩
theorem iq_m10_53 : iq_mok 10 (402, (240, 0, 0)) := ⟨by decide, (iq_mt9 (i := 66) rfl rfl), (iq_mt9 (i := 68) rfl rfl), (iq_mem (i := 109) rfl rfl), by decide +kernel⟩
theorem iq_m10_54 : iq_mok 10 (405, (265, 4, 0)) := ⟨by decide, (iq_mt9 (i := 70) rfl rfl), (iq_mt9 (i := 72) rfl rfl), (iq_mem (i := 110) rfl rfl), by decide +kernel⟩
theorem iq_m10_55 : iq_mok 10 (418, (272, 1, 0)) := ⟨by decide, (iq_mt9 (i := 90) rfl rfl), (iq_mt9 (i := 92) rfl rfl), (iq_mem (i := 111) rfl rfl), by decide +kernel⟩
theorem iq_m10_56 : iq_mok 10 (415, (271, 1, 0)) := ⟨by decide, (iq_mt9 (i := 94) rfl rfl), (iq_mt9 (i := 96) rfl rfl), (iq_mem (i := 112) rfl rfl), by decide +kernel⟩
theorem iq_m10_57 : iq_mok 10 (412, (270, 2, 0)) := ⟨by decide, (iq_mt9 (i := 98) rfl rfl), (iq_mt9 (i := 100) rfl rfl), (iq_mem (i := 113) rfl rfl), by decide +kernel⟩
theorem iq_m10_58 : iq_mok 10 (421, (274, 0, 0)) := ⟨by decide, (iq_mt9 (i := 106) rfl rfl), (iq_mt9 (i := 108) rfl rfl), (iq_mem (i := 114) rfl rfl), by decide +kernel⟩
theorem iq_m10_59 : iq_mok 10 (424, (278, 0, 0)) := ⟨by decide, (iq_mt9 (i := 122) rfl rfl), (iq_mt9 (i := 124) rfl rfl), (iq_mem (i := 115) rfl rfl), by decide +kernel⟩
theorem iq_m10_60 : iq_mok 10 (428, (204, 1, 1)) := ⟨by decide, (iq_mt9 (i := 135) rfl rfl), (iq_mt9 (i := 136) rfl rfl), by decide +kernel⟩
theorem iq_m10_61 : iq_mok 10 (441, (285, 4, 0)) := ⟨by decide, (iq_mt9 (i := 142) rfl rfl), (iq_mt9 (i := 144) rfl rfl), (iq_mem (i := 116) rfl rfl), by decide +kernel⟩
theorem iq_m10_62 : iq_mok 10 (431, (282, 5, 0)) := ⟨by decide, (iq_mt9 (i := 146) rfl rfl), (iq_mt9 (i := 148) rfl rfl), (iq_mem (i := 117) rfl rfl), by decide +kernel⟩
theorem iq_m10_63 : iq_mok 10 (435, (283, 3, 0)) := ⟨by decide, (iq_mt9 (i := 150) rfl rfl), (iq_mt9 (i := 152) rfl rfl), (iq_mem (i := 118) rfl rfl), by decide +kernel⟩
theorem iq_m10_64 : iq_mok 10 (438, (284, 3, 1)) := ⟨by decide, (iq_mt9 (i := 154) rfl rfl), (iq_mt9 (i := 155) rfl rfl), by decide +kernel⟩
theorem iq_m10_65 : iq_mok 10 (445, (289, 2, 0)) := ⟨by decide, (iq_mt9 (i := 169) rfl rfl), (iq_mt9 (i := 171) rfl rfl), (iq_mem (i := 119) rfl rfl), by decide +kernel⟩
theorem iq_m10_66 : iq_mok 10 (449, (292, 2, 0)) := ⟨by decide, (iq_mt9 (i := 181) rfl rfl), (iq_mt9 (i := 183) rfl rfl), (iq_mem (i := 120) rfl rfl), by decide +kernel⟩
theorem iq_m10_67 : iq_mok 10 (452, (297, 1, 0)) := ⟨by decide, (iq_mt9 (i := 201) rfl rfl), (iq_mt9 (i := 203) rfl rfl), (iq_mem (i := 121) rfl rfl), by decide +kernel⟩
theorem iq_m10_68 : iq_mok 10 (455, (301, 1, 0)) := ⟨by decide, (iq_mt9 (i := 217) rfl rfl), (iq_mt9 (i := 219) rfl rfl), (iq_mem (i := 122) rfl rfl), by decide +kernel⟩
theorem iq_m10_69 : iq_mok 10 (462, (307, 1, 0)) := ⟨by decide, (iq_mt10 (i := 1) rfl rfl), (iq_mt10 (i := 3) rfl rfl), (iq_mem (i := 123) rfl rfl), by decide +kernel⟩
theorem iq_mds_10 : ∀ e ∈ iq_mds 10, iq_mok 10 e := List.forall_mem_cons.mpr ⟨iq_m10_0, List.forall_mem_cons.mpr ⟨iq_m10_1, List.forall_mem_cons.mpr ⟨iq_m10_2, List.forall_mem_cons.mpr ⟨iq_m10_3, List.forall_mem_cons.mpr ⟨iq_m10_4, List.forall_mem_cons.mpr ⟨iq_m10_5, List.forall_mem_cons.mpr ⟨iq_m10_6, List.forall_mem_cons.mpr ⟨iq_m10_7, List.forall_mem_cons.mpr ⟨iq_m10_8, List.forall_mem_cons.mpr ⟨iq_m10_9, List.forall_mem_cons.mpr ⟨iq_m10_10, List.forall_mem_cons.mpr ⟨iq_m10_11, List.forall_mem_cons.mpr ⟨iq_m10_12, List.forall_mem_cons.mpr ⟨iq_m10_13, List.forall_mem_cons.mpr ⟨iq_m10_14, List.forall_mem_cons.mpr ⟨iq_m10_15, List.forall_mem_cons.mpr ⟨iq_m10_16, List.forall_mem_cons.mpr ⟨iq_m10_17, List.forall_mem_cons.mpr ⟨iq_m10_18, List.forall_mem_cons.mpr ⟨iq_m10_19, List.forall_mem_cons.mpr ⟨iq_m10_20, List.forall_mem_cons.mpr ⟨iq_m10_21, List.forall_mem_cons.mpr ⟨iq_m10_22, List.forall_mem_cons.mpr ⟨iq_m10_23, List.forall_mem_cons.mpr ⟨iq_m10_24, List.forall_mem_cons.mpr ⟨iq_m10_25, List.forall_mem_cons.mpr ⟨iq_m10_26, List.forall_mem_cons.mpr ⟨iq_m10_27, List.forall_mem_cons.mpr ⟨iq_m10_28, List.forall_mem_cons.mpr ⟨iq_m10_29, List.forall_mem_cons.mpr ⟨iq_m10_30, List.forall_mem_cons.mpr ⟨iq_m10_31, List.forall_mem_cons.mpr ⟨iq_m10_32, List.forall_mem_cons.mpr ⟨iq_m10_33, List.forall_mem_cons.mpr ⟨iq_m10_34, List.forall_mem_cons.mpr ⟨iq_m10_35, List.forall_mem_cons.mpr ⟨iq_m10_36, List.forall_mem_cons.mpr ⟨iq_m10_37, List.forall_mem_cons.mpr ⟨iq_m10_38, List.forall_mem_cons.mpr ⟨iq_m10_39, List.forall_mem_cons.mpr ⟨iq_m10_40, List.forall_mem_cons.mpr ⟨iq_m10_41, List.forall_mem_cons.mpr ⟨iq_m10_42, List.forall_mem_cons.mpr ⟨iq_m10_43, List.forall_mem_cons.mpr ⟨iq_m10_44, List.forall_mem_cons.mpr ⟨iq_m10_45, List.forall_mem_cons.mpr ⟨iq_m10_46, List.forall_mem_cons.mpr ⟨iq_m10_47, List.forall_mem_cons.mpr ⟨iq_m10_48, List.forall_mem_cons.mpr ⟨iq_m10_49, List.forall_mem_cons.mpr ⟨iq_m10_50, List.forall_mem_cons.mpr ⟨iq_m10_51, List.forall_mem_cons.mpr ⟨iq_m10_52, List.forall_mem_cons.mpr ⟨iq_m10_53, List.forall_mem_cons.mpr ⟨iq_m10_54, List.forall_mem_cons.mpr ⟨iq_m10_55, List.forall_mem_cons.mpr ⟨iq_m10_56, List.forall_mem_cons.mpr ⟨iq_m10_57, List.forall_mem_cons.mpr ⟨iq_m10_58, List.forall_mem_cons.mpr ⟨iq_m10_59, List.forall_mem_cons.mpr ⟨iq_m10_60, List.forall_mem_cons.mpr ⟨iq_m10_61, List.forall_mem_cons.mpr ⟨iq_m10_62, List.forall_mem_cons.mpr ⟨iq_m10_63, List.forall_mem_cons.mpr ⟨iq_m10_64, List.forall_mem_cons.mpr ⟨iq_m10_65, List.forall_mem_cons.mpr ⟨iq_m10_66, List.forall_mem_cons.mpr ⟨iq_m10_67, List.forall_mem_cons.mpr ⟨iq_m10_68, List.forall_mem_cons.mpr ⟨iq_m10_69, fun _ h => absurd h List.not_mem_nil⟩⟩⟩⟩⟩⟩⟩⟩⟩⟩⟩⟩⟩⟩⟩⟩⟩⟩⟩⟩⟩⟩⟩⟩⟩⟩⟩⟩⟩⟩⟩⟩⟩⟩⟩⟩⟩⟩⟩⟩⟩⟩⟩⟩⟩⟩⟩⟩⟩⟩⟩⟩⟩⟩⟩⟩⟩⟩⟩⟩⟩⟩⟩⟩⟩⟩⟩⟩⟩⟩
theorem iq_m11_0 : iq_mok 11 (114, (148, 0, 2)) := ⟨by decide, Or.inl (iq_mt1 (i := 28) rfl rfl), (iq_mt1 (i := 29) rfl rfl), rfl, rfl, rfl, by decide +kernel⟩
theorem iq_m11_1 : iq_mok 11 (118, (149, 5, 0)) := ⟨by decide, (iq_mt2 (i := 143) rfl rfl), (iq_mt2 (i := 144) rfl rfl), (iq_mt2 (i := 145) rfl rfl), by decide +kernel⟩
theorem iq_m11_2 : iq_mok 11 (133, (151, 0, 0)) := ⟨by decide, (iq_mt2 (i := 151) rfl rfl), (iq_mt2 (i := 152) rfl rfl), (iq_mt2 (i := 153) rfl rfl), by decide +kernel⟩
theorem iq_m11_3 : iq_mok 11 (166, (161, 0, 0)) := ⟨by decide, (iq_mt2 (i := 155) rfl rfl), (iq_mt2 (i := 156) rfl rfl), (iq_mt2 (i := 157) rfl rfl), by decide +kernel⟩
theorem iq_m11_4 : iq_mok 11 (170, (162, 0, 0)) := ⟨by decide, (iq_mt2 (i := 174) rfl rfl), (iq_mt2 (i := 175) rfl rfl), (iq_mt2 (i := 176) rfl rfl), by decide +kernel⟩
theorem iq_m11_5 : iq_mok 11 (193, (169, 0, 0)) := ⟨by decide, (iq_mt2 (i := 195) rfl rfl), (iq_mt2 (i := 196) rfl rfl), (iq_mt2 (i := 197) rfl rfl), by decide +kernel⟩
theorem iq_m11_6 : iq_mok 11 (204, (172, 0, 0)) := ⟨by decide, (iq_mt3 (i := 10) rfl rfl), (iq_mt3 (i := 11) rfl rfl), (iq_mt3 (i := 12) rfl rfl), by decide +kernel⟩
theorem iq_m11_7 : iq_mok 11 (217, (176, 0, 0)) := ⟨by decide, (iq_mt3 (i := 14) rfl rfl), (iq_mt3 (i := 15) rfl rfl), (iq_mt3 (i := 16) rfl rfl), by decide +kernel⟩
theorem iq_m11_8 : iq_mok 11 (254, (188, 0, 0)) := ⟨by decide, (iq_mt3 (i := 32) rfl rfl), (iq_mt3 (i := 33) rfl rfl), (iq_mt3 (i := 34) rfl rfl), by decide +kernel⟩
theorem iq_m11_9 : iq_mok 11 (258, (189, 0, 0)) := ⟨by decide, (iq_mt3 (i := 44) rfl rfl), (iq_mt3 (i := 45) rfl rfl), (iq_mt3 (i := 46) rfl rfl), by decide +kernel⟩
theorem iq_m11_10 : iq_mok 11 (123, (325, 3, 1)) := ⟨by decide, (iq_mt3 (i := 48) rfl rfl), (iq_mt3 (i := 49) rfl rfl), by decide +kernel⟩
theorem iq_m11_11 : iq_mok 11 (7, (150, 1, 0)) := ⟨by decide, (iq_mt3 (i := 52) rfl rfl), (iq_mt3 (i := 53) rfl rfl), (iq_mt3 (i := 54) rfl rfl), by decide +kernel⟩
theorem iq_m11_12 : iq_mok 11 (137, (326, 3, 1)) := ⟨by decide, (iq_mt4 (i := 223) rfl rfl), (iq_mt4 (i := 224) rfl rfl), by decide +kernel⟩
theorem iq_m11_13 : iq_mok 11 (15, (152, 1, 0)) := ⟨by decide, (iq_mt4 (i := 227) rfl rfl), (iq_mt4 (i := 228) rfl rfl), (iq_mt4 (i := 229) rfl rfl), by decide +kernel⟩
theorem iq_m11_14 : iq_mok 11 (140, (327, 4, 1)) := ⟨by decide, (iq_mt5 (i := 17) rfl rfl), (iq_mt5 (i := 18) rfl rfl), by decide +kernel⟩
theorem iq_m11_15 : iq_mok 11 (20, (153, 2, 0)) := ⟨by decide, (iq_mt5 (i := 20) rfl rfl), (iq_mt5 (i := 21) rfl rfl), (iq_mt5 (i := 22) rfl rfl), by decide +kernel⟩
theorem iq_m11_16 : iq_mok 11 (144, (328, 3, 1)) := ⟨by decide, (iq_mt5 (i := 31) rfl rfl), (iq_mt5 (i := 32) rfl rfl), by decide +kernel⟩
theorem iq_m11_17 : iq_mok 11 (24, (154, 1, 0)) := ⟨by decide, (iq_mt5 (i := 34) rfl rfl), (iq_mt5 (i := 35) rfl rfl), (iq_mt5 (i := 36) rfl rfl), by decide +kernel⟩
theorem iq_m11_18 : iq_mok 11 (147, (329, 4, 1)) := ⟨by decide, (iq_mt5 (i := 38) rfl rfl), (iq_mt5 (i := 39) rfl rfl), by decide +kernel⟩
theorem iq_m11_19 : iq_mok 11 (27, (155, 2, 0)) := ⟨by decide, (iq_mt5 (i := 41) rfl rfl), (iq_mt5 (i := 42) rfl rfl), (iq_mt5 (i := 43) rfl rfl), by decide +kernel⟩
theorem iq_m11_20 : iq_mok 11 (150, (330, 4, 1)) := ⟨by decide, (iq_mt5 (i := 56) rfl rfl), (iq_mt5 (i := 57) rfl rfl), by decide +kernel⟩
theorem iq_m11_21 : iq_mok 11 (30, (156, 2, 0)) := ⟨by decide, (iq_mt5 (i := 59) rfl rfl), (iq_mt5 (i := 60) rfl rfl), (iq_mt5 (i := 61) rfl rfl), by decide +kernel⟩
theorem iq_m11_22 : iq_mok 11 (153, (331, 3, 1)) := ⟨by decide, (iq_mt5 (i := 75) rfl rfl), (iq_mt5 (i := 76) rfl rfl), by decide +kernel⟩
theorem iq_m11_23 : iq_mok 11 (33, (157, 1, 0)) := ⟨by decide, (iq_mt5 (i := 78) rfl rfl), (iq_mt5 (i := 79) rfl rfl), (iq_mt5 (i := 80) rfl rfl), by decide +kernel⟩
theorem iq_m11_24 : iq_mok 11 (156, (332, 4, 1)) := ⟨by decide, (iq_mt5 (i := 130) rfl rfl), (iq_mt5 (i := 131) rfl rfl), by decide +kernel⟩
theorem iq_m11_25 : iq_mok 11 (36, (158, 2, 0)) := ⟨by decide, (iq_mt5 (i := 133) rfl rfl), (iq_mt5 (i := 134) rfl rfl), (iq_mt5 (i := 135) rfl rfl), by decide +kernel⟩
theorem iq_m11_26 : iq_mok 11 (159, (333, 5, 1)) := ⟨by decide, (iq_mt5 (i := 142) rfl rfl), (iq_mt5 (i := 143) rfl rfl), by decide +kernel⟩
theorem iq_m11_27 : iq_mok 11 (39, (159, 3, 0)) := ⟨by decide, (iq_mt5 (i := 145) rfl rfl), (iq_mt5 (i := 146) rfl rfl), (iq_mt5 (i := 147) rfl rfl), by decide +kernel⟩
theorem iq_m11_28 : iq_mok 11 (163, (334, 4, 1)) := ⟨by decide, (iq_mt5 (i := 149) rfl rfl), (iq_mt5 (i := 150) rfl rfl), by decide +kernel⟩
theorem iq_m11_29 : iq_mok 11 (43, (160, 2, 0)) := ⟨by decide, (iq_mt5 (i := 152) rfl rfl), (iq_mt5 (i := 153) rfl rfl), (iq_mt5 (i := 154) rfl rfl), by decide +kernel⟩
theorem iq_m11_30 : iq_mok 11 (174, (335, 3, 1)) := ⟨by decide, (iq_mt5 (i := 157) rfl rfl), (iq_mt5 (i := 158) rfl rfl), by decide +kernel⟩
theorem iq_m11_31 : iq_mok 11 (46, (163, 1, 0)) := ⟨by decide, (iq_mt5 (i := 160) rfl rfl), (iq_mt5 (i := 161) rfl rfl), (iq_mt5 (i := 162) rfl rfl), by decide +kernel⟩
theorem iq_m11_32 : iq_mok 11 (177, (336, 4, 1)) := ⟨by decide, (iq_mt5 (i := 172) rfl rfl), (iq_mt5 (i := 173) rfl rfl), by decide +kernel⟩
theorem iq_m11_33 : iq_mok 11 (49, (164, 2, 0)) := ⟨by decide, (iq_mt5 (i := 175) rfl rfl), (iq_mt5 (i := 176) rfl rfl), (iq_mt5 (i := 177) rfl rfl), by decide +kernel⟩
theorem iq_m11_34 : iq_mok 11 (180, (337, 3, 1)) := ⟨by decide, (iq_mt5 (i := 205) rfl rfl), (iq_mt5 (i := 206) rfl rfl), by decide +kernel⟩
theorem iq_m11_35 : iq_mok 11 (52, (165, 1, 0)) := ⟨by decide, (iq_mt5 (i := 208) rfl rfl), (iq_mt5 (i := 209) rfl rfl), (iq_mt5 (i := 210) rfl rfl), by decide +kernel⟩
theorem iq_m11_36 : iq_mok 11 (183, (338, 5, 1)) := ⟨by decide, (iq_mt5 (i := 216) rfl rfl), (iq_mt5 (i := 217) rfl rfl), by decide +kernel⟩
theorem iq_m11_37 : iq_mok 11 (55, (166, 3, 0)) := ⟨by decide, (iq_mt5 (i := 219) rfl rfl), (iq_mt5 (i := 220) rfl rfl), (iq_mt5 (i := 221) rfl rfl), by decide +kernel⟩
theorem iq_m11_38 : iq_mok 11 (187, (339, 4, 1)) := ⟨by decide, (iq_mt5 (i := 233) rfl rfl), (iq_mt5 (i := 234) rfl rfl), by decide +kernel⟩
theorem iq_m11_39 : iq_mok 11 (59, (167, 2, 0)) := ⟨by decide, (iq_mt5 (i := 236) rfl rfl), (iq_mt5 (i := 237) rfl rfl), (iq_mt5 (i := 238) rfl rfl), by decide +kernel⟩
theorem iq_m11_40 : iq_mok 11 (190, (340, 5, 1)) := ⟨by decide, (iq_mt6 (i := 17) rfl rfl), (iq_mt6 (i := 18) rfl rfl), by decide +kernel⟩
theorem iq_m11_41 : iq_mok 11 (62, (168, 3, 0)) := ⟨by decide, (iq_mt6 (i := 20) rfl rfl), (iq_mt6 (i := 21) rfl rfl), (iq_mt6 (i := 22) rfl rfl), by decide +kernel⟩
theorem iq_m11_42 : iq_mok 11 (197, (341, 6, 1)) := ⟨by decide, (iq_mt6 (i := 60) rfl rfl), (iq_mt6 (i := 61) rfl rfl), by decide +kernel⟩
theorem iq_m11_43 : iq_mok 11 (65, (170, 4, 0)) := ⟨by decide, (iq_mt6 (i := 63) rfl rfl), (iq_mt6 (i := 64) rfl rfl), (iq_mt6 (i := 65) rfl rfl), by decide +kernel⟩
theorem iq_m11_44 : iq_mok 11 (201, (342, 4, 1)) := ⟨by decide, (iq_mt6 (i := 86) rfl rfl), (iq_mt6 (i := 87) rfl rfl), by decide +kernel⟩
theorem iq_m11_45 : iq_mok 11 (69, (171, 2, 0)) := ⟨by decide, (iq_mt6 (i := 89) rfl rfl), (iq_mt6 (i := 90) rfl rfl), (iq_mt6 (i := 91) rfl rfl), by decide +kernel⟩
theorem iq_m11_46 : iq_mok 11 (208, (343, 3, 1)) := ⟨by decide, (iq_mt6 (i := 97) rfl rfl), (iq_mt6 (i := 98) rfl rfl), by decide +kernel⟩
theorem iq_m11_47 : iq_mok 11 (72, (173, 1, 0)) := ⟨by decide, (iq_mt6 (i := 100) rfl rfl), (iq_mt6 (i := 101) rfl rfl), (iq_mt6 (i := 102) rfl rfl), by decide +kernel⟩
theorem iq_m11_48 : iq_mok 11 (211, (344, 3, 1)) := ⟨by decide, (iq_mt6 (i := 116) rfl rfl), (iq_mt6 (i := 117) rfl rfl), by decide +kernel⟩
theorem iq_m11_49 : iq_mok 11 (75, (174, 1, 0)) := ⟨by decide, (iq_mt6 (i := 119) rfl rfl), (iq_mt6 (i := 120) rfl rfl), (iq_mt6 (i := 121) rfl rfl), by decide +kernel⟩
theorem iq_m11_50 : iq_mok 11 (214, (345, 4, 1)) := ⟨by decide, (iq_mt6 (i := 128) rfl rfl), (iq_mt6 (i := 129) rfl rfl), by decide +kernel⟩
theorem iq_m11_51 : iq_mok 11 (78, (175, 2, 0)) := ⟨by decide, (iq_mt6 (i := 131) rfl rfl), (iq_mt6 (i := 132) rfl rfl), (iq_mt6 (i := 133) rfl rfl), by decide +kernel⟩
theorem iq_m11_52 : iq_mok 11 (221, (346, 4, 1)) := ⟨by decide, (iq_mt6 (i := 136) rfl rfl), (iq_mt6 (i := 137) rfl rfl), by decide +kernel⟩
theorem iq_m11_53 : iq_mok 11 (81, (177, 2, 0)) := ⟨by decide, (iq_mt6 (i := 139) rfl rfl), (iq_mt6 (i := 140) rfl rfl), (iq_mt6 (i := 141) rfl rfl), by decide +kernel⟩
theorem iq_m11_54 : iq_mok 11 (224, (347, 5, 1)) := ⟨by decide, (iq_mt6 (i := 156) rfl rfl), (iq_mt6 (i := 157) rfl rfl), by decide +kernel⟩
theorem iq_m11_55 : iq_mok 11 (84, (178, 3, 0)) := ⟨by decide, (iq_mt6 (i := 159) rfl rfl), (iq_mt6 (i := 160) rfl rfl), (iq_mt6 (i := 161) rfl rfl), by decide +kernel⟩
theorem iq_m11_56 : iq_mok 11 (227, (348, 3, 1)) := ⟨by decide, (iq_mt6 (i := 181) rfl rfl), (iq_mt6 (i := 182) rfl rfl), by decide +kernel⟩
theorem iq_m11_57 : iq_mok 11 (87, (179, 1, 0)) := ⟨by decide, (iq_mt6 (i := 184) rfl rfl), (iq_mt6 (i := 185) rfl rfl), (iq_mt6 (i := 186) rfl rfl), by decide +kernel⟩
theorem iq_m11_58 : iq_mok 11 (230, (349, 3, 1)) := ⟨by decide, (iq_mt6 (i := 193) rfl rfl), (iq_mt6 (i := 194) rfl rfl), by decide +kernel⟩
theorem iq_m11_59 : iq_mok 11 (90, (180, 1, 0)) := ⟨by decide, (iq_mt6 (i := 196) rfl rfl), (iq_mt6 (i := 197) rfl rfl), (iq_mt6 (i := 198) rfl rfl), by decide +kernel⟩
theorem iq_m11_60 : iq_mok 11 (233, (350, 4, 1)) := ⟨by decide, (iq_mt6 (i := 208) rfl rfl), (iq_mt6 (i := 209) rfl rfl), by decide +kernel⟩
theorem iq_m11_61 : iq_mok 11 (93, (181, 2, 0)) := ⟨by decide, (iq_mt6 (i := 211) rfl rfl), (iq_mt6 (i := 212) rfl rfl), (iq_mt6 (i := 213) rfl rfl), by decide +kernel⟩
theorem iq_m11_62 : iq_mok 11 (236, (351, 4, 1)) := ⟨by decide, (iq_mt6 (i := 219) rfl rfl), (iq_mt6 (i := 220) rfl rfl), by decide +kernel⟩
theorem iq_m11_63 : iq_mok 11 (96, (182, 2, 0)) := ⟨by decide, (iq_mt6 (i := 222) rfl rfl), (iq_mt6 (i := 223) rfl rfl), (iq_mt6 (i := 224) rfl rfl), by decide +kernel⟩
theorem iq_m11_64 : iq_mok 11 (239, (352, 4, 1)) := ⟨by decide, (iq_mt6 (i := 230) rfl rfl), (iq_mt6 (i := 231) rfl rfl), by decide +kernel⟩
theorem iq_m11_65 : iq_mok 11 (99, (183, 2, 0)) := ⟨by decide, (iq_mt6 (i := 233) rfl rfl), (iq_mt6 (i := 234) rfl rfl), (iq_mt6 (i := 235) rfl rfl), by decide +kernel⟩
theorem iq_m11_66 : iq_mok 11 (242, (353, 5, 1)) := ⟨by decide, (iq_mt7 (i := 23) rfl rfl), (iq_mt7 (i := 24) rfl rfl), by decide +kernel⟩
theorem iq_m11_67 : iq_mok 11 (102, (184, 3, 0)) := ⟨by decide, (iq_mt7 (i := 26) rfl rfl), (iq_mt7 (i := 27) rfl rfl), (iq_mt7 (i := 28) rfl rfl), by decide +kernel⟩
theorem iq_m11_68 : iq_mok 11 (245, (354, 3, 1)) := ⟨by decide, (iq_mt7 (i := 43) rfl rfl), (iq_mt7 (i := 44) rfl rfl), by decide +kernel⟩
theorem iq_m11_69 : iq_mok 11 (105, (185, 1, 0)) := ⟨by decide, (iq_mt7 (i := 46) rfl rfl), (iq_mt7 (i := 47) rfl rfl), (iq_mt7 (i := 48) rfl rfl), by decide +kernel⟩
theorem iq_m11_70 : iq_mok 11 (248, (355, 4, 1)) := ⟨by decide, (iq_mt7 (i := 51) rfl rfl), (iq_mt7 (i := 52) rfl rfl), by decide +kernel⟩
theorem iq_m11_71 : iq_mok 11 (108, (186, 2, 0)) := ⟨by decide, (iq_mt7 (i := 54) rfl rfl), (iq_mt7 (i := 55) rfl rfl), (iq_mt7 (i := 56) rfl rfl), by decide +kernel⟩
theorem iq_m11_72 : iq_mok 11 (251, (356, 3, 1)) := ⟨by decide, (iq_mt7 (i := 59) rfl rfl), (iq_mt7 (i := 60) rfl rfl), by decide +kernel⟩
theorem iq_m11_73 : iq_mok 11 (111, (187, 1, 0)) := ⟨by decide, (iq_mt7 (i := 62) rfl rfl), (iq_mt7 (i := 63) rfl rfl), (iq_mt7 (i := 64) rfl rfl), by decide +kernel⟩
theorem iq_m11_74 : iq_mok 11 (117, (199, 0, 2)) := ⟨by decide, Or.inl (iq_mt7 (i := 69) rfl rfl), (iq_mt7 (i := 70) rfl rfl), rfl, rfl, rfl, by decide +kernel⟩
theorem iq_m11_75 : iq_mok 11 (129, (200, 0, 0)) := ⟨by decide, (iq_mt8 (i := 57) rfl rfl), (iq_mt8 (i := 58) rfl rfl), (iq_mt8 (i := 59) rfl rfl), by decide +kernel⟩
theorem iq_m11_76 : iq_mok 11 (122, (205, 5, 0)) := ⟨by decide, (iq_mt8 (i := 61) rfl rfl), (iq_mt8 (i := 62) rfl rfl), (iq_mt8 (i := 63) rfl rfl), by decide +kernel⟩
theorem iq_m11_77 : iq_mok 11 (128, (238, 1, 0)) := ⟨by decide, (iq_mt8 (i := 69) rfl rfl), (iq_mt8 (i := 70) rfl rfl), (iq_mt8 (i := 71) rfl rfl), by decide +kernel⟩
theorem iq_m11_78 : iq_mok 11 (136, (239, 0, 0)) := ⟨by decide, (iq_mt8 (i := 200) rfl rfl), (iq_mt8 (i := 201) rfl rfl), (iq_mt8 (i := 202) rfl rfl), by decide +kernel⟩
theorem iq_m11_79 : iq_mok 11 (173, (242, 0, 0)) := ⟨by decide, (iq_mt8 (i := 204) rfl rfl), (iq_mt8 (i := 205) rfl rfl), (iq_mt8 (i := 206) rfl rfl), by decide +kernel⟩
theorem iq_m11_80 : iq_mok 11 (139, (249, 1, 0)) := ⟨by decide, (iq_mt8 (i := 208) rfl rfl), (iq_mt8 (i := 209) rfl rfl), (iq_mt8 (i := 210) rfl rfl), by decide +kernel⟩
theorem iq_m11_81 : iq_mok 11 (143, (254, 2, 0)) := ⟨by decide, (iq_mt8 (i := 239) rfl rfl), (iq_mt9 (i := 0) rfl rfl), (iq_mt9 (i := 1) rfl rfl), by decide +kernel⟩
theorem iq_m11_82 : iq_mok 11 (146, (255, 1, 0)) := ⟨by decide, (iq_mt9 (i := 7) rfl rfl), (iq_mt9 (i := 8) rfl rfl), (iq_mt9 (i := 9) rfl rfl), by decide +kernel⟩
theorem iq_m11_83 : iq_mok 11 (149, (256, 2, 0)) := ⟨by decide, (iq_mt9 (i := 11) rfl rfl), (iq_mt9 (i := 12) rfl rfl), (iq_mt9 (i := 13) rfl rfl), by decide +kernel⟩
theorem iq_m11_84 : iq_mok 11 (152, (257, 2, 0)) := ⟨by decide, (iq_mt9 (i := 23) rfl rfl), (iq_mt9 (i := 24) rfl rfl), (iq_mt9 (i := 25) rfl rfl), by decide +kernel⟩
theorem iq_m11_85 : iq_mok 11 (155, (264, 1, 0)) := ⟨by decide, (iq_mt9 (i := 31) rfl rfl), (iq_mt9 (i := 32) rfl rfl), (iq_mt9 (i := 33) rfl rfl), by decide +kernel⟩
theorem iq_m11_86 : iq_mok 11 (158, (266, 2, 0)) := ⟨by decide, (iq_mt9 (i := 58) rfl rfl), (iq_mt9 (i := 59) rfl rfl), (iq_mt9 (i := 60) rfl rfl), by decide +kernel⟩
theorem iq_m11_87 : iq_mok 11 (162, (267, 3, 0)) := ⟨by decide, (iq_mt9 (i := 74) rfl rfl), (iq_mt9 (i := 75) rfl rfl), (iq_mt9 (i := 76) rfl rfl), by decide +kernel⟩
theorem iq_m11_88 : iq_mok 11 (165, (268, 2, 0)) := ⟨by decide, (iq_mt9 (i := 78) rfl rfl), (iq_mt9 (i := 79) rfl rfl), (iq_mt9 (i := 80) rfl rfl), by decide +kernel⟩
theorem iq_m11_89 : iq_mok 11 (169, (269, 0, 0)) := ⟨by decide, (iq_mt9 (i := 82) rfl rfl), (iq_mt9 (i := 83) rfl rfl), (iq_mt9 (i := 84) rfl rfl), by decide +kernel⟩
theorem iq_m11_90 : iq_mok 11 (176, (273, 1, 0)) := ⟨by decide, (iq_mt9 (i := 86) rfl rfl), (iq_mt9 (i := 87) rfl rfl), (iq_mt9 (i := 88) rfl rfl), by decide +kernel⟩
theorem iq_m11_91 : iq_mok 11 (179, (275, 2, 0)) := ⟨by decide, (iq_mt9 (i := 102) rfl rfl), (iq_mt9 (i := 103) rfl rfl), (iq_mt9 (i := 104) rfl rfl), by decide +kernel⟩
theorem iq_m11_92 : iq_mok 11 (182, (276, 1, 0)) := ⟨by decide, (iq_mt9 (i := 110) rfl rfl), (iq_mt9 (i := 111) rfl rfl), (iq_mt9 (i := 112) rfl rfl), by decide +kernel⟩
theorem iq_m11_93 : iq_mok 11 (186, (277, 3, 0)) := ⟨by decide, (iq_mt9 (i := 114) rfl rfl), (iq_mt9 (i := 115) rfl rfl), (iq_mt9 (i := 116) rfl rfl), by decide +kernel⟩
theorem iq_m11_94 : iq_mok 11 (189, (279, 2, 0)) := ⟨by decide, (iq_mt9 (i := 118) rfl rfl), (iq_mt9 (i := 119) rfl rfl), (iq_mt9 (i := 120) rfl rfl), by decide +kernel⟩
theorem iq_m11_95 : iq_mok 11 (192, (280, 3, 0)) := ⟨by decide, (iq_mt9 (i := 126) rfl rfl), (iq_mt9 (i := 127) rfl rfl), (iq_mt9 (i := 128) rfl rfl), by decide +kernel⟩
theorem iq_m11_96 : iq_mok 11 (196, (281, 0, 0)) := ⟨by decide, (iq_mt9 (i := 131) rfl rfl), (iq_mt9 (i := 132) rfl rfl), (iq_mt9 (i := 133) rfl rfl), by decide +kernel⟩
theorem iq_m11_97 : iq_mok 11 (200, (286, 4, 0)) := ⟨by decide, (iq_mt9 (i := 138) rfl rfl), (iq_mt9 (i := 139) rfl rfl), (iq_mt9 (i := 140) rfl rfl), by decide +kernel⟩
theorem iq_m11_98 : iq_mok 11 (203, (287, 2, 0)) := ⟨by decide, (iq_mt9 (i := 157) rfl rfl), (iq_mt9 (i := 158) rfl rfl), (iq_mt9 (i := 159) rfl rfl), by decide +kernel⟩
theorem iq_m11_99 : iq_mok 11 (207, (288, 0, 0)) := ⟨by decide, (iq_mt9 (i := 161) rfl rfl), (iq_mt9 (i := 162) rfl rfl), (iq_mt9 (i := 163) rfl rfl), by decide +kernel⟩
theorem iq_m11_100 : iq_mok 11 (210, (290, 1, 0)) := ⟨by decide, (iq_mt9 (i := 165) rfl rfl), (iq_mt9 (i := 166) rfl rfl), (iq_mt9 (i := 167) rfl rfl), by decide +kernel⟩
theorem iq_m11_101 : iq_mok 11 (213, (291, 1, 0)) := ⟨by decide, (iq_mt9 (i := 173) rfl rfl), (iq_mt9 (i := 174) rfl rfl), (iq_mt9 (i := 175) rfl rfl), by decide +kernel⟩
theorem iq_m11_102 : iq_mok 11 (216, (293, 2, 0)) := ⟨by decide, (iq_mt9 (i := 177) rfl rfl), (iq_mt9 (i := 178) rfl rfl), (iq_mt9 (i := 179) rfl rfl), by decide +kernel⟩
theorem iq_m11_103 : iq_mok 11 (220, (294, 0, 0)) := ⟨by decide, (iq_mt9 (i := 185) rfl rfl), (iq_mt9 (i := 186) rfl rfl), (iq_mt9 (i := 187) rfl rfl), by decide +kernel⟩
theorem iq_m11_104 : iq_mok 11 (223, (295, 2, 0)) := ⟨by decide, (iq_mt9 (i := 189) rfl rfl), (iq_mt9 (i := 190) rfl rfl), (iq_mt9 (i := 191) rfl rfl), by decide +kernel⟩
theorem iq_m11_105 : iq_mok 11 (229, (296, 1, 0)) := ⟨by decide, (iq_mt9 (i := 193) rfl rfl), (iq_mt9 (i := 194) rfl rfl), (iq_mt9 (i := 195) rfl rfl), by decide +kernel⟩
theorem iq_m11_106 : iq_mok 11 (232, (298, 1, 0)) := ⟨by decide, (iq_mt9 (i := 197) rfl rfl), (iq_mt9 (i := 198) rfl rfl), (iq_mt9 (i := 199) rfl rfl), by decide +kernel⟩
theorem iq_m11_107 : iq_mok 11 (235, (299, 2, 0)) := ⟨by decide, (iq_mt9 (i := 205) rfl rfl), (iq_mt9 (i := 206) rfl rfl), (iq_mt9 (i := 207) rfl rfl), by decide +kernel⟩
theorem iq_m11_108 : iq_mok 11 (238, (300, 2, 0)) := ⟨by decide, (iq_mt9 (i := 209) rfl rfl), (iq_mt9 (i := 210) rfl rfl), (iq_mt9 (i := 211) rfl rfl), by decide +kernel⟩
theorem iq_m11_109 : iq_mok 11 (241, (302, 2, 0)) := ⟨by decide, (iq_mt9 (i := 213) rfl rfl), (iq_mt9 (i := 214) rfl rfl), (iq_mt9 (i := 215) rfl rfl), by decide +kernel⟩
theorem iq_m11_110 : iq_mok 11 (244, (303, 3, 0)) := ⟨by decide, (iq_mt9 (i := 221) rfl rfl), (iq_mt9 (i := 222) rfl rfl), (iq_mt9 (i := 223) rfl rfl), by decide +kernel⟩
theorem iq_m11_111 : iq_mok 11 (247, (304, 1, 0)) := ⟨by decide, (iq_mt9 (i := 225) rfl rfl), (iq_mt9 (i := 226) rfl rfl), (iq_mt9 (i := 227) rfl rfl), by decide +kernel⟩
theorem iq_m11_112 : iq_mok 11 (250, (305, 2, 0)) := ⟨by decide, (iq_mt9 (i := 229) rfl rfl), (iq_mt9 (i := 230) rfl rfl), (iq_mt9 (i := 231) rfl rfl), by decide +kernel⟩
theorem iq_m11_113 : iq_mok 11 (253, (306, 1, 0)) := ⟨by decide, (iq_mt9 (i := 233) rfl rfl), (iq_mt9 (i := 234) rfl rfl), (iq_mt9 (i := 235) rfl rfl), by decide +kernel⟩
theorem iq_m11_114 : iq_mok 11 (226, (308, 3, 0)) := ⟨by decide, (iq_mt9 (i := 237) rfl rfl), (iq_mt9 (i := 238) rfl rfl), (iq_mt9 (i := 239) rfl rfl), by decide +kernel⟩
theorem iq_m11_115 : iq_mok 11 (257, (309, 0, 0)) := ⟨by decide, (iq_mt10 (i := 6) rfl rfl), (iq_mt10 (i := 7) rfl rfl), (iq_mt10 (i := 8) rfl rfl), by decide +kernel⟩
theorem iq_m11_116 : iq_mok 11 (262, (310, 0, 0)) := ⟨by decide, (iq_mt10 (i := 10) rfl rfl), (iq_mt10 (i := 11) rfl rfl), (iq_mt10 (i := 12) rfl rfl), by decide +kernel⟩
theorem iq_mds_11 : ∀ e ∈ iq_mds 11, iq_mok 11 e := List.forall_mem_cons.mpr ⟨iq_m11_0, List.forall_mem_cons.mpr ⟨iq_m11_1, List.forall_mem_cons.mpr ⟨iq_m11_2, List.forall_mem_cons.mpr ⟨iq_m11_3, List.forall_mem_cons.mpr ⟨iq_m11_4, List.forall_mem_cons.mpr ⟨iq_m11_5, List.forall_mem_cons.mpr ⟨iq_m11_6, List.forall_mem_cons.mpr ⟨iq_m11_7, List.forall_mem_cons.mpr ⟨iq_m11_8, List.forall_mem_cons.mpr ⟨iq_m11_9, List.forall_mem_cons.mpr ⟨iq_m11_10, List.forall_mem_cons.mpr ⟨iq_m11_11, List.forall_mem_cons.mpr ⟨iq_m11_12, List.forall_mem_cons.mpr ⟨iq_m11_13, List.forall_mem_cons.mpr ⟨iq_m11_14, List.forall_mem_cons.mpr ⟨iq_m11_15, List.forall_mem_cons.mpr ⟨iq_m11_16, List.forall_mem_cons.mpr ⟨iq_m11_17, List.forall_mem_cons.mpr ⟨iq_m11_18, List.forall_mem_cons.mpr ⟨iq_m11_19, List.forall_mem_cons.mpr ⟨iq_m11_20, List.forall_mem_cons.mpr ⟨iq_m11_21, List.forall_mem_cons.mpr ⟨iq_m11_22, List.forall_mem_cons.mpr ⟨iq_m11_23, List.forall_mem_cons.mpr ⟨iq_m11_24, List.forall_mem_cons.mpr ⟨iq_m11_25, List.forall_mem_cons.mpr ⟨iq_m11_26, List.forall_mem_cons.mpr ⟨iq_m11_27, List.forall_mem_cons.mpr ⟨iq_m11_28, List.forall_mem_cons.mpr ⟨iq_m11_29, List.forall_mem_cons.mpr ⟨iq_m11_30, List.forall_mem_cons.mpr ⟨iq_m11_31, List.forall_mem_cons.mpr ⟨iq_m11_32, List.forall_mem_cons.mpr ⟨iq_m11_33, List.forall_mem_cons.mpr ⟨iq_m11_34, List.forall_mem_cons.mpr ⟨iq_m11_35, List.forall_mem_cons.mpr ⟨iq_m11_36, List.forall_mem_cons.mpr ⟨iq_m11_37, List.forall_mem_cons.mpr ⟨iq_m11_38, List.forall_mem_cons.mpr ⟨iq_m11_39, List.forall_mem_cons.mpr ⟨iq_m11_40, List.forall_mem_cons.mpr ⟨iq_m11_41, List.forall_mem_cons.mpr ⟨iq_m11_42, List.forall_mem_cons.mpr ⟨iq_m11_43, List.forall_mem_cons.mpr ⟨iq_m11_44, List.forall_mem_cons.mpr ⟨iq_m11_45, List.forall_mem_cons.mpr ⟨iq_m11_46, List.forall_mem_cons.mpr ⟨iq_m11_47, List.forall_mem_cons.mpr ⟨iq_m11_48, List.forall_mem_cons.mpr ⟨iq_m11_49, List.forall_mem_cons.mpr ⟨iq_m11_50, List.forall_mem_cons.mpr ⟨iq_m11_51, List.forall_mem_cons.mpr ⟨iq_m11_52, List.forall_mem_cons.mpr ⟨iq_m11_53, List.forall_mem_cons.mpr ⟨iq_m11_54, List.forall_mem_cons.mpr ⟨iq_m11_55, List.forall_mem_cons.mpr ⟨iq_m11_56, List.forall_mem_cons.mpr ⟨iq_m11_57, List.forall_mem_cons.mpr ⟨iq_m11_58, List.forall_mem_cons.mpr ⟨iq_m11_59, List.forall_mem_cons.mpr ⟨iq_m11_60, List.forall_mem_cons.mpr ⟨iq_m11_61, List.forall_mem_cons.mpr ⟨iq_m11_62, List.forall_mem_cons.mpr ⟨iq_m11_63, List.forall_mem_cons.mpr ⟨iq_m11_64, List.forall_mem_cons.mpr ⟨iq_m11_65, List.forall_mem_cons.mpr ⟨iq_m11_66, List.forall_mem_cons.mpr ⟨iq_m11_67, List.forall_mem_cons.mpr ⟨iq_m11_68, List.forall_mem_cons.mpr ⟨iq_m11_69, List.forall_mem_cons.mpr ⟨iq_m11_70, List.forall_mem_cons.mpr ⟨iq_m11_71, List.forall_mem_cons.mpr ⟨iq_m11_72, List.forall_mem_cons.mpr ⟨iq_m11_73, List.forall_mem_cons.mpr ⟨iq_m11_74, List.forall_mem_cons.mpr ⟨iq_m11_75, List.forall_mem_cons.mpr ⟨iq_m11_76, List.forall_mem_cons.mpr ⟨iq_m11_77, List.forall_mem_cons.mpr ⟨iq_m11_78, List.forall_mem_cons.mpr ⟨iq_m11_79, List.forall_mem_cons.mpr ⟨iq_m11_80, List.forall_mem_cons.mpr ⟨iq_m11_81, List.forall_mem_cons.mpr ⟨iq_m11_82, List.forall_mem_cons.mpr ⟨iq_m11_83, List.forall_mem_cons.mpr ⟨iq_m11_84, List.forall_mem_cons.mpr ⟨iq_m11_85, List.forall_mem_cons.mpr ⟨iq_m11_86, List.forall_mem_cons.mpr ⟨iq_m11_87, List.forall_mem_cons.mpr ⟨iq_m11_88, List.forall_mem_cons.mpr ⟨iq_m11_89, List.forall_mem_cons.mpr ⟨iq_m11_90, List.forall_mem_cons.mpr ⟨iq_m11_91, List.forall_mem_cons.mpr ⟨iq_m11_92, List.forall_mem_cons.mpr ⟨iq_m11_93, List.forall_mem_cons.mpr ⟨iq_m11_94, List.forall_mem_cons.mpr ⟨iq_m11_95, List.forall_mem_cons.mpr ⟨iq_m11_96, List.forall_mem_cons.mpr ⟨iq_m11_97, List.forall_mem_cons.mpr ⟨iq_m11_98, List.forall_mem_cons.mpr ⟨iq_m11_99, List.forall_mem_cons.mpr ⟨iq_m11_100, List.forall_mem_cons.mpr ⟨iq_m11_101, List.forall_mem_cons.mpr ⟨iq_m11_102, List.forall_mem_cons.mpr ⟨iq_m11_103, List.forall_mem_cons.mpr ⟨iq_m11_104, List.forall_mem_cons.mpr ⟨iq_m11_105, List.forall_mem_cons.mpr ⟨iq_m11_106, List.forall_mem_cons.mpr ⟨iq_m11_107, List.forall_mem_cons.mpr ⟨iq_m11_108, List.forall_mem_cons.mpr ⟨iq_m11_109, List.forall_mem_cons.mpr ⟨iq_m11_110, List.forall_mem_cons.mpr ⟨iq_m11_111, List.forall_mem_cons.mpr ⟨iq_m11_112, List.forall_mem_cons.mpr ⟨iq_m11_113, List.forall_mem_cons.mpr ⟨iq_m11_114, List.forall_mem_cons.mpr ⟨iq_m11_115, List.forall_mem_cons.mpr ⟨iq_m11_116, fun _ h => absurd h List.not_mem_nil⟩⟩⟩⟩⟩⟩⟩⟩⟩⟩⟩⟩⟩⟩⟩⟩⟩⟩⟩⟩⟩⟩⟩⟩⟩⟩⟩⟩⟩⟩⟩⟩⟩⟩⟩⟩⟩⟩⟩⟩⟩⟩⟩⟩⟩⟩⟩⟩⟩⟩⟩⟩⟩⟩⟩⟩⟩⟩⟩⟩⟩⟩⟩⟩⟩⟩⟩⟩⟩⟩⟩⟩⟩⟩⟩⟩⟩⟩⟩⟩⟩⟩⟩⟩⟩⟩⟩⟩⟩⟩⟩⟩⟩⟩⟩⟩⟩⟩⟩⟩⟩⟩⟩⟩⟩⟩⟩⟩⟩⟩⟩⟩⟩⟩⟩⟩⟩
theorem iq_m14_0 : iq_mok 14 (633, (315, 2, 0)) := ⟨by decide, (iq_mt3 (i := 163) rfl rfl), (iq_mt3 (i := 164) rfl rfl), (iq_mt3 (i := 165) rfl rfl), by decide +kernel⟩
theorem iq_m14_1 : iq_mok 14 (492, (317, 0, 0)) := ⟨by decide, (iq_mt3 (i := 167) rfl rfl), (iq_mt3 (i := 168) rfl rfl), (iq_mt3 (i := 169) rfl rfl), by decide +kernel⟩
theorem iq_m14_2 : iq_mok 14 (505, (312, 0, 0)) := ⟨by decide, (iq_mt3 (i := 173) rfl rfl), (iq_mt3 (i := 174) rfl rfl), (iq_mt3 (i := 175) rfl rfl), by decide +kernel⟩
theorem iq_m14_3 : iq_mok 14 (335, (316, 0, 0)) := ⟨by decide, (iq_mt3 (i := 177) rfl rfl), (iq_mt3 (i := 178) rfl rfl), (iq_mt3 (i := 179) rfl rfl), by decide +kernel⟩
theorem iq_m14_4 : iq_mok 14 (637, (321, 4, 1)) := ⟨by decide, (iq_mt3 (i := 181) rfl rfl), (iq_mt3 (i := 182) rfl rfl), by decide +kernel⟩
theorem iq_m14_5 : iq_mok 14 (495, (319, 2, 1)) := ⟨by decide, (iq_mt4 (i := 17) rfl rfl), (iq_mt4 (i := 18) rfl rfl), by decide +kernel⟩
theorem iq_m14_6 : iq_mok 14 (1059, (324, 3, 1)) := ⟨by decide, (iq_mt4 (i := 23) rfl rfl), (iq_mt4 (i := 24) rfl rfl), by decide +kernel⟩
theorem iq_mds_14 : ∀ e ∈ iq_mds 14, iq_mok 14 e := List.forall_mem_cons.mpr ⟨iq_m14_0, List.forall_mem_cons.mpr ⟨iq_m14_1, List.forall_mem_cons.mpr ⟨iq_m14_2, List.forall_mem_cons.mpr ⟨iq_m14_3, List.forall_mem_cons.mpr ⟨iq_m14_4, List.forall_mem_cons.mpr ⟨iq_m14_5, List.forall_mem_cons.mpr ⟨iq_m14_6, fun _ h => absurd h List.not_mem_nil⟩⟩⟩⟩⟩⟩⟩
theorem iq_m15_0 : iq_mok 15 (88, (320, 1, 1)) := ⟨by decide, (iq_mt3 (i := 184) rfl rfl), (iq_mt3 (i := 185) rfl rfl), by decide +kernel⟩
theorem iq_m15_1 : iq_mok 15 (92, (0, 2, 7)) := (iq_mt3 (i := 187) rfl rfl)
theorem iq_m15_2 : iq_mok 15 (38, (0, 2, 8)) := (iq_mt3 (i := 190) rfl rfl)
theorem iq_m15_3 : iq_mok 15 (95, (322, 4, 1)) := ⟨by decide, (iq_mt3 (i := 191) rfl rfl), (iq_mt3 (i := 192) rfl rfl), by decide +kernel⟩
theorem iq_m15_4 : iq_mok 15 (9, (318, 2, 1)) := ⟨by decide, (iq_mt4 (i := 20) rfl rfl), (iq_mt4 (i := 21) rfl rfl), by decide +kernel⟩
theorem iq_mds_15 : ∀ e ∈ iq_mds 15, iq_mok 15 e := List.forall_mem_cons.mpr ⟨iq_m15_0, List.forall_mem_cons.mpr ⟨iq_m15_1, List.forall_mem_cons.mpr ⟨iq_m15_2, List.forall_mem_cons.mpr ⟨iq_m15_3, List.forall_mem_cons.mpr ⟨iq_m15_4, fun _ h => absurd h List.not_mem_nil⟩⟩⟩⟩⟩
theorem iq_mds_ok (ow : Nat) : ∀ e ∈ iq_mds ow, iq_mok ow e := by
    intro e he
    unfold iq_mds at he
    split at he
    · exact iq_mds_0 e he
    · exact iq_mds_1 e he
    · exact iq_mds_2 e he
    · exact iq_mds_3 e he
    · exact iq_mds_4 e he
    · exact iq_mds_5 e he
    · exact iq_mds_6 e he
    · exact iq_mds_7 e he
    · exact iq_mds_8 e he
    · exact iq_mds_9 e he
    · exact iq_mds_10 e he
    · exact iq_mds_11 e he
    · exact iq_mds_14 e he
    · exact iq_mds_15 e he
    · simp at he
