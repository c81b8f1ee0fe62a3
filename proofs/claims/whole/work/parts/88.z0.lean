def M_L_new : jMe := ("FootMaps$Land", prog_3_method_1_code, 1, 4, true)
set_option maxRecDepth 100000 in
theorem ok_L_new : jcdok M_L_new cd_L_new := jcdok_of 115 (by decide +kernel) (fun pc hp => by unfold cd_L_new; rw [j_out hp]; rfl)
set_option maxRecDepth 100000 in
theorem mok_L_new : jMok 1 prog_3_method_1_code 1 (Option.none : Option FieldType) := ⟨List.mem_filter.mpr ⟨List.mem_append_right _ (show _ ∈ tables_1 from List.mem_append_left _ (List.mem_of_getElem? (i := 29) rfl)), rfl⟩, jw_of (z := 116) (by decide +kernel), by decide, Or.inr (Or.inr ⟨by decide +kernel, jw_of (z := 142) (by decide +kernel), by decide +kernel, rfl⟩), by decide +kernel⟩
def M_D_new : jMe := ("FootMaps$Deeds", prog_2_method_1_code, 1, 4, true)
set_option maxRecDepth 100000 in
theorem ok_D_new : jcdok M_D_new cd_D_new := jcdok_of 79 (by decide +kernel) (fun pc hp => by unfold cd_D_new; rw [j_out hp]; rfl)
set_option maxRecDepth 100000 in
theorem mok_D_new : jMok 2 prog_2_method_1_code 1 (Option.none : Option FieldType) := ⟨List.mem_filter.mpr ⟨List.mem_append_right _ (show _ ∈ tables_1 from List.mem_append_left _ (List.mem_of_getElem? (i := 110) rfl)), rfl⟩, jw_of (z := 117) (by decide +kernel), by decide, Or.inr (Or.inr ⟨by decide +kernel, jw_of (z := 223) (by decide +kernel), by decide +kernel, rfl⟩), by decide +kernel⟩
def M_T_new : jMe := ("FootMaps$Text", prog_6_method_1_code, 1, 4, true)
set_option maxRecDepth 100000 in
theorem ok_T_new : jcdok M_T_new cd_T_new := jcdok_of 64 (by decide +kernel) (fun pc hp => by unfold cd_T_new; rw [j_out hp]; rfl)
set_option maxRecDepth 100000 in
theorem mok_T_new : jMok 4 prog_6_method_1_code 1 (Option.none : Option FieldType) := ⟨List.mem_filter.mpr ⟨List.mem_append_right _ (show _ ∈ tables_1 from List.mem_append_left _ (List.mem_of_getElem? (i := 154) rfl)), rfl⟩, jw_of (z := 119) (by decide +kernel), by decide, Or.inr (Or.inr ⟨by decide +kernel, jw_of (z := 267) (by decide +kernel), by decide +kernel, rfl⟩), by decide +kernel⟩
def M_P_new : jMe := ("FootMaps$Reader", prog_4_method_1_code, 1, 4, true)
set_option maxRecDepth 100000 in
theorem ok_P_new : jcdok M_P_new cd_P_new := jcdok_of 89 (by decide +kernel) (fun pc hp => by unfold cd_P_new; rw [j_out hp]; rfl)
set_option maxRecDepth 100000 in
theorem mok_P_new : jMok 3 prog_4_method_1_code 1 (Option.none : Option FieldType) := ⟨List.mem_filter.mpr ⟨List.mem_append_right _ (show _ ∈ tables_1 from List.mem_append_left _ (List.mem_of_getElem? (i := 148) rfl)), rfl⟩, jw_of (z := 118) (by decide +kernel), by decide, Or.inr (Or.inr ⟨by decide +kernel, jw_of (z := 261) (by decide +kernel), by decide +kernel, rfl⟩), by decide +kernel⟩
def M_U_new : jMe := ("FootMaps$Rules", prog_5_method_1_code, 1, 4, true)
set_option maxRecDepth 100000 in
theorem ok_U_new : jcdok M_U_new cd_U_new := jcdok_of 21 (by decide +kernel) (fun pc hp => by unfold cd_U_new; rw [j_out hp]; rfl)
set_option maxRecDepth 100000 in
theorem mok_U_new : jMok 5 prog_5_method_1_code 1 (Option.none : Option FieldType) := ⟨List.mem_filter.mpr ⟨List.mem_append_right _ (show _ ∈ tables_1 from List.mem_append_right _ (List.mem_append_left _ (List.mem_of_getElem? (i := 6) rfl))), rfl⟩, jw_of (z := 120) (by decide +kernel), by decide, Or.inr (Or.inr ⟨by decide +kernel, jw_of (z := 359) (by decide +kernel), by decide +kernel, rfl⟩), by decide +kernel⟩
def M_W_new : jMe := ("FootMaps$Walks", prog_7_method_1_code, 1, 4, true)
set_option maxRecDepth 100000 in
theorem ok_W_new : jcdok M_W_new cd_W_new := jcdok_of 46 (by decide +kernel) (fun pc hp => by unfold cd_W_new; rw [j_out hp]; rfl)
set_option maxRecDepth 100000 in
theorem mok_W_new : jMok 6 prog_7_method_1_code 1 (Option.none : Option FieldType) := ⟨List.mem_filter.mpr ⟨List.mem_append_right _ (show _ ∈ tables_1 from List.mem_append_right _ (List.mem_append_left _ (List.mem_of_getElem? (i := 19) rfl))), rfl⟩, jw_of (z := 121) (by decide +kernel), by decide, Or.inr (Or.inr ⟨by decide +kernel, jw_of (z := 372) (by decide +kernel), by decide +kernel, rfl⟩), by decide +kernel⟩
def M_F_new : jMe := ("FootMaps", prog_1_method_1_code, 1, 4, true)
set_option maxRecDepth 100000 in
theorem ok_F_new : jcdok M_F_new cd_F_new := jcdok_of 147 (by decide +kernel) (fun pc hp => by unfold cd_F_new; rw [j_out hp]; rfl)
set_option maxRecDepth 100000 in
theorem mok_F_new : jMok 0 prog_1_method_1_code 1 (Option.none : Option FieldType) := ⟨List.mem_filter.mpr ⟨List.mem_append_right _ (show _ ∈ tables_1 from List.mem_append_left _ (List.mem_of_getElem? (i := 21) rfl)), rfl⟩, jw_of (z := 115) (by decide +kernel), by decide, Or.inr (Or.inr ⟨by decide +kernel, jw_of (z := 134) (by decide +kernel), by decide +kernel, rfl⟩), by decide +kernel⟩
def M_F_isCell : jMe := ("FootMaps", prog_1_method_56_code, 1, 1, false)
set_option maxRecDepth 100000 in
theorem ok_F_isCell : jcdok M_F_isCell cd_F_isCell := jcdok_of 16 (by decide +kernel) (fun pc hp => by unfold cd_F_isCell; rw [j_out hp]; rfl)
set_option maxRecDepth 100000 in
theorem mok_F_isCell : jMok 9 prog_1_method_56_code 1 (Option.some FieldType.boolean) := ⟨List.mem_filter.mpr ⟨List.mem_append_right _ (show _ ∈ tables_1 from List.mem_append_right _ (List.mem_append_left _ (List.mem_of_getElem? (i := 95) rfl))), rfl⟩, jw_of (z := 115) (by decide +kernel), by decide, Or.inl ⟨by decide +kernel, jw_of (z := 448) (by decide +kernel)⟩, by decide +kernel⟩
def M_F_canLie : jMe := ("FootMaps", prog_1_method_58_code, 3, 1, false)
set_option maxRecDepth 100000 in
theorem ok_F_canLie : jcdok M_F_canLie cd_F_canLie := jcdok_of 32 (by decide +kernel) (fun pc hp => by unfold cd_F_canLie; rw [j_out hp]; rfl)
set_option maxRecDepth 100000 in
theorem mok_F_canLie : jMok 8 prog_1_method_58_code 3 (Option.some FieldType.boolean) := ⟨List.mem_filter.mpr ⟨List.mem_append_right _ (show _ ∈ tables_1 from List.mem_append_right _ (List.mem_append_left _ (List.mem_of_getElem? (i := 92) rfl))), rfl⟩, jw_of (z := 115) (by decide +kernel), by decide, Or.inl ⟨by decide +kernel, jw_of (z := 445) (by decide +kernel)⟩, by decide +kernel⟩
def M_F_refuse : jMe := ("FootMaps", prog_1_method_45_code, 2, 0, false)
set_option maxRecDepth 100000 in
theorem ok_F_refuse : jcdok M_F_refuse cd_F_refuse := jcdok_of 18 (by decide +kernel) (fun pc hp => by unfold cd_F_refuse; rw [j_out hp]; rfl)
set_option maxRecDepth 100000 in
theorem mok_F_refuse : jMok 10 prog_1_method_45_code 2 (Option.some FieldType.int) := ⟨List.mem_filter.mpr ⟨List.mem_append_right _ (show _ ∈ tables_1 from List.mem_append_right _ (List.mem_append_left _ (List.mem_of_getElem? (i := 99) rfl))), rfl⟩, jw_of (z := 115) (by decide +kernel), by decide, Or.inr (Or.inl ⟨by decide +kernel, jw_of (z := 452) (by decide +kernel), jw_of (z := 0) (by decide +kernel)⟩), by decide +kernel⟩
def M_L_lay : jMe := ("FootMaps$Land", prog_3_method_3_code, 4, 4, false)
set_option maxRecDepth 100000 in
theorem ok_L_lay : jcdok M_L_lay cd_L_lay := jcdok_of 15 (by decide +kernel) (fun pc hp => by unfold cd_L_lay; rw [j_out hp]; rfl)
set_option maxRecDepth 100000 in
theorem mok_L_lay : jMok 11 prog_3_method_3_code 4 (Option.none : Option FieldType) := ⟨List.mem_filter.mpr ⟨List.mem_append_right _ (show _ ∈ tables_1 from List.mem_append_right _ (List.mem_append_left _ (List.mem_of_getElem? (i := 103) rfl))), rfl⟩, jw_of (z := 116) (by decide +kernel), by decide, Or.inr (Or.inl ⟨by decide +kernel, jw_of (z := 455) (by decide +kernel), jw_of (z := 456) (by decide +kernel)⟩), by decide +kernel⟩
def M_F_accept : jMe := ("FootMaps", prog_1_method_44_code, 2, 0, false)
set_option maxRecDepth 100000 in
theorem ok_F_accept : jcdok M_F_accept cd_F_accept := jcdok_of 7 (by decide +kernel) (fun pc hp => by unfold cd_F_accept; rw [j_out hp]; rfl)
set_option maxRecDepth 100000 in
theorem mok_F_accept : jMok 12 prog_1_method_44_code 2 (Option.some FieldType.int) := ⟨List.mem_filter.mpr ⟨List.mem_append_right _ (show _ ∈ tables_1 from List.mem_append_right _ (List.mem_append_left _ (List.mem_of_getElem? (i := 107) rfl))), rfl⟩, jw_of (z := 115) (by decide +kernel), by decide, Or.inr (Or.inl ⟨by decide +kernel, jw_of (z := 460) (by decide +kernel), jw_of (z := 1) (by decide +kernel)⟩), by decide +kernel⟩
def M_F_cell : jMe := ("FootMaps", prog_1_method_2_code, 5, 0, false)
set_option maxRecDepth 100000 in
theorem ok_F_cell : jcdok M_F_cell cd_F_cell := jcdok_of 43 (by decide +kernel) (fun pc hp => by unfold cd_F_cell; rw [j_out hp]; rfl)
set_option maxRecDepth 100000 in
theorem mok_F_cell : jMok 7 prog_1_method_2_code 5 (Option.some FieldType.int) := ⟨List.mem_filter.mpr ⟨List.mem_append_right _ (show _ ∈ tables_1 from List.mem_append_right _ (List.mem_append_left _ (List.mem_of_getElem? (i := 89) rfl))), rfl⟩, jw_of (z := 115) (by decide +kernel), by decide, Or.inr (Or.inl ⟨by decide +kernel, jw_of (z := 441) (by decide +kernel), jw_of (z := 442) (by decide +kernel)⟩), by decide +kernel⟩
def M_L_whoIsIn : jMe := ("FootMaps$Land", prog_3_method_9_code, 4, 0, false)
set_option maxRecDepth 100000 in
theorem ok_L_whoIsIn : jcdok M_L_whoIsIn cd_L_whoIsIn := jcdok_of 36 (by decide +kernel) (fun pc hp => by unfold cd_L_whoIsIn; rw [j_out hp]; rfl)
set_option maxRecDepth 100000 in
theorem mok_L_whoIsIn : jMok 14 prog_3_method_9_code 4 (Option.some FieldType.int) := ⟨List.mem_filter.mpr ⟨List.mem_append_right _ (show _ ∈ tables_1 from List.mem_append_right _ (List.mem_append_left _ (List.mem_of_getElem? (i := 115) rfl))), rfl⟩, jw_of (z := 116) (by decide +kernel), by decide, Or.inr (Or.inl ⟨by decide +kernel, jw_of (z := 467) (by decide +kernel), jw_of (z := 468) (by decide +kernel)⟩), by decide +kernel⟩
def M_F_land : jMe := ("FootMaps", prog_1_method_3_code, 3, 0, false)
set_option maxRecDepth 100000 in
theorem ok_F_land : jcdok M_F_land cd_F_land := jcdok_of 67 (by decide +kernel) (fun pc hp => by unfold cd_F_land; rw [j_out hp]; rfl)
set_option maxRecDepth 100000 in
theorem mok_F_land : jMok 13 prog_1_method_3_code 3 (Option.some FieldType.int) := ⟨List.mem_filter.mpr ⟨List.mem_append_right _ (show _ ∈ tables_1 from List.mem_append_right _ (List.mem_append_left _ (List.mem_of_getElem? (i := 111) rfl))), rfl⟩, jw_of (z := 115) (by decide +kernel), by decide, Or.inr (Or.inl ⟨by decide +kernel, jw_of (z := 463) (by decide +kernel), jw_of (z := 464) (by decide +kernel)⟩), by decide +kernel⟩
def M_L_addWalker : jMe := ("FootMaps$Land", prog_3_method_8_code, 3, 4, false)
set_option maxRecDepth 100000 in
theorem ok_L_addWalker : jcdok M_L_addWalker cd_L_addWalker := jcdok_of 61 (by decide +kernel) (fun pc hp => by unfold cd_L_addWalker; rw [j_out hp]; rfl)
set_option maxRecDepth 100000 in
theorem mok_L_addWalker : jMok 16 prog_3_method_8_code 3 (Option.none : Option FieldType) := ⟨List.mem_filter.mpr ⟨List.mem_append_right _ (show _ ∈ tables_1 from List.mem_append_right _ (List.mem_append_left _ (List.mem_of_getElem? (i := 123) rfl))), rfl⟩, jw_of (z := 116) (by decide +kernel), by decide, Or.inr (Or.inl ⟨by decide +kernel, jw_of (z := 475) (by decide +kernel), jw_of (z := 476) (by decide +kernel)⟩), by decide +kernel⟩
def M_D_clear : jMe := ("FootMaps$Deeds", prog_2_method_2_code, 1, 4, false)
set_option maxRecDepth 100000 in
theorem ok_D_clear : jcdok M_D_clear cd_D_clear := jcdok_of 6 (by decide +kernel) (fun pc hp => by unfold cd_D_clear; rw [j_out hp]; rfl)
set_option maxRecDepth 100000 in
theorem mok_D_clear : jMok 17 prog_2_method_2_code 1 (Option.none : Option FieldType) := ⟨List.mem_filter.mpr ⟨List.mem_append_right _ (show _ ∈ tables_1 from List.mem_append_right _ (List.mem_append_left _ (List.mem_of_getElem? (i := 127) rfl))), rfl⟩, jw_of (z := 117) (by decide +kernel), by decide, Or.inr (Or.inl ⟨by decide +kernel, jw_of (z := 479) (by decide +kernel), jw_of (z := 480) (by decide +kernel)⟩), by decide +kernel⟩
def M_F_walker : jMe := ("FootMaps", prog_1_method_4_code, 4, 0, false)
set_option maxRecDepth 100000 in
theorem ok_F_walker : jcdok M_F_walker cd_F_walker := jcdok_of 72 (by decide +kernel) (fun pc hp => by unfold cd_F_walker; rw [j_out hp]; rfl)
set_option maxRecDepth 100000 in
theorem mok_F_walker : jMok 15 prog_1_method_4_code 4 (Option.some FieldType.int) := ⟨List.mem_filter.mpr ⟨List.mem_append_right _ (show _ ∈ tables_1 from List.mem_append_right _ (List.mem_append_left _ (List.mem_of_getElem? (i := 119) rfl))), rfl⟩, jw_of (z := 115) (by decide +kernel), by decide, Or.inr (Or.inl ⟨by decide +kernel, jw_of (z := 471) (by decide +kernel), jw_of (z := 472) (by decide +kernel)⟩), by decide +kernel⟩
def M_L_hasWalker : jMe := ("FootMaps$Land", prog_3_method_4_code, 2, 1, false)
set_option maxRecDepth 100000 in
theorem ok_L_hasWalker : jcdok M_L_hasWalker cd_L_hasWalker := jcdok_of 18 (by decide +kernel) (fun pc hp => by unfold cd_L_hasWalker; rw [j_out hp]; rfl)
set_option maxRecDepth 100000 in
theorem mok_L_hasWalker : jMok 19 prog_3_method_4_code 2 (Option.some FieldType.boolean) := ⟨List.mem_filter.mpr ⟨List.mem_append_right _ (show _ ∈ tables_1 from List.mem_append_right _ (List.mem_append_left _ (List.mem_of_getElem? (i := 135) rfl))), rfl⟩, jw_of (z := 116) (by decide +kernel), by decide, Or.inr (Or.inl ⟨by decide +kernel, jw_of (z := 487) (by decide +kernel), jw_of (z := 488) (by decide +kernel)⟩), by decide +kernel⟩
def M_Ji_bitCount : jMe := ("java/lang/Integer", prog_11_method_49_code, 1, 0, false)
set_option maxRecDepth 100000 in
theorem ok_Ji_bitCount : jcdok M_Ji_bitCount cd_Ji_bitCount := jcdok_of 53 (by decide +kernel) (fun pc hp => by unfold cd_Ji_bitCount; rw [j_out hp]; rfl)
set_option maxRecDepth 100000 in
theorem mok_Ji_bitCount : jMok 20 prog_11_method_49_code 1 (Option.some FieldType.int) := ⟨List.mem_filter.mpr ⟨List.mem_append_right _ (show _ ∈ tables_1 from List.mem_append_right _ (List.mem_append_left _ (List.mem_of_getElem? (i := 138) rfl))), rfl⟩, jw_of (z := 123) (by decide +kernel), by decide, Or.inl ⟨by decide +kernel, jw_of (z := 491) (by decide +kernel)⟩, by decide +kernel⟩
def M_L_hasLaw : jMe := ("FootMaps$Land", prog_3_method_5_code, 2, 1, false)
set_option maxRecDepth 100000 in
theorem ok_L_hasLaw : jcdok M_L_hasLaw cd_L_hasLaw := jcdok_of 18 (by decide +kernel) (fun pc hp => by unfold cd_L_hasLaw; rw [j_out hp]; rfl)
set_option maxRecDepth 100000 in
theorem mok_L_hasLaw : jMok 23 prog_3_method_5_code 2 (Option.some FieldType.boolean) := ⟨List.mem_filter.mpr ⟨List.mem_append_right _ (show _ ∈ tables_1 from List.mem_append_right _ (List.mem_append_left _ (List.mem_of_getElem? (i := 153) rfl))), rfl⟩, jw_of (z := 116) (by decide +kernel), by decide, Or.inr (Or.inl ⟨by decide +kernel, jw_of (z := 505) (by decide +kernel), jw_of (z := 506) (by decide +kernel)⟩), by decide +kernel⟩
def M_L_lawNumbered : jMe := ("FootMaps$Land", prog_3_method_6_code, 2, 3, false)
set_option maxRecDepth 100000 in
theorem ok_L_lawNumbered : jcdok M_L_lawNumbered cd_L_lawNumbered := jcdok_of 19 (by decide +kernel) (fun pc hp => by unfold cd_L_lawNumbered; rw [j_out hp]; rfl)
set_option maxRecDepth 100000 in
theorem mok_L_lawNumbered : jMok 22 prog_3_method_6_code 2 (Option.some (FieldType.object "FootMaps$Text")) := ⟨List.mem_filter.mpr ⟨List.mem_append_right _ (show _ ∈ tables_1 from List.mem_append_right _ (List.mem_append_left _ (List.mem_of_getElem? (i := 149) rfl))), rfl⟩, jw_of (z := 116) (by decide +kernel), by decide, Or.inr (Or.inl ⟨by decide +kernel, jw_of (z := 501) (by decide +kernel), jw_of (z := 502) (by decide +kernel)⟩), by decide +kernel⟩
def M_L_lawInForce : jMe := ("FootMaps$Land", prog_3_method_7_code, 1, 3, false)
set_option maxRecDepth 100000 in
theorem ok_L_lawInForce : jcdok M_L_lawInForce cd_L_lawInForce := jcdok_of 9 (by decide +kernel) (fun pc hp => by unfold cd_L_lawInForce; rw [j_out hp]; rfl)
set_option maxRecDepth 100000 in
theorem mok_L_lawInForce : jMok 21 prog_3_method_7_code 1 (Option.some (FieldType.object "FootMaps$Text")) := ⟨List.mem_filter.mpr ⟨List.mem_append_right _ (show _ ∈ tables_1 from List.mem_append_right _ (List.mem_append_left _ (List.mem_of_getElem? (i := 145) rfl))), rfl⟩, jw_of (z := 116) (by decide +kernel), by decide, Or.inr (Or.inl ⟨by decide +kernel, jw_of (z := 497) (by decide +kernel), jw_of (z := 498) (by decide +kernel)⟩), by decide +kernel⟩
def M_L_knows : jMe := ("FootMaps$Land", prog_3_method_10_code, 3, 1, false)
set_option maxRecDepth 100000 in
theorem ok_L_knows : jcdok M_L_knows cd_L_knows := jcdok_of 20 (by decide +kernel) (fun pc hp => by unfold cd_L_knows; rw [j_out hp]; rfl)
set_option maxRecDepth 100000 in
theorem mok_L_knows : jMok 26 prog_3_method_10_code 3 (Option.some FieldType.boolean) := ⟨List.mem_filter.mpr ⟨List.mem_append_right _ (show _ ∈ tables_1 from List.mem_append_right _ (List.mem_append_left _ (List.mem_of_getElem? (i := 165) rfl))), rfl⟩, jw_of (z := 116) (by decide +kernel), by decide, Or.inr (Or.inl ⟨by decide +kernel, jw_of (z := 517) (by decide +kernel), jw_of (z := 518) (by decide +kernel)⟩), by decide +kernel⟩
def M_U_tellLawWords : jMe := ("FootMaps$Rules", prog_5_method_5_code, 5, 4, false)
set_option maxRecDepth 100000 in
theorem ok_U_tellLawWords : jcdok M_U_tellLawWords cd_U_tellLawWords := jcdok_of 120 (by decide +kernel) (fun pc hp => by unfold cd_U_tellLawWords; rw [j_out hp]; rfl)
set_option maxRecDepth 100000 in
theorem mok_U_tellLawWords : jMok 25 prog_5_method_5_code 5 (Option.none : Option FieldType) := ⟨List.mem_filter.mpr ⟨List.mem_append_right _ (show _ ∈ tables_1 from List.mem_append_right _ (List.mem_append_left _ (List.mem_of_getElem? (i := 161) rfl))), rfl⟩, jw_of (z := 120) (by decide +kernel), by decide, Or.inr (Or.inl ⟨by decide +kernel, jw_of (z := 514) (by decide +kernel), jw_of (z := 2) (by decide +kernel)⟩), by decide +kernel⟩
def M_Jm_max : jMe := ("java/lang/Math", prog_12_method_65_code, 2, 0, false)
set_option maxRecDepth 100000 in
theorem ok_Jm_max : jcdok M_Jm_max cd_Jm_max := jcdok_of 11 (by decide +kernel) (fun pc hp => by unfold cd_Jm_max; rw [j_out hp]; rfl)
set_option maxRecDepth 100000 in
theorem mok_Jm_max : jMok 29 prog_12_method_65_code 2 (Option.some FieldType.int) := ⟨List.mem_filter.mpr ⟨List.mem_append_right _ (show _ ∈ tables_1 from List.mem_append_right _ (List.mem_append_left _ (List.mem_of_getElem? (i := 177) rfl))), rfl⟩, jw_of (z := 124) (by decide +kernel), by decide, Or.inl ⟨by decide +kernel, jw_of (z := 530) (by decide +kernel)⟩, by decide +kernel⟩
def M_U_combined : jMe := ("FootMaps$Rules", prog_5_method_8_code, 7, 2, false)
set_option maxRecDepth 100000 in
theorem ok_U_combined : jcdok M_U_combined cd_U_combined := jcdok_of 180 (by decide +kernel) (fun pc hp => by unfold cd_U_combined; rw [j_out hp]; rfl)
set_option maxRecDepth 100000 in
theorem mok_U_combined : jMok 30 prog_5_method_8_code 7 (Option.some FieldType.long) := ⟨List.mem_filter.mpr ⟨List.mem_append_right _ (show _ ∈ tables_1 from List.mem_append_right _ (List.mem_append_left _ (List.mem_of_getElem? (i := 180) rfl))), rfl⟩, jw_of (z := 120) (by decide +kernel), by decide, Or.inl ⟨by decide +kernel, jw_of (z := 533) (by decide +kernel)⟩, by decide +kernel⟩
def M_U_worth : jMe := ("FootMaps$Rules", prog_5_method_7_code, 10, 2, false)
set_option maxRecDepth 100000 in
theorem ok_U_worth : jcdok M_U_worth cd_U_worth := jcdok_of 310 (by decide +kernel) (fun pc hp => by unfold cd_U_worth; rw [j_out hp]; rfl)
set_option maxRecDepth 100000 in
theorem mok_U_worth : jMok 28 prog_5_method_7_code 10 (Option.some FieldType.long) := ⟨List.mem_filter.mpr ⟨List.mem_append_right _ (show _ ∈ tables_1 from List.mem_append_right _ (List.mem_append_left _ (List.mem_of_getElem? (i := 173) rfl))), rfl⟩, jw_of (z := 120) (by decide +kernel), by decide, Or.inr (Or.inl ⟨by decide +kernel, jw_of (z := 525) (by decide +kernel), jw_of (z := 526) (by decide +kernel)⟩), by decide +kernel⟩
def M_Jm_min : jMe := ("java/lang/Math", prog_12_method_70_code, 4, 2, false)
set_option maxRecDepth 100000 in
theorem ok_Jm_min : jcdok M_Jm_min cd_Jm_min := jcdok_of 12 (by decide +kernel) (fun pc hp => by unfold cd_Jm_min; rw [j_out hp]; rfl)
set_option maxRecDepth 100000 in
theorem mok_Jm_min : jMok 31 prog_12_method_70_code 4 (Option.some FieldType.long) := ⟨List.mem_filter.mpr ⟨List.mem_append_right _ (show _ ∈ tables_1 from List.mem_append_right _ (List.mem_append_left _ (List.mem_of_getElem? (i := 185) rfl))), rfl⟩, jw_of (z := 124) (by decide +kernel), by decide, Or.inl ⟨by decide +kernel, jw_of (z := 538) (by decide +kernel)⟩, by decide +kernel⟩
def M_Jm_max_JJ : jMe := ("java/lang/Math", prog_12_method_66_code, 4, 2, false)
set_option maxRecDepth 100000 in
theorem ok_Jm_max_JJ : jcdok M_Jm_max_JJ cd_Jm_max_JJ := jcdok_of 12 (by decide +kernel) (fun pc hp => by unfold cd_Jm_max_JJ; rw [j_out hp]; rfl)
set_option maxRecDepth 100000 in
theorem mok_Jm_max_JJ : jMok 32 prog_12_method_66_code 4 (Option.some FieldType.long) := ⟨List.mem_filter.mpr ⟨List.mem_append_right _ (show _ ∈ tables_1 from List.mem_append_right _ (List.mem_append_left _ (List.mem_of_getElem? (i := 188) rfl))), rfl⟩, jw_of (z := 124) (by decide +kernel), by decide, Or.inl ⟨by decide +kernel, jw_of (z := 541) (by decide +kernel)⟩, by decide +kernel⟩
def M_U_lastTold : jMe := ("FootMaps$Rules", prog_5_method_6_code, 8, 0, false)
set_option maxRecDepth 100000 in
theorem ok_U_lastTold : jcdok M_U_lastTold cd_U_lastTold := jcdok_of 95 (by decide +kernel) (fun pc hp => by unfold cd_U_lastTold; rw [j_out hp]; rfl)
set_option maxRecDepth 100000 in
theorem mok_U_lastTold : jMok 27 prog_5_method_6_code 8 (Option.some FieldType.int) := ⟨List.mem_filter.mpr ⟨List.mem_append_right _ (show _ ∈ tables_1 from List.mem_append_right _ (List.mem_append_left _ (List.mem_of_getElem? (i := 169) rfl))), rfl⟩, jw_of (z := 120) (by decide +kernel), by decide, Or.inr (Or.inl ⟨by decide +kernel, jw_of (z := 522) (by decide +kernel), jw_of (z := 3) (by decide +kernel)⟩), by decide +kernel⟩
def M_U_sight : jMe := ("FootMaps$Rules", prog_5_method_3_code, 5, 0, false)
set_option maxRecDepth 100000 in
theorem ok_U_sight : jcdok M_U_sight cd_U_sight := jcdok_of 27 (by decide +kernel) (fun pc hp => by unfold cd_U_sight; rw [j_out hp]; rfl)
set_option maxRecDepth 100000 in
theorem mok_U_sight : jMok 24 prog_5_method_3_code 5 (Option.some FieldType.int) := ⟨List.mem_filter.mpr ⟨List.mem_append_right _ (show _ ∈ tables_1 from List.mem_append_right _ (List.mem_append_left _ (List.mem_of_getElem? (i := 157) rfl))), rfl⟩, jw_of (z := 120) (by decide +kernel), by decide, Or.inr (Or.inl ⟨by decide +kernel, jw_of (z := 509) (by decide +kernel), jw_of (z := 510) (by decide +kernel)⟩), by decide +kernel⟩
def M_F_of : jMe := ("FootMaps", prog_1_method_5_code, 3, 0, false)
set_option maxRecDepth 100000 in
theorem ok_F_of : jcdok M_F_of cd_F_of := jcdok_of 136 (by decide +kernel) (fun pc hp => by unfold cd_F_of; rw [j_out hp]; rfl)
set_option maxRecDepth 100000 in
theorem mok_F_of : jMok 18 prog_1_method_5_code 3 (Option.some FieldType.int) := ⟨List.mem_filter.mpr ⟨List.mem_append_right _ (show _ ∈ tables_1 from List.mem_append_right _ (List.mem_append_left _ (List.mem_of_getElem? (i := 131) rfl))), rfl⟩, jw_of (z := 115) (by decide +kernel), by decide, Or.inr (Or.inl ⟨by decide +kernel, jw_of (z := 483) (by decide +kernel), jw_of (z := 484) (by decide +kernel)⟩), by decide +kernel⟩
def M_L_kindOnSheet : jMe := ("FootMaps$Land", prog_3_method_11_code, 3, 0, false)
set_option maxRecDepth 100000 in
theorem ok_L_kindOnSheet : jcdok M_L_kindOnSheet cd_L_kindOnSheet := jcdok_of 29 (by decide +kernel) (fun pc hp => by unfold cd_L_kindOnSheet; rw [j_out hp]; rfl)
set_option maxRecDepth 100000 in
theorem mok_L_kindOnSheet : jMok 34 prog_3_method_11_code 3 (Option.some FieldType.int) := ⟨List.mem_filter.mpr ⟨List.mem_append_right _ (show _ ∈ tables_1 from List.mem_append_right _ (List.mem_append_left _ (List.mem_of_getElem? (i := 196) rfl))), rfl⟩, jw_of (z := 116) (by decide +kernel), by decide, Or.inr (Or.inl ⟨by decide +kernel, jw_of (z := 548) (by decide +kernel), jw_of (z := 549) (by decide +kernel)⟩), by decide +kernel⟩
def M_F_sheet : jMe := ("FootMaps", prog_1_method_6_code, 3, 0, false)
set_option maxRecDepth 100000 in
theorem ok_F_sheet : jcdok M_F_sheet cd_F_sheet := jcdok_of 30 (by decide +kernel) (fun pc hp => by unfold cd_F_sheet; rw [j_out hp]; rfl)
set_option maxRecDepth 100000 in
theorem mok_F_sheet : jMok 33 prog_1_method_6_code 3 (Option.some FieldType.int) := ⟨List.mem_filter.mpr ⟨List.mem_append_right _ (show _ ∈ tables_1 from List.mem_append_right _ (List.mem_append_left _ (List.mem_of_getElem? (i := 192) rfl))), rfl⟩, jw_of (z := 115) (by decide +kernel), by decide, Or.inr (Or.inl ⟨by decide +kernel, jw_of (z := 544) (by decide +kernel), jw_of (z := 545) (by decide +kernel)⟩), by decide +kernel⟩
def M_F_isWayAside : jMe := ("FootMaps", prog_1_method_57_code, 1, 1, false)
set_option maxRecDepth 100000 in
theorem ok_F_isWayAside : jcdok M_F_isWayAside cd_F_isWayAside := jcdok_of 16 (by decide +kernel) (fun pc hp => by unfold cd_F_isWayAside; rw [j_out hp]; rfl)
set_option maxRecDepth 100000 in
theorem mok_F_isWayAside : jMok 36 prog_1_method_57_code 1 (Option.some FieldType.boolean) := ⟨List.mem_filter.mpr ⟨List.mem_append_right _ (show _ ∈ tables_1 from List.mem_append_right _ (List.mem_append_left _ (List.mem_of_getElem? (i := 205) rfl))), rfl⟩, jw_of (z := 115) (by decide +kernel), by decide, Or.inl ⟨by decide +kernel, jw_of (z := 558) (by decide +kernel)⟩, by decide +kernel⟩
def M_F_neighbour : jMe := ("FootMaps", prog_1_method_59_code, 4, 0, false)
set_option maxRecDepth 100000 in
theorem ok_F_neighbour : jcdok M_F_neighbour cd_F_neighbour := jcdok_of 98 (by decide +kernel) (fun pc hp => by unfold cd_F_neighbour; rw [j_out hp]; rfl)
set_option maxRecDepth 100000 in
theorem mok_F_neighbour : jMok 37 prog_1_method_59_code 4 (Option.some FieldType.int) := ⟨List.mem_filter.mpr ⟨List.mem_append_right _ (show _ ∈ tables_1 from List.mem_append_right _ (List.mem_append_left _ (List.mem_of_getElem? (i := 208) rfl))), rfl⟩, jw_of (z := 115) (by decide +kernel), by decide, Or.inl ⟨by decide +kernel, jw_of (z := 561) (by decide +kernel)⟩, by decide +kernel⟩
def M_U_cost : jMe := ("FootMaps$Rules", prog_5_method_2_code, 6, 0, false)
set_option maxRecDepth 100000 in
theorem ok_U_cost : jcdok M_U_cost cd_U_cost := jcdok_of 28 (by decide +kernel) (fun pc hp => by unfold cd_U_cost; rw [j_out hp]; rfl)
set_option maxRecDepth 100000 in
theorem mok_U_cost : jMok 38 prog_5_method_2_code 6 (Option.some FieldType.int) := ⟨List.mem_filter.mpr ⟨List.mem_append_right _ (show _ ∈ tables_1 from List.mem_append_right _ (List.mem_append_left _ (List.mem_of_getElem? (i := 212) rfl))), rfl⟩, jw_of (z := 120) (by decide +kernel), by decide, Or.inr (Or.inl ⟨by decide +kernel, jw_of (z := 564) (by decide +kernel), jw_of (z := 565) (by decide +kernel)⟩), by decide +kernel⟩
def M_U_bars : jMe := ("FootMaps$Rules", prog_5_method_4_code, 7, 1, false)
set_option maxRecDepth 100000 in
theorem ok_U_bars : jcdok M_U_bars cd_U_bars := jcdok_of 72 (by decide +kernel) (fun pc hp => by unfold cd_U_bars; rw [j_out hp]; rfl)
set_option maxRecDepth 100000 in
theorem mok_U_bars : jMok 39 prog_5_method_4_code 7 (Option.some FieldType.boolean) := ⟨List.mem_filter.mpr ⟨List.mem_append_right _ (show _ ∈ tables_1 from List.mem_append_right _ (List.mem_append_left _ (List.mem_of_getElem? (i := 216) rfl))), rfl⟩, jw_of (z := 120) (by decide +kernel), by decide, Or.inr (Or.inl ⟨by decide +kernel, jw_of (z := 568) (by decide +kernel), jw_of (z := 569) (by decide +kernel)⟩), by decide +kernel⟩
def M_F_asks : jMe := ("FootMaps", prog_1_method_7_code, 6, 0, false)
set_option maxRecDepth 100000 in
theorem ok_F_asks : jcdok M_F_asks cd_F_asks := jcdok_of 114 (by decide +kernel) (fun pc hp => by unfold cd_F_asks; rw [j_out hp]; rfl)
set_option maxRecDepth 100000 in
theorem mok_F_asks : jMok 35 prog_1_method_7_code 6 (Option.some FieldType.int) := ⟨List.mem_filter.mpr ⟨List.mem_append_right _ (show _ ∈ tables_1 from List.mem_append_right _ (List.mem_append_left _ (List.mem_of_getElem? (i := 202) rfl))), rfl⟩, jw_of (z := 115) (by decide +kernel), by decide, Or.inr (Or.inl ⟨by decide +kernel, jw_of (z := 554) (by decide +kernel), jw_of (z := 555) (by decide +kernel)⟩), by decide +kernel⟩
def M_F_wants : jMe := ("FootMaps", prog_1_method_8_code, 4, 0, false)
set_option maxRecDepth 100000 in
theorem ok_F_wants : jcdok M_F_wants cd_F_wants := jcdok_of 66 (by decide +kernel) (fun pc hp => by unfold cd_F_wants; rw [j_out hp]; rfl)
set_option maxRecDepth 100000 in
theorem mok_F_wants : jMok 40 prog_1_method_8_code 4 (Option.some FieldType.int) := ⟨List.mem_filter.mpr ⟨List.mem_append_right _ (show _ ∈ tables_1 from List.mem_append_right _ (List.mem_append_left _ (List.mem_of_getElem? (i := 220) rfl))), rfl⟩, jw_of (z := 115) (by decide +kernel), by decide, Or.inr (Or.inl ⟨by decide +kernel, jw_of (z := 572) (by decide +kernel), jw_of (z := 573) (by decide +kernel)⟩), by decide +kernel⟩
def M_F_terms : jMe := ("FootMaps", prog_1_method_9_code, 4, 0, false)
set_option maxRecDepth 100000 in
theorem ok_F_terms : jcdok M_F_terms cd_F_terms := jcdok_of 61 (by decide +kernel) (fun pc hp => by unfold cd_F_terms; rw [j_out hp]; rfl)
set_option maxRecDepth 100000 in
theorem mok_F_terms : jMok 41 prog_1_method_9_code 4 (Option.some FieldType.int) := ⟨List.mem_filter.mpr ⟨List.mem_append_right _ (show _ ∈ tables_1 from List.mem_append_right _ (List.mem_append_left _ (List.mem_of_getElem? (i := 225) rfl))), rfl⟩, jw_of (z := 115) (by decide +kernel), by decide, Or.inr (Or.inl ⟨by decide +kernel, jw_of (z := 577) (by decide +kernel), jw_of (z := 578) (by decide +kernel)⟩), by decide +kernel⟩
def M_P_addFour : jMe := ("FootMaps$Reader", prog_4_method_2_code, 3, 4, false)
set_option maxRecDepth 100000 in
theorem ok_P_addFour : jcdok M_P_addFour cd_P_addFour := jcdok_of 50 (by decide +kernel) (fun pc hp => by unfold cd_P_addFour; rw [j_out hp]; rfl)
set_option maxRecDepth 100000 in
theorem mok_P_addFour : jMok 43 prog_4_method_2_code 3 (Option.none : Option FieldType) := ⟨List.mem_filter.mpr ⟨List.mem_append_right _ (show _ ∈ tables_1 from List.mem_append_right _ (List.mem_append_left _ (List.mem_of_getElem? (i := 235) rfl))), rfl⟩, jw_of (z := 118) (by decide +kernel), by decide, Or.inr (Or.inl ⟨by decide +kernel, jw_of (z := 587) (by decide +kernel), jw_of (z := 588) (by decide +kernel)⟩), by decide +kernel⟩
def M_F_feed : jMe := ("FootMaps", prog_1_method_10_code, 6, 0, false)
set_option maxRecDepth 100000 in
theorem ok_F_feed : jcdok M_F_feed cd_F_feed := jcdok_of 68 (by decide +kernel) (fun pc hp => by unfold cd_F_feed; rw [j_out hp]; rfl)
set_option maxRecDepth 100000 in
theorem mok_F_feed : jMok 42 prog_1_method_10_code 6 (Option.some FieldType.int) := ⟨List.mem_filter.mpr ⟨List.mem_append_right _ (show _ ∈ tables_1 from List.mem_append_right _ (List.mem_append_left _ (List.mem_of_getElem? (i := 231) rfl))), rfl⟩, jw_of (z := 115) (by decide +kernel), by decide, Or.inr (Or.inl ⟨by decide +kernel, jw_of (z := 583) (by decide +kernel), jw_of (z := 584) (by decide +kernel)⟩), by decide +kernel⟩
def M_F_end : jMe := ("FootMaps", prog_1_method_11_code, 2, 0, false)
set_option maxRecDepth 100000 in
theorem ok_F_end : jcdok M_F_end cd_F_end := jcdok_of 27 (by decide +kernel) (fun pc hp => by unfold cd_F_end; rw [j_out hp]; rfl)
set_option maxRecDepth 100000 in
theorem mok_F_end : jMok 44 prog_1_method_11_code 2 (Option.some FieldType.int) := ⟨List.mem_filter.mpr ⟨List.mem_append_right _ (show _ ∈ tables_1 from List.mem_append_right _ (List.mem_append_left _ (List.mem_of_getElem? (i := 239) rfl))), rfl⟩, jw_of (z := 115) (by decide +kernel), by decide, Or.inr (Or.inl ⟨by decide +kernel, jw_of (z := 591) (by decide +kernel), jw_of (z := 592) (by decide +kernel)⟩), by decide +kernel⟩
def M_F_row : jMe := ("FootMaps", prog_1_method_12_code, 4, 0, false)
set_option maxRecDepth 100000 in
theorem ok_F_row : jcdok M_F_row cd_F_row := jcdok_of 151 (by decide +kernel) (fun pc hp => by unfold cd_F_row; rw [j_out hp]; rfl)
set_option maxRecDepth 100000 in
theorem mok_F_row : jMok 45 prog_1_method_12_code 4 (Option.some FieldType.int) := ⟨List.mem_filter.mpr ⟨List.mem_append_right _ (show _ ∈ tables_1 from List.mem_append_right _ (List.mem_append_right _ (List.mem_append_left _ (List.mem_of_getElem? (i := 3) rfl)))), rfl⟩, jw_of (z := 115) (by decide +kernel), by decide, Or.inr (Or.inl ⟨by decide +kernel, jw_of (z := 595) (by decide +kernel), jw_of (z := 596) (by decide +kernel)⟩), by decide +kernel⟩
def M_F_blots : jMe := ("FootMaps", prog_1_method_13_code, 1, 0, false)
set_option maxRecDepth 100000 in
theorem ok_F_blots : jcdok M_F_blots cd_F_blots := jcdok_of 5 (by decide +kernel) (fun pc hp => by unfold cd_F_blots; rw [j_out hp]; rfl)
set_option maxRecDepth 100000 in
theorem mok_F_blots : jMok 46 prog_1_method_13_code 1 (Option.some FieldType.int) := ⟨List.mem_filter.mpr ⟨List.mem_append_right _ (show _ ∈ tables_1 from List.mem_append_right _ (List.mem_append_right _ (List.mem_append_left _ (List.mem_of_getElem? (i := 7) rfl)))), rfl⟩, jw_of (z := 115) (by decide +kernel), by decide, Or.inr (Or.inl ⟨by decide +kernel, jw_of (z := 599) (by decide +kernel), jw_of (z := 600) (by decide +kernel)⟩), by decide +kernel⟩
def M_P_isLetter : jMe := ("FootMaps$Reader", prog_4_method_9_code, 1, 1, false)
set_option maxRecDepth 100000 in
theorem ok_P_isLetter : jcdok M_P_isLetter cd_P_isLetter := jcdok_of 18 (by decide +kernel) (fun pc hp => by unfold cd_P_isLetter; rw [j_out hp]; rfl)
set_option maxRecDepth 100000 in
theorem mok_P_isLetter : jMok 50 prog_4_method_9_code 1 (Option.some FieldType.boolean) := ⟨List.mem_filter.mpr ⟨List.mem_append_right _ (show _ ∈ tables_1 from List.mem_append_right _ (List.mem_append_right _ (List.mem_append_left _ (List.mem_of_getElem? (i := 22) rfl)))), rfl⟩, jw_of (z := 118) (by decide +kernel), by decide, Or.inl ⟨by decide +kernel, jw_of (z := 615) (by decide +kernel)⟩, by decide +kernel⟩
def M_P_stands : jMe := ("FootMaps$Reader", prog_4_method_7_code, 5, 1, false)
set_option maxRecDepth 100000 in
theorem ok_P_stands : jcdok M_P_stands cd_P_stands := jcdok_of 42 (by decide +kernel) (fun pc hp => by unfold cd_P_stands; rw [j_out hp]; rfl)
set_option maxRecDepth 100000 in
theorem mok_P_stands : jMok 54 prog_4_method_7_code 5 (Option.some FieldType.boolean) := ⟨List.mem_filter.mpr ⟨List.mem_append_right _ (show _ ∈ tables_1 from List.mem_append_right _ (List.mem_append_right _ (List.mem_append_left _ (List.mem_of_getElem? (i := 79) rfl)))), rfl⟩, jw_of (z := 118) (by decide +kernel), by decide, Or.inr (Or.inl ⟨by decide +kernel, jw_of (z := 672) (by decide +kernel), jw_of (z := 6) (by decide +kernel)⟩), by decide +kernel⟩
def M_P_wordCode : jMe := ("FootMaps$Reader", prog_4_method_6_code, 6, 0, false)
set_option maxRecDepth 100000 in
theorem ok_P_wordCode : jcdok M_P_wordCode cd_P_wordCode := jcdok_of 75 (by decide +kernel) (fun pc hp => by unfold cd_P_wordCode; rw [j_out hp]; rfl)
set_option maxRecDepth 100000 in
theorem mok_P_wordCode : jMok 51 prog_4_method_6_code 6 (Option.some FieldType.int) := ⟨List.mem_filter.mpr ⟨List.mem_append_right _ (show _ ∈ tables_1 from List.mem_append_right _ (List.mem_append_right _ (List.mem_append_left _ (List.mem_of_getElem? (i := 26) rfl)))), rfl⟩, jw_of (z := 118) (by decide +kernel), by decide, Or.inr (Or.inl ⟨by decide +kernel, jw_of (z := 619) (by decide +kernel), jw_of (z := 5) (by decide +kernel)⟩), by decide +kernel⟩
def M_P_putToken : jMe := ("FootMaps$Reader", prog_4_method_5_code, 5, 4, false)
set_option maxRecDepth 100000 in
theorem ok_P_putToken : jcdok M_P_putToken cd_P_putToken := jcdok_of 23 (by decide +kernel) (fun pc hp => by unfold cd_P_putToken; rw [j_out hp]; rfl)
set_option maxRecDepth 100000 in
theorem mok_P_putToken : jMok 55 prog_4_method_5_code 5 (Option.none : Option FieldType) := ⟨List.mem_filter.mpr ⟨List.mem_append_right _ (show _ ∈ tables_1 from List.mem_append_right _ (List.mem_append_right _ (List.mem_append_left _ (List.mem_of_getElem? (i := 83) rfl)))), rfl⟩, jw_of (z := 118) (by decide +kernel), by decide, Or.inr (Or.inl ⟨by decide +kernel, jw_of (z := 676) (by decide +kernel), jw_of (z := 7) (by decide +kernel)⟩), by decide +kernel⟩
def M_P_isDigit : jMe := ("FootMaps$Reader", prog_4_method_10_code, 1, 1, false)
set_option maxRecDepth 100000 in
theorem ok_P_isDigit : jcdok M_P_isDigit cd_P_isDigit := jcdok_of 18 (by decide +kernel) (fun pc hp => by unfold cd_P_isDigit; rw [j_out hp]; rfl)
set_option maxRecDepth 100000 in
theorem mok_P_isDigit : jMok 56 prog_4_method_10_code 1 (Option.some FieldType.boolean) := ⟨List.mem_filter.mpr ⟨List.mem_append_right _ (show _ ∈ tables_1 from List.mem_append_right _ (List.mem_append_right _ (List.mem_append_left _ (List.mem_of_getElem? (i := 86) rfl)))), rfl⟩, jw_of (z := 118) (by decide +kernel), by decide, Or.inl ⟨by decide +kernel, jw_of (z := 679) (by decide +kernel)⟩, by decide +kernel⟩
def M_P_numberValue : jMe := ("FootMaps$Reader", prog_4_method_8_code, 5, 0, false)
set_option maxRecDepth 100000 in
theorem ok_P_numberValue : jcdok M_P_numberValue cd_P_numberValue := jcdok_of 42 (by decide +kernel) (fun pc hp => by unfold cd_P_numberValue; rw [j_out hp]; rfl)
set_option maxRecDepth 100000 in
theorem mok_P_numberValue : jMok 57 prog_4_method_8_code 5 (Option.some FieldType.int) := ⟨List.mem_filter.mpr ⟨List.mem_append_right _ (show _ ∈ tables_1 from List.mem_append_right _ (List.mem_append_right _ (List.mem_append_left _ (List.mem_of_getElem? (i := 90) rfl)))), rfl⟩, jw_of (z := 118) (by decide +kernel), by decide, Or.inr (Or.inl ⟨by decide +kernel, jw_of (z := 683) (by decide +kernel), jw_of (z := 8) (by decide +kernel)⟩), by decide +kernel⟩
def M_P_findTokens : jMe := ("FootMaps$Reader", prog_4_method_4_code, 5, 4, false)
set_option maxRecDepth 100000 in
theorem ok_P_findTokens : jcdok M_P_findTokens cd_P_findTokens := jcdok_of 170 (by decide +kernel) (fun pc hp => by unfold cd_P_findTokens; rw [j_out hp]; rfl)
set_option maxRecDepth 100000 in
theorem mok_P_findTokens : jMok 49 prog_4_method_4_code 5 (Option.none : Option FieldType) := ⟨List.mem_filter.mpr ⟨List.mem_append_right _ (show _ ∈ tables_1 from List.mem_append_right _ (List.mem_append_right _ (List.mem_append_left _ (List.mem_of_getElem? (i := 19) rfl)))), rfl⟩, jw_of (z := 118) (by decide +kernel), by decide, Or.inr (Or.inl ⟨by decide +kernel, jw_of (z := 612) (by decide +kernel), jw_of (z := 4) (by decide +kernel)⟩), by decide +kernel⟩
def M_P_goTo : jMe := ("FootMaps$Reader", prog_4_method_11_code, 2, 4, false)
set_option maxRecDepth 100000 in
theorem ok_P_goTo : jcdok M_P_goTo cd_P_goTo := jcdok_of 37 (by decide +kernel) (fun pc hp => by unfold cd_P_goTo; rw [j_out hp]; rfl)
set_option maxRecDepth 100000 in
theorem mok_P_goTo : jMok 58 prog_4_method_11_code 2 (Option.none : Option FieldType) := ⟨List.mem_filter.mpr ⟨List.mem_append_right _ (show _ ∈ tables_1 from List.mem_append_right _ (List.mem_append_right _ (List.mem_append_left _ (List.mem_of_getElem? (i := 94) rfl)))), rfl⟩, jw_of (z := 118) (by decide +kernel), by decide, Or.inr (Or.inl ⟨by decide +kernel, jw_of (z := 687) (by decide +kernel), jw_of (z := 9) (by decide +kernel)⟩), by decide +kernel⟩
def M_P_fails : jMe := ("FootMaps$Reader", prog_4_method_12_code, 1, 1, false)
set_option maxRecDepth 100000 in
theorem ok_P_fails : jcdok M_P_fails cd_P_fails := jcdok_of 15 (by decide +kernel) (fun pc hp => by unfold cd_P_fails; rw [j_out hp]; rfl)
set_option maxRecDepth 100000 in
theorem mok_P_fails : jMok 60 prog_4_method_12_code 1 (Option.some FieldType.boolean) := ⟨List.mem_filter.mpr ⟨List.mem_append_right _ (show _ ∈ tables_1 from List.mem_append_right _ (List.mem_append_right _ (List.mem_append_left _ (List.mem_of_getElem? (i := 102) rfl)))), rfl⟩, jw_of (z := 118) (by decide +kernel), by decide, Or.inr (Or.inl ⟨by decide +kernel, jw_of (z := 695) (by decide +kernel), jw_of (z := 11) (by decide +kernel)⟩), by decide +kernel⟩
def M_P_startClause : jMe := ("FootMaps$Reader", prog_4_method_13_code, 2, 4, false)
set_option maxRecDepth 100000 in
theorem ok_P_startClause : jcdok M_P_startClause cd_P_startClause := jcdok_of 64 (by decide +kernel) (fun pc hp => by unfold cd_P_startClause; rw [j_out hp]; rfl)
set_option maxRecDepth 100000 in
theorem mok_P_startClause : jMok 61 prog_4_method_13_code 2 (Option.none : Option FieldType) := ⟨List.mem_filter.mpr ⟨List.mem_append_right _ (show _ ∈ tables_1 from List.mem_append_right _ (List.mem_append_right _ (List.mem_append_left _ (List.mem_of_getElem? (i := 106) rfl)))), rfl⟩, jw_of (z := 118) (by decide +kernel), by decide, Or.inr (Or.inl ⟨by decide +kernel, jw_of (z := 699) (by decide +kernel), jw_of (z := 12) (by decide +kernel)⟩), by decide +kernel⟩
def M_P_wordBetween : jMe := ("FootMaps$Reader", prog_4_method_16_code, 1, 0, false)
set_option maxRecDepth 100000 in
theorem ok_P_wordBetween : jcdok M_P_wordBetween cd_P_wordBetween := jcdok_of 42 (by decide +kernel) (fun pc hp => by unfold cd_P_wordBetween; rw [j_out hp]; rfl)
set_option maxRecDepth 100000 in
theorem mok_P_wordBetween : jMok 62 prog_4_method_16_code 1 (Option.some FieldType.int) := ⟨List.mem_filter.mpr ⟨List.mem_append_right _ (show _ ∈ tables_1 from List.mem_append_right _ (List.mem_append_right _ (List.mem_append_left _ (List.mem_of_getElem? (i := 109) rfl)))), rfl⟩, jw_of (z := 118) (by decide +kernel), by decide, Or.inl ⟨by decide +kernel, jw_of (z := 702) (by decide +kernel)⟩, by decide +kernel⟩
def M_P_emit : jMe := ("FootMaps$Reader", prog_4_method_28_code, 3, 0, false)
set_option maxRecDepth 100000 in
theorem ok_P_emit : jcdok M_P_emit cd_P_emit := jcdok_of 58 (by decide +kernel) (fun pc hp => by unfold cd_P_emit; rw [j_out hp]; rfl)
set_option maxRecDepth 100000 in
theorem mok_P_emit : jMok 65 prog_4_method_28_code 3 (Option.some FieldType.int) := ⟨List.mem_filter.mpr ⟨List.mem_append_right _ (show _ ∈ tables_1 from List.mem_append_right _ (List.mem_append_right _ (List.mem_append_left _ (List.mem_of_getElem? (i := 121) rfl)))), rfl⟩, jw_of (z := 118) (by decide +kernel), by decide, Or.inr (Or.inl ⟨by decide +kernel, jw_of (z := 714) (by decide +kernel), jw_of (z := 15) (by decide +kernel)⟩), by decide +kernel⟩
def M_P_orderSlot : jMe := ("FootMaps$Reader", prog_4_method_23_code, 1, 0, false)
set_option maxRecDepth 100000 in
theorem ok_P_orderSlot : jcdok M_P_orderSlot cd_P_orderSlot := jcdok_of 108 (by decide +kernel) (fun pc hp => by unfold cd_P_orderSlot; rw [j_out hp]; rfl)
set_option maxRecDepth 100000 in
theorem mok_P_orderSlot : jMok 66 prog_4_method_23_code 1 (Option.some FieldType.int) := ⟨List.mem_filter.mpr ⟨List.mem_append_right _ (show _ ∈ tables_1 from List.mem_append_right _ (List.mem_append_right _ (List.mem_append_left _ (List.mem_of_getElem? (i := 124) rfl)))), rfl⟩, jw_of (z := 118) (by decide +kernel), by decide, Or.inl ⟨by decide +kernel, jw_of (z := 717) (by decide +kernel)⟩, by decide +kernel⟩
def M_P_lawSlot : jMe := ("FootMaps$Reader", prog_4_method_21_code, 1, 0, false)
set_option maxRecDepth 100000 in
theorem ok_P_lawSlot : jcdok M_P_lawSlot cd_P_lawSlot := jcdok_of 24 (by decide +kernel) (fun pc hp => by unfold cd_P_lawSlot; rw [j_out hp]; rfl)
set_option maxRecDepth 100000 in
theorem mok_P_lawSlot : jMok 67 prog_4_method_21_code 1 (Option.some FieldType.int) := ⟨List.mem_filter.mpr ⟨List.mem_append_right _ (show _ ∈ tables_1 from List.mem_append_right _ (List.mem_append_right _ (List.mem_append_left _ (List.mem_of_getElem? (i := 127) rfl)))), rfl⟩, jw_of (z := 118) (by decide +kernel), by decide, Or.inl ⟨by decide +kernel, jw_of (z := 720) (by decide +kernel)⟩, by decide +kernel⟩
def M_P_mostBehind : jMe := ("FootMaps$Reader", prog_4_method_22_code, 1, 0, false)
set_option maxRecDepth 100000 in
theorem ok_P_mostBehind : jcdok M_P_mostBehind cd_P_mostBehind := jcdok_of 43 (by decide +kernel) (fun pc hp => by unfold cd_P_mostBehind; rw [j_out hp]; rfl)
set_option maxRecDepth 100000 in
theorem mok_P_mostBehind : jMok 68 prog_4_method_22_code 1 (Option.some FieldType.int) := ⟨List.mem_filter.mpr ⟨List.mem_append_right _ (show _ ∈ tables_1 from List.mem_append_right _ (List.mem_append_right _ (List.mem_append_left _ (List.mem_of_getElem? (i := 130) rfl)))), rfl⟩, jw_of (z := 118) (by decide +kernel), by decide, Or.inl ⟨by decide +kernel, jw_of (z := 723) (by decide +kernel)⟩, by decide +kernel⟩
def M_P_emitIfAny : jMe := ("FootMaps$Reader", prog_4_method_27_code, 2, 4, false)
set_option maxRecDepth 100000 in
theorem ok_P_emitIfAny : jcdok M_P_emitIfAny cd_P_emitIfAny := jcdok_of 13 (by decide +kernel) (fun pc hp => by unfold cd_P_emitIfAny; rw [j_out hp]; rfl)
set_option maxRecDepth 100000 in
theorem mok_P_emitIfAny : jMok 69 prog_4_method_27_code 2 (Option.none : Option FieldType) := ⟨List.mem_filter.mpr ⟨List.mem_append_right _ (show _ ∈ tables_1 from List.mem_append_right _ (List.mem_append_right _ (List.mem_append_left _ (List.mem_of_getElem? (i := 134) rfl)))), rfl⟩, jw_of (z := 118) (by decide +kernel), by decide, Or.inr (Or.inl ⟨by decide +kernel, jw_of (z := 727) (by decide +kernel), jw_of (z := 16) (by decide +kernel)⟩), by decide +kernel⟩
def M_P_timingOp : jMe := ("FootMaps$Reader", prog_4_method_25_code, 1, 0, false)
set_option maxRecDepth 100000 in
theorem ok_P_timingOp : jcdok M_P_timingOp cd_P_timingOp := jcdok_of 47 (by decide +kernel) (fun pc hp => by unfold cd_P_timingOp; rw [j_out hp]; rfl)
set_option maxRecDepth 100000 in
theorem mok_P_timingOp : jMok 70 prog_4_method_25_code 1 (Option.some FieldType.int) := ⟨List.mem_filter.mpr ⟨List.mem_append_right _ (show _ ∈ tables_1 from List.mem_append_right _ (List.mem_append_right _ (List.mem_append_left _ (List.mem_of_getElem? (i := 137) rfl)))), rfl⟩, jw_of (z := 118) (by decide +kernel), by decide, Or.inl ⟨by decide +kernel, jw_of (z := 730) (by decide +kernel)⟩, by decide +kernel⟩
def M_P_addingOp : jMe := ("FootMaps$Reader", prog_4_method_26_code, 1, 0, false)
set_option maxRecDepth 100000 in
theorem ok_P_addingOp : jcdok M_P_addingOp cd_P_addingOp := jcdok_of 36 (by decide +kernel) (fun pc hp => by unfold cd_P_addingOp; rw [j_out hp]; rfl)
set_option maxRecDepth 100000 in
theorem mok_P_addingOp : jMok 71 prog_4_method_26_code 1 (Option.some FieldType.int) := ⟨List.mem_filter.mpr ⟨List.mem_append_right _ (show _ ∈ tables_1 from List.mem_append_right _ (List.mem_append_right _ (List.mem_append_left _ (List.mem_of_getElem? (i := 140) rfl)))), rfl⟩, jw_of (z := 118) (by decide +kernel), by decide, Or.inl ⟨by decide +kernel, jw_of (z := 733) (by decide +kernel)⟩, by decide +kernel⟩
def M_P_readsPart : jMe := ("FootMaps$Reader", prog_4_method_20_code, 4, 1, false)
set_option maxRecDepth 100000 in
theorem ok_P_readsPart : jcdok M_P_readsPart cd_P_readsPart := jcdok_of 257 (by decide +kernel) (fun pc hp => by unfold cd_P_readsPart; rw [j_out hp]; rfl)
set_option maxRecDepth 100000 in
theorem mok_P_readsPart : jMok 64 prog_4_method_20_code 4 (Option.some FieldType.boolean) := ⟨List.mem_filter.mpr ⟨List.mem_append_right _ (show _ ∈ tables_1 from List.mem_append_right _ (List.mem_append_right _ (List.mem_append_left _ (List.mem_of_getElem? (i := 117) rfl)))), rfl⟩, jw_of (z := 118) (by decide +kernel), by decide, Or.inr (Or.inl ⟨by decide +kernel, jw_of (z := 710) (by decide +kernel), jw_of (z := 14) (by decide +kernel)⟩), by decide +kernel⟩
def M_P_readsSum : jMe := ("FootMaps$Reader", prog_4_method_19_code, 5, 1, false)
set_option maxRecDepth 100000 in
theorem ok_P_readsSum : jcdok M_P_readsSum cd_P_readsSum := jcdok_of 84 (by decide +kernel) (fun pc hp => by unfold cd_P_readsSum; rw [j_out hp]; rfl)
set_option maxRecDepth 100000 in
theorem mok_P_readsSum : jMok 63 prog_4_method_19_code 5 (Option.some FieldType.boolean) := ⟨List.mem_filter.mpr ⟨List.mem_append_right _ (show _ ∈ tables_1 from List.mem_append_right _ (List.mem_append_right _ (List.mem_append_left _ (List.mem_of_getElem? (i := 113) rfl)))), rfl⟩, jw_of (z := 118) (by decide +kernel), by decide, Or.inr (Or.inl ⟨by decide +kernel, jw_of (z := 706) (by decide +kernel), jw_of (z := 13) (by decide +kernel)⟩), by decide +kernel⟩
def M_P_comparingOp : jMe := ("FootMaps$Reader", prog_4_method_24_code, 1, 0, false)
set_option maxRecDepth 100000 in
theorem ok_P_comparingOp : jcdok M_P_comparingOp cd_P_comparingOp := jcdok_of 39 (by decide +kernel) (fun pc hp => by unfold cd_P_comparingOp; rw [j_out hp]; rfl)
set_option maxRecDepth 100000 in
theorem mok_P_comparingOp : jMok 74 prog_4_method_24_code 1 (Option.some FieldType.int) := ⟨List.mem_filter.mpr ⟨List.mem_append_right _ (show _ ∈ tables_1 from List.mem_append_right _ (List.mem_append_right _ (List.mem_append_left _ (List.mem_of_getElem? (i := 151) rfl)))), rfl⟩, jw_of (z := 118) (by decide +kernel), by decide, Or.inl ⟨by decide +kernel, jw_of (z := 744) (by decide +kernel)⟩, by decide +kernel⟩
def M_P_skipToHere : jMe := ("FootMaps$Reader", prog_4_method_29_code, 2, 4, false)
set_option maxRecDepth 100000 in
theorem ok_P_skipToHere : jcdok M_P_skipToHere cd_P_skipToHere := jcdok_of 43 (by decide +kernel) (fun pc hp => by unfold cd_P_skipToHere; rw [j_out hp]; rfl)
set_option maxRecDepth 100000 in
theorem mok_P_skipToHere : jMok 75 prog_4_method_29_code 2 (Option.none : Option FieldType) := ⟨List.mem_filter.mpr ⟨List.mem_append_right _ (show _ ∈ tables_1 from List.mem_append_right _ (List.mem_append_right _ (List.mem_append_left _ (List.mem_of_getElem? (i := 155) rfl)))), rfl⟩, jw_of (z := 118) (by decide +kernel), by decide, Or.inr (Or.inl ⟨by decide +kernel, jw_of (z := 748) (by decide +kernel), jw_of (z := 19) (by decide +kernel)⟩), by decide +kernel⟩
def M_P_readsPlain : jMe := ("FootMaps$Reader", prog_4_method_18_code, 5, 1, false)
set_option maxRecDepth 100000 in
theorem ok_P_readsPlain : jcdok M_P_readsPlain cd_P_readsPlain := jcdok_of 188 (by decide +kernel) (fun pc hp => by unfold cd_P_readsPlain; rw [j_out hp]; rfl)
set_option maxRecDepth 100000 in
theorem mok_P_readsPlain : jMok 73 prog_4_method_18_code 5 (Option.some FieldType.boolean) := ⟨List.mem_filter.mpr ⟨List.mem_append_right _ (show _ ∈ tables_1 from List.mem_append_right _ (List.mem_append_right _ (List.mem_append_left _ (List.mem_of_getElem? (i := 148) rfl)))), rfl⟩, jw_of (z := 118) (by decide +kernel), by decide, Or.inr (Or.inl ⟨by decide +kernel, jw_of (z := 741) (by decide +kernel), jw_of (z := 18) (by decide +kernel)⟩), by decide +kernel⟩
def M_P_readsTest : jMe := ("FootMaps$Reader", prog_4_method_17_code, 5, 1, false)
set_option maxRecDepth 100000 in
theorem ok_P_readsTest : jcdok M_P_readsTest cd_P_readsTest := jcdok_of 97 (by decide +kernel) (fun pc hp => by unfold cd_P_readsTest; rw [j_out hp]; rfl)
set_option maxRecDepth 100000 in
theorem mok_P_readsTest : jMok 72 prog_4_method_17_code 5 (Option.some FieldType.boolean) := ⟨List.mem_filter.mpr ⟨List.mem_append_right _ (show _ ∈ tables_1 from List.mem_append_right _ (List.mem_append_right _ (List.mem_append_left _ (List.mem_of_getElem? (i := 144) rfl)))), rfl⟩, jw_of (z := 118) (by decide +kernel), by decide, Or.inr (Or.inl ⟨by decide +kernel, jw_of (z := 737) (by decide +kernel), jw_of (z := 17) (by decide +kernel)⟩), by decide +kernel⟩
def M_P_readsOrder : jMe := ("FootMaps$Reader", prog_4_method_15_code, 3, 1, false)
set_option maxRecDepth 100000 in
theorem ok_P_readsOrder : jcdok M_P_readsOrder cd_P_readsOrder := jcdok_of 289 (by decide +kernel) (fun pc hp => by unfold cd_P_readsOrder; rw [j_out hp]; rfl)
set_option maxRecDepth 100000 in
theorem mok_P_readsOrder : jMok 59 prog_4_method_15_code 3 (Option.some FieldType.boolean) := ⟨List.mem_filter.mpr ⟨List.mem_append_right _ (show _ ∈ tables_1 from List.mem_append_right _ (List.mem_append_right _ (List.mem_append_left _ (List.mem_of_getElem? (i := 98) rfl)))), rfl⟩, jw_of (z := 118) (by decide +kernel), by decide, Or.inr (Or.inl ⟨by decide +kernel, jw_of (z := 691) (by decide +kernel), jw_of (z := 10) (by decide +kernel)⟩), by decide +kernel⟩
def M_P_readsLaw : jMe := ("FootMaps$Reader", prog_4_method_14_code, 2, 1, false)
set_option maxRecDepth 100000 in
theorem ok_P_readsLaw : jcdok M_P_readsLaw cd_P_readsLaw := jcdok_of 145 (by decide +kernel) (fun pc hp => by unfold cd_P_readsLaw; rw [j_out hp]; rfl)
set_option maxRecDepth 100000 in
theorem mok_P_readsLaw : jMok 76 prog_4_method_14_code 2 (Option.some FieldType.boolean) := ⟨List.mem_filter.mpr ⟨List.mem_append_right _ (show _ ∈ tables_1 from List.mem_append_right _ (List.mem_append_right _ (List.mem_append_left _ (List.mem_of_getElem? (i := 159) rfl)))), rfl⟩, jw_of (z := 118) (by decide +kernel), by decide, Or.inr (Or.inl ⟨by decide +kernel, jw_of (z := 752) (by decide +kernel), jw_of (z := 20) (by decide +kernel)⟩), by decide +kernel⟩
def M_P_reads : jMe := ("FootMaps$Reader", prog_4_method_3_code, 3, 1, false)
set_option maxRecDepth 100000 in
theorem ok_P_reads : jcdok M_P_reads cd_P_reads := jcdok_of 135 (by decide +kernel) (fun pc hp => by unfold cd_P_reads; rw [j_out hp]; rfl)
set_option maxRecDepth 100000 in
theorem mok_P_reads : jMok 48 prog_4_method_3_code 3 (Option.some FieldType.boolean) := ⟨List.mem_filter.mpr ⟨List.mem_append_right _ (show _ ∈ tables_1 from List.mem_append_right _ (List.mem_append_right _ (List.mem_append_left _ (List.mem_of_getElem? (i := 15) rfl)))), rfl⟩, jw_of (z := 118) (by decide +kernel), by decide, Or.inr (Or.inl ⟨by decide +kernel, jw_of (z := 607) (by decide +kernel), jw_of (z := 608) (by decide +kernel)⟩), by decide +kernel⟩
def M_Jm_min_II : jMe := ("java/lang/Math", prog_12_method_69_code, 2, 0, false)
set_option maxRecDepth 100000 in
theorem ok_Jm_min_II : jcdok M_Jm_min_II cd_Jm_min_II := jcdok_of 11 (by decide +kernel) (fun pc hp => by unfold cd_Jm_min_II; rw [j_out hp]; rfl)
set_option maxRecDepth 100000 in
theorem mok_Jm_min_II : jMok 79 prog_12_method_69_code 2 (Option.some FieldType.int) := ⟨List.mem_filter.mpr ⟨List.mem_append_right _ (show _ ∈ tables_1 from List.mem_append_right _ (List.mem_append_right _ (List.mem_append_left _ (List.mem_of_getElem? (i := 176) rfl)))), rfl⟩, jw_of (z := 124) (by decide +kernel), by decide, Or.inl ⟨by decide +kernel, jw_of (z := 769) (by decide +kernel)⟩, by decide +kernel⟩
def M_Ja_copyOf : jMe := ("java/util/Arrays", prog_17_method_123_code, 3, 3, false)
set_option maxRecDepth 100000 in
theorem ok_Ja_copyOf : jcdok M_Ja_copyOf cd_Ja_copyOf := jcdok_of 33 (by decide +kernel) (fun pc hp => by unfold cd_Ja_copyOf; rw [j_out hp]; rfl)
set_option maxRecDepth 100000 in
theorem mok_Ja_copyOf : jMok 78 prog_17_method_123_code 3 (Option.some (FieldType.array FieldType.int)) := ⟨List.mem_filter.mpr ⟨List.mem_append_right _ (show _ ∈ tables_1 from List.mem_append_right _ (List.mem_append_right _ (List.mem_append_left _ (List.mem_of_getElem? (i := 166) rfl)))), rfl⟩, jw_of (z := 129) (by decide +kernel), by decide, Or.inl ⟨by decide +kernel, jw_of (z := 759) (by decide +kernel)⟩, by decide +kernel⟩
def M_T_new_L : jMe := ("FootMaps$Text", prog_6_method_2_code, 2, 4, true)
set_option maxRecDepth 100000 in
theorem ok_T_new_L : jcdok M_T_new_L cd_T_new_L := jcdok_of 121 (by decide +kernel) (fun pc hp => by unfold cd_T_new_L; rw [j_out hp]; rfl)
set_option maxRecDepth 100000 in
theorem mok_T_new_L : jMok 77 prog_6_method_2_code 2 (Option.none : Option FieldType) := ⟨List.mem_filter.mpr ⟨List.mem_append_right _ (show _ ∈ tables_1 from List.mem_append_right _ (List.mem_append_right _ (List.mem_append_left _ (List.mem_of_getElem? (i := 163) rfl)))), rfl⟩, jw_of (z := 119) (by decide +kernel), by decide, Or.inr (Or.inr ⟨by decide +kernel, jw_of (z := 756) (by decide +kernel), by decide +kernel, rfl⟩), by decide +kernel⟩
def M_F_law : jMe := ("FootMaps", prog_1_method_14_code, 2, 0, false)
set_option maxRecDepth 100000 in
theorem ok_F_law : jcdok M_F_law cd_F_law := jcdok_of 92 (by decide +kernel) (fun pc hp => by unfold cd_F_law; rw [j_out hp]; rfl)
set_option maxRecDepth 100000 in
theorem mok_F_law : jMok 47 prog_1_method_14_code 2 (Option.some FieldType.int) := ⟨List.mem_filter.mpr ⟨List.mem_append_right _ (show _ ∈ tables_1 from List.mem_append_right _ (List.mem_append_right _ (List.mem_append_left _ (List.mem_of_getElem? (i := 11) rfl)))), rfl⟩, jw_of (z := 115) (by decide +kernel), by decide, Or.inr (Or.inl ⟨by decide +kernel, jw_of (z := 603) (by decide +kernel), jw_of (z := 604) (by decide +kernel)⟩), by decide +kernel⟩
def M_L_copyFrom : jMe := ("FootMaps$Land", prog_3_method_2_code, 3, 4, false)
set_option maxRecDepth 100000 in
theorem ok_L_copyFrom : jcdok M_L_copyFrom cd_L_copyFrom := jcdok_of 203 (by decide +kernel) (fun pc hp => by unfold cd_L_copyFrom; rw [j_out hp]; rfl)
set_option maxRecDepth 100000 in
theorem mok_L_copyFrom : jMok 81 prog_3_method_2_code 3 (Option.none : Option FieldType) := ⟨List.mem_filter.mpr ⟨List.mem_append_right _ (show _ ∈ tables_1 from List.mem_append_right _ (List.mem_append_right _ (List.mem_append_left _ (List.mem_of_getElem? (i := 188) rfl)))), rfl⟩, jw_of (z := 116) (by decide +kernel), by decide, Or.inr (Or.inl ⟨by decide +kernel, jw_of (z := 780) (by decide +kernel), jw_of (z := 781) (by decide +kernel)⟩), by decide +kernel⟩
def M_D_copyFrom : jMe := ("FootMaps$Deeds", prog_2_method_3_code, 2, 4, false)
set_option maxRecDepth 100000 in
theorem ok_D_copyFrom : jcdok M_D_copyFrom cd_D_copyFrom := jcdok_of 137 (by decide +kernel) (fun pc hp => by unfold cd_D_copyFrom; rw [j_out hp]; rfl)
set_option maxRecDepth 100000 in
theorem mok_D_copyFrom : jMok 82 prog_2_method_3_code 2 (Option.none : Option FieldType) := ⟨List.mem_filter.mpr ⟨List.mem_append_right _ (show _ ∈ tables_1 from List.mem_append_right _ (List.mem_append_right _ (List.mem_append_left _ (List.mem_of_getElem? (i := 193) rfl)))), rfl⟩, jw_of (z := 117) (by decide +kernel), by decide, Or.inr (Or.inl ⟨by decide +kernel, jw_of (z := 785) (by decide +kernel), jw_of (z := 786) (by decide +kernel)⟩), by decide +kernel⟩
def M_L_tellOrderWords : jMe := ("FootMaps$Land", prog_3_method_21_code, 4, 4, false)
set_option maxRecDepth 100000 in
theorem ok_L_tellOrderWords : jcdok M_L_tellOrderWords cd_L_tellOrderWords := jcdok_of 113 (by decide +kernel) (fun pc hp => by unfold cd_L_tellOrderWords; rw [j_out hp]; rfl)
set_option maxRecDepth 100000 in
theorem mok_L_tellOrderWords : jMok 84 prog_3_method_21_code 4 (Option.none : Option FieldType) := ⟨List.mem_filter.mpr ⟨List.mem_append_right _ (show _ ∈ tables_1 from List.mem_append_right _ (List.mem_append_right _ (List.mem_append_left _ (List.mem_of_getElem? (i := 203) rfl)))), rfl⟩, jw_of (z := 116) (by decide +kernel), by decide, Or.inr (Or.inl ⟨by decide +kernel, jw_of (z := 795) (by decide +kernel), jw_of (z := 796) (by decide +kernel)⟩), by decide +kernel⟩
def M_D_add : jMe := ("FootMaps$Deeds", prog_2_method_4_code, 5, 4, false)
set_option maxRecDepth 100000 in
theorem ok_D_add : jcdok M_D_add cd_D_add := jcdok_of 154 (by decide +kernel) (fun pc hp => by unfold cd_D_add; rw [j_out hp]; rfl)
set_option maxRecDepth 100000 in
theorem mok_D_add : jMok 86 prog_2_method_4_code 5 (Option.none : Option FieldType) := ⟨List.mem_filter.mpr ⟨List.mem_append_right _ (show _ ∈ tables_1 from List.mem_append_right _ (List.mem_append_right _ (List.mem_append_left _ (List.mem_of_getElem? (i := 215) rfl)))), rfl⟩, jw_of (z := 117) (by decide +kernel), by decide, Or.inr (Or.inl ⟨by decide +kernel, jw_of (z := 807) (by decide +kernel), jw_of (z := 808) (by decide +kernel)⟩), by decide +kernel⟩
def M_Jm_abs : jMe := ("java/lang/Math", prog_12_method_59_code, 1, 0, false)
set_option maxRecDepth 100000 in
theorem ok_Jm_abs : jcdok M_Jm_abs cd_Jm_abs := jcdok_of 11 (by decide +kernel) (fun pc hp => by unfold cd_Jm_abs; rw [j_out hp]; rfl)
set_option maxRecDepth 100000 in
theorem mok_Jm_abs : jMok 89 prog_12_method_59_code 1 (Option.some FieldType.int) := ⟨List.mem_filter.mpr ⟨List.mem_append_right _ (show _ ∈ tables_1 from List.mem_append_right _ (List.mem_append_right _ (List.mem_append_left _ (List.mem_of_getElem? (i := 227) rfl)))), rfl⟩, jw_of (z := 124) (by decide +kernel), by decide, Or.inl ⟨by decide +kernel, jw_of (z := 820) (by decide +kernel)⟩, by decide +kernel⟩
def M_F_cellsInSight : jMe := ("FootMaps", prog_1_method_60_code, 6, 0, false)
set_option maxRecDepth 100000 in
theorem ok_F_cellsInSight : jcdok M_F_cellsInSight cd_F_cellsInSight := jcdok_of 57 (by decide +kernel) (fun pc hp => by unfold cd_F_cellsInSight; rw [j_out hp]; rfl)
set_option maxRecDepth 100000 in
theorem mok_F_cellsInSight : jMok 88 prog_1_method_60_code 6 (Option.some FieldType.int) := ⟨List.mem_filter.mpr ⟨List.mem_append_right _ (show _ ∈ tables_1 from List.mem_append_right _ (List.mem_append_right _ (List.mem_append_left _ (List.mem_of_getElem? (i := 224) rfl)))), rfl⟩, jw_of (z := 115) (by decide +kernel), by decide, Or.inl ⟨by decide +kernel, jw_of (z := 817) (by decide +kernel)⟩, by decide +kernel⟩
def M_L_blank : jMe := ("FootMaps$Land", prog_3_method_13_code, 3, 4, false)
set_option maxRecDepth 100000 in
theorem ok_L_blank : jcdok M_L_blank cd_L_blank := jcdok_of 35 (by decide +kernel) (fun pc hp => by unfold cd_L_blank; rw [j_out hp]; rfl)
set_option maxRecDepth 100000 in
theorem mok_L_blank : jMok 91 prog_3_method_13_code 3 (Option.none : Option FieldType) := ⟨List.mem_filter.mpr ⟨List.mem_append_right _ (show _ ∈ tables_1 from List.mem_append_right _ (List.mem_append_right _ (List.mem_append_left _ (List.mem_of_getElem? (i := 235) rfl)))), rfl⟩, jw_of (z := 116) (by decide +kernel), by decide, Or.inr (Or.inl ⟨by decide +kernel, jw_of (z := 827) (by decide +kernel), jw_of (z := 828) (by decide +kernel)⟩), by decide +kernel⟩
def M_L_mark : jMe := ("FootMaps$Land", prog_3_method_12_code, 4, 4, false)
set_option maxRecDepth 100000 in
theorem ok_L_mark : jcdok M_L_mark cd_L_mark := jcdok_of 34 (by decide +kernel) (fun pc hp => by unfold cd_L_mark; rw [j_out hp]; rfl)
set_option maxRecDepth 100000 in
theorem mok_L_mark : jMok 90 prog_3_method_12_code 4 (Option.none : Option FieldType) := ⟨List.mem_filter.mpr ⟨List.mem_append_right _ (show _ ∈ tables_1 from List.mem_append_right _ (List.mem_append_right _ (List.mem_append_left _ (List.mem_of_getElem? (i := 231) rfl)))), rfl⟩, jw_of (z := 116) (by decide +kernel), by decide, Or.inr (Or.inl ⟨by decide +kernel, jw_of (z := 823) (by decide +kernel), jw_of (z := 824) (by decide +kernel)⟩), by decide +kernel⟩
def M_L_comeTo : jMe := ("FootMaps$Land", prog_3_method_14_code, 6, 4, false)
set_option maxRecDepth 100000 in
theorem ok_L_comeTo : jcdok M_L_comeTo cd_L_comeTo := jcdok_of 56 (by decide +kernel) (fun pc hp => by unfold cd_L_comeTo; rw [j_out hp]; rfl)
set_option maxRecDepth 100000 in
theorem mok_L_comeTo : jMok 87 prog_3_method_14_code 6 (Option.none : Option FieldType) := ⟨List.mem_filter.mpr ⟨List.mem_append_right _ (show _ ∈ tables_1 from List.mem_append_right _ (List.mem_append_right _ (List.mem_append_left _ (List.mem_of_getElem? (i := 221) rfl)))), rfl⟩, jw_of (z := 116) (by decide +kernel), by decide, Or.inr (Or.inl ⟨by decide +kernel, jw_of (z := 813) (by decide +kernel), jw_of (z := 814) (by decide +kernel)⟩), by decide +kernel⟩
def M_F_tryStep : jMe := ("FootMaps", prog_1_method_47_code, 7, 0, false)
set_option maxRecDepth 100000 in
theorem ok_F_tryStep : jcdok M_F_tryStep cd_F_tryStep := jcdok_of 140 (by decide +kernel) (fun pc hp => by unfold cd_F_tryStep; rw [j_out hp]; rfl)
set_option maxRecDepth 100000 in
theorem mok_F_tryStep : jMok 85 prog_1_method_47_code 7 (Option.some FieldType.int) := ⟨List.mem_filter.mpr ⟨List.mem_append_right _ (show _ ∈ tables_1 from List.mem_append_right _ (List.mem_append_right _ (List.mem_append_left _ (List.mem_of_getElem? (i := 211) rfl)))), rfl⟩, jw_of (z := 115) (by decide +kernel), by decide, Or.inr (Or.inl ⟨by decide +kernel, jw_of (z := 804) (by decide +kernel), jw_of (z := 22) (by decide +kernel)⟩), by decide +kernel⟩
def M_L_joinSheets : jMe := ("FootMaps$Land", prog_3_method_15_code, 6, 0, false)
set_option maxRecDepth 100000 in
theorem ok_L_joinSheets : jcdok M_L_joinSheets cd_L_joinSheets := jcdok_of 112 (by decide +kernel) (fun pc hp => by unfold cd_L_joinSheets; rw [j_out hp]; rfl)
set_option maxRecDepth 100000 in
theorem mok_L_joinSheets : jMok 93 prog_3_method_15_code 6 (Option.some FieldType.int) := ⟨List.mem_filter.mpr ⟨List.mem_append_right _ (show _ ∈ tables_1 from List.mem_append_right _ (List.mem_append_right _ (List.mem_append_right _ (List.mem_append_left _ (List.mem_of_getElem? (i := 3) rfl))))), rfl⟩, jw_of (z := 116) (by decide +kernel), by decide, Or.inr (Or.inl ⟨by decide +kernel, jw_of (z := 835) (by decide +kernel), jw_of (z := 836) (by decide +kernel)⟩), by decide +kernel⟩
def M_F_tryJoin : jMe := ("FootMaps", prog_1_method_48_code, 3, 0, false)
set_option maxRecDepth 100000 in
theorem ok_F_tryJoin : jcdok M_F_tryJoin cd_F_tryJoin := jcdok_of 80 (by decide +kernel) (fun pc hp => by unfold cd_F_tryJoin; rw [j_out hp]; rfl)
set_option maxRecDepth 100000 in
theorem mok_F_tryJoin : jMok 92 prog_1_method_48_code 3 (Option.some FieldType.int) := ⟨List.mem_filter.mpr ⟨List.mem_append_right _ (show _ ∈ tables_1 from List.mem_append_right _ (List.mem_append_right _ (List.mem_append_left _ (List.mem_of_getElem? (i := 239) rfl)))), rfl⟩, jw_of (z := 115) (by decide +kernel), by decide, Or.inr (Or.inl ⟨by decide +kernel, jw_of (z := 832) (by decide +kernel), jw_of (z := 23) (by decide +kernel)⟩), by decide +kernel⟩
def M_F_trySmear : jMe := ("FootMaps", prog_1_method_49_code, 3, 0, false)
set_option maxRecDepth 100000 in
theorem ok_F_trySmear : jcdok M_F_trySmear cd_F_trySmear := jcdok_of 74 (by decide +kernel) (fun pc hp => by unfold cd_F_trySmear; rw [j_out hp]; rfl)
set_option maxRecDepth 100000 in
theorem mok_F_trySmear : jMok 94 prog_1_method_49_code 3 (Option.some FieldType.int) := ⟨List.mem_filter.mpr ⟨List.mem_append_right _ (show _ ∈ tables_1 from List.mem_append_right _ (List.mem_append_right _ (List.mem_append_right _ (List.mem_append_left _ (List.mem_of_getElem? (i := 8) rfl))))), rfl⟩, jw_of (z := 115) (by decide +kernel), by decide, Or.inr (Or.inl ⟨by decide +kernel, jw_of (z := 841) (by decide +kernel), jw_of (z := 24) (by decide +kernel)⟩), by decide +kernel⟩
def M_F_tryPass : jMe := ("FootMaps", prog_1_method_50_code, 1, 0, false)
set_option maxRecDepth 100000 in
theorem ok_F_tryPass : jcdok M_F_tryPass cd_F_tryPass := jcdok_of 57 (by decide +kernel) (fun pc hp => by unfold cd_F_tryPass; rw [j_out hp]; rfl)
set_option maxRecDepth 100000 in
theorem mok_F_tryPass : jMok 95 prog_1_method_50_code 1 (Option.some FieldType.int) := ⟨List.mem_filter.mpr ⟨List.mem_append_right _ (show _ ∈ tables_1 from List.mem_append_right _ (List.mem_append_right _ (List.mem_append_right _ (List.mem_append_left _ (List.mem_of_getElem? (i := 14) rfl))))), rfl⟩, jw_of (z := 115) (by decide +kernel), by decide, Or.inr (Or.inl ⟨by decide +kernel, jw_of (z := 847) (by decide +kernel), jw_of (z := 25) (by decide +kernel)⟩), by decide +kernel⟩
def M_F_runOnce : jMe := ("FootMaps", prog_1_method_51_code, 8, 1, false)
set_option maxRecDepth 100000 in
theorem ok_F_runOnce : jcdok M_F_runOnce cd_F_runOnce := jcdok_of 216 (by decide +kernel) (fun pc hp => by unfold cd_F_runOnce; rw [j_out hp]; rfl)
set_option maxRecDepth 100000 in
theorem mok_F_runOnce : jMok 83 prog_1_method_51_code 8 (Option.some FieldType.boolean) := ⟨List.mem_filter.mpr ⟨List.mem_append_right _ (show _ ∈ tables_1 from List.mem_append_right _ (List.mem_append_right _ (List.mem_append_left _ (List.mem_of_getElem? (i := 199) rfl)))), rfl⟩, jw_of (z := 115) (by decide +kernel), by decide, Or.inr (Or.inl ⟨by decide +kernel, jw_of (z := 792) (by decide +kernel), jw_of (z := 21) (by decide +kernel)⟩), by decide +kernel⟩
def M_F_orders : jMe := ("FootMaps", prog_1_method_15_code, 4, 0, false)
set_option maxRecDepth 100000 in
theorem ok_F_orders : jcdok M_F_orders cd_F_orders := jcdok_of 158 (by decide +kernel) (fun pc hp => by unfold cd_F_orders; rw [j_out hp]; rfl)
set_option maxRecDepth 100000 in
theorem mok_F_orders : jMok 80 prog_1_method_15_code 4 (Option.some FieldType.int) := ⟨List.mem_filter.mpr ⟨List.mem_append_right _ (show _ ∈ tables_1 from List.mem_append_right _ (List.mem_append_right _ (List.mem_append_left _ (List.mem_of_getElem? (i := 184) rfl)))), rfl⟩, jw_of (z := 115) (by decide +kernel), by decide, Or.inr (Or.inl ⟨by decide +kernel, jw_of (z := 776) (by decide +kernel), jw_of (z := 777) (by decide +kernel)⟩), by decide +kernel⟩
def M_F_fault : jMe := ("FootMaps", prog_1_method_16_code, 1, 0, false)
set_option maxRecDepth 100000 in
theorem ok_F_fault : jcdok M_F_fault cd_F_fault := jcdok_of 8 (by decide +kernel) (fun pc hp => by unfold cd_F_fault; rw [j_out hp]; rfl)
set_option maxRecDepth 100000 in
theorem mok_F_fault : jMok 96 prog_1_method_16_code 1 (Option.some FieldType.int) := ⟨List.mem_filter.mpr ⟨List.mem_append_right _ (show _ ∈ tables_1 from List.mem_append_right _ (List.mem_append_right _ (List.mem_append_right _ (List.mem_append_left _ (List.mem_of_getElem? (i := 18) rfl))))), rfl⟩, jw_of (z := 115) (by decide +kernel), by decide, Or.inr (Or.inl ⟨by decide +kernel, jw_of (z := 850) (by decide +kernel), jw_of (z := 851) (by decide +kernel)⟩), by decide +kernel⟩
def M_F_stopped : jMe := ("FootMaps", prog_1_method_17_code, 1, 0, false)
set_option maxRecDepth 100000 in
theorem ok_F_stopped : jcdok M_F_stopped cd_F_stopped := jcdok_of 5 (by decide +kernel) (fun pc hp => by unfold cd_F_stopped; rw [j_out hp]; rfl)
set_option maxRecDepth 100000 in
theorem mok_F_stopped : jMok 97 prog_1_method_17_code 1 (Option.some FieldType.int) := ⟨List.mem_filter.mpr ⟨List.mem_append_right _ (show _ ∈ tables_1 from List.mem_append_right _ (List.mem_append_right _ (List.mem_append_right _ (List.mem_append_left _ (List.mem_of_getElem? (i := 22) rfl))))), rfl⟩, jw_of (z := 115) (by decide +kernel), by decide, Or.inr (Or.inl ⟨by decide +kernel, jw_of (z := 854) (by decide +kernel), jw_of (z := 855) (by decide +kernel)⟩), by decide +kernel⟩
def M_F_force : jMe := ("FootMaps", prog_1_method_18_code, 3, 0, false)
set_option maxRecDepth 100000 in
theorem ok_F_force : jcdok M_F_force cd_F_force := jcdok_of 45 (by decide +kernel) (fun pc hp => by unfold cd_F_force; rw [j_out hp]; rfl)
set_option maxRecDepth 100000 in
theorem mok_F_force : jMok 98 prog_1_method_18_code 3 (Option.some FieldType.int) := ⟨List.mem_filter.mpr ⟨List.mem_append_right _ (show _ ∈ tables_1 from List.mem_append_right _ (List.mem_append_right _ (List.mem_append_right _ (List.mem_append_left _ (List.mem_of_getElem? (i := 26) rfl))))), rfl⟩, jw_of (z := 115) (by decide +kernel), by decide, Or.inr (Or.inl ⟨by decide +kernel, jw_of (z := 858) (by decide +kernel), jw_of (z := 859) (by decide +kernel)⟩), by decide +kernel⟩
def M_F_settle : jMe := ("FootMaps", prog_1_method_46_code, 2, 0, false)
set_option maxRecDepth 100000 in
theorem ok_F_settle : jcdok M_F_settle cd_F_settle := jcdok_of 18 (by decide +kernel) (fun pc hp => by unfold cd_F_settle; rw [j_out hp]; rfl)
set_option maxRecDepth 100000 in
theorem mok_F_settle : jMok 100 prog_1_method_46_code 2 (Option.some FieldType.int) := ⟨List.mem_filter.mpr ⟨List.mem_append_right _ (show _ ∈ tables_1 from List.mem_append_right _ (List.mem_append_right _ (List.mem_append_right _ (List.mem_append_left _ (List.mem_of_getElem? (i := 35) rfl))))), rfl⟩, jw_of (z := 115) (by decide +kernel), by decide, Or.inr (Or.inl ⟨by decide +kernel, jw_of (z := 868) (by decide +kernel), jw_of (z := 26) (by decide +kernel)⟩), by decide +kernel⟩
def M_F_step : jMe := ("FootMaps", prog_1_method_19_code, 3, 0, false)
set_option maxRecDepth 100000 in
theorem ok_F_step : jcdok M_F_step cd_F_step := jcdok_of 11 (by decide +kernel) (fun pc hp => by unfold cd_F_step; rw [j_out hp]; rfl)
set_option maxRecDepth 100000 in
theorem mok_F_step : jMok 99 prog_1_method_19_code 3 (Option.some FieldType.int) := ⟨List.mem_filter.mpr ⟨List.mem_append_right _ (show _ ∈ tables_1 from List.mem_append_right _ (List.mem_append_right _ (List.mem_append_right _ (List.mem_append_left _ (List.mem_of_getElem? (i := 31) rfl))))), rfl⟩, jw_of (z := 115) (by decide +kernel), by decide, Or.inr (Or.inl ⟨by decide +kernel, jw_of (z := 863) (by decide +kernel), jw_of (z := 864) (by decide +kernel)⟩), by decide +kernel⟩
def M_F_join : jMe := ("FootMaps", prog_1_method_20_code, 3, 0, false)
set_option maxRecDepth 100000 in
theorem ok_F_join : jcdok M_F_join cd_F_join := jcdok_of 11 (by decide +kernel) (fun pc hp => by unfold cd_F_join; rw [j_out hp]; rfl)
set_option maxRecDepth 100000 in
theorem mok_F_join : jMok 101 prog_1_method_20_code 3 (Option.some FieldType.int) := ⟨List.mem_filter.mpr ⟨List.mem_append_right _ (show _ ∈ tables_1 from List.mem_append_right _ (List.mem_append_right _ (List.mem_append_right _ (List.mem_append_left _ (List.mem_of_getElem? (i := 39) rfl))))), rfl⟩, jw_of (z := 115) (by decide +kernel), by decide, Or.inr (Or.inl ⟨by decide +kernel, jw_of (z := 871) (by decide +kernel), jw_of (z := 872) (by decide +kernel)⟩), by decide +kernel⟩
