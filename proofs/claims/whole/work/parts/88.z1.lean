def M_F_smear : jMe := ("FootMaps", prog_1_method_21_code, 3, 0, false)
set_option maxRecDepth 100000 in
theorem ok_F_smear : jcdok M_F_smear cd_F_smear := jcdok_of 11 (by decide +kernel) (fun pc hp => by unfold cd_F_smear; rw [j_out hp]; rfl)
set_option maxRecDepth 100000 in
theorem mok_F_smear : jMok 102 prog_1_method_21_code 3 (Option.some FieldType.int) := ⟨List.mem_filter.mpr ⟨List.mem_append_right _ (show _ ∈ tables_1 from List.mem_append_right _ (List.mem_append_right _ (List.mem_append_right _ (List.mem_append_left _ (List.mem_of_getElem? (i := 43) rfl))))), rfl⟩, jw_of (z := 115) (by decide +kernel), by decide, Or.inr (Or.inl ⟨by decide +kernel, jw_of (z := 875) (by decide +kernel), jw_of (z := 876) (by decide +kernel)⟩), by decide +kernel⟩
def M_F_pass : jMe := ("FootMaps", prog_1_method_22_code, 1, 0, false)
set_option maxRecDepth 100000 in
theorem ok_F_pass : jcdok M_F_pass cd_F_pass := jcdok_of 9 (by decide +kernel) (fun pc hp => by unfold cd_F_pass; rw [j_out hp]; rfl)
set_option maxRecDepth 100000 in
theorem mok_F_pass : jMok 103 prog_1_method_22_code 1 (Option.some FieldType.int) := ⟨List.mem_filter.mpr ⟨List.mem_append_right _ (show _ ∈ tables_1 from List.mem_append_right _ (List.mem_append_right _ (List.mem_append_right _ (List.mem_append_left _ (List.mem_of_getElem? (i := 47) rfl))))), rfl⟩, jw_of (z := 115) (by decide +kernel), by decide, Or.inr (Or.inl ⟨by decide +kernel, jw_of (z := 879) (by decide +kernel), jw_of (z := 880) (by decide +kernel)⟩), by decide +kernel⟩
def M_D_takeBack : jMe := ("FootMaps$Deeds", prog_2_method_5_code, 2, 0, false)
set_option maxRecDepth 100000 in
theorem ok_D_takeBack : jcdok M_D_takeBack cd_D_takeBack := jcdok_of 206 (by decide +kernel) (fun pc hp => by unfold cd_D_takeBack; rw [j_out hp]; rfl)
set_option maxRecDepth 100000 in
theorem mok_D_takeBack : jMok 105 prog_2_method_5_code 2 (Option.some FieldType.int) := ⟨List.mem_filter.mpr ⟨List.mem_append_right _ (show _ ∈ tables_1 from List.mem_append_right _ (List.mem_append_right _ (List.mem_append_right _ (List.mem_append_left _ (List.mem_of_getElem? (i := 55) rfl))))), rfl⟩, jw_of (z := 117) (by decide +kernel), by decide, Or.inr (Or.inl ⟨by decide +kernel, jw_of (z := 887) (by decide +kernel), jw_of (z := 888) (by decide +kernel)⟩), by decide +kernel⟩
def M_F_undo : jMe := ("FootMaps", prog_1_method_23_code, 1, 0, false)
set_option maxRecDepth 100000 in
theorem ok_F_undo : jcdok M_F_undo cd_F_undo := jcdok_of 33 (by decide +kernel) (fun pc hp => by unfold cd_F_undo; rw [j_out hp]; rfl)
set_option maxRecDepth 100000 in
theorem mok_F_undo : jMok 104 prog_1_method_23_code 1 (Option.some FieldType.int) := ⟨List.mem_filter.mpr ⟨List.mem_append_right _ (show _ ∈ tables_1 from List.mem_append_right _ (List.mem_append_right _ (List.mem_append_right _ (List.mem_append_left _ (List.mem_of_getElem? (i := 51) rfl))))), rfl⟩, jw_of (z := 115) (by decide +kernel), by decide, Or.inr (Or.inl ⟨by decide +kernel, jw_of (z := 883) (by decide +kernel), jw_of (z := 884) (by decide +kernel)⟩), by decide +kernel⟩
def M_W_priceSteps : jMe := ("FootMaps$Walks", prog_7_method_2_code, 10, 4, false)
set_option maxRecDepth 100000 in
theorem ok_W_priceSteps : jcdok M_W_priceSteps cd_W_priceSteps := jcdok_of 115 (by decide +kernel) (fun pc hp => by unfold cd_W_priceSteps; rw [j_out hp]; rfl)
set_option maxRecDepth 100000 in
theorem mok_W_priceSteps : jMok 107 prog_7_method_2_code 10 (Option.none : Option FieldType) := ⟨List.mem_filter.mpr ⟨List.mem_append_right _ (show _ ∈ tables_1 from List.mem_append_right _ (List.mem_append_right _ (List.mem_append_right _ (List.mem_append_left _ (List.mem_of_getElem? (i := 64) rfl))))), rfl⟩, jw_of (z := 121) (by decide +kernel), by decide, Or.inr (Or.inl ⟨by decide +kernel, jw_of (z := 896) (by decide +kernel), jw_of (z := 897) (by decide +kernel)⟩), by decide +kernel⟩
def M_Ja_fill : jMe := ("java/util/Arrays", prog_17_method_103_code, 4, 4, false)
set_option maxRecDepth 100000 in
theorem ok_Ja_fill : jcdok M_Ja_fill cd_Ja_fill := jcdok_of 21 (by decide +kernel) (fun pc hp => by unfold cd_Ja_fill; rw [j_out hp]; rfl)
set_option maxRecDepth 100000 in
theorem mok_Ja_fill : jMok 110 prog_17_method_103_code 4 (Option.none : Option FieldType) := ⟨List.mem_filter.mpr ⟨List.mem_append_right _ (show _ ∈ tables_1 from List.mem_append_right _ (List.mem_append_right _ (List.mem_append_right _ (List.mem_append_left _ (List.mem_of_getElem? (i := 79) rfl))))), rfl⟩, jw_of (z := 129) (by decide +kernel), by decide, Or.inl ⟨by decide +kernel, jw_of (z := 912) (by decide +kernel)⟩, by decide +kernel⟩
def M_W_priceOf : jMe := ("FootMaps$Walks", prog_7_method_3_code, 3, 0, false)
set_option maxRecDepth 100000 in
theorem ok_W_priceOf : jcdok M_W_priceOf cd_W_priceOf := jcdok_of 13 (by decide +kernel) (fun pc hp => by unfold cd_W_priceOf; rw [j_out hp]; rfl)
set_option maxRecDepth 100000 in
theorem mok_W_priceOf : jMok 111 prog_7_method_3_code 3 (Option.some FieldType.int) := ⟨List.mem_filter.mpr ⟨List.mem_append_right _ (show _ ∈ tables_1 from List.mem_append_right _ (List.mem_append_right _ (List.mem_append_right _ (List.mem_append_left _ (List.mem_of_getElem? (i := 83) rfl))))), rfl⟩, jw_of (z := 121) (by decide +kernel), by decide, Or.inr (Or.inl ⟨by decide +kernel, jw_of (z := 916) (by decide +kernel), jw_of (z := 28) (by decide +kernel)⟩), by decide +kernel⟩
def M_W_countAll : jMe := ("FootMaps$Walks", prog_7_method_6_code, 11, 4, false)
set_option maxRecDepth 100000 in
theorem ok_W_countAll : jcdok M_W_countAll cd_W_countAll := jcdok_of 181 (by decide +kernel) (fun pc hp => by unfold cd_W_countAll; rw [j_out hp]; rfl)
set_option maxRecDepth 100000 in
theorem mok_W_countAll : jMok 109 prog_7_method_6_code 11 (Option.none : Option FieldType) := ⟨List.mem_filter.mpr ⟨List.mem_append_right _ (show _ ∈ tables_1 from List.mem_append_right _ (List.mem_append_right _ (List.mem_append_right _ (List.mem_append_left _ (List.mem_of_getElem? (i := 75) rfl))))), rfl⟩, jw_of (z := 121) (by decide +kernel), by decide, Or.inr (Or.inl ⟨by decide +kernel, jw_of (z := 908) (by decide +kernel), jw_of (z := 27) (by decide +kernel)⟩), by decide +kernel⟩
def M_W_countTo : jMe := ("FootMaps$Walks", prog_7_method_4_code, 2, 4, false)
set_option maxRecDepth 100000 in
theorem ok_W_countTo : jcdok M_W_countTo cd_W_countTo := jcdok_of 7 (by decide +kernel) (fun pc hp => by unfold cd_W_countTo; rw [j_out hp]; rfl)
set_option maxRecDepth 100000 in
theorem mok_W_countTo : jMok 108 prog_7_method_4_code 2 (Option.none : Option FieldType) := ⟨List.mem_filter.mpr ⟨List.mem_append_right _ (show _ ∈ tables_1 from List.mem_append_right _ (List.mem_append_right _ (List.mem_append_right _ (List.mem_append_left _ (List.mem_of_getElem? (i := 71) rfl))))), rfl⟩, jw_of (z := 121) (by decide +kernel), by decide, Or.inr (Or.inl ⟨by decide +kernel, jw_of (z := 903) (by decide +kernel), jw_of (z := 904) (by decide +kernel)⟩), by decide +kernel⟩
def M_W_nextOfWay : jMe := ("FootMaps$Walks", prog_7_method_12_code, 8, 0, false)
set_option maxRecDepth 100000 in
theorem ok_W_nextOfWay : jcdok M_W_nextOfWay cd_W_nextOfWay := jcdok_of 80 (by decide +kernel) (fun pc hp => by unfold cd_W_nextOfWay; rw [j_out hp]; rfl)
set_option maxRecDepth 100000 in
theorem mok_W_nextOfWay : jMok 113 prog_7_method_12_code 8 (Option.some FieldType.int) := ⟨List.mem_filter.mpr ⟨List.mem_append_right _ (show _ ∈ tables_1 from List.mem_append_right _ (List.mem_append_right _ (List.mem_append_right _ (List.mem_append_left _ (List.mem_of_getElem? (i := 92) rfl))))), rfl⟩, jw_of (z := 121) (by decide +kernel), by decide, Or.inr (Or.inl ⟨by decide +kernel, jw_of (z := 925) (by decide +kernel), jw_of (z := 29) (by decide +kernel)⟩), by decide +kernel⟩
def M_W_wayTold : jMe := ("FootMaps$Walks", prog_7_method_11_code, 5, 0, false)
set_option maxRecDepth 100000 in
theorem ok_W_wayTold : jcdok M_W_wayTold cd_W_wayTold := jcdok_of 73 (by decide +kernel) (fun pc hp => by unfold cd_W_wayTold; rw [j_out hp]; rfl)
set_option maxRecDepth 100000 in
theorem mok_W_wayTold : jMok 112 prog_7_method_11_code 5 (Option.some FieldType.int) := ⟨List.mem_filter.mpr ⟨List.mem_append_right _ (show _ ∈ tables_1 from List.mem_append_right _ (List.mem_append_right _ (List.mem_append_right _ (List.mem_append_left _ (List.mem_of_getElem? (i := 88) rfl))))), rfl⟩, jw_of (z := 121) (by decide +kernel), by decide, Or.inr (Or.inl ⟨by decide +kernel, jw_of (z := 920) (by decide +kernel), jw_of (z := 921) (by decide +kernel)⟩), by decide +kernel⟩
def M_F_way : jMe := ("FootMaps", prog_1_method_24_code, 4, 0, false)
set_option maxRecDepth 100000 in
theorem ok_F_way : jcdok M_F_way cd_F_way := jcdok_of 71 (by decide +kernel) (fun pc hp => by unfold cd_F_way; rw [j_out hp]; rfl)
set_option maxRecDepth 100000 in
theorem mok_F_way : jMok 106 prog_1_method_24_code 4 (Option.some FieldType.int) := ⟨List.mem_filter.mpr ⟨List.mem_append_right _ (show _ ∈ tables_1 from List.mem_append_right _ (List.mem_append_right _ (List.mem_append_right _ (List.mem_append_left _ (List.mem_of_getElem? (i := 59) rfl))))), rfl⟩, jw_of (z := 115) (by decide +kernel), by decide, Or.inr (Or.inl ⟨by decide +kernel, jw_of (z := 891) (by decide +kernel), jw_of (z := 892) (by decide +kernel)⟩), by decide +kernel⟩
def M_F_sure : jMe := ("FootMaps", prog_1_method_25_code, 4, 0, false)
set_option maxRecDepth 100000 in
theorem ok_F_sure : jcdok M_F_sure cd_F_sure := jcdok_of 78 (by decide +kernel) (fun pc hp => by unfold cd_F_sure; rw [j_out hp]; rfl)
set_option maxRecDepth 100000 in
theorem mok_F_sure : jMok 114 prog_1_method_25_code 4 (Option.some FieldType.int) := ⟨List.mem_filter.mpr ⟨List.mem_append_right _ (show _ ∈ tables_1 from List.mem_append_right _ (List.mem_append_right _ (List.mem_append_right _ (List.mem_append_left _ (List.mem_of_getElem? (i := 98) rfl))))), rfl⟩, jw_of (z := 115) (by decide +kernel), by decide, Or.inr (Or.inl ⟨by decide +kernel, jw_of (z := 930) (by decide +kernel), jw_of (z := 931) (by decide +kernel)⟩), by decide +kernel⟩
def M_W_pickedOut : jMe := ("FootMaps$Walks", prog_7_method_14_code, 5, 0, false)
set_option maxRecDepth 100000 in
theorem ok_W_pickedOut : jcdok M_W_pickedOut cd_W_pickedOut := jcdok_of 46 (by decide +kernel) (fun pc hp => by unfold cd_W_pickedOut; rw [j_out hp]; rfl)
set_option maxRecDepth 100000 in
theorem mok_W_pickedOut : jMok 117 prog_7_method_14_code 5 (Option.some FieldType.int) := ⟨List.mem_filter.mpr ⟨List.mem_append_right _ (show _ ∈ tables_1 from List.mem_append_right _ (List.mem_append_right _ (List.mem_append_right _ (List.mem_append_left _ (List.mem_of_getElem? (i := 111) rfl))))), rfl⟩, jw_of (z := 121) (by decide +kernel), by decide, Or.inl ⟨by decide +kernel, jw_of (z := 944) (by decide +kernel)⟩, by decide +kernel⟩
def M_W_seeWanted : jMe := ("FootMaps$Walks", prog_7_method_13_code, 8, 0, false)
set_option maxRecDepth 100000 in
theorem ok_W_seeWanted : jcdok M_W_seeWanted cd_W_seeWanted := jcdok_of 74 (by decide +kernel) (fun pc hp => by unfold cd_W_seeWanted; rw [j_out hp]; rfl)
set_option maxRecDepth 100000 in
theorem mok_W_seeWanted : jMok 116 prog_7_method_13_code 8 (Option.some FieldType.int) := ⟨List.mem_filter.mpr ⟨List.mem_append_right _ (show _ ∈ tables_1 from List.mem_append_right _ (List.mem_append_right _ (List.mem_append_right _ (List.mem_append_left _ (List.mem_of_getElem? (i := 106) rfl))))), rfl⟩, jw_of (z := 121) (by decide +kernel), by decide, Or.inr (Or.inl ⟨by decide +kernel, jw_of (z := 938) (by decide +kernel), jw_of (z := 939) (by decide +kernel)⟩), by decide +kernel⟩
def M_W_tourCountBy : jMe := ("FootMaps$Walks", prog_7_method_17_code, 6, 0, false)
set_option maxRecDepth 100000 in
theorem ok_W_tourCountBy : jcdok M_W_tourCountBy cd_W_tourCountBy := jcdok_of 58 (by decide +kernel) (fun pc hp => by unfold cd_W_tourCountBy; rw [j_out hp]; rfl)
set_option maxRecDepth 100000 in
theorem mok_W_tourCountBy : jMok 120 prog_7_method_17_code 6 (Option.some FieldType.int) := ⟨List.mem_filter.mpr ⟨List.mem_append_right _ (show _ ∈ tables_1 from List.mem_append_right _ (List.mem_append_right _ (List.mem_append_right _ (List.mem_append_left _ (List.mem_of_getElem? (i := 123) rfl))))), rfl⟩, jw_of (z := 121) (by decide +kernel), by decide, Or.inr (Or.inl ⟨by decide +kernel, jw_of (z := 956) (by decide +kernel), jw_of (z := 31) (by decide +kernel)⟩), by decide +kernel⟩
def M_W_sweepTours : jMe := ("FootMaps$Walks", prog_7_method_16_code, 6, 1, false)
set_option maxRecDepth 100000 in
theorem ok_W_sweepTours : jcdok M_W_sweepTours cd_W_sweepTours := jcdok_of 74 (by decide +kernel) (fun pc hp => by unfold cd_W_sweepTours; rw [j_out hp]; rfl)
set_option maxRecDepth 100000 in
theorem mok_W_sweepTours : jMok 119 prog_7_method_16_code 6 (Option.some FieldType.boolean) := ⟨List.mem_filter.mpr ⟨List.mem_append_right _ (show _ ∈ tables_1 from List.mem_append_right _ (List.mem_append_right _ (List.mem_append_right _ (List.mem_append_left _ (List.mem_of_getElem? (i := 119) rfl))))), rfl⟩, jw_of (z := 121) (by decide +kernel), by decide, Or.inr (Or.inl ⟨by decide +kernel, jw_of (z := 952) (by decide +kernel), jw_of (z := 30) (by decide +kernel)⟩), by decide +kernel⟩
def M_W_countTours : jMe := ("FootMaps$Walks", prog_7_method_15_code, 5, 4, false)
set_option maxRecDepth 100000 in
theorem ok_W_countTours : jcdok M_W_countTours cd_W_countTours := jcdok_of 78 (by decide +kernel) (fun pc hp => by unfold cd_W_countTours; rw [j_out hp]; rfl)
set_option maxRecDepth 100000 in
theorem mok_W_countTours : jMok 118 prog_7_method_15_code 5 (Option.none : Option FieldType) := ⟨List.mem_filter.mpr ⟨List.mem_append_right _ (show _ ∈ tables_1 from List.mem_append_right _ (List.mem_append_right _ (List.mem_append_right _ (List.mem_append_left _ (List.mem_of_getElem? (i := 115) rfl))))), rfl⟩, jw_of (z := 121) (by decide +kernel), by decide, Or.inr (Or.inl ⟨by decide +kernel, jw_of (z := 947) (by decide +kernel), jw_of (z := 948) (by decide +kernel)⟩), by decide +kernel⟩
def M_W_nextOfTour : jMe := ("FootMaps$Walks", prog_7_method_19_code, 8, 0, false)
set_option maxRecDepth 100000 in
theorem ok_W_nextOfTour : jcdok M_W_nextOfTour cd_W_nextOfTour := jcdok_of 72 (by decide +kernel) (fun pc hp => by unfold cd_W_nextOfTour; rw [j_out hp]; rfl)
set_option maxRecDepth 100000 in
theorem mok_W_nextOfTour : jMok 122 prog_7_method_19_code 8 (Option.some FieldType.int) := ⟨List.mem_filter.mpr ⟨List.mem_append_right _ (show _ ∈ tables_1 from List.mem_append_right _ (List.mem_append_right _ (List.mem_append_right _ (List.mem_append_left _ (List.mem_of_getElem? (i := 131) rfl))))), rfl⟩, jw_of (z := 121) (by decide +kernel), by decide, Or.inr (Or.inl ⟨by decide +kernel, jw_of (z := 964) (by decide +kernel), jw_of (z := 32) (by decide +kernel)⟩), by decide +kernel⟩
def M_W_tourTold : jMe := ("FootMaps$Walks", prog_7_method_18_code, 8, 0, false)
set_option maxRecDepth 100000 in
theorem ok_W_tourTold : jcdok M_W_tourTold cd_W_tourTold := jcdok_of 101 (by decide +kernel) (fun pc hp => by unfold cd_W_tourTold; rw [j_out hp]; rfl)
set_option maxRecDepth 100000 in
theorem mok_W_tourTold : jMok 121 prog_7_method_18_code 8 (Option.some FieldType.int) := ⟨List.mem_filter.mpr ⟨List.mem_append_right _ (show _ ∈ tables_1 from List.mem_append_right _ (List.mem_append_right _ (List.mem_append_right _ (List.mem_append_left _ (List.mem_of_getElem? (i := 127) rfl))))), rfl⟩, jw_of (z := 121) (by decide +kernel), by decide, Or.inr (Or.inl ⟨by decide +kernel, jw_of (z := 959) (by decide +kernel), jw_of (z := 960) (by decide +kernel)⟩), by decide +kernel⟩
def M_F_tour : jMe := ("FootMaps", prog_1_method_26_code, 4, 0, false)
set_option maxRecDepth 100000 in
theorem ok_F_tour : jcdok M_F_tour cd_F_tour := jcdok_of 89 (by decide +kernel) (fun pc hp => by unfold cd_F_tour; rw [j_out hp]; rfl)
set_option maxRecDepth 100000 in
theorem mok_F_tour : jMok 115 prog_1_method_26_code 4 (Option.some FieldType.int) := ⟨List.mem_filter.mpr ⟨List.mem_append_right _ (show _ ∈ tables_1 from List.mem_append_right _ (List.mem_append_right _ (List.mem_append_right _ (List.mem_append_left _ (List.mem_of_getElem? (i := 102) rfl))))), rfl⟩, jw_of (z := 115) (by decide +kernel), by decide, Or.inr (Or.inl ⟨by decide +kernel, jw_of (z := 934) (by decide +kernel), jw_of (z := 935) (by decide +kernel)⟩), by decide +kernel⟩
def M_W_countFrom : jMe := ("FootMaps$Walks", prog_7_method_5_code, 2, 4, false)
set_option maxRecDepth 100000 in
theorem ok_W_countFrom : jcdok M_W_countFrom cd_W_countFrom := jcdok_of 7 (by decide +kernel) (fun pc hp => by unfold cd_W_countFrom; rw [j_out hp]; rfl)
set_option maxRecDepth 100000 in
theorem mok_W_countFrom : jMok 124 prog_7_method_5_code 2 (Option.none : Option FieldType) := ⟨List.mem_filter.mpr ⟨List.mem_append_right _ (show _ ∈ tables_1 from List.mem_append_right _ (List.mem_append_right _ (List.mem_append_right _ (List.mem_append_left _ (List.mem_of_getElem? (i := 139) rfl))))), rfl⟩, jw_of (z := 121) (by decide +kernel), by decide, Or.inr (Or.inl ⟨by decide +kernel, jw_of (z := 971) (by decide +kernel), jw_of (z := 972) (by decide +kernel)⟩), by decide +kernel⟩
def M_W_keepCounts : jMe := ("FootMaps$Walks", prog_7_method_7_code, 1, 4, false)
set_option maxRecDepth 100000 in
theorem ok_W_keepCounts : jcdok M_W_keepCounts cd_W_keepCounts := jcdok_of 16 (by decide +kernel) (fun pc hp => by unfold cd_W_keepCounts; rw [j_out hp]; rfl)
set_option maxRecDepth 100000 in
theorem mok_W_keepCounts : jMok 125 prog_7_method_7_code 1 (Option.none : Option FieldType) := ⟨List.mem_filter.mpr ⟨List.mem_append_right _ (show _ ∈ tables_1 from List.mem_append_right _ (List.mem_append_right _ (List.mem_append_right _ (List.mem_append_left _ (List.mem_of_getElem? (i := 143) rfl))))), rfl⟩, jw_of (z := 121) (by decide +kernel), by decide, Or.inr (Or.inl ⟨by decide +kernel, jw_of (z := 975) (by decide +kernel), jw_of (z := 976) (by decide +kernel)⟩), by decide +kernel⟩
def M_W_greaterCount : jMe := ("FootMaps$Walks", prog_7_method_8_code, 2, 0, false)
set_option maxRecDepth 100000 in
theorem ok_W_greaterCount : jcdok M_W_greaterCount cd_W_greaterCount := jcdok_of 16 (by decide +kernel) (fun pc hp => by unfold cd_W_greaterCount; rw [j_out hp]; rfl)
set_option maxRecDepth 100000 in
theorem mok_W_greaterCount : jMok 127 prog_7_method_8_code 2 (Option.some FieldType.int) := ⟨List.mem_filter.mpr ⟨List.mem_append_right _ (show _ ∈ tables_1 from List.mem_append_right _ (List.mem_append_right _ (List.mem_append_right _ (List.mem_append_left _ (List.mem_of_getElem? (i := 152) rfl))))), rfl⟩, jw_of (z := 121) (by decide +kernel), by decide, Or.inr (Or.inl ⟨by decide +kernel, jw_of (z := 984) (by decide +kernel), jw_of (z := 985) (by decide +kernel)⟩), by decide +kernel⟩
def M_W_soonestMeeting : jMe := ("FootMaps$Walks", prog_7_method_9_code, 4, 0, false)
set_option maxRecDepth 100000 in
theorem ok_W_soonestMeeting : jcdok M_W_soonestMeeting cd_W_soonestMeeting := jcdok_of 38 (by decide +kernel) (fun pc hp => by unfold cd_W_soonestMeeting; rw [j_out hp]; rfl)
set_option maxRecDepth 100000 in
theorem mok_W_soonestMeeting : jMok 126 prog_7_method_9_code 4 (Option.some FieldType.int) := ⟨List.mem_filter.mpr ⟨List.mem_append_right _ (show _ ∈ tables_1 from List.mem_append_right _ (List.mem_append_right _ (List.mem_append_right _ (List.mem_append_left _ (List.mem_of_getElem? (i := 148) rfl))))), rfl⟩, jw_of (z := 121) (by decide +kernel), by decide, Or.inr (Or.inl ⟨by decide +kernel, jw_of (z := 980) (by decide +kernel), jw_of (z := 981) (by decide +kernel)⟩), by decide +kernel⟩
def M_F_meet : jMe := ("FootMaps", prog_1_method_27_code, 5, 0, false)
set_option maxRecDepth 100000 in
theorem ok_F_meet : jcdok M_F_meet cd_F_meet := jcdok_of 159 (by decide +kernel) (fun pc hp => by unfold cd_F_meet; rw [j_out hp]; rfl)
set_option maxRecDepth 100000 in
theorem mok_F_meet : jMok 123 prog_1_method_27_code 5 (Option.some FieldType.int) := ⟨List.mem_filter.mpr ⟨List.mem_append_right _ (show _ ∈ tables_1 from List.mem_append_right _ (List.mem_append_right _ (List.mem_append_right _ (List.mem_append_left _ (List.mem_of_getElem? (i := 135) rfl))))), rfl⟩, jw_of (z := 115) (by decide +kernel), by decide, Or.inr (Or.inl ⟨by decide +kernel, jw_of (z := 967) (by decide +kernel), jw_of (z := 968) (by decide +kernel)⟩), by decide +kernel⟩
def M_F_stale : jMe := ("FootMaps", prog_1_method_28_code, 4, 0, false)
set_option maxRecDepth 100000 in
theorem ok_F_stale : jcdok M_F_stale cd_F_stale := jcdok_of 70 (by decide +kernel) (fun pc hp => by unfold cd_F_stale; rw [j_out hp]; rfl)
set_option maxRecDepth 100000 in
theorem mok_F_stale : jMok 128 prog_1_method_28_code 4 (Option.some FieldType.int) := ⟨List.mem_filter.mpr ⟨List.mem_append_right _ (show _ ∈ tables_1 from List.mem_append_right _ (List.mem_append_right _ (List.mem_append_right _ (List.mem_append_left _ (List.mem_of_getElem? (i := 158) rfl))))), rfl⟩, jw_of (z := 115) (by decide +kernel), by decide, Or.inr (Or.inl ⟨by decide +kernel, jw_of (z := 990) (by decide +kernel), jw_of (z := 991) (by decide +kernel)⟩), by decide +kernel⟩
def M_L_wouldGain : jMe := ("FootMaps$Land", prog_3_method_16_code, 3, 1, false)
set_option maxRecDepth 100000 in
theorem ok_L_wouldGain : jcdok M_L_wouldGain cd_L_wouldGain := jcdok_of 31 (by decide +kernel) (fun pc hp => by unfold cd_L_wouldGain; rw [j_out hp]; rfl)
set_option maxRecDepth 100000 in
theorem mok_L_wouldGain : jMok 130 prog_3_method_16_code 3 (Option.some FieldType.boolean) := ⟨List.mem_filter.mpr ⟨List.mem_append_right _ (show _ ∈ tables_1 from List.mem_append_right _ (List.mem_append_right _ (List.mem_append_right _ (List.mem_append_left _ (List.mem_of_getElem? (i := 166) rfl))))), rfl⟩, jw_of (z := 116) (by decide +kernel), by decide, Or.inr (Or.inl ⟨by decide +kernel, jw_of (z := 998) (by decide +kernel), jw_of (z := 999) (by decide +kernel)⟩), by decide +kernel⟩
def M_F_both : jMe := ("FootMaps", prog_1_method_29_code, 5, 0, false)
set_option maxRecDepth 100000 in
theorem ok_F_both : jcdok M_F_both cd_F_both := jcdok_of 97 (by decide +kernel) (fun pc hp => by unfold cd_F_both; rw [j_out hp]; rfl)
set_option maxRecDepth 100000 in
theorem mok_F_both : jMok 129 prog_1_method_29_code 5 (Option.some FieldType.int) := ⟨List.mem_filter.mpr ⟨List.mem_append_right _ (show _ ∈ tables_1 from List.mem_append_right _ (List.mem_append_right _ (List.mem_append_right _ (List.mem_append_left _ (List.mem_of_getElem? (i := 162) rfl))))), rfl⟩, jw_of (z := 115) (by decide +kernel), by decide, Or.inr (Or.inl ⟨by decide +kernel, jw_of (z := 994) (by decide +kernel), jw_of (z := 995) (by decide +kernel)⟩), by decide +kernel⟩
def M_F_glimpse : jMe := ("FootMaps", prog_1_method_30_code, 4, 0, false)
set_option maxRecDepth 100000 in
theorem ok_F_glimpse : jcdok M_F_glimpse cd_F_glimpse := jcdok_of 83 (by decide +kernel) (fun pc hp => by unfold cd_F_glimpse; rw [j_out hp]; rfl)
set_option maxRecDepth 100000 in
theorem mok_F_glimpse : jMok 131 prog_1_method_30_code 4 (Option.some FieldType.int) := ⟨List.mem_filter.mpr ⟨List.mem_append_right _ (show _ ∈ tables_1 from List.mem_append_right _ (List.mem_append_right _ (List.mem_append_right _ (List.mem_append_left _ (List.mem_of_getElem? (i := 170) rfl))))), rfl⟩, jw_of (z := 115) (by decide +kernel), by decide, Or.inr (Or.inl ⟨by decide +kernel, jw_of (z := 1002) (by decide +kernel), jw_of (z := 1003) (by decide +kernel)⟩), by decide +kernel⟩
def M_F_forget : jMe := ("FootMaps", prog_1_method_31_code, 2, 0, false)
set_option maxRecDepth 100000 in
theorem ok_F_forget : jcdok M_F_forget cd_F_forget := jcdok_of 18 (by decide +kernel) (fun pc hp => by unfold cd_F_forget; rw [j_out hp]; rfl)
set_option maxRecDepth 100000 in
theorem mok_F_forget : jMok 132 prog_1_method_31_code 2 (Option.some FieldType.int) := ⟨List.mem_filter.mpr ⟨List.mem_append_right _ (show _ ∈ tables_1 from List.mem_append_right _ (List.mem_append_right _ (List.mem_append_right _ (List.mem_append_left _ (List.mem_of_getElem? (i := 174) rfl))))), rfl⟩, jw_of (z := 115) (by decide +kernel), by decide, Or.inr (Or.inl ⟨by decide +kernel, jw_of (z := 1006) (by decide +kernel), jw_of (z := 1007) (by decide +kernel)⟩), by decide +kernel⟩
def M_L_kindByWay : jMe := ("FootMaps$Land", prog_3_method_19_code, 4, 0, false)
set_option maxRecDepth 100000 in
theorem ok_L_kindByWay : jcdok M_L_kindByWay cd_L_kindByWay := jcdok_of 22 (by decide +kernel) (fun pc hp => by unfold cd_L_kindByWay; rw [j_out hp]; rfl)
set_option maxRecDepth 100000 in
theorem mok_L_kindByWay : jMok 135 prog_3_method_19_code 4 (Option.some FieldType.int) := ⟨List.mem_filter.mpr ⟨List.mem_append_right _ (show _ ∈ tables_1 from List.mem_append_right _ (List.mem_append_right _ (List.mem_append_right _ (List.mem_append_left _ (List.mem_of_getElem? (i := 187) rfl))))), rfl⟩, jw_of (z := 116) (by decide +kernel), by decide, Or.inr (Or.inl ⟨by decide +kernel, jw_of (z := 1019) (by decide +kernel), jw_of (z := 1020) (by decide +kernel)⟩), by decide +kernel⟩
def M_L_yardCells : jMe := ("FootMaps$Land", prog_3_method_20_code, 4, 0, false)
set_option maxRecDepth 100000 in
theorem ok_L_yardCells : jcdok M_L_yardCells cd_L_yardCells := jcdok_of 63 (by decide +kernel) (fun pc hp => by unfold cd_L_yardCells; rw [j_out hp]; rfl)
set_option maxRecDepth 100000 in
theorem mok_L_yardCells : jMok 134 prog_3_method_20_code 4 (Option.some FieldType.int) := ⟨List.mem_filter.mpr ⟨List.mem_append_right _ (show _ ∈ tables_1 from List.mem_append_right _ (List.mem_append_right _ (List.mem_append_right _ (List.mem_append_left _ (List.mem_of_getElem? (i := 182) rfl))))), rfl⟩, jw_of (z := 116) (by decide +kernel), by decide, Or.inr (Or.inl ⟨by decide +kernel, jw_of (z := 1014) (by decide +kernel), jw_of (z := 1015) (by decide +kernel)⟩), by decide +kernel⟩
def M_F_yard : jMe := ("FootMaps", prog_1_method_32_code, 1, 0, false)
set_option maxRecDepth 100000 in
theorem ok_F_yard : jcdok M_F_yard cd_F_yard := jcdok_of 8 (by decide +kernel) (fun pc hp => by unfold cd_F_yard; rw [j_out hp]; rfl)
set_option maxRecDepth 100000 in
theorem mok_F_yard : jMok 133 prog_1_method_32_code 1 (Option.some FieldType.int) := ⟨List.mem_filter.mpr ⟨List.mem_append_right _ (show _ ∈ tables_1 from List.mem_append_right _ (List.mem_append_right _ (List.mem_append_right _ (List.mem_append_left _ (List.mem_of_getElem? (i := 178) rfl))))), rfl⟩, jw_of (z := 115) (by decide +kernel), by decide, Or.inr (Or.inl ⟨by decide +kernel, jw_of (z := 1010) (by decide +kernel), jw_of (z := 1011) (by decide +kernel)⟩), by decide +kernel⟩
def M_F_mostAlike : jMe := ("FootMaps", prog_1_method_54_code, 6, 0, false)
set_option maxRecDepth 100000 in
theorem ok_F_mostAlike : jcdok M_F_mostAlike cd_F_mostAlike := jcdok_of 73 (by decide +kernel) (fun pc hp => by unfold cd_F_mostAlike; rw [j_out hp]; rfl)
set_option maxRecDepth 100000 in
theorem mok_F_mostAlike : jMok 137 prog_1_method_54_code 6 (Option.some FieldType.int) := ⟨List.mem_filter.mpr ⟨List.mem_append_right _ (show _ ∈ tables_1 from List.mem_append_right _ (List.mem_append_right _ (List.mem_append_right _ (List.mem_append_left _ (List.mem_of_getElem? (i := 196) rfl))))), rfl⟩, jw_of (z := 115) (by decide +kernel), by decide, Or.inr (Or.inl ⟨by decide +kernel, jw_of (z := 1029) (by decide +kernel), jw_of (z := 33) (by decide +kernel)⟩), by decide +kernel⟩
def M_F_look : jMe := ("FootMaps", prog_1_method_33_code, 7, 0, false)
set_option maxRecDepth 100000 in
theorem ok_F_look : jcdok M_F_look cd_F_look := jcdok_of 76 (by decide +kernel) (fun pc hp => by unfold cd_F_look; rw [j_out hp]; rfl)
set_option maxRecDepth 100000 in
theorem mok_F_look : jMok 136 prog_1_method_33_code 7 (Option.some FieldType.int) := ⟨List.mem_filter.mpr ⟨List.mem_append_right _ (show _ ∈ tables_1 from List.mem_append_right _ (List.mem_append_right _ (List.mem_append_right _ (List.mem_append_left _ (List.mem_of_getElem? (i := 192) rfl))))), rfl⟩, jw_of (z := 115) (by decide +kernel), by decide, Or.inr (Or.inl ⟨by decide +kernel, jw_of (z := 1024) (by decide +kernel), jw_of (z := 1025) (by decide +kernel)⟩), by decide +kernel⟩
def M_W_countedCells : jMe := ("FootMaps$Walks", prog_7_method_10_code, 3, 0, false)
set_option maxRecDepth 100000 in
theorem ok_W_countedCells : jcdok M_W_countedCells cd_W_countedCells := jcdok_of 35 (by decide +kernel) (fun pc hp => by unfold cd_W_countedCells; rw [j_out hp]; rfl)
set_option maxRecDepth 100000 in
theorem mok_W_countedCells : jMok 139 prog_7_method_10_code 3 (Option.some FieldType.int) := ⟨List.mem_filter.mpr ⟨List.mem_append_right _ (show _ ∈ tables_1 from List.mem_append_right _ (List.mem_append_right _ (List.mem_append_right _ (List.mem_append_left _ (List.mem_of_getElem? (i := 207) rfl))))), rfl⟩, jw_of (z := 121) (by decide +kernel), by decide, Or.inr (Or.inl ⟨by decide +kernel, jw_of (z := 1039) (by decide +kernel), jw_of (z := 1040) (by decide +kernel)⟩), by decide +kernel⟩
def M_F_reach : jMe := ("FootMaps", prog_1_method_34_code, 2, 0, false)
set_option maxRecDepth 100000 in
theorem ok_F_reach : jcdok M_F_reach cd_F_reach := jcdok_of 62 (by decide +kernel) (fun pc hp => by unfold cd_F_reach; rw [j_out hp]; rfl)
set_option maxRecDepth 100000 in
theorem mok_F_reach : jMok 138 prog_1_method_34_code 2 (Option.some FieldType.int) := ⟨List.mem_filter.mpr ⟨List.mem_append_right _ (show _ ∈ tables_1 from List.mem_append_right _ (List.mem_append_right _ (List.mem_append_right _ (List.mem_append_left _ (List.mem_of_getElem? (i := 203) rfl))))), rfl⟩, jw_of (z := 115) (by decide +kernel), by decide, Or.inr (Or.inl ⟨by decide +kernel, jw_of (z := 1035) (by decide +kernel), jw_of (z := 1036) (by decide +kernel)⟩), by decide +kernel⟩
def M_L_mappedBy : jMe := ("FootMaps$Land", prog_3_method_17_code, 4, 0, false)
set_option maxRecDepth 100000 in
theorem ok_L_mappedBy : jcdok M_L_mappedBy cd_L_mappedBy := jcdok_of 38 (by decide +kernel) (fun pc hp => by unfold cd_L_mappedBy; rw [j_out hp]; rfl)
set_option maxRecDepth 100000 in
theorem mok_L_mappedBy : jMok 141 prog_3_method_17_code 4 (Option.some FieldType.int) := ⟨List.mem_filter.mpr ⟨List.mem_append_right _ (show _ ∈ tables_1 from List.mem_append_right _ (List.mem_append_right _ (List.mem_append_right _ (List.mem_append_left _ (List.mem_of_getElem? (i := 215) rfl))))), rfl⟩, jw_of (z := 116) (by decide +kernel), by decide, Or.inr (Or.inl ⟨by decide +kernel, jw_of (z := 1047) (by decide +kernel), jw_of (z := 1048) (by decide +kernel)⟩), by decide +kernel⟩
def M_F_cover : jMe := ("FootMaps", prog_1_method_35_code, 6, 0, false)
set_option maxRecDepth 100000 in
theorem ok_F_cover : jcdok M_F_cover cd_F_cover := jcdok_of 95 (by decide +kernel) (fun pc hp => by unfold cd_F_cover; rw [j_out hp]; rfl)
set_option maxRecDepth 100000 in
theorem mok_F_cover : jMok 140 prog_1_method_35_code 6 (Option.some FieldType.int) := ⟨List.mem_filter.mpr ⟨List.mem_append_right _ (show _ ∈ tables_1 from List.mem_append_right _ (List.mem_append_right _ (List.mem_append_right _ (List.mem_append_left _ (List.mem_of_getElem? (i := 211) rfl))))), rfl⟩, jw_of (z := 115) (by decide +kernel), by decide, Or.inr (Or.inl ⟨by decide +kernel, jw_of (z := 1043) (by decide +kernel), jw_of (z := 1044) (by decide +kernel)⟩), by decide +kernel⟩
def M_Ja_fill_AJJ : jMe := ("java/util/Arrays", prog_17_method_101_code, 5, 4, false)
set_option maxRecDepth 100000 in
theorem ok_Ja_fill_AJJ : jcdok M_Ja_fill_AJJ cd_Ja_fill_AJJ := jcdok_of 23 (by decide +kernel) (fun pc hp => by unfold cd_Ja_fill_AJJ; rw [j_out hp]; rfl)
set_option maxRecDepth 100000 in
theorem mok_Ja_fill_AJJ : jMok 143 prog_17_method_101_code 5 (Option.none : Option FieldType) := ⟨List.mem_filter.mpr ⟨List.mem_append_right _ (show _ ∈ tables_1 from List.mem_append_right _ (List.mem_append_right _ (List.mem_append_right _ (List.mem_append_left _ (List.mem_of_getElem? (i := 222) rfl))))), rfl⟩, jw_of (z := 129) (by decide +kernel), by decide, Or.inl ⟨by decide +kernel, jw_of (z := 1055) (by decide +kernel)⟩, by decide +kernel⟩
def M_F_few : jMe := ("FootMaps", prog_1_method_36_code, 10, 2, false)
set_option maxRecDepth 100000 in
theorem ok_F_few : jcdok M_F_few cd_F_few := jcdok_of 174 (by decide +kernel) (fun pc hp => by unfold cd_F_few; rw [j_out hp]; rfl)
set_option maxRecDepth 100000 in
theorem mok_F_few : jMok 142 prog_1_method_36_code 10 (Option.some FieldType.long) := ⟨List.mem_filter.mpr ⟨List.mem_append_right _ (show _ ∈ tables_1 from List.mem_append_right _ (List.mem_append_right _ (List.mem_append_right _ (List.mem_append_left _ (List.mem_of_getElem? (i := 219) rfl))))), rfl⟩, jw_of (z := 115) (by decide +kernel), by decide, Or.inr (Or.inl ⟨by decide +kernel, jw_of (z := 1051) (by decide +kernel), jw_of (z := 1052) (by decide +kernel)⟩), by decide +kernel⟩
def M_F_compare : jMe := ("FootMaps", prog_1_method_37_code, 4, 0, false)
set_option maxRecDepth 100000 in
theorem ok_F_compare : jcdok M_F_compare cd_F_compare := jcdok_of 90 (by decide +kernel) (fun pc hp => by unfold cd_F_compare; rw [j_out hp]; rfl)
set_option maxRecDepth 100000 in
theorem mok_F_compare : jMok 144 prog_1_method_37_code 4 (Option.some FieldType.int) := ⟨List.mem_filter.mpr ⟨List.mem_append_right _ (show _ ∈ tables_1 from List.mem_append_right _ (List.mem_append_right _ (List.mem_append_right _ (List.mem_append_left _ (List.mem_of_getElem? (i := 228) rfl))))), rfl⟩, jw_of (z := 115) (by decide +kernel), by decide, Or.inr (Or.inl ⟨by decide +kernel, jw_of (z := 1060) (by decide +kernel), jw_of (z := 1061) (by decide +kernel)⟩), by decide +kernel⟩
def M_F_nextDraw : jMe := ("FootMaps", prog_1_method_55_code, 2, 2, false)
set_option maxRecDepth 100000 in
theorem ok_F_nextDraw : jcdok M_F_nextDraw cd_F_nextDraw := jcdok_of 14 (by decide +kernel) (fun pc hp => by unfold cd_F_nextDraw; rw [j_out hp]; rfl)
set_option maxRecDepth 100000 in
theorem mok_F_nextDraw : jMok 146 prog_1_method_55_code 2 (Option.some FieldType.long) := ⟨List.mem_filter.mpr ⟨List.mem_append_right _ (show _ ∈ tables_1 from List.mem_append_right _ (List.mem_append_right _ (List.mem_append_right _ (List.mem_append_left _ (List.mem_of_getElem? (i := 237) rfl))))), rfl⟩, jw_of (z := 115) (by decide +kernel), by decide, Or.inl ⟨by decide +kernel, jw_of (z := 1070) (by decide +kernel)⟩, by decide +kernel⟩
def M_F_stepOnPaper : jMe := ("FootMaps", prog_1_method_52_code, 7, 0, false)
set_option maxRecDepth 100000 in
theorem ok_F_stepOnPaper : jcdok M_F_stepOnPaper cd_F_stepOnPaper := jcdok_of 102 (by decide +kernel) (fun pc hp => by unfold cd_F_stepOnPaper; rw [j_out hp]; rfl)
set_option maxRecDepth 100000 in
theorem mok_F_stepOnPaper : jMok 147 prog_1_method_52_code 7 (Option.some FieldType.int) := ⟨List.mem_filter.mpr ⟨List.mem_append_right _ (show _ ∈ tables_1 from List.mem_append_right _ (List.mem_append_right _ (List.mem_append_right _ (List.mem_append_right _ (List.mem_append_left _ (List.mem_of_getElem? (i := 5) rfl)))))), rfl⟩, jw_of (z := 115) (by decide +kernel), by decide, Or.inr (Or.inl ⟨by decide +kernel, jw_of (z := 1078) (by decide +kernel), jw_of (z := 34) (by decide +kernel)⟩), by decide +kernel⟩
def M_F_joinOnPaper : jMe := ("FootMaps", prog_1_method_53_code, 3, 4, false)
set_option maxRecDepth 100000 in
theorem ok_F_joinOnPaper : jcdok M_F_joinOnPaper cd_F_joinOnPaper := jcdok_of 57 (by decide +kernel) (fun pc hp => by unfold cd_F_joinOnPaper; rw [j_out hp]; rfl)
set_option maxRecDepth 100000 in
theorem mok_F_joinOnPaper : jMok 148 prog_1_method_53_code 3 (Option.none : Option FieldType) := ⟨List.mem_filter.mpr ⟨List.mem_append_right _ (show _ ∈ tables_1 from List.mem_append_right _ (List.mem_append_right _ (List.mem_append_right _ (List.mem_append_right _ (List.mem_append_left _ (List.mem_of_getElem? (i := 9) rfl)))))), rfl⟩, jw_of (z := 115) (by decide +kernel), by decide, Or.inr (Or.inl ⟨by decide +kernel, jw_of (z := 1082) (by decide +kernel), jw_of (z := 35) (by decide +kernel)⟩), by decide +kernel⟩
def M_F_days : jMe := ("FootMaps", prog_1_method_38_code, 9, 0, false)
set_option maxRecDepth 100000 in
theorem ok_F_days : jcdok M_F_days cd_F_days := jcdok_of 166 (by decide +kernel) (fun pc hp => by unfold cd_F_days; rw [j_out hp]; rfl)
set_option maxRecDepth 100000 in
theorem mok_F_days : jMok 145 prog_1_method_38_code 9 (Option.some FieldType.int) := ⟨List.mem_filter.mpr ⟨List.mem_append_right _ (show _ ∈ tables_1 from List.mem_append_right _ (List.mem_append_right _ (List.mem_append_right _ (List.mem_append_left _ (List.mem_of_getElem? (i := 233) rfl))))), rfl⟩, jw_of (z := 115) (by decide +kernel), by decide, Or.inr (Or.inl ⟨by decide +kernel, jw_of (z := 1065) (by decide +kernel), jw_of (z := 1066) (by decide +kernel)⟩), by decide +kernel⟩
def M_F_drawn : jMe := ("FootMaps", prog_1_method_39_code, 3, 0, false)
set_option maxRecDepth 100000 in
theorem ok_F_drawn : jcdok M_F_drawn cd_F_drawn := jcdok_of 46 (by decide +kernel) (fun pc hp => by unfold cd_F_drawn; rw [j_out hp]; rfl)
set_option maxRecDepth 100000 in
theorem mok_F_drawn : jMok 149 prog_1_method_39_code 3 (Option.some FieldType.int) := ⟨List.mem_filter.mpr ⟨List.mem_append_right _ (show _ ∈ tables_1 from List.mem_append_right _ (List.mem_append_right _ (List.mem_append_right _ (List.mem_append_right _ (List.mem_append_left _ (List.mem_of_getElem? (i := 13) rfl)))))), rfl⟩, jw_of (z := 115) (by decide +kernel), by decide, Or.inr (Or.inl ⟨by decide +kernel, jw_of (z := 1085) (by decide +kernel), jw_of (z := 1086) (by decide +kernel)⟩), by decide +kernel⟩
def M_F_image : jMe := ("FootMaps", prog_1_method_40_code, 2, 0, false)
set_option maxRecDepth 100000 in
theorem ok_F_image : jcdok M_F_image cd_F_image := jcdok_of 56 (by decide +kernel) (fun pc hp => by unfold cd_F_image; rw [j_out hp]; rfl)
set_option maxRecDepth 100000 in
theorem mok_F_image : jMok 150 prog_1_method_40_code 2 (Option.some FieldType.int) := ⟨List.mem_filter.mpr ⟨List.mem_append_right _ (show _ ∈ tables_1 from List.mem_append_right _ (List.mem_append_right _ (List.mem_append_right _ (List.mem_append_right _ (List.mem_append_left _ (List.mem_of_getElem? (i := 17) rfl)))))), rfl⟩, jw_of (z := 115) (by decide +kernel), by decide, Or.inr (Or.inl ⟨by decide +kernel, jw_of (z := 1089) (by decide +kernel), jw_of (z := 1090) (by decide +kernel)⟩), by decide +kernel⟩
def M_F_back : jMe := ("FootMaps", prog_1_method_41_code, 2, 0, false)
set_option maxRecDepth 100000 in
theorem ok_F_back : jcdok M_F_back cd_F_back := jcdok_of 57 (by decide +kernel) (fun pc hp => by unfold cd_F_back; rw [j_out hp]; rfl)
set_option maxRecDepth 100000 in
theorem mok_F_back : jMok 151 prog_1_method_41_code 2 (Option.some FieldType.int) := ⟨List.mem_filter.mpr ⟨List.mem_append_right _ (show _ ∈ tables_1 from List.mem_append_right _ (List.mem_append_right _ (List.mem_append_right _ (List.mem_append_right _ (List.mem_append_left _ (List.mem_of_getElem? (i := 21) rfl)))))), rfl⟩, jw_of (z := 115) (by decide +kernel), by decide, Or.inr (Or.inl ⟨by decide +kernel, jw_of (z := 1093) (by decide +kernel), jw_of (z := 1094) (by decide +kernel)⟩), by decide +kernel⟩
def M_L_cellsOfAllSheets : jMe := ("FootMaps$Land", prog_3_method_18_code, 3, 0, false)
set_option maxRecDepth 100000 in
theorem ok_L_cellsOfAllSheets : jcdok M_L_cellsOfAllSheets cd_L_cellsOfAllSheets := jcdok_of 32 (by decide +kernel) (fun pc hp => by unfold cd_L_cellsOfAllSheets; rw [j_out hp]; rfl)
set_option maxRecDepth 100000 in
theorem mok_L_cellsOfAllSheets : jMok 153 prog_3_method_18_code 3 (Option.some FieldType.int) := ⟨List.mem_filter.mpr ⟨List.mem_append_right _ (show _ ∈ tables_1 from List.mem_append_right _ (List.mem_append_right _ (List.mem_append_right _ (List.mem_append_right _ (List.mem_append_left _ (List.mem_of_getElem? (i := 29) rfl)))))), rfl⟩, jw_of (z := 116) (by decide +kernel), by decide, Or.inr (Or.inl ⟨by decide +kernel, jw_of (z := 1101) (by decide +kernel), jw_of (z := 1102) (by decide +kernel)⟩), by decide +kernel⟩
def M_F_count : jMe := ("FootMaps", prog_1_method_42_code, 2, 0, false)
set_option maxRecDepth 100000 in
theorem ok_F_count : jcdok M_F_count cd_F_count := jcdok_of 200 (by decide +kernel) (fun pc hp => by unfold cd_F_count; rw [j_out hp]; rfl)
set_option maxRecDepth 100000 in
theorem mok_F_count : jMok 152 prog_1_method_42_code 2 (Option.some FieldType.int) := ⟨List.mem_filter.mpr ⟨List.mem_append_right _ (show _ ∈ tables_1 from List.mem_append_right _ (List.mem_append_right _ (List.mem_append_right _ (List.mem_append_right _ (List.mem_append_left _ (List.mem_of_getElem? (i := 25) rfl)))))), rfl⟩, jw_of (z := 115) (by decide +kernel), by decide, Or.inr (Or.inl ⟨by decide +kernel, jw_of (z := 1097) (by decide +kernel), jw_of (z := 1098) (by decide +kernel)⟩), by decide +kernel⟩
def M_F_status : jMe := ("FootMaps", prog_1_method_43_code, 1, 0, false)
set_option maxRecDepth 100000 in
theorem ok_F_status : jcdok M_F_status cd_F_status := jcdok_of 5 (by decide +kernel) (fun pc hp => by unfold cd_F_status; rw [j_out hp]; rfl)
set_option maxRecDepth 100000 in
theorem mok_F_status : jMok 154 prog_1_method_43_code 1 (Option.some FieldType.int) := ⟨List.mem_filter.mpr ⟨List.mem_append_right _ (show _ ∈ tables_1 from List.mem_append_right _ (List.mem_append_right _ (List.mem_append_right _ (List.mem_append_right _ (List.mem_append_left _ (List.mem_of_getElem? (i := 33) rfl)))))), rfl⟩, jw_of (z := 115) (by decide +kernel), by decide, Or.inr (Or.inl ⟨by decide +kernel, jw_of (z := 1105) (by decide +kernel), jw_of (z := 1106) (by decide +kernel)⟩), by decide +kernel⟩
def M_M_new : jMe := ("FootMapsModel", prog_9_method_14_code, 1, 4, true)
set_option maxRecDepth 100000 in
theorem okc_M_new_0 : ∀ i, i < 60 → (decide ((cd_M_new (0 + i)).1 = .nop) || jchk M_M_new.1 M_M_new.2.1 M_M_new.2.2.1 M_M_new.2.2.2.2 (0 + i) (cd_M_new (0 + i))) = true := by decide +kernel
set_option maxRecDepth 100000 in
theorem okc_M_new_1 : ∀ i, i < 60 → (decide ((cd_M_new (60 + i)).1 = .nop) || jchk M_M_new.1 M_M_new.2.1 M_M_new.2.2.1 M_M_new.2.2.2.2 (60 + i) (cd_M_new (60 + i))) = true := by decide +kernel
set_option maxRecDepth 100000 in
theorem okc_M_new_2 : ∀ i, i < 60 → (decide ((cd_M_new (120 + i)).1 = .nop) || jchk M_M_new.1 M_M_new.2.1 M_M_new.2.2.1 M_M_new.2.2.2.2 (120 + i) (cd_M_new (120 + i))) = true := by decide +kernel
set_option maxRecDepth 100000 in
theorem okc_M_new_3 : ∀ i, i < 60 → (decide ((cd_M_new (180 + i)).1 = .nop) || jchk M_M_new.1 M_M_new.2.1 M_M_new.2.2.1 M_M_new.2.2.2.2 (180 + i) (cd_M_new (180 + i))) = true := by decide +kernel
set_option maxRecDepth 100000 in
theorem okc_M_new_4 : ∀ i, i < 60 → (decide ((cd_M_new (240 + i)).1 = .nop) || jchk M_M_new.1 M_M_new.2.1 M_M_new.2.2.1 M_M_new.2.2.2.2 (240 + i) (cd_M_new (240 + i))) = true := by decide +kernel
set_option maxRecDepth 100000 in
theorem okc_M_new_5 : ∀ i, i < 60 → (decide ((cd_M_new (300 + i)).1 = .nop) || jchk M_M_new.1 M_M_new.2.1 M_M_new.2.2.1 M_M_new.2.2.2.2 (300 + i) (cd_M_new (300 + i))) = true := by decide +kernel
set_option maxRecDepth 100000 in
theorem okc_M_new_6 : ∀ i, i < 60 → (decide ((cd_M_new (360 + i)).1 = .nop) || jchk M_M_new.1 M_M_new.2.1 M_M_new.2.2.1 M_M_new.2.2.2.2 (360 + i) (cd_M_new (360 + i))) = true := by decide +kernel
set_option maxRecDepth 100000 in
theorem okc_M_new_7 : ∀ i, i < 60 → (decide ((cd_M_new (420 + i)).1 = .nop) || jchk M_M_new.1 M_M_new.2.1 M_M_new.2.2.1 M_M_new.2.2.2.2 (420 + i) (cd_M_new (420 + i))) = true := by decide +kernel
set_option maxRecDepth 100000 in
theorem okc_M_new_8 : ∀ i, i < 60 → (decide ((cd_M_new (480 + i)).1 = .nop) || jchk M_M_new.1 M_M_new.2.1 M_M_new.2.2.1 M_M_new.2.2.2.2 (480 + i) (cd_M_new (480 + i))) = true := by decide +kernel
set_option maxRecDepth 100000 in
theorem okc_M_new_9 : ∀ i, i < 60 → (decide ((cd_M_new (540 + i)).1 = .nop) || jchk M_M_new.1 M_M_new.2.1 M_M_new.2.2.1 M_M_new.2.2.2.2 (540 + i) (cd_M_new (540 + i))) = true := by decide +kernel
set_option maxRecDepth 100000 in
theorem okc_M_new_10 : ∀ i, i < 60 → (decide ((cd_M_new (600 + i)).1 = .nop) || jchk M_M_new.1 M_M_new.2.1 M_M_new.2.2.1 M_M_new.2.2.2.2 (600 + i) (cd_M_new (600 + i))) = true := by decide +kernel
set_option maxRecDepth 100000 in
theorem okc_M_new_11 : ∀ i, i < 60 → (decide ((cd_M_new (660 + i)).1 = .nop) || jchk M_M_new.1 M_M_new.2.1 M_M_new.2.2.1 M_M_new.2.2.2.2 (660 + i) (cd_M_new (660 + i))) = true := by decide +kernel
set_option maxRecDepth 100000 in
theorem okc_M_new_12 : ∀ i, i < 60 → (decide ((cd_M_new (720 + i)).1 = .nop) || jchk M_M_new.1 M_M_new.2.1 M_M_new.2.2.1 M_M_new.2.2.2.2 (720 + i) (cd_M_new (720 + i))) = true := by decide +kernel
set_option maxRecDepth 100000 in
theorem okc_M_new_13 : ∀ i, i < 60 → (decide ((cd_M_new (780 + i)).1 = .nop) || jchk M_M_new.1 M_M_new.2.1 M_M_new.2.2.1 M_M_new.2.2.2.2 (780 + i) (cd_M_new (780 + i))) = true := by decide +kernel
set_option maxRecDepth 100000 in
theorem okc_M_new_14 : ∀ i, i < 60 → (decide ((cd_M_new (840 + i)).1 = .nop) || jchk M_M_new.1 M_M_new.2.1 M_M_new.2.2.1 M_M_new.2.2.2.2 (840 + i) (cd_M_new (840 + i))) = true := by decide +kernel
set_option maxRecDepth 100000 in
theorem okc_M_new_15 : ∀ i, i < 60 → (decide ((cd_M_new (900 + i)).1 = .nop) || jchk M_M_new.1 M_M_new.2.1 M_M_new.2.2.1 M_M_new.2.2.2.2 (900 + i) (cd_M_new (900 + i))) = true := by decide +kernel
set_option maxRecDepth 100000 in
theorem okc_M_new_16 : ∀ i, i < 60 → (decide ((cd_M_new (960 + i)).1 = .nop) || jchk M_M_new.1 M_M_new.2.1 M_M_new.2.2.1 M_M_new.2.2.2.2 (960 + i) (cd_M_new (960 + i))) = true := by decide +kernel
set_option maxRecDepth 100000 in
theorem okc_M_new_17 : ∀ i, i < 50 → (decide ((cd_M_new (1020 + i)).1 = .nop) || jchk M_M_new.1 M_M_new.2.1 M_M_new.2.2.1 M_M_new.2.2.2.2 (1020 + i) (cd_M_new (1020 + i))) = true := by decide +kernel
theorem ok_M_new : jcdok M_M_new cd_M_new := jcdok_of 1070 (j_cat2 (P := fun pc => (decide ((cd_M_new (pc)).1 = .nop) || jchk M_M_new.1 M_M_new.2.1 M_M_new.2.2.1 M_M_new.2.2.2.2 (pc) (cd_M_new (pc))) = true) 1020 50 (j_cat2 (P := fun pc => (decide ((cd_M_new (pc)).1 = .nop) || jchk M_M_new.1 M_M_new.2.1 M_M_new.2.2.1 M_M_new.2.2.2.2 (pc) (cd_M_new (pc))) = true) 960 60 (j_cat2 (P := fun pc => (decide ((cd_M_new (pc)).1 = .nop) || jchk M_M_new.1 M_M_new.2.1 M_M_new.2.2.1 M_M_new.2.2.2.2 (pc) (cd_M_new (pc))) = true) 900 60 (j_cat2 (P := fun pc => (decide ((cd_M_new (pc)).1 = .nop) || jchk M_M_new.1 M_M_new.2.1 M_M_new.2.2.1 M_M_new.2.2.2.2 (pc) (cd_M_new (pc))) = true) 840 60 (j_cat2 (P := fun pc => (decide ((cd_M_new (pc)).1 = .nop) || jchk M_M_new.1 M_M_new.2.1 M_M_new.2.2.1 M_M_new.2.2.2.2 (pc) (cd_M_new (pc))) = true) 780 60 (j_cat2 (P := fun pc => (decide ((cd_M_new (pc)).1 = .nop) || jchk M_M_new.1 M_M_new.2.1 M_M_new.2.2.1 M_M_new.2.2.2.2 (pc) (cd_M_new (pc))) = true) 720 60 (j_cat2 (P := fun pc => (decide ((cd_M_new (pc)).1 = .nop) || jchk M_M_new.1 M_M_new.2.1 M_M_new.2.2.1 M_M_new.2.2.2.2 (pc) (cd_M_new (pc))) = true) 660 60 (j_cat2 (P := fun pc => (decide ((cd_M_new (pc)).1 = .nop) || jchk M_M_new.1 M_M_new.2.1 M_M_new.2.2.1 M_M_new.2.2.2.2 (pc) (cd_M_new (pc))) = true) 600 60 (j_cat2 (P := fun pc => (decide ((cd_M_new (pc)).1 = .nop) || jchk M_M_new.1 M_M_new.2.1 M_M_new.2.2.1 M_M_new.2.2.2.2 (pc) (cd_M_new (pc))) = true) 540 60 (j_cat2 (P := fun pc => (decide ((cd_M_new (pc)).1 = .nop) || jchk M_M_new.1 M_M_new.2.1 M_M_new.2.2.1 M_M_new.2.2.2.2 (pc) (cd_M_new (pc))) = true) 480 60 (j_cat2 (P := fun pc => (decide ((cd_M_new (pc)).1 = .nop) || jchk M_M_new.1 M_M_new.2.1 M_M_new.2.2.1 M_M_new.2.2.2.2 (pc) (cd_M_new (pc))) = true) 420 60 (j_cat2 (P := fun pc => (decide ((cd_M_new (pc)).1 = .nop) || jchk M_M_new.1 M_M_new.2.1 M_M_new.2.2.1 M_M_new.2.2.2.2 (pc) (cd_M_new (pc))) = true) 360 60 (j_cat2 (P := fun pc => (decide ((cd_M_new (pc)).1 = .nop) || jchk M_M_new.1 M_M_new.2.1 M_M_new.2.2.1 M_M_new.2.2.2.2 (pc) (cd_M_new (pc))) = true) 300 60 (j_cat2 (P := fun pc => (decide ((cd_M_new (pc)).1 = .nop) || jchk M_M_new.1 M_M_new.2.1 M_M_new.2.2.1 M_M_new.2.2.2.2 (pc) (cd_M_new (pc))) = true) 240 60 (j_cat2 (P := fun pc => (decide ((cd_M_new (pc)).1 = .nop) || jchk M_M_new.1 M_M_new.2.1 M_M_new.2.2.1 M_M_new.2.2.2.2 (pc) (cd_M_new (pc))) = true) 180 60 (j_cat2 (P := fun pc => (decide ((cd_M_new (pc)).1 = .nop) || jchk M_M_new.1 M_M_new.2.1 M_M_new.2.2.1 M_M_new.2.2.2.2 (pc) (cd_M_new (pc))) = true) 120 60 (j_cat2 (P := fun pc => (decide ((cd_M_new (pc)).1 = .nop) || jchk M_M_new.1 M_M_new.2.1 M_M_new.2.2.1 M_M_new.2.2.2.2 (pc) (cd_M_new (pc))) = true) 60 60 (j_cat2 (P := fun pc => (decide ((cd_M_new (pc)).1 = .nop) || jchk M_M_new.1 M_M_new.2.1 M_M_new.2.2.1 M_M_new.2.2.2.2 (pc) (cd_M_new (pc))) = true) 0 60 (fun pc hp => absurd hp (Nat.not_lt_zero pc)) okc_M_new_0) okc_M_new_1) okc_M_new_2) okc_M_new_3) okc_M_new_4) okc_M_new_5) okc_M_new_6) okc_M_new_7) okc_M_new_8) okc_M_new_9) okc_M_new_10) okc_M_new_11) okc_M_new_12) okc_M_new_13) okc_M_new_14) okc_M_new_15) okc_M_new_16) okc_M_new_17) (fun pc hp => by unfold cd_M_new; rw [j_out hp]; rfl)
set_option maxRecDepth 100000 in
theorem mok_M_new : jMok 155 prog_9_method_14_code 1 (Option.none : Option FieldType) := ⟨List.mem_filter.mpr ⟨List.mem_append_right _ (show _ ∈ tables_1 from List.mem_append_right _ (List.mem_append_right _ (List.mem_append_right _ (List.mem_append_right _ (List.mem_append_left _ (List.mem_of_getElem? (i := 38) rfl)))))), rfl⟩, jw_of (z := 122) (by decide +kernel), by decide, Or.inr (Or.inr ⟨by decide +kernel, jw_of (z := 1111) (by decide +kernel), by decide +kernel, rfl⟩), by decide +kernel⟩
def M_M_lies : jMe := ("FootMapsModel", prog_9_method_1_code, 3, 1, false)
set_option maxRecDepth 100000 in
theorem ok_M_lies : jcdok M_M_lies cd_M_lies := jcdok_of 16 (by decide +kernel) (fun pc hp => by unfold cd_M_lies; rw [j_out hp]; rfl)
set_option maxRecDepth 100000 in
theorem mok_M_lies : jMok 157 prog_9_method_1_code 3 (Option.some FieldType.boolean) := ⟨List.mem_filter.mpr ⟨List.mem_append_right _ (show _ ∈ tables_1 from List.mem_append_right _ (List.mem_append_right _ (List.mem_append_right _ (List.mem_append_right _ (List.mem_append_left _ (List.mem_of_getElem? (i := 204) rfl)))))), rfl⟩, jw_of (z := 122) (by decide +kernel), by decide, Or.inl ⟨by decide +kernel, jw_of (z := 1277) (by decide +kernel)⟩, by decide +kernel⟩
def M_M_refuses : jMe := ("FootMapsModel", prog_9_method_5_code, 2, 0, false)
set_option maxRecDepth 100000 in
theorem ok_M_refuses : jcdok M_M_refuses cd_M_refuses := jcdok_of 18 (by decide +kernel) (fun pc hp => by unfold cd_M_refuses; rw [j_out hp]; rfl)
set_option maxRecDepth 100000 in
theorem mok_M_refuses : jMok 158 prog_9_method_5_code 2 (Option.some FieldType.int) := ⟨List.mem_filter.mpr ⟨List.mem_append_right _ (show _ ∈ tables_1 from List.mem_append_right _ (List.mem_append_right _ (List.mem_append_right _ (List.mem_append_right _ (List.mem_append_left _ (List.mem_of_getElem? (i := 208) rfl)))))), rfl⟩, jw_of (z := 122) (by decide +kernel), by decide, Or.inr (Or.inl ⟨by decide +kernel, jw_of (z := 1281) (by decide +kernel), jw_of (z := 36) (by decide +kernel)⟩), by decide +kernel⟩
def M_M_good : jMe := ("FootMapsModel", prog_9_method_6_code, 2, 0, false)
set_option maxRecDepth 100000 in
theorem ok_M_good : jcdok M_M_good cd_M_good := jcdok_of 7 (by decide +kernel) (fun pc hp => by unfold cd_M_good; rw [j_out hp]; rfl)
set_option maxRecDepth 100000 in
theorem mok_M_good : jMok 159 prog_9_method_6_code 2 (Option.some FieldType.int) := ⟨List.mem_filter.mpr ⟨List.mem_append_right _ (show _ ∈ tables_1 from List.mem_append_right _ (List.mem_append_right _ (List.mem_append_right _ (List.mem_append_right _ (List.mem_append_left _ (List.mem_of_getElem? (i := 212) rfl)))))), rfl⟩, jw_of (z := 122) (by decide +kernel), by decide, Or.inr (Or.inl ⟨by decide +kernel, jw_of (z := 1285) (by decide +kernel), jw_of (z := 37) (by decide +kernel)⟩), by decide +kernel⟩
def M_M_image : jMe := ("FootMapsModel", prog_9_method_17_code, 3, 0, false)
set_option maxRecDepth 100000 in
theorem ok_M_image : jcdok M_M_image cd_M_image := jcdok_of 61 (by decide +kernel) (fun pc hp => by unfold cd_M_image; rw [j_out hp]; rfl)
set_option maxRecDepth 100000 in
theorem mok_M_image : jMok 156 prog_9_method_17_code 3 (Option.some FieldType.int) := ⟨List.mem_filter.mpr ⟨List.mem_append_right _ (show _ ∈ tables_1 from List.mem_append_right _ (List.mem_append_right _ (List.mem_append_right _ (List.mem_append_right _ (List.mem_append_left _ (List.mem_of_getElem? (i := 201) rfl)))))), rfl⟩, jw_of (z := 122) (by decide +kernel), by decide, Or.inr (Or.inl ⟨by decide +kernel, jw_of (z := 1273) (by decide +kernel), jw_of (z := 1274) (by decide +kernel)⟩), by decide +kernel⟩
def M_M_settled : jMe := ("FootMapsModel", prog_9_method_7_code, 2, 0, false)
set_option maxRecDepth 100000 in
theorem ok_M_settled : jcdok M_M_settled cd_M_settled := jcdok_of 11 (by decide +kernel) (fun pc hp => by unfold cd_M_settled; rw [j_out hp]; rfl)
set_option maxRecDepth 100000 in
theorem mok_M_settled : jMok 161 prog_9_method_7_code 2 (Option.some FieldType.int) := ⟨List.mem_filter.mpr ⟨List.mem_append_right _ (show _ ∈ tables_1 from List.mem_append_right _ (List.mem_append_right _ (List.mem_append_right _ (List.mem_append_right _ (List.mem_append_left _ (List.mem_of_getElem? (i := 220) rfl)))))), rfl⟩, jw_of (z := 122) (by decide +kernel), by decide, Or.inr (Or.inl ⟨by decide +kernel, jw_of (z := 1293) (by decide +kernel), jw_of (z := 38) (by decide +kernel)⟩), by decide +kernel⟩
def M_M_back : jMe := ("FootMapsModel", prog_9_method_18_code, 3, 0, false)
set_option maxRecDepth 100000 in
theorem ok_M_back : jcdok M_M_back cd_M_back := jcdok_of 70 (by decide +kernel) (fun pc hp => by unfold cd_M_back; rw [j_out hp]; rfl)
set_option maxRecDepth 100000 in
theorem mok_M_back : jMok 160 prog_9_method_18_code 3 (Option.some FieldType.int) := ⟨List.mem_filter.mpr ⟨List.mem_append_right _ (show _ ∈ tables_1 from List.mem_append_right _ (List.mem_append_right _ (List.mem_append_right _ (List.mem_append_right _ (List.mem_append_left _ (List.mem_of_getElem? (i := 216) rfl)))))), rfl⟩, jw_of (z := 122) (by decide +kernel), by decide, Or.inr (Or.inl ⟨by decide +kernel, jw_of (z := 1288) (by decide +kernel), jw_of (z := 1289) (by decide +kernel)⟩), by decide +kernel⟩
def M_M_isCell : jMe := ("FootMapsModel", prog_9_method_10_code, 1, 1, false)
set_option maxRecDepth 100000 in
theorem ok_M_isCell : jcdok M_M_isCell cd_M_isCell := jcdok_of 8 (by decide +kernel) (fun pc hp => by unfold cd_M_isCell; rw [j_out hp]; rfl)
set_option maxRecDepth 100000 in
theorem mok_M_isCell : jMok 164 prog_9_method_10_code 1 (Option.some FieldType.boolean) := ⟨List.mem_filter.mpr ⟨List.mem_append_right _ (show _ ∈ tables_1 from List.mem_append_right _ (List.mem_append_right _ (List.mem_append_right _ (List.mem_append_right _ (List.mem_append_left _ (List.mem_of_getElem? (i := 230) rfl)))))), rfl⟩, jw_of (z := 122) (by decide +kernel), by decide, Or.inl ⟨by decide +kernel, jw_of (z := 1303) (by decide +kernel)⟩, by decide +kernel⟩
def M_M_canCell : jMe := ("FootMapsModel", prog_9_method_24_code, 3, 1, false)
set_option maxRecDepth 100000 in
theorem ok_M_canCell : jcdok M_M_canCell cd_M_canCell := jcdok_of 32 (by decide +kernel) (fun pc hp => by unfold cd_M_canCell; rw [j_out hp]; rfl)
set_option maxRecDepth 100000 in
theorem mok_M_canCell : jMok 163 prog_9_method_24_code 3 (Option.some FieldType.boolean) := ⟨List.mem_filter.mpr ⟨List.mem_append_right _ (show _ ∈ tables_1 from List.mem_append_right _ (List.mem_append_right _ (List.mem_append_right _ (List.mem_append_right _ (List.mem_append_left _ (List.mem_of_getElem? (i := 227) rfl)))))), rfl⟩, jw_of (z := 122) (by decide +kernel), by decide, Or.inl ⟨by decide +kernel, jw_of (z := 1300) (by decide +kernel)⟩, by decide +kernel⟩
def M_M_laysCell : jMe := ("FootMapsModel", prog_9_method_25_code, 4, 4, false)
set_option maxRecDepth 100000 in
theorem ok_M_laysCell : jcdok M_M_laysCell cd_M_laysCell := jcdok_of 22 (by decide +kernel) (fun pc hp => by unfold cd_M_laysCell; rw [j_out hp]; rfl)
set_option maxRecDepth 100000 in
theorem mok_M_laysCell : jMok 165 prog_9_method_25_code 4 (Option.none : Option FieldType) := ⟨List.mem_filter.mpr ⟨List.mem_append_right _ (show _ ∈ tables_1 from List.mem_append_right _ (List.mem_append_right _ (List.mem_append_right _ (List.mem_append_right _ (List.mem_append_left _ (List.mem_of_getElem? (i := 234) rfl)))))), rfl⟩, jw_of (z := 122) (by decide +kernel), by decide, Or.inr (Or.inl ⟨by decide +kernel, jw_of (z := 1307) (by decide +kernel), jw_of (z := 39) (by decide +kernel)⟩), by decide +kernel⟩
def M_M_cell : jMe := ("FootMapsModel", prog_9_method_26_code, 5, 0, false)
set_option maxRecDepth 100000 in
theorem ok_M_cell : jcdok M_M_cell cd_M_cell := jcdok_of 40 (by decide +kernel) (fun pc hp => by unfold cd_M_cell; rw [j_out hp]; rfl)
set_option maxRecDepth 100000 in
theorem mok_M_cell : jMok 162 prog_9_method_26_code 5 (Option.some FieldType.int) := ⟨List.mem_filter.mpr ⟨List.mem_append_right _ (show _ ∈ tables_1 from List.mem_append_right _ (List.mem_append_right _ (List.mem_append_right _ (List.mem_append_right _ (List.mem_append_left _ (List.mem_of_getElem? (i := 224) rfl)))))), rfl⟩, jw_of (z := 122) (by decide +kernel), by decide, Or.inr (Or.inl ⟨by decide +kernel, jw_of (z := 1296) (by decide +kernel), jw_of (z := 1297) (by decide +kernel)⟩), by decide +kernel⟩
def M_M_many : jMe := ("FootMapsModel", prog_9_method_19_code, 1, 0, false)
set_option maxRecDepth 100000 in
theorem ok_M_many : jcdok M_M_many cd_M_many := jcdok_of 9 (by decide +kernel) (fun pc hp => by unfold cd_M_many; rw [j_out hp]; rfl)
set_option maxRecDepth 100000 in
theorem mok_M_many : jMok 168 prog_9_method_19_code 1 (Option.some FieldType.int) := ⟨List.mem_filter.mpr ⟨List.mem_append_right _ (show _ ∈ tables_1 from List.mem_append_right _ (List.mem_append_right _ (List.mem_append_right _ (List.mem_append_right _ (List.mem_append_right _ (List.mem_append_left _ (List.mem_of_getElem? (i := 6) rfl))))))), rfl⟩, jw_of (z := 122) (by decide +kernel), by decide, Or.inr (Or.inl ⟨by decide +kernel, jw_of (z := 1319) (by decide +kernel), jw_of (z := 41) (by decide +kernel)⟩), by decide +kernel⟩
def M_M_spotOf : jMe := ("FootMapsModel", prog_9_method_21_code, 2, 0, false)
set_option maxRecDepth 100000 in
theorem ok_M_spotOf : jcdok M_M_spotOf cd_M_spotOf := jcdok_of 9 (by decide +kernel) (fun pc hp => by unfold cd_M_spotOf; rw [j_out hp]; rfl)
set_option maxRecDepth 100000 in
theorem mok_M_spotOf : jMok 169 prog_9_method_21_code 2 (Option.some FieldType.int) := ⟨List.mem_filter.mpr ⟨List.mem_append_right _ (show _ ∈ tables_1 from List.mem_append_right _ (List.mem_append_right _ (List.mem_append_right _ (List.mem_append_right _ (List.mem_append_right _ (List.mem_append_left _ (List.mem_of_getElem? (i := 10) rfl))))))), rfl⟩, jw_of (z := 122) (by decide +kernel), by decide, Or.inr (Or.inl ⟨by decide +kernel, jw_of (z := 1323) (by decide +kernel), jw_of (z := 42) (by decide +kernel)⟩), by decide +kernel⟩
def M_M_whoIsAt : jMe := ("FootMapsModel", prog_9_method_27_code, 4, 0, false)
set_option maxRecDepth 100000 in
theorem ok_M_whoIsAt : jcdok M_M_whoIsAt cd_M_whoIsAt := jcdok_of 39 (by decide +kernel) (fun pc hp => by unfold cd_M_whoIsAt; rw [j_out hp]; rfl)
set_option maxRecDepth 100000 in
theorem mok_M_whoIsAt : jMok 167 prog_9_method_27_code 4 (Option.some FieldType.int) := ⟨List.mem_filter.mpr ⟨List.mem_append_right _ (show _ ∈ tables_1 from List.mem_append_right _ (List.mem_append_right _ (List.mem_append_right _ (List.mem_append_right _ (List.mem_append_right _ (List.mem_append_left _ (List.mem_of_getElem? (i := 2) rfl))))))), rfl⟩, jw_of (z := 122) (by decide +kernel), by decide, Or.inr (Or.inl ⟨by decide +kernel, jw_of (z := 1315) (by decide +kernel), jw_of (z := 40) (by decide +kernel)⟩), by decide +kernel⟩
def M_M_land : jMe := ("FootMapsModel", prog_9_method_28_code, 3, 0, false)
set_option maxRecDepth 100000 in
theorem ok_M_land : jcdok M_M_land cd_M_land := jcdok_of 65 (by decide +kernel) (fun pc hp => by unfold cd_M_land; rw [j_out hp]; rfl)
set_option maxRecDepth 100000 in
theorem mok_M_land : jMok 166 prog_9_method_28_code 3 (Option.some FieldType.int) := ⟨List.mem_filter.mpr ⟨List.mem_append_right _ (show _ ∈ tables_1 from List.mem_append_right _ (List.mem_append_right _ (List.mem_append_right _ (List.mem_append_right _ (List.mem_append_left _ (List.mem_of_getElem? (i := 238) rfl)))))), rfl⟩, jw_of (z := 122) (by decide +kernel), by decide, Or.inr (Or.inl ⟨by decide +kernel, jw_of (z := 1310) (by decide +kernel), jw_of (z := 1311) (by decide +kernel)⟩), by decide +kernel⟩
def M_M_walker : jMe := ("FootMapsModel", prog_9_method_29_code, 5, 0, false)
set_option maxRecDepth 100000 in
theorem ok_M_walker : jcdok M_M_walker cd_M_walker := jcdok_of 120 (by decide +kernel) (fun pc hp => by unfold cd_M_walker; rw [j_out hp]; rfl)
set_option maxRecDepth 100000 in
theorem mok_M_walker : jMok 170 prog_9_method_29_code 5 (Option.some FieldType.int) := ⟨List.mem_filter.mpr ⟨List.mem_append_right _ (show _ ∈ tables_1 from List.mem_append_right _ (List.mem_append_right _ (List.mem_append_right _ (List.mem_append_right _ (List.mem_append_right _ (List.mem_append_left _ (List.mem_of_getElem? (i := 14) rfl))))))), rfl⟩, jw_of (z := 122) (by decide +kernel), by decide, Or.inr (Or.inl ⟨by decide +kernel, jw_of (z := 1326) (by decide +kernel), jw_of (z := 1327) (by decide +kernel)⟩), by decide +kernel⟩
def M_M_isWalker : jMe := ("FootMapsModel", prog_9_method_20_code, 2, 1, false)
set_option maxRecDepth 100000 in
theorem ok_M_isWalker : jcdok M_M_isWalker cd_M_isWalker := jcdok_of 12 (by decide +kernel) (fun pc hp => by unfold cd_M_isWalker; rw [j_out hp]; rfl)
set_option maxRecDepth 100000 in
theorem mok_M_isWalker : jMok 172 prog_9_method_20_code 2 (Option.some FieldType.boolean) := ⟨List.mem_filter.mpr ⟨List.mem_append_right _ (show _ ∈ tables_1 from List.mem_append_right _ (List.mem_append_right _ (List.mem_append_right _ (List.mem_append_right _ (List.mem_append_right _ (List.mem_append_left _ (List.mem_of_getElem? (i := 22) rfl))))))), rfl⟩, jw_of (z := 122) (by decide +kernel), by decide, Or.inr (Or.inl ⟨by decide +kernel, jw_of (z := 1335) (by decide +kernel), jw_of (z := 43) (by decide +kernel)⟩), by decide +kernel⟩
def M_M_onSheet : jMe := ("FootMapsModel", prog_9_method_22_code, 3, 0, false)
set_option maxRecDepth 100000 in
theorem ok_M_onSheet : jcdok M_M_onSheet cd_M_onSheet := jcdok_of 14 (by decide +kernel) (fun pc hp => by unfold cd_M_onSheet; rw [j_out hp]; rfl)
set_option maxRecDepth 100000 in
theorem mok_M_onSheet : jMok 174 prog_9_method_22_code 3 (Option.some FieldType.int) := ⟨List.mem_filter.mpr ⟨List.mem_append_right _ (show _ ∈ tables_1 from List.mem_append_right _ (List.mem_append_right _ (List.mem_append_right _ (List.mem_append_right _ (List.mem_append_right _ (List.mem_append_left _ (List.mem_of_getElem? (i := 30) rfl))))))), rfl⟩, jw_of (z := 122) (by decide +kernel), by decide, Or.inr (Or.inl ⟨by decide +kernel, jw_of (z := 1343) (by decide +kernel), jw_of (z := 45) (by decide +kernel)⟩), by decide +kernel⟩
def M_M_sheetOf : jMe := ("FootMapsModel", prog_9_method_23_code, 4, 0, false)
set_option maxRecDepth 100000 in
theorem ok_M_sheetOf : jcdok M_M_sheetOf cd_M_sheetOf := jcdok_of 37 (by decide +kernel) (fun pc hp => by unfold cd_M_sheetOf; rw [j_out hp]; rfl)
set_option maxRecDepth 100000 in
theorem mok_M_sheetOf : jMok 173 prog_9_method_23_code 4 (Option.some FieldType.int) := ⟨List.mem_filter.mpr ⟨List.mem_append_right _ (show _ ∈ tables_1 from List.mem_append_right _ (List.mem_append_right _ (List.mem_append_right _ (List.mem_append_right _ (List.mem_append_right _ (List.mem_append_left _ (List.mem_of_getElem? (i := 26) rfl))))))), rfl⟩, jw_of (z := 122) (by decide +kernel), by decide, Or.inr (Or.inl ⟨by decide +kernel, jw_of (z := 1339) (by decide +kernel), jw_of (z := 44) (by decide +kernel)⟩), by decide +kernel⟩
def M_M_ones : jMe := ("FootMapsModel", prog_9_method_9_code, 3, 0, false)
set_option maxRecDepth 100000 in
theorem ok_M_ones : jcdok M_M_ones cd_M_ones := jcdok_of 26 (by decide +kernel) (fun pc hp => by unfold cd_M_ones; rw [j_out hp]; rfl)
set_option maxRecDepth 100000 in
theorem mok_M_ones : jMok 175 prog_9_method_9_code 3 (Option.some FieldType.int) := ⟨List.mem_filter.mpr ⟨List.mem_append_right _ (show _ ∈ tables_1 from List.mem_append_right _ (List.mem_append_right _ (List.mem_append_right _ (List.mem_append_right _ (List.mem_append_right _ (List.mem_append_left _ (List.mem_of_getElem? (i := 33) rfl))))))), rfl⟩, jw_of (z := 122) (by decide +kernel), by decide, Or.inl ⟨by decide +kernel, jw_of (z := 1346) (by decide +kernel)⟩, by decide +kernel⟩
def M_M_codeAt : jMe := ("FootMapsModel", prog_9_method_69_code, 2, 0, false)
set_option maxRecDepth 100000 in
theorem ok_M_codeAt : jcdok M_M_codeAt cd_M_codeAt := jcdok_of 23 (by decide +kernel) (fun pc hp => by unfold cd_M_codeAt; rw [j_out hp]; rfl)
set_option maxRecDepth 100000 in
theorem mok_M_codeAt : jMok 178 prog_9_method_69_code 2 (Option.some FieldType.int) := ⟨List.mem_filter.mpr ⟨List.mem_append_right _ (show _ ∈ tables_1 from List.mem_append_right _ (List.mem_append_right _ (List.mem_append_right _ (List.mem_append_right _ (List.mem_append_right _ (List.mem_append_left _ (List.mem_of_getElem? (i := 45) rfl))))))), rfl⟩, jw_of (z := 122) (by decide +kernel), by decide, Or.inr (Or.inl ⟨by decide +kernel, jw_of (z := 1358) (by decide +kernel), jw_of (z := 48) (by decide +kernel)⟩), by decide +kernel⟩
def M_M_sign : jMe := ("FootMapsModel", prog_9_method_50_code, 1, 0, false)
set_option maxRecDepth 100000 in
theorem ok_M_sign : jcdok M_M_sign cd_M_sign := jcdok_of 5 (by decide +kernel) (fun pc hp => by unfold cd_M_sign; rw [j_out hp]; rfl)
set_option maxRecDepth 100000 in
theorem mok_M_sign : jMok 182 prog_9_method_50_code 1 (Option.some FieldType.int) := ⟨List.mem_filter.mpr ⟨List.mem_append_right _ (show _ ∈ tables_1 from List.mem_append_right _ (List.mem_append_right _ (List.mem_append_right _ (List.mem_append_right _ (List.mem_append_right _ (List.mem_append_left _ (List.mem_of_getElem? (i := 60) rfl))))))), rfl⟩, jw_of (z := 122) (by decide +kernel), by decide, Or.inl ⟨by decide +kernel, jw_of (z := 1373) (by decide +kernel)⟩, by decide +kernel⟩
def M_M_passes0 : jMe := ("FootMapsModel", prog_9_method_70_code, 3, 1, false)
set_option maxRecDepth 100000 in
theorem ok_M_passes0 : jcdok M_M_passes0 cd_M_passes0 := jcdok_of 34 (by decide +kernel) (fun pc hp => by unfold cd_M_passes0; rw [j_out hp]; rfl)
set_option maxRecDepth 100000 in
theorem mok_M_passes0 : jMok 183 prog_9_method_70_code 3 (Option.some FieldType.boolean) := ⟨List.mem_filter.mpr ⟨List.mem_append_right _ (show _ ∈ tables_1 from List.mem_append_right _ (List.mem_append_right _ (List.mem_append_right _ (List.mem_append_right _ (List.mem_append_right _ (List.mem_append_left _ (List.mem_of_getElem? (i := 64) rfl))))))), rfl⟩, jw_of (z := 122) (by decide +kernel), by decide, Or.inr (Or.inl ⟨by decide +kernel, jw_of (z := 1377) (by decide +kernel), jw_of (z := 52) (by decide +kernel)⟩), by decide +kernel⟩
def M_M_orderValue : jMe := ("FootMapsModel", prog_9_method_75_code, 3, 0, false)
set_option maxRecDepth 100000 in
theorem ok_M_orderValue : jcdok M_M_orderValue cd_M_orderValue := jcdok_of 107 (by decide +kernel) (fun pc hp => by unfold cd_M_orderValue; rw [j_out hp]; rfl)
set_option maxRecDepth 100000 in
theorem mok_M_orderValue : jMok 184 prog_9_method_75_code 3 (Option.some FieldType.int) := ⟨List.mem_filter.mpr ⟨List.mem_append_right _ (show _ ∈ tables_1 from List.mem_append_right _ (List.mem_append_right _ (List.mem_append_right _ (List.mem_append_right _ (List.mem_append_right _ (List.mem_append_left _ (List.mem_of_getElem? (i := 68) rfl))))))), rfl⟩, jw_of (z := 122) (by decide +kernel), by decide, Or.inr (Or.inl ⟨by decide +kernel, jw_of (z := 1381) (by decide +kernel), jw_of (z := 53) (by decide +kernel)⟩), by decide +kernel⟩
def M_M_bounded : jMe := ("FootMapsModel", prog_9_method_71_code, 4, 2, false)
set_option maxRecDepth 100000 in
theorem ok_M_bounded : jcdok M_M_bounded cd_M_bounded := jcdok_of 38 (by decide +kernel) (fun pc hp => by unfold cd_M_bounded; rw [j_out hp]; rfl)
set_option maxRecDepth 100000 in
theorem mok_M_bounded : jMok 185 prog_9_method_71_code 4 (Option.some FieldType.long) := ⟨List.mem_filter.mpr ⟨List.mem_append_right _ (show _ ∈ tables_1 from List.mem_append_right _ (List.mem_append_right _ (List.mem_append_right _ (List.mem_append_right _ (List.mem_append_right _ (List.mem_append_left _ (List.mem_of_getElem? (i := 72) rfl))))))), rfl⟩, jw_of (z := 122) (by decide +kernel), by decide, Or.inr (Or.inl ⟨by decide +kernel, jw_of (z := 1385) (by decide +kernel), jw_of (z := 54) (by decide +kernel)⟩), by decide +kernel⟩
def M_M_partOf : jMe := ("FootMapsModel", prog_9_method_74_code, 4, 2, false)
set_option maxRecDepth 100000 in
theorem ok_M_partOf : jcdok M_M_partOf cd_M_partOf := jcdok_of 164 (by decide +kernel) (fun pc hp => by unfold cd_M_partOf; rw [j_out hp]; rfl)
set_option maxRecDepth 100000 in
theorem mok_M_partOf : jMok 181 prog_9_method_74_code 4 (Option.some FieldType.long) := ⟨List.mem_filter.mpr ⟨List.mem_append_right _ (show _ ∈ tables_1 from List.mem_append_right _ (List.mem_append_right _ (List.mem_append_right _ (List.mem_append_right _ (List.mem_append_right _ (List.mem_append_left _ (List.mem_of_getElem? (i := 57) rfl))))))), rfl⟩, jw_of (z := 122) (by decide +kernel), by decide, Or.inr (Or.inl ⟨by decide +kernel, jw_of (z := 1370) (by decide +kernel), jw_of (z := 51) (by decide +kernel)⟩), by decide +kernel⟩
def M_M_termOf : jMe := ("FootMapsModel", prog_9_method_73_code, 7, 2, false)
set_option maxRecDepth 100000 in
theorem ok_M_termOf : jcdok M_M_termOf cd_M_termOf := jcdok_of 170 (by decide +kernel) (fun pc hp => by unfold cd_M_termOf; rw [j_out hp]; rfl)
set_option maxRecDepth 100000 in
theorem mok_M_termOf : jMok 180 prog_9_method_73_code 7 (Option.some FieldType.long) := ⟨List.mem_filter.mpr ⟨List.mem_append_right _ (show _ ∈ tables_1 from List.mem_append_right _ (List.mem_append_right _ (List.mem_append_right _ (List.mem_append_right _ (List.mem_append_right _ (List.mem_append_left _ (List.mem_of_getElem? (i := 53) rfl))))))), rfl⟩, jw_of (z := 122) (by decide +kernel), by decide, Or.inr (Or.inl ⟨by decide +kernel, jw_of (z := 1366) (by decide +kernel), jw_of (z := 50) (by decide +kernel)⟩), by decide +kernel⟩
def M_M_sumOf : jMe := ("FootMapsModel", prog_9_method_72_code, 7, 2, false)
set_option maxRecDepth 100000 in
theorem ok_M_sumOf : jcdok M_M_sumOf cd_M_sumOf := jcdok_of 105 (by decide +kernel) (fun pc hp => by unfold cd_M_sumOf; rw [j_out hp]; rfl)
set_option maxRecDepth 100000 in
theorem mok_M_sumOf : jMok 179 prog_9_method_72_code 7 (Option.some FieldType.long) := ⟨List.mem_filter.mpr ⟨List.mem_append_right _ (show _ ∈ tables_1 from List.mem_append_right _ (List.mem_append_right _ (List.mem_append_right _ (List.mem_append_right _ (List.mem_append_right _ (List.mem_append_left _ (List.mem_of_getElem? (i := 49) rfl))))))), rfl⟩, jw_of (z := 122) (by decide +kernel), by decide, Or.inr (Or.inl ⟨by decide +kernel, jw_of (z := 1362) (by decide +kernel), jw_of (z := 49) (by decide +kernel)⟩), by decide +kernel⟩
def M_M_positiveOf : jMe := ("FootMapsModel", prog_9_method_79_code, 7, 1, false)
set_option maxRecDepth 100000 in
theorem ok_M_positiveOf : jcdok M_M_positiveOf cd_M_positiveOf := jcdok_of 127 (by decide +kernel) (fun pc hp => by unfold cd_M_positiveOf; rw [j_out hp]; rfl)
set_option maxRecDepth 100000 in
theorem mok_M_positiveOf : jMok 189 prog_9_method_79_code 7 (Option.some FieldType.boolean) := ⟨List.mem_filter.mpr ⟨List.mem_append_right _ (show _ ∈ tables_1 from List.mem_append_right _ (List.mem_append_right _ (List.mem_append_right _ (List.mem_append_right _ (List.mem_append_right _ (List.mem_append_left _ (List.mem_of_getElem? (i := 90) rfl))))))), rfl⟩, jw_of (z := 122) (by decide +kernel), by decide, Or.inr (Or.inl ⟨by decide +kernel, jw_of (z := 1403) (by decide +kernel), jw_of (z := 58) (by decide +kernel)⟩), by decide +kernel⟩
def M_M_plainOf : jMe := ("FootMapsModel", prog_9_method_78_code, 3, 1, false)
set_option maxRecDepth 100000 in
theorem ok_M_plainOf : jcdok M_M_plainOf cd_M_plainOf := jcdok_of 39 (by decide +kernel) (fun pc hp => by unfold cd_M_plainOf; rw [j_out hp]; rfl)
set_option maxRecDepth 100000 in
theorem mok_M_plainOf : jMok 188 prog_9_method_78_code 3 (Option.some FieldType.boolean) := ⟨List.mem_filter.mpr ⟨List.mem_append_right _ (show _ ∈ tables_1 from List.mem_append_right _ (List.mem_append_right _ (List.mem_append_right _ (List.mem_append_right _ (List.mem_append_right _ (List.mem_append_left _ (List.mem_of_getElem? (i := 86) rfl))))))), rfl⟩, jw_of (z := 122) (by decide +kernel), by decide, Or.inr (Or.inl ⟨by decide +kernel, jw_of (z := 1399) (by decide +kernel), jw_of (z := 57) (by decide +kernel)⟩), by decide +kernel⟩
def M_M_bothOf : jMe := ("FootMapsModel", prog_9_method_77_code, 4, 1, false)
set_option maxRecDepth 100000 in
theorem ok_M_bothOf : jcdok M_M_bothOf cd_M_bothOf := jcdok_of 52 (by decide +kernel) (fun pc hp => by unfold cd_M_bothOf; rw [j_out hp]; rfl)
set_option maxRecDepth 100000 in
theorem mok_M_bothOf : jMok 187 prog_9_method_77_code 4 (Option.some FieldType.boolean) := ⟨List.mem_filter.mpr ⟨List.mem_append_right _ (show _ ∈ tables_1 from List.mem_append_right _ (List.mem_append_right _ (List.mem_append_right _ (List.mem_append_right _ (List.mem_append_right _ (List.mem_append_left _ (List.mem_of_getElem? (i := 82) rfl))))))), rfl⟩, jw_of (z := 122) (by decide +kernel), by decide, Or.inr (Or.inl ⟨by decide +kernel, jw_of (z := 1395) (by decide +kernel), jw_of (z := 56) (by decide +kernel)⟩), by decide +kernel⟩
def M_M_testOf : jMe := ("FootMapsModel", prog_9_method_76_code, 4, 1, false)
set_option maxRecDepth 100000 in
theorem ok_M_testOf : jcdok M_M_testOf cd_M_testOf := jcdok_of 51 (by decide +kernel) (fun pc hp => by unfold cd_M_testOf; rw [j_out hp]; rfl)
set_option maxRecDepth 100000 in
theorem mok_M_testOf : jMok 186 prog_9_method_76_code 4 (Option.some FieldType.boolean) := ⟨List.mem_filter.mpr ⟨List.mem_append_right _ (show _ ∈ tables_1 from List.mem_append_right _ (List.mem_append_right _ (List.mem_append_right _ (List.mem_append_right _ (List.mem_append_right _ (List.mem_append_left _ (List.mem_of_getElem? (i := 78) rfl))))))), rfl⟩, jw_of (z := 122) (by decide +kernel), by decide, Or.inr (Or.inl ⟨by decide +kernel, jw_of (z := 1391) (by decide +kernel), jw_of (z := 55) (by decide +kernel)⟩), by decide +kernel⟩
def M_M_tells : jMe := ("FootMapsModel", prog_9_method_80_code, 15, 0, false)
set_option maxRecDepth 100000 in
theorem okc_M_tells_0 : ∀ i, i < 60 → (decide ((cd_M_tells (0 + i)).1 = .nop) || jchk M_M_tells.1 M_M_tells.2.1 M_M_tells.2.2.1 M_M_tells.2.2.2.2 (0 + i) (cd_M_tells (0 + i))) = true := by decide +kernel
set_option maxRecDepth 100000 in
theorem okc_M_tells_1 : ∀ i, i < 60 → (decide ((cd_M_tells (60 + i)).1 = .nop) || jchk M_M_tells.1 M_M_tells.2.1 M_M_tells.2.2.1 M_M_tells.2.2.2.2 (60 + i) (cd_M_tells (60 + i))) = true := by decide +kernel
set_option maxRecDepth 100000 in
theorem okc_M_tells_2 : ∀ i, i < 60 → (decide ((cd_M_tells (120 + i)).1 = .nop) || jchk M_M_tells.1 M_M_tells.2.1 M_M_tells.2.2.1 M_M_tells.2.2.2.2 (120 + i) (cd_M_tells (120 + i))) = true := by decide +kernel
set_option maxRecDepth 100000 in
theorem okc_M_tells_3 : ∀ i, i < 60 → (decide ((cd_M_tells (180 + i)).1 = .nop) || jchk M_M_tells.1 M_M_tells.2.1 M_M_tells.2.2.1 M_M_tells.2.2.2.2 (180 + i) (cd_M_tells (180 + i))) = true := by decide +kernel
set_option maxRecDepth 100000 in
theorem okc_M_tells_4 : ∀ i, i < 60 → (decide ((cd_M_tells (240 + i)).1 = .nop) || jchk M_M_tells.1 M_M_tells.2.1 M_M_tells.2.2.1 M_M_tells.2.2.2.2 (240 + i) (cd_M_tells (240 + i))) = true := by decide +kernel
set_option maxRecDepth 100000 in
theorem okc_M_tells_5 : ∀ i, i < 60 → (decide ((cd_M_tells (300 + i)).1 = .nop) || jchk M_M_tells.1 M_M_tells.2.1 M_M_tells.2.2.1 M_M_tells.2.2.2.2 (300 + i) (cd_M_tells (300 + i))) = true := by decide +kernel
set_option maxRecDepth 100000 in
theorem okc_M_tells_6 : ∀ i, i < 2 → (decide ((cd_M_tells (360 + i)).1 = .nop) || jchk M_M_tells.1 M_M_tells.2.1 M_M_tells.2.2.1 M_M_tells.2.2.2.2 (360 + i) (cd_M_tells (360 + i))) = true := by decide +kernel
theorem ok_M_tells : jcdok M_M_tells cd_M_tells := jcdok_of 362 (j_cat2 (P := fun pc => (decide ((cd_M_tells (pc)).1 = .nop) || jchk M_M_tells.1 M_M_tells.2.1 M_M_tells.2.2.1 M_M_tells.2.2.2.2 (pc) (cd_M_tells (pc))) = true) 360 2 (j_cat2 (P := fun pc => (decide ((cd_M_tells (pc)).1 = .nop) || jchk M_M_tells.1 M_M_tells.2.1 M_M_tells.2.2.1 M_M_tells.2.2.2.2 (pc) (cd_M_tells (pc))) = true) 300 60 (j_cat2 (P := fun pc => (decide ((cd_M_tells (pc)).1 = .nop) || jchk M_M_tells.1 M_M_tells.2.1 M_M_tells.2.2.1 M_M_tells.2.2.2.2 (pc) (cd_M_tells (pc))) = true) 240 60 (j_cat2 (P := fun pc => (decide ((cd_M_tells (pc)).1 = .nop) || jchk M_M_tells.1 M_M_tells.2.1 M_M_tells.2.2.1 M_M_tells.2.2.2.2 (pc) (cd_M_tells (pc))) = true) 180 60 (j_cat2 (P := fun pc => (decide ((cd_M_tells (pc)).1 = .nop) || jchk M_M_tells.1 M_M_tells.2.1 M_M_tells.2.2.1 M_M_tells.2.2.2.2 (pc) (cd_M_tells (pc))) = true) 120 60 (j_cat2 (P := fun pc => (decide ((cd_M_tells (pc)).1 = .nop) || jchk M_M_tells.1 M_M_tells.2.1 M_M_tells.2.2.1 M_M_tells.2.2.2.2 (pc) (cd_M_tells (pc))) = true) 60 60 (j_cat2 (P := fun pc => (decide ((cd_M_tells (pc)).1 = .nop) || jchk M_M_tells.1 M_M_tells.2.1 M_M_tells.2.2.1 M_M_tells.2.2.2.2 (pc) (cd_M_tells (pc))) = true) 0 60 (fun pc hp => absurd hp (Nat.not_lt_zero pc)) okc_M_tells_0) okc_M_tells_1) okc_M_tells_2) okc_M_tells_3) okc_M_tells_4) okc_M_tells_5) okc_M_tells_6) (fun pc hp => by unfold cd_M_tells; rw [j_out hp]; rfl)
set_option maxRecDepth 100000 in
theorem mok_M_tells : jMok 177 prog_9_method_80_code 15 (Option.some FieldType.int) := ⟨List.mem_filter.mpr ⟨List.mem_append_right _ (show _ ∈ tables_1 from List.mem_append_right _ (List.mem_append_right _ (List.mem_append_right _ (List.mem_append_right _ (List.mem_append_right _ (List.mem_append_left _ (List.mem_of_getElem? (i := 41) rfl))))))), rfl⟩, jw_of (z := 122) (by decide +kernel), by decide, Or.inr (Or.inl ⟨by decide +kernel, jw_of (z := 1354) (by decide +kernel), jw_of (z := 47) (by decide +kernel)⟩), by decide +kernel⟩
def M_M_seesFrom : jMe := ("FootMapsModel", prog_9_method_82_code, 3, 0, false)
set_option maxRecDepth 100000 in
theorem ok_M_seesFrom : jcdok M_M_seesFrom cd_M_seesFrom := jcdok_of 12 (by decide +kernel) (fun pc hp => by unfold cd_M_seesFrom; rw [j_out hp]; rfl)
set_option maxRecDepth 100000 in
theorem mok_M_seesFrom : jMok 176 prog_9_method_82_code 3 (Option.some FieldType.int) := ⟨List.mem_filter.mpr ⟨List.mem_append_right _ (show _ ∈ tables_1 from List.mem_append_right _ (List.mem_append_right _ (List.mem_append_right _ (List.mem_append_right _ (List.mem_append_right _ (List.mem_append_left _ (List.mem_of_getElem? (i := 37) rfl))))))), rfl⟩, jw_of (z := 122) (by decide +kernel), by decide, Or.inr (Or.inl ⟨by decide +kernel, jw_of (z := 1350) (by decide +kernel), jw_of (z := 46) (by decide +kernel)⟩), by decide +kernel⟩
def M_M_of : jMe := ("FootMapsModel", prog_9_method_30_code, 3, 0, false)
set_option maxRecDepth 100000 in
theorem ok_M_of : jcdok M_M_of cd_M_of := jcdok_of 104 (by decide +kernel) (fun pc hp => by unfold cd_M_of; rw [j_out hp]; rfl)
set_option maxRecDepth 100000 in
theorem mok_M_of : jMok 171 prog_9_method_30_code 3 (Option.some FieldType.int) := ⟨List.mem_filter.mpr ⟨List.mem_append_right _ (show _ ∈ tables_1 from List.mem_append_right _ (List.mem_append_right _ (List.mem_append_right _ (List.mem_append_right _ (List.mem_append_right _ (List.mem_append_left _ (List.mem_of_getElem? (i := 18) rfl))))))), rfl⟩, jw_of (z := 122) (by decide +kernel), by decide, Or.inr (Or.inl ⟨by decide +kernel, jw_of (z := 1330) (by decide +kernel), jw_of (z := 1331) (by decide +kernel)⟩), by decide +kernel⟩
def M_M_sheet : jMe := ("FootMapsModel", prog_9_method_31_code, 3, 0, false)
set_option maxRecDepth 100000 in
theorem ok_M_sheet : jcdok M_M_sheet cd_M_sheet := jcdok_of 28 (by decide +kernel) (fun pc hp => by unfold cd_M_sheet; rw [j_out hp]; rfl)
set_option maxRecDepth 100000 in
theorem mok_M_sheet : jMok 190 prog_9_method_31_code 3 (Option.some FieldType.int) := ⟨List.mem_filter.mpr ⟨List.mem_append_right _ (show _ ∈ tables_1 from List.mem_append_right _ (List.mem_append_right _ (List.mem_append_right _ (List.mem_append_right _ (List.mem_append_right _ (List.mem_append_left _ (List.mem_of_getElem? (i := 94) rfl))))))), rfl⟩, jw_of (z := 122) (by decide +kernel), by decide, Or.inr (Or.inl ⟨by decide +kernel, jw_of (z := 1406) (by decide +kernel), jw_of (z := 1407) (by decide +kernel)⟩), by decide +kernel⟩
def M_M_isWay : jMe := ("FootMapsModel", prog_9_method_11_code, 1, 1, false)
set_option maxRecDepth 100000 in
theorem ok_M_isWay : jcdok M_M_isWay cd_M_isWay := jcdok_of 7 (by decide +kernel) (fun pc hp => by unfold cd_M_isWay; rw [j_out hp]; rfl)
set_option maxRecDepth 100000 in
theorem mok_M_isWay : jMok 192 prog_9_method_11_code 1 (Option.some FieldType.boolean) := ⟨List.mem_filter.mpr ⟨List.mem_append_right _ (show _ ∈ tables_1 from List.mem_append_right _ (List.mem_append_right _ (List.mem_append_right _ (List.mem_append_right _ (List.mem_append_right _ (List.mem_append_left _ (List.mem_of_getElem? (i := 101) rfl))))))), rfl⟩, jw_of (z := 122) (by decide +kernel), by decide, Or.inl ⟨by decide +kernel, jw_of (z := 1414) (by decide +kernel)⟩, by decide +kernel⟩
def M_M_cellAt : jMe := ("FootMapsModel", prog_9_method_12_code, 2, 0, false)
set_option maxRecDepth 100000 in
theorem ok_M_cellAt : jcdok M_M_cellAt cd_M_cellAt := jcdok_of 92 (by decide +kernel) (fun pc hp => by unfold cd_M_cellAt; rw [j_out hp]; rfl)
set_option maxRecDepth 100000 in
theorem mok_M_cellAt : jMok 193 prog_9_method_12_code 2 (Option.some FieldType.int) := ⟨List.mem_filter.mpr ⟨List.mem_append_right _ (show _ ∈ tables_1 from List.mem_append_right _ (List.mem_append_right _ (List.mem_append_right _ (List.mem_append_right _ (List.mem_append_right _ (List.mem_append_left _ (List.mem_of_getElem? (i := 104) rfl))))))), rfl⟩, jw_of (z := 122) (by decide +kernel), by decide, Or.inl ⟨by decide +kernel, jw_of (z := 1417) (by decide +kernel)⟩, by decide +kernel⟩
def M_M_costOf : jMe := ("FootMapsModel", prog_9_method_81_code, 4, 0, false)
set_option maxRecDepth 100000 in
theorem ok_M_costOf : jcdok M_M_costOf cd_M_costOf := jcdok_of 13 (by decide +kernel) (fun pc hp => by unfold cd_M_costOf; rw [j_out hp]; rfl)
set_option maxRecDepth 100000 in
theorem mok_M_costOf : jMok 194 prog_9_method_81_code 4 (Option.some FieldType.int) := ⟨List.mem_filter.mpr ⟨List.mem_append_right _ (show _ ∈ tables_1 from List.mem_append_right _ (List.mem_append_right _ (List.mem_append_right _ (List.mem_append_right _ (List.mem_append_right _ (List.mem_append_left _ (List.mem_of_getElem? (i := 108) rfl))))))), rfl⟩, jw_of (z := 122) (by decide +kernel), by decide, Or.inr (Or.inl ⟨by decide +kernel, jw_of (z := 1421) (by decide +kernel), jw_of (z := 59) (by decide +kernel)⟩), by decide +kernel⟩
def M_M_isBarred : jMe := ("FootMapsModel", prog_9_method_83_code, 4, 1, false)
set_option maxRecDepth 100000 in
theorem ok_M_isBarred : jcdok M_M_isBarred cd_M_isBarred := jcdok_of 21 (by decide +kernel) (fun pc hp => by unfold cd_M_isBarred; rw [j_out hp]; rfl)
set_option maxRecDepth 100000 in
theorem mok_M_isBarred : jMok 195 prog_9_method_83_code 4 (Option.some FieldType.boolean) := ⟨List.mem_filter.mpr ⟨List.mem_append_right _ (show _ ∈ tables_1 from List.mem_append_right _ (List.mem_append_right _ (List.mem_append_right _ (List.mem_append_right _ (List.mem_append_right _ (List.mem_append_left _ (List.mem_of_getElem? (i := 112) rfl))))))), rfl⟩, jw_of (z := 122) (by decide +kernel), by decide, Or.inr (Or.inl ⟨by decide +kernel, jw_of (z := 1425) (by decide +kernel), jw_of (z := 60) (by decide +kernel)⟩), by decide +kernel⟩
def M_M_asks : jMe := ("FootMapsModel", prog_9_method_32_code, 4, 0, false)
set_option maxRecDepth 100000 in
theorem ok_M_asks : jcdok M_M_asks cd_M_asks := jcdok_of 106 (by decide +kernel) (fun pc hp => by unfold cd_M_asks; rw [j_out hp]; rfl)
set_option maxRecDepth 100000 in
theorem mok_M_asks : jMok 191 prog_9_method_32_code 4 (Option.some FieldType.int) := ⟨List.mem_filter.mpr ⟨List.mem_append_right _ (show _ ∈ tables_1 from List.mem_append_right _ (List.mem_append_right _ (List.mem_append_right _ (List.mem_append_right _ (List.mem_append_right _ (List.mem_append_left _ (List.mem_of_getElem? (i := 98) rfl))))))), rfl⟩, jw_of (z := 122) (by decide +kernel), by decide, Or.inr (Or.inl ⟨by decide +kernel, jw_of (z := 1410) (by decide +kernel), jw_of (z := 1411) (by decide +kernel)⟩), by decide +kernel⟩
def M_M_wants : jMe := ("FootMapsModel", prog_9_method_33_code, 4, 0, false)
set_option maxRecDepth 100000 in
theorem ok_M_wants : jcdok M_M_wants cd_M_wants := jcdok_of 68 (by decide +kernel) (fun pc hp => by unfold cd_M_wants; rw [j_out hp]; rfl)
set_option maxRecDepth 100000 in
theorem mok_M_wants : jMok 196 prog_9_method_33_code 4 (Option.some FieldType.int) := ⟨List.mem_filter.mpr ⟨List.mem_append_right _ (show _ ∈ tables_1 from List.mem_append_right _ (List.mem_append_right _ (List.mem_append_right _ (List.mem_append_right _ (List.mem_append_right _ (List.mem_append_left _ (List.mem_of_getElem? (i := 116) rfl))))))), rfl⟩, jw_of (z := 122) (by decide +kernel), by decide, Or.inr (Or.inl ⟨by decide +kernel, jw_of (z := 1428) (by decide +kernel), jw_of (z := 1429) (by decide +kernel)⟩), by decide +kernel⟩
def M_M_isTerm : jMe := ("FootMapsModel", prog_9_method_34_code, 2, 1, false)
set_option maxRecDepth 100000 in
theorem ok_M_isTerm : jcdok M_M_isTerm cd_M_isTerm := jcdok_of 55 (by decide +kernel) (fun pc hp => by unfold cd_M_isTerm; rw [j_out hp]; rfl)
set_option maxRecDepth 100000 in
theorem mok_M_isTerm : jMok 198 prog_9_method_34_code 2 (Option.some FieldType.boolean) := ⟨List.mem_filter.mpr ⟨List.mem_append_right _ (show _ ∈ tables_1 from List.mem_append_right _ (List.mem_append_right _ (List.mem_append_right _ (List.mem_append_right _ (List.mem_append_right _ (List.mem_append_left _ (List.mem_of_getElem? (i := 124) rfl))))))), rfl⟩, jw_of (z := 122) (by decide +kernel), by decide, Or.inl ⟨by decide +kernel, jw_of (z := 1437) (by decide +kernel)⟩, by decide +kernel⟩
def M_M_termAt : jMe := ("FootMapsModel", prog_9_method_35_code, 1, 0, false)
set_option maxRecDepth 100000 in
theorem ok_M_termAt : jcdok M_M_termAt cd_M_termAt := jcdok_of 24 (by decide +kernel) (fun pc hp => by unfold cd_M_termAt; rw [j_out hp]; rfl)
set_option maxRecDepth 100000 in
theorem mok_M_termAt : jMok 199 prog_9_method_35_code 1 (Option.some FieldType.int) := ⟨List.mem_filter.mpr ⟨List.mem_append_right _ (show _ ∈ tables_1 from List.mem_append_right _ (List.mem_append_right _ (List.mem_append_right _ (List.mem_append_right _ (List.mem_append_right _ (List.mem_append_left _ (List.mem_of_getElem? (i := 127) rfl))))))), rfl⟩, jw_of (z := 122) (by decide +kernel), by decide, Or.inl ⟨by decide +kernel, jw_of (z := 1440) (by decide +kernel)⟩, by decide +kernel⟩
def M_M_terms : jMe := ("FootMapsModel", prog_9_method_36_code, 4, 0, false)
set_option maxRecDepth 100000 in
theorem ok_M_terms : jcdok M_M_terms cd_M_terms := jcdok_of 40 (by decide +kernel) (fun pc hp => by unfold cd_M_terms; rw [j_out hp]; rfl)
set_option maxRecDepth 100000 in
theorem mok_M_terms : jMok 197 prog_9_method_36_code 4 (Option.some FieldType.int) := ⟨List.mem_filter.mpr ⟨List.mem_append_right _ (show _ ∈ tables_1 from List.mem_append_right _ (List.mem_append_right _ (List.mem_append_right _ (List.mem_append_right _ (List.mem_append_right _ (List.mem_append_left _ (List.mem_of_getElem? (i := 121) rfl))))))), rfl⟩, jw_of (z := 122) (by decide +kernel), by decide, Or.inr (Or.inl ⟨by decide +kernel, jw_of (z := 1433) (by decide +kernel), jw_of (z := 1434) (by decide +kernel)⟩), by decide +kernel⟩
def M_M_row : jMe := ("FootMapsModel", prog_9_method_37_code, 5, 0, false)
set_option maxRecDepth 100000 in
theorem ok_M_row : jcdok M_M_row cd_M_row := jcdok_of 149 (by decide +kernel) (fun pc hp => by unfold cd_M_row; rw [j_out hp]; rfl)
set_option maxRecDepth 100000 in
theorem mok_M_row : jMok 200 prog_9_method_37_code 5 (Option.some FieldType.int) := ⟨List.mem_filter.mpr ⟨List.mem_append_right _ (show _ ∈ tables_1 from List.mem_append_right _ (List.mem_append_right _ (List.mem_append_right _ (List.mem_append_right _ (List.mem_append_right _ (List.mem_append_left _ (List.mem_of_getElem? (i := 131) rfl))))))), rfl⟩, jw_of (z := 122) (by decide +kernel), by decide, Or.inr (Or.inl ⟨by decide +kernel, jw_of (z := 1443) (by decide +kernel), jw_of (z := 1444) (by decide +kernel)⟩), by decide +kernel⟩
def M_M_blots : jMe := ("FootMapsModel", prog_9_method_38_code, 1, 0, false)
set_option maxRecDepth 100000 in
theorem ok_M_blots : jcdok M_M_blots cd_M_blots := jcdok_of 5 (by decide +kernel) (fun pc hp => by unfold cd_M_blots; rw [j_out hp]; rfl)
set_option maxRecDepth 100000 in
theorem mok_M_blots : jMok 201 prog_9_method_38_code 1 (Option.some FieldType.int) := ⟨List.mem_filter.mpr ⟨List.mem_append_right _ (show _ ∈ tables_1 from List.mem_append_right _ (List.mem_append_right _ (List.mem_append_right _ (List.mem_append_right _ (List.mem_append_right _ (List.mem_append_left _ (List.mem_of_getElem? (i := 135) rfl))))))), rfl⟩, jw_of (z := 122) (by decide +kernel), by decide, Or.inr (Or.inl ⟨by decide +kernel, jw_of (z := 1447) (by decide +kernel), jw_of (z := 1448) (by decide +kernel)⟩), by decide +kernel⟩
