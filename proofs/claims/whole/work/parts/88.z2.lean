def M_M_feed : jMe := ("FootMapsModel", prog_9_method_39_code, 7, 0, false)
set_option maxRecDepth 100000 in
theorem ok_M_feed : jcdok M_M_feed cd_M_feed := jcdok_of 117 (by decide +kernel) (fun pc hp => by unfold cd_M_feed; rw [j_out hp]; rfl)
set_option maxRecDepth 100000 in
theorem mok_M_feed : jMok 202 prog_9_method_39_code 7 (Option.some FieldType.int) := ⟨List.mem_filter.mpr ⟨List.mem_append_right _ (show _ ∈ tables_1 from List.mem_append_right _ (List.mem_append_right _ (List.mem_append_right _ (List.mem_append_right _ (List.mem_append_right _ (List.mem_append_left _ (List.mem_of_getElem? (i := 139) rfl))))))), rfl⟩, jw_of (z := 122) (by decide +kernel), by decide, Or.inr (Or.inl ⟨by decide +kernel, jw_of (z := 1451) (by decide +kernel), jw_of (z := 1452) (by decide +kernel)⟩), by decide +kernel⟩
def M_M_end : jMe := ("FootMapsModel", prog_9_method_40_code, 2, 0, false)
set_option maxRecDepth 100000 in
theorem ok_M_end : jcdok M_M_end cd_M_end := jcdok_of 21 (by decide +kernel) (fun pc hp => by unfold cd_M_end; rw [j_out hp]; rfl)
set_option maxRecDepth 100000 in
theorem mok_M_end : jMok 203 prog_9_method_40_code 2 (Option.some FieldType.int) := ⟨List.mem_filter.mpr ⟨List.mem_append_right _ (show _ ∈ tables_1 from List.mem_append_right _ (List.mem_append_right _ (List.mem_append_right _ (List.mem_append_right _ (List.mem_append_right _ (List.mem_append_left _ (List.mem_of_getElem? (i := 143) rfl))))))), rfl⟩, jw_of (z := 122) (by decide +kernel), by decide, Or.inr (Or.inl ⟨by decide +kernel, jw_of (z := 1455) (by decide +kernel), jw_of (z := 1456) (by decide +kernel)⟩), by decide +kernel⟩
def M_M_isSmall : jMe := ("FootMapsModel", prog_9_method_41_code, 1, 1, false)
set_option maxRecDepth 100000 in
theorem ok_M_isSmall : jcdok M_M_isSmall cd_M_isSmall := jcdok_of 18 (by decide +kernel) (fun pc hp => by unfold cd_M_isSmall; rw [j_out hp]; rfl)
set_option maxRecDepth 100000 in
theorem mok_M_isSmall : jMok 208 prog_9_method_41_code 1 (Option.some FieldType.boolean) := ⟨List.mem_filter.mpr ⟨List.mem_append_right _ (show _ ∈ tables_1 from List.mem_append_right _ (List.mem_append_right _ (List.mem_append_right _ (List.mem_append_right _ (List.mem_append_right _ (List.mem_append_left _ (List.mem_of_getElem? (i := 162) rfl))))))), rfl⟩, jw_of (z := 122) (by decide +kernel), by decide, Or.inl ⟨by decide +kernel, jw_of (z := 1475) (by decide +kernel)⟩, by decide +kernel⟩
def M_M_isDigit : jMe := ("FootMapsModel", prog_9_method_42_code, 1, 1, false)
set_option maxRecDepth 100000 in
theorem ok_M_isDigit : jcdok M_M_isDigit cd_M_isDigit := jcdok_of 18 (by decide +kernel) (fun pc hp => by unfold cd_M_isDigit; rw [j_out hp]; rfl)
set_option maxRecDepth 100000 in
theorem mok_M_isDigit : jMok 209 prog_9_method_42_code 1 (Option.some FieldType.boolean) := ⟨List.mem_filter.mpr ⟨List.mem_append_right _ (show _ ∈ tables_1 from List.mem_append_right _ (List.mem_append_right _ (List.mem_append_right _ (List.mem_append_right _ (List.mem_append_right _ (List.mem_append_left _ (List.mem_of_getElem? (i := 165) rfl))))))), rfl⟩, jw_of (z := 122) (by decide +kernel), by decide, Or.inl ⟨by decide +kernel, jw_of (z := 1478) (by decide +kernel)⟩, by decide +kernel⟩
def M_M_wordOf : jMe := ("FootMapsModel", prog_9_method_43_code, 8, 0, false)
set_option maxRecDepth 100000 in
theorem ok_M_wordOf : jcdok M_M_wordOf cd_M_wordOf := jcdok_of 128 (by decide +kernel) (fun pc hp => by unfold cd_M_wordOf; rw [j_out hp]; rfl)
set_option maxRecDepth 100000 in
theorem mok_M_wordOf : jMok 210 prog_9_method_43_code 8 (Option.some FieldType.int) := ⟨List.mem_filter.mpr ⟨List.mem_append_right _ (show _ ∈ tables_1 from List.mem_append_right _ (List.mem_append_right _ (List.mem_append_right _ (List.mem_append_right _ (List.mem_append_right _ (List.mem_append_left _ (List.mem_of_getElem? (i := 169) rfl))))))), rfl⟩, jw_of (z := 122) (by decide +kernel), by decide, Or.inr (Or.inl ⟨by decide +kernel, jw_of (z := 1482) (by decide +kernel), jw_of (z := 64) (by decide +kernel)⟩), by decide +kernel⟩
def M_M_splits : jMe := ("FootMapsModel", prog_9_method_44_code, 6, 4, false)
set_option maxRecDepth 100000 in
theorem ok_M_splits : jcdok M_M_splits cd_M_splits := jcdok_of 294 (by decide +kernel) (fun pc hp => by unfold cd_M_splits; rw [j_out hp]; rfl)
set_option maxRecDepth 100000 in
theorem mok_M_splits : jMok 207 prog_9_method_44_code 6 (Option.none : Option FieldType) := ⟨List.mem_filter.mpr ⟨List.mem_append_right _ (show _ ∈ tables_1 from List.mem_append_right _ (List.mem_append_right _ (List.mem_append_right _ (List.mem_append_right _ (List.mem_append_right _ (List.mem_append_left _ (List.mem_of_getElem? (i := 159) rfl))))))), rfl⟩, jw_of (z := 122) (by decide +kernel), by decide, Or.inr (Or.inl ⟨by decide +kernel, jw_of (z := 1472) (by decide +kernel), jw_of (z := 63) (by decide +kernel)⟩), by decide +kernel⟩
def M_M_fine : jMe := ("FootMapsModel", prog_9_method_45_code, 1, 1, false)
set_option maxRecDepth 100000 in
theorem ok_M_fine : jcdok M_M_fine cd_M_fine := jcdok_of 14 (by decide +kernel) (fun pc hp => by unfold cd_M_fine; rw [j_out hp]; rfl)
set_option maxRecDepth 100000 in
theorem mok_M_fine : jMok 214 prog_9_method_45_code 1 (Option.some FieldType.boolean) := ⟨List.mem_filter.mpr ⟨List.mem_append_right _ (show _ ∈ tables_1 from List.mem_append_right _ (List.mem_append_right _ (List.mem_append_right _ (List.mem_append_right _ (List.mem_append_right _ (List.mem_append_left _ (List.mem_of_getElem? (i := 186) rfl))))))), rfl⟩, jw_of (z := 122) (by decide +kernel), by decide, Or.inr (Or.inl ⟨by decide +kernel, jw_of (z := 1499) (by decide +kernel), jw_of (z := 68) (by decide +kernel)⟩), by decide +kernel⟩
def M_M_takes0 : jMe := ("FootMapsModel", prog_9_method_47_code, 3, 1, false)
set_option maxRecDepth 100000 in
theorem ok_M_takes0 : jcdok M_M_takes0 cd_M_takes0 := jcdok_of 42 (by decide +kernel) (fun pc hp => by unfold cd_M_takes0; rw [j_out hp]; rfl)
set_option maxRecDepth 100000 in
theorem mok_M_takes0 : jMok 213 prog_9_method_47_code 3 (Option.some FieldType.boolean) := ⟨List.mem_filter.mpr ⟨List.mem_append_right _ (show _ ∈ tables_1 from List.mem_append_right _ (List.mem_append_right _ (List.mem_append_right _ (List.mem_append_right _ (List.mem_append_right _ (List.mem_append_left _ (List.mem_of_getElem? (i := 182) rfl))))))), rfl⟩, jw_of (z := 122) (by decide +kernel), by decide, Or.inr (Or.inl ⟨by decide +kernel, jw_of (z := 1495) (by decide +kernel), jw_of (z := 67) (by decide +kernel)⟩), by decide +kernel⟩
def M_M_faults : jMe := ("FootMapsModel", prog_9_method_46_code, 1, 4, false)
set_option maxRecDepth 100000 in
theorem ok_M_faults : jcdok M_M_faults cd_M_faults := jcdok_of 21 (by decide +kernel) (fun pc hp => by unfold cd_M_faults; rw [j_out hp]; rfl)
set_option maxRecDepth 100000 in
theorem mok_M_faults : jMok 219 prog_9_method_46_code 1 (Option.none : Option FieldType) := ⟨List.mem_filter.mpr ⟨List.mem_append_right _ (show _ ∈ tables_1 from List.mem_append_right _ (List.mem_append_right _ (List.mem_append_right _ (List.mem_append_right _ (List.mem_append_right _ (List.mem_append_left _ (List.mem_of_getElem? (i := 206) rfl))))))), rfl⟩, jw_of (z := 122) (by decide +kernel), by decide, Or.inr (Or.inl ⟨by decide +kernel, jw_of (z := 1519) (by decide +kernel), jw_of (z := 73) (by decide +kernel)⟩), by decide +kernel⟩
def M_M_must : jMe := ("FootMapsModel", prog_9_method_48_code, 2, 4, false)
set_option maxRecDepth 100000 in
theorem ok_M_must : jcdok M_M_must cd_M_must := jcdok_of 13 (by decide +kernel) (fun pc hp => by unfold cd_M_must; rw [j_out hp]; rfl)
set_option maxRecDepth 100000 in
theorem mok_M_must : jMok 220 prog_9_method_48_code 2 (Option.none : Option FieldType) := ⟨List.mem_filter.mpr ⟨List.mem_append_right _ (show _ ∈ tables_1 from List.mem_append_right _ (List.mem_append_right _ (List.mem_append_right _ (List.mem_append_right _ (List.mem_append_right _ (List.mem_append_left _ (List.mem_of_getElem? (i := 210) rfl))))))), rfl⟩, jw_of (z := 122) (by decide +kernel), by decide, Or.inr (Or.inl ⟨by decide +kernel, jw_of (z := 1523) (by decide +kernel), jw_of (z := 74) (by decide +kernel)⟩), by decide +kernel⟩
def M_M_leaf : jMe := ("FootMapsModel", prog_9_method_49_code, 1, 4, false)
set_option maxRecDepth 100000 in
theorem ok_M_leaf : jcdok M_M_leaf cd_M_leaf := jcdok_of 41 (by decide +kernel) (fun pc hp => by unfold cd_M_leaf; rw [j_out hp]; rfl)
set_option maxRecDepth 100000 in
theorem mok_M_leaf : jMok 221 prog_9_method_49_code 1 (Option.none : Option FieldType) := ⟨List.mem_filter.mpr ⟨List.mem_append_right _ (show _ ∈ tables_1 from List.mem_append_right _ (List.mem_append_right _ (List.mem_append_right _ (List.mem_append_right _ (List.mem_append_right _ (List.mem_append_left _ (List.mem_of_getElem? (i := 214) rfl))))))), rfl⟩, jw_of (z := 122) (by decide +kernel), by decide, Or.inr (Or.inl ⟨by decide +kernel, jw_of (z := 1527) (by decide +kernel), jw_of (z := 75) (by decide +kernel)⟩), by decide +kernel⟩
def M_M_mustNumber : jMe := ("FootMapsModel", prog_9_method_51_code, 3, 4, false)
set_option maxRecDepth 100000 in
theorem ok_M_mustNumber : jcdok M_M_mustNumber cd_M_mustNumber := jcdok_of 60 (by decide +kernel) (fun pc hp => by unfold cd_M_mustNumber; rw [j_out hp]; rfl)
set_option maxRecDepth 100000 in
theorem mok_M_mustNumber : jMok 222 prog_9_method_51_code 3 (Option.none : Option FieldType) := ⟨List.mem_filter.mpr ⟨List.mem_append_right _ (show _ ∈ tables_1 from List.mem_append_right _ (List.mem_append_right _ (List.mem_append_right _ (List.mem_append_right _ (List.mem_append_right _ (List.mem_append_left _ (List.mem_of_getElem? (i := 218) rfl))))))), rfl⟩, jw_of (z := 122) (by decide +kernel), by decide, Or.inr (Or.inl ⟨by decide +kernel, jw_of (z := 1531) (by decide +kernel), jw_of (z := 76) (by decide +kernel)⟩), by decide +kernel⟩
def M_M_readPart : jMe := ("FootMapsModel", prog_9_method_61_code, 3, 4, false)
set_option maxRecDepth 100000 in
theorem ok_M_readPart : jcdok M_M_readPart cd_M_readPart := jcdok_of 168 (by decide +kernel) (fun pc hp => by unfold cd_M_readPart; rw [j_out hp]; rfl)
set_option maxRecDepth 100000 in
theorem mok_M_readPart : jMok 218 prog_9_method_61_code 3 (Option.none : Option FieldType) := ⟨List.mem_filter.mpr ⟨List.mem_append_right _ (show _ ∈ tables_1 from List.mem_append_right _ (List.mem_append_right _ (List.mem_append_right _ (List.mem_append_right _ (List.mem_append_right _ (List.mem_append_left _ (List.mem_of_getElem? (i := 202) rfl))))))), rfl⟩, jw_of (z := 122) (by decide +kernel), by decide, Or.inr (Or.inl ⟨by decide +kernel, jw_of (z := 1515) (by decide +kernel), jw_of (z := 72) (by decide +kernel)⟩), by decide +kernel⟩
def M_M_readTerm : jMe := ("FootMapsModel", prog_9_method_60_code, 2, 4, false)
set_option maxRecDepth 100000 in
theorem ok_M_readTerm : jcdok M_M_readTerm cd_M_readTerm := jcdok_of 50 (by decide +kernel) (fun pc hp => by unfold cd_M_readTerm; rw [j_out hp]; rfl)
set_option maxRecDepth 100000 in
theorem mok_M_readTerm : jMok 217 prog_9_method_60_code 2 (Option.none : Option FieldType) := ⟨List.mem_filter.mpr ⟨List.mem_append_right _ (show _ ∈ tables_1 from List.mem_append_right _ (List.mem_append_right _ (List.mem_append_right _ (List.mem_append_right _ (List.mem_append_right _ (List.mem_append_left _ (List.mem_of_getElem? (i := 198) rfl))))))), rfl⟩, jw_of (z := 122) (by decide +kernel), by decide, Or.inr (Or.inl ⟨by decide +kernel, jw_of (z := 1511) (by decide +kernel), jw_of (z := 71) (by decide +kernel)⟩), by decide +kernel⟩
def M_M_readSum : jMe := ("FootMapsModel", prog_9_method_59_code, 2, 4, false)
set_option maxRecDepth 100000 in
theorem ok_M_readSum : jcdok M_M_readSum cd_M_readSum := jcdok_of 38 (by decide +kernel) (fun pc hp => by unfold cd_M_readSum; rw [j_out hp]; rfl)
set_option maxRecDepth 100000 in
theorem mok_M_readSum : jMok 216 prog_9_method_59_code 2 (Option.none : Option FieldType) := ⟨List.mem_filter.mpr ⟨List.mem_append_right _ (show _ ∈ tables_1 from List.mem_append_right _ (List.mem_append_right _ (List.mem_append_right _ (List.mem_append_right _ (List.mem_append_right _ (List.mem_append_left _ (List.mem_of_getElem? (i := 194) rfl))))))), rfl⟩, jw_of (z := 122) (by decide +kernel), by decide, Or.inr (Or.inl ⟨by decide +kernel, jw_of (z := 1507) (by decide +kernel), jw_of (z := 70) (by decide +kernel)⟩), by decide +kernel⟩
def M_M_readTwo : jMe := ("FootMapsModel", prog_9_method_53_code, 2, 4, false)
set_option maxRecDepth 100000 in
theorem ok_M_readTwo : jcdok M_M_readTwo cd_M_readTwo := jcdok_of 16 (by decide +kernel) (fun pc hp => by unfold cd_M_readTwo; rw [j_out hp]; rfl)
set_option maxRecDepth 100000 in
theorem mok_M_readTwo : jMok 215 prog_9_method_53_code 2 (Option.none : Option FieldType) := ⟨List.mem_filter.mpr ⟨List.mem_append_right _ (show _ ∈ tables_1 from List.mem_append_right _ (List.mem_append_right _ (List.mem_append_right _ (List.mem_append_right _ (List.mem_append_right _ (List.mem_append_left _ (List.mem_of_getElem? (i := 190) rfl))))))), rfl⟩, jw_of (z := 122) (by decide +kernel), by decide, Or.inr (Or.inl ⟨by decide +kernel, jw_of (z := 1503) (by decide +kernel), jw_of (z := 69) (by decide +kernel)⟩), by decide +kernel⟩
def M_M_readPlain : jMe := ("FootMapsModel", prog_9_method_58_code, 4, 4, false)
set_option maxRecDepth 100000 in
theorem ok_M_readPlain : jcdok M_M_readPlain cd_M_readPlain := jcdok_of 134 (by decide +kernel) (fun pc hp => by unfold cd_M_readPlain; rw [j_out hp]; rfl)
set_option maxRecDepth 100000 in
theorem mok_M_readPlain : jMok 225 prog_9_method_58_code 4 (Option.none : Option FieldType) := ⟨List.mem_filter.mpr ⟨List.mem_append_right _ (show _ ∈ tables_1 from List.mem_append_right _ (List.mem_append_right _ (List.mem_append_right _ (List.mem_append_right _ (List.mem_append_right _ (List.mem_append_left _ (List.mem_of_getElem? (i := 230) rfl))))))), rfl⟩, jw_of (z := 122) (by decide +kernel), by decide, Or.inr (Or.inl ⟨by decide +kernel, jw_of (z := 1543) (by decide +kernel), jw_of (z := 79) (by decide +kernel)⟩), by decide +kernel⟩
def M_M_readBoth : jMe := ("FootMapsModel", prog_9_method_57_code, 2, 4, false)
set_option maxRecDepth 100000 in
theorem ok_M_readBoth : jcdok M_M_readBoth cd_M_readBoth := jcdok_of 23 (by decide +kernel) (fun pc hp => by unfold cd_M_readBoth; rw [j_out hp]; rfl)
set_option maxRecDepth 100000 in
theorem mok_M_readBoth : jMok 224 prog_9_method_57_code 2 (Option.none : Option FieldType) := ⟨List.mem_filter.mpr ⟨List.mem_append_right _ (show _ ∈ tables_1 from List.mem_append_right _ (List.mem_append_right _ (List.mem_append_right _ (List.mem_append_right _ (List.mem_append_right _ (List.mem_append_left _ (List.mem_of_getElem? (i := 226) rfl))))))), rfl⟩, jw_of (z := 122) (by decide +kernel), by decide, Or.inr (Or.inl ⟨by decide +kernel, jw_of (z := 1539) (by decide +kernel), jw_of (z := 78) (by decide +kernel)⟩), by decide +kernel⟩
def M_M_readTest : jMe := ("FootMapsModel", prog_9_method_56_code, 2, 4, false)
set_option maxRecDepth 100000 in
theorem ok_M_readTest : jcdok M_M_readTest cd_M_readTest := jcdok_of 22 (by decide +kernel) (fun pc hp => by unfold cd_M_readTest; rw [j_out hp]; rfl)
set_option maxRecDepth 100000 in
theorem mok_M_readTest : jMok 223 prog_9_method_56_code 2 (Option.none : Option FieldType) := ⟨List.mem_filter.mpr ⟨List.mem_append_right _ (show _ ∈ tables_1 from List.mem_append_right _ (List.mem_append_right _ (List.mem_append_right _ (List.mem_append_right _ (List.mem_append_right _ (List.mem_append_left _ (List.mem_of_getElem? (i := 222) rfl))))))), rfl⟩, jw_of (z := 122) (by decide +kernel), by decide, Or.inr (Or.inl ⟨by decide +kernel, jw_of (z := 1535) (by decide +kernel), jw_of (z := 77) (by decide +kernel)⟩), by decide +kernel⟩
def M_M_readOrder : jMe := ("FootMapsModel", prog_9_method_54_code, 1, 4, false)
set_option maxRecDepth 100000 in
theorem ok_M_readOrder : jcdok M_M_readOrder cd_M_readOrder := jcdok_of 90 (by decide +kernel) (fun pc hp => by unfold cd_M_readOrder; rw [j_out hp]; rfl)
set_option maxRecDepth 100000 in
theorem mok_M_readOrder : jMok 212 prog_9_method_54_code 1 (Option.none : Option FieldType) := ⟨List.mem_filter.mpr ⟨List.mem_append_right _ (show _ ∈ tables_1 from List.mem_append_right _ (List.mem_append_right _ (List.mem_append_right _ (List.mem_append_right _ (List.mem_append_right _ (List.mem_append_left _ (List.mem_of_getElem? (i := 178) rfl))))))), rfl⟩, jw_of (z := 122) (by decide +kernel), by decide, Or.inr (Or.inl ⟨by decide +kernel, jw_of (z := 1491) (by decide +kernel), jw_of (z := 66) (by decide +kernel)⟩), by decide +kernel⟩
def M_M_readClause : jMe := ("FootMapsModel", prog_9_method_52_code, 1, 4, false)
set_option maxRecDepth 100000 in
theorem ok_M_readClause : jcdok M_M_readClause cd_M_readClause := jcdok_of 43 (by decide +kernel) (fun pc hp => by unfold cd_M_readClause; rw [j_out hp]; rfl)
set_option maxRecDepth 100000 in
theorem mok_M_readClause : jMok 226 prog_9_method_52_code 1 (Option.none : Option FieldType) := ⟨List.mem_filter.mpr ⟨List.mem_append_right _ (show _ ∈ tables_1 from List.mem_append_right _ (List.mem_append_right _ (List.mem_append_right _ (List.mem_append_right _ (List.mem_append_right _ (List.mem_append_left _ (List.mem_of_getElem? (i := 234) rfl))))))), rfl⟩, jw_of (z := 122) (by decide +kernel), by decide, Or.inr (Or.inl ⟨by decide +kernel, jw_of (z := 1547) (by decide +kernel), jw_of (z := 80) (by decide +kernel)⟩), by decide +kernel⟩
def M_M_readOne : jMe := ("FootMapsModel", prog_9_method_55_code, 1, 4, false)
set_option maxRecDepth 100000 in
theorem ok_M_readOne : jcdok M_M_readOne cd_M_readOne := jcdok_of 19 (by decide +kernel) (fun pc hp => by unfold cd_M_readOne; rw [j_out hp]; rfl)
set_option maxRecDepth 100000 in
theorem mok_M_readOne : jMok 211 prog_9_method_55_code 1 (Option.none : Option FieldType) := ⟨List.mem_filter.mpr ⟨List.mem_append_right _ (show _ ∈ tables_1 from List.mem_append_right _ (List.mem_append_right _ (List.mem_append_right _ (List.mem_append_right _ (List.mem_append_right _ (List.mem_append_left _ (List.mem_of_getElem? (i := 174) rfl))))))), rfl⟩, jw_of (z := 122) (by decide +kernel), by decide, Or.inr (Or.inl ⟨by decide +kernel, jw_of (z := 1487) (by decide +kernel), jw_of (z := 65) (by decide +kernel)⟩), by decide +kernel⟩
def M_M_reads : jMe := ("FootMapsModel", prog_9_method_62_code, 2, 1, false)
set_option maxRecDepth 100000 in
theorem ok_M_reads : jcdok M_M_reads cd_M_reads := jcdok_of 108 (by decide +kernel) (fun pc hp => by unfold cd_M_reads; rw [j_out hp]; rfl)
set_option maxRecDepth 100000 in
theorem mok_M_reads : jMok 206 prog_9_method_62_code 2 (Option.some FieldType.boolean) := ⟨List.mem_filter.mpr ⟨List.mem_append_right _ (show _ ∈ tables_1 from List.mem_append_right _ (List.mem_append_right _ (List.mem_append_right _ (List.mem_append_right _ (List.mem_append_right _ (List.mem_append_left _ (List.mem_of_getElem? (i := 155) rfl))))))), rfl⟩, jw_of (z := 122) (by decide +kernel), by decide, Or.inr (Or.inl ⟨by decide +kernel, jw_of (z := 1468) (by decide +kernel), jw_of (z := 62) (by decide +kernel)⟩), by decide +kernel⟩
def M_M_readsAs : jMe := ("FootMapsModel", prog_9_method_63_code, 2, 1, false)
set_option maxRecDepth 100000 in
theorem ok_M_readsAs : jcdok M_M_readsAs cd_M_readsAs := jcdok_of 40 (by decide +kernel) (fun pc hp => by unfold cd_M_readsAs; rw [j_out hp]; rfl)
set_option maxRecDepth 100000 in
theorem mok_M_readsAs : jMok 205 prog_9_method_63_code 2 (Option.some FieldType.boolean) := ⟨List.mem_filter.mpr ⟨List.mem_append_right _ (show _ ∈ tables_1 from List.mem_append_right _ (List.mem_append_right _ (List.mem_append_right _ (List.mem_append_right _ (List.mem_append_right _ (List.mem_append_left _ (List.mem_of_getElem? (i := 151) rfl))))))), rfl⟩, jw_of (z := 122) (by decide +kernel), by decide, Or.inr (Or.inl ⟨by decide +kernel, jw_of (z := 1464) (by decide +kernel), jw_of (z := 61) (by decide +kernel)⟩), by decide +kernel⟩
def M_M_lays : jMe := ("FootMapsModel", prog_9_method_64_code, 3, 4, false)
set_option maxRecDepth 100000 in
theorem ok_M_lays : jcdok M_M_lays cd_M_lays := jcdok_of 75 (by decide +kernel) (fun pc hp => by unfold cd_M_lays; rw [j_out hp]; rfl)
set_option maxRecDepth 100000 in
theorem mok_M_lays : jMok 227 prog_9_method_64_code 3 (Option.none : Option FieldType) := ⟨List.mem_filter.mpr ⟨List.mem_append_right _ (show _ ∈ tables_1 from List.mem_append_right _ (List.mem_append_right _ (List.mem_append_right _ (List.mem_append_right _ (List.mem_append_right _ (List.mem_append_left _ (List.mem_of_getElem? (i := 238) rfl))))))), rfl⟩, jw_of (z := 122) (by decide +kernel), by decide, Or.inr (Or.inl ⟨by decide +kernel, jw_of (z := 1551) (by decide +kernel), jw_of (z := 81) (by decide +kernel)⟩), by decide +kernel⟩
def M_M_law : jMe := ("FootMapsModel", prog_9_method_65_code, 1, 0, false)
set_option maxRecDepth 100000 in
theorem ok_M_law : jcdok M_M_law cd_M_law := jcdok_of 79 (by decide +kernel) (fun pc hp => by unfold cd_M_law; rw [j_out hp]; rfl)
set_option maxRecDepth 100000 in
theorem mok_M_law : jMok 204 prog_9_method_65_code 1 (Option.some FieldType.int) := ⟨List.mem_filter.mpr ⟨List.mem_append_right _ (show _ ∈ tables_1 from List.mem_append_right _ (List.mem_append_right _ (List.mem_append_right _ (List.mem_append_right _ (List.mem_append_right _ (List.mem_append_left _ (List.mem_of_getElem? (i := 147) rfl))))))), rfl⟩, jw_of (z := 122) (by decide +kernel), by decide, Or.inr (Or.inl ⟨by decide +kernel, jw_of (z := 1459) (by decide +kernel), jw_of (z := 1460) (by decide +kernel)⟩), by decide +kernel⟩
def M_M_fault : jMe := ("FootMapsModel", prog_9_method_66_code, 1, 0, false)
set_option maxRecDepth 100000 in
theorem ok_M_fault : jcdok M_M_fault cd_M_fault := jcdok_of 5 (by decide +kernel) (fun pc hp => by unfold cd_M_fault; rw [j_out hp]; rfl)
set_option maxRecDepth 100000 in
theorem mok_M_fault : jMok 228 prog_9_method_66_code 1 (Option.some FieldType.int) := ⟨List.mem_filter.mpr ⟨List.mem_append_right _ (show _ ∈ tables_1 from List.mem_append_right _ (List.mem_append_right _ (List.mem_append_right _ (List.mem_append_right _ (List.mem_append_right _ (List.mem_append_right _ (List.mem_append_left _ (List.mem_of_getElem? (i := 2) rfl)))))))), rfl⟩, jw_of (z := 122) (by decide +kernel), by decide, Or.inr (Or.inl ⟨by decide +kernel, jw_of (z := 1554) (by decide +kernel), jw_of (z := 1555) (by decide +kernel)⟩), by decide +kernel⟩
def M_M_isLaw : jMe := ("FootMapsModel", prog_9_method_67_code, 2, 1, false)
set_option maxRecDepth 100000 in
theorem ok_M_isLaw : jcdok M_M_isLaw cd_M_isLaw := jcdok_of 16 (by decide +kernel) (fun pc hp => by unfold cd_M_isLaw; rw [j_out hp]; rfl)
set_option maxRecDepth 100000 in
theorem mok_M_isLaw : jMok 230 prog_9_method_67_code 2 (Option.some FieldType.boolean) := ⟨List.mem_filter.mpr ⟨List.mem_append_right _ (show _ ∈ tables_1 from List.mem_append_right _ (List.mem_append_right _ (List.mem_append_right _ (List.mem_append_right _ (List.mem_append_right _ (List.mem_append_right _ (List.mem_append_left _ (List.mem_of_getElem? (i := 10) rfl)))))))), rfl⟩, jw_of (z := 122) (by decide +kernel), by decide, Or.inr (Or.inl ⟨by decide +kernel, jw_of (z := 1563) (by decide +kernel), jw_of (z := 82) (by decide +kernel)⟩), by decide +kernel⟩
def M_M_force : jMe := ("FootMapsModel", prog_9_method_68_code, 3, 0, false)
set_option maxRecDepth 100000 in
theorem ok_M_force : jcdok M_M_force cd_M_force := jcdok_of 39 (by decide +kernel) (fun pc hp => by unfold cd_M_force; rw [j_out hp]; rfl)
set_option maxRecDepth 100000 in
theorem mok_M_force : jMok 229 prog_9_method_68_code 3 (Option.some FieldType.int) := ⟨List.mem_filter.mpr ⟨List.mem_append_right _ (show _ ∈ tables_1 from List.mem_append_right _ (List.mem_append_right _ (List.mem_append_right _ (List.mem_append_right _ (List.mem_append_right _ (List.mem_append_right _ (List.mem_append_left _ (List.mem_of_getElem? (i := 6) rfl)))))))), rfl⟩, jw_of (z := 122) (by decide +kernel), by decide, Or.inr (Or.inl ⟨by decide +kernel, jw_of (z := 1558) (by decide +kernel), jw_of (z := 1559) (by decide +kernel)⟩), by decide +kernel⟩
def M_M_undo : jMe := ("FootMapsModel", prog_9_method_89_code, 3, 0, false)
set_option maxRecDepth 100000 in
theorem ok_M_undo : jcdok M_M_undo cd_M_undo := jcdok_of 74 (by decide +kernel) (fun pc hp => by unfold cd_M_undo; rw [j_out hp]; rfl)
set_option maxRecDepth 100000 in
theorem mok_M_undo : jMok 231 prog_9_method_89_code 3 (Option.some FieldType.int) := ⟨List.mem_filter.mpr ⟨List.mem_append_right _ (show _ ∈ tables_1 from List.mem_append_right _ (List.mem_append_right _ (List.mem_append_right _ (List.mem_append_right _ (List.mem_append_right _ (List.mem_append_right _ (List.mem_append_left _ (List.mem_of_getElem? (i := 14) rfl)))))))), rfl⟩, jw_of (z := 122) (by decide +kernel), by decide, Or.inr (Or.inl ⟨by decide +kernel, jw_of (z := 1566) (by decide +kernel), jw_of (z := 1567) (by decide +kernel)⟩), by decide +kernel⟩
def M_M_canStep : jMe := ("FootMapsModel", prog_9_method_85_code, 4, 1, false)
set_option maxRecDepth 100000 in
theorem ok_M_canStep : jcdok M_M_canStep cd_M_canStep := jcdok_of 35 (by decide +kernel) (fun pc hp => by unfold cd_M_canStep; rw [j_out hp]; rfl)
set_option maxRecDepth 100000 in
theorem mok_M_canStep : jMok 234 prog_9_method_85_code 4 (Option.some FieldType.boolean) := ⟨List.mem_filter.mpr ⟨List.mem_append_right _ (show _ ∈ tables_1 from List.mem_append_right _ (List.mem_append_right _ (List.mem_append_right _ (List.mem_append_right _ (List.mem_append_right _ (List.mem_append_right _ (List.mem_append_left _ (List.mem_of_getElem? (i := 26) rfl)))))))), rfl⟩, jw_of (z := 122) (by decide +kernel), by decide, Or.inr (Or.inl ⟨by decide +kernel, jw_of (z := 1579) (by decide +kernel), jw_of (z := 84) (by decide +kernel)⟩), by decide +kernel⟩
def M_M_keeps : jMe := ("FootMapsModel", prog_9_method_88_code, 4, 4, false)
set_option maxRecDepth 100000 in
theorem ok_M_keeps : jcdok M_M_keeps cd_M_keeps := jcdok_of 111 (by decide +kernel) (fun pc hp => by unfold cd_M_keeps; rw [j_out hp]; rfl)
set_option maxRecDepth 100000 in
theorem mok_M_keeps : jMok 235 prog_9_method_88_code 4 (Option.none : Option FieldType) := ⟨List.mem_filter.mpr ⟨List.mem_append_right _ (show _ ∈ tables_1 from List.mem_append_right _ (List.mem_append_right _ (List.mem_append_right _ (List.mem_append_right _ (List.mem_append_right _ (List.mem_append_right _ (List.mem_append_left _ (List.mem_of_getElem? (i := 30) rfl)))))))), rfl⟩, jw_of (z := 122) (by decide +kernel), by decide, Or.inr (Or.inl ⟨by decide +kernel, jw_of (z := 1583) (by decide +kernel), jw_of (z := 85) (by decide +kernel)⟩), by decide +kernel⟩
def M_M_apart : jMe := ("FootMapsModel", prog_9_method_4_code, 2, 0, false)
set_option maxRecDepth 100000 in
theorem ok_M_apart : jcdok M_M_apart cd_M_apart := jcdok_of 15 (by decide +kernel) (fun pc hp => by unfold cd_M_apart; rw [j_out hp]; rfl)
set_option maxRecDepth 100000 in
theorem mok_M_apart : jMok 239 prog_9_method_4_code 2 (Option.some FieldType.int) := ⟨List.mem_filter.mpr ⟨List.mem_append_right _ (show _ ∈ tables_1 from List.mem_append_right _ (List.mem_append_right _ (List.mem_append_right _ (List.mem_append_right _ (List.mem_append_right _ (List.mem_append_right _ (List.mem_append_left _ (List.mem_of_getElem? (i := 44) rfl)))))))), rfl⟩, jw_of (z := 122) (by decide +kernel), by decide, Or.inl ⟨by decide +kernel, jw_of (z := 1597) (by decide +kernel)⟩, by decide +kernel⟩
def M_M_steps : jMe := ("FootMapsModel", prog_9_method_13_code, 2, 0, false)
set_option maxRecDepth 100000 in
theorem ok_M_steps : jcdok M_M_steps cd_M_steps := jcdok_of 20 (by decide +kernel) (fun pc hp => by unfold cd_M_steps; rw [j_out hp]; rfl)
set_option maxRecDepth 100000 in
theorem mok_M_steps : jMok 238 prog_9_method_13_code 2 (Option.some FieldType.int) := ⟨List.mem_filter.mpr ⟨List.mem_append_right _ (show _ ∈ tables_1 from List.mem_append_right _ (List.mem_append_right _ (List.mem_append_right _ (List.mem_append_right _ (List.mem_append_right _ (List.mem_append_right _ (List.mem_append_left _ (List.mem_of_getElem? (i := 41) rfl)))))))), rfl⟩, jw_of (z := 122) (by decide +kernel), by decide, Or.inl ⟨by decide +kernel, jw_of (z := 1594) (by decide +kernel)⟩, by decide +kernel⟩
def M_M_seenFrom : jMe := ("FootMapsModel", prog_9_method_84_code, 6, 0, false)
set_option maxRecDepth 100000 in
theorem ok_M_seenFrom : jcdok M_M_seenFrom cd_M_seenFrom := jcdok_of 52 (by decide +kernel) (fun pc hp => by unfold cd_M_seenFrom; rw [j_out hp]; rfl)
set_option maxRecDepth 100000 in
theorem mok_M_seenFrom : jMok 237 prog_9_method_84_code 6 (Option.some FieldType.int) := ⟨List.mem_filter.mpr ⟨List.mem_append_right _ (show _ ∈ tables_1 from List.mem_append_right _ (List.mem_append_right _ (List.mem_append_right _ (List.mem_append_right _ (List.mem_append_right _ (List.mem_append_right _ (List.mem_append_left _ (List.mem_of_getElem? (i := 38) rfl)))))))), rfl⟩, jw_of (z := 122) (by decide +kernel), by decide, Or.inr (Or.inl ⟨by decide +kernel, jw_of (z := 1591) (by decide +kernel), jw_of (z := 87) (by decide +kernel)⟩), by decide +kernel⟩
def M_M_isIn : jMe := ("FootMapsModel", prog_9_method_8_code, 2, 1, false)
set_option maxRecDepth 100000 in
theorem ok_M_isIn : jcdok M_M_isIn cd_M_isIn := jcdok_of 15 (by decide +kernel) (fun pc hp => by unfold cd_M_isIn; rw [j_out hp]; rfl)
set_option maxRecDepth 100000 in
theorem mok_M_isIn : jMok 240 prog_9_method_8_code 2 (Option.some FieldType.boolean) := ⟨List.mem_filter.mpr ⟨List.mem_append_right _ (show _ ∈ tables_1 from List.mem_append_right _ (List.mem_append_right _ (List.mem_append_right _ (List.mem_append_right _ (List.mem_append_right _ (List.mem_append_right _ (List.mem_append_left _ (List.mem_of_getElem? (i := 47) rfl)))))))), rfl⟩, jw_of (z := 122) (by decide +kernel), by decide, Or.inl ⟨by decide +kernel, jw_of (z := 1600) (by decide +kernel)⟩, by decide +kernel⟩
def M_M_stepNow : jMe := ("FootMapsModel", prog_9_method_86_code, 7, 0, false)
set_option maxRecDepth 100000 in
theorem ok_M_stepNow : jcdok M_M_stepNow cd_M_stepNow := jcdok_of 95 (by decide +kernel) (fun pc hp => by unfold cd_M_stepNow; rw [j_out hp]; rfl)
set_option maxRecDepth 100000 in
theorem mok_M_stepNow : jMok 236 prog_9_method_86_code 7 (Option.some FieldType.int) := ⟨List.mem_filter.mpr ⟨List.mem_append_right _ (show _ ∈ tables_1 from List.mem_append_right _ (List.mem_append_right _ (List.mem_append_right _ (List.mem_append_right _ (List.mem_append_right _ (List.mem_append_right _ (List.mem_append_left _ (List.mem_of_getElem? (i := 34) rfl)))))))), rfl⟩, jw_of (z := 122) (by decide +kernel), by decide, Or.inr (Or.inl ⟨by decide +kernel, jw_of (z := 1587) (by decide +kernel), jw_of (z := 86) (by decide +kernel)⟩), by decide +kernel⟩
def M_M_stepsKept : jMe := ("FootMapsModel", prog_9_method_91_code, 3, 0, false)
set_option maxRecDepth 100000 in
theorem ok_M_stepsKept : jcdok M_M_stepsKept cd_M_stepsKept := jcdok_of 44 (by decide +kernel) (fun pc hp => by unfold cd_M_stepsKept; rw [j_out hp]; rfl)
set_option maxRecDepth 100000 in
theorem mok_M_stepsKept : jMok 233 prog_9_method_91_code 3 (Option.some FieldType.int) := ⟨List.mem_filter.mpr ⟨List.mem_append_right _ (show _ ∈ tables_1 from List.mem_append_right _ (List.mem_append_right _ (List.mem_append_right _ (List.mem_append_right _ (List.mem_append_right _ (List.mem_append_right _ (List.mem_append_left _ (List.mem_of_getElem? (i := 22) rfl)))))))), rfl⟩, jw_of (z := 122) (by decide +kernel), by decide, Or.inr (Or.inl ⟨by decide +kernel, jw_of (z := 1575) (by decide +kernel), jw_of (z := 83) (by decide +kernel)⟩), by decide +kernel⟩
def M_M_goodOr : jMe := ("FootMapsModel", prog_9_method_90_code, 2, 0, false)
set_option maxRecDepth 100000 in
theorem ok_M_goodOr : jcdok M_M_goodOr cd_M_goodOr := jcdok_of 18 (by decide +kernel) (fun pc hp => by unfold cd_M_goodOr; rw [j_out hp]; rfl)
set_option maxRecDepth 100000 in
theorem mok_M_goodOr : jMok 241 prog_9_method_90_code 2 (Option.some FieldType.int) := ⟨List.mem_filter.mpr ⟨List.mem_append_right _ (show _ ∈ tables_1 from List.mem_append_right _ (List.mem_append_right _ (List.mem_append_right _ (List.mem_append_right _ (List.mem_append_right _ (List.mem_append_right _ (List.mem_append_left _ (List.mem_of_getElem? (i := 51) rfl)))))))), rfl⟩, jw_of (z := 122) (by decide +kernel), by decide, Or.inr (Or.inl ⟨by decide +kernel, jw_of (z := 1604) (by decide +kernel), jw_of (z := 88) (by decide +kernel)⟩), by decide +kernel⟩
def M_M_step : jMe := ("FootMapsModel", prog_9_method_95_code, 3, 0, false)
set_option maxRecDepth 100000 in
theorem ok_M_step : jcdok M_M_step cd_M_step := jcdok_of 11 (by decide +kernel) (fun pc hp => by unfold cd_M_step; rw [j_out hp]; rfl)
set_option maxRecDepth 100000 in
theorem mok_M_step : jMok 232 prog_9_method_95_code 3 (Option.some FieldType.int) := ⟨List.mem_filter.mpr ⟨List.mem_append_right _ (show _ ∈ tables_1 from List.mem_append_right _ (List.mem_append_right _ (List.mem_append_right _ (List.mem_append_right _ (List.mem_append_right _ (List.mem_append_right _ (List.mem_append_left _ (List.mem_of_getElem? (i := 18) rfl)))))))), rfl⟩, jw_of (z := 122) (by decide +kernel), by decide, Or.inr (Or.inl ⟨by decide +kernel, jw_of (z := 1570) (by decide +kernel), jw_of (z := 1571) (by decide +kernel)⟩), by decide +kernel⟩
def M_M_joinNow : jMe := ("FootMapsModel", prog_9_method_87_code, 7, 0, false)
set_option maxRecDepth 100000 in
theorem ok_M_joinNow : jcdok M_M_joinNow cd_M_joinNow := jcdok_of 100 (by decide +kernel) (fun pc hp => by unfold cd_M_joinNow; rw [j_out hp]; rfl)
set_option maxRecDepth 100000 in
theorem mok_M_joinNow : jMok 244 prog_9_method_87_code 7 (Option.some FieldType.int) := ⟨List.mem_filter.mpr ⟨List.mem_append_right _ (show _ ∈ tables_1 from List.mem_append_right _ (List.mem_append_right _ (List.mem_append_right _ (List.mem_append_right _ (List.mem_append_right _ (List.mem_append_right _ (List.mem_append_left _ (List.mem_of_getElem? (i := 63) rfl)))))))), rfl⟩, jw_of (z := 122) (by decide +kernel), by decide, Or.inr (Or.inl ⟨by decide +kernel, jw_of (z := 1616) (by decide +kernel), jw_of (z := 90) (by decide +kernel)⟩), by decide +kernel⟩
def M_M_joinsKept : jMe := ("FootMapsModel", prog_9_method_92_code, 3, 0, false)
set_option maxRecDepth 100000 in
theorem ok_M_joinsKept : jcdok M_M_joinsKept cd_M_joinsKept := jcdok_of 54 (by decide +kernel) (fun pc hp => by unfold cd_M_joinsKept; rw [j_out hp]; rfl)
set_option maxRecDepth 100000 in
theorem mok_M_joinsKept : jMok 243 prog_9_method_92_code 3 (Option.some FieldType.int) := ⟨List.mem_filter.mpr ⟨List.mem_append_right _ (show _ ∈ tables_1 from List.mem_append_right _ (List.mem_append_right _ (List.mem_append_right _ (List.mem_append_right _ (List.mem_append_right _ (List.mem_append_right _ (List.mem_append_left _ (List.mem_of_getElem? (i := 59) rfl)))))))), rfl⟩, jw_of (z := 122) (by decide +kernel), by decide, Or.inr (Or.inl ⟨by decide +kernel, jw_of (z := 1612) (by decide +kernel), jw_of (z := 89) (by decide +kernel)⟩), by decide +kernel⟩
def M_M_join : jMe := ("FootMapsModel", prog_9_method_96_code, 3, 0, false)
set_option maxRecDepth 100000 in
theorem ok_M_join : jcdok M_M_join cd_M_join := jcdok_of 11 (by decide +kernel) (fun pc hp => by unfold cd_M_join; rw [j_out hp]; rfl)
set_option maxRecDepth 100000 in
theorem mok_M_join : jMok 242 prog_9_method_96_code 3 (Option.some FieldType.int) := ⟨List.mem_filter.mpr ⟨List.mem_append_right _ (show _ ∈ tables_1 from List.mem_append_right _ (List.mem_append_right _ (List.mem_append_right _ (List.mem_append_right _ (List.mem_append_right _ (List.mem_append_right _ (List.mem_append_left _ (List.mem_of_getElem? (i := 55) rfl)))))))), rfl⟩, jw_of (z := 122) (by decide +kernel), by decide, Or.inr (Or.inl ⟨by decide +kernel, jw_of (z := 1607) (by decide +kernel), jw_of (z := 1608) (by decide +kernel)⟩), by decide +kernel⟩
def M_M_smearsKept : jMe := ("FootMapsModel", prog_9_method_93_code, 3, 0, false)
set_option maxRecDepth 100000 in
theorem ok_M_smearsKept : jcdok M_M_smearsKept cd_M_smearsKept := jcdok_of 60 (by decide +kernel) (fun pc hp => by unfold cd_M_smearsKept; rw [j_out hp]; rfl)
set_option maxRecDepth 100000 in
theorem mok_M_smearsKept : jMok 246 prog_9_method_93_code 3 (Option.some FieldType.int) := ⟨List.mem_filter.mpr ⟨List.mem_append_right _ (show _ ∈ tables_1 from List.mem_append_right _ (List.mem_append_right _ (List.mem_append_right _ (List.mem_append_right _ (List.mem_append_right _ (List.mem_append_right _ (List.mem_append_left _ (List.mem_of_getElem? (i := 71) rfl)))))))), rfl⟩, jw_of (z := 122) (by decide +kernel), by decide, Or.inr (Or.inl ⟨by decide +kernel, jw_of (z := 1624) (by decide +kernel), jw_of (z := 91) (by decide +kernel)⟩), by decide +kernel⟩
def M_M_smear : jMe := ("FootMapsModel", prog_9_method_97_code, 3, 0, false)
set_option maxRecDepth 100000 in
theorem ok_M_smear : jcdok M_M_smear cd_M_smear := jcdok_of 11 (by decide +kernel) (fun pc hp => by unfold cd_M_smear; rw [j_out hp]; rfl)
set_option maxRecDepth 100000 in
theorem mok_M_smear : jMok 245 prog_9_method_97_code 3 (Option.some FieldType.int) := ⟨List.mem_filter.mpr ⟨List.mem_append_right _ (show _ ∈ tables_1 from List.mem_append_right _ (List.mem_append_right _ (List.mem_append_right _ (List.mem_append_right _ (List.mem_append_right _ (List.mem_append_right _ (List.mem_append_left _ (List.mem_of_getElem? (i := 67) rfl)))))))), rfl⟩, jw_of (z := 122) (by decide +kernel), by decide, Or.inr (Or.inl ⟨by decide +kernel, jw_of (z := 1619) (by decide +kernel), jw_of (z := 1620) (by decide +kernel)⟩), by decide +kernel⟩
def M_M_passesKept : jMe := ("FootMapsModel", prog_9_method_94_code, 1, 0, false)
set_option maxRecDepth 100000 in
theorem ok_M_passesKept : jcdok M_M_passesKept cd_M_passesKept := jcdok_of 40 (by decide +kernel) (fun pc hp => by unfold cd_M_passesKept; rw [j_out hp]; rfl)
set_option maxRecDepth 100000 in
theorem mok_M_passesKept : jMok 248 prog_9_method_94_code 1 (Option.some FieldType.int) := ⟨List.mem_filter.mpr ⟨List.mem_append_right _ (show _ ∈ tables_1 from List.mem_append_right _ (List.mem_append_right _ (List.mem_append_right _ (List.mem_append_right _ (List.mem_append_right _ (List.mem_append_right _ (List.mem_append_left _ (List.mem_of_getElem? (i := 79) rfl)))))))), rfl⟩, jw_of (z := 122) (by decide +kernel), by decide, Or.inr (Or.inl ⟨by decide +kernel, jw_of (z := 1632) (by decide +kernel), jw_of (z := 92) (by decide +kernel)⟩), by decide +kernel⟩
def M_M_pass : jMe := ("FootMapsModel", prog_9_method_98_code, 1, 0, false)
set_option maxRecDepth 100000 in
theorem ok_M_pass : jcdok M_M_pass cd_M_pass := jcdok_of 9 (by decide +kernel) (fun pc hp => by unfold cd_M_pass; rw [j_out hp]; rfl)
set_option maxRecDepth 100000 in
theorem mok_M_pass : jMok 247 prog_9_method_98_code 1 (Option.some FieldType.int) := ⟨List.mem_filter.mpr ⟨List.mem_append_right _ (show _ ∈ tables_1 from List.mem_append_right _ (List.mem_append_right _ (List.mem_append_right _ (List.mem_append_right _ (List.mem_append_right _ (List.mem_append_right _ (List.mem_append_left _ (List.mem_of_getElem? (i := 75) rfl)))))))), rfl⟩, jw_of (z := 122) (by decide +kernel), by decide, Or.inr (Or.inl ⟨by decide +kernel, jw_of (z := 1627) (by decide +kernel), jw_of (z := 1628) (by decide +kernel)⟩), by decide +kernel⟩
def M_M_allCells : jMe := ("FootMapsModel", prog_9_method_103_code, 0, 0, false)
set_option maxRecDepth 100000 in
theorem ok_M_allCells : jcdok M_M_allCells cd_M_allCells := jcdok_of 3 (by decide +kernel) (fun pc hp => by unfold cd_M_allCells; rw [j_out hp]; rfl)
set_option maxRecDepth 100000 in
theorem mok_M_allCells : jMok 250 prog_9_method_103_code 0 (Option.some FieldType.int) := ⟨List.mem_filter.mpr ⟨List.mem_append_right _ (show _ ∈ tables_1 from List.mem_append_right _ (List.mem_append_right _ (List.mem_append_right _ (List.mem_append_right _ (List.mem_append_right _ (List.mem_append_right _ (List.mem_append_left _ (List.mem_of_getElem? (i := 86) rfl)))))))), rfl⟩, jw_of (z := 122) (by decide +kernel), by decide, Or.inl ⟨by decide +kernel, jw_of (z := 1639) (by decide +kernel)⟩, by decide +kernel⟩
def M_M_laysSteps : jMe := ("FootMapsModel", prog_9_method_99_code, 6, 4, false)
set_option maxRecDepth 100000 in
theorem ok_M_laysSteps : jcdok M_M_laysSteps cd_M_laysSteps := jcdok_of 88 (by decide +kernel) (fun pc hp => by unfold cd_M_laysSteps; rw [j_out hp]; rfl)
set_option maxRecDepth 100000 in
theorem mok_M_laysSteps : jMok 252 prog_9_method_99_code 6 (Option.none : Option FieldType) := ⟨List.mem_filter.mpr ⟨List.mem_append_right _ (show _ ∈ tables_1 from List.mem_append_right _ (List.mem_append_right _ (List.mem_append_right _ (List.mem_append_right _ (List.mem_append_right _ (List.mem_append_right _ (List.mem_append_left _ (List.mem_of_getElem? (i := 94) rfl)))))))), rfl⟩, jw_of (z := 122) (by decide +kernel), by decide, Or.inr (Or.inl ⟨by decide +kernel, jw_of (z := 1647) (by decide +kernel), jw_of (z := 94) (by decide +kernel)⟩), by decide +kernel⟩
def M_M_laysLeft : jMe := ("FootMapsModel", prog_9_method_100_code, 6, 4, false)
set_option maxRecDepth 100000 in
theorem ok_M_laysLeft : jcdok M_M_laysLeft cd_M_laysLeft := jcdok_of 135 (by decide +kernel) (fun pc hp => by unfold cd_M_laysLeft; rw [j_out hp]; rfl)
set_option maxRecDepth 100000 in
theorem mok_M_laysLeft : jMok 253 prog_9_method_100_code 6 (Option.none : Option FieldType) := ⟨List.mem_filter.mpr ⟨List.mem_append_right _ (show _ ∈ tables_1 from List.mem_append_right _ (List.mem_append_right _ (List.mem_append_right _ (List.mem_append_right _ (List.mem_append_right _ (List.mem_append_right _ (List.mem_append_left _ (List.mem_of_getElem? (i := 98) rfl)))))))), rfl⟩, jw_of (z := 122) (by decide +kernel), by decide, Or.inr (Or.inl ⟨by decide +kernel, jw_of (z := 1651) (by decide +kernel), jw_of (z := 95) (by decide +kernel)⟩), by decide +kernel⟩
def M_M_nextCell : jMe := ("FootMapsModel", prog_9_method_101_code, 6, 0, false)
set_option maxRecDepth 100000 in
theorem ok_M_nextCell : jcdok M_M_nextCell cd_M_nextCell := jcdok_of 91 (by decide +kernel) (fun pc hp => by unfold cd_M_nextCell; rw [j_out hp]; rfl)
set_option maxRecDepth 100000 in
theorem mok_M_nextCell : jMok 254 prog_9_method_101_code 6 (Option.some FieldType.int) := ⟨List.mem_filter.mpr ⟨List.mem_append_right _ (show _ ∈ tables_1 from List.mem_append_right _ (List.mem_append_right _ (List.mem_append_right _ (List.mem_append_right _ (List.mem_append_right _ (List.mem_append_right _ (List.mem_append_left _ (List.mem_of_getElem? (i := 102) rfl)))))))), rfl⟩, jw_of (z := 122) (by decide +kernel), by decide, Or.inr (Or.inl ⟨by decide +kernel, jw_of (z := 1655) (by decide +kernel), jw_of (z := 96) (by decide +kernel)⟩), by decide +kernel⟩
def M_M_wayOver : jMe := ("FootMapsModel", prog_9_method_102_code, 7, 0, false)
set_option maxRecDepth 100000 in
theorem ok_M_wayOver : jcdok M_M_wayOver cd_M_wayOver := jcdok_of 114 (by decide +kernel) (fun pc hp => by unfold cd_M_wayOver; rw [j_out hp]; rfl)
set_option maxRecDepth 100000 in
theorem mok_M_wayOver : jMok 251 prog_9_method_102_code 7 (Option.some FieldType.int) := ⟨List.mem_filter.mpr ⟨List.mem_append_right _ (show _ ∈ tables_1 from List.mem_append_right _ (List.mem_append_right _ (List.mem_append_right _ (List.mem_append_right _ (List.mem_append_right _ (List.mem_append_right _ (List.mem_append_left _ (List.mem_of_getElem? (i := 90) rfl)))))))), rfl⟩, jw_of (z := 122) (by decide +kernel), by decide, Or.inr (Or.inl ⟨by decide +kernel, jw_of (z := 1643) (by decide +kernel), jw_of (z := 93) (by decide +kernel)⟩), by decide +kernel⟩
def M_M_way : jMe := ("FootMapsModel", prog_9_method_104_code, 4, 0, false)
set_option maxRecDepth 100000 in
theorem ok_M_way : jcdok M_M_way cd_M_way := jcdok_of 11 (by decide +kernel) (fun pc hp => by unfold cd_M_way; rw [j_out hp]; rfl)
set_option maxRecDepth 100000 in
theorem mok_M_way : jMok 249 prog_9_method_104_code 4 (Option.some FieldType.int) := ⟨List.mem_filter.mpr ⟨List.mem_append_right _ (show _ ∈ tables_1 from List.mem_append_right _ (List.mem_append_right _ (List.mem_append_right _ (List.mem_append_right _ (List.mem_append_right _ (List.mem_append_right _ (List.mem_append_left _ (List.mem_of_getElem? (i := 83) rfl)))))))), rfl⟩, jw_of (z := 122) (by decide +kernel), by decide, Or.inr (Or.inl ⟨by decide +kernel, jw_of (z := 1635) (by decide +kernel), jw_of (z := 1636) (by decide +kernel)⟩), by decide +kernel⟩
def M_M_sure : jMe := ("FootMapsModel", prog_9_method_105_code, 4, 0, false)
set_option maxRecDepth 100000 in
theorem ok_M_sure : jcdok M_M_sure cd_M_sure := jcdok_of 25 (by decide +kernel) (fun pc hp => by unfold cd_M_sure; rw [j_out hp]; rfl)
set_option maxRecDepth 100000 in
theorem mok_M_sure : jMok 255 prog_9_method_105_code 4 (Option.some FieldType.int) := ⟨List.mem_filter.mpr ⟨List.mem_append_right _ (show _ ∈ tables_1 from List.mem_append_right _ (List.mem_append_right _ (List.mem_append_right _ (List.mem_append_right _ (List.mem_append_right _ (List.mem_append_right _ (List.mem_append_left _ (List.mem_of_getElem? (i := 106) rfl)))))))), rfl⟩, jw_of (z := 122) (by decide +kernel), by decide, Or.inr (Or.inl ⟨by decide +kernel, jw_of (z := 1658) (by decide +kernel), jw_of (z := 1659) (by decide +kernel)⟩), by decide +kernel⟩
def M_M_compare : jMe := ("FootMapsModel", prog_9_method_106_code, 6, 0, false)
set_option maxRecDepth 100000 in
theorem ok_M_compare : jcdok M_M_compare cd_M_compare := jcdok_of 51 (by decide +kernel) (fun pc hp => by unfold cd_M_compare; rw [j_out hp]; rfl)
set_option maxRecDepth 100000 in
theorem mok_M_compare : jMok 256 prog_9_method_106_code 6 (Option.some FieldType.int) := ⟨List.mem_filter.mpr ⟨List.mem_append_right _ (show _ ∈ tables_1 from List.mem_append_right _ (List.mem_append_right _ (List.mem_append_right _ (List.mem_append_right _ (List.mem_append_right _ (List.mem_append_right _ (List.mem_append_left _ (List.mem_of_getElem? (i := 110) rfl)))))))), rfl⟩, jw_of (z := 122) (by decide +kernel), by decide, Or.inr (Or.inl ⟨by decide +kernel, jw_of (z := 1662) (by decide +kernel), jw_of (z := 1663) (by decide +kernel)⟩), by decide +kernel⟩
def M_M_laysGone : jMe := ("FootMapsModel", prog_9_method_107_code, 6, 4, false)
set_option maxRecDepth 100000 in
theorem ok_M_laysGone : jcdok M_M_laysGone cd_M_laysGone := jcdok_of 167 (by decide +kernel) (fun pc hp => by unfold cd_M_laysGone; rw [j_out hp]; rfl)
set_option maxRecDepth 100000 in
theorem mok_M_laysGone : jMok 258 prog_9_method_107_code 6 (Option.none : Option FieldType) := ⟨List.mem_filter.mpr ⟨List.mem_append_right _ (show _ ∈ tables_1 from List.mem_append_right _ (List.mem_append_right _ (List.mem_append_right _ (List.mem_append_right _ (List.mem_append_right _ (List.mem_append_right _ (List.mem_append_left _ (List.mem_of_getElem? (i := 119) rfl)))))))), rfl⟩, jw_of (z := 122) (by decide +kernel), by decide, Or.inr (Or.inl ⟨by decide +kernel, jw_of (z := 1672) (by decide +kernel), jw_of (z := 97) (by decide +kernel)⟩), by decide +kernel⟩
def M_M_greater : jMe := ("FootMapsModel", prog_9_method_3_code, 2, 0, false)
set_option maxRecDepth 100000 in
theorem ok_M_greater : jcdok M_M_greater cd_M_greater := jcdok_of 11 (by decide +kernel) (fun pc hp => by unfold cd_M_greater; rw [j_out hp]; rfl)
set_option maxRecDepth 100000 in
theorem mok_M_greater : jMok 259 prog_9_method_3_code 2 (Option.some FieldType.int) := ⟨List.mem_filter.mpr ⟨List.mem_append_right _ (show _ ∈ tables_1 from List.mem_append_right _ (List.mem_append_right _ (List.mem_append_right _ (List.mem_append_right _ (List.mem_append_right _ (List.mem_append_right _ (List.mem_append_left _ (List.mem_of_getElem? (i := 122) rfl)))))))), rfl⟩, jw_of (z := 122) (by decide +kernel), by decide, Or.inl ⟨by decide +kernel, jw_of (z := 1675) (by decide +kernel)⟩, by decide +kernel⟩
def M_M_meet : jMe := ("FootMapsModel", prog_9_method_108_code, 8, 0, false)
set_option maxRecDepth 100000 in
theorem ok_M_meet : jcdok M_M_meet cd_M_meet := jcdok_of 150 (by decide +kernel) (fun pc hp => by unfold cd_M_meet; rw [j_out hp]; rfl)
set_option maxRecDepth 100000 in
theorem mok_M_meet : jMok 257 prog_9_method_108_code 8 (Option.some FieldType.int) := ⟨List.mem_filter.mpr ⟨List.mem_append_right _ (show _ ∈ tables_1 from List.mem_append_right _ (List.mem_append_right _ (List.mem_append_right _ (List.mem_append_right _ (List.mem_append_right _ (List.mem_append_right _ (List.mem_append_left _ (List.mem_of_getElem? (i := 115) rfl)))))))), rfl⟩, jw_of (z := 122) (by decide +kernel), by decide, Or.inr (Or.inl ⟨by decide +kernel, jw_of (z := 1667) (by decide +kernel), jw_of (z := 1668) (by decide +kernel)⟩), by decide +kernel⟩
def M_M_reach : jMe := ("FootMapsModel", prog_9_method_109_code, 4, 0, false)
set_option maxRecDepth 100000 in
theorem ok_M_reach : jcdok M_M_reach cd_M_reach := jcdok_of 54 (by decide +kernel) (fun pc hp => by unfold cd_M_reach; rw [j_out hp]; rfl)
set_option maxRecDepth 100000 in
theorem mok_M_reach : jMok 260 prog_9_method_109_code 4 (Option.some FieldType.int) := ⟨List.mem_filter.mpr ⟨List.mem_append_right _ (show _ ∈ tables_1 from List.mem_append_right _ (List.mem_append_right _ (List.mem_append_right _ (List.mem_append_right _ (List.mem_append_right _ (List.mem_append_right _ (List.mem_append_left _ (List.mem_of_getElem? (i := 126) rfl)))))))), rfl⟩, jw_of (z := 122) (by decide +kernel), by decide, Or.inr (Or.inl ⟨by decide +kernel, jw_of (z := 1678) (by decide +kernel), jw_of (z := 1679) (by decide +kernel)⟩), by decide +kernel⟩
def M_M_wantedIn : jMe := ("FootMapsModel", prog_9_method_110_code, 4, 0, false)
set_option maxRecDepth 100000 in
theorem ok_M_wantedIn : jcdok M_M_wantedIn cd_M_wantedIn := jcdok_of 43 (by decide +kernel) (fun pc hp => by unfold cd_M_wantedIn; rw [j_out hp]; rfl)
set_option maxRecDepth 100000 in
theorem mok_M_wantedIn : jMok 263 prog_9_method_110_code 4 (Option.some FieldType.int) := ⟨List.mem_filter.mpr ⟨List.mem_append_right _ (show _ ∈ tables_1 from List.mem_append_right _ (List.mem_append_right _ (List.mem_append_right _ (List.mem_append_right _ (List.mem_append_right _ (List.mem_append_right _ (List.mem_append_left _ (List.mem_of_getElem? (i := 138) rfl)))))))), rfl⟩, jw_of (z := 122) (by decide +kernel), by decide, Or.inr (Or.inl ⟨by decide +kernel, jw_of (z := 1691) (by decide +kernel), jw_of (z := 99) (by decide +kernel)⟩), by decide +kernel⟩
def M_M_leftAt : jMe := ("FootMapsModel", prog_9_method_111_code, 3, 0, false)
set_option maxRecDepth 100000 in
theorem ok_M_leftAt : jcdok M_M_leftAt cd_M_leftAt := jcdok_of 12 (by decide +kernel) (fun pc hp => by unfold cd_M_leftAt; rw [j_out hp]; rfl)
set_option maxRecDepth 100000 in
theorem mok_M_leftAt : jMok 265 prog_9_method_111_code 3 (Option.some FieldType.int) := ⟨List.mem_filter.mpr ⟨List.mem_append_right _ (show _ ∈ tables_1 from List.mem_append_right _ (List.mem_append_right _ (List.mem_append_right _ (List.mem_append_right _ (List.mem_append_right _ (List.mem_append_right _ (List.mem_append_left _ (List.mem_of_getElem? (i := 146) rfl)))))))), rfl⟩, jw_of (z := 122) (by decide +kernel), by decide, Or.inr (Or.inl ⟨by decide +kernel, jw_of (z := 1699) (by decide +kernel), jw_of (z := 101) (by decide +kernel)⟩), by decide +kernel⟩
def M_M_lesser : jMe := ("FootMapsModel", prog_9_method_2_code, 2, 0, false)
set_option maxRecDepth 100000 in
theorem ok_M_lesser : jcdok M_M_lesser cd_M_lesser := jcdok_of 11 (by decide +kernel) (fun pc hp => by unfold cd_M_lesser; rw [j_out hp]; rfl)
set_option maxRecDepth 100000 in
theorem mok_M_lesser : jMok 267 prog_9_method_2_code 2 (Option.some FieldType.int) := ⟨List.mem_filter.mpr ⟨List.mem_append_right _ (show _ ∈ tables_1 from List.mem_append_right _ (List.mem_append_right _ (List.mem_append_right _ (List.mem_append_right _ (List.mem_append_right _ (List.mem_append_right _ (List.mem_append_left _ (List.mem_of_getElem? (i := 153) rfl)))))))), rfl⟩, jw_of (z := 122) (by decide +kernel), by decide, Or.inl ⟨by decide +kernel, jw_of (z := 1706) (by decide +kernel)⟩, by decide +kernel⟩
def M_M_leftWith : jMe := ("FootMapsModel", prog_9_method_114_code, 6, 0, false)
set_option maxRecDepth 100000 in
theorem ok_M_leftWith : jcdok M_M_leftWith cd_M_leftWith := jcdok_of 53 (by decide +kernel) (fun pc hp => by unfold cd_M_leftWith; rw [j_out hp]; rfl)
set_option maxRecDepth 100000 in
theorem mok_M_leftWith : jMok 266 prog_9_method_114_code 6 (Option.some FieldType.int) := ⟨List.mem_filter.mpr ⟨List.mem_append_right _ (show _ ∈ tables_1 from List.mem_append_right _ (List.mem_append_right _ (List.mem_append_right _ (List.mem_append_right _ (List.mem_append_right _ (List.mem_append_right _ (List.mem_append_left _ (List.mem_of_getElem? (i := 150) rfl)))))))), rfl⟩, jw_of (z := 122) (by decide +kernel), by decide, Or.inr (Or.inl ⟨by decide +kernel, jw_of (z := 1703) (by decide +kernel), jw_of (z := 102) (by decide +kernel)⟩), by decide +kernel⟩
def M_M_isNearer : jMe := ("FootMapsModel", prog_9_method_113_code, 5, 1, false)
set_option maxRecDepth 100000 in
theorem ok_M_isNearer : jcdok M_M_isNearer cd_M_isNearer := jcdok_of 67 (by decide +kernel) (fun pc hp => by unfold cd_M_isNearer; rw [j_out hp]; rfl)
set_option maxRecDepth 100000 in
theorem mok_M_isNearer : jMok 264 prog_9_method_113_code 5 (Option.some FieldType.boolean) := ⟨List.mem_filter.mpr ⟨List.mem_append_right _ (show _ ∈ tables_1 from List.mem_append_right _ (List.mem_append_right _ (List.mem_append_right _ (List.mem_append_right _ (List.mem_append_right _ (List.mem_append_right _ (List.mem_append_left _ (List.mem_of_getElem? (i := 142) rfl)))))))), rfl⟩, jw_of (z := 122) (by decide +kernel), by decide, Or.inr (Or.inl ⟨by decide +kernel, jw_of (z := 1695) (by decide +kernel), jw_of (z := 100) (by decide +kernel)⟩), by decide +kernel⟩
def M_M_laysTours : jMe := ("FootMapsModel", prog_9_method_112_code, 6, 4, false)
set_option maxRecDepth 100000 in
theorem ok_M_laysTours : jcdok M_M_laysTours cd_M_laysTours := jcdok_of 209 (by decide +kernel) (fun pc hp => by unfold cd_M_laysTours; rw [j_out hp]; rfl)
set_option maxRecDepth 100000 in
theorem mok_M_laysTours : jMok 262 prog_9_method_112_code 6 (Option.none : Option FieldType) := ⟨List.mem_filter.mpr ⟨List.mem_append_right _ (show _ ∈ tables_1 from List.mem_append_right _ (List.mem_append_right _ (List.mem_append_right _ (List.mem_append_right _ (List.mem_append_right _ (List.mem_append_right _ (List.mem_append_left _ (List.mem_of_getElem? (i := 134) rfl)))))))), rfl⟩, jw_of (z := 122) (by decide +kernel), by decide, Or.inr (Or.inl ⟨by decide +kernel, jw_of (z := 1687) (by decide +kernel), jw_of (z := 98) (by decide +kernel)⟩), by decide +kernel⟩
def M_M_tour : jMe := ("FootMapsModel", prog_9_method_115_code, 9, 0, false)
set_option maxRecDepth 100000 in
theorem ok_M_tour : jcdok M_M_tour cd_M_tour := jcdok_of 183 (by decide +kernel) (fun pc hp => by unfold cd_M_tour; rw [j_out hp]; rfl)
set_option maxRecDepth 100000 in
theorem mok_M_tour : jMok 261 prog_9_method_115_code 9 (Option.some FieldType.int) := ⟨List.mem_filter.mpr ⟨List.mem_append_right _ (show _ ∈ tables_1 from List.mem_append_right _ (List.mem_append_right _ (List.mem_append_right _ (List.mem_append_right _ (List.mem_append_right _ (List.mem_append_right _ (List.mem_append_left _ (List.mem_of_getElem? (i := 130) rfl)))))))), rfl⟩, jw_of (z := 122) (by decide +kernel), by decide, Or.inr (Or.inl ⟨by decide +kernel, jw_of (z := 1682) (by decide +kernel), jw_of (z := 1683) (by decide +kernel)⟩), by decide +kernel⟩
def M_M_stale : jMe := ("FootMapsModel", prog_9_method_116_code, 4, 0, false)
set_option maxRecDepth 100000 in
theorem ok_M_stale : jcdok M_M_stale cd_M_stale := jcdok_of 67 (by decide +kernel) (fun pc hp => by unfold cd_M_stale; rw [j_out hp]; rfl)
set_option maxRecDepth 100000 in
theorem mok_M_stale : jMok 268 prog_9_method_116_code 4 (Option.some FieldType.int) := ⟨List.mem_filter.mpr ⟨List.mem_append_right _ (show _ ∈ tables_1 from List.mem_append_right _ (List.mem_append_right _ (List.mem_append_right _ (List.mem_append_right _ (List.mem_append_right _ (List.mem_append_right _ (List.mem_append_left _ (List.mem_of_getElem? (i := 157) rfl)))))))), rfl⟩, jw_of (z := 122) (by decide +kernel), by decide, Or.inr (Or.inl ⟨by decide +kernel, jw_of (z := 1709) (by decide +kernel), jw_of (z := 1710) (by decide +kernel)⟩), by decide +kernel⟩
def M_M_gains : jMe := ("FootMapsModel", prog_9_method_117_code, 3, 1, false)
set_option maxRecDepth 100000 in
theorem ok_M_gains : jcdok M_M_gains cd_M_gains := jcdok_of 33 (by decide +kernel) (fun pc hp => by unfold cd_M_gains; rw [j_out hp]; rfl)
set_option maxRecDepth 100000 in
theorem mok_M_gains : jMok 270 prog_9_method_117_code 3 (Option.some FieldType.boolean) := ⟨List.mem_filter.mpr ⟨List.mem_append_right _ (show _ ∈ tables_1 from List.mem_append_right _ (List.mem_append_right _ (List.mem_append_right _ (List.mem_append_right _ (List.mem_append_right _ (List.mem_append_right _ (List.mem_append_left _ (List.mem_of_getElem? (i := 165) rfl)))))))), rfl⟩, jw_of (z := 122) (by decide +kernel), by decide, Or.inr (Or.inl ⟨by decide +kernel, jw_of (z := 1718) (by decide +kernel), jw_of (z := 103) (by decide +kernel)⟩), by decide +kernel⟩
def M_M_both : jMe := ("FootMapsModel", prog_9_method_118_code, 5, 0, false)
set_option maxRecDepth 100000 in
theorem ok_M_both : jcdok M_M_both cd_M_both := jcdok_of 95 (by decide +kernel) (fun pc hp => by unfold cd_M_both; rw [j_out hp]; rfl)
set_option maxRecDepth 100000 in
theorem mok_M_both : jMok 269 prog_9_method_118_code 5 (Option.some FieldType.int) := ⟨List.mem_filter.mpr ⟨List.mem_append_right _ (show _ ∈ tables_1 from List.mem_append_right _ (List.mem_append_right _ (List.mem_append_right _ (List.mem_append_right _ (List.mem_append_right _ (List.mem_append_right _ (List.mem_append_left _ (List.mem_of_getElem? (i := 161) rfl)))))))), rfl⟩, jw_of (z := 122) (by decide +kernel), by decide, Or.inr (Or.inl ⟨by decide +kernel, jw_of (z := 1713) (by decide +kernel), jw_of (z := 1714) (by decide +kernel)⟩), by decide +kernel⟩
def M_M_sheetsOf : jMe := ("FootMapsModel", prog_9_method_119_code, 4, 0, false)
set_option maxRecDepth 100000 in
theorem ok_M_sheetsOf : jcdok M_M_sheetsOf cd_M_sheetsOf := jcdok_of 40 (by decide +kernel) (fun pc hp => by unfold cd_M_sheetsOf; rw [j_out hp]; rfl)
set_option maxRecDepth 100000 in
theorem mok_M_sheetsOf : jMok 272 prog_9_method_119_code 4 (Option.some FieldType.int) := ⟨List.mem_filter.mpr ⟨List.mem_append_right _ (show _ ∈ tables_1 from List.mem_append_right _ (List.mem_append_right _ (List.mem_append_right _ (List.mem_append_right _ (List.mem_append_right _ (List.mem_append_right _ (List.mem_append_left _ (List.mem_of_getElem? (i := 173) rfl)))))))), rfl⟩, jw_of (z := 122) (by decide +kernel), by decide, Or.inr (Or.inl ⟨by decide +kernel, jw_of (z := 1726) (by decide +kernel), jw_of (z := 104) (by decide +kernel)⟩), by decide +kernel⟩
def M_M_cover : jMe := ("FootMapsModel", prog_9_method_120_code, 5, 0, false)
set_option maxRecDepth 100000 in
theorem ok_M_cover : jcdok M_M_cover cd_M_cover := jcdok_of 79 (by decide +kernel) (fun pc hp => by unfold cd_M_cover; rw [j_out hp]; rfl)
set_option maxRecDepth 100000 in
theorem mok_M_cover : jMok 271 prog_9_method_120_code 5 (Option.some FieldType.int) := ⟨List.mem_filter.mpr ⟨List.mem_append_right _ (show _ ∈ tables_1 from List.mem_append_right _ (List.mem_append_right _ (List.mem_append_right _ (List.mem_append_right _ (List.mem_append_right _ (List.mem_append_right _ (List.mem_append_left _ (List.mem_of_getElem? (i := 169) rfl)))))))), rfl⟩, jw_of (z := 122) (by decide +kernel), by decide, Or.inr (Or.inl ⟨by decide +kernel, jw_of (z := 1721) (by decide +kernel), jw_of (z := 1722) (by decide +kernel)⟩), by decide +kernel⟩
def M_M_glimpse : jMe := ("FootMapsModel", prog_9_method_121_code, 4, 0, false)
set_option maxRecDepth 100000 in
theorem ok_M_glimpse : jcdok M_M_glimpse cd_M_glimpse := jcdok_of 100 (by decide +kernel) (fun pc hp => by unfold cd_M_glimpse; rw [j_out hp]; rfl)
set_option maxRecDepth 100000 in
theorem mok_M_glimpse : jMok 273 prog_9_method_121_code 4 (Option.some FieldType.int) := ⟨List.mem_filter.mpr ⟨List.mem_append_right _ (show _ ∈ tables_1 from List.mem_append_right _ (List.mem_append_right _ (List.mem_append_right _ (List.mem_append_right _ (List.mem_append_right _ (List.mem_append_right _ (List.mem_append_left _ (List.mem_of_getElem? (i := 177) rfl)))))))), rfl⟩, jw_of (z := 122) (by decide +kernel), by decide, Or.inr (Or.inl ⟨by decide +kernel, jw_of (z := 1729) (by decide +kernel), jw_of (z := 1730) (by decide +kernel)⟩), by decide +kernel⟩
def M_M_forget : jMe := ("FootMapsModel", prog_9_method_122_code, 2, 0, false)
set_option maxRecDepth 100000 in
theorem ok_M_forget : jcdok M_M_forget cd_M_forget := jcdok_of 20 (by decide +kernel) (fun pc hp => by unfold cd_M_forget; rw [j_out hp]; rfl)
set_option maxRecDepth 100000 in
theorem mok_M_forget : jMok 274 prog_9_method_122_code 2 (Option.some FieldType.int) := ⟨List.mem_filter.mpr ⟨List.mem_append_right _ (show _ ∈ tables_1 from List.mem_append_right _ (List.mem_append_right _ (List.mem_append_right _ (List.mem_append_right _ (List.mem_append_right _ (List.mem_append_right _ (List.mem_append_left _ (List.mem_of_getElem? (i := 181) rfl)))))))), rfl⟩, jw_of (z := 122) (by decide +kernel), by decide, Or.inr (Or.inl ⟨by decide +kernel, jw_of (z := 1733) (by decide +kernel), jw_of (z := 1734) (by decide +kernel)⟩), by decide +kernel⟩
def M_M_glimpsed : jMe := ("FootMapsModel", prog_9_method_123_code, 4, 0, false)
set_option maxRecDepth 100000 in
theorem ok_M_glimpsed : jcdok M_M_glimpsed cd_M_glimpsed := jcdok_of 25 (by decide +kernel) (fun pc hp => by unfold cd_M_glimpsed; rw [j_out hp]; rfl)
set_option maxRecDepth 100000 in
theorem mok_M_glimpsed : jMok 276 prog_9_method_123_code 4 (Option.some FieldType.int) := ⟨List.mem_filter.mpr ⟨List.mem_append_right _ (show _ ∈ tables_1 from List.mem_append_right _ (List.mem_append_right _ (List.mem_append_right _ (List.mem_append_right _ (List.mem_append_right _ (List.mem_append_right _ (List.mem_append_left _ (List.mem_of_getElem? (i := 189) rfl)))))))), rfl⟩, jw_of (z := 122) (by decide +kernel), by decide, Or.inr (Or.inl ⟨by decide +kernel, jw_of (z := 1742) (by decide +kernel), jw_of (z := 105) (by decide +kernel)⟩), by decide +kernel⟩
def M_M_yard : jMe := ("FootMapsModel", prog_9_method_124_code, 5, 0, false)
set_option maxRecDepth 100000 in
theorem ok_M_yard : jcdok M_M_yard cd_M_yard := jcdok_of 102 (by decide +kernel) (fun pc hp => by unfold cd_M_yard; rw [j_out hp]; rfl)
set_option maxRecDepth 100000 in
theorem mok_M_yard : jMok 275 prog_9_method_124_code 5 (Option.some FieldType.int) := ⟨List.mem_filter.mpr ⟨List.mem_append_right _ (show _ ∈ tables_1 from List.mem_append_right _ (List.mem_append_right _ (List.mem_append_right _ (List.mem_append_right _ (List.mem_append_right _ (List.mem_append_right _ (List.mem_append_left _ (List.mem_of_getElem? (i := 185) rfl)))))))), rfl⟩, jw_of (z := 122) (by decide +kernel), by decide, Or.inr (Or.inl ⟨by decide +kernel, jw_of (z := 1737) (by decide +kernel), jw_of (z := 1738) (by decide +kernel)⟩), by decide +kernel⟩
def M_M_look : jMe := ("FootMapsModel", prog_9_method_125_code, 8, 0, false)
set_option maxRecDepth 100000 in
theorem ok_M_look : jcdok M_M_look cd_M_look := jcdok_of 165 (by decide +kernel) (fun pc hp => by unfold cd_M_look; rw [j_out hp]; rfl)
set_option maxRecDepth 100000 in
theorem mok_M_look : jMok 277 prog_9_method_125_code 8 (Option.some FieldType.int) := ⟨List.mem_filter.mpr ⟨List.mem_append_right _ (show _ ∈ tables_1 from List.mem_append_right _ (List.mem_append_right _ (List.mem_append_right _ (List.mem_append_right _ (List.mem_append_right _ (List.mem_append_right _ (List.mem_append_left _ (List.mem_of_getElem? (i := 193) rfl)))))))), rfl⟩, jw_of (z := 122) (by decide +kernel), by decide, Or.inr (Or.inl ⟨by decide +kernel, jw_of (z := 1745) (by decide +kernel), jw_of (z := 1746) (by decide +kernel)⟩), by decide +kernel⟩
def M_M_few : jMe := ("FootMapsModel", prog_9_method_126_code, 6, 2, false)
set_option maxRecDepth 100000 in
theorem ok_M_few : jcdok M_M_few cd_M_few := jcdok_of 177 (by decide +kernel) (fun pc hp => by unfold cd_M_few; rw [j_out hp]; rfl)
set_option maxRecDepth 100000 in
theorem mok_M_few : jMok 278 prog_9_method_126_code 6 (Option.some FieldType.long) := ⟨List.mem_filter.mpr ⟨List.mem_append_right _ (show _ ∈ tables_1 from List.mem_append_right _ (List.mem_append_right _ (List.mem_append_right _ (List.mem_append_right _ (List.mem_append_right _ (List.mem_append_right _ (List.mem_append_left _ (List.mem_of_getElem? (i := 198) rfl)))))))), rfl⟩, jw_of (z := 122) (by decide +kernel), by decide, Or.inr (Or.inl ⟨by decide +kernel, jw_of (z := 1750) (by decide +kernel), jw_of (z := 1751) (by decide +kernel)⟩), by decide +kernel⟩
def M_M_stopped : jMe := ("FootMapsModel", prog_9_method_127_code, 1, 0, false)
set_option maxRecDepth 100000 in
theorem ok_M_stopped : jcdok M_M_stopped cd_M_stopped := jcdok_of 5 (by decide +kernel) (fun pc hp => by unfold cd_M_stopped; rw [j_out hp]; rfl)
set_option maxRecDepth 100000 in
theorem mok_M_stopped : jMok 279 prog_9_method_127_code 1 (Option.some FieldType.int) := ⟨List.mem_filter.mpr ⟨List.mem_append_right _ (show _ ∈ tables_1 from List.mem_append_right _ (List.mem_append_right _ (List.mem_append_right _ (List.mem_append_right _ (List.mem_append_right _ (List.mem_append_right _ (List.mem_append_left _ (List.mem_of_getElem? (i := 205) rfl)))))))), rfl⟩, jw_of (z := 122) (by decide +kernel), by decide, Or.inr (Or.inl ⟨by decide +kernel, jw_of (z := 1757) (by decide +kernel), jw_of (z := 1758) (by decide +kernel)⟩), by decide +kernel⟩
def M_M_laysAside : jMe := ("FootMapsModel", prog_9_method_15_code, 3, 4, false)
set_option maxRecDepth 100000 in
theorem ok_M_laysAside : jcdok M_M_laysAside cd_M_laysAside := jcdok_of 32 (by decide +kernel) (fun pc hp => by unfold cd_M_laysAside; rw [j_out hp]; rfl)
set_option maxRecDepth 100000 in
theorem mok_M_laysAside : jMok 281 prog_9_method_15_code 3 (Option.none : Option FieldType) := ⟨List.mem_filter.mpr ⟨List.mem_append_right _ (show _ ∈ tables_1 from List.mem_append_right _ (List.mem_append_right _ (List.mem_append_right _ (List.mem_append_right _ (List.mem_append_right _ (List.mem_append_right _ (List.mem_append_left _ (List.mem_of_getElem? (i := 213) rfl)))))))), rfl⟩, jw_of (z := 122) (by decide +kernel), by decide, Or.inr (Or.inl ⟨by decide +kernel, jw_of (z := 1766) (by decide +kernel), jw_of (z := 106) (by decide +kernel)⟩), by decide +kernel⟩
def M_M_goesAlong : jMe := ("FootMapsModel", prog_9_method_129_code, 5, 4, false)
set_option maxRecDepth 100000 in
theorem ok_M_goesAlong : jcdok M_M_goesAlong cd_M_goesAlong := jcdok_of 235 (by decide +kernel) (fun pc hp => by unfold cd_M_goesAlong; rw [j_out hp]; rfl)
set_option maxRecDepth 100000 in
theorem mok_M_goesAlong : jMok 283 prog_9_method_129_code 5 (Option.none : Option FieldType) := ⟨List.mem_filter.mpr ⟨List.mem_append_right _ (show _ ∈ tables_1 from List.mem_append_right _ (List.mem_append_right _ (List.mem_append_right _ (List.mem_append_right _ (List.mem_append_right _ (List.mem_append_right _ (List.mem_append_left _ (List.mem_of_getElem? (i := 221) rfl)))))))), rfl⟩, jw_of (z := 122) (by decide +kernel), by decide, Or.inr (Or.inl ⟨by decide +kernel, jw_of (z := 1774) (by decide +kernel), jw_of (z := 108) (by decide +kernel)⟩), by decide +kernel⟩
def M_M_small : jMe := ("FootMapsModel", prog_9_method_130_code, 2, 0, false)
set_option maxRecDepth 100000 in
theorem ok_M_small : jcdok M_M_small cd_M_small := jcdok_of 21 (by decide +kernel) (fun pc hp => by unfold cd_M_small; rw [j_out hp]; rfl)
set_option maxRecDepth 100000 in
theorem mok_M_small : jMok 285 prog_9_method_130_code 2 (Option.some FieldType.int) := ⟨List.mem_filter.mpr ⟨List.mem_append_right _ (show _ ∈ tables_1 from List.mem_append_right _ (List.mem_append_right _ (List.mem_append_right _ (List.mem_append_right _ (List.mem_append_right _ (List.mem_append_right _ (List.mem_append_left _ (List.mem_of_getElem? (i := 228) rfl)))))))), rfl⟩, jw_of (z := 122) (by decide +kernel), by decide, Or.inl ⟨by decide +kernel, jw_of (z := 1781) (by decide +kernel)⟩, by decide +kernel⟩
def M_M_obeys : jMe := ("FootMapsModel", prog_9_method_131_code, 4, 0, false)
set_option maxRecDepth 100000 in
theorem ok_M_obeys : jcdok M_M_obeys cd_M_obeys := jcdok_of 104 (by decide +kernel) (fun pc hp => by unfold cd_M_obeys; rw [j_out hp]; rfl)
set_option maxRecDepth 100000 in
theorem mok_M_obeys : jMok 284 prog_9_method_131_code 4 (Option.some FieldType.int) := ⟨List.mem_filter.mpr ⟨List.mem_append_right _ (show _ ∈ tables_1 from List.mem_append_right _ (List.mem_append_right _ (List.mem_append_right _ (List.mem_append_right _ (List.mem_append_right _ (List.mem_append_right _ (List.mem_append_left _ (List.mem_of_getElem? (i := 225) rfl)))))))), rfl⟩, jw_of (z := 122) (by decide +kernel), by decide, Or.inr (Or.inl ⟨by decide +kernel, jw_of (z := 1778) (by decide +kernel), jw_of (z := 109) (by decide +kernel)⟩), by decide +kernel⟩
def M_M_runs : jMe := ("FootMapsModel", prog_9_method_132_code, 5, 1, false)
set_option maxRecDepth 100000 in
theorem ok_M_runs : jcdok M_M_runs cd_M_runs := jcdok_of 80 (by decide +kernel) (fun pc hp => by unfold cd_M_runs; rw [j_out hp]; rfl)
set_option maxRecDepth 100000 in
theorem mok_M_runs : jMok 282 prog_9_method_132_code 5 (Option.some FieldType.boolean) := ⟨List.mem_filter.mpr ⟨List.mem_append_right _ (show _ ∈ tables_1 from List.mem_append_right _ (List.mem_append_right _ (List.mem_append_right _ (List.mem_append_right _ (List.mem_append_right _ (List.mem_append_right _ (List.mem_append_left _ (List.mem_of_getElem? (i := 217) rfl)))))))), rfl⟩, jw_of (z := 122) (by decide +kernel), by decide, Or.inr (Or.inl ⟨by decide +kernel, jw_of (z := 1770) (by decide +kernel), jw_of (z := 107) (by decide +kernel)⟩), by decide +kernel⟩
def M_M_takesBack : jMe := ("FootMapsModel", prog_9_method_16_code, 3, 4, false)
set_option maxRecDepth 100000 in
theorem ok_M_takesBack : jcdok M_M_takesBack cd_M_takesBack := jcdok_of 32 (by decide +kernel) (fun pc hp => by unfold cd_M_takesBack; rw [j_out hp]; rfl)
set_option maxRecDepth 100000 in
theorem mok_M_takesBack : jMok 286 prog_9_method_16_code 3 (Option.none : Option FieldType) := ⟨List.mem_filter.mpr ⟨List.mem_append_right _ (show _ ∈ tables_1 from List.mem_append_right _ (List.mem_append_right _ (List.mem_append_right _ (List.mem_append_right _ (List.mem_append_right _ (List.mem_append_right _ (List.mem_append_left _ (List.mem_of_getElem? (i := 233) rfl)))))))), rfl⟩, jw_of (z := 122) (by decide +kernel), by decide, Or.inr (Or.inl ⟨by decide +kernel, jw_of (z := 1786) (by decide +kernel), jw_of (z := 110) (by decide +kernel)⟩), by decide +kernel⟩
def M_M_orders : jMe := ("FootMapsModel", prog_9_method_128_code, 5, 0, false)
set_option maxRecDepth 100000 in
theorem ok_M_orders : jcdok M_M_orders cd_M_orders := jcdok_of 183 (by decide +kernel) (fun pc hp => by unfold cd_M_orders; rw [j_out hp]; rfl)
set_option maxRecDepth 100000 in
theorem mok_M_orders : jMok 280 prog_9_method_128_code 5 (Option.some FieldType.int) := ⟨List.mem_filter.mpr ⟨List.mem_append_right _ (show _ ∈ tables_1 from List.mem_append_right _ (List.mem_append_right _ (List.mem_append_right _ (List.mem_append_right _ (List.mem_append_right _ (List.mem_append_right _ (List.mem_append_left _ (List.mem_of_getElem? (i := 209) rfl)))))))), rfl⟩, jw_of (z := 122) (by decide +kernel), by decide, Or.inr (Or.inl ⟨by decide +kernel, jw_of (z := 1761) (by decide +kernel), jw_of (z := 1762) (by decide +kernel)⟩), by decide +kernel⟩
def M_M_draws : jMe := ("FootMapsModel", prog_9_method_133_code, 2, 0, false)
set_option maxRecDepth 100000 in
theorem ok_M_draws : jcdok M_M_draws cd_M_draws := jcdok_of 29 (by decide +kernel) (fun pc hp => by unfold cd_M_draws; rw [j_out hp]; rfl)
set_option maxRecDepth 100000 in
theorem mok_M_draws : jMok 289 prog_9_method_133_code 2 (Option.some FieldType.int) := ⟨List.mem_filter.mpr ⟨List.mem_append_right _ (show _ ∈ tables_1 from List.mem_append_right _ (List.mem_append_right _ (List.mem_append_right _ (List.mem_append_right _ (List.mem_append_right _ (List.mem_append_right _ (List.mem_append_right _ (List.mem_of_getElem? (i := 5) rfl)))))))), rfl⟩, jw_of (z := 122) (by decide +kernel), by decide, Or.inr (Or.inl ⟨by decide +kernel, jw_of (z := 1798) (by decide +kernel), jw_of (z := 112) (by decide +kernel)⟩), by decide +kernel⟩
def M_M_minuteIsDrawn : jMe := ("FootMapsModel", prog_9_method_134_code, 6, 0, false)
set_option maxRecDepth 100000 in
theorem ok_M_minuteIsDrawn : jcdok M_M_minuteIsDrawn cd_M_minuteIsDrawn := jcdok_of 115 (by decide +kernel) (fun pc hp => by unfold cd_M_minuteIsDrawn; rw [j_out hp]; rfl)
set_option maxRecDepth 100000 in
theorem mok_M_minuteIsDrawn : jMok 288 prog_9_method_134_code 6 (Option.some FieldType.int) := ⟨List.mem_filter.mpr ⟨List.mem_append_right _ (show _ ∈ tables_1 from List.mem_append_right _ (List.mem_append_right _ (List.mem_append_right _ (List.mem_append_right _ (List.mem_append_right _ (List.mem_append_right _ (List.mem_append_right _ (List.mem_of_getElem? (i := 1) rfl)))))))), rfl⟩, jw_of (z := 122) (by decide +kernel), by decide, Or.inr (Or.inl ⟨by decide +kernel, jw_of (z := 1794) (by decide +kernel), jw_of (z := 111) (by decide +kernel)⟩), by decide +kernel⟩
def M_M_days : jMe := ("FootMapsModel", prog_9_method_135_code, 5, 0, false)
set_option maxRecDepth 100000 in
theorem ok_M_days : jcdok M_M_days cd_M_days := jcdok_of 136 (by decide +kernel) (fun pc hp => by unfold cd_M_days; rw [j_out hp]; rfl)
set_option maxRecDepth 100000 in
theorem mok_M_days : jMok 287 prog_9_method_135_code 5 (Option.some FieldType.int) := ⟨List.mem_filter.mpr ⟨List.mem_append_right _ (show _ ∈ tables_1 from List.mem_append_right _ (List.mem_append_right _ (List.mem_append_right _ (List.mem_append_right _ (List.mem_append_right _ (List.mem_append_right _ (List.mem_append_left _ (List.mem_of_getElem? (i := 237) rfl)))))))), rfl⟩, jw_of (z := 122) (by decide +kernel), by decide, Or.inr (Or.inl ⟨by decide +kernel, jw_of (z := 1789) (by decide +kernel), jw_of (z := 1790) (by decide +kernel)⟩), by decide +kernel⟩
def M_M_drawn : jMe := ("FootMapsModel", prog_9_method_136_code, 5, 0, false)
set_option maxRecDepth 100000 in
theorem ok_M_drawn : jcdok M_M_drawn cd_M_drawn := jcdok_of 86 (by decide +kernel) (fun pc hp => by unfold cd_M_drawn; rw [j_out hp]; rfl)
set_option maxRecDepth 100000 in
theorem mok_M_drawn : jMok 290 prog_9_method_136_code 5 (Option.some FieldType.int) := ⟨List.mem_filter.mpr ⟨List.mem_append_right _ (show _ ∈ tables_1 from List.mem_append_right _ (List.mem_append_right _ (List.mem_append_right _ (List.mem_append_right _ (List.mem_append_right _ (List.mem_append_right _ (List.mem_append_right _ (List.mem_of_getElem? (i := 12) rfl)))))))), rfl⟩, jw_of (z := 122) (by decide +kernel), by decide, Or.inr (Or.inl ⟨by decide +kernel, jw_of (z := 1804) (by decide +kernel), jw_of (z := 1805) (by decide +kernel)⟩), by decide +kernel⟩
def M_M_allSheets : jMe := ("FootMapsModel", prog_9_method_137_code, 3, 0, false)
set_option maxRecDepth 100000 in
theorem ok_M_allSheets : jcdok M_M_allSheets cd_M_allSheets := jcdok_of 31 (by decide +kernel) (fun pc hp => by unfold cd_M_allSheets; rw [j_out hp]; rfl)
set_option maxRecDepth 100000 in
theorem mok_M_allSheets : jMok 292 prog_9_method_137_code 3 (Option.some FieldType.int) := ⟨List.mem_filter.mpr ⟨List.mem_append_right _ (show _ ∈ tables_1 from List.mem_append_right _ (List.mem_append_right _ (List.mem_append_right _ (List.mem_append_right _ (List.mem_append_right _ (List.mem_append_right _ (List.mem_append_right _ (List.mem_of_getElem? (i := 20) rfl)))))))), rfl⟩, jw_of (z := 122) (by decide +kernel), by decide, Or.inr (Or.inl ⟨by decide +kernel, jw_of (z := 1813) (by decide +kernel), jw_of (z := 113) (by decide +kernel)⟩), by decide +kernel⟩
def M_M_count : jMe := ("FootMapsModel", prog_9_method_138_code, 2, 0, false)
set_option maxRecDepth 100000 in
theorem ok_M_count : jcdok M_M_count cd_M_count := jcdok_of 162 (by decide +kernel) (fun pc hp => by unfold cd_M_count; rw [j_out hp]; rfl)
set_option maxRecDepth 100000 in
theorem mok_M_count : jMok 291 prog_9_method_138_code 2 (Option.some FieldType.int) := ⟨List.mem_filter.mpr ⟨List.mem_append_right _ (show _ ∈ tables_1 from List.mem_append_right _ (List.mem_append_right _ (List.mem_append_right _ (List.mem_append_right _ (List.mem_append_right _ (List.mem_append_right _ (List.mem_append_right _ (List.mem_of_getElem? (i := 16) rfl)))))))), rfl⟩, jw_of (z := 122) (by decide +kernel), by decide, Or.inr (Or.inl ⟨by decide +kernel, jw_of (z := 1808) (by decide +kernel), jw_of (z := 1809) (by decide +kernel)⟩), by decide +kernel⟩
def M_M_status : jMe := ("FootMapsModel", prog_9_method_139_code, 1, 0, false)
set_option maxRecDepth 100000 in
theorem ok_M_status : jcdok M_M_status cd_M_status := jcdok_of 5 (by decide +kernel) (fun pc hp => by unfold cd_M_status; rw [j_out hp]; rfl)
set_option maxRecDepth 100000 in
theorem mok_M_status : jMok 293 prog_9_method_139_code 1 (Option.some FieldType.int) := ⟨List.mem_filter.mpr ⟨List.mem_append_right _ (show _ ∈ tables_1 from List.mem_append_right _ (List.mem_append_right _ (List.mem_append_right _ (List.mem_append_right _ (List.mem_append_right _ (List.mem_append_right _ (List.mem_append_right _ (List.mem_of_getElem? (i := 24) rfl)))))))), rfl⟩, jw_of (z := 122) (by decide +kernel), by decide, Or.inr (Or.inl ⟨by decide +kernel, jw_of (z := 1816) (by decide +kernel), jw_of (z := 1817) (by decide +kernel)⟩), by decide +kernel⟩
