/-! words by their places; links (written by wip/whole/gen10.py) -/
theorem tb0 {w : Cond} (h : w ∈ k2_sels lw_privs) : w ∈ lw_tbl := List.mem_append_left _ h
theorem tb1 {w : Cond} (h : w ∈ tables_1_1) : w ∈ lw_tbl := List.mem_append_right _ (by unfold tables_1; exact List.mem_append_left _ h)
theorem tb2 {w : Cond} (h : w ∈ tables_1_2) : w ∈ lw_tbl := List.mem_append_right _ (by unfold tables_1; exact List.mem_append_right _ (List.mem_append_left _ h))
theorem tb3 {w : Cond} (h : w ∈ tables_1_3) : w ∈ lw_tbl := List.mem_append_right _ (by unfold tables_1; exact List.mem_append_right _ (List.mem_append_right _ (List.mem_append_left _ h)))
theorem tb4 {w : Cond} (h : w ∈ tables_1_4) : w ∈ lw_tbl := List.mem_append_right _ (by unfold tables_1; exact List.mem_append_right _ (List.mem_append_right _ (List.mem_append_right _ (List.mem_append_left _ h))))
theorem tb5 {w : Cond} (h : w ∈ tables_1_5) : w ∈ lw_tbl := List.mem_append_right _ (by unfold tables_1; exact List.mem_append_right _ (List.mem_append_right _ (List.mem_append_right _ (List.mem_append_right _ (List.mem_append_left _ h)))))
theorem tb6 {w : Cond} (h : w ∈ tables_1_6) : w ∈ lw_tbl := List.mem_append_right _ (by unfold tables_1; exact List.mem_append_right _ (List.mem_append_right _ (List.mem_append_right _ (List.mem_append_right _ (List.mem_append_right _ (h))))))
theorem tq0 {w : Cond} (i : Nat) (h : (k2_sels lw_privs)[i]? = some w) (g : goodWord w = true) : w ∈ TT := List.mem_filter.mpr ⟨tb0 (List.mem_of_getElem? h), g⟩
theorem tq1 {w : Cond} (i : Nat) (h : tables_1_1[i]? = some w) (g : goodWord w = true) : w ∈ TT := List.mem_filter.mpr ⟨tb1 (List.mem_of_getElem? h), g⟩
theorem tq2 {w : Cond} (i : Nat) (h : tables_1_2[i]? = some w) (g : goodWord w = true) : w ∈ TT := List.mem_filter.mpr ⟨tb2 (List.mem_of_getElem? h), g⟩
theorem tq3 {w : Cond} (i : Nat) (h : tables_1_3[i]? = some w) (g : goodWord w = true) : w ∈ TT := List.mem_filter.mpr ⟨tb3 (List.mem_of_getElem? h), g⟩
theorem tq4 {w : Cond} (i : Nat) (h : tables_1_4[i]? = some w) (g : goodWord w = true) : w ∈ TT := List.mem_filter.mpr ⟨tb4 (List.mem_of_getElem? h), g⟩
theorem tq5 {w : Cond} (i : Nat) (h : tables_1_5[i]? = some w) (g : goodWord w = true) : w ∈ TT := List.mem_filter.mpr ⟨tb5 (List.mem_of_getElem? h), g⟩
theorem tq6 {w : Cond} (i : Nat) (h : tables_1_6[i]? = some w) (g : goodWord w = true) : w ∈ TT := List.mem_filter.mpr ⟨tb6 (List.mem_of_getElem? h), g⟩
-- methods: code, initialised
set_option maxRecDepth 20000 in
theorem okX0_init : MdOk mX0_init := ⟨tq1 29 rfl rfl, ⟨by decide, by decide⟩, tq1 2 rfl rfl⟩
theorem npX0_init : npar mX0_init 0 := by unfold npar; decide +kernel
set_option maxRecDepth 20000 in
theorem okX0_become : MdOk mX0_become := ⟨tq4 26 rfl rfl, ⟨by decide, by decide⟩, tq1 2 rfl rfl⟩
theorem npX0_become : npar mX0_become 1 := by unfold npar; decide +kernel
set_option maxRecDepth 20000 in
theorem okX0_firstOpen : MdOk mX0_firstOpen := ⟨tq1 221 rfl rfl, ⟨by decide, by decide⟩, tq1 2 rfl rfl⟩
theorem npX0_firstOpen : npar mX0_firstOpen 0 := by unfold npar; decide +kernel
set_option maxRecDepth 20000 in
theorem okX0_openCount : MdOk mX0_openCount := ⟨tq1 226 rfl rfl, ⟨by decide, by decide⟩, tq1 2 rfl rfl⟩
theorem npX0_openCount : npar mX0_openCount 0 := by unfold npar; decide +kernel
set_option maxRecDepth 20000 in
theorem okX0_endOpen : MdOk mX0_endOpen := ⟨tq2 46 rfl rfl, ⟨by decide, by decide⟩, tq1 2 rfl rfl⟩
theorem npX0_endOpen : npar mX0_endOpen 0 := by unfold npar; decide +kernel
set_option maxRecDepth 20000 in
theorem okX0_isOpen : MdOk mX0_isOpen := ⟨tq3 76 rfl rfl, ⟨by decide, by decide⟩, tq1 2 rfl rfl⟩
theorem npX0_isOpen : npar mX0_isOpen 1 := by unfold npar; decide +kernel
set_option maxRecDepth 20000 in
theorem okX0_dealAt : MdOk mX0_dealAt := ⟨tq2 74 rfl rfl, ⟨by decide, by decide⟩, tq1 2 rfl rfl⟩
theorem npX0_dealAt : npar mX0_dealAt 1 := by unfold npar; decide +kernel
set_option maxRecDepth 20000 in
theorem okX0_numberOf : MdOk mX0_numberOf := ⟨tq4 18 rfl rfl, ⟨by decide, by decide⟩, tq1 2 rfl rfl⟩
theorem npX0_numberOf : npar mX0_numberOf 1 := by unfold npar; decide +kernel
set_option maxRecDepth 20000 in
theorem okX0_clashOf : MdOk mX0_clashOf := ⟨tq2 70 rfl rfl, ⟨by decide, by decide⟩, tq1 2 rfl rfl⟩
theorem npX0_clashOf : npar mX0_clashOf 4 := by unfold npar; decide +kernel
set_option maxRecDepth 20000 in
theorem okX1_init : MdOk mX1_init := ⟨tq1 239 rfl rfl, ⟨by decide, by decide⟩, tq1 9 rfl rfl⟩
theorem npX1_init : npar mX1_init 7 := by unfold npar; decide +kernel
set_option maxRecDepth 20000 in
theorem okX1_isMet : MdOk mX1_isMet := ⟨tq3 52 rfl rfl, ⟨by decide, by decide⟩, tq1 9 rfl rfl⟩
theorem npX1_isMet : npar mX1_isMet 1 := by unfold npar; decide +kernel
set_option maxRecDepth 20000 in
theorem okX1_gives : MdOk mX1_gives := ⟨tq2 56 rfl rfl, ⟨by decide, by decide⟩, tq1 9 rfl rfl⟩
theorem npX1_gives : npar mX1_gives 1 := by unfold npar; decide +kernel
set_option maxRecDepth 20000 in
theorem okX1_getsBack : MdOk mX1_getsBack := ⟨tq2 65 rfl rfl, ⟨by decide, by decide⟩, tq1 9 rfl rfl⟩
theorem npX1_getsBack : npar mX1_getsBack 1 := by unfold npar; decide +kernel
set_option maxRecDepth 20000 in
theorem okX1_takerOf : MdOk mX1_takerOf := ⟨tq2 79 rfl rfl, ⟨by decide, by decide⟩, tq1 9 rfl rfl⟩
theorem npX1_takerOf : npar mX1_takerOf 2 := by unfold npar; decide +kernel
set_option maxRecDepth 20000 in
theorem okX1_mayGive : MdOk mX1_mayGive := ⟨tq2 83 rfl rfl, ⟨by decide, by decide⟩, tq1 9 rfl rfl⟩
theorem npX1_mayGive : npar mX1_mayGive 1 := by unfold npar; decide +kernel
set_option maxRecDepth 20000 in
theorem okX2_init : MdOk mX2_init := ⟨tq1 66 rfl rfl, ⟨by decide, by decide⟩, tq1 3 rfl rfl⟩
theorem npX2_init : npar mX2_init 0 := by unfold npar; decide +kernel
set_option maxRecDepth 20000 in
theorem okX2_at : MdOk mX2_at := ⟨tq3 81 rfl rfl, ⟨by decide, by decide⟩, tq1 3 rfl rfl⟩
theorem npX2_at : npar mX2_at 2 := by unfold npar; decide +kernel
set_option maxRecDepth 20000 in
theorem okX2_startAll : MdOk mX2_startAll := ⟨tq1 150 rfl rfl, ⟨by decide, by decide⟩, tq1 3 rfl rfl⟩
theorem npX2_startAll : npar mX2_startAll 2 := by unfold npar; decide +kernel
set_option maxRecDepth 20000 in
theorem okX2_settle : MdOk mX2_settle := ⟨tq2 87 rfl rfl, ⟨by decide, by decide⟩, tq1 3 rfl rfl⟩
theorem npX2_settle : npar mX2_settle 3 := by unfold npar; decide +kernel
set_option maxRecDepth 20000 in
theorem okX2_give : MdOk mX2_give := ⟨tq2 92 rfl rfl, ⟨by decide, by decide⟩, tq1 3 rfl rfl⟩
theorem npX2_give : npar mX2_give 3 := by unfold npar; decide +kernel
set_option maxRecDepth 20000 in
theorem okX3_init : MdOk mX3_init := ⟨tq1 76 rfl rfl, ⟨by decide, by decide⟩, tq1 4 rfl rfl⟩
theorem npX3_init : npar mX3_init 0 := by unfold npar; decide +kernel
set_option maxRecDepth 20000 in
theorem okX3_cameAt : MdOk mX3_cameAt := ⟨tq2 232 rfl rfl, ⟨by decide, by decide⟩, tq1 4 rfl rfl⟩
theorem npX3_cameAt : npar mX3_cameAt 1 := by unfold npar; decide +kernel
set_option maxRecDepth 20000 in
theorem okX3_readText : MdOk mX3_readText := ⟨tq2 104 rfl rfl, ⟨by decide, by decide⟩, tq1 4 rfl rfl⟩
theorem npX3_readText : npar mX3_readText 1 := by unfold npar; decide +kernel
set_option maxRecDepth 20000 in
theorem okX3_readItem : MdOk mX3_readItem := ⟨tq2 122 rfl rfl, ⟨by decide, by decide⟩, tq1 4 rfl rfl⟩
theorem npX3_readItem : npar mX3_readItem 1 := by unfold npar; decide +kernel
set_option maxRecDepth 20000 in
theorem okX3_readKind : MdOk mX3_readKind := ⟨tq2 196 rfl rfl, ⟨by decide, by decide⟩, tq1 4 rfl rfl⟩
theorem npX3_readKind : npar mX3_readKind 0 := by unfold npar; decide +kernel
set_option maxRecDepth 20000 in
theorem okX3_readAny : MdOk mX3_readAny := ⟨tq2 206 rfl rfl, ⟨by decide, by decide⟩, tq1 4 rfl rfl⟩
theorem npX3_readAny : npar mX3_readAny 3 := by unfold npar; decide +kernel
set_option maxRecDepth 20000 in
theorem okX3_readOne : MdOk mX3_readOne := ⟨tq2 214 rfl rfl, ⟨by decide, by decide⟩, tq1 4 rfl rfl⟩
theorem npX3_readOne : npar mX3_readOne 3 := by unfold npar; decide +kernel
set_option maxRecDepth 20000 in
theorem okX3_dealByThen : MdOk mX3_dealByThen := ⟨tq2 227 rfl rfl, ⟨by decide, by decide⟩, tq1 4 rfl rfl⟩
theorem npX3_dealByThen : npar mX3_dealByThen 2 := by unfold npar; decide +kernel
set_option maxRecDepth 20000 in
theorem okX4_init : MdOk mX4_init := ⟨tq3 165 rfl rfl, ⟨by decide, by decide⟩, tq1 15 rfl rfl⟩
theorem npX4_init : npar mX4_init 1 := by unfold npar; decide +kernel
set_option maxRecDepth 20000 in
theorem okX4_move : MdOk mX4_move := ⟨tq3 187 rfl rfl, ⟨by decide, by decide⟩, tq1 15 rfl rfl⟩
theorem npX4_move : npar mX4_move 2 := by unfold npar; decide +kernel
set_option maxRecDepth 20000 in
theorem okX5_init : MdOk mX5_init := ⟨tq1 132 rfl rfl, ⟨by decide, by decide⟩, tq1 7 rfl rfl⟩
theorem npX5_init : npar mX5_init 0 := by unfold npar; decide +kernel
set_option maxRecDepth 20000 in
theorem okX5_isMissing : MdOk mX5_isMissing := ⟨tq3 152 rfl rfl, ⟨by decide, by decide⟩, tq1 7 rfl rfl⟩
theorem npX5_isMissing : npar mX5_isMissing 0 := by unfold npar; decide +kernel
set_option maxRecDepth 20000 in
theorem okX5_become : MdOk mX5_become := ⟨tq3 222 rfl rfl, ⟨by decide, by decide⟩, tq1 7 rfl rfl⟩
theorem npX5_become : npar mX5_become 2 := by unfold npar; decide +kernel
set_option maxRecDepth 20000 in
theorem okX5_put : MdOk mX5_put := ⟨tq3 198 rfl rfl, ⟨by decide, by decide⟩, tq1 7 rfl rfl⟩
theorem npX5_put : npar mX5_put 2 := by unfold npar; decide +kernel
set_option maxRecDepth 20000 in
theorem okX5_hasRun : MdOk mX5_hasRun := ⟨tq3 238 rfl rfl, ⟨by decide, by decide⟩, tq1 7 rfl rfl⟩
theorem npX5_hasRun : npar mX5_hasRun 2 := by unfold npar; decide +kernel
set_option maxRecDepth 20000 in
theorem okX6_init : MdOk mX6_init := ⟨tq1 105 rfl rfl, ⟨by decide, by decide⟩, tq1 6 rfl rfl⟩
theorem npX6_init : npar mX6_init 0 := by unfold npar; decide +kernel
set_option maxRecDepth 20000 in
theorem okX6_has : MdOk mX6_has := ⟨tq2 60 rfl rfl, ⟨by decide, by decide⟩, tq1 6 rfl rfl⟩
theorem npX6_has : npar mX6_has 1 := by unfold npar; decide +kernel
set_option maxRecDepth 20000 in
theorem okX6_becomeAhead : MdOk mX6_becomeAhead := ⟨tq3 8 rfl rfl, ⟨by decide, by decide⟩, tq1 6 rfl rfl⟩
theorem npX6_becomeAhead : npar mX6_becomeAhead 2 := by unfold npar; decide +kernel
set_option maxRecDepth 20000 in
theorem okX6_becomeAt : MdOk mX6_becomeAt := ⟨tq3 13 rfl rfl, ⟨by decide, by decide⟩, tq1 6 rfl rfl⟩
theorem npX6_becomeAt : npar mX6_becomeAt 2 := by unfold npar; decide +kernel
set_option maxRecDepth 20000 in
theorem okX6_becomeLapsed : MdOk mX6_becomeLapsed := ⟨tq2 237 rfl rfl, ⟨by decide, by decide⟩, tq1 6 rfl rfl⟩
theorem npX6_becomeLapsed : npar mX6_becomeLapsed 1 := by unfold npar; decide +kernel
set_option maxRecDepth 20000 in
theorem okX6_clear : MdOk mX6_clear := ⟨tq2 210 rfl rfl, ⟨by decide, by decide⟩, tq1 6 rfl rfl⟩
theorem npX6_clear : npar mX6_clear 0 := by unfold npar; decide +kernel
set_option maxRecDepth 20000 in
theorem okX6_turn : MdOk mX6_turn := ⟨tq2 219 rfl rfl, ⟨by decide, by decide⟩, tq1 6 rfl rfl⟩
theorem npX6_turn : npar mX6_turn 0 := by unfold npar; decide +kernel
set_option maxRecDepth 20000 in
theorem okX6_join : MdOk mX6_join := ⟨tq3 22 rfl rfl, ⟨by decide, by decide⟩, tq1 6 rfl rfl⟩
theorem npX6_join : npar mX6_join 1 := by unfold npar; decide +kernel
set_option maxRecDepth 20000 in
theorem okX6_meet : MdOk mX6_meet := ⟨tq3 18 rfl rfl, ⟨by decide, by decide⟩, tq1 6 rfl rfl⟩
theorem npX6_meet : npar mX6_meet 1 := by unfold npar; decide +kernel
set_option maxRecDepth 20000 in
theorem okX6_set : MdOk mX6_set := ⟨tq3 2 rfl rfl, ⟨by decide, by decide⟩, tq1 6 rfl rfl⟩
theorem npX6_set : npar mX6_set 2 := by unfold npar; decide +kernel
set_option maxRecDepth 20000 in
theorem okX7_init : MdOk mX7_init := ⟨tq1 82 rfl rfl, ⟨by decide, by decide⟩, tq1 5 rfl rfl⟩
theorem npX7_init : npar mX7_init 0 := by unfold npar; decide +kernel
set_option maxRecDepth 20000 in
theorem okX7_add : MdOk mX7_add := ⟨tq3 210 rfl rfl, ⟨by decide, by decide⟩, tq1 5 rfl rfl⟩
theorem npX7_add : npar mX7_add 1 := by unfold npar; decide +kernel
set_option maxRecDepth 20000 in
theorem okX7_start : MdOk mX7_start := ⟨tq2 108 rfl rfl, ⟨by decide, by decide⟩, tq1 5 rfl rfl⟩
theorem npX7_start : npar mX7_start 0 := by unfold npar; decide +kernel
set_option maxRecDepth 20000 in
theorem okX7_tokenPlace : MdOk mX7_tokenPlace := ⟨tq3 28 rfl rfl, ⟨by decide, by decide⟩, tq1 5 rfl rfl⟩
theorem npX7_tokenPlace : npar mX7_tokenPlace 0 := by unfold npar; decide +kernel
set_option maxRecDepth 20000 in
theorem okX7_isAtEnd : MdOk mX7_isAtEnd := ⟨tq2 183 rfl rfl, ⟨by decide, by decide⟩, tq1 5 rfl rfl⟩
theorem npX7_isAtEnd : npar mX7_isAtEnd 0 := by unfold npar; decide +kernel
set_option maxRecDepth 20000 in
theorem okX7_takes : MdOk mX7_takes := ⟨tq2 127 rfl rfl, ⟨by decide, by decide⟩, tq1 5 rfl rfl⟩
theorem npX7_takes : npar mX7_takes 1 := by unfold npar; decide +kernel
set_option maxRecDepth 20000 in
theorem okX7_takeNumber : MdOk mX7_takeNumber := ⟨tq2 179 rfl rfl, ⟨by decide, by decide⟩, tq1 5 rfl rfl⟩
theorem npX7_takeNumber : npar mX7_takeNumber 3 := by unfold npar; decide +kernel
set_option maxRecDepth 20000 in
theorem okX7_tokenNumber : MdOk mX7_tokenNumber := ⟨tq2 187 rfl rfl, ⟨by decide, by decide⟩, tq1 5 rfl rfl⟩
theorem npX7_tokenNumber : npar mX7_tokenNumber 0 := by unfold npar; decide +kernel
set_option maxRecDepth 20000 in
theorem okX7_step : MdOk mX7_step := ⟨tq2 112 rfl rfl, ⟨by decide, by decide⟩, tq1 5 rfl rfl⟩
theorem npX7_step : npar mX7_step 0 := by unfold npar; decide +kernel
set_option maxRecDepth 20000 in
theorem okX7_isLetter : MdOk mX7_isLetter := ⟨tq2 115 rfl rfl, ⟨by decide, by decide⟩, tq1 5 rfl rfl⟩
theorem npX7_isLetter : npar mX7_isLetter 1 := by unfold npar; decide +kernel
set_option maxRecDepth 20000 in
theorem okX7_isDigit : MdOk mX7_isDigit := ⟨tq2 118 rfl rfl, ⟨by decide, by decide⟩, tq1 5 rfl rfl⟩
theorem npX7_isDigit : npar mX7_isDigit 1 := by unfold npar; decide +kernel
set_option maxRecDepth 20000 in
theorem okX8_init : MdOk mX8_init := ⟨tq1 21 rfl rfl, ⟨by decide, by decide⟩, tq1 1 rfl rfl⟩
theorem npX8_init : npar mX8_init 0 := by unfold npar; decide +kernel
set_option maxRecDepth 20000 in
theorem okX8_order : MdOk mX8_order := ⟨tq1 183 rfl rfl, ⟨by decide, by decide⟩, tq1 1 rfl rfl⟩
theorem npX8_order : npar mX8_order 2 := by unfold npar; decide +kernel
set_option maxRecDepth 20000 in
theorem okX8_place : MdOk mX8_place := ⟨tq1 197 rfl rfl, ⟨by decide, by decide⟩, tq1 1 rfl rfl⟩
theorem npX8_place : npar mX8_place 2 := by unfold npar; decide +kernel
set_option maxRecDepth 20000 in
theorem okX8_fall : MdOk mX8_fall := ⟨tq1 208 rfl rfl, ⟨by decide, by decide⟩, tq1 1 rfl rfl⟩
theorem npX8_fall : npar mX8_fall 1 := by unfold npar; decide +kernel
set_option maxRecDepth 20000 in
theorem okX8_fallen : MdOk mX8_fallen := ⟨tq1 212 rfl rfl, ⟨by decide, by decide⟩, tq1 1 rfl rfl⟩
theorem npX8_fallen : npar mX8_fallen 1 := by unfold npar; decide +kernel
set_option maxRecDepth 20000 in
theorem okX8_draw : MdOk mX8_draw := ⟨tq1 216 rfl rfl, ⟨by decide, by decide⟩, tq1 1 rfl rfl⟩
theorem npX8_draw : npar mX8_draw 0 := by unfold npar; decide +kernel
set_option maxRecDepth 20000 in
theorem okX8_sale : MdOk mX8_sale := ⟨tq1 232 rfl rfl, ⟨by decide, by decide⟩, tq1 1 rfl rfl⟩
theorem npX8_sale : npar mX8_sale 5 := by unfold npar; decide +kernel
set_option maxRecDepth 20000 in
theorem okX8_swap : MdOk mX8_swap := ⟨tq2 96 rfl rfl, ⟨by decide, by decide⟩, tq1 1 rfl rfl⟩
theorem npX8_swap : npar mX8_swap 5 := by unfold npar; decide +kernel
set_option maxRecDepth 20000 in
theorem okX8_text : MdOk mX8_text := ⟨tq2 100 rfl rfl, ⟨by decide, by decide⟩, tq1 1 rfl rfl⟩
theorem npX8_text : npar mX8_text 0 := by unfold npar; decide +kernel
set_option maxRecDepth 20000 in
theorem okX8_of : MdOk mX8_of := ⟨tq3 40 rfl rfl, ⟨by decide, by decide⟩, tq1 1 rfl rfl⟩
theorem npX8_of : npar mX8_of 2 := by unfold npar; decide +kernel
set_option maxRecDepth 20000 in
theorem okX8_holds : MdOk mX8_holds := ⟨tq3 48 rfl rfl, ⟨by decide, by decide⟩, tq1 1 rfl rfl⟩
theorem npX8_holds : npar mX8_holds 2 := by unfold npar; decide +kernel
set_option maxRecDepth 20000 in
theorem okX8_conveys : MdOk mX8_conveys := ⟨tq3 56 rfl rfl, ⟨by decide, by decide⟩, tq1 1 rfl rfl⟩
theorem npX8_conveys : npar mX8_conveys 3 := by unfold npar; decide +kernel
set_option maxRecDepth 20000 in
theorem okX8_drop : MdOk mX8_drop := ⟨tq3 60 rfl rfl, ⟨by decide, by decide⟩, tq1 1 rfl rfl⟩
theorem npX8_drop : npar mX8_drop 0 := by unfold npar; decide +kernel
set_option maxRecDepth 20000 in
theorem okX8_prune : MdOk mX8_prune := ⟨tq3 64 rfl rfl, ⟨by decide, by decide⟩, tq1 1 rfl rfl⟩
theorem npX8_prune : npar mX8_prune 0 := by unfold npar; decide +kernel
set_option maxRecDepth 20000 in
theorem okX8_clash : MdOk mX8_clash := ⟨tq3 68 rfl rfl, ⟨by decide, by decide⟩, tq1 1 rfl rfl⟩
theorem npX8_clash : npar mX8_clash 1 := by unfold npar; decide +kernel
set_option maxRecDepth 20000 in
theorem okX8_owner : MdOk mX8_owner := ⟨tq3 72 rfl rfl, ⟨by decide, by decide⟩, tq1 1 rfl rfl⟩
theorem npX8_owner : npar mX8_owner 2 := by unfold npar; decide +kernel
set_option maxRecDepth 20000 in
theorem okX8_chain : MdOk mX8_chain := ⟨tq3 85 rfl rfl, ⟨by decide, by decide⟩, tq1 1 rfl rfl⟩
theorem npX8_chain : npar mX8_chain 3 := by unfold npar; decide +kernel
set_option maxRecDepth 20000 in
theorem okX8_hand : MdOk mX8_hand := ⟨tq3 90 rfl rfl, ⟨by decide, by decide⟩, tq1 1 rfl rfl⟩
theorem npX8_hand : npar mX8_hand 2 := by unfold npar; decide +kernel
set_option maxRecDepth 20000 in
theorem okX8_owners : MdOk mX8_owners := ⟨tq3 94 rfl rfl, ⟨by decide, by decide⟩, tq1 1 rfl rfl⟩
theorem npX8_owners : npar mX8_owners 1 := by unfold npar; decide +kernel
set_option maxRecDepth 20000 in
theorem okX8_sure : MdOk mX8_sure := ⟨tq3 102 rfl rfl, ⟨by decide, by decide⟩, tq1 1 rfl rfl⟩
theorem npX8_sure : npar mX8_sure 1 := by unfold npar; decide +kernel
set_option maxRecDepth 20000 in
theorem okX8_chance : MdOk mX8_chance := ⟨tq3 106 rfl rfl, ⟨by decide, by decide⟩, tq1 1 rfl rfl⟩
theorem npX8_chance : npar mX8_chance 2 := by unfold npar; decide +kernel
set_option maxRecDepth 20000 in
theorem okX8_least : MdOk mX8_least := ⟨tq3 110 rfl rfl, ⟨by decide, by decide⟩, tq1 1 rfl rfl⟩
theorem npX8_least : npar mX8_least 2 := by unfold npar; decide +kernel
set_option maxRecDepth 20000 in
theorem okX8_price : MdOk mX8_price := ⟨tq3 114 rfl rfl, ⟨by decide, by decide⟩, tq1 1 rfl rfl⟩
theorem npX8_price : npar mX8_price 2 := by unfold npar; decide +kernel
set_option maxRecDepth 20000 in
theorem okX8_worth : MdOk mX8_worth := ⟨tq3 118 rfl rfl, ⟨by decide, by decide⟩, tq1 1 rfl rfl⟩
theorem npX8_worth : npar mX8_worth 2 := by unfold npar; decide +kernel
set_option maxRecDepth 20000 in
theorem okX8_value : MdOk mX8_value := ⟨tq3 126 rfl rfl, ⟨by decide, by decide⟩, tq1 1 rfl rfl⟩
theorem npX8_value : npar mX8_value 1 := by unfold npar; decide +kernel
set_option maxRecDepth 20000 in
theorem okX8_best : MdOk mX8_best := ⟨tq3 139 rfl rfl, ⟨by decide, by decide⟩, tq1 1 rfl rfl⟩
theorem npX8_best : npar mX8_best 2 := by unfold npar; decide +kernel
set_option maxRecDepth 20000 in
theorem okX8_hope : MdOk mX8_hope := ⟨tq3 143 rfl rfl, ⟨by decide, by decide⟩, tq1 1 rfl rfl⟩
theorem npX8_hope : npar mX8_hope 1 := by unfold npar; decide +kernel
set_option maxRecDepth 20000 in
theorem okX8_rounds : MdOk mX8_rounds := ⟨tq3 148 rfl rfl, ⟨by decide, by decide⟩, tq1 1 rfl rfl⟩
theorem npX8_rounds : npar mX8_rounds 2 := by unfold npar; decide +kernel
set_option maxRecDepth 20000 in
theorem okX8_lays : MdOk mX8_lays := ⟨tq3 193 rfl rfl, ⟨by decide, by decide⟩, tq1 1 rfl rfl⟩
theorem npX8_lays : npar mX8_lays 2 := by unfold npar; decide +kernel
set_option maxRecDepth 20000 in
theorem okX8_judge : MdOk mX8_judge := ⟨tq3 202 rfl rfl, ⟨by decide, by decide⟩, tq1 1 rfl rfl⟩
theorem npX8_judge : npar mX8_judge 2 := by unfold npar; decide +kernel
set_option maxRecDepth 20000 in
theorem okX8_feed : MdOk mX8_feed := ⟨tq3 206 rfl rfl, ⟨by decide, by decide⟩, tq1 1 rfl rfl⟩
theorem npX8_feed : npar mX8_feed 2 := by unfold npar; decide +kernel
set_option maxRecDepth 20000 in
theorem okX8_wipe : MdOk mX8_wipe := ⟨tq3 214 rfl rfl, ⟨by decide, by decide⟩, tq1 1 rfl rfl⟩
theorem npX8_wipe : npar mX8_wipe 0 := by unfold npar; decide +kernel
set_option maxRecDepth 20000 in
theorem okX8_sheet : MdOk mX8_sheet := ⟨tq3 218 rfl rfl, ⟨by decide, by decide⟩, tq1 1 rfl rfl⟩
theorem npX8_sheet : npar mX8_sheet 3 := by unfold npar; decide +kernel
set_option maxRecDepth 20000 in
theorem okX8_write : MdOk mX8_write := ⟨tq3 226 rfl rfl, ⟨by decide, by decide⟩, tq1 1 rfl rfl⟩
theorem npX8_write : npar mX8_write 3 := by unfold npar; decide +kernel
set_option maxRecDepth 20000 in
theorem okX8_item : MdOk mX8_item := ⟨tq3 230 rfl rfl, ⟨by decide, by decide⟩, tq1 1 rfl rfl⟩
theorem npX8_item : npar mX8_item 2 := by unfold npar; decide +kernel
set_option maxRecDepth 20000 in
theorem okX8_copy : MdOk mX8_copy := ⟨tq3 234 rfl rfl, ⟨by decide, by decide⟩, tq1 1 rfl rfl⟩
theorem npX8_copy : npar mX8_copy 5 := by unfold npar; decide +kernel
set_option maxRecDepth 20000 in
theorem okX8_hold : MdOk mX8_hold := ⟨tq4 5 rfl rfl, ⟨by decide, by decide⟩, tq1 1 rfl rfl⟩
theorem npX8_hold : npar mX8_hold 2 := by unfold npar; decide +kernel
set_option maxRecDepth 20000 in
theorem okX8_taken : MdOk mX8_taken := ⟨tq4 9 rfl rfl, ⟨by decide, by decide⟩, tq1 1 rfl rfl⟩
theorem npX8_taken : npar mX8_taken 2 := by unfold npar; decide +kernel
set_option maxRecDepth 20000 in
theorem okX8_image : MdOk mX8_image := ⟨tq4 22 rfl rfl, ⟨by decide, by decide⟩, tq1 1 rfl rfl⟩
theorem npX8_image : npar mX8_image 0 := by unfold npar; decide +kernel
set_option maxRecDepth 20000 in
theorem okX8_back : MdOk mX8_back := ⟨tq4 31 rfl rfl, ⟨by decide, by decide⟩, tq1 1 rfl rfl⟩
theorem npX8_back : npar mX8_back 0 := by unfold npar; decide +kernel
set_option maxRecDepth 20000 in
theorem okX8_seed : MdOk mX8_seed := ⟨tq4 35 rfl rfl, ⟨by decide, by decide⟩, tq1 1 rfl rfl⟩
theorem npX8_seed : npar mX8_seed 1 := by unfold npar; decide +kernel
set_option maxRecDepth 20000 in
theorem okX8_count : MdOk mX8_count := ⟨tq4 39 rfl rfl, ⟨by decide, by decide⟩, tq1 1 rfl rfl⟩
theorem npX8_count : npar mX8_count 1 := by unfold npar; decide +kernel
set_option maxRecDepth 20000 in
theorem okX8_status : MdOk mX8_status := ⟨tq4 47 rfl rfl, ⟨by decide, by decide⟩, tq1 1 rfl rfl⟩
theorem npX8_status : npar mX8_status 1 := by unfold npar; decide +kernel
set_option maxRecDepth 20000 in
theorem okX8_isOutside : MdOk mX8_isOutside := ⟨tq1 186 rfl rfl, ⟨by decide, by decide⟩, tq1 1 rfl rfl⟩
theorem npX8_isOutside : npar mX8_isOutside 2 := by unfold npar; decide +kernel
set_option maxRecDepth 20000 in
theorem okX8_areNoPair : MdOk mX8_areNoPair := ⟨tq1 235 rfl rfl, ⟨by decide, by decide⟩, tq1 1 rfl rfl⟩
theorem npX8_areNoPair : npar mX8_areNoPair 2 := by unfold npar; decide +kernel
set_option maxRecDepth 20000 in
theorem okX8_placeUnder : MdOk mX8_placeUnder := ⟨tq1 200 rfl rfl, ⟨by decide, by decide⟩, tq1 1 rfl rfl⟩
theorem npX8_placeUnder : npar mX8_placeUnder 2 := by unfold npar; decide +kernel
set_option maxRecDepth 20000 in
theorem okX8_isUnder : MdOk mX8_isUnder := ⟨tq4 12 rfl rfl, ⟨by decide, by decide⟩, tq1 1 rfl rfl⟩
theorem npX8_isUnder : npar mX8_isUnder 2 := by unfold npar; decide +kernel
set_option maxRecDepth 20000 in
theorem okX8_finding : MdOk mX8_finding := ⟨tq1 190 rfl rfl, ⟨by decide, by decide⟩, tq1 1 rfl rfl⟩
theorem npX8_finding : npar mX8_finding 1 := by unfold npar; decide +kernel
set_option maxRecDepth 20000 in
theorem okX8_longFinding : MdOk mX8_longFinding := ⟨tq3 130 rfl rfl, ⟨by decide, by decide⟩, tq1 1 rfl rfl⟩
theorem npX8_longFinding : npar mX8_longFinding 1 := by unfold npar; decide +kernel
set_option maxRecDepth 20000 in
theorem okX8_enter : MdOk mX8_enter := ⟨tq2 38 rfl rfl, ⟨by decide, by decide⟩, tq1 1 rfl rfl⟩
theorem npX8_enter : npar mX8_enter 1 := by unfold npar; decide +kernel
set_option maxRecDepth 20000 in
theorem okX8_takes : MdOk mX8_takes := ⟨tq2 42 rfl rfl, ⟨by decide, by decide⟩, tq1 1 rfl rfl⟩
theorem npX8_takes : npar mX8_takes 1 := by unfold npar; decide +kernel
set_option maxRecDepth 20000 in
theorem okX8_clashesUnder : MdOk mX8_clashesUnder := ⟨tq2 52 rfl rfl, ⟨by decide, by decide⟩, tq1 1 rfl rfl⟩
theorem npX8_clashesUnder : npar mX8_clashesUnder 2 := by unfold npar; decide +kernel
set_option maxRecDepth 20000 in
theorem okX8_settleAll : MdOk mX8_settleAll := ⟨tq3 35 rfl rfl, ⟨by decide, by decide⟩, tq1 1 rfl rfl⟩
theorem npX8_settleAll : npar mX8_settleAll 0 := by unfold npar; decide +kernel
set_option maxRecDepth 20000 in
theorem okX8_countConveying : MdOk mX8_countConveying := ⟨tq3 44 rfl rfl, ⟨by decide, by decide⟩, tq1 1 rfl rfl⟩
theorem npX8_countConveying : npar mX8_countConveying 1 := by unfold npar; decide +kernel
set_option maxRecDepth 20000 in
theorem okX8_everOwners : MdOk mX8_everOwners := ⟨tq3 98 rfl rfl, ⟨by decide, by decide⟩, tq1 1 rfl rfl⟩
theorem npX8_everOwners : npar mX8_everOwners 1 := by unfold npar; decide +kernel
set_option maxRecDepth 20000 in
theorem okX8_worthUnder : MdOk mX8_worthUnder := ⟨tq3 122 rfl rfl, ⟨by decide, by decide⟩, tq1 1 rfl rfl⟩
theorem npX8_worthUnder : npar mX8_worthUnder 2 := by unfold npar; decide +kernel
set_option maxRecDepth 20000 in
theorem okX8_worthOver : MdOk mX8_worthOver := ⟨tq3 135 rfl rfl, ⟨by decide, by decide⟩, tq1 1 rfl rfl⟩
theorem npX8_worthOver : npar mX8_worthOver 3 := by unfold npar; decide +kernel
set_option maxRecDepth 20000 in
theorem okX8_tellsEachDeal : MdOk mX8_tellsEachDeal := ⟨tq3 156 rfl rfl, ⟨by decide, by decide⟩, tq1 1 rfl rfl⟩
theorem npX8_tellsEachDeal : npar mX8_tellsEachDeal 1 := by unfold npar; decide +kernel
set_option maxRecDepth 20000 in
theorem okX8_countRounds : MdOk mX8_countRounds := ⟨tq3 160 rfl rfl, ⟨by decide, by decide⟩, tq1 1 rfl rfl⟩
theorem npX8_countRounds : npar mX8_countRounds 2 := by unfold npar; decide +kernel
set_option maxRecDepth 20000 in
theorem okX8_goesOver : MdOk mX8_goesOver := ⟨tq3 183 rfl rfl, ⟨by decide, by decide⟩, tq1 1 rfl rfl⟩
theorem npX8_goesOver : npar mX8_goesOver 2 := by unfold npar; decide +kernel
set_option maxRecDepth 20000 in
theorem okX8_countHeld : MdOk mX8_countHeld := ⟨tq4 43 rfl rfl, ⟨by decide, by decide⟩, tq1 1 rfl rfl⟩
theorem npX8_countHeld : npar mX8_countHeld 0 := by unfold npar; decide +kernel
set_option maxRecDepth 20000 in
theorem okX9_init : MdOk mX9_init := ⟨tq4 52 rfl rfl, ⟨by decide, by decide⟩, tq1 8 rfl rfl⟩
theorem npX9_init : npar mX9_init 0 := by unfold npar; decide +kernel
set_option maxRecDepth 20000 in
theorem okX9_in : MdOk mX9_in := ⟨tq4 180 rfl rfl, ⟨by decide, by decide⟩, tq1 8 rfl rfl⟩
theorem npX9_in : npar mX9_in 3 := by unfold npar; decide +kernel
set_option maxRecDepth 20000 in
theorem okX9_finds : MdOk mX9_finds := ⟨tq4 188 rfl rfl, ⟨by decide, by decide⟩, tq1 8 rfl rfl⟩
theorem npX9_finds : npar mX9_finds 1 := by unfold npar; decide +kernel
set_option maxRecDepth 20000 in
theorem okX9_findsFar : MdOk mX9_findsFar := ⟨tq5 170 rfl rfl, ⟨by decide, by decide⟩, tq1 8 rfl rfl⟩
theorem npX9_findsFar : npar mX9_findsFar 1 := by unfold npar; decide +kernel
set_option maxRecDepth 20000 in
theorem okX9_clubAt : MdOk mX9_clubAt := ⟨tq4 184 rfl rfl, ⟨by decide, by decide⟩, tq1 8 rfl rfl⟩
theorem npX9_clubAt : npar mX9_clubAt 2 := by unfold npar; decide +kernel
set_option maxRecDepth 20000 in
theorem okX9_orderIn : MdOk mX9_orderIn := ⟨tq4 210 rfl rfl, ⟨by decide, by decide⟩, tq1 8 rfl rfl⟩
theorem npX9_orderIn : npar mX9_orderIn 2 := by unfold npar; decide +kernel
set_option maxRecDepth 20000 in
theorem okX9_placeIn : MdOk mX9_placeIn := ⟨tq4 207 rfl rfl, ⟨by decide, by decide⟩, tq1 8 rfl rfl⟩
theorem npX9_placeIn : npar mX9_placeIn 3 := by unfold npar; decide +kernel
set_option maxRecDepth 20000 in
theorem okX9_placeOf : MdOk mX9_placeOf := ⟨tq4 204 rfl rfl, ⟨by decide, by decide⟩, tq1 8 rfl rfl⟩
theorem npX9_placeOf : npar mX9_placeOf 2 := by unfold npar; decide +kernel
set_option maxRecDepth 20000 in
theorem okX9_isStanding : MdOk mX9_isStanding := ⟨tq4 196 rfl rfl, ⟨by decide, by decide⟩, tq1 8 rfl rfl⟩
theorem npX9_isStanding : npar mX9_isStanding 1 := by unfold npar; decide +kernel
set_option maxRecDepth 20000 in
theorem okX9_isPick : MdOk mX9_isPick := ⟨tq4 200 rfl rfl, ⟨by decide, by decide⟩, tq1 8 rfl rfl⟩
theorem npX9_isPick : npar mX9_isPick 1 := by unfold npar; decide +kernel
set_option maxRecDepth 20000 in
theorem okX9_isClub : MdOk mX9_isClub := ⟨tq5 2 rfl rfl, ⟨by decide, by decide⟩, tq1 8 rfl rfl⟩
theorem npX9_isClub : npar mX9_isClub 1 := by unfold npar; decide +kernel
set_option maxRecDepth 20000 in
theorem okX9_openFrom : MdOk mX9_openFrom := ⟨tq4 228 rfl rfl, ⟨by decide, by decide⟩, tq1 8 rfl rfl⟩
theorem npX9_openFrom : npar mX9_openFrom 0 := by unfold npar; decide +kernel
set_option maxRecDepth 20000 in
theorem okX9_openMany : MdOk mX9_openMany := ⟨tq4 232 rfl rfl, ⟨by decide, by decide⟩, tq1 8 rfl rfl⟩
theorem npX9_openMany : npar mX9_openMany 0 := by unfold npar; decide +kernel
set_option maxRecDepth 20000 in
theorem okX9_isOpen : MdOk mX9_isOpen := ⟨tq5 109 rfl rfl, ⟨by decide, by decide⟩, tq1 8 rfl rfl⟩
theorem npX9_isOpen : npar mX9_isOpen 1 := by unfold npar; decide +kernel
set_option maxRecDepth 20000 in
theorem okX9_order : MdOk mX9_order := ⟨tq4 176 rfl rfl, ⟨by decide, by decide⟩, tq1 8 rfl rfl⟩
theorem npX9_order : npar mX9_order 2 := by unfold npar; decide +kernel
set_option maxRecDepth 20000 in
theorem okX9_place : MdOk mX9_place := ⟨tq4 193 rfl rfl, ⟨by decide, by decide⟩, tq1 8 rfl rfl⟩
theorem npX9_place : npar mX9_place 2 := by unfold npar; decide +kernel
set_option maxRecDepth 20000 in
theorem okX9_fall : MdOk mX9_fall := ⟨tq4 214 rfl rfl, ⟨by decide, by decide⟩, tq1 8 rfl rfl⟩
theorem npX9_fall : npar mX9_fall 1 := by unfold npar; decide +kernel
set_option maxRecDepth 20000 in
theorem okX9_fallen : MdOk mX9_fallen := ⟨tq4 218 rfl rfl, ⟨by decide, by decide⟩, tq1 8 rfl rfl⟩
theorem npX9_fallen : npar mX9_fallen 1 := by unfold npar; decide +kernel
set_option maxRecDepth 20000 in
theorem okX9_draw : MdOk mX9_draw := ⟨tq4 223 rfl rfl, ⟨by decide, by decide⟩, tq1 8 rfl rfl⟩
theorem npX9_draw : npar mX9_draw 0 := by unfold npar; decide +kernel
set_option maxRecDepth 20000 in
theorem okX9_its : MdOk mX9_its := ⟨tq5 38 rfl rfl, ⟨by decide, by decide⟩, tq1 8 rfl rfl⟩
theorem npX9_its : npar mX9_its 2 := by unfold npar; decide +kernel
set_option maxRecDepth 20000 in
theorem okX9_isHolding : MdOk mX9_isHolding := ⟨tq5 30 rfl rfl, ⟨by decide, by decide⟩, tq1 8 rfl rfl⟩
theorem npX9_isHolding : npar mX9_isHolding 2 := by unfold npar; decide +kernel
set_option maxRecDepth 20000 in
theorem okX9_goesOn : MdOk mX9_goesOn := ⟨tq5 34 rfl rfl, ⟨by decide, by decide⟩, tq1 8 rfl rfl⟩
theorem npX9_goesOn : npar mX9_goesOn 2 := by unfold npar; decide +kernel
set_option maxRecDepth 20000 in
theorem okX9_rolled : MdOk mX9_rolled := ⟨tq5 41 rfl rfl, ⟨by decide, by decide⟩, tq1 8 rfl rfl⟩
theorem npX9_rolled : npar mX9_rolled 3 := by unfold npar; decide +kernel
set_option maxRecDepth 20000 in
theorem okX9_conveyed : MdOk mX9_conveyed := ⟨tq5 26 rfl rfl, ⟨by decide, by decide⟩, tq1 8 rfl rfl⟩
theorem npX9_conveyed : npar mX9_conveyed 3 := by unfold npar; decide +kernel
set_option maxRecDepth 20000 in
theorem okX9_isLapsing : MdOk mX9_isLapsing := ⟨tq5 77 rfl rfl, ⟨by decide, by decide⟩, tq1 8 rfl rfl⟩
theorem npX9_isLapsing : npar mX9_isLapsing 2 := by unfold npar; decide +kernel
set_option maxRecDepth 20000 in
theorem okX9_laysOut : MdOk mX9_laysOut := ⟨tq5 22 rfl rfl, ⟨by decide, by decide⟩, tq1 8 rfl rfl⟩
theorem npX9_laysOut : npar mX9_laysOut 1 := by unfold npar; decide +kernel
set_option maxRecDepth 20000 in
theorem okX9_goesTo : MdOk mX9_goesTo := ⟨tq5 49 rfl rfl, ⟨by decide, by decide⟩, tq1 8 rfl rfl⟩
theorem npX9_goesTo : npar mX9_goesTo 2 := by unfold npar; decide +kernel
set_option maxRecDepth 20000 in
theorem okX9_chains : MdOk mX9_chains := ⟨tq5 53 rfl rfl, ⟨by decide, by decide⟩, tq1 8 rfl rfl⟩
theorem npX9_chains : npar mX9_chains 1 := by unfold npar; decide +kernel
set_option maxRecDepth 20000 in
theorem okX9_clashOf : MdOk mX9_clashOf := ⟨tq5 45 rfl rfl, ⟨by decide, by decide⟩, tq1 8 rfl rfl⟩
theorem npX9_clashOf : npar mX9_clashOf 1 := by unfold npar; decide +kernel
set_option maxRecDepth 20000 in
theorem okX9_isClashing : MdOk mX9_isClashing := ⟨tq5 18 rfl rfl, ⟨by decide, by decide⟩, tq1 8 rfl rfl⟩
theorem npX9_isClashing : npar mX9_isClashing 0 := by unfold npar; decide +kernel
set_option maxRecDepth 20000 in
theorem okX9_lays : MdOk mX9_lays := ⟨tq5 14 rfl rfl, ⟨by decide, by decide⟩, tq1 8 rfl rfl⟩
theorem npX9_lays : npar mX9_lays 7 := by unfold npar; decide +kernel
set_option maxRecDepth 20000 in
theorem okX9_holdsAlways : MdOk mX9_holdsAlways := ⟨tq5 10 rfl rfl, ⟨by decide, by decide⟩, tq1 8 rfl rfl⟩
theorem npX9_holdsAlways : npar mX9_holdsAlways 0 := by unfold npar; decide +kernel
set_option maxRecDepth 20000 in
theorem okX9_comes : MdOk mX9_comes := ⟨tq5 6 rfl rfl, ⟨by decide, by decide⟩, tq1 8 rfl rfl⟩
theorem npX9_comes : npar mX9_comes 6 := by unfold npar; decide +kernel
set_option maxRecDepth 20000 in
theorem okX9_areTwo : MdOk mX9_areTwo := ⟨tq4 239 rfl rfl, ⟨by decide, by decide⟩, tq1 8 rfl rfl⟩
theorem npX9_areTwo : npar mX9_areTwo 2 := by unfold npar; decide +kernel
set_option maxRecDepth 20000 in
theorem okX9_sale : MdOk mX9_sale := ⟨tq4 236 rfl rfl, ⟨by decide, by decide⟩, tq1 8 rfl rfl⟩
theorem npX9_sale : npar mX9_sale 5 := by unfold npar; decide +kernel
set_option maxRecDepth 20000 in
theorem okX9_areOfYear : MdOk mX9_areOfYear := ⟨tq5 60 rfl rfl, ⟨by decide, by decide⟩, tq1 8 rfl rfl⟩
theorem npX9_areOfYear : npar mX9_areOfYear 2 := by unfold npar; decide +kernel
set_option maxRecDepth 20000 in
theorem okX9_swap : MdOk mX9_swap := ⟨tq5 57 rfl rfl, ⟨by decide, by decide⟩, tq1 8 rfl rfl⟩
theorem npX9_swap : npar mX9_swap 5 := by unfold npar; decide +kernel
set_option maxRecDepth 20000 in
theorem okX9_isDeal : MdOk mX9_isDeal := ⟨tq5 68 rfl rfl, ⟨by decide, by decide⟩, tq1 8 rfl rfl⟩
theorem npX9_isDeal : npar mX9_isDeal 1 := by unfold npar; decide +kernel
set_option maxRecDepth 20000 in
theorem okX9_standing : MdOk mX9_standing := ⟨tq5 73 rfl rfl, ⟨by decide, by decide⟩, tq1 8 rfl rfl⟩
theorem npX9_standing : npar mX9_standing 1 := by unfold npar; decide +kernel
set_option maxRecDepth 20000 in
theorem okX9_of : MdOk mX9_of := ⟨tq5 64 rfl rfl, ⟨by decide, by decide⟩, tq1 8 rfl rfl⟩
theorem npX9_of : npar mX9_of 2 := by unfold npar; decide +kernel
set_option maxRecDepth 20000 in
theorem okX9_holds : MdOk mX9_holds := ⟨tq5 81 rfl rfl, ⟨by decide, by decide⟩, tq1 8 rfl rfl⟩
theorem npX9_holds : npar mX9_holds 2 := by unfold npar; decide +kernel
set_option maxRecDepth 20000 in
theorem okX9_conveys : MdOk mX9_conveys := ⟨tq5 85 rfl rfl, ⟨by decide, by decide⟩, tq1 8 rfl rfl⟩
theorem npX9_conveys : npar mX9_conveys 3 := by unfold npar; decide +kernel
set_option maxRecDepth 20000 in
theorem okX9_drop : MdOk mX9_drop := ⟨tq5 89 rfl rfl, ⟨by decide, by decide⟩, tq1 8 rfl rfl⟩
theorem npX9_drop : npar mX9_drop 0 := by unfold npar; decide +kernel
set_option maxRecDepth 20000 in
theorem okX9_moves : MdOk mX9_moves := ⟨tq5 97 rfl rfl, ⟨by decide, by decide⟩, tq1 8 rfl rfl⟩
theorem npX9_moves : npar mX9_moves 2 := by unfold npar; decide +kernel
set_option maxRecDepth 20000 in
theorem okX9_prune : MdOk mX9_prune := ⟨tq5 93 rfl rfl, ⟨by decide, by decide⟩, tq1 8 rfl rfl⟩
theorem npX9_prune : npar mX9_prune 0 := by unfold npar; decide +kernel
set_option maxRecDepth 20000 in
theorem okX9_clash : MdOk mX9_clash := ⟨tq5 101 rfl rfl, ⟨by decide, by decide⟩, tq1 8 rfl rfl⟩
theorem npX9_clash : npar mX9_clash 1 := by unfold npar; decide +kernel
set_option maxRecDepth 20000 in
theorem okX9_ownerOf : MdOk mX9_ownerOf := ⟨tq5 117 rfl rfl, ⟨by decide, by decide⟩, tq1 8 rfl rfl⟩
theorem npX9_ownerOf : npar mX9_ownerOf 1 := by unfold npar; decide +kernel
set_option maxRecDepth 20000 in
theorem okX9_ownerUnder : MdOk mX9_ownerUnder := ⟨tq5 113 rfl rfl, ⟨by decide, by decide⟩, tq1 8 rfl rfl⟩
theorem npX9_ownerUnder : npar mX9_ownerUnder 2 := by unfold npar; decide +kernel
set_option maxRecDepth 20000 in
theorem okX9_owner : MdOk mX9_owner := ⟨tq5 105 rfl rfl, ⟨by decide, by decide⟩, tq1 8 rfl rfl⟩
theorem npX9_owner : npar mX9_owner 2 := by unfold npar; decide +kernel
set_option maxRecDepth 20000 in
theorem okX9_chain : MdOk mX9_chain := ⟨tq5 121 rfl rfl, ⟨by decide, by decide⟩, tq1 8 rfl rfl⟩
theorem npX9_chain : npar mX9_chain 3 := by unfold npar; decide +kernel
set_option maxRecDepth 20000 in
theorem okX9_hand : MdOk mX9_hand := ⟨tq5 125 rfl rfl, ⟨by decide, by decide⟩, tq1 8 rfl rfl⟩
theorem npX9_hand : npar mX9_hand 2 := by unfold npar; decide +kernel
set_option maxRecDepth 20000 in
theorem okX9_chanceOf : MdOk mX9_chanceOf := ⟨tq5 133 rfl rfl, ⟨by decide, by decide⟩, tq1 8 rfl rfl⟩
theorem npX9_chanceOf : npar mX9_chanceOf 2 := by unfold npar; decide +kernel
set_option maxRecDepth 20000 in
theorem okX9_owners : MdOk mX9_owners := ⟨tq5 129 rfl rfl, ⟨by decide, by decide⟩, tq1 8 rfl rfl⟩
theorem npX9_owners : npar mX9_owners 1 := by unfold npar; decide +kernel
set_option maxRecDepth 20000 in
theorem okX9_sure : MdOk mX9_sure := ⟨tq5 137 rfl rfl, ⟨by decide, by decide⟩, tq1 8 rfl rfl⟩
theorem npX9_sure : npar mX9_sure 1 := by unfold npar; decide +kernel
set_option maxRecDepth 20000 in
theorem okX9_chance : MdOk mX9_chance := ⟨tq5 141 rfl rfl, ⟨by decide, by decide⟩, tq1 8 rfl rfl⟩
theorem npX9_chance : npar mX9_chance 2 := by unfold npar; decide +kernel
set_option maxRecDepth 20000 in
theorem okX9_least : MdOk mX9_least := ⟨tq5 145 rfl rfl, ⟨by decide, by decide⟩, tq1 8 rfl rfl⟩
theorem npX9_least : npar mX9_least 2 := by unfold npar; decide +kernel
set_option maxRecDepth 20000 in
theorem okX9_price : MdOk mX9_price := ⟨tq5 149 rfl rfl, ⟨by decide, by decide⟩, tq1 8 rfl rfl⟩
theorem npX9_price : npar mX9_price 2 := by unfold npar; decide +kernel
set_option maxRecDepth 20000 in
theorem okX9_worthOf : MdOk mX9_worthOf := ⟨tq5 158 rfl rfl, ⟨by decide, by decide⟩, tq1 8 rfl rfl⟩
theorem npX9_worthOf : npar mX9_worthOf 2 := by unfold npar; decide +kernel
set_option maxRecDepth 20000 in
theorem okX9_worth : MdOk mX9_worth := ⟨tq5 154 rfl rfl, ⟨by decide, by decide⟩, tq1 8 rfl rfl⟩
theorem npX9_worth : npar mX9_worth 2 := by unfold npar; decide +kernel
set_option maxRecDepth 20000 in
theorem okX9_valueFrom : MdOk mX9_valueFrom := ⟨tq5 166 rfl rfl, ⟨by decide, by decide⟩, tq1 8 rfl rfl⟩
theorem npX9_valueFrom : npar mX9_valueFrom 3 := by unfold npar; decide +kernel
set_option maxRecDepth 20000 in
theorem okX9_value : MdOk mX9_value := ⟨tq5 162 rfl rfl, ⟨by decide, by decide⟩, tq1 8 rfl rfl⟩
theorem npX9_value : npar mX9_value 1 := by unfold npar; decide +kernel
set_option maxRecDepth 20000 in
theorem okX9_best : MdOk mX9_best := ⟨tq5 175 rfl rfl, ⟨by decide, by decide⟩, tq1 8 rfl rfl⟩
theorem npX9_best : npar mX9_best 2 := by unfold npar; decide +kernel
set_option maxRecDepth 20000 in
theorem okX9_hope : MdOk mX9_hope := ⟨tq5 179 rfl rfl, ⟨by decide, by decide⟩, tq1 8 rfl rfl⟩
theorem npX9_hope : npar mX9_hope 1 := by unfold npar; decide +kernel
set_option maxRecDepth 20000 in
theorem okX9_feed : MdOk mX9_feed := ⟨tq5 184 rfl rfl, ⟨by decide, by decide⟩, tq1 8 rfl rfl⟩
theorem npX9_feed : npar mX9_feed 2 := by unfold npar; decide +kernel
set_option maxRecDepth 20000 in
theorem okX9_wipe : MdOk mX9_wipe := ⟨tq5 189 rfl rfl, ⟨by decide, by decide⟩, tq1 8 rfl rfl⟩
theorem npX9_wipe : npar mX9_wipe 0 := by unfold npar; decide +kernel
set_option maxRecDepth 20000 in
theorem okX9_byteAt : MdOk mX9_byteAt := ⟨tq5 205 rfl rfl, ⟨by decide, by decide⟩, tq1 8 rfl rfl⟩
theorem npX9_byteAt : npar mX9_byteAt 1 := by unfold npar; decide +kernel
set_option maxRecDepth 20000 in
theorem okX9_isLetter : MdOk mX9_isLetter := ⟨tq5 208 rfl rfl, ⟨by decide, by decide⟩, tq1 8 rfl rfl⟩
theorem npX9_isLetter : npar mX9_isLetter 1 := by unfold npar; decide +kernel
set_option maxRecDepth 20000 in
theorem okX9_isDigit : MdOk mX9_isDigit := ⟨tq5 213 rfl rfl, ⟨by decide, by decide⟩, tq1 8 rfl rfl⟩
theorem npX9_isDigit : npar mX9_isDigit 1 := by unfold npar; decide +kernel
set_option maxRecDepth 20000 in
theorem okX9_token : MdOk mX9_token := ⟨tq5 201 rfl rfl, ⟨by decide, by decide⟩, tq1 8 rfl rfl⟩
theorem npX9_token : npar mX9_token 0 := by unfold npar; decide +kernel
set_option maxRecDepth 20000 in
theorem okX9_must : MdOk mX9_must := ⟨tq5 227 rfl rfl, ⟨by decide, by decide⟩, tq1 8 rfl rfl⟩
theorem npX9_must : npar mX9_must 1 := by unfold npar; decide +kernel
set_option maxRecDepth 20000 in
theorem okX9_isWord : MdOk mX9_isWord := ⟨tq5 223 rfl rfl, ⟨by decide, by decide⟩, tq1 8 rfl rfl⟩
theorem npX9_isWord : npar mX9_isWord 1 := by unfold npar; decide +kernel
set_option maxRecDepth 20000 in
theorem okX9_takes : MdOk mX9_takes := ⟨tq5 239 rfl rfl, ⟨by decide, by decide⟩, tq1 8 rfl rfl⟩
theorem npX9_takes : npar mX9_takes 1 := by unfold npar; decide +kernel
set_option maxRecDepth 20000 in
theorem okX9_isSign : MdOk mX9_isSign := ⟨tq6 15 rfl rfl, ⟨by decide, by decide⟩, tq1 8 rfl rfl⟩
theorem npX9_isSign : npar mX9_isSign 1 := by unfold npar; decide +kernel
set_option maxRecDepth 20000 in
theorem okX9_numberHere : MdOk mX9_numberHere := ⟨tq5 235 rfl rfl, ⟨by decide, by decide⟩, tq1 8 rfl rfl⟩
theorem npX9_numberHere : npar mX9_numberHere 0 := by unfold npar; decide +kernel
set_option maxRecDepth 20000 in
theorem okX9_number : MdOk mX9_number := ⟨tq5 231 rfl rfl, ⟨by decide, by decide⟩, tq1 8 rfl rfl⟩
theorem npX9_number : npar mX9_number 2 := by unfold npar; decide +kernel
set_option maxRecDepth 20000 in
theorem okX9_codes : MdOk mX9_codes := ⟨tq6 19 rfl rfl, ⟨by decide, by decide⟩, tq1 8 rfl rfl⟩
theorem npX9_codes : npar mX9_codes 1 := by unfold npar; decide +kernel
set_option maxRecDepth 20000 in
theorem okX9_three : MdOk mX9_three := ⟨tq6 23 rfl rfl, ⟨by decide, by decide⟩, tq1 8 rfl rfl⟩
theorem npX9_three : npar mX9_three 2 := by unfold npar; decide +kernel
set_option maxRecDepth 20000 in
theorem okX9_factor : MdOk mX9_factor := ⟨tq6 11 rfl rfl, ⟨by decide, by decide⟩, tq1 8 rfl rfl⟩
theorem npX9_factor : npar mX9_factor 0 := by unfold npar; decide +kernel
set_option maxRecDepth 20000 in
theorem okX9_both : MdOk mX9_both := ⟨tq6 7 rfl rfl, ⟨by decide, by decide⟩, tq1 8 rfl rfl⟩
theorem npX9_both : npar mX9_both 0 := by unfold npar; decide +kernel
set_option maxRecDepth 20000 in
theorem okX9_either : MdOk mX9_either := ⟨tq6 3 rfl rfl, ⟨by decide, by decide⟩, tq1 8 rfl rfl⟩
theorem npX9_either : npar mX9_either 0 := by unfold npar; decide +kernel
set_option maxRecDepth 20000 in
theorem okX9_isTest : MdOk mX9_isTest := ⟨tq6 35 rfl rfl, ⟨by decide, by decide⟩, tq1 8 rfl rfl⟩
theorem npX9_isTest : npar mX9_isTest 2 := by unfold npar; decide +kernel
set_option maxRecDepth 20000 in
theorem okX9_isTrue : MdOk mX9_isTrue := ⟨tq6 31 rfl rfl, ⟨by decide, by decide⟩, tq1 8 rfl rfl⟩
theorem npX9_isTrue : npar mX9_isTrue 1 := by unfold npar; decide +kernel
set_option maxRecDepth 20000 in
theorem okX9_laysCondition : MdOk mX9_laysCondition := ⟨tq6 27 rfl rfl, ⟨by decide, by decide⟩, tq1 8 rfl rfl⟩
theorem npX9_laysCondition : npar mX9_laysCondition 0 := by unfold npar; decide +kernel
set_option maxRecDepth 20000 in
theorem okX9_isItemClashing : MdOk mX9_isItemClashing := ⟨tq5 219 rfl rfl, ⟨by decide, by decide⟩, tq1 8 rfl rfl⟩
theorem npX9_isItemClashing : npar mX9_isItemClashing 0 := by unfold npar; decide +kernel
set_option maxRecDepth 20000 in
theorem okX9_isTextClashing : MdOk mX9_isTextClashing := ⟨tq5 197 rfl rfl, ⟨by decide, by decide⟩, tq1 8 rfl rfl⟩
theorem npX9_isTextClashing : npar mX9_isTextClashing 0 := by unfold npar; decide +kernel
set_option maxRecDepth 20000 in
theorem okX9_text : MdOk mX9_text := ⟨tq5 193 rfl rfl, ⟨by decide, by decide⟩, tq1 8 rfl rfl⟩
theorem npX9_text : npar mX9_text 0 := by unfold npar; decide +kernel
set_option maxRecDepth 20000 in
theorem okX9_isSheet : MdOk mX9_isSheet := ⟨tq6 42 rfl rfl, ⟨by decide, by decide⟩, tq1 8 rfl rfl⟩
theorem npX9_isSheet : npar mX9_isSheet 1 := by unfold npar; decide +kernel
set_option maxRecDepth 20000 in
theorem okX9_sheet : MdOk mX9_sheet := ⟨tq6 39 rfl rfl, ⟨by decide, by decide⟩, tq1 8 rfl rfl⟩
theorem npX9_sheet : npar mX9_sheet 3 := by unfold npar; decide +kernel
set_option maxRecDepth 20000 in
theorem okX9_narrowed : MdOk mX9_narrowed := ⟨tq6 49 rfl rfl, ⟨by decide, by decide⟩, tq1 8 rfl rfl⟩
theorem npX9_narrowed : npar mX9_narrowed 2 := by unfold npar; decide +kernel
set_option maxRecDepth 20000 in
theorem okX9_write : MdOk mX9_write := ⟨tq6 46 rfl rfl, ⟨by decide, by decide⟩, tq1 8 rfl rfl⟩
theorem npX9_write : npar mX9_write 3 := by unfold npar; decide +kernel
set_option maxRecDepth 20000 in
theorem okX9_item : MdOk mX9_item := ⟨tq6 53 rfl rfl, ⟨by decide, by decide⟩, tq1 8 rfl rfl⟩
theorem npX9_item : npar mX9_item 2 := by unfold npar; decide +kernel
set_option maxRecDepth 20000 in
theorem okX9_copy : MdOk mX9_copy := ⟨tq6 57 rfl rfl, ⟨by decide, by decide⟩, tq1 8 rfl rfl⟩
theorem npX9_copy : npar mX9_copy 5 := by unfold npar; decide +kernel
set_option maxRecDepth 20000 in
theorem okX9_areAll : MdOk mX9_areAll := ⟨tq6 65 rfl rfl, ⟨by decide, by decide⟩, tq1 8 rfl rfl⟩
theorem npX9_areAll : npar mX9_areAll 1 := by unfold npar; decide +kernel
set_option maxRecDepth 20000 in
theorem okX9_goesBy : MdOk mX9_goesBy := ⟨tq6 73 rfl rfl, ⟨by decide, by decide⟩, tq1 8 rfl rfl⟩
theorem npX9_goesBy : npar mX9_goesBy 2 := by unfold npar; decide +kernel
set_option maxRecDepth 20000 in
theorem okX9_goesOver : MdOk mX9_goesOver := ⟨tq6 69 rfl rfl, ⟨by decide, by decide⟩, tq1 8 rfl rfl⟩
theorem npX9_goesOver : npar mX9_goesOver 1 := by unfold npar; decide +kernel
set_option maxRecDepth 20000 in
theorem okX9_rounds : MdOk mX9_rounds := ⟨tq6 61 rfl rfl, ⟨by decide, by decide⟩, tq1 8 rfl rfl⟩
theorem npX9_rounds : npar mX9_rounds 2 := by unfold npar; decide +kernel
set_option maxRecDepth 20000 in
theorem okX9_lays_ : MdOk mX9_lays_ := ⟨tq6 77 rfl rfl, ⟨by decide, by decide⟩, tq1 8 rfl rfl⟩
theorem npX9_lays_ : npar mX9_lays_ 2 := by unfold npar; decide +kernel
set_option maxRecDepth 20000 in
theorem okX9_judge : MdOk mX9_judge := ⟨tq6 81 rfl rfl, ⟨by decide, by decide⟩, tq1 8 rfl rfl⟩
theorem npX9_judge : npar mX9_judge 2 := by unfold npar; decide +kernel
set_option maxRecDepth 20000 in
theorem okX9_isSpot : MdOk mX9_isSpot := ⟨tq6 88 rfl rfl, ⟨by decide, by decide⟩, tq1 8 rfl rfl⟩
theorem npX9_isSpot : npar mX9_isSpot 1 := by unfold npar; decide +kernel
set_option maxRecDepth 20000 in
theorem okX9_hold : MdOk mX9_hold := ⟨tq6 85 rfl rfl, ⟨by decide, by decide⟩, tq1 8 rfl rfl⟩
theorem npX9_hold : npar mX9_hold 2 := by unfold npar; decide +kernel
set_option maxRecDepth 20000 in
theorem okX9_isUnder : MdOk mX9_isUnder := ⟨tq6 95 rfl rfl, ⟨by decide, by decide⟩, tq1 8 rfl rfl⟩
theorem npX9_isUnder : npar mX9_isUnder 2 := by unfold npar; decide +kernel
set_option maxRecDepth 20000 in
theorem okX9_taken : MdOk mX9_taken := ⟨tq6 92 rfl rfl, ⟨by decide, by decide⟩, tq1 8 rfl rfl⟩
theorem npX9_taken : npar mX9_taken 2 := by unfold npar; decide +kernel
set_option maxRecDepth 20000 in
theorem okX9_image : MdOk mX9_image := ⟨tq6 99 rfl rfl, ⟨by decide, by decide⟩, tq1 8 rfl rfl⟩
theorem npX9_image : npar mX9_image 0 := by unfold npar; decide +kernel
set_option maxRecDepth 20000 in
theorem okX9_back : MdOk mX9_back := ⟨tq6 103 rfl rfl, ⟨by decide, by decide⟩, tq1 8 rfl rfl⟩
theorem npX9_back : npar mX9_back 0 := by unfold npar; decide +kernel
set_option maxRecDepth 20000 in
theorem okX9_seed : MdOk mX9_seed := ⟨tq6 107 rfl rfl, ⟨by decide, by decide⟩, tq1 8 rfl rfl⟩
theorem npX9_seed : npar mX9_seed 1 := by unfold npar; decide +kernel
set_option maxRecDepth 20000 in
theorem okX9_count : MdOk mX9_count := ⟨tq6 111 rfl rfl, ⟨by decide, by decide⟩, tq1 8 rfl rfl⟩
theorem npX9_count : npar mX9_count 1 := by unfold npar; decide +kernel
set_option maxRecDepth 20000 in
theorem okX9_status : MdOk mX9_status := ⟨tq6 115 rfl rfl, ⟨by decide, by decide⟩, tq1 8 rfl rfl⟩
theorem npX9_status : npar mX9_status 1 := by unfold npar; decide +kernel
set_option maxRecDepth 20000 in
theorem okJ9_min_7cf53 : MdOk mJ9_min_7cf53 := ⟨tq2 190 rfl rfl, ⟨by decide, by decide⟩, tq1 14 rfl rfl⟩
theorem npJ9_min_7cf53 : npar mJ9_min_7cf53 2 := by unfold npar; decide +kernel
set_option maxRecDepth 20000 in
theorem okJ0_length_8abf5 : MdOk mJ0_length_8abf5 := ⟨tq2 131 rfl rfl, ⟨by decide, by decide⟩, tq1 10 rfl rfl⟩
theorem npJ0_length_8abf5 : npar mJ0_length_8abf5 0 := by unfold npar; decide +kernel
set_option maxRecDepth 20000 in
theorem okJ0_charAt_5068e : MdOk mJ0_charAt_5068e := ⟨tq2 141 rfl rfl, ⟨by decide, by decide⟩, tq1 10 rfl rfl⟩
theorem npJ0_charAt_5068e : npar mJ0_charAt_5068e 1 := by unfold npar; decide +kernel
set_option maxRecDepth 20000 in
theorem okJ0_coder_7d493 : MdOk mJ0_coder_7d493 := ⟨tq2 135 rfl rfl, ⟨by decide, by decide⟩, tq1 10 rfl rfl⟩
theorem npJ0_coder_7d493 : npar mJ0_coder_7d493 0 := by unfold npar; decide +kernel
set_option maxRecDepth 20000 in
theorem okJ0_isLatin1_aae02 : MdOk mJ0_isLatin1_aae02 := ⟨tq2 145 rfl rfl, ⟨by decide, by decide⟩, tq1 10 rfl rfl⟩
theorem npJ0_isLatin1_aae02 : npar mJ0_isLatin1_aae02 0 := by unfold npar; decide +kernel
set_option maxRecDepth 20000 in
theorem okJ0_checkIndex_df160 : MdOk mJ0_checkIndex_df160 := ⟨tq2 151 rfl rfl, ⟨by decide, by decide⟩, tq1 10 rfl rfl⟩
theorem npJ0_checkIndex_df160 : npar mJ0_checkIndex_df160 2 := by unfold npar; decide +kernel
set_option maxRecDepth 20000 in
theorem okJ1_charAt_3b067 : MdOk mJ1_charAt_3b067 := ⟨tq2 148 rfl rfl, ⟨by decide, by decide⟩, tq1 11 rfl rfl⟩
theorem npJ1_charAt_3b067 : npar mJ1_charAt_3b067 2 := by unfold npar; decide +kernel
set_option maxRecDepth 20000 in
theorem okJ2_getChar_3b067 : MdOk mJ2_getChar_3b067 := ⟨tq2 169 rfl rfl, ⟨by decide, by decide⟩, tq1 13 rfl rfl⟩
theorem npJ2_getChar_3b067 : npar mJ2_getChar_3b067 2 := by unfold npar; decide +kernel
set_option maxRecDepth 20000 in
theorem okJ2_length_9d52b : MdOk mJ2_length_9d52b := ⟨tq2 165 rfl rfl, ⟨by decide, by decide⟩, tq1 13 rfl rfl⟩
theorem npJ2_length_9d52b : npar mJ2_length_9d52b 1 := by unfold npar; decide +kernel
set_option maxRecDepth 20000 in
theorem okJ2_charAt_3b067 : MdOk mJ2_charAt_3b067 := ⟨tq2 159 rfl rfl, ⟨by decide, by decide⟩, tq1 13 rfl rfl⟩
theorem npJ2_charAt_3b067 : npar mJ2_charAt_3b067 2 := by unfold npar; decide +kernel
set_option maxRecDepth 20000 in
theorem okJ2_checkIndex_2214a : MdOk mJ2_checkIndex_2214a := ⟨tq2 162 rfl rfl, ⟨by decide, by decide⟩, tq1 13 rfl rfl⟩
theorem npJ2_checkIndex_2214a : npar mJ2_checkIndex_2214a 2 := by unfold npar; decide +kernel
set_option maxRecDepth 20000 in
theorem okJ3_checkIndex_8e157 : MdOk mJ3_checkIndex_8e157 := ⟨tq2 156 rfl rfl, ⟨by decide, by decide⟩, tq1 12 rfl rfl⟩
theorem npJ3_checkIndex_8e157 : npar mJ3_checkIndex_8e157 3 := by unfold npar; decide +kernel
-- calls
set_option maxRecDepth 20000 in
theorem kL_9 : CalI RL 9 mX8_init 0 := ⟨okX8_init, npX8_init, rfl, rfl, tq1 19 rfl rfl, tq1 20 rfl rfl⟩
set_option maxRecDepth 20000 in
theorem kX8_1 : .methodLink RX8 1 Lib.objectInit ∈ TT := tq1 22 rfl rfl
set_option maxRecDepth 20000 in
theorem kX8_9 : CalIN RX8 9 mX0_init 0 := ⟨okX0_init, npX0_init, rfl, rfl, (show Cond.methodLinkNest RX8 9 yX0_init RX8 ∈ nestW by simp [nestW]), tq1 28 rfl rfl⟩
set_option maxRecDepth 20000 in
theorem kX0_3 : .methodLink RX0 3 Lib.objectInit ∈ TT := tq1 30 rfl rfl
set_option maxRecDepth 20000 in
theorem kX8_22 : CalIN RX8 22 mX2_init 0 := ⟨okX2_init, npX2_init, rfl, rfl, (show Cond.methodLinkNest RX8 22 yX2_init RX8 ∈ nestW by simp [nestW]), tq1 65 rfl rfl⟩
set_option maxRecDepth 20000 in
theorem kX2_3 : .methodLink RX2 3 Lib.objectInit ∈ TT := tq1 67 rfl rfl
set_option maxRecDepth 20000 in
theorem kX8_29 : CalI RX8 29 mX3_init 0 := ⟨okX3_init, npX3_init, rfl, rfl, tq1 74 rfl rfl, tq1 75 rfl rfl⟩
set_option maxRecDepth 20000 in
theorem kX3_3 : .methodLink RX3 3 Lib.objectInit ∈ TT := tq1 77 rfl rfl
set_option maxRecDepth 20000 in
theorem kX3_11 : CalIN RX3 11 mX7_init 0 := ⟨okX7_init, npX7_init, rfl, rfl, (show Cond.methodLinkNest RX3 11 yX7_init RX8 ∈ nestW by simp [nestW]), tq1 81 rfl rfl⟩
set_option maxRecDepth 20000 in
theorem kX7_3 : .methodLink RX7 3 Lib.objectInit ∈ TT := tq1 83 rfl rfl
set_option maxRecDepth 20000 in
theorem kX3_30 : CalIN RX3 30 mX6_init 0 := ⟨okX6_init, npX6_init, rfl, rfl, (show Cond.methodLinkNest RX3 30 yX6_init RX8 ∈ nestW by simp [nestW]), tq1 104 rfl rfl⟩
set_option maxRecDepth 20000 in
theorem kX6_3 : .methodLink RX6 3 Lib.objectInit ∈ TT := tq1 106 rfl rfl
set_option maxRecDepth 20000 in
theorem kX8_53 : CalIN RX8 53 mX5_init 0 := ⟨okX5_init, npX5_init, rfl, rfl, (show Cond.methodLinkNest RX8 53 yX5_init RX8 ∈ nestW by simp [nestW]), tq1 131 rfl rfl⟩
set_option maxRecDepth 20000 in
theorem kX5_3 : .methodLink RX5 3 Lib.objectInit ∈ TT := tq1 133 rfl rfl
set_option maxRecDepth 20000 in
theorem kX8_54 : CalV RX8 54 2 mX2_startAll 2 := ⟨okX2_startAll, npX2_startAll, ⟨by decide, _, rfl, rfl⟩, tq1 147 rfl rfl, tq1 148 rfl rfl, tq1 149 rfl rfl⟩
set_option maxRecDepth 20000 in
theorem kL_13 : CalV RL 13 8 mX8_order 2 := ⟨okX8_order, npX8_order, ⟨by decide, _, rfl, rfl⟩, tq1 180 rfl rfl, tq1 181 rfl rfl, tq1 182 rfl rfl⟩
set_option maxRecDepth 20000 in
theorem kX8_58 : CalS RX8 58 mX8_isOutside 2 := ⟨okX8_isOutside, npX8_isOutside, tq1 184 rfl rfl, tq1 185 rfl rfl⟩
set_option maxRecDepth 20000 in
theorem kX8_62 : CalV RX8 62 8 mX8_finding 1 := ⟨okX8_finding, npX8_finding, ⟨by decide, _, rfl, rfl⟩, tq1 187 rfl rfl, tq1 189 rfl rfl, tq0 0 rfl rfl⟩
set_option maxRecDepth 20000 in
theorem kL_18 : CalV RL 18 8 mX8_place 2 := ⟨okX8_place, npX8_place, ⟨by decide, _, rfl, rfl⟩, tq1 194 rfl rfl, tq1 195 rfl rfl, tq1 196 rfl rfl⟩
set_option maxRecDepth 20000 in
theorem kX8_69 : CalS RX8 69 mX8_placeUnder 2 := ⟨okX8_placeUnder, npX8_placeUnder, tq1 198 rfl rfl, tq1 199 rfl rfl⟩
set_option maxRecDepth 20000 in
theorem kL_22 : CalV RL 22 8 mX8_fall 1 := ⟨okX8_fall, npX8_fall, ⟨by decide, _, rfl, rfl⟩, tq1 205 rfl rfl, tq1 206 rfl rfl, tq1 207 rfl rfl⟩
set_option maxRecDepth 20000 in
theorem kL_27 : CalV RL 27 8 mX8_fallen 1 := ⟨okX8_fallen, npX8_fallen, ⟨by decide, _, rfl, rfl⟩, tq1 209 rfl rfl, tq1 210 rfl rfl, tq1 211 rfl rfl⟩
set_option maxRecDepth 20000 in
theorem kL_31 : CalV RL 31 8 mX8_draw 0 := ⟨okX8_draw, npX8_draw, ⟨by decide, _, rfl, rfl⟩, tq1 213 rfl rfl, tq1 214 rfl rfl, tq1 215 rfl rfl⟩
set_option maxRecDepth 20000 in
theorem kX8_84 : CalV RX8 84 0 mX0_firstOpen 0 := ⟨okX0_firstOpen, npX0_firstOpen, ⟨by decide, _, rfl, rfl⟩, tq1 218 rfl rfl, tq1 219 rfl rfl, tq1 220 rfl rfl⟩
set_option maxRecDepth 20000 in
theorem kX8_88 : CalV RX8 88 0 mX0_openCount 0 := ⟨okX0_openCount, npX0_openCount, ⟨by decide, _, rfl, rfl⟩, tq1 223 rfl rfl, tq1 224 rfl rfl, tq1 225 rfl rfl⟩
set_option maxRecDepth 20000 in
theorem kL_36 : CalV RL 36 8 mX8_sale 5 := ⟨okX8_sale, npX8_sale, ⟨by decide, _, rfl, rfl⟩, tq1 229 rfl rfl, tq1 230 rfl rfl, tq1 231 rfl rfl⟩
set_option maxRecDepth 20000 in
theorem kX8_91 : CalS RX8 91 mX8_areNoPair 2 := ⟨okX8_areNoPair, npX8_areNoPair, tq1 233 rfl rfl, tq1 234 rfl rfl⟩
set_option maxRecDepth 20000 in
theorem kX8_94 : CalI RX8 94 mX1_init 7 := ⟨okX1_init, npX1_init, rfl, rfl, tq1 237 rfl rfl, tq1 238 rfl rfl⟩
set_option maxRecDepth 20000 in
theorem kX1_3 : .methodLink RX1 3 Lib.objectInit ∈ TT := tq2 0 rfl rfl
set_option maxRecDepth 20000 in
theorem kX8_97 : CalV RX8 97 8 mX8_enter 1 := ⟨okX8_enter, npX8_enter, ⟨by decide, _, rfl, rfl⟩, tq2 35 rfl rfl, tq2 37 rfl rfl, tq0 1 rfl rfl⟩
set_option maxRecDepth 20000 in
theorem kX8_121 : CalV RX8 121 8 mX8_takes 1 := ⟨okX8_takes, npX8_takes, ⟨by decide, _, rfl, rfl⟩, tq2 39 rfl rfl, tq2 41 rfl rfl, tq0 2 rfl rfl⟩
set_option maxRecDepth 20000 in
theorem kX8_181 : CalV RX8 181 0 mX0_endOpen 0 := ⟨okX0_endOpen, npX0_endOpen, ⟨by decide, _, rfl, rfl⟩, tq2 43 rfl rfl, tq2 44 rfl rfl, tq2 45 rfl rfl⟩
set_option maxRecDepth 20000 in
theorem kX0_46 : CalV RX0 46 0 mX0_firstOpen 0 := ⟨okX0_firstOpen, npX0_firstOpen, ⟨by decide, _, rfl, rfl⟩, tq2 47 rfl rfl, tq1 219 rfl rfl, tq1 220 rfl rfl⟩
set_option maxRecDepth 20000 in
theorem kX0_50 : CalV RX0 50 0 mX0_openCount 0 := ⟨okX0_openCount, npX0_openCount, ⟨by decide, _, rfl, rfl⟩, tq2 48 rfl rfl, tq1 224 rfl rfl, tq1 225 rfl rfl⟩
set_option maxRecDepth 20000 in
theorem kX8_272 : CalV RX8 272 8 mX8_clashesUnder 2 := ⟨okX8_clashesUnder, npX8_clashesUnder, ⟨by decide, _, rfl, rfl⟩, tq2 49 rfl rfl, tq2 51 rfl rfl, tq0 3 rfl rfl⟩
set_option maxRecDepth 20000 in
theorem kX8_160 : CalV RX8 160 1 mX1_gives 1 := ⟨okX1_gives, npX1_gives, ⟨by decide, _, rfl, rfl⟩, tq2 53 rfl rfl, tq2 54 rfl rfl, tq2 55 rfl rfl⟩
set_option maxRecDepth 20000 in
theorem kX1_34 : CalV RX1 34 6 mX6_has 1 := ⟨okX6_has, npX6_has, ⟨by decide, _, rfl, rfl⟩, tq2 57 rfl rfl, tq2 58 rfl rfl, tq2 59 rfl rfl⟩
set_option maxRecDepth 20000 in
theorem kX1_40 : CalSN RX1 40 mX8_placeUnder 2 := ⟨okX8_placeUnder, npX8_placeUnder, (show Cond.methodLinkNest RX1 40 yX8_placeUnder RX8 ∈ nestW by simp [nestW]), tq1 199 rfl rfl⟩
set_option maxRecDepth 20000 in
theorem kX8_163 : CalV RX8 163 1 mX1_getsBack 1 := ⟨okX1_getsBack, npX1_getsBack, ⟨by decide, _, rfl, rfl⟩, tq2 62 rfl rfl, tq2 63 rfl rfl, tq2 64 rfl rfl⟩
set_option maxRecDepth 20000 in
theorem kX1_44 : CalV RX1 44 1 mX1_gives 1 := ⟨okX1_gives, npX1_gives, ⟨by decide, _, rfl, rfl⟩, tq2 66 rfl rfl, tq2 54 rfl rfl, tq2 55 rfl rfl⟩
set_option maxRecDepth 20000 in
theorem kX8_280 : CalV RX8 280 0 mX0_clashOf 4 := ⟨okX0_clashOf, npX0_clashOf, ⟨by decide, _, rfl, rfl⟩, tq2 67 rfl rfl, tq2 68 rfl rfl, tq2 69 rfl rfl⟩
set_option maxRecDepth 20000 in
theorem kX0_60 : CalV RX0 60 0 mX0_dealAt 1 := ⟨okX0_dealAt, npX0_dealAt, ⟨by decide, _, rfl, rfl⟩, tq2 71 rfl rfl, tq2 72 rfl rfl, tq2 73 rfl rfl⟩
set_option maxRecDepth 20000 in
theorem kX0_56 : CalSN RX0 56 mX8_isOutside 2 := ⟨okX8_isOutside, npX8_isOutside, (show Cond.methodLinkNest RX0 56 yX8_isOutside RX8 ∈ nestW by simp [nestW]), tq1 185 rfl rfl⟩
set_option maxRecDepth 20000 in
theorem kX0_64 : CalV RX0 64 1 mX1_takerOf 2 := ⟨okX1_takerOf, npX1_takerOf, ⟨by decide, _, rfl, rfl⟩, tq2 76 rfl rfl, tq2 77 rfl rfl, tq2 78 rfl rfl⟩
set_option maxRecDepth 20000 in
theorem kX1_48 : CalV RX1 48 1 mX1_mayGive 1 := ⟨okX1_mayGive, npX1_mayGive, ⟨by decide, _, rfl, rfl⟩, tq2 80 rfl rfl, tq2 82 rfl rfl, tq0 4 rfl rfl⟩
set_option maxRecDepth 20000 in
theorem kX8_276 : CalV RX8 276 2 mX2_settle 3 := ⟨okX2_settle, npX2_settle, ⟨by decide, _, rfl, rfl⟩, tq2 84 rfl rfl, tq2 85 rfl rfl, tq2 86 rfl rfl⟩
set_option maxRecDepth 20000 in
theorem kX2_16 : CalV RX2 16 1 mX1_gives 1 := ⟨okX1_gives, npX1_gives, ⟨by decide, _, rfl, rfl⟩, tq2 88 rfl rfl, tq2 54 rfl rfl, tq2 55 rfl rfl⟩
set_option maxRecDepth 20000 in
theorem kX2_26 : CalV RX2 26 2 mX2_give 3 := ⟨okX2_give, npX2_give, ⟨by decide, _, rfl, rfl⟩, tq2 89 rfl rfl, tq2 91 rfl rfl, tq0 5 rfl rfl⟩
set_option maxRecDepth 20000 in
theorem kL_41 : CalV RL 41 8 mX8_swap 5 := ⟨okX8_swap, npX8_swap, ⟨by decide, _, rfl, rfl⟩, tq2 93 rfl rfl, tq2 94 rfl rfl, tq2 95 rfl rfl⟩
set_option maxRecDepth 20000 in
theorem kL_45 : CalV RL 45 8 mX8_text 0 := ⟨okX8_text, npX8_text, ⟨by decide, _, rfl, rfl⟩, tq2 97 rfl rfl, tq2 98 rfl rfl, tq2 99 rfl rfl⟩
set_option maxRecDepth 20000 in
theorem kX8_104 : CalV RX8 104 3 mX3_readText 1 := ⟨okX3_readText, npX3_readText, ⟨by decide, _, rfl, rfl⟩, tq2 101 rfl rfl, tq2 102 rfl rfl, tq2 103 rfl rfl⟩
set_option maxRecDepth 20000 in
theorem kX3_39 : CalV RX3 39 7 mX7_start 0 := ⟨okX7_start, npX7_start, ⟨by decide, _, rfl, rfl⟩, tq2 105 rfl rfl, tq2 106 rfl rfl, tq2 107 rfl rfl⟩
set_option maxRecDepth 20000 in
theorem kX7_22 : CalV RX7 22 7 mX7_step 0 := ⟨okX7_step, npX7_step, ⟨by decide, _, rfl, rfl⟩, tq2 109 rfl rfl, tq2 111 rfl rfl, tq0 6 rfl rfl⟩
set_option maxRecDepth 20000 in
theorem kX7_54 : CalS RX7 54 mX7_isLetter 1 := ⟨okX7_isLetter, npX7_isLetter, tq2 113 rfl rfl, tq2 114 rfl rfl⟩
set_option maxRecDepth 20000 in
theorem kX7_41 : CalS RX7 41 mX7_isDigit 1 := ⟨okX7_isDigit, npX7_isDigit, tq2 116 rfl rfl, tq2 117 rfl rfl⟩
set_option maxRecDepth 20000 in
theorem kX3_42 : CalV RX3 42 3 mX3_readItem 1 := ⟨okX3_readItem, npX3_readItem, ⟨by decide, _, rfl, rfl⟩, tq2 119 rfl rfl, tq2 121 rfl rfl, tq0 7 rfl rfl⟩
set_option maxRecDepth 20000 in
theorem kX3_52 : CalV RX3 52 7 mX7_takes 1 := ⟨okX7_takes, npX7_takes, ⟨by decide, _, rfl, rfl⟩, tq2 124 rfl rfl, tq2 125 rfl rfl, tq2 126 rfl rfl⟩
set_option maxRecDepth 20000 in
theorem kX7_28 : .methodLink RX7 28 yJ0_length_8abf5 ∈ TT := tq2 128 rfl rfl
set_option maxRecDepth 20000 in
theorem kJ0_335 : .methodLink RJ0 335 yJ0_coder_7d493 ∈ TT := tq2 132 rfl rfl
set_option maxRecDepth 20000 in
theorem kX7_33 : .methodLink RX7 33 yJ0_charAt_5068e ∈ TT := tq2 138 rfl rfl
set_option maxRecDepth 20000 in
theorem kJ0_492 : .methodLink RJ0 492 yJ0_isLatin1_aae02 ∈ TT := tq2 142 rfl rfl
set_option maxRecDepth 20000 in
theorem kJ0_495 : CalS RJ0 495 mJ1_charAt_3b067 2 := ⟨okJ1_charAt_3b067, npJ1_charAt_3b067, tq2 146 rfl rfl, tq2 147 rfl rfl⟩
set_option maxRecDepth 20000 in
theorem kJ1_9 : CalS RJ1 9 mJ0_checkIndex_df160 2 := ⟨okJ0_checkIndex_df160, npJ0_checkIndex_df160, tq2 149 rfl rfl, tq2 150 rfl rfl⟩
set_option maxRecDepth 20000 in
theorem kJ0_1059 : CalS RJ0 1059 mJ3_checkIndex_8e157 3 := ⟨okJ3_checkIndex_8e157, npJ3_checkIndex_8e157, tq2 154 rfl rfl, tq2 155 rfl rfl⟩
set_option maxRecDepth 20000 in
theorem kJ0_498 : CalS RJ0 498 mJ2_charAt_3b067 2 := ⟨okJ2_charAt_3b067, npJ2_charAt_3b067, tq2 157 rfl rfl, tq2 158 rfl rfl⟩
set_option maxRecDepth 20000 in
theorem kJ2_67 : CalS RJ2 67 mJ2_checkIndex_2214a 2 := ⟨okJ2_checkIndex_2214a, npJ2_checkIndex_2214a, tq2 160 rfl rfl, tq2 161 rfl rfl⟩
set_option maxRecDepth 20000 in
theorem kJ2_48 : CalS RJ2 48 mJ2_length_9d52b 1 := ⟨okJ2_length_9d52b, npJ2_length_9d52b, tq2 163 rfl rfl, tq2 164 rfl rfl⟩
set_option maxRecDepth 20000 in
theorem kJ2_414 : CalS RJ2 414 mJ0_checkIndex_df160 2 := ⟨okJ0_checkIndex_df160, npJ0_checkIndex_df160, tq2 166 rfl rfl, tq2 150 rfl rfl⟩
set_option maxRecDepth 20000 in
theorem kJ2_71 : CalS RJ2 71 mJ2_getChar_3b067 2 := ⟨okJ2_getChar_3b067, npJ2_getChar_3b067, tq2 167 rfl rfl, tq2 168 rfl rfl⟩
set_option maxRecDepth 20000 in
theorem kX3_67 : CalV RX3 67 7 mX7_takeNumber 3 := ⟨okX7_takeNumber, npX7_takeNumber, ⟨by decide, _, rfl, rfl⟩, tq2 176 rfl rfl, tq2 177 rfl rfl, tq2 178 rfl rfl⟩
set_option maxRecDepth 20000 in
theorem kX7_37 : CalV RX7 37 7 mX7_isAtEnd 0 := ⟨okX7_isAtEnd, npX7_isAtEnd, ⟨by decide, _, rfl, rfl⟩, tq2 180 rfl rfl, tq2 181 rfl rfl, tq2 182 rfl rfl⟩
set_option maxRecDepth 20000 in
theorem kX7_45 : CalV RX7 45 7 mX7_tokenNumber 0 := ⟨okX7_tokenNumber, npX7_tokenNumber, ⟨by decide, _, rfl, rfl⟩, tq2 184 rfl rfl, tq2 186 rfl rfl, tq0 8 rfl rfl⟩
set_option maxRecDepth 20000 in
theorem kX7_48 : CalS RX7 48 mJ9_min_7cf53 2 := ⟨okJ9_min_7cf53, npJ9_min_7cf53, tq2 188 rfl rfl, tq2 189 rfl rfl⟩
set_option maxRecDepth 20000 in
theorem kX3_78 : CalV RX3 78 3 mX3_readKind 0 := ⟨okX3_readKind, npX3_readKind, ⟨by decide, _, rfl, rfl⟩, tq2 193 rfl rfl, tq2 195 rfl rfl, tq0 9 rfl rfl⟩
set_option maxRecDepth 20000 in
theorem kX3_83 : CalV RX3 83 3 mX3_readAny 3 := ⟨okX3_readAny, npX3_readAny, ⟨by decide, _, rfl, rfl⟩, tq2 203 rfl rfl, tq2 205 rfl rfl, tq0 10 rfl rfl⟩
set_option maxRecDepth 20000 in
theorem kX3_100 : CalV RX3 100 6 mX6_clear 0 := ⟨okX6_clear, npX6_clear, ⟨by decide, _, rfl, rfl⟩, tq2 207 rfl rfl, tq2 208 rfl rfl, tq2 209 rfl rfl⟩
set_option maxRecDepth 20000 in
theorem kX3_103 : CalV RX3 103 3 mX3_readOne 3 := ⟨okX3_readOne, npX3_readOne, ⟨by decide, _, rfl, rfl⟩, tq2 211 rfl rfl, tq2 213 rfl rfl, tq0 11 rfl rfl⟩
set_option maxRecDepth 20000 in
theorem kX3_119 : CalV RX3 119 6 mX6_turn 0 := ⟨okX6_turn, npX6_turn, ⟨by decide, _, rfl, rfl⟩, tq2 216 rfl rfl, tq2 217 rfl rfl, tq2 218 rfl rfl⟩
set_option maxRecDepth 20000 in
theorem kX3_128 : CalV RX3 128 3 mX3_dealByThen 2 := ⟨okX3_dealByThen, npX3_dealByThen, ⟨by decide, _, rfl, rfl⟩, tq2 224 rfl rfl, tq2 226 rfl rfl, tq0 12 rfl rfl⟩
set_option maxRecDepth 20000 in
theorem kX3_147 : CalV RX3 147 0 mX0_dealAt 1 := ⟨okX0_dealAt, npX0_dealAt, ⟨by decide, _, rfl, rfl⟩, tq2 228 rfl rfl, tq2 72 rfl rfl, tq2 73 rfl rfl⟩
set_option maxRecDepth 20000 in
theorem kX3_151 : CalV RX3 151 3 mX3_cameAt 1 := ⟨okX3_cameAt, npX3_cameAt, ⟨by decide, _, rfl, rfl⟩, tq2 229 rfl rfl, tq2 230 rfl rfl, tq2 231 rfl rfl⟩
set_option maxRecDepth 20000 in
theorem kX3_35 : CalSN RX3 35 mX8_isOutside 2 := ⟨okX8_isOutside, npX8_isOutside, (show Cond.methodLinkNest RX3 35 yX8_isOutside RX8 ∈ nestW by simp [nestW]), tq1 185 rfl rfl⟩
set_option maxRecDepth 20000 in
theorem kX3_132 : CalV RX3 132 6 mX6_becomeLapsed 1 := ⟨okX6_becomeLapsed, npX6_becomeLapsed, ⟨by decide, _, rfl, rfl⟩, tq2 234 rfl rfl, tq2 235 rfl rfl, tq2 236 rfl rfl⟩
set_option maxRecDepth 20000 in
theorem kX6_23 : CalV RX6 23 1 mX1_gives 1 := ⟨okX1_gives, npX1_gives, ⟨by decide, _, rfl, rfl⟩, tq2 238 rfl rfl, tq2 54 rfl rfl, tq2 55 rfl rfl⟩
set_option maxRecDepth 20000 in
theorem kX6_19 : CalV RX6 19 6 mX6_set 2 := ⟨okX6_set, npX6_set, ⟨by decide, _, rfl, rfl⟩, tq2 239 rfl rfl, tq3 1 rfl rfl, tq0 13 rfl rfl⟩
set_option maxRecDepth 20000 in
theorem kX3_140 : CalV RX3 140 6 mX6_becomeAhead 2 := ⟨okX6_becomeAhead, npX6_becomeAhead, ⟨by decide, _, rfl, rfl⟩, tq3 5 rfl rfl, tq3 6 rfl rfl, tq3 7 rfl rfl⟩
set_option maxRecDepth 20000 in
theorem kX6_15 : CalSN RX6 15 mX8_placeUnder 2 := ⟨okX8_placeUnder, npX8_placeUnder, (show Cond.methodLinkNest RX6 15 yX8_placeUnder RX8 ∈ nestW by simp [nestW]), tq1 199 rfl rfl⟩
set_option maxRecDepth 20000 in
theorem kX3_144 : CalV RX3 144 6 mX6_becomeAt 2 := ⟨okX6_becomeAt, npX6_becomeAt, ⟨by decide, _, rfl, rfl⟩, tq3 10 rfl rfl, tq3 11 rfl rfl, tq3 12 rfl rfl⟩
set_option maxRecDepth 20000 in
theorem kX3_108 : CalV RX3 108 6 mX6_meet 1 := ⟨okX6_meet, npX6_meet, ⟨by decide, _, rfl, rfl⟩, tq3 15 rfl rfl, tq3 16 rfl rfl, tq3 17 rfl rfl⟩
set_option maxRecDepth 20000 in
theorem kX3_112 : CalV RX3 112 6 mX6_join 1 := ⟨okX6_join, npX6_join, ⟨by decide, _, rfl, rfl⟩, tq3 19 rfl rfl, tq3 20 rfl rfl, tq3 21 rfl rfl⟩
set_option maxRecDepth 20000 in
theorem kX3_87 : CalI RX3 87 mX1_init 7 := ⟨okX1_init, npX1_init, rfl, rfl, tq3 24 rfl rfl, tq1 238 rfl rfl⟩
set_option maxRecDepth 20000 in
theorem kX3_46 : CalV RX3 46 7 mX7_tokenPlace 0 := ⟨okX7_tokenPlace, npX7_tokenPlace, ⟨by decide, _, rfl, rfl⟩, tq3 25 rfl rfl, tq3 26 rfl rfl, tq3 27 rfl rfl⟩
set_option maxRecDepth 20000 in
theorem kX3_56 : CalV RX3 56 7 mX7_isAtEnd 0 := ⟨okX7_isAtEnd, npX7_isAtEnd, ⟨by decide, _, rfl, rfl⟩, tq3 30 rfl rfl, tq2 181 rfl rfl, tq2 182 rfl rfl⟩
set_option maxRecDepth 20000 in
theorem kX8_117 : CalV RX8 117 3 mX3_cameAt 1 := ⟨okX3_cameAt, npX3_cameAt, ⟨by decide, _, rfl, rfl⟩, tq3 31 rfl rfl, tq2 230 rfl rfl, tq2 231 rfl rfl⟩
set_option maxRecDepth 20000 in
theorem kX8_125 : CalV RX8 125 8 mX8_settleAll 0 := ⟨okX8_settleAll, npX8_settleAll, ⟨by decide, _, rfl, rfl⟩, tq3 32 rfl rfl, tq3 34 rfl rfl, tq0 14 rfl rfl⟩
set_option maxRecDepth 20000 in
theorem kX8_128 : CalV RX8 128 0 mX0_dealAt 1 := ⟨okX0_dealAt, npX0_dealAt, ⟨by decide, _, rfl, rfl⟩, tq3 36 rfl rfl, tq2 72 rfl rfl, tq2 73 rfl rfl⟩
set_option maxRecDepth 20000 in
theorem kL_49 : CalV RL 49 8 mX8_of 2 := ⟨okX8_of, npX8_of, ⟨by decide, _, rfl, rfl⟩, tq3 37 rfl rfl, tq3 38 rfl rfl, tq3 39 rfl rfl⟩
set_option maxRecDepth 20000 in
theorem kX8_153 : CalV RX8 153 8 mX8_countConveying 1 := ⟨okX8_countConveying, npX8_countConveying, ⟨by decide, _, rfl, rfl⟩, tq3 41 rfl rfl, tq3 43 rfl rfl, tq0 15 rfl rfl⟩
set_option maxRecDepth 20000 in
theorem kL_53 : CalV RL 53 8 mX8_holds 2 := ⟨okX8_holds, npX8_holds, ⟨by decide, _, rfl, rfl⟩, tq3 45 rfl rfl, tq3 46 rfl rfl, tq3 47 rfl rfl⟩
set_option maxRecDepth 20000 in
theorem kX8_156 : CalV RX8 156 1 mX1_isMet 1 := ⟨okX1_isMet, npX1_isMet, ⟨by decide, _, rfl, rfl⟩, tq3 49 rfl rfl, tq3 50 rfl rfl, tq3 51 rfl rfl⟩
set_option maxRecDepth 20000 in
theorem kL_57 : CalV RL 57 8 mX8_conveys 3 := ⟨okX8_conveys, npX8_conveys, ⟨by decide, _, rfl, rfl⟩, tq3 53 rfl rfl, tq3 54 rfl rfl, tq3 55 rfl rfl⟩
set_option maxRecDepth 20000 in
theorem kL_62 : CalV RL 62 8 mX8_drop 0 := ⟨okX8_drop, npX8_drop, ⟨by decide, _, rfl, rfl⟩, tq3 57 rfl rfl, tq3 58 rfl rfl, tq3 59 rfl rfl⟩
set_option maxRecDepth 20000 in
theorem kL_66 : CalV RL 66 8 mX8_prune 0 := ⟨okX8_prune, npX8_prune, ⟨by decide, _, rfl, rfl⟩, tq3 61 rfl rfl, tq3 62 rfl rfl, tq3 63 rfl rfl⟩
set_option maxRecDepth 20000 in
theorem kL_70 : CalV RL 70 8 mX8_clash 1 := ⟨okX8_clash, npX8_clash, ⟨by decide, _, rfl, rfl⟩, tq3 65 rfl rfl, tq3 66 rfl rfl, tq3 67 rfl rfl⟩
set_option maxRecDepth 20000 in
theorem kL_74 : CalV RL 74 8 mX8_owner 2 := ⟨okX8_owner, npX8_owner, ⟨by decide, _, rfl, rfl⟩, tq3 69 rfl rfl, tq3 70 rfl rfl, tq3 71 rfl rfl⟩
set_option maxRecDepth 20000 in
theorem kX8_169 : CalV RX8 169 0 mX0_isOpen 1 := ⟨okX0_isOpen, npX0_isOpen, ⟨by decide, _, rfl, rfl⟩, tq3 73 rfl rfl, tq3 74 rfl rfl, tq3 75 rfl rfl⟩
set_option maxRecDepth 20000 in
theorem kX0_53 : CalV RX0 53 0 mX0_endOpen 0 := ⟨okX0_endOpen, npX0_endOpen, ⟨by decide, _, rfl, rfl⟩, tq3 77 rfl rfl, tq2 44 rfl rfl, tq2 45 rfl rfl⟩
set_option maxRecDepth 20000 in
theorem kX8_172 : CalV RX8 172 2 mX2_at 2 := ⟨okX2_at, npX2_at, ⟨by decide, _, rfl, rfl⟩, tq3 78 rfl rfl, tq3 79 rfl rfl, tq3 80 rfl rfl⟩
set_option maxRecDepth 20000 in
theorem kL_78 : CalV RL 78 8 mX8_chain 3 := ⟨okX8_chain, npX8_chain, ⟨by decide, _, rfl, rfl⟩, tq3 82 rfl rfl, tq3 83 rfl rfl, tq3 84 rfl rfl⟩
set_option maxRecDepth 20000 in
theorem kX8_175 : CalV RX8 175 1 mX1_takerOf 2 := ⟨okX1_takerOf, npX1_takerOf, ⟨by decide, _, rfl, rfl⟩, tq3 86 rfl rfl, tq2 77 rfl rfl, tq2 78 rfl rfl⟩
set_option maxRecDepth 20000 in
theorem kL_82 : CalV RL 82 8 mX8_hand 2 := ⟨okX8_hand, npX8_hand, ⟨by decide, _, rfl, rfl⟩, tq3 87 rfl rfl, tq3 88 rfl rfl, tq3 89 rfl rfl⟩
set_option maxRecDepth 20000 in
theorem kL_86 : CalV RL 86 8 mX8_owners 1 := ⟨okX8_owners, npX8_owners, ⟨by decide, _, rfl, rfl⟩, tq3 91 rfl rfl, tq3 92 rfl rfl, tq3 93 rfl rfl⟩
set_option maxRecDepth 20000 in
theorem kX8_178 : CalV RX8 178 8 mX8_everOwners 1 := ⟨okX8_everOwners, npX8_everOwners, ⟨by decide, _, rfl, rfl⟩, tq3 95 rfl rfl, tq3 97 rfl rfl, tq0 16 rfl rfl⟩
set_option maxRecDepth 20000 in
theorem kL_90 : CalV RL 90 8 mX8_sure 1 := ⟨okX8_sure, npX8_sure, ⟨by decide, _, rfl, rfl⟩, tq3 99 rfl rfl, tq3 100 rfl rfl, tq3 101 rfl rfl⟩
set_option maxRecDepth 20000 in
theorem kL_94 : CalV RL 94 8 mX8_chance 2 := ⟨okX8_chance, npX8_chance, ⟨by decide, _, rfl, rfl⟩, tq3 103 rfl rfl, tq3 104 rfl rfl, tq3 105 rfl rfl⟩
set_option maxRecDepth 20000 in
theorem kL_98 : CalV RL 98 8 mX8_least 2 := ⟨okX8_least, npX8_least, ⟨by decide, _, rfl, rfl⟩, tq3 107 rfl rfl, tq3 108 rfl rfl, tq3 109 rfl rfl⟩
set_option maxRecDepth 20000 in
theorem kL_102 : CalV RL 102 8 mX8_price 2 := ⟨okX8_price, npX8_price, ⟨by decide, _, rfl, rfl⟩, tq3 111 rfl rfl, tq3 112 rfl rfl, tq3 113 rfl rfl⟩
set_option maxRecDepth 20000 in
theorem kL_106 : CalV RL 106 8 mX8_worth 2 := ⟨okX8_worth, npX8_worth, ⟨by decide, _, rfl, rfl⟩, tq3 115 rfl rfl, tq3 116 rfl rfl, tq3 117 rfl rfl⟩
set_option maxRecDepth 20000 in
theorem kX8_187 : CalV RX8 187 8 mX8_worthUnder 2 := ⟨okX8_worthUnder, npX8_worthUnder, ⟨by decide, _, rfl, rfl⟩, tq3 119 rfl rfl, tq3 121 rfl rfl, tq0 17 rfl rfl⟩
set_option maxRecDepth 20000 in
theorem kL_110 : CalV RL 110 8 mX8_value 1 := ⟨okX8_value, npX8_value, ⟨by decide, _, rfl, rfl⟩, tq3 123 rfl rfl, tq3 124 rfl rfl, tq3 125 rfl rfl⟩
set_option maxRecDepth 20000 in
theorem kX8_190 : CalV RX8 190 8 mX8_longFinding 1 := ⟨okX8_longFinding, npX8_longFinding, ⟨by decide, _, rfl, rfl⟩, tq3 127 rfl rfl, tq3 129 rfl rfl, tq0 18 rfl rfl⟩
set_option maxRecDepth 20000 in
theorem kX8_194 : CalV RX8 194 8 mX8_worthOver 3 := ⟨okX8_worthOver, npX8_worthOver, ⟨by decide, _, rfl, rfl⟩, tq3 132 rfl rfl, tq3 134 rfl rfl, tq0 19 rfl rfl⟩
set_option maxRecDepth 20000 in
theorem kL_115 : CalV RL 115 8 mX8_best 2 := ⟨okX8_best, npX8_best, ⟨by decide, _, rfl, rfl⟩, tq3 136 rfl rfl, tq3 137 rfl rfl, tq3 138 rfl rfl⟩
set_option maxRecDepth 20000 in
theorem kL_119 : CalV RL 119 8 mX8_hope 1 := ⟨okX8_hope, npX8_hope, ⟨by decide, _, rfl, rfl⟩, tq3 140 rfl rfl, tq3 141 rfl rfl, tq3 142 rfl rfl⟩
set_option maxRecDepth 20000 in
theorem kL_123 : CalV RL 123 8 mX8_rounds 2 := ⟨okX8_rounds, npX8_rounds, ⟨by decide, _, rfl, rfl⟩, tq3 145 rfl rfl, tq3 146 rfl rfl, tq3 147 rfl rfl⟩
set_option maxRecDepth 20000 in
theorem kX8_203 : CalV RX8 203 5 mX5_isMissing 0 := ⟨okX5_isMissing, npX5_isMissing, ⟨by decide, _, rfl, rfl⟩, tq3 149 rfl rfl, tq3 150 rfl rfl, tq3 151 rfl rfl⟩
set_option maxRecDepth 20000 in
theorem kX8_208 : CalV RX8 208 8 mX8_tellsEachDeal 1 := ⟨okX8_tellsEachDeal, npX8_tellsEachDeal, ⟨by decide, _, rfl, rfl⟩, tq3 153 rfl rfl, tq3 155 rfl rfl, tq0 20 rfl rfl⟩
set_option maxRecDepth 20000 in
theorem kX8_212 : CalV RX8 212 8 mX8_countRounds 2 := ⟨okX8_countRounds, npX8_countRounds, ⟨by decide, _, rfl, rfl⟩, tq3 157 rfl rfl, tq3 159 rfl rfl, tq0 21 rfl rfl⟩
set_option maxRecDepth 20000 in
theorem kX8_286 : CalI RX8 286 mX4_init 1 := ⟨okX4_init, npX4_init, rfl, rfl, tq3 163 rfl rfl, tq3 164 rfl rfl⟩
set_option maxRecDepth 20000 in
theorem kX4_3 : .methodLink RX4 3 Lib.objectInit ∈ TT := tq3 166 rfl rfl
set_option maxRecDepth 20000 in
theorem kX8_289 : CalV RX8 289 8 mX8_goesOver 2 := ⟨okX8_goesOver, npX8_goesOver, ⟨by decide, _, rfl, rfl⟩, tq3 180 rfl rfl, tq3 182 rfl rfl, tq0 22 rfl rfl⟩
set_option maxRecDepth 20000 in
theorem kX8_293 : CalV RX8 293 4 mX4_move 2 := ⟨okX4_move, npX4_move, ⟨by decide, _, rfl, rfl⟩, tq3 184 rfl rfl, tq3 185 rfl rfl, tq3 186 rfl rfl⟩
set_option maxRecDepth 20000 in
theorem kX4_19 : CalV RX4 19 1 mX1_gives 1 := ⟨okX1_gives, npX1_gives, ⟨by decide, _, rfl, rfl⟩, tq3 188 rfl rfl, tq2 54 rfl rfl, tq2 55 rfl rfl⟩
set_option maxRecDepth 20000 in
theorem kX4_34 : CalV RX4 34 1 mX1_getsBack 1 := ⟨okX1_getsBack, npX1_getsBack, ⟨by decide, _, rfl, rfl⟩, tq3 189 rfl rfl, tq2 63 rfl rfl, tq2 64 rfl rfl⟩
set_option maxRecDepth 20000 in
theorem kL_127 : CalV RL 127 8 mX8_lays 2 := ⟨okX8_lays, npX8_lays, ⟨by decide, _, rfl, rfl⟩, tq3 190 rfl rfl, tq3 191 rfl rfl, tq3 192 rfl rfl⟩
set_option maxRecDepth 20000 in
theorem kX8_216 : CalS RX8 216 mJ9_min_7cf53 2 := ⟨okJ9_min_7cf53, npJ9_min_7cf53, tq3 194 rfl rfl, tq2 189 rfl rfl⟩
set_option maxRecDepth 20000 in
theorem kX8_221 : CalV RX8 221 5 mX5_put 2 := ⟨okX5_put, npX5_put, ⟨by decide, _, rfl, rfl⟩, tq3 195 rfl rfl, tq3 196 rfl rfl, tq3 197 rfl rfl⟩
set_option maxRecDepth 20000 in
theorem kL_131 : CalV RL 131 8 mX8_judge 2 := ⟨okX8_judge, npX8_judge, ⟨by decide, _, rfl, rfl⟩, tq3 199 rfl rfl, tq3 200 rfl rfl, tq3 201 rfl rfl⟩
set_option maxRecDepth 20000 in
theorem kL_135 : CalV RL 135 8 mX8_feed 2 := ⟨okX8_feed, npX8_feed, ⟨by decide, _, rfl, rfl⟩, tq3 203 rfl rfl, tq3 204 rfl rfl, tq3 205 rfl rfl⟩
set_option maxRecDepth 20000 in
theorem kX8_229 : CalV RX8 229 7 mX7_add 1 := ⟨okX7_add, npX7_add, ⟨by decide, _, rfl, rfl⟩, tq3 207 rfl rfl, tq3 208 rfl rfl, tq3 209 rfl rfl⟩
set_option maxRecDepth 20000 in
theorem kL_139 : CalV RL 139 8 mX8_wipe 0 := ⟨okX8_wipe, npX8_wipe, ⟨by decide, _, rfl, rfl⟩, tq3 211 rfl rfl, tq3 212 rfl rfl, tq3 213 rfl rfl⟩
set_option maxRecDepth 20000 in
theorem kL_143 : CalV RL 143 8 mX8_sheet 3 := ⟨okX8_sheet, npX8_sheet, ⟨by decide, _, rfl, rfl⟩, tq3 215 rfl rfl, tq3 216 rfl rfl, tq3 217 rfl rfl⟩
set_option maxRecDepth 20000 in
theorem kX8_233 : CalV RX8 233 5 mX5_become 2 := ⟨okX5_become, npX5_become, ⟨by decide, _, rfl, rfl⟩, tq3 219 rfl rfl, tq3 220 rfl rfl, tq3 221 rfl rfl⟩
set_option maxRecDepth 20000 in
theorem kL_149 : CalV RL 149 8 mX8_write 3 := ⟨okX8_write, npX8_write, ⟨by decide, _, rfl, rfl⟩, tq3 223 rfl rfl, tq3 224 rfl rfl, tq3 225 rfl rfl⟩
set_option maxRecDepth 20000 in
theorem kL_154 : CalV RL 154 8 mX8_item 2 := ⟨okX8_item, npX8_item, ⟨by decide, _, rfl, rfl⟩, tq3 227 rfl rfl, tq3 228 rfl rfl, tq3 229 rfl rfl⟩
set_option maxRecDepth 20000 in
theorem kL_159 : CalV RL 159 8 mX8_copy 5 := ⟨okX8_copy, npX8_copy, ⟨by decide, _, rfl, rfl⟩, tq3 231 rfl rfl, tq3 232 rfl rfl, tq3 233 rfl rfl⟩
set_option maxRecDepth 20000 in
theorem kX8_239 : CalV RX8 239 5 mX5_hasRun 2 := ⟨okX5_hasRun, npX5_hasRun, ⟨by decide, _, rfl, rfl⟩, tq3 235 rfl rfl, tq3 236 rfl rfl, tq3 237 rfl rfl⟩
set_option maxRecDepth 20000 in
theorem kX8_242 : .methodLink RX8 242 (⟨"java/lang/System", "arraycopy", "(Ljava/lang/Object;ILjava/lang/Object;II)V"⟩ : MethodName) ∈ TT := tq3 239 rfl rfl
set_option maxRecDepth 20000 in
theorem kL_163 : CalV RL 163 8 mX8_hold 2 := ⟨okX8_hold, npX8_hold, ⟨by decide, _, rfl, rfl⟩, tq4 2 rfl rfl, tq4 3 rfl rfl, tq4 4 rfl rfl⟩
set_option maxRecDepth 20000 in
theorem kL_167 : CalV RL 167 8 mX8_taken 2 := ⟨okX8_taken, npX8_taken, ⟨by decide, _, rfl, rfl⟩, tq4 6 rfl rfl, tq4 7 rfl rfl, tq4 8 rfl rfl⟩
set_option maxRecDepth 20000 in
theorem kX8_248 : CalS RX8 248 mX8_isUnder 2 := ⟨okX8_isUnder, npX8_isUnder, tq4 10 rfl rfl, tq4 11 rfl rfl⟩
set_option maxRecDepth 20000 in
theorem kX8_251 : CalV RX8 251 0 mX0_numberOf 1 := ⟨okX0_numberOf, npX0_numberOf, ⟨by decide, _, rfl, rfl⟩, tq4 15 rfl rfl, tq4 16 rfl rfl, tq4 17 rfl rfl⟩
set_option maxRecDepth 20000 in
theorem kL_171 : CalV RL 171 8 mX8_image 0 := ⟨okX8_image, npX8_image, ⟨by decide, _, rfl, rfl⟩, tq4 19 rfl rfl, tq4 20 rfl rfl, tq4 21 rfl rfl⟩
set_option maxRecDepth 20000 in
theorem kX8_257 : CalV RX8 257 0 mX0_become 1 := ⟨okX0_become, npX0_become, ⟨by decide, _, rfl, rfl⟩, tq4 23 rfl rfl, tq4 24 rfl rfl, tq4 25 rfl rfl⟩
set_option maxRecDepth 20000 in
theorem kX0_31 : .methodLink RX0 31 (⟨"java/lang/System", "arraycopy", "(Ljava/lang/Object;ILjava/lang/Object;II)V"⟩ : MethodName) ∈ TT := tq4 27 rfl rfl
set_option maxRecDepth 20000 in
theorem kL_175 : CalV RL 175 8 mX8_back 0 := ⟨okX8_back, npX8_back, ⟨by decide, _, rfl, rfl⟩, tq4 28 rfl rfl, tq4 29 rfl rfl, tq4 30 rfl rfl⟩
set_option maxRecDepth 20000 in
theorem kL_179 : CalV RL 179 8 mX8_seed 1 := ⟨okX8_seed, npX8_seed, ⟨by decide, _, rfl, rfl⟩, tq4 32 rfl rfl, tq4 33 rfl rfl, tq4 34 rfl rfl⟩
set_option maxRecDepth 20000 in
theorem kL_183 : CalV RL 183 8 mX8_count 1 := ⟨okX8_count, npX8_count, ⟨by decide, _, rfl, rfl⟩, tq4 36 rfl rfl, tq4 37 rfl rfl, tq4 38 rfl rfl⟩
set_option maxRecDepth 20000 in
theorem kX8_260 : CalV RX8 260 8 mX8_countHeld 0 := ⟨okX8_countHeld, npX8_countHeld, ⟨by decide, _, rfl, rfl⟩, tq4 40 rfl rfl, tq4 42 rfl rfl, tq0 23 rfl rfl⟩
set_option maxRecDepth 20000 in
theorem kL_187 : CalV RL 187 8 mX8_status 1 := ⟨okX8_status, npX8_status, ⟨by decide, _, rfl, rfl⟩, tq4 44 rfl rfl, tq4 45 rfl rfl, tq4 46 rfl rfl⟩
set_option maxRecDepth 20000 in
theorem kL_12 : CalI RL 12 mX9_init 0 := ⟨okX9_init, npX9_init, rfl, rfl, tq4 50 rfl rfl, tq4 51 rfl rfl⟩
set_option maxRecDepth 20000 in
theorem kX9_1 : .methodLink RX9 1 Lib.objectInit ∈ TT := tq4 53 rfl rfl
set_option maxRecDepth 20000 in
theorem kL_17 : CalV RL 17 9 mX9_order 2 := ⟨okX9_order, npX9_order, ⟨by decide, _, rfl, rfl⟩, tq4 173 rfl rfl, tq4 174 rfl rfl, tq4 175 rfl rfl⟩
set_option maxRecDepth 20000 in
theorem kX9_108 : CalS RX9 108 mX9_in 3 := ⟨okX9_in, npX9_in, tq4 178 rfl rfl, tq4 179 rfl rfl⟩
set_option maxRecDepth 20000 in
theorem kX9_99 : CalS RX9 99 mX9_clubAt 2 := ⟨okX9_clubAt, npX9_clubAt, tq4 182 rfl rfl, tq4 183 rfl rfl⟩
set_option maxRecDepth 20000 in
theorem kX9_128 : CalV RX9 128 9 mX9_finds 1 := ⟨okX9_finds, npX9_finds, ⟨by decide, _, rfl, rfl⟩, tq4 185 rfl rfl, tq4 187 rfl rfl, tq0 24 rfl rfl⟩
set_option maxRecDepth 20000 in
theorem kL_21 : CalV RL 21 9 mX9_place 2 := ⟨okX9_place, npX9_place, ⟨by decide, _, rfl, rfl⟩, tq4 190 rfl rfl, tq4 191 rfl rfl, tq4 192 rfl rfl⟩
set_option maxRecDepth 20000 in
theorem kX9_132 : CalS RX9 132 mX9_isStanding 1 := ⟨okX9_isStanding, npX9_isStanding, tq4 194 rfl rfl, tq4 195 rfl rfl⟩
set_option maxRecDepth 20000 in
theorem kX9_136 : CalS RX9 136 mX9_isPick 1 := ⟨okX9_isPick, npX9_isPick, tq4 198 rfl rfl, tq4 199 rfl rfl⟩
set_option maxRecDepth 20000 in
theorem kX9_139 : CalS RX9 139 mX9_placeOf 2 := ⟨okX9_placeOf, npX9_placeOf, tq4 202 rfl rfl, tq4 203 rfl rfl⟩
set_option maxRecDepth 20000 in
theorem kX9_102 : CalS RX9 102 mX9_placeIn 3 := ⟨okX9_placeIn, npX9_placeIn, tq4 205 rfl rfl, tq4 206 rfl rfl⟩
set_option maxRecDepth 20000 in
theorem kX9_95 : CalS RX9 95 mX9_orderIn 2 := ⟨okX9_orderIn, npX9_orderIn, tq4 208 rfl rfl, tq4 209 rfl rfl⟩
set_option maxRecDepth 20000 in
theorem kL_26 : CalV RL 26 9 mX9_fall 1 := ⟨okX9_fall, npX9_fall, ⟨by decide, _, rfl, rfl⟩, tq4 211 rfl rfl, tq4 212 rfl rfl, tq4 213 rfl rfl⟩
set_option maxRecDepth 20000 in
theorem kL_30 : CalV RL 30 9 mX9_fallen 1 := ⟨okX9_fallen, npX9_fallen, ⟨by decide, _, rfl, rfl⟩, tq4 215 rfl rfl, tq4 216 rfl rfl, tq4 217 rfl rfl⟩
set_option maxRecDepth 20000 in
theorem kL_35 : CalV RL 35 9 mX9_draw 0 := ⟨okX9_draw, npX9_draw, ⟨by decide, _, rfl, rfl⟩, tq4 220 rfl rfl, tq4 221 rfl rfl, tq4 222 rfl rfl⟩
set_option maxRecDepth 20000 in
theorem kX9_119 : CalV RX9 119 9 mX9_openFrom 0 := ⟨okX9_openFrom, npX9_openFrom, ⟨by decide, _, rfl, rfl⟩, tq4 225 rfl rfl, tq4 227 rfl rfl, tq0 25 rfl rfl⟩
set_option maxRecDepth 20000 in
theorem kX9_123 : CalV RX9 123 9 mX9_openMany 0 := ⟨okX9_openMany, npX9_openMany, ⟨by decide, _, rfl, rfl⟩, tq4 229 rfl rfl, tq4 231 rfl rfl, tq0 26 rfl rfl⟩
set_option maxRecDepth 20000 in
theorem kL_40 : CalV RL 40 9 mX9_sale 5 := ⟨okX9_sale, npX9_sale, ⟨by decide, _, rfl, rfl⟩, tq4 233 rfl rfl, tq4 234 rfl rfl, tq4 235 rfl rfl⟩
set_option maxRecDepth 20000 in
theorem kX9_194 : CalS RX9 194 mX9_areTwo 2 := ⟨okX9_areTwo, npX9_areTwo, tq4 237 rfl rfl, tq4 238 rfl rfl⟩
set_option maxRecDepth 20000 in
theorem kX9_191 : CalS RX9 191 mX9_isClub 1 := ⟨okX9_isClub, npX9_isClub, tq5 0 rfl rfl, tq5 1 rfl rfl⟩
set_option maxRecDepth 20000 in
theorem kX9_197 : CalV RX9 197 9 mX9_comes 6 := ⟨okX9_comes, npX9_comes, ⟨by decide, _, rfl, rfl⟩, tq5 3 rfl rfl, tq5 5 rfl rfl, tq0 27 rfl rfl⟩
set_option maxRecDepth 20000 in
theorem kX9_180 : CalV RX9 180 9 mX9_holdsAlways 0 := ⟨okX9_holdsAlways, npX9_holdsAlways, ⟨by decide, _, rfl, rfl⟩, tq5 7 rfl rfl, tq5 9 rfl rfl, tq0 28 rfl rfl⟩
set_option maxRecDepth 20000 in
theorem kX9_183 : CalV RX9 183 9 mX9_lays 7 := ⟨okX9_lays, npX9_lays, ⟨by decide, _, rfl, rfl⟩, tq5 11 rfl rfl, tq5 13 rfl rfl, tq0 29 rfl rfl⟩
set_option maxRecDepth 20000 in
theorem kX9_187 : CalV RX9 187 9 mX9_isClashing 0 := ⟨okX9_isClashing, npX9_isClashing, ⟨by decide, _, rfl, rfl⟩, tq5 15 rfl rfl, tq5 17 rfl rfl, tq0 30 rfl rfl⟩
set_option maxRecDepth 20000 in
theorem kX9_170 : CalV RX9 170 9 mX9_laysOut 1 := ⟨okX9_laysOut, npX9_laysOut, ⟨by decide, _, rfl, rfl⟩, tq5 19 rfl rfl, tq5 21 rfl rfl, tq0 31 rfl rfl⟩
set_option maxRecDepth 20000 in
theorem kX9_158 : CalV RX9 158 9 mX9_conveyed 3 := ⟨okX9_conveyed, npX9_conveyed, ⟨by decide, _, rfl, rfl⟩, tq5 23 rfl rfl, tq5 25 rfl rfl, tq0 32 rfl rfl⟩
set_option maxRecDepth 20000 in
theorem kX9_151 : CalV RX9 151 9 mX9_isHolding 2 := ⟨okX9_isHolding, npX9_isHolding, ⟨by decide, _, rfl, rfl⟩, tq5 27 rfl rfl, tq5 29 rfl rfl, tq0 33 rfl rfl⟩
set_option maxRecDepth 20000 in
theorem kX9_155 : CalV RX9 155 9 mX9_goesOn 2 := ⟨okX9_goesOn, npX9_goesOn, ⟨by decide, _, rfl, rfl⟩, tq5 31 rfl rfl, tq5 33 rfl rfl, tq0 34 rfl rfl⟩
set_option maxRecDepth 20000 in
theorem kX9_145 : CalV RX9 145 9 mX9_its 2 := ⟨okX9_its, npX9_its, ⟨by decide, _, rfl, rfl⟩, tq5 35 rfl rfl, tq5 37 rfl rfl, tq0 35 rfl rfl⟩
set_option maxRecDepth 20000 in
theorem kX9_148 : CalS RX9 148 mX9_rolled 3 := ⟨okX9_rolled, npX9_rolled, tq5 39 rfl rfl, tq5 40 rfl rfl⟩
set_option maxRecDepth 20000 in
theorem kX9_174 : CalV RX9 174 9 mX9_clashOf 1 := ⟨okX9_clashOf, npX9_clashOf, ⟨by decide, _, rfl, rfl⟩, tq5 42 rfl rfl, tq5 44 rfl rfl, tq0 36 rfl rfl⟩
set_option maxRecDepth 20000 in
theorem kX9_164 : CalV RX9 164 9 mX9_goesTo 2 := ⟨okX9_goesTo, npX9_goesTo, ⟨by decide, _, rfl, rfl⟩, tq5 46 rfl rfl, tq5 48 rfl rfl, tq0 37 rfl rfl⟩
set_option maxRecDepth 20000 in
theorem kX9_167 : CalV RX9 167 9 mX9_chains 1 := ⟨okX9_chains, npX9_chains, ⟨by decide, _, rfl, rfl⟩, tq5 50 rfl rfl, tq5 52 rfl rfl, tq0 38 rfl rfl⟩
set_option maxRecDepth 20000 in
theorem kL_44 : CalV RL 44 9 mX9_swap 5 := ⟨okX9_swap, npX9_swap, ⟨by decide, _, rfl, rfl⟩, tq5 54 rfl rfl, tq5 55 rfl rfl, tq5 56 rfl rfl⟩
set_option maxRecDepth 20000 in
theorem kX9_201 : CalS RX9 201 mX9_areOfYear 2 := ⟨okX9_areOfYear, npX9_areOfYear, tq5 58 rfl rfl, tq5 59 rfl rfl⟩
set_option maxRecDepth 20000 in
theorem kL_52 : CalV RL 52 9 mX9_of 2 := ⟨okX9_of, npX9_of, ⟨by decide, _, rfl, rfl⟩, tq5 61 rfl rfl, tq5 62 rfl rfl, tq5 63 rfl rfl⟩
set_option maxRecDepth 20000 in
theorem kX9_207 : CalV RX9 207 9 mX9_isDeal 1 := ⟨okX9_isDeal, npX9_isDeal, ⟨by decide, _, rfl, rfl⟩, tq5 65 rfl rfl, tq5 67 rfl rfl, tq0 39 rfl rfl⟩
set_option maxRecDepth 20000 in
theorem kX9_212 : CalV RX9 212 9 mX9_standing 1 := ⟨okX9_standing, npX9_standing, ⟨by decide, _, rfl, rfl⟩, tq5 70 rfl rfl, tq5 72 rfl rfl, tq0 40 rfl rfl⟩
set_option maxRecDepth 20000 in
theorem kX9_204 : CalV RX9 204 9 mX9_isLapsing 2 := ⟨okX9_isLapsing, npX9_isLapsing, ⟨by decide, _, rfl, rfl⟩, tq5 74 rfl rfl, tq5 76 rfl rfl, tq0 41 rfl rfl⟩
set_option maxRecDepth 20000 in
theorem kL_56 : CalV RL 56 9 mX9_holds 2 := ⟨okX9_holds, npX9_holds, ⟨by decide, _, rfl, rfl⟩, tq5 78 rfl rfl, tq5 79 rfl rfl, tq5 80 rfl rfl⟩
set_option maxRecDepth 20000 in
theorem kL_61 : CalV RL 61 9 mX9_conveys 3 := ⟨okX9_conveys, npX9_conveys, ⟨by decide, _, rfl, rfl⟩, tq5 82 rfl rfl, tq5 83 rfl rfl, tq5 84 rfl rfl⟩
set_option maxRecDepth 20000 in
theorem kL_65 : CalV RL 65 9 mX9_drop 0 := ⟨okX9_drop, npX9_drop, ⟨by decide, _, rfl, rfl⟩, tq5 86 rfl rfl, tq5 87 rfl rfl, tq5 88 rfl rfl⟩
set_option maxRecDepth 20000 in
theorem kL_69 : CalV RL 69 9 mX9_prune 0 := ⟨okX9_prune, npX9_prune, ⟨by decide, _, rfl, rfl⟩, tq5 90 rfl rfl, tq5 91 rfl rfl, tq5 92 rfl rfl⟩
set_option maxRecDepth 20000 in
theorem kX9_215 : CalV RX9 215 9 mX9_moves 2 := ⟨okX9_moves, npX9_moves, ⟨by decide, _, rfl, rfl⟩, tq5 94 rfl rfl, tq5 96 rfl rfl, tq0 42 rfl rfl⟩
set_option maxRecDepth 20000 in
theorem kL_73 : CalV RL 73 9 mX9_clash 1 := ⟨okX9_clash, npX9_clash, ⟨by decide, _, rfl, rfl⟩, tq5 98 rfl rfl, tq5 99 rfl rfl, tq5 100 rfl rfl⟩
set_option maxRecDepth 20000 in
theorem kL_77 : CalV RL 77 9 mX9_owner 2 := ⟨okX9_owner, npX9_owner, ⟨by decide, _, rfl, rfl⟩, tq5 102 rfl rfl, tq5 103 rfl rfl, tq5 104 rfl rfl⟩
set_option maxRecDepth 20000 in
theorem kX9_222 : CalV RX9 222 9 mX9_isOpen 1 := ⟨okX9_isOpen, npX9_isOpen, ⟨by decide, _, rfl, rfl⟩, tq5 106 rfl rfl, tq5 108 rfl rfl, tq0 43 rfl rfl⟩
set_option maxRecDepth 20000 in
theorem kX9_225 : CalV RX9 225 9 mX9_ownerUnder 2 := ⟨okX9_ownerUnder, npX9_ownerUnder, ⟨by decide, _, rfl, rfl⟩, tq5 110 rfl rfl, tq5 112 rfl rfl, tq0 44 rfl rfl⟩
set_option maxRecDepth 20000 in
theorem kX9_219 : CalV RX9 219 9 mX9_ownerOf 1 := ⟨okX9_ownerOf, npX9_ownerOf, ⟨by decide, _, rfl, rfl⟩, tq5 114 rfl rfl, tq5 116 rfl rfl, tq0 45 rfl rfl⟩
set_option maxRecDepth 20000 in
theorem kL_81 : CalV RL 81 9 mX9_chain 3 := ⟨okX9_chain, npX9_chain, ⟨by decide, _, rfl, rfl⟩, tq5 118 rfl rfl, tq5 119 rfl rfl, tq5 120 rfl rfl⟩
set_option maxRecDepth 20000 in
theorem kL_85 : CalV RL 85 9 mX9_hand 2 := ⟨okX9_hand, npX9_hand, ⟨by decide, _, rfl, rfl⟩, tq5 122 rfl rfl, tq5 123 rfl rfl, tq5 124 rfl rfl⟩
set_option maxRecDepth 20000 in
theorem kL_89 : CalV RL 89 9 mX9_owners 1 := ⟨okX9_owners, npX9_owners, ⟨by decide, _, rfl, rfl⟩, tq5 126 rfl rfl, tq5 127 rfl rfl, tq5 128 rfl rfl⟩
set_option maxRecDepth 20000 in
theorem kX9_228 : CalV RX9 228 9 mX9_chanceOf 2 := ⟨okX9_chanceOf, npX9_chanceOf, ⟨by decide, _, rfl, rfl⟩, tq5 130 rfl rfl, tq5 132 rfl rfl, tq0 46 rfl rfl⟩
set_option maxRecDepth 20000 in
theorem kL_93 : CalV RL 93 9 mX9_sure 1 := ⟨okX9_sure, npX9_sure, ⟨by decide, _, rfl, rfl⟩, tq5 134 rfl rfl, tq5 135 rfl rfl, tq5 136 rfl rfl⟩
set_option maxRecDepth 20000 in
theorem kL_97 : CalV RL 97 9 mX9_chance 2 := ⟨okX9_chance, npX9_chance, ⟨by decide, _, rfl, rfl⟩, tq5 138 rfl rfl, tq5 139 rfl rfl, tq5 140 rfl rfl⟩
set_option maxRecDepth 20000 in
theorem kL_101 : CalV RL 101 9 mX9_least 2 := ⟨okX9_least, npX9_least, ⟨by decide, _, rfl, rfl⟩, tq5 142 rfl rfl, tq5 143 rfl rfl, tq5 144 rfl rfl⟩
set_option maxRecDepth 20000 in
theorem kL_105 : CalV RL 105 9 mX9_price 2 := ⟨okX9_price, npX9_price, ⟨by decide, _, rfl, rfl⟩, tq5 146 rfl rfl, tq5 147 rfl rfl, tq5 148 rfl rfl⟩
set_option maxRecDepth 20000 in
theorem kL_109 : CalV RL 109 9 mX9_worth 2 := ⟨okX9_worth, npX9_worth, ⟨by decide, _, rfl, rfl⟩, tq5 151 rfl rfl, tq5 152 rfl rfl, tq5 153 rfl rfl⟩
set_option maxRecDepth 20000 in
theorem kX9_233 : CalV RX9 233 9 mX9_worthOf 2 := ⟨okX9_worthOf, npX9_worthOf, ⟨by decide, _, rfl, rfl⟩, tq5 155 rfl rfl, tq5 157 rfl rfl, tq0 47 rfl rfl⟩
set_option maxRecDepth 20000 in
theorem kL_114 : CalV RL 114 9 mX9_value 1 := ⟨okX9_value, npX9_value, ⟨by decide, _, rfl, rfl⟩, tq5 159 rfl rfl, tq5 160 rfl rfl, tq5 161 rfl rfl⟩
set_option maxRecDepth 20000 in
theorem kX9_236 : CalV RX9 236 9 mX9_valueFrom 3 := ⟨okX9_valueFrom, npX9_valueFrom, ⟨by decide, _, rfl, rfl⟩, tq5 163 rfl rfl, tq5 165 rfl rfl, tq0 48 rfl rfl⟩
set_option maxRecDepth 20000 in
theorem kX9_240 : CalV RX9 240 9 mX9_findsFar 1 := ⟨okX9_findsFar, npX9_findsFar, ⟨by decide, _, rfl, rfl⟩, tq5 167 rfl rfl, tq5 169 rfl rfl, tq0 49 rfl rfl⟩
set_option maxRecDepth 20000 in
theorem kL_118 : CalV RL 118 9 mX9_best 2 := ⟨okX9_best, npX9_best, ⟨by decide, _, rfl, rfl⟩, tq5 172 rfl rfl, tq5 173 rfl rfl, tq5 174 rfl rfl⟩
set_option maxRecDepth 20000 in
theorem kL_122 : CalV RL 122 9 mX9_hope 1 := ⟨okX9_hope, npX9_hope, ⟨by decide, _, rfl, rfl⟩, tq5 176 rfl rfl, tq5 177 rfl rfl, tq5 178 rfl rfl⟩
set_option maxRecDepth 20000 in
theorem kL_138 : CalV RL 138 9 mX9_feed 2 := ⟨okX9_feed, npX9_feed, ⟨by decide, _, rfl, rfl⟩, tq5 181 rfl rfl, tq5 182 rfl rfl, tq5 183 rfl rfl⟩
set_option maxRecDepth 20000 in
theorem kL_142 : CalV RL 142 9 mX9_wipe 0 := ⟨okX9_wipe, npX9_wipe, ⟨by decide, _, rfl, rfl⟩, tq5 186 rfl rfl, tq5 187 rfl rfl, tq5 188 rfl rfl⟩
set_option maxRecDepth 20000 in
theorem kL_48 : CalV RL 48 9 mX9_text 0 := ⟨okX9_text, npX9_text, ⟨by decide, _, rfl, rfl⟩, tq5 190 rfl rfl, tq5 191 rfl rfl, tq5 192 rfl rfl⟩
set_option maxRecDepth 20000 in
theorem kX9_340 : CalV RX9 340 9 mX9_isTextClashing 0 := ⟨okX9_isTextClashing, npX9_isTextClashing, ⟨by decide, _, rfl, rfl⟩, tq5 194 rfl rfl, tq5 196 rfl rfl, tq0 50 rfl rfl⟩
set_option maxRecDepth 20000 in
theorem kX9_278 : CalV RX9 278 9 mX9_token 0 := ⟨okX9_token, npX9_token, ⟨by decide, _, rfl, rfl⟩, tq5 198 rfl rfl, tq5 200 rfl rfl, tq0 51 rfl rfl⟩
set_option maxRecDepth 20000 in
theorem kX9_265 : CalV RX9 265 9 mX9_byteAt 1 := ⟨okX9_byteAt, npX9_byteAt, ⟨by decide, _, rfl, rfl⟩, tq5 202 rfl rfl, tq5 204 rfl rfl, tq0 52 rfl rfl⟩
set_option maxRecDepth 20000 in
theorem kX9_268 : CalS RX9 268 mX9_isLetter 1 := ⟨okX9_isLetter, npX9_isLetter, tq5 206 rfl rfl, tq5 207 rfl rfl⟩
set_option maxRecDepth 20000 in
theorem kX9_271 : CalS RX9 271 mX9_isDigit 1 := ⟨okX9_isDigit, npX9_isDigit, tq5 211 rfl rfl, tq5 212 rfl rfl⟩
set_option maxRecDepth 20000 in
theorem kX9_337 : CalV RX9 337 9 mX9_isItemClashing 0 := ⟨okX9_isItemClashing, npX9_isItemClashing, ⟨by decide, _, rfl, rfl⟩, tq5 216 rfl rfl, tq5 218 rfl rfl, tq0 53 rfl rfl⟩
set_option maxRecDepth 20000 in
theorem kX9_281 : CalV RX9 281 9 mX9_isWord 1 := ⟨okX9_isWord, npX9_isWord, ⟨by decide, _, rfl, rfl⟩, tq5 220 rfl rfl, tq5 222 rfl rfl, tq0 54 rfl rfl⟩
set_option maxRecDepth 20000 in
theorem kX9_287 : CalV RX9 287 9 mX9_must 1 := ⟨okX9_must, npX9_must, ⟨by decide, _, rfl, rfl⟩, tq5 224 rfl rfl, tq5 226 rfl rfl, tq0 55 rfl rfl⟩
set_option maxRecDepth 20000 in
theorem kX9_294 : CalV RX9 294 9 mX9_number 2 := ⟨okX9_number, npX9_number, ⟨by decide, _, rfl, rfl⟩, tq5 228 rfl rfl, tq5 230 rfl rfl, tq0 56 rfl rfl⟩
set_option maxRecDepth 20000 in
theorem kX9_284 : CalV RX9 284 9 mX9_numberHere 0 := ⟨okX9_numberHere, npX9_numberHere, ⟨by decide, _, rfl, rfl⟩, tq5 232 rfl rfl, tq5 234 rfl rfl, tq0 57 rfl rfl⟩
set_option maxRecDepth 20000 in
theorem kX9_312 : CalV RX9 312 9 mX9_takes 1 := ⟨okX9_takes, npX9_takes, ⟨by decide, _, rfl, rfl⟩, tq5 236 rfl rfl, tq5 238 rfl rfl, tq0 58 rfl rfl⟩
set_option maxRecDepth 20000 in
theorem kX9_309 : CalV RX9 309 9 mX9_either 0 := ⟨okX9_either, npX9_either, ⟨by decide, _, rfl, rfl⟩, tq6 0 rfl rfl, tq6 2 rfl rfl, tq0 59 rfl rfl⟩
set_option maxRecDepth 20000 in
theorem kX9_322 : CalV RX9 322 9 mX9_both 0 := ⟨okX9_both, npX9_both, ⟨by decide, _, rfl, rfl⟩, tq6 4 rfl rfl, tq6 6 rfl rfl, tq0 60 rfl rfl⟩
set_option maxRecDepth 20000 in
theorem kX9_306 : CalV RX9 306 9 mX9_factor 0 := ⟨okX9_factor, npX9_factor, ⟨by decide, _, rfl, rfl⟩, tq6 8 rfl rfl, tq6 10 rfl rfl, tq0 61 rfl rfl⟩
set_option maxRecDepth 20000 in
theorem kX9_300 : CalV RX9 300 9 mX9_isSign 1 := ⟨okX9_isSign, npX9_isSign, ⟨by decide, _, rfl, rfl⟩, tq6 12 rfl rfl, tq6 14 rfl rfl, tq0 62 rfl rfl⟩
set_option maxRecDepth 20000 in
theorem kX9_297 : CalV RX9 297 9 mX9_codes 1 := ⟨okX9_codes, npX9_codes, ⟨by decide, _, rfl, rfl⟩, tq6 16 rfl rfl, tq6 18 rfl rfl, tq0 63 rfl rfl⟩
set_option maxRecDepth 20000 in
theorem kX9_315 : CalV RX9 315 9 mX9_three 2 := ⟨okX9_three, npX9_three, ⟨by decide, _, rfl, rfl⟩, tq6 20 rfl rfl, tq6 22 rfl rfl, tq0 64 rfl rfl⟩
set_option maxRecDepth 20000 in
theorem kX9_334 : CalV RX9 334 9 mX9_laysCondition 0 := ⟨okX9_laysCondition, npX9_laysCondition, ⟨by decide, _, rfl, rfl⟩, tq6 24 rfl rfl, tq6 26 rfl rfl, tq0 65 rfl rfl⟩
set_option maxRecDepth 20000 in
theorem kX9_328 : CalV RX9 328 9 mX9_isTrue 1 := ⟨okX9_isTrue, npX9_isTrue, ⟨by decide, _, rfl, rfl⟩, tq6 28 rfl rfl, tq6 30 rfl rfl, tq0 66 rfl rfl⟩
set_option maxRecDepth 20000 in
theorem kX9_325 : CalV RX9 325 9 mX9_isTest 2 := ⟨okX9_isTest, npX9_isTest, ⟨by decide, _, rfl, rfl⟩, tq6 32 rfl rfl, tq6 34 rfl rfl, tq0 67 rfl rfl⟩
set_option maxRecDepth 20000 in
theorem kL_146 : CalV RL 146 9 mX9_sheet 3 := ⟨okX9_sheet, npX9_sheet, ⟨by decide, _, rfl, rfl⟩, tq6 36 rfl rfl, tq6 37 rfl rfl, tq6 38 rfl rfl⟩
set_option maxRecDepth 20000 in
theorem kX9_343 : CalS RX9 343 mX9_isSheet 1 := ⟨okX9_isSheet, npX9_isSheet, tq6 40 rfl rfl, tq6 41 rfl rfl⟩
set_option maxRecDepth 20000 in
theorem kL_153 : CalV RL 153 9 mX9_write 3 := ⟨okX9_write, npX9_write, ⟨by decide, _, rfl, rfl⟩, tq6 43 rfl rfl, tq6 44 rfl rfl, tq6 45 rfl rfl⟩
set_option maxRecDepth 20000 in
theorem kX9_346 : CalS RX9 346 mX9_narrowed 2 := ⟨okX9_narrowed, npX9_narrowed, tq6 47 rfl rfl, tq6 48 rfl rfl⟩
set_option maxRecDepth 20000 in
theorem kL_158 : CalV RL 158 9 mX9_item 2 := ⟨okX9_item, npX9_item, ⟨by decide, _, rfl, rfl⟩, tq6 50 rfl rfl, tq6 51 rfl rfl, tq6 52 rfl rfl⟩
set_option maxRecDepth 20000 in
theorem kL_162 : CalV RL 162 9 mX9_copy 5 := ⟨okX9_copy, npX9_copy, ⟨by decide, _, rfl, rfl⟩, tq6 54 rfl rfl, tq6 55 rfl rfl, tq6 56 rfl rfl⟩
set_option maxRecDepth 20000 in
theorem kL_126 : CalV RL 126 9 mX9_rounds 2 := ⟨okX9_rounds, npX9_rounds, ⟨by decide, _, rfl, rfl⟩, tq6 58 rfl rfl, tq6 59 rfl rfl, tq6 60 rfl rfl⟩
set_option maxRecDepth 20000 in
theorem kX9_353 : CalV RX9 353 9 mX9_areAll 1 := ⟨okX9_areAll, npX9_areAll, ⟨by decide, _, rfl, rfl⟩, tq6 62 rfl rfl, tq6 64 rfl rfl, tq0 68 rfl rfl⟩
set_option maxRecDepth 20000 in
theorem kX9_356 : CalV RX9 356 9 mX9_goesOver 1 := ⟨okX9_goesOver, npX9_goesOver, ⟨by decide, _, rfl, rfl⟩, tq6 66 rfl rfl, tq6 68 rfl rfl, tq0 69 rfl rfl⟩
set_option maxRecDepth 20000 in
theorem kX9_350 : CalV RX9 350 9 mX9_goesBy 2 := ⟨okX9_goesBy, npX9_goesBy, ⟨by decide, _, rfl, rfl⟩, tq6 70 rfl rfl, tq6 72 rfl rfl, tq0 70 rfl rfl⟩
set_option maxRecDepth 20000 in
theorem kL_130 : CalV RL 130 9 mX9_lays_ 2 := ⟨okX9_lays_, npX9_lays_, ⟨by decide, _, rfl, rfl⟩, tq6 74 rfl rfl, tq6 75 rfl rfl, tq6 76 rfl rfl⟩
set_option maxRecDepth 20000 in
theorem kL_134 : CalV RL 134 9 mX9_judge 2 := ⟨okX9_judge, npX9_judge, ⟨by decide, _, rfl, rfl⟩, tq6 78 rfl rfl, tq6 79 rfl rfl, tq6 80 rfl rfl⟩
set_option maxRecDepth 20000 in
theorem kL_166 : CalV RL 166 9 mX9_hold 2 := ⟨okX9_hold, npX9_hold, ⟨by decide, _, rfl, rfl⟩, tq6 82 rfl rfl, tq6 83 rfl rfl, tq6 84 rfl rfl⟩
set_option maxRecDepth 20000 in
theorem kX9_359 : CalS RX9 359 mX9_isSpot 1 := ⟨okX9_isSpot, npX9_isSpot, tq6 86 rfl rfl, tq6 87 rfl rfl⟩
set_option maxRecDepth 20000 in
theorem kL_170 : CalV RL 170 9 mX9_taken 2 := ⟨okX9_taken, npX9_taken, ⟨by decide, _, rfl, rfl⟩, tq6 89 rfl rfl, tq6 90 rfl rfl, tq6 91 rfl rfl⟩
set_option maxRecDepth 20000 in
theorem kX9_362 : CalS RX9 362 mX9_isUnder 2 := ⟨okX9_isUnder, npX9_isUnder, tq6 93 rfl rfl, tq6 94 rfl rfl⟩
set_option maxRecDepth 20000 in
theorem kL_174 : CalV RL 174 9 mX9_image 0 := ⟨okX9_image, npX9_image, ⟨by decide, _, rfl, rfl⟩, tq6 96 rfl rfl, tq6 97 rfl rfl, tq6 98 rfl rfl⟩
set_option maxRecDepth 20000 in
theorem kL_178 : CalV RL 178 9 mX9_back 0 := ⟨okX9_back, npX9_back, ⟨by decide, _, rfl, rfl⟩, tq6 100 rfl rfl, tq6 101 rfl rfl, tq6 102 rfl rfl⟩
set_option maxRecDepth 20000 in
theorem kL_182 : CalV RL 182 9 mX9_seed 1 := ⟨okX9_seed, npX9_seed, ⟨by decide, _, rfl, rfl⟩, tq6 104 rfl rfl, tq6 105 rfl rfl, tq6 106 rfl rfl⟩
set_option maxRecDepth 20000 in
theorem kL_186 : CalV RL 186 9 mX9_count 1 := ⟨okX9_count, npX9_count, ⟨by decide, _, rfl, rfl⟩, tq6 108 rfl rfl, tq6 109 rfl rfl, tq6 110 rfl rfl⟩
set_option maxRecDepth 20000 in
theorem kL_190 : CalV RL 190 9 mX9_status 1 := ⟨okX9_status, npX9_status, ⟨by decide, _, rfl, rfl⟩, tq6 112 rfl rfl, tq6 113 rfl rfl, tq6 114 rfl rfl⟩
set_option maxRecDepth 20000 in
theorem w_objI : .instanceMethod Lib.objectInit ∈ TT := tq1 23 rfl rfl
set_option maxRecDepth 20000 in
theorem w_objC : .code Lib.objectInit ⟨#[0xb1]⟩ 1 none ∈ TT := tq1 24 rfl rfl
-- fields
set_option maxRecDepth 20000 in
theorem fX0_11 : Fld RX0 11 0 0 (.array (.object "RolledPicks$Deal")) true := ⟨_, rfl, by decide, tq1 33 rfl rfl, rfl, rfl, rfl⟩
set_option maxRecDepth 20000 in
theorem fX8_166 : Fld RX8 166 0 0 (.array (.object "RolledPicks$Deal")) true := ⟨_, rfl, by decide, tq1 34 rfl rfl, rfl, rfl, rfl⟩
set_option maxRecDepth 20000 in
theorem fX0_28 : Fld RX0 28 0 1 (.int) false := ⟨_, rfl, by decide, tq1 35 rfl rfl, rfl, rfl, rfl⟩
set_option maxRecDepth 20000 in
theorem fX3_60 : Fld RX3 60 0 1 (.int) false := ⟨_, rfl, by decide, tq1 36 rfl rfl, rfl, rfl, rfl⟩
set_option maxRecDepth 20000 in
theorem fX8_101 : Fld RX8 101 0 1 (.int) false := ⟨_, rfl, by decide, tq1 37 rfl rfl, rfl, rfl, rfl⟩
set_option maxRecDepth 20000 in
theorem fX0_17 : Fld RX0 17 0 2 (.array .int) true := ⟨_, rfl, by decide, tq1 38 rfl rfl, rfl, rfl, rfl⟩
set_option maxRecDepth 20000 in
theorem fX8_77 : Fld RX8 77 0 2 (.array .int) true := ⟨_, rfl, by decide, tq1 39 rfl rfl, rfl, rfl, rfl⟩
set_option maxRecDepth 20000 in
theorem fX0_37 : Fld RX0 37 0 3 (.int) false := ⟨_, rfl, by decide, tq1 40 rfl rfl, rfl, rfl, rfl⟩
set_option maxRecDepth 20000 in
theorem fX8_73 : Fld RX8 73 0 3 (.int) false := ⟨_, rfl, by decide, tq1 41 rfl rfl, rfl, rfl, rfl⟩
set_option maxRecDepth 20000 in
theorem fX3_75 : Fld RX3 75 0 3 (.int) false := ⟨_, rfl, by decide, tq1 42 rfl rfl, rfl, rfl, rfl⟩
set_option maxRecDepth 20000 in
theorem fX0_21 : Fld RX0 21 0 4 (.array .int) true := ⟨_, rfl, by decide, tq1 43 rfl rfl, rfl, rfl, rfl⟩
set_option maxRecDepth 20000 in
theorem fX8_184 : Fld RX8 184 0 4 (.array .int) true := ⟨_, rfl, by decide, tq1 44 rfl rfl, rfl, rfl, rfl⟩
set_option maxRecDepth 20000 in
theorem fX0_24 : Fld RX0 24 0 5 (.int) false := ⟨_, rfl, by decide, tq1 45 rfl rfl, rfl, rfl, rfl⟩
set_option maxRecDepth 20000 in
theorem fX8_80 : Fld RX8 80 0 5 (.int) false := ⟨_, rfl, by decide, tq1 46 rfl rfl, rfl, rfl, rfl⟩
set_option maxRecDepth 20000 in
theorem fX2_9 : Fld RX2 9 2 0 (.array .int) true := ⟨_, rfl, by decide, tq1 68 rfl rfl, rfl, rfl, rfl⟩
set_option maxRecDepth 20000 in
theorem fX7_9 : Fld RX7 9 7 0 (.array .byte) true := ⟨_, rfl, by decide, tq1 84 rfl rfl, rfl, rfl, rfl⟩
set_option maxRecDepth 20000 in
theorem fX7_15 : Fld RX7 15 7 1 (.int) false := ⟨_, rfl, by decide, tq1 85 rfl rfl, rfl, rfl, rfl⟩
set_option maxRecDepth 20000 in
theorem fX8_112 : Fld RX8 112 7 1 (.int) false := ⟨_, rfl, by decide, tq1 86 rfl rfl, rfl, rfl, rfl⟩
set_option maxRecDepth 20000 in
theorem fX7_25 : Fld RX7 25 7 2 (.int) false := ⟨_, rfl, by decide, tq1 87 rfl rfl, rfl, rfl, rfl⟩
set_option maxRecDepth 20000 in
theorem fX7_19 : Fld RX7 19 7 3 (.int) false := ⟨_, rfl, by decide, tq1 88 rfl rfl, rfl, rfl, rfl⟩
set_option maxRecDepth 20000 in
theorem fX6_11 : Fld RX6 11 6 0 (.array .long) true := ⟨_, rfl, by decide, tq1 107 rfl rfl, rfl, rfl, rfl⟩
set_option maxRecDepth 20000 in
theorem fX3_12 : Fld RX3 12 3 0 (.object "RolledPicks$Tape") true := ⟨_, rfl, by decide, tq1 112 rfl rfl, rfl, rfl, rfl⟩
set_option maxRecDepth 20000 in
theorem fX8_108 : Fld RX8 108 3 0 (.object "RolledPicks$Tape") true := ⟨_, rfl, by decide, tq1 113 rfl rfl, rfl, rfl, rfl⟩
set_option maxRecDepth 20000 in
theorem fX3_20 : Fld RX3 20 3 1 (.array (.object "RolledPicks$Deal")) true := ⟨_, rfl, by decide, tq1 114 rfl rfl, rfl, rfl, rfl⟩
set_option maxRecDepth 20000 in
theorem fX3_31 : Fld RX3 31 3 2 (.int) false := ⟨_, rfl, by decide, tq1 115 rfl rfl, rfl, rfl, rfl⟩
set_option maxRecDepth 20000 in
theorem fX3_26 : Fld RX3 26 3 3 (.array (.object "RolledPicks$Standings")) true := ⟨_, rfl, by decide, tq1 116 rfl rfl, rfl, rfl, rfl⟩
set_option maxRecDepth 20000 in
theorem fX5_9 : Fld RX5 9 5 0 (.array .long) true := ⟨_, rfl, by decide, tq1 134 rfl rfl, rfl, rfl, rfl⟩
set_option maxRecDepth 20000 in
theorem fX8_225 : Fld RX8 225 5 0 (.array .long) true := ⟨_, rfl, by decide, tq1 135 rfl rfl, rfl, rfl, rfl⟩
set_option maxRecDepth 20000 in
theorem fX5_15 : Fld RX5 15 5 1 (.int) false := ⟨_, rfl, by decide, tq1 136 rfl rfl, rfl, rfl, rfl⟩
set_option maxRecDepth 20000 in
theorem fX8_236 : Fld RX8 236 5 1 (.int) false := ⟨_, rfl, by decide, tq1 137 rfl rfl, rfl, rfl, rfl⟩
set_option maxRecDepth 20000 in
theorem fX5_19 : Fld RX5 19 5 2 (.int) false := ⟨_, rfl, by decide, tq1 138 rfl rfl, rfl, rfl, rfl⟩
set_option maxRecDepth 20000 in
theorem fX8_207 : Fld RX8 207 5 2 (.int) false := ⟨_, rfl, by decide, tq1 139 rfl rfl, rfl, rfl, rfl⟩
set_option maxRecDepth 20000 in
theorem fX8_10 : Fld RX8 10 8 0 (.object "RolledPicks$Book") true := ⟨_, rfl, by decide, tq1 152 rfl rfl, rfl, rfl, rfl⟩
set_option maxRecDepth 20000 in
theorem fX8_16 : Fld RX8 16 8 1 (.array (.object "RolledPicks$Book")) true := ⟨_, rfl, by decide, tq1 153 rfl rfl, rfl, rfl, rfl⟩
set_option maxRecDepth 20000 in
theorem fX8_254 : Fld RX8 254 8 2 (.int) false := ⟨_, rfl, by decide, tq1 154 rfl rfl, rfl, rfl, rfl⟩
set_option maxRecDepth 20000 in
theorem fX8_23 : Fld RX8 23 8 3 (.object "RolledPicks$Owners") true := ⟨_, rfl, by decide, tq1 155 rfl rfl, rfl, rfl, rfl⟩
set_option maxRecDepth 20000 in
theorem fX8_30 : Fld RX8 30 8 4 (.object "RolledPicks$Reader") true := ⟨_, rfl, by decide, tq1 156 rfl rfl, rfl, rfl, rfl⟩
set_option maxRecDepth 20000 in
theorem fX8_36 : Fld RX8 36 8 5 (.array (.object "RolledPicks$Sheet")) true := ⟨_, rfl, by decide, tq1 157 rfl rfl, rfl, rfl, rfl⟩
set_option maxRecDepth 20000 in
theorem fX8_42 : Fld RX8 42 8 6 (.array (.object "RolledPicks$Deal")) true := ⟨_, rfl, by decide, tq1 158 rfl rfl, rfl, rfl, rfl⟩
set_option maxRecDepth 20000 in
theorem fX8_46 : Fld RX8 46 8 7 (.array .int) true := ⟨_, rfl, by decide, tq1 159 rfl rfl, rfl, rfl, rfl⟩
set_option maxRecDepth 20000 in
theorem fX8_50 : Fld RX8 50 8 8 (.array .int) true := ⟨_, rfl, by decide, tq1 160 rfl rfl, rfl, rfl, rfl⟩
set_option maxRecDepth 20000 in
theorem gX8_66 : .fieldLink RX8 66 RX8 "CLUB_AT" "[I" ∈ TT := tq1 192 rfl rfl
set_option maxRecDepth 20000 in
theorem gX8_198 : .fieldLink RX8 198 RX8 "YEAR_STEP" "[I" ∈ TT := tq1 201 rfl rfl
set_option maxRecDepth 20000 in
theorem gX8_263 : .fieldLink RX8 263 RX8 "PLACE_OF" "[I" ∈ TT := tq1 203 rfl rfl
theorem gX0_40 : .fieldLinkNest RX0 40 RX8 "YEAR_STEP" "[I" RX8 ∈ nestW := by simp [nestW]
theorem gX0_43 : .fieldLinkNest RX0 43 RX8 "OPEN_LEFT" "[I" RX8 ∈ nestW := by simp [nestW]
set_option maxRecDepth 20000 in
theorem fX1_9 : Fld RX1 9 1 0 (.int) true := ⟨_, rfl, by decide, tq2 1 rfl rfl, rfl, rfl, rfl⟩
set_option maxRecDepth 20000 in
theorem fX8_131 : Fld RX8 131 1 0 (.int) true := ⟨_, rfl, by decide, tq2 2 rfl rfl, rfl, rfl, rfl⟩
set_option maxRecDepth 20000 in
theorem fX1_15 : Fld RX1 15 1 1 (.int) true := ⟨_, rfl, by decide, tq2 3 rfl rfl, rfl, rfl, rfl⟩
set_option maxRecDepth 20000 in
theorem fX4_25 : Fld RX4 25 1 1 (.int) true := ⟨_, rfl, by decide, tq2 4 rfl rfl, rfl, rfl, rfl⟩
set_option maxRecDepth 20000 in
theorem fX2_33 : Fld RX2 33 1 1 (.int) true := ⟨_, rfl, by decide, tq2 5 rfl rfl, rfl, rfl, rfl⟩
set_option maxRecDepth 20000 in
theorem fX8_134 : Fld RX8 134 1 1 (.int) true := ⟨_, rfl, by decide, tq2 6 rfl rfl, rfl, rfl, rfl⟩
set_option maxRecDepth 20000 in
theorem fX1_18 : Fld RX1 18 1 2 (.int) true := ⟨_, rfl, by decide, tq2 7 rfl rfl, rfl, rfl, rfl⟩
set_option maxRecDepth 20000 in
theorem fX4_31 : Fld RX4 31 1 2 (.int) true := ⟨_, rfl, by decide, tq2 8 rfl rfl, rfl, rfl, rfl⟩
set_option maxRecDepth 20000 in
theorem fX2_22 : Fld RX2 22 1 2 (.int) true := ⟨_, rfl, by decide, tq2 9 rfl rfl, rfl, rfl, rfl⟩
set_option maxRecDepth 20000 in
theorem fX8_137 : Fld RX8 137 1 2 (.int) true := ⟨_, rfl, by decide, tq2 10 rfl rfl, rfl, rfl, rfl⟩
set_option maxRecDepth 20000 in
theorem fX1_21 : Fld RX1 21 1 3 (.int) true := ⟨_, rfl, by decide, tq2 11 rfl rfl, rfl, rfl, rfl⟩
set_option maxRecDepth 20000 in
theorem fX8_140 : Fld RX8 140 1 3 (.int) true := ⟨_, rfl, by decide, tq2 12 rfl rfl, rfl, rfl, rfl⟩
set_option maxRecDepth 20000 in
theorem fX1_24 : Fld RX1 24 1 4 (.int) true := ⟨_, rfl, by decide, tq2 13 rfl rfl, rfl, rfl, rfl⟩
set_option maxRecDepth 20000 in
theorem fX2_30 : Fld RX2 30 1 4 (.int) true := ⟨_, rfl, by decide, tq2 14 rfl rfl, rfl, rfl, rfl⟩
set_option maxRecDepth 20000 in
theorem fX8_143 : Fld RX8 143 1 4 (.int) true := ⟨_, rfl, by decide, tq2 15 rfl rfl, rfl, rfl, rfl⟩
set_option maxRecDepth 20000 in
theorem fX1_27 : Fld RX1 27 1 5 (.int) true := ⟨_, rfl, by decide, tq2 16 rfl rfl, rfl, rfl, rfl⟩
set_option maxRecDepth 20000 in
theorem fX8_146 : Fld RX8 146 1 5 (.int) true := ⟨_, rfl, by decide, tq2 17 rfl rfl, rfl, rfl, rfl⟩
set_option maxRecDepth 20000 in
theorem fX1_30 : Fld RX1 30 1 6 (.object "RolledPicks$Standings") true := ⟨_, rfl, by decide, tq2 18 rfl rfl, rfl, rfl, rfl⟩
set_option maxRecDepth 20000 in
theorem fX8_149 : Fld RX8 149 1 6 (.object "RolledPicks$Standings") true := ⟨_, rfl, by decide, tq2 19 rfl rfl, rfl, rfl, rfl⟩
set_option maxRecDepth 20000 in
theorem fJ0_38 : .fieldLink RJ0 38 "java/lang/String" "COMPACT_STRINGS" "Z" ∈ TT := tq2 136 rfl rfl
set_option maxRecDepth 20000 in
theorem fJ0_1053 : .fieldLink RJ0 1053 "jdk/internal/util/Preconditions" "SIOOBE_FORMATTER" "Ljava/util/function/BiFunction;" ∈ TT := tq2 152 rfl rfl
set_option maxRecDepth 20000 in
theorem fJ2_44 : .fieldLink RJ2 44 "java/lang/StringUTF16" "$assertionsDisabled" "Z" ∈ TT := tq2 170 rfl rfl
set_option maxRecDepth 20000 in
theorem fJ2_59 : .fieldLink RJ2 59 "java/lang/StringUTF16" "HI_BYTE_SHIFT" "I" ∈ TT := tq2 172 rfl rfl
set_option maxRecDepth 20000 in
theorem fJ2_63 : .fieldLink RJ2 63 "java/lang/StringUTF16" "LO_BYTE_SHIFT" "I" ∈ TT := tq2 174 rfl rfl
set_option maxRecDepth 20000 in
theorem fX4_15 : Fld RX4 15 4 0 (.int) true := ⟨_, rfl, by decide, tq3 167 rfl rfl, rfl, rfl, rfl⟩
set_option maxRecDepth 20000 in
theorem fX4_9 : Fld RX4 9 4 1 (.array .int) true := ⟨_, rfl, by decide, tq3 168 rfl rfl, rfl, rfl, rfl⟩
set_option maxRecDepth 20000 in
theorem fX4_28 : Fld RX4 28 4 2 (.int) false := ⟨_, rfl, by decide, tq3 169 rfl rfl, rfl, rfl, rfl⟩
set_option maxRecDepth 20000 in
theorem fX4_37 : Fld RX4 37 4 3 (.int) false := ⟨_, rfl, by decide, tq3 170 rfl rfl, rfl, rfl, rfl⟩
set_option maxRecDepth 20000 in
theorem gX8_266 : .fieldLink RX8 266 RX8 "KIND_ABOVE" "[I" ∈ TT := tq4 13 rfl rfl
set_option maxRecDepth 20000 in
theorem fX9_7 : Fld RX9 7 9 0 (.array .int) true := ⟨_, rfl, by decide, tq4 54 rfl rfl, rfl, rfl, rfl⟩
set_option maxRecDepth 20000 in
theorem fX9_116 : Fld RX9 116 9 1 (.int) false := ⟨_, rfl, by decide, tq4 55 rfl rfl, rfl, rfl, rfl⟩
set_option maxRecDepth 20000 in
theorem fX9_13 : Fld RX9 13 9 2 (.array .int) true := ⟨_, rfl, by decide, tq4 56 rfl rfl, rfl, rfl, rfl⟩
set_option maxRecDepth 20000 in
theorem fX9_16 : Fld RX9 16 9 3 (.int) false := ⟨_, rfl, by decide, tq4 57 rfl rfl, rfl, rfl, rfl⟩
set_option maxRecDepth 20000 in
theorem fX9_89 : Fld RX9 89 9 4 (.int) false := ⟨_, rfl, by decide, tq4 58 rfl rfl, rfl, rfl, rfl⟩
set_option maxRecDepth 20000 in
theorem fX9_20 : Fld RX9 20 9 5 (.array .int) true := ⟨_, rfl, by decide, tq4 59 rfl rfl, rfl, rfl, rfl⟩
set_option maxRecDepth 20000 in
theorem fX9_23 : Fld RX9 23 9 6 (.array .int) true := ⟨_, rfl, by decide, tq4 60 rfl rfl, rfl, rfl, rfl⟩
set_option maxRecDepth 20000 in
theorem fX9_177 : Fld RX9 177 9 7 (.int) false := ⟨_, rfl, by decide, tq4 61 rfl rfl, rfl, rfl, rfl⟩
set_option maxRecDepth 20000 in
theorem fX9_26 : Fld RX9 26 9 8 (.array .int) true := ⟨_, rfl, by decide, tq4 62 rfl rfl, rfl, rfl, rfl⟩
set_option maxRecDepth 20000 in
theorem fX9_29 : Fld RX9 29 9 9 (.array .int) true := ⟨_, rfl, by decide, tq4 63 rfl rfl, rfl, rfl, rfl⟩
set_option maxRecDepth 20000 in
theorem fX9_32 : Fld RX9 32 9 10 (.array .int) true := ⟨_, rfl, by decide, tq4 64 rfl rfl, rfl, rfl, rfl⟩
set_option maxRecDepth 20000 in
theorem fX9_161 : Fld RX9 161 9 11 (.int) false := ⟨_, rfl, by decide, tq4 65 rfl rfl, rfl, rfl, rfl⟩
set_option maxRecDepth 20000 in
theorem fX9_35 : Fld RX9 35 9 12 (.array .int) true := ⟨_, rfl, by decide, tq4 66 rfl rfl, rfl, rfl, rfl⟩
set_option maxRecDepth 20000 in
theorem fX9_38 : Fld RX9 38 9 13 (.array .int) true := ⟨_, rfl, by decide, tq4 67 rfl rfl, rfl, rfl, rfl⟩
set_option maxRecDepth 20000 in
theorem fX9_248 : Fld RX9 248 9 14 (.int) false := ⟨_, rfl, by decide, tq4 68 rfl rfl, rfl, rfl, rfl⟩
set_option maxRecDepth 20000 in
theorem fX9_262 : Fld RX9 262 9 15 (.int) false := ⟨_, rfl, by decide, tq4 69 rfl rfl, rfl, rfl, rfl⟩
set_option maxRecDepth 20000 in
theorem fX9_259 : Fld RX9 259 9 16 (.int) false := ⟨_, rfl, by decide, tq4 70 rfl rfl, rfl, rfl, rfl⟩
set_option maxRecDepth 20000 in
theorem fX9_274 : Fld RX9 274 9 18 (.boolean) false := ⟨_, rfl, by decide, tq4 71 rfl rfl, rfl, rfl, rfl⟩
set_option maxRecDepth 20000 in
theorem fX9_331 : Fld RX9 331 9 19 (.boolean) false := ⟨_, rfl, by decide, tq4 72 rfl rfl, rfl, rfl, rfl⟩
set_option maxRecDepth 20000 in
theorem fX9_319 : Fld RX9 319 9 20 (.int) false := ⟨_, rfl, by decide, tq4 73 rfl rfl, rfl, rfl, rfl⟩
set_option maxRecDepth 20000 in
theorem fX9_303 : Fld RX9 303 9 21 (.int) false := ⟨_, rfl, by decide, tq4 74 rfl rfl, rfl, rfl, rfl⟩
set_option maxRecDepth 20000 in
theorem fX9_41 : Fld RX9 41 9 22 (.array .int) true := ⟨_, rfl, by decide, tq4 75 rfl rfl, rfl, rfl, rfl⟩
set_option maxRecDepth 20000 in
theorem fX9_291 : Fld RX9 291 9 23 (.int) false := ⟨_, rfl, by decide, tq4 76 rfl rfl, rfl, rfl, rfl⟩
set_option maxRecDepth 20000 in
theorem fX9_44 : Fld RX9 44 9 24 (.array .boolean) true := ⟨_, rfl, by decide, tq4 77 rfl rfl, rfl, rfl, rfl⟩
set_option maxRecDepth 20000 in
theorem fX9_48 : Fld RX9 48 9 25 (.array .char) true := ⟨_, rfl, by decide, tq4 78 rfl rfl, rfl, rfl, rfl⟩
set_option maxRecDepth 20000 in
theorem fX9_52 : Fld RX9 52 9 26 (.array .int) true := ⟨_, rfl, by decide, tq4 79 rfl rfl, rfl, rfl, rfl⟩
set_option maxRecDepth 20000 in
theorem fX9_55 : Fld RX9 55 9 27 (.array .int) true := ⟨_, rfl, by decide, tq4 80 rfl rfl, rfl, rfl, rfl⟩
set_option maxRecDepth 20000 in
theorem fX9_58 : Fld RX9 58 9 28 (.array .long) true := ⟨_, rfl, by decide, tq4 81 rfl rfl, rfl, rfl, rfl⟩
set_option maxRecDepth 20000 in
theorem fX9_62 : Fld RX9 62 9 29 (.array .long) true := ⟨_, rfl, by decide, tq4 82 rfl rfl, rfl, rfl, rfl⟩
set_option maxRecDepth 20000 in
theorem fX9_65 : Fld RX9 65 9 30 (.array .int) true := ⟨_, rfl, by decide, tq4 83 rfl rfl, rfl, rfl, rfl⟩
set_option maxRecDepth 20000 in
theorem fX9_68 : Fld RX9 68 9 31 (.array .int) true := ⟨_, rfl, by decide, tq4 84 rfl rfl, rfl, rfl, rfl⟩
set_option maxRecDepth 20000 in
theorem fX9_71 : Fld RX9 71 9 32 (.array .int) true := ⟨_, rfl, by decide, tq4 85 rfl rfl, rfl, rfl, rfl⟩
set_option maxRecDepth 20000 in
theorem fX9_74 : Fld RX9 74 9 33 (.array .int) true := ⟨_, rfl, by decide, tq4 86 rfl rfl, rfl, rfl, rfl⟩
set_option maxRecDepth 20000 in
theorem fX9_77 : Fld RX9 77 9 34 (.array .int) true := ⟨_, rfl, by decide, tq4 87 rfl rfl, rfl, rfl, rfl⟩
set_option maxRecDepth 20000 in
theorem fX9_365 : Fld RX9 365 9 35 (.int) false := ⟨_, rfl, by decide, tq4 88 rfl rfl, rfl, rfl, rfl⟩
set_option maxRecDepth 20000 in
theorem fX9_80 : Fld RX9 80 9 36 (.array .int) true := ⟨_, rfl, by decide, tq4 89 rfl rfl, rfl, rfl, rfl⟩
set_option maxRecDepth 20000 in
theorem fX9_83 : Fld RX9 83 9 37 (.array .int) true := ⟨_, rfl, by decide, tq4 90 rfl rfl, rfl, rfl, rfl⟩
set_option maxRecDepth 20000 in
theorem fX9_86 : Fld RX9 86 9 38 (.array .int) true := ⟨_, rfl, by decide, tq4 91 rfl rfl, rfl, rfl, rfl⟩
set_option maxRecDepth 20000 in
theorem fJ0_9 : .fieldLink RJ0 9 "java/lang/String" "value" "[B" ∈ TT := tq6 117 rfl rfl
set_option maxRecDepth 20000 in
theorem fJ0_15 : .fieldLink RJ0 15 "java/lang/String" "coder" "B" ∈ TT := tq6 118 rfl rfl
-- new, arrays, constants
set_option maxRecDepth 20000 in
theorem cL_7 : .classLink RL 7 RX8 ∈ TT := tq1 17 rfl rfl
set_option maxRecDepth 20000 in
theorem nL_7 : NewOk RL 7 8 := ⟨_, rfl, cL_7, tq1 18 rfl rfl, tq1 1 rfl rfl⟩
set_option maxRecDepth 20000 in
theorem cX8_7 : .classLink RX8 7 RX0 ∈ TT := tq1 25 rfl rfl
set_option maxRecDepth 20000 in
theorem nX8_7 : NewOk RX8 7 0 := ⟨_, rfl, cX8_7, tq1 26 rfl rfl, tq1 2 rfl rfl⟩
set_option maxRecDepth 20000 in
theorem cX0_9 : .classLink RX0 9 RX1 ∈ TT := tq1 31 rfl rfl
set_option maxRecDepth 20000 in
theorem nX0_9 : NewOk RX0 9 1 := ⟨_, rfl, cX0_9, tq1 236 rfl rfl, tq1 9 rfl rfl⟩
set_option maxRecDepth 20000 in
theorem wa_int : .arrayClass .int ∈ TT := tq1 60 rfl rfl
set_option maxRecDepth 20000 in
theorem cX8_20 : .classLink RX8 20 RX2 ∈ TT := tq1 62 rfl rfl
set_option maxRecDepth 20000 in
theorem nX8_20 : NewOk RX8 20 2 := ⟨_, rfl, cX8_20, tq1 63 rfl rfl, tq1 3 rfl rfl⟩
set_option maxRecDepth 20000 in
theorem cX8_27 : .classLink RX8 27 RX3 ∈ TT := tq1 72 rfl rfl
set_option maxRecDepth 20000 in
theorem nX8_27 : NewOk RX8 27 3 := ⟨_, rfl, cX8_27, tq1 73 rfl rfl, tq1 4 rfl rfl⟩
set_option maxRecDepth 20000 in
theorem cX3_9 : .classLink RX3 9 RX7 ∈ TT := tq1 78 rfl rfl
set_option maxRecDepth 20000 in
theorem nX3_9 : NewOk RX3 9 7 := ⟨_, rfl, cX3_9, tq1 79 rfl rfl, tq1 5 rfl rfl⟩
set_option maxRecDepth 20000 in
theorem wa_byte : .arrayClass .byte ∈ TT := tq1 98 rfl rfl
set_option maxRecDepth 20000 in
theorem cX3_18 : .classLink RX3 18 RX1 ∈ TT := tq1 99 rfl rfl
set_option maxRecDepth 20000 in
theorem nX3_18 : NewOk RX3 18 1 := ⟨_, rfl, cX3_18, tq1 236 rfl rfl, tq1 9 rfl rfl⟩
set_option maxRecDepth 20000 in
theorem cX3_24 : .classLink RX3 24 RX6 ∈ TT := tq1 100 rfl rfl
set_option maxRecDepth 20000 in
theorem nX3_24 : NewOk RX3 24 6 := ⟨_, rfl, cX3_24, tq1 102 rfl rfl, tq1 6 rfl rfl⟩
set_option maxRecDepth 20000 in
theorem wa_long : .arrayClass .long ∈ TT := tq1 111 rfl rfl
set_option maxRecDepth 20000 in
theorem cX8_34 : .classLink RX8 34 RX5 ∈ TT := tq1 126 rfl rfl
set_option maxRecDepth 20000 in
theorem nX8_34 : NewOk RX8 34 5 := ⟨_, rfl, cX8_34, tq1 129 rfl rfl, tq1 7 rfl rfl⟩
set_option maxRecDepth 20000 in
theorem cX8_40 : .classLink RX8 40 RX1 ∈ TT := tq1 128 rfl rfl
set_option maxRecDepth 20000 in
theorem nX8_40 : NewOk RX8 40 1 := ⟨_, rfl, cX8_40, tq1 236 rfl rfl, tq1 9 rfl rfl⟩
set_option maxRecDepth 20000 in
theorem lX2_15 : .constant RX2 15 (9586980) ∈ TT := tq1 151 rfl rfl
set_option maxRecDepth 20000 in
theorem lX8_269 : .constant RX8 269 (-1000001) ∈ TT := tq1 191 rfl rfl
set_option maxRecDepth 20000 in
theorem lX8_83 : .constant RX8 83 (1103515245) ∈ TT := tq1 217 rfl rfl
set_option maxRecDepth 20000 in
theorem lX6_29 : .constantLong RX6 29 (-1) ∈ TT := tq2 220 rfl rfl
set_option maxRecDepth 20000 in
theorem lX8_270 : .constantLong RX8 270 (-1000000000000000001) ∈ TT := tq3 131 rfl rfl
set_option maxRecDepth 20000 in
theorem lX8_201 : .constantLong RX8 201 (-1) ∈ TT := tq3 144 rfl rfl
set_option maxRecDepth 20000 in
theorem cX8_284 : .classLink RX8 284 RX4 ∈ TT := tq3 161 rfl rfl
set_option maxRecDepth 20000 in
theorem nX8_284 : NewOk RX8 284 4 := ⟨_, rfl, cX8_284, tq3 162 rfl rfl, tq1 15 rfl rfl⟩
set_option maxRecDepth 20000 in
theorem cL_10 : .classLink RL 10 RX9 ∈ TT := tq4 48 rfl rfl
set_option maxRecDepth 20000 in
theorem nL_10 : NewOk RL 10 9 := ⟨_, rfl, cL_10, tq4 49 rfl rfl, tq1 8 rfl rfl⟩
set_option maxRecDepth 20000 in
theorem wa_boolean : .arrayClass .boolean ∈ TT := tq4 171 rfl rfl
set_option maxRecDepth 20000 in
theorem wa_char : .arrayClass .char ∈ TT := tq4 172 rfl rfl
set_option maxRecDepth 20000 in
theorem lX9_126 : .constantLong RX9 126 (5) ∈ TT := tq4 177 rfl rfl
set_option maxRecDepth 20000 in
theorem lX9_114 : .constantLong RX9 114 (2) ∈ TT := tq4 181 rfl rfl
set_option maxRecDepth 20000 in
theorem lX9_92 : .constant RX9 92 (-1000001) ∈ TT := tq4 189 rfl rfl
set_option maxRecDepth 20000 in
theorem lX9_106 : .constantLong RX9 106 (1295) ∈ TT := tq4 197 rfl rfl
set_option maxRecDepth 20000 in
theorem lX9_112 : .constantLong RX9 112 (11) ∈ TT := tq4 201 rfl rfl
set_option maxRecDepth 20000 in
theorem lX9_142 : .constantLong RX9 142 (3) ∈ TT := tq4 219 rfl rfl
set_option maxRecDepth 20000 in
theorem lX9_144 : .constant RX9 144 (1103515245) ∈ TT := tq4 224 rfl rfl
set_option maxRecDepth 20000 in
theorem lX9_210 : .constantLong RX9 210 (7) ∈ TT := tq5 69 rfl rfl
set_option maxRecDepth 20000 in
theorem lX9_231 : .constantLong RX9 231 (999) ∈ TT := tq5 150 rfl rfl
set_option maxRecDepth 20000 in
theorem lX9_93 : .constantLong RX9 93 (-1000000000000000001) ∈ TT := tq5 171 rfl rfl
set_option maxRecDepth 20000 in
theorem lX9_244 : .constantLong RX9 244 (-1) ∈ TT := tq5 180 rfl rfl
set_option maxRecDepth 20000 in
theorem lX9_246 : .constantLong RX9 246 (4) ∈ TT := tq5 185 rfl rfl
set_option maxRecDepth 20000 in
theorem lX9_251 : .constantLong RX9 251 (97) ∈ TT := tq5 209 rfl rfl
set_option maxRecDepth 20000 in
theorem lX9_253 : .constantLong RX9 253 (122) ∈ TT := tq5 210 rfl rfl
set_option maxRecDepth 20000 in
theorem lX9_255 : .constantLong RX9 255 (48) ∈ TT := tq5 214 rfl rfl
set_option maxRecDepth 20000 in
theorem lX9_257 : .constantLong RX9 257 (57) ∈ TT := tq5 215 rfl rfl
set_option maxRecDepth 20000 in
theorem lL_147 : .constantLong RL 147 (4294967295) ∈ TT := tq6 116 rfl rfl
set_option maxRecDepth 20000 in
theorem w_minS : .static Lib.Math.min.name ∈ TT := tq2 189 rfl rfl
set_option maxRecDepth 20000 in
theorem w_minI : .initialized "java/lang/Math" ∈ TT := tq1 14 rfl rfl
set_option maxRecDepth 20000 in
theorem w_minC : .code Lib.Math.min.name Lib.Math.min.code 2 (some .int) ∈ TT := tq2 190 rfl rfl
set_option maxRecDepth 20000 in
theorem w_acpS : .static arraycopyName ∈ TT := tq4 0 rfl rfl
set_option maxRecDepth 20000 in
theorem w_acpI : .initialized "java/lang/System" ∈ TT := tq1 16 rfl rfl
set_option maxRecDepth 20000 in
theorem w_acpN : .native arraycopyName ∈ TT := tq4 1 rfl rfl
