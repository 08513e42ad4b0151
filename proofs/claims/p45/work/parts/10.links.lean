/-! words by their places; links (written by wip/p45/gen10.py) -/
theorem tb0 {w : Cond} (h : w ∈ k2_sels lw_privs) : w ∈ lw_tbl := List.mem_append_left _ h
theorem tb1 {w : Cond} (h : w ∈ tables_1_1) : w ∈ lw_tbl := List.mem_append_right _ (by unfold tables_1; exact List.mem_append_left _ h)
theorem tb2 {w : Cond} (h : w ∈ tables_1_2) : w ∈ lw_tbl := List.mem_append_right _ (by unfold tables_1; exact List.mem_append_right _ (List.mem_append_left _ h))
theorem tb3 {w : Cond} (h : w ∈ tables_1_3) : w ∈ lw_tbl := List.mem_append_right _ (by unfold tables_1; exact List.mem_append_right _ (List.mem_append_right _ (List.mem_append_left _ h)))
theorem tb4 {w : Cond} (h : w ∈ tables_1_4) : w ∈ lw_tbl := List.mem_append_right _ (by unfold tables_1; exact List.mem_append_right _ (List.mem_append_right _ (List.mem_append_right _ (h))))
theorem tq0 {w : Cond} (i : Nat) (h : (k2_sels lw_privs)[i]? = some w) (g : goodWord w = true) : w ∈ TT := List.mem_filter.mpr ⟨tb0 (List.mem_of_getElem? h), g⟩
theorem tq1 {w : Cond} (i : Nat) (h : tables_1_1[i]? = some w) (g : goodWord w = true) : w ∈ TT := List.mem_filter.mpr ⟨tb1 (List.mem_of_getElem? h), g⟩
theorem tq2 {w : Cond} (i : Nat) (h : tables_1_2[i]? = some w) (g : goodWord w = true) : w ∈ TT := List.mem_filter.mpr ⟨tb2 (List.mem_of_getElem? h), g⟩
theorem tq3 {w : Cond} (i : Nat) (h : tables_1_3[i]? = some w) (g : goodWord w = true) : w ∈ TT := List.mem_filter.mpr ⟨tb3 (List.mem_of_getElem? h), g⟩
theorem tq4 {w : Cond} (i : Nat) (h : tables_1_4[i]? = some w) (g : goodWord w = true) : w ∈ TT := List.mem_filter.mpr ⟨tb4 (List.mem_of_getElem? h), g⟩
-- methods: code, initialised
set_option maxRecDepth 20000 in
theorem okX0_init : MdOk mX0_init := ⟨tq1 33 rfl rfl, ⟨by decide, by decide⟩, tq1 2 rfl rfl⟩
theorem npX0_init : npar mX0_init 0 := by unfold npar; decide +kernel
set_option maxRecDepth 20000 in
theorem okX0_become : MdOk mX0_become := ⟨tq2 166 rfl rfl, ⟨by decide, by decide⟩, tq1 2 rfl rfl⟩
theorem npX0_become : npar mX0_become 1 := by unfold npar; decide +kernel
set_option maxRecDepth 20000 in
theorem okX0_firstOpen : MdOk mX0_firstOpen := ⟨tq1 209 rfl rfl, ⟨by decide, by decide⟩, tq1 2 rfl rfl⟩
theorem npX0_firstOpen : npar mX0_firstOpen 0 := by unfold npar; decide +kernel
set_option maxRecDepth 20000 in
theorem okX0_openCount : MdOk mX0_openCount := ⟨tq1 215 rfl rfl, ⟨by decide, by decide⟩, tq1 2 rfl rfl⟩
theorem npX0_openCount : npar mX0_openCount 0 := by unfold npar; decide +kernel
set_option maxRecDepth 20000 in
theorem okX0_endOpen : MdOk mX0_endOpen := ⟨tq1 205 rfl rfl, ⟨by decide, by decide⟩, tq1 2 rfl rfl⟩
theorem npX0_endOpen : npar mX0_endOpen 0 := by unfold npar; decide +kernel
set_option maxRecDepth 20000 in
theorem okX0_isOpen : MdOk mX0_isOpen := ⟨tq2 13 rfl rfl, ⟨by decide, by decide⟩, tq1 2 rfl rfl⟩
theorem npX0_isOpen : npar mX0_isOpen 1 := by unfold npar; decide +kernel
set_option maxRecDepth 20000 in
theorem okX0_dealAt : MdOk mX0_dealAt := ⟨tq1 196 rfl rfl, ⟨by decide, by decide⟩, tq1 2 rfl rfl⟩
theorem npX0_dealAt : npar mX0_dealAt 1 := by unfold npar; decide +kernel
set_option maxRecDepth 20000 in
theorem okX0_clashOf : MdOk mX0_clashOf := ⟨tq3 232 rfl rfl, ⟨by decide, by decide⟩, tq1 2 rfl rfl⟩
theorem npX0_clashOf : npar mX0_clashOf 4 := by unfold npar; decide +kernel
set_option maxRecDepth 20000 in
theorem okX1_init : MdOk mX1_init := ⟨tq3 181 rfl rfl, ⟨by decide, by decide⟩, tq1 18 rfl rfl⟩
theorem npX1_init : npar mX1_init 7 := by unfold npar; decide +kernel
set_option maxRecDepth 20000 in
theorem okX1_gives : MdOk mX1_gives := ⟨tq1 222 rfl rfl, ⟨by decide, by decide⟩, tq1 18 rfl rfl⟩
theorem npX1_gives : npar mX1_gives 1 := by unfold npar; decide +kernel
set_option maxRecDepth 20000 in
theorem okX1_getsBack : MdOk mX1_getsBack := ⟨tq2 0 rfl rfl, ⟨by decide, by decide⟩, tq1 18 rfl rfl⟩
theorem npX1_getsBack : npar mX1_getsBack 1 := by unfold npar; decide +kernel
set_option maxRecDepth 20000 in
theorem okX1_takerOf : MdOk mX1_takerOf := ⟨tq2 26 rfl rfl, ⟨by decide, by decide⟩, tq1 18 rfl rfl⟩
theorem npX1_takerOf : npar mX1_takerOf 2 := by unfold npar; decide +kernel
set_option maxRecDepth 20000 in
theorem okX1_mayGive : MdOk mX1_mayGive := ⟨tq2 31 rfl rfl, ⟨by decide, by decide⟩, tq1 18 rfl rfl⟩
theorem npX1_mayGive : npar mX1_mayGive 1 := by unfold npar; decide +kernel
set_option maxRecDepth 20000 in
theorem okX2_init : MdOk mX2_init := ⟨tq1 68 rfl rfl, ⟨by decide, by decide⟩, tq1 3 rfl rfl⟩
theorem npX2_init : npar mX2_init 0 := by unfold npar; decide +kernel
set_option maxRecDepth 20000 in
theorem okX2_at : MdOk mX2_at := ⟨tq2 18 rfl rfl, ⟨by decide, by decide⟩, tq1 3 rfl rfl⟩
theorem npX2_at : npar mX2_at 2 := by unfold npar; decide +kernel
set_option maxRecDepth 20000 in
theorem okX2_startAll : MdOk mX2_startAll := ⟨tq1 147 rfl rfl, ⟨by decide, by decide⟩, tq1 3 rfl rfl⟩
theorem npX2_startAll : npar mX2_startAll 2 := by unfold npar; decide +kernel
set_option maxRecDepth 20000 in
theorem okX2_settle : MdOk mX2_settle := ⟨tq2 181 rfl rfl, ⟨by decide, by decide⟩, tq1 3 rfl rfl⟩
theorem npX2_settle : npar mX2_settle 3 := by unfold npar; decide +kernel
set_option maxRecDepth 20000 in
theorem okX2_give : MdOk mX2_give := ⟨tq2 186 rfl rfl, ⟨by decide, by decide⟩, tq1 3 rfl rfl⟩
theorem npX2_give : npar mX2_give 3 := by unfold npar; decide +kernel
set_option maxRecDepth 20000 in
theorem okX3_init : MdOk mX3_init := ⟨tq1 78 rfl rfl, ⟨by decide, by decide⟩, tq1 4 rfl rfl⟩
theorem npX3_init : npar mX3_init 0 := by unfold npar; decide +kernel
set_option maxRecDepth 20000 in
theorem okX4_init : MdOk mX4_init := ⟨tq2 107 rfl rfl, ⟨by decide, by decide⟩, tq1 19 rfl rfl⟩
theorem npX4_init : npar mX4_init 1 := by unfold npar; decide +kernel
set_option maxRecDepth 20000 in
theorem okX4_move : MdOk mX4_move := ⟨tq2 129 rfl rfl, ⟨by decide, by decide⟩, tq1 19 rfl rfl⟩
theorem npX4_move : npar mX4_move 2 := by unfold npar; decide +kernel
set_option maxRecDepth 20000 in
theorem okX5_init : MdOk mX5_init := ⟨tq1 130 rfl rfl, ⟨by decide, by decide⟩, tq1 7 rfl rfl⟩
theorem npX5_init : npar mX5_init 0 := by unfold npar; decide +kernel
set_option maxRecDepth 20000 in
theorem okX5_isMissing : MdOk mX5_isMissing := ⟨tq2 94 rfl rfl, ⟨by decide, by decide⟩, tq1 7 rfl rfl⟩
theorem npX5_isMissing : npar mX5_isMissing 0 := by unfold npar; decide +kernel
set_option maxRecDepth 20000 in
theorem okX5_become : MdOk mX5_become := ⟨tq2 154 rfl rfl, ⟨by decide, by decide⟩, tq1 7 rfl rfl⟩
theorem npX5_become : npar mX5_become 2 := by unfold npar; decide +kernel
set_option maxRecDepth 20000 in
theorem okX5_put : MdOk mX5_put := ⟨tq2 142 rfl rfl, ⟨by decide, by decide⟩, tq1 7 rfl rfl⟩
theorem npX5_put : npar mX5_put 2 := by unfold npar; decide +kernel
set_option maxRecDepth 20000 in
theorem okX6_init : MdOk mX6_init := ⟨tq1 104 rfl rfl, ⟨by decide, by decide⟩, tq1 6 rfl rfl⟩
theorem npX6_init : npar mX6_init 0 := by unfold npar; decide +kernel
set_option maxRecDepth 20000 in
theorem okX6_has : MdOk mX6_has := ⟨tq1 226 rfl rfl, ⟨by decide, by decide⟩, tq1 6 rfl rfl⟩
theorem npX6_has : npar mX6_has 1 := by unfold npar; decide +kernel
set_option maxRecDepth 20000 in
theorem okX7_init : MdOk mX7_init := ⟨tq1 84 rfl rfl, ⟨by decide, by decide⟩, tq1 5 rfl rfl⟩
theorem npX7_init : npar mX7_init 0 := by unfold npar; decide +kernel
set_option maxRecDepth 20000 in
theorem okX8_init : MdOk mX8_init := ⟨tq1 25 rfl rfl, ⟨by decide, by decide⟩, tq1 1 rfl rfl⟩
theorem npX8_init : npar mX8_init 0 := by unfold npar; decide +kernel
set_option maxRecDepth 20000 in
theorem okX8_fall : MdOk mX8_fall := ⟨tq1 180 rfl rfl, ⟨by decide, by decide⟩, tq1 1 rfl rfl⟩
theorem npX8_fall : npar mX8_fall 1 := by unfold npar; decide +kernel
set_option maxRecDepth 20000 in
theorem okX8_fallen : MdOk mX8_fallen := ⟨tq4 12 rfl rfl, ⟨by decide, by decide⟩, tq1 1 rfl rfl⟩
theorem npX8_fallen : npar mX8_fallen 1 := by unfold npar; decide +kernel
set_option maxRecDepth 20000 in
theorem okX8_sale : MdOk mX8_sale := ⟨tq3 175 rfl rfl, ⟨by decide, by decide⟩, tq1 1 rfl rfl⟩
theorem npX8_sale : npar mX8_sale 5 := by unfold npar; decide +kernel
set_option maxRecDepth 20000 in
theorem okX8_swap : MdOk mX8_swap := ⟨tq3 238 rfl rfl, ⟨by decide, by decide⟩, tq1 1 rfl rfl⟩
theorem npX8_swap : npar mX8_swap 5 := by unfold npar; decide +kernel
set_option maxRecDepth 20000 in
theorem okX8_of : MdOk mX8_of := ⟨tq1 192 rfl rfl, ⟨by decide, by decide⟩, tq1 1 rfl rfl⟩
theorem npX8_of : npar mX8_of 2 := by unfold npar; decide +kernel
set_option maxRecDepth 20000 in
theorem okX8_conveys : MdOk mX8_conveys := ⟨tq1 236 rfl rfl, ⟨by decide, by decide⟩, tq1 1 rfl rfl⟩
theorem npX8_conveys : npar mX8_conveys 3 := by unfold npar; decide +kernel
set_option maxRecDepth 20000 in
theorem okX8_prune : MdOk mX8_prune := ⟨tq2 5 rfl rfl, ⟨by decide, by decide⟩, tq1 1 rfl rfl⟩
theorem npX8_prune : npar mX8_prune 0 := by unfold npar; decide +kernel
set_option maxRecDepth 20000 in
theorem okX8_clash : MdOk mX8_clash := ⟨tq4 5 rfl rfl, ⟨by decide, by decide⟩, tq1 1 rfl rfl⟩
theorem npX8_clash : npar mX8_clash 1 := by unfold npar; decide +kernel
set_option maxRecDepth 20000 in
theorem okX8_owner : MdOk mX8_owner := ⟨tq2 9 rfl rfl, ⟨by decide, by decide⟩, tq1 1 rfl rfl⟩
theorem npX8_owner : npar mX8_owner 2 := by unfold npar; decide +kernel
set_option maxRecDepth 20000 in
theorem okX8_chain : MdOk mX8_chain := ⟨tq2 22 rfl rfl, ⟨by decide, by decide⟩, tq1 1 rfl rfl⟩
theorem npX8_chain : npar mX8_chain 3 := by unfold npar; decide +kernel
set_option maxRecDepth 20000 in
theorem okX8_hand : MdOk mX8_hand := ⟨tq2 35 rfl rfl, ⟨by decide, by decide⟩, tq1 1 rfl rfl⟩
theorem npX8_hand : npar mX8_hand 2 := by unfold npar; decide +kernel
set_option maxRecDepth 20000 in
theorem okX8_owners : MdOk mX8_owners := ⟨tq2 39 rfl rfl, ⟨by decide, by decide⟩, tq1 1 rfl rfl⟩
theorem npX8_owners : npar mX8_owners 1 := by unfold npar; decide +kernel
set_option maxRecDepth 20000 in
theorem okX8_sure : MdOk mX8_sure := ⟨tq2 47 rfl rfl, ⟨by decide, by decide⟩, tq1 1 rfl rfl⟩
theorem npX8_sure : npar mX8_sure 1 := by unfold npar; decide +kernel
set_option maxRecDepth 20000 in
theorem okX8_chance : MdOk mX8_chance := ⟨tq2 51 rfl rfl, ⟨by decide, by decide⟩, tq1 1 rfl rfl⟩
theorem npX8_chance : npar mX8_chance 2 := by unfold npar; decide +kernel
set_option maxRecDepth 20000 in
theorem okX8_least : MdOk mX8_least := ⟨tq2 55 rfl rfl, ⟨by decide, by decide⟩, tq1 1 rfl rfl⟩
theorem npX8_least : npar mX8_least 2 := by unfold npar; decide +kernel
set_option maxRecDepth 20000 in
theorem okX8_worth : MdOk mX8_worth := ⟨tq2 59 rfl rfl, ⟨by decide, by decide⟩, tq1 1 rfl rfl⟩
theorem npX8_worth : npar mX8_worth 2 := by unfold npar; decide +kernel
set_option maxRecDepth 20000 in
theorem okX8_value : MdOk mX8_value := ⟨tq2 68 rfl rfl, ⟨by decide, by decide⟩, tq1 1 rfl rfl⟩
theorem npX8_value : npar mX8_value 1 := by unfold npar; decide +kernel
set_option maxRecDepth 20000 in
theorem okX8_best : MdOk mX8_best := ⟨tq2 81 rfl rfl, ⟨by decide, by decide⟩, tq1 1 rfl rfl⟩
theorem npX8_best : npar mX8_best 2 := by unfold npar; decide +kernel
set_option maxRecDepth 20000 in
theorem okX8_hope : MdOk mX8_hope := ⟨tq2 85 rfl rfl, ⟨by decide, by decide⟩, tq1 1 rfl rfl⟩
theorem npX8_hope : npar mX8_hope 1 := by unfold npar; decide +kernel
set_option maxRecDepth 20000 in
theorem okX8_rounds : MdOk mX8_rounds := ⟨tq2 90 rfl rfl, ⟨by decide, by decide⟩, tq1 1 rfl rfl⟩
theorem npX8_rounds : npar mX8_rounds 2 := by unfold npar; decide +kernel
set_option maxRecDepth 20000 in
theorem okX8_lays : MdOk mX8_lays := ⟨tq2 135 rfl rfl, ⟨by decide, by decide⟩, tq1 1 rfl rfl⟩
theorem npX8_lays : npar mX8_lays 2 := by unfold npar; decide +kernel
set_option maxRecDepth 20000 in
theorem okX8_judge : MdOk mX8_judge := ⟨tq2 146 rfl rfl, ⟨by decide, by decide⟩, tq1 1 rfl rfl⟩
theorem npX8_judge : npar mX8_judge 2 := by unfold npar; decide +kernel
set_option maxRecDepth 20000 in
theorem okX8_sheet : MdOk mX8_sheet := ⟨tq2 150 rfl rfl, ⟨by decide, by decide⟩, tq1 1 rfl rfl⟩
theorem npX8_sheet : npar mX8_sheet 3 := by unfold npar; decide +kernel
set_option maxRecDepth 20000 in
theorem okX8_write : MdOk mX8_write := ⟨tq2 158 rfl rfl, ⟨by decide, by decide⟩, tq1 1 rfl rfl⟩
theorem npX8_write : npar mX8_write 3 := by unfold npar; decide +kernel
set_option maxRecDepth 20000 in
theorem okX8_image : MdOk mX8_image := ⟨tq2 162 rfl rfl, ⟨by decide, by decide⟩, tq1 1 rfl rfl⟩
theorem npX8_image : npar mX8_image 0 := by unfold npar; decide +kernel
set_option maxRecDepth 20000 in
theorem okX8_back : MdOk mX8_back := ⟨tq2 173 rfl rfl, ⟨by decide, by decide⟩, tq1 1 rfl rfl⟩
theorem npX8_back : npar mX8_back 0 := by unfold npar; decide +kernel
set_option maxRecDepth 20000 in
theorem okX8_count : MdOk mX8_count := ⟨tq2 190 rfl rfl, ⟨by decide, by decide⟩, tq1 1 rfl rfl⟩
theorem npX8_count : npar mX8_count 1 := by unfold npar; decide +kernel
set_option maxRecDepth 20000 in
theorem okX8_isOutside : MdOk mX8_isOutside := ⟨tq1 183 rfl rfl, ⟨by decide, by decide⟩, tq1 1 rfl rfl⟩
theorem npX8_isOutside : npar mX8_isOutside 2 := by unfold npar; decide +kernel
set_option maxRecDepth 20000 in
theorem okX8_areNoPair : MdOk mX8_areNoPair := ⟨tq3 178 rfl rfl, ⟨by decide, by decide⟩, tq1 1 rfl rfl⟩
theorem npX8_areNoPair : npar mX8_areNoPair 2 := by unfold npar; decide +kernel
set_option maxRecDepth 20000 in
theorem okX8_placeUnder : MdOk mX8_placeUnder := ⟨tq1 229 rfl rfl, ⟨by decide, by decide⟩, tq1 1 rfl rfl⟩
theorem npX8_placeUnder : npar mX8_placeUnder 2 := by unfold npar; decide +kernel
set_option maxRecDepth 20000 in
theorem okX8_finding : MdOk mX8_finding := ⟨tq1 187 rfl rfl, ⟨by decide, by decide⟩, tq1 1 rfl rfl⟩
theorem npX8_finding : npar mX8_finding 1 := by unfold npar; decide +kernel
set_option maxRecDepth 20000 in
theorem okX8_longFinding : MdOk mX8_longFinding := ⟨tq2 72 rfl rfl, ⟨by decide, by decide⟩, tq1 1 rfl rfl⟩
theorem npX8_longFinding : npar mX8_longFinding 1 := by unfold npar; decide +kernel
set_option maxRecDepth 20000 in
theorem okX8_enter : MdOk mX8_enter := ⟨tq3 220 rfl rfl, ⟨by decide, by decide⟩, tq1 1 rfl rfl⟩
theorem npX8_enter : npar mX8_enter 1 := by unfold npar; decide +kernel
set_option maxRecDepth 20000 in
theorem okX8_takes : MdOk mX8_takes := ⟨tq3 224 rfl rfl, ⟨by decide, by decide⟩, tq1 1 rfl rfl⟩
theorem npX8_takes : npar mX8_takes 1 := by unfold npar; decide +kernel
set_option maxRecDepth 20000 in
theorem okX8_clashesUnder : MdOk mX8_clashesUnder := ⟨tq3 228 rfl rfl, ⟨by decide, by decide⟩, tq1 1 rfl rfl⟩
theorem npX8_clashesUnder : npar mX8_clashesUnder 2 := by unfold npar; decide +kernel
set_option maxRecDepth 20000 in
theorem okX8_settleAll : MdOk mX8_settleAll := ⟨tq2 177 rfl rfl, ⟨by decide, by decide⟩, tq1 1 rfl rfl⟩
theorem npX8_settleAll : npar mX8_settleAll 0 := by unfold npar; decide +kernel
set_option maxRecDepth 20000 in
theorem okX8_countConveying : MdOk mX8_countConveying := ⟨tq1 201 rfl rfl, ⟨by decide, by decide⟩, tq1 1 rfl rfl⟩
theorem npX8_countConveying : npar mX8_countConveying 1 := by unfold npar; decide +kernel
set_option maxRecDepth 20000 in
theorem okX8_everOwners : MdOk mX8_everOwners := ⟨tq2 43 rfl rfl, ⟨by decide, by decide⟩, tq1 1 rfl rfl⟩
theorem npX8_everOwners : npar mX8_everOwners 1 := by unfold npar; decide +kernel
set_option maxRecDepth 20000 in
theorem okX8_worthUnder : MdOk mX8_worthUnder := ⟨tq2 63 rfl rfl, ⟨by decide, by decide⟩, tq1 1 rfl rfl⟩
theorem npX8_worthUnder : npar mX8_worthUnder 2 := by unfold npar; decide +kernel
set_option maxRecDepth 20000 in
theorem okX8_worthOver : MdOk mX8_worthOver := ⟨tq2 77 rfl rfl, ⟨by decide, by decide⟩, tq1 1 rfl rfl⟩
theorem npX8_worthOver : npar mX8_worthOver 3 := by unfold npar; decide +kernel
set_option maxRecDepth 20000 in
theorem okX8_tellsEachDeal : MdOk mX8_tellsEachDeal := ⟨tq2 98 rfl rfl, ⟨by decide, by decide⟩, tq1 1 rfl rfl⟩
theorem npX8_tellsEachDeal : npar mX8_tellsEachDeal 1 := by unfold npar; decide +kernel
set_option maxRecDepth 20000 in
theorem okX8_countRounds : MdOk mX8_countRounds := ⟨tq2 102 rfl rfl, ⟨by decide, by decide⟩, tq1 1 rfl rfl⟩
theorem npX8_countRounds : npar mX8_countRounds 2 := by unfold npar; decide +kernel
set_option maxRecDepth 20000 in
theorem okX8_goesOver : MdOk mX8_goesOver := ⟨tq2 125 rfl rfl, ⟨by decide, by decide⟩, tq1 1 rfl rfl⟩
theorem npX8_goesOver : npar mX8_goesOver 2 := by unfold npar; decide +kernel
set_option maxRecDepth 20000 in
theorem okX8_countHeld : MdOk mX8_countHeld := ⟨tq2 195 rfl rfl, ⟨by decide, by decide⟩, tq1 1 rfl rfl⟩
theorem npX8_countHeld : npar mX8_countHeld 0 := by unfold npar; decide +kernel
set_option maxRecDepth 20000 in
theorem okX9_init : MdOk mX9_init := ⟨tq2 200 rfl rfl, ⟨by decide, by decide⟩, tq1 8 rfl rfl⟩
theorem npX9_init : npar mX9_init 0 := by unfold npar; decide +kernel
set_option maxRecDepth 20000 in
theorem okX9_from : MdOk mX9_from := ⟨tq3 34 rfl rfl, ⟨by decide, by decide⟩, tq1 8 rfl rfl⟩
theorem npX9_from : npar mX9_from 0 := by unfold npar; decide +kernel
set_option maxRecDepth 20000 in
theorem okX9_size : MdOk mX9_size := ⟨tq3 38 rfl rfl, ⟨by decide, by decide⟩, tq1 8 rfl rfl⟩
theorem npX9_size : npar mX9_size 0 := by unfold npar; decide +kernel
set_option maxRecDepth 20000 in
theorem okX9_holds : MdOk mX9_holds := ⟨tq3 154 rfl rfl, ⟨by decide, by decide⟩, tq1 8 rfl rfl⟩
theorem npX9_holds : npar mX9_holds 2 := by unfold npar; decide +kernel
set_option maxRecDepth 20000 in
theorem okX9_conveys : MdOk mX9_conveys := ⟨tq3 148 rfl rfl, ⟨by decide, by decide⟩, tq1 8 rfl rfl⟩
theorem npX9_conveys : npar mX9_conveys 3 := by unfold npar; decide +kernel
set_option maxRecDepth 20000 in
theorem okX9_lapses : MdOk mX9_lapses := ⟨tq3 158 rfl rfl, ⟨by decide, by decide⟩, tq1 8 rfl rfl⟩
theorem npX9_lapses : npar mX9_lapses 2 := by unfold npar; decide +kernel
set_option maxRecDepth 20000 in
theorem okX9_chain : MdOk mX9_chain := ⟨tq3 144 rfl rfl, ⟨by decide, by decide⟩, tq1 8 rfl rfl⟩
theorem npX9_chain : npar mX9_chain 2 := by unfold npar; decide +kernel
set_option maxRecDepth 20000 in
theorem okX9_clashes : MdOk mX9_clashes := ⟨tq3 138 rfl rfl, ⟨by decide, by decide⟩, tq1 8 rfl rfl⟩
theorem npX9_clashes : npar mX9_clashes 0 := by unfold npar; decide +kernel
set_option maxRecDepth 20000 in
theorem okX9_comes : MdOk mX9_comes := ⟨tq3 76 rfl rfl, ⟨by decide, by decide⟩, tq1 8 rfl rfl⟩
theorem npX9_comes : npar mX9_comes 2 := by unfold npar; decide +kernel
set_option maxRecDepth 20000 in
theorem okJ6_bitCount_0f7a4 : MdOk mJ6_bitCount_0f7a4 := ⟨tq4 15 rfl rfl, ⟨by decide, by decide⟩, tq1 20 rfl rfl⟩
theorem npJ6_bitCount_0f7a4 : npar mJ6_bitCount_0f7a4 1 := by unfold npar; decide +kernel
set_option maxRecDepth 20000 in
theorem okJ9_max_7cf53 : MdOk mJ9_max_7cf53 := ⟨tq3 98 rfl rfl, ⟨by decide, by decide⟩, tq1 15 rfl rfl⟩
theorem npJ9_max_7cf53 : npar mJ9_max_7cf53 2 := by unfold npar; decide +kernel
set_option maxRecDepth 20000 in
theorem okJ9_min_7cf53 : MdOk mJ9_min_7cf53 := ⟨tq2 138 rfl rfl, ⟨by decide, by decide⟩, tq1 15 rfl rfl⟩
theorem npJ9_min_7cf53 : npar mJ9_min_7cf53 2 := by unfold npar; decide +kernel
set_option maxRecDepth 20000 in
theorem okJxa1e45_init_da8c8 : MdOk mJxa1e45_init_da8c8 := ⟨tq2 212 rfl rfl, ⟨by decide, by decide⟩, tq1 9 rfl rfl⟩
theorem npJxa1e45_init_da8c8 : npar mJxa1e45_init_da8c8 0 := by unfold npar; decide +kernel
set_option maxRecDepth 20000 in
theorem okJxc12de_init_da8c8 : MdOk mJxc12de_init_da8c8 := ⟨tq2 209 rfl rfl, ⟨by decide, by decide⟩, tq1 10 rfl rfl⟩
theorem npJxc12de_init_da8c8 : npar mJxc12de_init_da8c8 0 := by unfold npar; decide +kernel
set_option maxRecDepth 20000 in
theorem okJx4a65c_init_da8c8 : MdOk mJx4a65c_init_da8c8 := ⟨tq2 206 rfl rfl, ⟨by decide, by decide⟩, tq1 11 rfl rfl⟩
theorem npJx4a65c_init_da8c8 : npar mJx4a65c_init_da8c8 0 := by unfold npar; decide +kernel
set_option maxRecDepth 20000 in
theorem okJx4a65c_grow_92f84 : MdOk mJx4a65c_grow_92f84 := ⟨tq3 92 rfl rfl, ⟨by decide, by decide⟩, tq1 11 rfl rfl⟩
theorem npJx4a65c_grow_92f84 : npar mJx4a65c_grow_92f84 1 := by unfold npar; decide +kernel
set_option maxRecDepth 20000 in
theorem okJx4a65c_grow_d5877 : MdOk mJx4a65c_grow_d5877 := ⟨tq3 88 rfl rfl, ⟨by decide, by decide⟩, tq1 11 rfl rfl⟩
theorem npJx4a65c_grow_d5877 : npar mJx4a65c_grow_d5877 0 := by unfold npar; decide +kernel
set_option maxRecDepth 20000 in
theorem okJx4a65c_size_8abf5 : MdOk mJx4a65c_size_8abf5 := ⟨tq3 134 rfl rfl, ⟨by decide, by decide⟩, tq1 11 rfl rfl⟩
theorem npJx4a65c_size_8abf5 : npar mJx4a65c_size_8abf5 0 := by unfold npar; decide +kernel
set_option maxRecDepth 20000 in
theorem okJx4a65c_elementData_915e3 : MdOk mJx4a65c_elementData_915e3 := ⟨tq3 68 rfl rfl, ⟨by decide, by decide⟩, tq1 11 rfl rfl⟩
theorem npJx4a65c_elementData_915e3 : npar mJx4a65c_elementData_915e3 1 := by unfold npar; decide +kernel
set_option maxRecDepth 20000 in
theorem okJx4a65c_get_915e3 : MdOk mJx4a65c_get_915e3 := ⟨tq3 58 rfl rfl, ⟨by decide, by decide⟩, tq1 11 rfl rfl⟩
theorem npJx4a65c_get_915e3 : npar mJx4a65c_get_915e3 1 := by unfold npar; decide +kernel
set_option maxRecDepth 20000 in
theorem okJx4a65c_add_72be8 : MdOk mJx4a65c_add_72be8 := ⟨tq3 84 rfl rfl, ⟨by decide, by decide⟩, tq1 11 rfl rfl⟩
theorem npJx4a65c_add_72be8 : npar mJx4a65c_add_72be8 3 := by unfold npar; decide +kernel
set_option maxRecDepth 20000 in
theorem okJx4a65c_add_9ea2d : MdOk mJx4a65c_add_9ea2d := ⟨tq3 80 rfl rfl, ⟨by decide, by decide⟩, tq1 11 rfl rfl⟩
theorem npJx4a65c_add_9ea2d : npar mJx4a65c_add_9ea2d 1 := by unfold npar; decide +kernel
set_option maxRecDepth 20000 in
theorem okJ7_copyOf_1904c : MdOk mJ7_copyOf_1904c := ⟨tq3 105 rfl rfl, ⟨by decide, by decide⟩, tq1 16 rfl rfl⟩
theorem npJ7_copyOf_1904c : npar mJ7_copyOf_1904c 2 := by unfold npar; decide +kernel
set_option maxRecDepth 20000 in
theorem okJ7_copyOf_6403c : MdOk mJ7_copyOf_6403c := ⟨tq3 123 rfl rfl, ⟨by decide, by decide⟩, tq1 16 rfl rfl⟩
theorem npJ7_copyOf_6403c : npar mJ7_copyOf_6403c 3 := by unfold npar; decide +kernel
set_option maxRecDepth 20000 in
theorem okJ15_checkIndex_7cf53 : MdOk mJ15_checkIndex_7cf53 := ⟨tq3 61 rfl rfl, ⟨by decide, by decide⟩, tq1 12 rfl rfl⟩
theorem npJ15_checkIndex_7cf53 : npar mJ15_checkIndex_7cf53 2 := by unfold npar; decide +kernel
set_option maxRecDepth 20000 in
theorem okJ8_newLength_cabcc : MdOk mJ8_newLength_cabcc := ⟨tq3 95 rfl rfl, ⟨by decide, by decide⟩, tq1 14 rfl rfl⟩
theorem npJ8_newLength_cabcc : npar mJ8_newLength_cabcc 3 := by unfold npar; decide +kernel
set_option maxRecDepth 20000 in
theorem okJ8_hugeLength_7cf53 : MdOk mJ8_hugeLength_7cf53 := ⟨tq3 102 rfl rfl, ⟨by decide, by decide⟩, tq1 14 rfl rfl⟩
theorem npJ8_hugeLength_7cf53 : npar mJ8_hugeLength_7cf53 2 := by unfold npar; decide +kernel
set_option maxRecDepth 20000 in
theorem okJ3_checkIndex_8e157 : MdOk mJ3_checkIndex_8e157 := ⟨tq3 64 rfl rfl, ⟨by decide, by decide⟩, tq1 13 rfl rfl⟩
theorem npJ3_checkIndex_8e157 : npar mJ3_checkIndex_8e157 3 := by unfold npar; decide +kernel
set_option maxRecDepth 20000 in
theorem okL_at : MdOk mL_at := ⟨tq3 41 rfl rfl, ⟨by decide, by decide⟩, tq1 0 rfl rfl⟩
theorem npL_at : npar mL_at 2 := by unfold npar; decide +kernel
set_option maxRecDepth 20000 in
theorem okL_mod : MdOk mL_mod := ⟨tq3 45 rfl rfl, ⟨by decide, by decide⟩, tq1 0 rfl rfl⟩
theorem npL_mod : npar mL_mod 2 := by unfold npar; decide +kernel
set_option maxRecDepth 20000 in
theorem okL_placeIn : MdOk mL_placeIn := ⟨tq3 161 rfl rfl, ⟨by decide, by decide⟩, tq1 0 rfl rfl⟩
theorem npL_placeIn : npar mL_placeIn 3 := by unfold npar; decide +kernel
set_option maxRecDepth 20000 in
theorem okL_place : MdOk mL_place := ⟨tq3 166 rfl rfl, ⟨by decide, by decide⟩, tq1 0 rfl rfl⟩
theorem npL_place : npar mL_place 2 := by unfold npar; decide +kernel
set_option maxRecDepth 20000 in
theorem okL_deal : MdOk mL_deal := ⟨tq3 54 rfl rfl, ⟨by decide, by decide⟩, tq1 0 rfl rfl⟩
theorem npL_deal : npar mL_deal 1 := by unfold npar; decide +kernel
set_option maxRecDepth 20000 in
theorem okL_isClash : MdOk mL_isClash := ⟨tq4 1 rfl rfl, ⟨by decide, by decide⟩, tq1 0 rfl rfl⟩
theorem npL_isClash : npar mL_isClash 2 := by unfold npar; decide +kernel
set_option maxRecDepth 20000 in
theorem okL_told : MdOk mL_told := ⟨tq3 72 rfl rfl, ⟨by decide, by decide⟩, tq1 0 rfl rfl⟩
theorem npL_told : npar mL_told 3 := by unfold npar; decide +kernel
set_option maxRecDepth 20000 in
theorem okL_falls : MdOk mL_falls := ⟨tq3 51 rfl rfl, ⟨by decide, by decide⟩, tq1 0 rfl rfl⟩
theorem npL_falls : npar mL_falls 3 := by unfold npar; decide +kernel
set_option maxRecDepth 20000 in
theorem okL_made : MdOk mL_made := ⟨tq3 48 rfl rfl, ⟨by decide, by decide⟩, tq1 0 rfl rfl⟩
theorem npL_made : npar mL_made 5 := by unfold npar; decide +kernel
set_option maxRecDepth 20000 in
theorem okL_same : MdOk mL_same := ⟨tq4 8 rfl rfl, ⟨by decide, by decide⟩, tq1 0 rfl rfl⟩
theorem npL_same : npar mL_same 2 := by unfold npar; decide +kernel
-- calls
set_option maxRecDepth 20000 in
theorem kL_116 : CalI RL 116 mX8_init 0 := ⟨okX8_init, npX8_init, rfl, rfl, tq1 23 rfl rfl, tq1 24 rfl rfl⟩
set_option maxRecDepth 20000 in
theorem kX8_1 : .methodLink RX8 1 Lib.objectInit ∈ TT := tq1 26 rfl rfl
set_option maxRecDepth 20000 in
theorem kX8_9 : CalIN RX8 9 mX0_init 0 := ⟨okX0_init, npX0_init, rfl, rfl, ⟨_, (show Cond.methodLinkNest RX8 9 yX0_init RX8 ∈ nestW by simp [nestW])⟩, tq1 32 rfl rfl⟩
set_option maxRecDepth 20000 in
theorem kX0_3 : .methodLink RX0 3 Lib.objectInit ∈ TT := tq1 34 rfl rfl
set_option maxRecDepth 20000 in
theorem kX8_22 : CalIN RX8 22 mX2_init 0 := ⟨okX2_init, npX2_init, rfl, rfl, ⟨_, (show Cond.methodLinkNest RX8 22 yX2_init RX8 ∈ nestW by simp [nestW])⟩, tq1 67 rfl rfl⟩
set_option maxRecDepth 20000 in
theorem kX2_3 : .methodLink RX2 3 Lib.objectInit ∈ TT := tq1 69 rfl rfl
set_option maxRecDepth 20000 in
theorem kX8_29 : CalI RX8 29 mX3_init 0 := ⟨okX3_init, npX3_init, rfl, rfl, tq1 76 rfl rfl, tq1 77 rfl rfl⟩
set_option maxRecDepth 20000 in
theorem kX3_3 : .methodLink RX3 3 Lib.objectInit ∈ TT := tq1 79 rfl rfl
set_option maxRecDepth 20000 in
theorem kX3_11 : CalIN RX3 11 mX7_init 0 := ⟨okX7_init, npX7_init, rfl, rfl, ⟨_, (show Cond.methodLinkNest RX3 11 yX7_init RX8 ∈ nestW by simp [nestW])⟩, tq1 83 rfl rfl⟩
set_option maxRecDepth 20000 in
theorem kX7_3 : .methodLink RX7 3 Lib.objectInit ∈ TT := tq1 85 rfl rfl
set_option maxRecDepth 20000 in
theorem kX3_30 : CalIN RX3 30 mX6_init 0 := ⟨okX6_init, npX6_init, rfl, rfl, ⟨_, (show Cond.methodLinkNest RX3 30 yX6_init RX8 ∈ nestW by simp [nestW])⟩, tq1 103 rfl rfl⟩
set_option maxRecDepth 20000 in
theorem kX6_3 : .methodLink RX6 3 Lib.objectInit ∈ TT := tq1 105 rfl rfl
set_option maxRecDepth 20000 in
theorem kX8_53 : CalIN RX8 53 mX5_init 0 := ⟨okX5_init, npX5_init, rfl, rfl, ⟨_, (show Cond.methodLinkNest RX8 53 yX5_init RX8 ∈ nestW by simp [nestW])⟩, tq1 129 rfl rfl⟩
set_option maxRecDepth 20000 in
theorem kX5_3 : .methodLink RX5 3 Lib.objectInit ∈ TT := tq1 131 rfl rfl
set_option maxRecDepth 20000 in
theorem kX8_54 : CalV RX8 54 2 mX2_startAll 2 := ⟨okX2_startAll, npX2_startAll, ⟨by decide, _, rfl, rfl⟩, tq1 144 rfl rfl, tq1 145 rfl rfl, tq1 146 rfl rfl⟩
set_option maxRecDepth 20000 in
theorem kL_68 : CalV RL 68 8 mX8_fall 1 := ⟨okX8_fall, npX8_fall, ⟨by decide, _, rfl, rfl⟩, tq1 177 rfl rfl, tq1 178 rfl rfl, tq1 179 rfl rfl⟩
set_option maxRecDepth 20000 in
theorem kX8_58 : CalS RX8 58 mX8_isOutside 2 := ⟨okX8_isOutside, npX8_isOutside, tq1 181 rfl rfl, tq1 182 rfl rfl⟩
set_option maxRecDepth 20000 in
theorem kX8_62 : CalV RX8 62 8 mX8_finding 1 := ⟨okX8_finding, npX8_finding, ⟨by decide, _, rfl, rfl⟩, tq1 184 rfl rfl, tq1 186 rfl rfl, tq0 0 rfl rfl⟩
set_option maxRecDepth 20000 in
theorem kL_108 : CalV RL 108 8 mX8_of 2 := ⟨okX8_of, npX8_of, ⟨by decide, _, rfl, rfl⟩, tq1 189 rfl rfl, tq1 190 rfl rfl, tq1 191 rfl rfl⟩
set_option maxRecDepth 20000 in
theorem kX8_128 : CalV RX8 128 0 mX0_dealAt 1 := ⟨okX0_dealAt, npX0_dealAt, ⟨by decide, _, rfl, rfl⟩, tq1 193 rfl rfl, tq1 194 rfl rfl, tq1 195 rfl rfl⟩
set_option maxRecDepth 20000 in
theorem kX0_56 : CalSN RX0 56 mX8_isOutside 2 := ⟨okX8_isOutside, npX8_isOutside, ⟨_, (show Cond.methodLinkNest RX0 56 yX8_isOutside RX8 ∈ nestW by simp [nestW])⟩, tq1 182 rfl rfl⟩
set_option maxRecDepth 20000 in
theorem kX8_153 : CalV RX8 153 8 mX8_countConveying 1 := ⟨okX8_countConveying, npX8_countConveying, ⟨by decide, _, rfl, rfl⟩, tq1 198 rfl rfl, tq1 200 rfl rfl, tq0 1 rfl rfl⟩
set_option maxRecDepth 20000 in
theorem kX8_181 : CalV RX8 181 0 mX0_endOpen 0 := ⟨okX0_endOpen, npX0_endOpen, ⟨by decide, _, rfl, rfl⟩, tq1 202 rfl rfl, tq1 203 rfl rfl, tq1 204 rfl rfl⟩
set_option maxRecDepth 20000 in
theorem kX0_46 : CalV RX0 46 0 mX0_firstOpen 0 := ⟨okX0_firstOpen, npX0_firstOpen, ⟨by decide, _, rfl, rfl⟩, tq1 206 rfl rfl, tq1 207 rfl rfl, tq1 208 rfl rfl⟩
set_option maxRecDepth 20000 in
theorem kX0_50 : CalV RX0 50 0 mX0_openCount 0 := ⟨okX0_openCount, npX0_openCount, ⟨by decide, _, rfl, rfl⟩, tq1 212 rfl rfl, tq1 213 rfl rfl, tq1 214 rfl rfl⟩
set_option maxRecDepth 20000 in
theorem kX8_84 : CalV RX8 84 0 mX0_firstOpen 0 := ⟨okX0_firstOpen, npX0_firstOpen, ⟨by decide, _, rfl, rfl⟩, tq1 218 rfl rfl, tq1 207 rfl rfl, tq1 208 rfl rfl⟩
set_option maxRecDepth 20000 in
theorem kX8_160 : CalV RX8 160 1 mX1_gives 1 := ⟨okX1_gives, npX1_gives, ⟨by decide, _, rfl, rfl⟩, tq1 219 rfl rfl, tq1 220 rfl rfl, tq1 221 rfl rfl⟩
set_option maxRecDepth 20000 in
theorem kX1_34 : CalV RX1 34 6 mX6_has 1 := ⟨okX6_has, npX6_has, ⟨by decide, _, rfl, rfl⟩, tq1 223 rfl rfl, tq1 224 rfl rfl, tq1 225 rfl rfl⟩
set_option maxRecDepth 20000 in
theorem kX1_40 : CalSN RX1 40 mX8_placeUnder 2 := ⟨okX8_placeUnder, npX8_placeUnder, ⟨_, (show Cond.methodLinkNest RX1 40 yX8_placeUnder RX8 ∈ nestW by simp [nestW])⟩, tq1 228 rfl rfl⟩
set_option maxRecDepth 20000 in
theorem kL_153 : CalV RL 153 8 mX8_conveys 3 := ⟨okX8_conveys, npX8_conveys, ⟨by decide, _, rfl, rfl⟩, tq1 233 rfl rfl, tq1 234 rfl rfl, tq1 235 rfl rfl⟩
set_option maxRecDepth 20000 in
theorem kX8_163 : CalV RX8 163 1 mX1_getsBack 1 := ⟨okX1_getsBack, npX1_getsBack, ⟨by decide, _, rfl, rfl⟩, tq1 237 rfl rfl, tq1 238 rfl rfl, tq1 239 rfl rfl⟩
set_option maxRecDepth 20000 in
theorem kX1_44 : CalV RX1 44 1 mX1_gives 1 := ⟨okX1_gives, npX1_gives, ⟨by decide, _, rfl, rfl⟩, tq2 1 rfl rfl, tq1 220 rfl rfl, tq1 221 rfl rfl⟩
set_option maxRecDepth 20000 in
theorem kL_193 : CalV RL 193 8 mX8_prune 0 := ⟨okX8_prune, npX8_prune, ⟨by decide, _, rfl, rfl⟩, tq2 2 rfl rfl, tq2 3 rfl rfl, tq2 4 rfl rfl⟩
set_option maxRecDepth 20000 in
theorem kL_150 : CalV RL 150 8 mX8_owner 2 := ⟨okX8_owner, npX8_owner, ⟨by decide, _, rfl, rfl⟩, tq2 6 rfl rfl, tq2 7 rfl rfl, tq2 8 rfl rfl⟩
set_option maxRecDepth 20000 in
theorem kX8_169 : CalV RX8 169 0 mX0_isOpen 1 := ⟨okX0_isOpen, npX0_isOpen, ⟨by decide, _, rfl, rfl⟩, tq2 10 rfl rfl, tq2 11 rfl rfl, tq2 12 rfl rfl⟩
set_option maxRecDepth 20000 in
theorem kX0_53 : CalV RX0 53 0 mX0_endOpen 0 := ⟨okX0_endOpen, npX0_endOpen, ⟨by decide, _, rfl, rfl⟩, tq2 14 rfl rfl, tq1 203 rfl rfl, tq1 204 rfl rfl⟩
set_option maxRecDepth 20000 in
theorem kX8_172 : CalV RX8 172 2 mX2_at 2 := ⟨okX2_at, npX2_at, ⟨by decide, _, rfl, rfl⟩, tq2 15 rfl rfl, tq2 16 rfl rfl, tq2 17 rfl rfl⟩
set_option maxRecDepth 20000 in
theorem kL_147 : CalV RL 147 8 mX8_chain 3 := ⟨okX8_chain, npX8_chain, ⟨by decide, _, rfl, rfl⟩, tq2 19 rfl rfl, tq2 20 rfl rfl, tq2 21 rfl rfl⟩
set_option maxRecDepth 20000 in
theorem kX8_175 : CalV RX8 175 1 mX1_takerOf 2 := ⟨okX1_takerOf, npX1_takerOf, ⟨by decide, _, rfl, rfl⟩, tq2 23 rfl rfl, tq2 24 rfl rfl, tq2 25 rfl rfl⟩
set_option maxRecDepth 20000 in
theorem kX1_48 : CalV RX1 48 1 mX1_mayGive 1 := ⟨okX1_mayGive, npX1_mayGive, ⟨by decide, _, rfl, rfl⟩, tq2 27 rfl rfl, tq2 29 rfl rfl, tq0 2 rfl rfl⟩
set_option maxRecDepth 20000 in
theorem kL_132 : CalV RL 132 8 mX8_hand 2 := ⟨okX8_hand, npX8_hand, ⟨by decide, _, rfl, rfl⟩, tq2 32 rfl rfl, tq2 33 rfl rfl, tq2 34 rfl rfl⟩
set_option maxRecDepth 20000 in
theorem kL_168 : CalV RL 168 8 mX8_owners 1 := ⟨okX8_owners, npX8_owners, ⟨by decide, _, rfl, rfl⟩, tq2 36 rfl rfl, tq2 37 rfl rfl, tq2 38 rfl rfl⟩
set_option maxRecDepth 20000 in
theorem kX8_178 : CalV RX8 178 8 mX8_everOwners 1 := ⟨okX8_everOwners, npX8_everOwners, ⟨by decide, _, rfl, rfl⟩, tq2 40 rfl rfl, tq2 42 rfl rfl, tq0 3 rfl rfl⟩
set_option maxRecDepth 20000 in
theorem kL_165 : CalV RL 165 8 mX8_sure 1 := ⟨okX8_sure, npX8_sure, ⟨by decide, _, rfl, rfl⟩, tq2 44 rfl rfl, tq2 45 rfl rfl, tq2 46 rfl rfl⟩
set_option maxRecDepth 20000 in
theorem kL_162 : CalV RL 162 8 mX8_chance 2 := ⟨okX8_chance, npX8_chance, ⟨by decide, _, rfl, rfl⟩, tq2 48 rfl rfl, tq2 49 rfl rfl, tq2 50 rfl rfl⟩
set_option maxRecDepth 20000 in
theorem kL_176 : CalV RL 176 8 mX8_least 2 := ⟨okX8_least, npX8_least, ⟨by decide, _, rfl, rfl⟩, tq2 52 rfl rfl, tq2 53 rfl rfl, tq2 54 rfl rfl⟩
set_option maxRecDepth 20000 in
theorem kL_135 : CalV RL 135 8 mX8_worth 2 := ⟨okX8_worth, npX8_worth, ⟨by decide, _, rfl, rfl⟩, tq2 56 rfl rfl, tq2 57 rfl rfl, tq2 58 rfl rfl⟩
set_option maxRecDepth 20000 in
theorem kX8_187 : CalV RX8 187 8 mX8_worthUnder 2 := ⟨okX8_worthUnder, npX8_worthUnder, ⟨by decide, _, rfl, rfl⟩, tq2 60 rfl rfl, tq2 62 rfl rfl, tq0 4 rfl rfl⟩
set_option maxRecDepth 20000 in
theorem kX8_69 : CalS RX8 69 mX8_placeUnder 2 := ⟨okX8_placeUnder, npX8_placeUnder, tq2 64 rfl rfl, tq1 228 rfl rfl⟩
set_option maxRecDepth 20000 in
theorem kL_156 : CalV RL 156 8 mX8_value 1 := ⟨okX8_value, npX8_value, ⟨by decide, _, rfl, rfl⟩, tq2 65 rfl rfl, tq2 66 rfl rfl, tq2 67 rfl rfl⟩
set_option maxRecDepth 20000 in
theorem kX8_190 : CalV RX8 190 8 mX8_longFinding 1 := ⟨okX8_longFinding, npX8_longFinding, ⟨by decide, _, rfl, rfl⟩, tq2 69 rfl rfl, tq2 71 rfl rfl, tq0 5 rfl rfl⟩
set_option maxRecDepth 20000 in
theorem kX8_194 : CalV RX8 194 8 mX8_worthOver 3 := ⟨okX8_worthOver, npX8_worthOver, ⟨by decide, _, rfl, rfl⟩, tq2 74 rfl rfl, tq2 76 rfl rfl, tq0 6 rfl rfl⟩
set_option maxRecDepth 20000 in
theorem kL_179 : CalV RL 179 8 mX8_best 2 := ⟨okX8_best, npX8_best, ⟨by decide, _, rfl, rfl⟩, tq2 78 rfl rfl, tq2 79 rfl rfl, tq2 80 rfl rfl⟩
set_option maxRecDepth 20000 in
theorem kL_182 : CalV RL 182 8 mX8_hope 1 := ⟨okX8_hope, npX8_hope, ⟨by decide, _, rfl, rfl⟩, tq2 82 rfl rfl, tq2 83 rfl rfl, tq2 84 rfl rfl⟩
set_option maxRecDepth 20000 in
theorem kL_144 : CalV RL 144 8 mX8_rounds 2 := ⟨okX8_rounds, npX8_rounds, ⟨by decide, _, rfl, rfl⟩, tq2 87 rfl rfl, tq2 88 rfl rfl, tq2 89 rfl rfl⟩
set_option maxRecDepth 20000 in
theorem kX8_203 : CalV RX8 203 5 mX5_isMissing 0 := ⟨okX5_isMissing, npX5_isMissing, ⟨by decide, _, rfl, rfl⟩, tq2 91 rfl rfl, tq2 92 rfl rfl, tq2 93 rfl rfl⟩
set_option maxRecDepth 20000 in
theorem kX8_208 : CalV RX8 208 8 mX8_tellsEachDeal 1 := ⟨okX8_tellsEachDeal, npX8_tellsEachDeal, ⟨by decide, _, rfl, rfl⟩, tq2 95 rfl rfl, tq2 97 rfl rfl, tq0 7 rfl rfl⟩
set_option maxRecDepth 20000 in
theorem kX8_212 : CalV RX8 212 8 mX8_countRounds 2 := ⟨okX8_countRounds, npX8_countRounds, ⟨by decide, _, rfl, rfl⟩, tq2 99 rfl rfl, tq2 101 rfl rfl, tq0 8 rfl rfl⟩
set_option maxRecDepth 20000 in
theorem kX8_286 : CalI RX8 286 mX4_init 1 := ⟨okX4_init, npX4_init, rfl, rfl, tq2 105 rfl rfl, tq2 106 rfl rfl⟩
set_option maxRecDepth 20000 in
theorem kX4_3 : .methodLink RX4 3 Lib.objectInit ∈ TT := tq2 108 rfl rfl
set_option maxRecDepth 20000 in
theorem kX8_289 : CalV RX8 289 8 mX8_goesOver 2 := ⟨okX8_goesOver, npX8_goesOver, ⟨by decide, _, rfl, rfl⟩, tq2 122 rfl rfl, tq2 124 rfl rfl, tq0 9 rfl rfl⟩
set_option maxRecDepth 20000 in
theorem kX8_293 : CalV RX8 293 4 mX4_move 2 := ⟨okX4_move, npX4_move, ⟨by decide, _, rfl, rfl⟩, tq2 126 rfl rfl, tq2 127 rfl rfl, tq2 128 rfl rfl⟩
set_option maxRecDepth 20000 in
theorem kX4_19 : CalV RX4 19 1 mX1_gives 1 := ⟨okX1_gives, npX1_gives, ⟨by decide, _, rfl, rfl⟩, tq2 130 rfl rfl, tq1 220 rfl rfl, tq1 221 rfl rfl⟩
set_option maxRecDepth 20000 in
theorem kX4_34 : CalV RX4 34 1 mX1_getsBack 1 := ⟨okX1_getsBack, npX1_getsBack, ⟨by decide, _, rfl, rfl⟩, tq2 131 rfl rfl, tq1 238 rfl rfl, tq1 239 rfl rfl⟩
set_option maxRecDepth 20000 in
theorem kL_138 : CalV RL 138 8 mX8_lays 2 := ⟨okX8_lays, npX8_lays, ⟨by decide, _, rfl, rfl⟩, tq2 132 rfl rfl, tq2 133 rfl rfl, tq2 134 rfl rfl⟩
set_option maxRecDepth 20000 in
theorem kX8_216 : CalS RX8 216 mJ9_min_7cf53 2 := ⟨okJ9_min_7cf53, npJ9_min_7cf53, tq2 136 rfl rfl, tq2 137 rfl rfl⟩
set_option maxRecDepth 20000 in
theorem kX8_221 : CalV RX8 221 5 mX5_put 2 := ⟨okX5_put, npX5_put, ⟨by decide, _, rfl, rfl⟩, tq2 139 rfl rfl, tq2 140 rfl rfl, tq2 141 rfl rfl⟩
set_option maxRecDepth 20000 in
theorem kL_141 : CalV RL 141 8 mX8_judge 2 := ⟨okX8_judge, npX8_judge, ⟨by decide, _, rfl, rfl⟩, tq2 143 rfl rfl, tq2 144 rfl rfl, tq2 145 rfl rfl⟩
set_option maxRecDepth 20000 in
theorem kL_122 : CalV RL 122 8 mX8_sheet 3 := ⟨okX8_sheet, npX8_sheet, ⟨by decide, _, rfl, rfl⟩, tq2 147 rfl rfl, tq2 148 rfl rfl, tq2 149 rfl rfl⟩
set_option maxRecDepth 20000 in
theorem kX8_233 : CalV RX8 233 5 mX5_become 2 := ⟨okX5_become, npX5_become, ⟨by decide, _, rfl, rfl⟩, tq2 151 rfl rfl, tq2 152 rfl rfl, tq2 153 rfl rfl⟩
set_option maxRecDepth 20000 in
theorem kL_125 : CalV RL 125 8 mX8_write 3 := ⟨okX8_write, npX8_write, ⟨by decide, _, rfl, rfl⟩, tq2 155 rfl rfl, tq2 156 rfl rfl, tq2 157 rfl rfl⟩
set_option maxRecDepth 20000 in
theorem kL_185 : CalV RL 185 8 mX8_image 0 := ⟨okX8_image, npX8_image, ⟨by decide, _, rfl, rfl⟩, tq2 159 rfl rfl, tq2 160 rfl rfl, tq2 161 rfl rfl⟩
set_option maxRecDepth 20000 in
theorem kX8_257 : CalV RX8 257 0 mX0_become 1 := ⟨okX0_become, npX0_become, ⟨by decide, _, rfl, rfl⟩, tq2 163 rfl rfl, tq2 164 rfl rfl, tq2 165 rfl rfl⟩
set_option maxRecDepth 20000 in
theorem kX0_31 : .methodLink RX0 31 (⟨"java/lang/System", "arraycopy", "(Ljava/lang/Object;ILjava/lang/Object;II)V"⟩ : MethodName) ∈ TT := tq2 167 rfl rfl
set_option maxRecDepth 20000 in
theorem kL_190 : CalV RL 190 8 mX8_back 0 := ⟨okX8_back, npX8_back, ⟨by decide, _, rfl, rfl⟩, tq2 170 rfl rfl, tq2 171 rfl rfl, tq2 172 rfl rfl⟩
set_option maxRecDepth 20000 in
theorem kX8_125 : CalV RX8 125 8 mX8_settleAll 0 := ⟨okX8_settleAll, npX8_settleAll, ⟨by decide, _, rfl, rfl⟩, tq2 174 rfl rfl, tq2 176 rfl rfl, tq0 10 rfl rfl⟩
set_option maxRecDepth 20000 in
theorem kX8_276 : CalV RX8 276 2 mX2_settle 3 := ⟨okX2_settle, npX2_settle, ⟨by decide, _, rfl, rfl⟩, tq2 178 rfl rfl, tq2 179 rfl rfl, tq2 180 rfl rfl⟩
set_option maxRecDepth 20000 in
theorem kX2_16 : CalV RX2 16 1 mX1_gives 1 := ⟨okX1_gives, npX1_gives, ⟨by decide, _, rfl, rfl⟩, tq2 182 rfl rfl, tq1 220 rfl rfl, tq1 221 rfl rfl⟩
set_option maxRecDepth 20000 in
theorem kX2_26 : CalV RX2 26 2 mX2_give 3 := ⟨okX2_give, npX2_give, ⟨by decide, _, rfl, rfl⟩, tq2 183 rfl rfl, tq2 185 rfl rfl, tq0 11 rfl rfl⟩
set_option maxRecDepth 20000 in
theorem kL_101 : CalV RL 101 8 mX8_count 1 := ⟨okX8_count, npX8_count, ⟨by decide, _, rfl, rfl⟩, tq2 187 rfl rfl, tq2 188 rfl rfl, tq2 189 rfl rfl⟩
set_option maxRecDepth 20000 in
theorem kX8_88 : CalV RX8 88 0 mX0_openCount 0 := ⟨okX0_openCount, npX0_openCount, ⟨by decide, _, rfl, rfl⟩, tq2 191 rfl rfl, tq1 213 rfl rfl, tq1 214 rfl rfl⟩
set_option maxRecDepth 20000 in
theorem kX8_260 : CalV RX8 260 8 mX8_countHeld 0 := ⟨okX8_countHeld, npX8_countHeld, ⟨by decide, _, rfl, rfl⟩, tq2 192 rfl rfl, tq2 194 rfl rfl, tq0 12 rfl rfl⟩
set_option maxRecDepth 20000 in
theorem kL_117 : CalIN RL 117 mX9_init 0 := ⟨okX9_init, npX9_init, rfl, rfl, ⟨_, (show Cond.methodLinkNest RL 117 yX9_init RL ∈ nestW by simp [nestW])⟩, tq2 199 rfl rfl⟩
set_option maxRecDepth 20000 in
theorem kX9_1 : .methodLink RX9 1 Lib.objectInit ∈ TT := tq2 201 rfl rfl
set_option maxRecDepth 20000 in
theorem kX9_9 : CalI RX9 9 mJx4a65c_init_da8c8 0 := ⟨okJx4a65c_init_da8c8, npJx4a65c_init_da8c8, rfl, rfl, tq2 204 rfl rfl, tq2 205 rfl rfl⟩
set_option maxRecDepth 20000 in
theorem kJx4a65c_1 : CalI RJx4a65c 1 mJxc12de_init_da8c8 0 := ⟨okJxc12de_init_da8c8, npJxc12de_init_da8c8, rfl, rfl, tq2 207 rfl rfl, tq2 208 rfl rfl⟩
set_option maxRecDepth 20000 in
theorem kJxc12de_1 : CalI RJxc12de 1 mJxa1e45_init_da8c8 0 := ⟨okJxa1e45_init_da8c8, npJxa1e45_init_da8c8, rfl, rfl, tq2 210 rfl rfl, tq2 211 rfl rfl⟩
set_option maxRecDepth 20000 in
theorem kJxa1e45_1 : .methodLink RJxa1e45 1 Lib.objectInit ∈ TT := tq2 213 rfl rfl
set_option maxRecDepth 20000 in
theorem kL_129 : CalV RL 129 9 mX9_from 0 := ⟨okX9_from, npX9_from, ⟨by decide, _, rfl, rfl⟩, tq3 31 rfl rfl, tq3 32 rfl rfl, tq3 33 rfl rfl⟩
set_option maxRecDepth 20000 in
theorem kL_104 : CalV RL 104 9 mX9_size 0 := ⟨okX9_size, npX9_size, ⟨by decide, _, rfl, rfl⟩, tq3 35 rfl rfl, tq3 36 rfl rfl, tq3 37 rfl rfl⟩
set_option maxRecDepth 20000 in
theorem kL_71 : CalS RL 71 mL_at 2 := ⟨okL_at, npL_at, tq3 39 rfl rfl, tq3 40 rfl rfl⟩
set_option maxRecDepth 20000 in
theorem kL_18 : CalS RL 18 mL_mod 2 := ⟨okL_mod, npL_mod, tq3 43 rfl rfl, tq3 44 rfl rfl⟩
set_option maxRecDepth 20000 in
theorem kL_118 : CalS RL 118 mL_made 5 := ⟨okL_made, npL_made, tq3 46 rfl rfl, tq3 47 rfl rfl⟩
set_option maxRecDepth 20000 in
theorem kL_75 : CalS RL 75 mL_falls 3 := ⟨okL_falls, npL_falls, tq3 49 rfl rfl, tq3 50 rfl rfl⟩
set_option maxRecDepth 20000 in
theorem kL_79 : CalS RL 79 mL_deal 1 := ⟨okL_deal, npL_deal, tq3 52 rfl rfl, tq3 53 rfl rfl⟩
set_option maxRecDepth 20000 in
theorem kL_90 : CalV RL 90 10 mJx4a65c_get_915e3 1 := ⟨okJx4a65c_get_915e3, npJx4a65c_get_915e3, ⟨by decide, _, rfl, rfl⟩, tq3 55 rfl rfl, tq3 56 rfl rfl, tq3 57 rfl rfl⟩
set_option maxRecDepth 20000 in
theorem kJx4a65c_118 : CalS RJx4a65c 118 mJ15_checkIndex_7cf53 2 := ⟨okJ15_checkIndex_7cf53, npJ15_checkIndex_7cf53, tq3 59 rfl rfl, tq3 60 rfl rfl⟩
set_option maxRecDepth 20000 in
theorem kJ15_105 : CalS RJ15 105 mJ3_checkIndex_8e157 3 := ⟨okJ3_checkIndex_8e157, npJ3_checkIndex_8e157, tq3 62 rfl rfl, tq3 63 rfl rfl⟩
set_option maxRecDepth 20000 in
theorem kJx4a65c_123 : CalV RJx4a65c 123 10 mJx4a65c_elementData_915e3 1 := ⟨okJx4a65c_elementData_915e3, npJx4a65c_elementData_915e3, ⟨by decide, _, rfl, rfl⟩, tq3 65 rfl rfl, tq3 66 rfl rfl, tq3 67 rfl rfl⟩
set_option maxRecDepth 20000 in
theorem kL_97 : CalS RL 97 mL_told 3 := ⟨okL_told, npL_told, tq3 70 rfl rfl, tq3 71 rfl rfl⟩
set_option maxRecDepth 20000 in
theorem kL_46 : CalV RL 46 9 mX9_comes 2 := ⟨okX9_comes, npX9_comes, ⟨by decide, _, rfl, rfl⟩, tq3 73 rfl rfl, tq3 74 rfl rfl, tq3 75 rfl rfl⟩
set_option maxRecDepth 20000 in
theorem kX9_88 : CalV RX9 88 10 mJx4a65c_add_9ea2d 1 := ⟨okJx4a65c_add_9ea2d, npJx4a65c_add_9ea2d, ⟨by decide, _, rfl, rfl⟩, tq3 77 rfl rfl, tq3 78 rfl rfl, tq3 79 rfl rfl⟩
set_option maxRecDepth 20000 in
theorem kJx4a65c_131 : CalV RJx4a65c 131 10 mJx4a65c_add_72be8 3 := ⟨okJx4a65c_add_72be8, npJx4a65c_add_72be8, ⟨by decide, _, rfl, rfl⟩, tq3 81 rfl rfl, tq3 83 rfl rfl, tq0 13 rfl rfl⟩
set_option maxRecDepth 20000 in
theorem kJx4a65c_129 : CalV RJx4a65c 129 10 mJx4a65c_grow_d5877 0 := ⟨okJx4a65c_grow_d5877, npJx4a65c_grow_d5877, ⟨by decide, _, rfl, rfl⟩, tq3 85 rfl rfl, tq3 87 rfl rfl, tq0 14 rfl rfl⟩
set_option maxRecDepth 20000 in
theorem kJx4a65c_69 : CalV RJx4a65c 69 10 mJx4a65c_grow_92f84 1 := ⟨okJx4a65c_grow_92f84, npJx4a65c_grow_92f84, ⟨by decide, _, rfl, rfl⟩, tq3 89 rfl rfl, tq3 91 rfl rfl, tq0 15 rfl rfl⟩
set_option maxRecDepth 20000 in
theorem kJx4a65c_73 : CalS RJx4a65c 73 mJ8_newLength_cabcc 3 := ⟨okJ8_newLength_cabcc, npJ8_newLength_cabcc, tq3 93 rfl rfl, tq3 94 rfl rfl⟩
set_option maxRecDepth 20000 in
theorem kJ8_194 : CalS RJ8 194 mJ9_max_7cf53 2 := ⟨okJ9_max_7cf53, npJ9_max_7cf53, tq3 96 rfl rfl, tq3 97 rfl rfl⟩
set_option maxRecDepth 20000 in
theorem kJ8_201 : CalS RJ8 201 mJ8_hugeLength_7cf53 2 := ⟨okJ8_hugeLength_7cf53, npJ8_hugeLength_7cf53, tq3 100 rfl rfl, tq3 101 rfl rfl⟩
set_option maxRecDepth 20000 in
theorem kJx4a65c_66 : CalS RJx4a65c 66 mJ7_copyOf_1904c 2 := ⟨okJ7_copyOf_1904c, npJ7_copyOf_1904c, tq3 103 rfl rfl, tq3 104 rfl rfl⟩
set_option maxRecDepth 20000 in
theorem kJ7_86 : .methodLink RJ7 86 (⟨"java/lang/Object", "getClass", "()Ljava/lang/Class;"⟩ : MethodName) ∈ TT := tq3 106 rfl rfl
set_option maxRecDepth 20000 in
theorem kJ7_300 : CalS RJ7 300 mJ7_copyOf_6403c 3 := ⟨okJ7_copyOf_6403c, npJ7_copyOf_6403c, tq3 121 rfl rfl, tq3 122 rfl rfl⟩
set_option maxRecDepth 20000 in
theorem kJ7_304 : CalS RJ7 304 mJ9_min_7cf53 2 := ⟨okJ9_min_7cf53, npJ9_min_7cf53, tq3 127 rfl rfl, tq2 137 rfl rfl⟩
set_option maxRecDepth 20000 in
theorem kJ7_150 : .methodLink RJ7 150 (⟨"java/lang/System", "arraycopy", "(Ljava/lang/Object;ILjava/lang/Object;II)V"⟩ : MethodName) ∈ TT := tq3 128 rfl rfl
set_option maxRecDepth 20000 in
theorem kJx4a65c_79 : CalS RJx4a65c 79 mJ9_max_7cf53 2 := ⟨okJ9_max_7cf53, npJ9_max_7cf53, tq3 129 rfl rfl, tq3 97 rfl rfl⟩
set_option maxRecDepth 20000 in
theorem kX9_92 : CalV RX9 92 10 mJx4a65c_size_8abf5 0 := ⟨okJx4a65c_size_8abf5, npJx4a65c_size_8abf5, ⟨by decide, _, rfl, rfl⟩, tq3 131 rfl rfl, tq3 132 rfl rfl, tq3 133 rfl rfl⟩
set_option maxRecDepth 20000 in
theorem kX9_93 : CalV RX9 93 9 mX9_clashes 0 := ⟨okX9_clashes, npX9_clashes, ⟨by decide, _, rfl, rfl⟩, tq3 135 rfl rfl, tq3 136 rfl rfl, tq3 137 rfl rfl⟩
set_option maxRecDepth 20000 in
theorem kX9_69 : CalV RX9 69 9 mX9_from 0 := ⟨okX9_from, npX9_from, ⟨by decide, _, rfl, rfl⟩, tq3 139 rfl rfl, tq3 32 rfl rfl, tq3 33 rfl rfl⟩
set_option maxRecDepth 20000 in
theorem kX9_73 : CalV RX9 73 9 mX9_size 0 := ⟨okX9_size, npX9_size, ⟨by decide, _, rfl, rfl⟩, tq3 140 rfl rfl, tq3 36 rfl rfl, tq3 37 rfl rfl⟩
set_option maxRecDepth 20000 in
theorem kX9_76 : CalV RX9 76 9 mX9_chain 2 := ⟨okX9_chain, npX9_chain, ⟨by decide, _, rfl, rfl⟩, tq3 141 rfl rfl, tq3 142 rfl rfl, tq3 143 rfl rfl⟩
set_option maxRecDepth 20000 in
theorem kX9_63 : CalV RX9 63 9 mX9_conveys 3 := ⟨okX9_conveys, npX9_conveys, ⟨by decide, _, rfl, rfl⟩, tq3 145 rfl rfl, tq3 146 rfl rfl, tq3 147 rfl rfl⟩
set_option maxRecDepth 20000 in
theorem kX9_36 : CalV RX9 36 10 mJx4a65c_get_915e3 1 := ⟨okJx4a65c_get_915e3, npJx4a65c_get_915e3, ⟨by decide, _, rfl, rfl⟩, tq3 149 rfl rfl, tq3 56 rfl rfl, tq3 57 rfl rfl⟩
set_option maxRecDepth 20000 in
theorem kX9_51 : CalV RX9 51 9 mX9_holds 2 := ⟨okX9_holds, npX9_holds, ⟨by decide, _, rfl, rfl⟩, tq3 151 rfl rfl, tq3 152 rfl rfl, tq3 153 rfl rfl⟩
set_option maxRecDepth 20000 in
theorem kX9_41 : CalV RX9 41 9 mX9_lapses 2 := ⟨okX9_lapses, npX9_lapses, ⟨by decide, _, rfl, rfl⟩, tq3 155 rfl rfl, tq3 156 rfl rfl, tq3 157 rfl rfl⟩
set_option maxRecDepth 20000 in
theorem kX9_45 : CalSN RX9 45 mL_placeIn 3 := ⟨okL_placeIn, npL_placeIn, ⟨_, (show Cond.methodLinkNest RX9 45 yL_placeIn RL ∈ nestW by simp [nestW])⟩, tq3 160 rfl rfl⟩
set_option maxRecDepth 20000 in
theorem kX9_54 : CalSN RX9 54 mL_place 2 := ⟨okL_place, npL_place, ⟨_, (show Cond.methodLinkNest RX9 54 yL_place RL ∈ nestW by simp [nestW])⟩, tq3 165 rfl rfl⟩
set_option maxRecDepth 20000 in
theorem kL_14 : CalS RL 14 mL_placeIn 3 := ⟨okL_placeIn, npL_placeIn, tq3 167 rfl rfl, tq3 160 rfl rfl⟩
set_option maxRecDepth 20000 in
theorem kX9_58 : CalS RX9 58 mJ9_max_7cf53 2 := ⟨okJ9_max_7cf53, npJ9_max_7cf53, tq3 168 rfl rfl, tq3 97 rfl rfl⟩
set_option maxRecDepth 20000 in
theorem kL_53 : CalV RL 53 8 mX8_sale 5 := ⟨okX8_sale, npX8_sale, ⟨by decide, _, rfl, rfl⟩, tq3 172 rfl rfl, tq3 173 rfl rfl, tq3 174 rfl rfl⟩
set_option maxRecDepth 20000 in
theorem kX8_91 : CalS RX8 91 mX8_areNoPair 2 := ⟨okX8_areNoPair, npX8_areNoPair, tq3 176 rfl rfl, tq3 177 rfl rfl⟩
set_option maxRecDepth 20000 in
theorem kX8_94 : CalI RX8 94 mX1_init 7 := ⟨okX1_init, npX1_init, rfl, rfl, tq3 179 rfl rfl, tq3 180 rfl rfl⟩
set_option maxRecDepth 20000 in
theorem kX1_3 : .methodLink RX1 3 Lib.objectInit ∈ TT := tq3 182 rfl rfl
set_option maxRecDepth 20000 in
theorem kX8_97 : CalV RX8 97 8 mX8_enter 1 := ⟨okX8_enter, npX8_enter, ⟨by decide, _, rfl, rfl⟩, tq3 217 rfl rfl, tq3 219 rfl rfl, tq0 16 rfl rfl⟩
set_option maxRecDepth 20000 in
theorem kX8_121 : CalV RX8 121 8 mX8_takes 1 := ⟨okX8_takes, npX8_takes, ⟨by decide, _, rfl, rfl⟩, tq3 221 rfl rfl, tq3 223 rfl rfl, tq0 17 rfl rfl⟩
set_option maxRecDepth 20000 in
theorem kX8_272 : CalV RX8 272 8 mX8_clashesUnder 2 := ⟨okX8_clashesUnder, npX8_clashesUnder, ⟨by decide, _, rfl, rfl⟩, tq3 225 rfl rfl, tq3 227 rfl rfl, tq0 18 rfl rfl⟩
set_option maxRecDepth 20000 in
theorem kX8_280 : CalV RX8 280 0 mX0_clashOf 4 := ⟨okX0_clashOf, npX0_clashOf, ⟨by decide, _, rfl, rfl⟩, tq3 229 rfl rfl, tq3 230 rfl rfl, tq3 231 rfl rfl⟩
set_option maxRecDepth 20000 in
theorem kX0_60 : CalV RX0 60 0 mX0_dealAt 1 := ⟨okX0_dealAt, npX0_dealAt, ⟨by decide, _, rfl, rfl⟩, tq3 233 rfl rfl, tq1 194 rfl rfl, tq1 195 rfl rfl⟩
set_option maxRecDepth 20000 in
theorem kX0_64 : CalV RX0 64 1 mX1_takerOf 2 := ⟨okX1_takerOf, npX1_takerOf, ⟨by decide, _, rfl, rfl⟩, tq3 234 rfl rfl, tq2 24 rfl rfl, tq2 25 rfl rfl⟩
set_option maxRecDepth 20000 in
theorem kL_57 : CalV RL 57 8 mX8_swap 5 := ⟨okX8_swap, npX8_swap, ⟨by decide, _, rfl, rfl⟩, tq3 235 rfl rfl, tq3 236 rfl rfl, tq3 237 rfl rfl⟩
set_option maxRecDepth 20000 in
theorem kL_60 : CalS RL 60 mL_isClash 2 := ⟨okL_isClash, npL_isClash, tq3 239 rfl rfl, tq4 0 rfl rfl⟩
set_option maxRecDepth 20000 in
theorem kL_22 : CalV RL 22 8 mX8_clash 1 := ⟨okX8_clash, npX8_clash, ⟨by decide, _, rfl, rfl⟩, tq4 2 rfl rfl, tq4 3 rfl rfl, tq4 4 rfl rfl⟩
set_option maxRecDepth 20000 in
theorem kL_196 : CalS RL 196 mL_same 2 := ⟨okL_same, npL_same, tq4 6 rfl rfl, tq4 7 rfl rfl⟩
set_option maxRecDepth 20000 in
theorem kL_114 : CalV RL 114 8 mX8_fallen 1 := ⟨okX8_fallen, npX8_fallen, ⟨by decide, _, rfl, rfl⟩, tq4 9 rfl rfl, tq4 10 rfl rfl, tq4 11 rfl rfl⟩
set_option maxRecDepth 20000 in
theorem kL_171 : CalS RL 171 mJ6_bitCount_0f7a4 1 := ⟨okJ6_bitCount_0f7a4, npJ6_bitCount_0f7a4, tq4 13 rfl rfl, tq4 14 rfl rfl⟩
set_option maxRecDepth 20000 in
theorem w_objI : .instanceMethod Lib.objectInit ∈ TT := tq1 27 rfl rfl
set_option maxRecDepth 20000 in
theorem w_objC : .code Lib.objectInit ⟨#[0xb1]⟩ 1 none ∈ TT := tq1 28 rfl rfl
-- fields
set_option maxRecDepth 20000 in
theorem fX0_11 : Fld RX0 11 0 0 (.array (.object "RolledPicks$Deal")) true := ⟨_, rfl, by decide, ⟨_, tq1 37 rfl rfl, Or.inl rfl⟩, rfl, rfl, fun _ => rfl⟩
set_option maxRecDepth 20000 in
theorem fX8_166 : Fld RX8 166 0 0 (.array (.object "RolledPicks$Deal")) true := ⟨_, rfl, by decide, ⟨_, tq1 38 rfl rfl, Or.inl rfl⟩, rfl, rfl, fun _ => rfl⟩
set_option maxRecDepth 20000 in
theorem fX0_28 : Fld RX0 28 0 1 (.int) false := ⟨_, rfl, by decide, ⟨_, tq1 39 rfl rfl, Or.inl rfl⟩, rfl, rfl, fun z => by cases z⟩
set_option maxRecDepth 20000 in
theorem fX8_101 : Fld RX8 101 0 1 (.int) false := ⟨_, rfl, by decide, ⟨_, tq1 40 rfl rfl, Or.inl rfl⟩, rfl, rfl, fun z => by cases z⟩
set_option maxRecDepth 20000 in
theorem fX0_17 : Fld RX0 17 0 2 (.array .int) true := ⟨_, rfl, by decide, ⟨_, tq1 41 rfl rfl, Or.inl rfl⟩, rfl, rfl, fun _ => rfl⟩
set_option maxRecDepth 20000 in
theorem fX8_77 : Fld RX8 77 0 2 (.array .int) true := ⟨_, rfl, by decide, ⟨_, tq1 42 rfl rfl, Or.inl rfl⟩, rfl, rfl, fun _ => rfl⟩
set_option maxRecDepth 20000 in
theorem fX0_37 : Fld RX0 37 0 3 (.int) false := ⟨_, rfl, by decide, ⟨_, tq1 43 rfl rfl, Or.inl rfl⟩, rfl, rfl, fun z => by cases z⟩
set_option maxRecDepth 20000 in
theorem fX8_73 : Fld RX8 73 0 3 (.int) false := ⟨_, rfl, by decide, ⟨_, tq1 44 rfl rfl, Or.inl rfl⟩, rfl, rfl, fun z => by cases z⟩
set_option maxRecDepth 20000 in
theorem fX0_21 : Fld RX0 21 0 4 (.array .int) true := ⟨_, rfl, by decide, ⟨_, tq1 45 rfl rfl, Or.inl rfl⟩, rfl, rfl, fun _ => rfl⟩
set_option maxRecDepth 20000 in
theorem fX8_184 : Fld RX8 184 0 4 (.array .int) true := ⟨_, rfl, by decide, ⟨_, tq1 46 rfl rfl, Or.inl rfl⟩, rfl, rfl, fun _ => rfl⟩
set_option maxRecDepth 20000 in
theorem fX0_24 : Fld RX0 24 0 5 (.int) false := ⟨_, rfl, by decide, ⟨_, tq1 47 rfl rfl, Or.inl rfl⟩, rfl, rfl, fun z => by cases z⟩
set_option maxRecDepth 20000 in
theorem fX8_80 : Fld RX8 80 0 5 (.int) false := ⟨_, rfl, by decide, ⟨_, tq1 48 rfl rfl, Or.inl rfl⟩, rfl, rfl, fun z => by cases z⟩
set_option maxRecDepth 20000 in
theorem fX2_9 : Fld RX2 9 2 0 (.array .int) true := ⟨_, rfl, by decide, ⟨_, tq1 70 rfl rfl, Or.inl rfl⟩, rfl, rfl, fun _ => rfl⟩
set_option maxRecDepth 20000 in
theorem fX7_9 : Fld RX7 9 7 0 (.array .byte) true := ⟨_, rfl, by decide, ⟨_, tq1 86 rfl rfl, Or.inl rfl⟩, rfl, rfl, fun _ => rfl⟩
set_option maxRecDepth 20000 in
theorem fX8_112 : Fld RX8 112 7 1 (.int) false := ⟨_, rfl, by decide, ⟨_, tq1 87 rfl rfl, Or.inl rfl⟩, rfl, rfl, fun z => by cases z⟩
set_option maxRecDepth 20000 in
theorem fX6_11 : Fld RX6 11 6 0 (.array .long) true := ⟨_, rfl, by decide, ⟨_, tq1 106 rfl rfl, Or.inl rfl⟩, rfl, rfl, fun _ => rfl⟩
set_option maxRecDepth 20000 in
theorem fX3_12 : Fld RX3 12 3 0 (.object "RolledPicks$Tape") true := ⟨_, rfl, by decide, ⟨_, tq1 111 rfl rfl, Or.inl rfl⟩, rfl, rfl, fun _ => rfl⟩
set_option maxRecDepth 20000 in
theorem fX8_108 : Fld RX8 108 3 0 (.object "RolledPicks$Tape") true := ⟨_, rfl, by decide, ⟨_, tq1 112 rfl rfl, Or.inl rfl⟩, rfl, rfl, fun _ => rfl⟩
set_option maxRecDepth 20000 in
theorem fX3_20 : Fld RX3 20 3 1 (.array (.object "RolledPicks$Deal")) true := ⟨_, rfl, by decide, ⟨_, tq1 113 rfl rfl, Or.inl rfl⟩, rfl, rfl, fun _ => rfl⟩
set_option maxRecDepth 20000 in
theorem fX3_26 : Fld RX3 26 3 3 (.array (.object "RolledPicks$Standings")) true := ⟨_, rfl, by decide, ⟨_, tq1 114 rfl rfl, Or.inl rfl⟩, rfl, rfl, fun _ => rfl⟩
set_option maxRecDepth 20000 in
theorem fX5_9 : Fld RX5 9 5 0 (.array .long) true := ⟨_, rfl, by decide, ⟨_, tq1 132 rfl rfl, Or.inl rfl⟩, rfl, rfl, fun _ => rfl⟩
set_option maxRecDepth 20000 in
theorem fX8_225 : Fld RX8 225 5 0 (.array .long) true := ⟨_, rfl, by decide, ⟨_, tq1 133 rfl rfl, Or.inl rfl⟩, rfl, rfl, fun _ => rfl⟩
set_option maxRecDepth 20000 in
theorem fX5_15 : Fld RX5 15 5 1 (.int) false := ⟨_, rfl, by decide, ⟨_, tq1 134 rfl rfl, Or.inl rfl⟩, rfl, rfl, fun z => by cases z⟩
set_option maxRecDepth 20000 in
theorem fX5_19 : Fld RX5 19 5 2 (.int) false := ⟨_, rfl, by decide, ⟨_, tq1 135 rfl rfl, Or.inl rfl⟩, rfl, rfl, fun z => by cases z⟩
set_option maxRecDepth 20000 in
theorem fX8_207 : Fld RX8 207 5 2 (.int) false := ⟨_, rfl, by decide, ⟨_, tq1 136 rfl rfl, Or.inl rfl⟩, rfl, rfl, fun z => by cases z⟩
set_option maxRecDepth 20000 in
theorem fX8_10 : Fld RX8 10 8 0 (.object "RolledPicks$Book") true := ⟨_, rfl, by decide, ⟨_, tq1 149 rfl rfl, Or.inl rfl⟩, rfl, rfl, fun _ => rfl⟩
set_option maxRecDepth 20000 in
theorem fX8_16 : Fld RX8 16 8 1 (.array (.object "RolledPicks$Book")) true := ⟨_, rfl, by decide, ⟨_, tq1 150 rfl rfl, Or.inl rfl⟩, rfl, rfl, fun _ => rfl⟩
set_option maxRecDepth 20000 in
theorem fX8_254 : Fld RX8 254 8 2 (.int) false := ⟨_, rfl, by decide, ⟨_, tq1 151 rfl rfl, Or.inl rfl⟩, rfl, rfl, fun z => by cases z⟩
set_option maxRecDepth 20000 in
theorem fX8_23 : Fld RX8 23 8 3 (.object "RolledPicks$Owners") true := ⟨_, rfl, by decide, ⟨_, tq1 152 rfl rfl, Or.inl rfl⟩, rfl, rfl, fun _ => rfl⟩
set_option maxRecDepth 20000 in
theorem fX8_30 : Fld RX8 30 8 4 (.object "RolledPicks$Reader") true := ⟨_, rfl, by decide, ⟨_, tq1 153 rfl rfl, Or.inl rfl⟩, rfl, rfl, fun _ => rfl⟩
set_option maxRecDepth 20000 in
theorem fX8_36 : Fld RX8 36 8 5 (.array (.object "RolledPicks$Sheet")) true := ⟨_, rfl, by decide, ⟨_, tq1 154 rfl rfl, Or.inl rfl⟩, rfl, rfl, fun _ => rfl⟩
set_option maxRecDepth 20000 in
theorem fX8_42 : Fld RX8 42 8 6 (.array (.object "RolledPicks$Deal")) true := ⟨_, rfl, by decide, ⟨_, tq1 155 rfl rfl, Or.inl rfl⟩, rfl, rfl, fun _ => rfl⟩
set_option maxRecDepth 20000 in
theorem fX8_46 : Fld RX8 46 8 7 (.array .int) true := ⟨_, rfl, by decide, ⟨_, tq1 156 rfl rfl, Or.inl rfl⟩, rfl, rfl, fun _ => rfl⟩
set_option maxRecDepth 20000 in
theorem fX8_50 : Fld RX8 50 8 8 (.array .int) true := ⟨_, rfl, by decide, ⟨_, tq1 157 rfl rfl, Or.inl rfl⟩, rfl, rfl, fun _ => rfl⟩
theorem gX0_40 : .fieldLinkNest RX0 40 RX8 "YEAR_STEP" "[I" RX8 ∈ nestW := by simp [nestW]
theorem gX0_43 : .fieldLinkNest RX0 43 RX8 "OPEN_LEFT" "[I" RX8 ∈ nestW := by simp [nestW]
set_option maxRecDepth 20000 in
theorem gX8_198 : .fieldLink RX8 198 RX8 "YEAR_STEP" "[I" ∈ TT := tq1 230 rfl rfl
set_option maxRecDepth 20000 in
theorem gX8_263 : .fieldLink RX8 263 RX8 "PLACE_OF" "[I" ∈ TT := tq1 231 rfl rfl
set_option maxRecDepth 20000 in
theorem fX4_15 : Fld RX4 15 4 0 (.int) true := ⟨_, rfl, by decide, ⟨_, tq2 109 rfl rfl, Or.inl rfl⟩, rfl, rfl, fun _ => rfl⟩
set_option maxRecDepth 20000 in
theorem fX4_9 : Fld RX4 9 4 1 (.array .int) true := ⟨_, rfl, by decide, ⟨_, tq2 110 rfl rfl, Or.inl rfl⟩, rfl, rfl, fun _ => rfl⟩
set_option maxRecDepth 20000 in
theorem fX4_28 : Fld RX4 28 4 2 (.int) false := ⟨_, rfl, by decide, ⟨_, tq2 111 rfl rfl, Or.inl rfl⟩, rfl, rfl, fun z => by cases z⟩
set_option maxRecDepth 20000 in
theorem fX4_37 : Fld RX4 37 4 3 (.int) false := ⟨_, rfl, by decide, ⟨_, tq2 112 rfl rfl, Or.inl rfl⟩, rfl, rfl, fun z => by cases z⟩
set_option maxRecDepth 20000 in
theorem gJx4a65c_39 : .fieldLink RJx4a65c 39 RJx4a65c "DEFAULTCAPACITY_EMPTY_ELEMENTDATA" "[Ljava/lang/Object;" ∈ TT := tq2 214 rfl rfl
set_option maxRecDepth 20000 in
theorem fJx4a65c_9 : Fld RJx4a65c 9 10 1 (.array (.object "java/lang/Object")) false := ⟨_, rfl, by decide, ⟨_, tq2 216 rfl rfl, Or.inl rfl⟩, rfl, rfl, fun z => by cases z⟩
set_option maxRecDepth 20000 in
theorem fJx4a65c_48 : Fld RJx4a65c 48 10 2 (.int) false := ⟨_, rfl, by decide, ⟨_, tq2 217 rfl rfl, Or.inl rfl⟩, rfl, rfl, fun z => by cases z⟩
set_option maxRecDepth 20000 in
theorem fJxc12de_7 : Fld RJxc12de 7 10 0 .int false := ⟨_, rfl, by decide, ⟨_, tq2 218 rfl rfl, Or.inl rfl⟩, rfl, rfl, fun z => by cases z⟩
set_option maxRecDepth 20000 in
theorem fJx4a65c_63 : Fld RJx4a65c 63 10 0 (.int) false := ⟨_, rfl, by decide, ⟨_, tq2 219 rfl rfl, Or.inr ⟨tq2 220 rfl rfl, rfl⟩⟩, rfl, rfl, fun z => by cases z⟩
set_option maxRecDepth 20000 in
theorem fX9_10 : Fld RX9 10 9 0 (.object "java/util/ArrayList") true := ⟨_, rfl, by decide, ⟨_, tq2 228 rfl rfl, Or.inl rfl⟩, rfl, rfl, fun _ => rfl⟩
theorem fL_83 : FldN RL 83 9 0 (.object "java/util/ArrayList") true := ⟨_, rfl, by decide, ⟨RL, (show Cond.fieldLinkNest RL 83 RX9 "ever" "Ljava/util/ArrayList;" RL ∈ nestW by simp [nestW])⟩, rfl, rfl⟩
set_option maxRecDepth 20000 in
theorem fX9_16 : Fld RX9 16 9 1 (.object "java/util/ArrayList") true := ⟨_, rfl, by decide, ⟨_, tq2 230 rfl rfl, Or.inl rfl⟩, rfl, rfl, fun _ => rfl⟩
theorem fL_111 : FldN RL 111 9 1 (.object "java/util/ArrayList") true := ⟨_, rfl, by decide, ⟨RL, (show Cond.fieldLinkNest RL 111 RX9 "when" "Ljava/util/ArrayList;" RL ∈ nestW by simp [nestW])⟩, rfl, rfl⟩
set_option maxRecDepth 20000 in
theorem fX9_19 : Fld RX9 19 9 2 (.array .int) true := ⟨_, rfl, by decide, ⟨_, tq2 232 rfl rfl, Or.inl rfl⟩, rfl, rfl, fun _ => rfl⟩
theorem fL_87 : FldN RL 87 9 2 (.array .int) true := ⟨_, rfl, by decide, ⟨RL, (show Cond.fieldLinkNest RL 87 RX9 "there" "[I" RL ∈ nestW by simp [nestW])⟩, rfl, rfl⟩
set_option maxRecDepth 20000 in
theorem fX9_66 : Fld RX9 66 9 3 (.int) false := ⟨_, rfl, by decide, ⟨_, tq2 234 rfl rfl, Or.inl rfl⟩, rfl, rfl, fun z => by cases z⟩
theorem fL_43 : FldN RL 43 9 3 (.int) false := ⟨_, rfl, by decide, ⟨RL, (show Cond.fieldLinkNest RL 43 RX9 "many" "I" RL ∈ nestW by simp [nestW])⟩, rfl, rfl⟩
set_option maxRecDepth 20000 in
theorem fX9_32 : Fld RX9 32 9 4 (.int) false := ⟨_, rfl, by decide, ⟨_, tq2 236 rfl rfl, Or.inl rfl⟩, rfl, rfl, fun z => by cases z⟩
theorem fL_40 : FldN RL 40 9 4 (.int) false := ⟨_, rfl, by decide, ⟨RL, (show Cond.fieldLinkNest RL 40 RX9 "fallen" "I" RL ∈ nestW by simp [nestW])⟩, rfl, rfl⟩
set_option maxRecDepth 20000 in
theorem fX9_23 : Fld RX9 23 9 5 (.array .int) true := ⟨_, rfl, by decide, ⟨_, tq2 238 rfl rfl, Or.inl rfl⟩, rfl, rfl, fun _ => rfl⟩
theorem fL_64 : FldN RL 64 9 5 (.array .int) true := ⟨_, rfl, by decide, ⟨RL, (show Cond.fieldLinkNest RL 64 RX9 "orders" "[I" RL ∈ nestW by simp [nestW])⟩, rfl, rfl⟩
set_option maxRecDepth 20000 in
theorem fX9_26 : Fld RX9 26 9 6 (.array .int) true := ⟨_, rfl, by decide, ⟨_, tq3 0 rfl rfl, Or.inl rfl⟩, rfl, rfl, fun _ => rfl⟩
set_option maxRecDepth 20000 in
theorem fX9_29 : Fld RX9 29 9 7 (.array .int) true := ⟨_, rfl, by decide, ⟨_, tq3 1 rfl rfl, Or.inl rfl⟩, rfl, rfl, fun _ => rfl⟩
theorem fL_28 : FldN RL 28 9 8 (.int) false := ⟨_, rfl, by decide, ⟨RL, (show Cond.fieldLinkNest RL 28 RX9 "clashS" "I" RL ∈ nestW by simp [nestW])⟩, rfl, rfl⟩
set_option maxRecDepth 20000 in
theorem fX9_79 : Fld RX9 79 9 8 (.int) false := ⟨_, rfl, by decide, ⟨_, tq3 3 rfl rfl, Or.inl rfl⟩, rfl, rfl, fun z => by cases z⟩
theorem fL_34 : FldN RL 34 9 9 (.int) false := ⟨_, rfl, by decide, ⟨RL, (show Cond.fieldLinkNest RL 34 RX9 "clashP" "I" RL ∈ nestW by simp [nestW])⟩, rfl, rfl⟩
set_option maxRecDepth 20000 in
theorem fX9_82 : Fld RX9 82 9 9 (.int) false := ⟨_, rfl, by decide, ⟨_, tq3 5 rfl rfl, Or.inl rfl⟩, rfl, rfl, fun z => by cases z⟩
theorem fL_37 : FldN RL 37 9 10 (.int) false := ⟨_, rfl, by decide, ⟨RL, (show Cond.fieldLinkNest RL 37 RX9 "clashHow" "I" RL ∈ nestW by simp [nestW])⟩, rfl, rfl⟩
set_option maxRecDepth 20000 in
theorem fX9_85 : Fld RX9 85 9 10 (.int) false := ⟨_, rfl, by decide, ⟨_, tq3 7 rfl rfl, Or.inl rfl⟩, rfl, rfl, fun z => by cases z⟩
set_option maxRecDepth 20000 in
theorem gL_8 : .fieldLink RL 8 RL "ORDERS" "[[I" ∈ TT := tq3 162 rfl rfl
set_option maxRecDepth 20000 in
theorem fX1_9 : Fld RX1 9 1 0 (.int) true := ⟨_, rfl, by decide, ⟨_, tq3 183 rfl rfl, Or.inl rfl⟩, rfl, rfl, fun _ => rfl⟩
set_option maxRecDepth 20000 in
theorem fX8_131 : Fld RX8 131 1 0 (.int) true := ⟨_, rfl, by decide, ⟨_, tq3 184 rfl rfl, Or.inl rfl⟩, rfl, rfl, fun _ => rfl⟩
set_option maxRecDepth 20000 in
theorem fX1_15 : Fld RX1 15 1 1 (.int) true := ⟨_, rfl, by decide, ⟨_, tq3 185 rfl rfl, Or.inl rfl⟩, rfl, rfl, fun _ => rfl⟩
set_option maxRecDepth 20000 in
theorem fX4_25 : Fld RX4 25 1 1 (.int) true := ⟨_, rfl, by decide, ⟨_, tq3 186 rfl rfl, Or.inl rfl⟩, rfl, rfl, fun _ => rfl⟩
set_option maxRecDepth 20000 in
theorem fX2_33 : Fld RX2 33 1 1 (.int) true := ⟨_, rfl, by decide, ⟨_, tq3 187 rfl rfl, Or.inl rfl⟩, rfl, rfl, fun _ => rfl⟩
set_option maxRecDepth 20000 in
theorem fX8_134 : Fld RX8 134 1 1 (.int) true := ⟨_, rfl, by decide, ⟨_, tq3 188 rfl rfl, Or.inl rfl⟩, rfl, rfl, fun _ => rfl⟩
set_option maxRecDepth 20000 in
theorem fX1_18 : Fld RX1 18 1 2 (.int) true := ⟨_, rfl, by decide, ⟨_, tq3 189 rfl rfl, Or.inl rfl⟩, rfl, rfl, fun _ => rfl⟩
set_option maxRecDepth 20000 in
theorem fX4_31 : Fld RX4 31 1 2 (.int) true := ⟨_, rfl, by decide, ⟨_, tq3 190 rfl rfl, Or.inl rfl⟩, rfl, rfl, fun _ => rfl⟩
set_option maxRecDepth 20000 in
theorem fX2_22 : Fld RX2 22 1 2 (.int) true := ⟨_, rfl, by decide, ⟨_, tq3 191 rfl rfl, Or.inl rfl⟩, rfl, rfl, fun _ => rfl⟩
set_option maxRecDepth 20000 in
theorem fX8_137 : Fld RX8 137 1 2 (.int) true := ⟨_, rfl, by decide, ⟨_, tq3 192 rfl rfl, Or.inl rfl⟩, rfl, rfl, fun _ => rfl⟩
set_option maxRecDepth 20000 in
theorem fX1_21 : Fld RX1 21 1 3 (.int) true := ⟨_, rfl, by decide, ⟨_, tq3 193 rfl rfl, Or.inl rfl⟩, rfl, rfl, fun _ => rfl⟩
set_option maxRecDepth 20000 in
theorem fX8_140 : Fld RX8 140 1 3 (.int) true := ⟨_, rfl, by decide, ⟨_, tq3 194 rfl rfl, Or.inl rfl⟩, rfl, rfl, fun _ => rfl⟩
set_option maxRecDepth 20000 in
theorem fX1_24 : Fld RX1 24 1 4 (.int) true := ⟨_, rfl, by decide, ⟨_, tq3 195 rfl rfl, Or.inl rfl⟩, rfl, rfl, fun _ => rfl⟩
set_option maxRecDepth 20000 in
theorem fX2_30 : Fld RX2 30 1 4 (.int) true := ⟨_, rfl, by decide, ⟨_, tq3 196 rfl rfl, Or.inl rfl⟩, rfl, rfl, fun _ => rfl⟩
set_option maxRecDepth 20000 in
theorem fX8_143 : Fld RX8 143 1 4 (.int) true := ⟨_, rfl, by decide, ⟨_, tq3 197 rfl rfl, Or.inl rfl⟩, rfl, rfl, fun _ => rfl⟩
set_option maxRecDepth 20000 in
theorem fX1_27 : Fld RX1 27 1 5 (.int) true := ⟨_, rfl, by decide, ⟨_, tq3 198 rfl rfl, Or.inl rfl⟩, rfl, rfl, fun _ => rfl⟩
set_option maxRecDepth 20000 in
theorem fX8_146 : Fld RX8 146 1 5 (.int) true := ⟨_, rfl, by decide, ⟨_, tq3 199 rfl rfl, Or.inl rfl⟩, rfl, rfl, fun _ => rfl⟩
set_option maxRecDepth 20000 in
theorem fX1_30 : Fld RX1 30 1 6 (.object "RolledPicks$Standings") true := ⟨_, rfl, by decide, ⟨_, tq3 200 rfl rfl, Or.inl rfl⟩, rfl, rfl, fun _ => rfl⟩
set_option maxRecDepth 20000 in
theorem fX8_149 : Fld RX8 149 1 6 (.object "RolledPicks$Standings") true := ⟨_, rfl, by decide, ⟨_, tq3 201 rfl rfl, Or.inl rfl⟩, rfl, rfl, fun _ => rfl⟩
-- new, arrays, constants
set_option maxRecDepth 20000 in
theorem cL_23 : .classLink RL 23 RX8 ∈ TT := tq1 21 rfl rfl
set_option maxRecDepth 20000 in
theorem nL_23 : NewOk RL 23 8 := ⟨_, rfl, cL_23, tq1 22 rfl rfl, tq1 1 rfl rfl⟩
set_option maxRecDepth 20000 in
theorem cX8_7 : .classLink RX8 7 RX0 ∈ TT := tq1 29 rfl rfl
set_option maxRecDepth 20000 in
theorem nX8_7 : NewOk RX8 7 0 := ⟨_, rfl, cX8_7, tq1 30 rfl rfl, tq1 2 rfl rfl⟩
set_option maxRecDepth 20000 in
theorem cX0_9 : .classLink RX0 9 RX1 ∈ TT := tq1 35 rfl rfl
set_option maxRecDepth 20000 in
theorem nX0_9 : NewOk RX0 9 1 := ⟨_, rfl, cX0_9, tq2 30 rfl rfl, tq1 18 rfl rfl⟩
set_option maxRecDepth 20000 in
theorem wa_int : .arrayClass .int ∈ TT := tq1 62 rfl rfl
set_option maxRecDepth 20000 in
theorem cX8_20 : .classLink RX8 20 RX2 ∈ TT := tq1 64 rfl rfl
set_option maxRecDepth 20000 in
theorem nX8_20 : NewOk RX8 20 2 := ⟨_, rfl, cX8_20, tq1 65 rfl rfl, tq1 3 rfl rfl⟩
set_option maxRecDepth 20000 in
theorem cX8_27 : .classLink RX8 27 RX3 ∈ TT := tq1 74 rfl rfl
set_option maxRecDepth 20000 in
theorem nX8_27 : NewOk RX8 27 3 := ⟨_, rfl, cX8_27, tq1 75 rfl rfl, tq1 4 rfl rfl⟩
set_option maxRecDepth 20000 in
theorem cX3_9 : .classLink RX3 9 RX7 ∈ TT := tq1 80 rfl rfl
set_option maxRecDepth 20000 in
theorem nX3_9 : NewOk RX3 9 7 := ⟨_, rfl, cX3_9, tq1 81 rfl rfl, tq1 5 rfl rfl⟩
set_option maxRecDepth 20000 in
theorem wa_byte : .arrayClass .byte ∈ TT := tq1 97 rfl rfl
set_option maxRecDepth 20000 in
theorem cX3_18 : .classLink RX3 18 RX1 ∈ TT := tq1 98 rfl rfl
set_option maxRecDepth 20000 in
theorem nX3_18 : NewOk RX3 18 1 := ⟨_, rfl, cX3_18, tq2 30 rfl rfl, tq1 18 rfl rfl⟩
set_option maxRecDepth 20000 in
theorem cX3_24 : .classLink RX3 24 RX6 ∈ TT := tq1 99 rfl rfl
set_option maxRecDepth 20000 in
theorem nX3_24 : NewOk RX3 24 6 := ⟨_, rfl, cX3_24, tq1 101 rfl rfl, tq1 6 rfl rfl⟩
set_option maxRecDepth 20000 in
theorem wa_long : .arrayClass .long ∈ TT := tq1 110 rfl rfl
set_option maxRecDepth 20000 in
theorem cX8_34 : .classLink RX8 34 RX5 ∈ TT := tq1 124 rfl rfl
set_option maxRecDepth 20000 in
theorem nX8_34 : NewOk RX8 34 5 := ⟨_, rfl, cX8_34, tq1 127 rfl rfl, tq1 7 rfl rfl⟩
set_option maxRecDepth 20000 in
theorem cX8_40 : .classLink RX8 40 RX1 ∈ TT := tq1 126 rfl rfl
set_option maxRecDepth 20000 in
theorem nX8_40 : NewOk RX8 40 1 := ⟨_, rfl, cX8_40, tq2 30 rfl rfl, tq1 18 rfl rfl⟩
set_option maxRecDepth 20000 in
theorem lX2_15 : .constant RX2 15 (9586980) ∈ TT := tq1 148 rfl rfl
set_option maxRecDepth 20000 in
theorem lX8_269 : .constant RX8 269 (-1000001) ∈ TT := tq1 188 rfl rfl
set_option maxRecDepth 20000 in
theorem lX8_270 : .constantLong RX8 270 (-1000000000000000001) ∈ TT := tq2 73 rfl rfl
set_option maxRecDepth 20000 in
theorem lX8_201 : .constantLong RX8 201 (-1) ∈ TT := tq2 86 rfl rfl
set_option maxRecDepth 20000 in
theorem cX8_284 : .classLink RX8 284 RX4 ∈ TT := tq2 103 rfl rfl
set_option maxRecDepth 20000 in
theorem nX8_284 : NewOk RX8 284 4 := ⟨_, rfl, cX8_284, tq2 104 rfl rfl, tq1 19 rfl rfl⟩
set_option maxRecDepth 20000 in
theorem cL_29 : .classLink RL 29 RX9 ∈ TT := tq2 196 rfl rfl
set_option maxRecDepth 20000 in
theorem nL_29 : NewOk RL 29 9 := ⟨_, rfl, cL_29, tq2 197 rfl rfl, tq1 8 rfl rfl⟩
set_option maxRecDepth 20000 in
theorem cX9_7 : .classLink RX9 7 RJx4a65c ∈ TT := tq2 202 rfl rfl
set_option maxRecDepth 20000 in
theorem nX9_7 : NewOk RX9 7 10 := ⟨_, rfl, cX9_7, tq2 203 rfl rfl, tq1 11 rfl rfl⟩
set_option maxRecDepth 20000 in
theorem lL_7 : .constant RL 7 (104729) ∈ TT := tq3 42 rfl rfl
set_option maxRecDepth 20000 in
theorem cL_96 : .classLink RL 96 "[I" ∈ TT := tq3 69 rfl rfl
set_option maxRecDepth 20000 in
theorem lJ8_200 : .constant RJ8 200 (2147483639) ∈ TT := tq3 99 rfl rfl
set_option maxRecDepth 20000 in
theorem cJ7_2 : .classLink RJ7 2 "java/lang/Object" ∈ TT := tq3 126 rfl rfl
set_option maxRecDepth 20000 in
theorem cJx4a65c_7 : .classLink RJx4a65c 7 "java/lang/Object" ∈ TT := tq3 130 rfl rfl
set_option maxRecDepth 20000 in
theorem cX9_40 : .classLink RX9 40 "[I" ∈ TT := tq3 150 rfl rfl
set_option maxRecDepth 20000 in
theorem lL_50 : .constant RL 50 (-1000004) ∈ TT := tq3 169 rfl rfl
set_option maxRecDepth 20000 in
theorem lL_51 : .constant RL 51 (-1000002) ∈ TT := tq3 170 rfl rfl
set_option maxRecDepth 20000 in
theorem lL_52 : .constant RL 52 (-1000005) ∈ TT := tq3 171 rfl rfl
set_option maxRecDepth 20000 in
theorem lJ6_265 : .constant RJ6 265 (1431655765) ∈ TT := tq4 16 rfl rfl
set_option maxRecDepth 20000 in
theorem lJ6_266 : .constant RJ6 266 (858993459) ∈ TT := tq4 17 rfl rfl
set_option maxRecDepth 20000 in
theorem lJ6_267 : .constant RJ6 267 (252645135) ∈ TT := tq4 18 rfl rfl
set_option maxRecDepth 20000 in
theorem lL_160 : .constantLong RL 160 (56) ∈ TT := tq4 19 rfl rfl
set_option maxRecDepth 20000 in
theorem lL_188 : .constantLong RL 188 (-1) ∈ TT := tq4 20 rfl rfl
set_option maxRecDepth 20000 in
theorem w_minS : .static Lib.Math.min.name ∈ TT := tq2 137 rfl rfl
set_option maxRecDepth 20000 in
theorem w_minI : .initialized "java/lang/Math" ∈ TT := tq1 15 rfl rfl
set_option maxRecDepth 20000 in
theorem w_minC : .code Lib.Math.min.name Lib.Math.min.code 2 (some .int) ∈ TT := tq2 138 rfl rfl
set_option maxRecDepth 20000 in
theorem w_acpS : .static arraycopyName ∈ TT := tq2 168 rfl rfl
set_option maxRecDepth 20000 in
theorem w_acpI : .initialized "java/lang/System" ∈ TT := tq1 17 rfl rfl
set_option maxRecDepth 20000 in
theorem w_acpN : .native arraycopyName ∈ TT := tq2 169 rfl rfl
