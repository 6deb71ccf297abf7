theorem all_gt {ws : List Cond} (h : ws.all (fun w => decide (w ∈ lw_tbl) && goodWord w) = true) : ∀ w ∈ ws, w ∈ GT := fun w hw => by
  have h1 := List.all_eq_true.mp h w hw
  simp only [Bool.and_eq_true, decide_eq_true_eq] at h1
  exact List.mem_filter.mpr h1
set_option maxRecDepth 20000 in
theorem cfX0 : xCf 1 RX0 TX0 := ⟨rfl, by decide, by decide, all_gt (by decide +kernel), tyX0_ok, nmX0, gw97, gw54⟩
set_option maxRecDepth 20000 in
theorem cfX1 : xCf 2 RX1 TX1 := ⟨rfl, by decide, by decide, all_gt (by decide +kernel), tyX1_ok, nmX1, gw202, gw60⟩
set_option maxRecDepth 20000 in
theorem cfX3 : xCf 3 RX3 TX3 := ⟨rfl, by decide, by decide, all_gt (by decide +kernel), tyX3_ok, nmX3, gw125, gw55⟩
set_option maxRecDepth 20000 in
theorem cfX4 : xCf 4 RX4 TX4 := ⟨rfl, by decide, by decide, all_gt (by decide +kernel), tyX4_ok, nmX4, gw189, gw59⟩
set_option maxRecDepth 20000 in
theorem cfX6 : xCf 5 RX6 TX6 := ⟨rfl, by decide, by decide, all_gt (by decide +kernel), tyX6_ok, nmX6, gw160, gw57⟩
set_option maxRecDepth 20000 in
theorem cfX7 : xCf 6 RX7 TX7 := ⟨rfl, by decide, by decide, all_gt (by decide +kernel), tyX7_ok, nmX7, gw144, gw56⟩
set_option maxRecDepth 20000 in
theorem cfX8 : xCf 7 RX8 TX8 := ⟨rfl, by decide, by decide, all_gt (by decide +kernel), tyX8_ok, nmX8, gw77, gw53⟩
set_option maxRecDepth 20000 in
theorem cfX9 : xCf 8 RX9 TX9 := ⟨rfl, by decide, by decide, all_gt (by decide +kernel), tyX9_ok, nmX9, gw179, gw58⟩
set_option maxRecDepth 20000 in
theorem cfX10 : xCf 9 RX10 TX10 := ⟨rfl, by decide, by decide, all_gt (by decide +kernel), tyX10_ok, nmX10, gw69, gw52⟩
set_option maxRecDepth 20000 in
theorem cfX11 : xCf 10 RX11 TX11 := ⟨rfl, by decide, by decide, all_gt (by decide +kernel), tyX11_ok, nmX11, gw802, gw61⟩
theorem cdX0_init : xCd mX0_init := ⟨gw100, gw54, by decide +kernel, by decide +kernel, by decide +kernel⟩
theorem cdX0_clear : xCd mX0_clear := ⟨gw276, gw54, by decide +kernel, by decide +kernel, by decide +kernel⟩
theorem cdX0_becomeLike : xCd mX0_becomeLike := ⟨gw365, gw54, by decide +kernel, by decide +kernel, by decide +kernel⟩
theorem cdX0_tie : xCd mX0_tie := ⟨gw296, gw54, by decide +kernel, by decide +kernel, by decide +kernel⟩
theorem cdX0_threads : xCd mX0_threads := ⟨gw288, gw54, by decide +kernel, by decide +kernel, by decide +kernel⟩
theorem cdX0_size : xCd mX0_size := ⟨gw486, gw54, by decide +kernel, by decide +kernel, by decide +kernel⟩
theorem cdX0_hasThread : xCd mX0_hasThread := ⟨gw308, gw54, by decide +kernel, by decide +kernel, by decide +kernel⟩
theorem cdX0_hasStretch : xCd mX0_hasStretch := ⟨gw417, gw54, by decide +kernel, by decide +kernel, by decide +kernel⟩
theorem cdX0_nailOf : xCd mX0_nailOf := ⟨gw386, gw54, by decide +kernel, by decide +kernel, by decide +kernel⟩
theorem cdX0_kindOf : xCd mX0_kindOf := ⟨gw390, gw54, by decide +kernel, by decide +kernel, by decide +kernel⟩
theorem cdX0_stretchesOf : xCd mX0_stretchesOf := ⟨gw304, gw54, by decide +kernel, by decide +kernel, by decide +kernel⟩
theorem cdX0_threadAt : xCd mX0_threadAt := ⟨gw330, gw54, by decide +kernel, by decide +kernel, by decide +kernel⟩
theorem cdX0_fromAt : xCd mX0_fromAt := ⟨gw334, gw54, by decide +kernel, by decide +kernel, by decide +kernel⟩
theorem cdX0_toAt : xCd mX0_toAt := ⟨gw338, gw54, by decide +kernel, by decide +kernel, by decide +kernel⟩
theorem cdX0_placeAt : xCd mX0_placeAt := ⟨gw409, gw54, by decide +kernel, by decide +kernel, by decide +kernel⟩
theorem cdX0_packed : xCd mX0_packed := ⟨gw357, gw54, by decide +kernel, by decide +kernel, by decide +kernel⟩
theorem cdX0_lengthOf : xCd mX0_lengthOf := ⟨gw345, gw54, by decide +kernel, by decide +kernel, by decide +kernel⟩
theorem cdX0_lengthOfAll : xCd mX0_lengthOfAll := ⟨gw800, gw54, by decide +kernel, by decide +kernel, by decide +kernel⟩
theorem cdX0_endNails : xCd mX0_endNails := ⟨gw796, gw54, by decide +kernel, by decide +kernel, by decide +kernel⟩
theorem cdX0_mayWind : xCd mX0_mayWind := ⟨gw312, gw54, by decide +kernel, by decide +kernel, by decide +kernel⟩
theorem cdX0_openNails : xCd mX0_openNails := ⟨gw396, gw54, by decide +kernel, by decide +kernel, by decide +kernel⟩
theorem cdX0_bestNail : xCd mX0_bestNail := ⟨gw575, gw54, by decide +kernel, by decide +kernel, by decide +kernel⟩
theorem cdX0_crossed : xCd mX0_crossed := ⟨gw326, gw54, by decide +kernel, by decide +kernel, by decide +kernel⟩
theorem cdX0_crossedBetween : xCd mX0_crossedBetween := ⟨gw580, gw54, by decide +kernel, by decide +kernel, by decide +kernel⟩
theorem cdX0_crossingFrom : xCd mX0_crossingFrom := ⟨gw424, gw54, by decide +kernel, by decide +kernel, by decide +kernel⟩
theorem cdX0_aboveOf : xCd mX0_aboveOf := ⟨gw428, gw54, by decide +kernel, by decide +kernel, by decide +kernel⟩
theorem cdX0_crossesOneOf : xCd mX0_crossesOneOf := ⟨gw433, gw54, by decide +kernel, by decide +kernel, by decide +kernel⟩
theorem cdX0_crossingsOf : xCd mX0_crossingsOf := ⟨gw514, gw54, by decide +kernel, by decide +kernel, by decide +kernel⟩
theorem cdX0_allCrossings : xCd mX0_allCrossings := ⟨gw770, gw54, by decide +kernel, by decide +kernel, by decide +kernel⟩
theorem cdX0_lastOf : xCd mX0_lastOf := ⟨gw405, gw54, by decide +kernel, by decide +kernel, by decide +kernel⟩
theorem cdX0_worthOf : xCd mX0_worthOf := ⟨gw709, gw54, by decide +kernel, by decide +kernel, by decide +kernel⟩
theorem cdX0_windOn : xCd mX0_windOn := ⟨gw354, gw54, by decide +kernel, by decide +kernel, by decide +kernel⟩
theorem cdX0_windStar : xCd mX0_windStar := ⟨gw589, gw54, by decide +kernel, by decide +kernel, by decide +kernel⟩
theorem cdX0_mayUnwind : xCd mX0_mayUnwind := ⟨gw401, gw54, by decide +kernel, by decide +kernel, by decide +kernel⟩
theorem cdX0_unwindLast : xCd mX0_unwindLast := ⟨gw458, gw54, by decide +kernel, by decide +kernel, by decide +kernel⟩
theorem cdX0_mayCut : xCd mX0_mayCut := ⟨gw466, gw54, by decide +kernel, by decide +kernel, by decide +kernel⟩
theorem cdX0_cutOff : xCd mX0_cutOff := ⟨gw471, gw54, by decide +kernel, by decide +kernel, by decide +kernel⟩
theorem cdX0_turnByOne : xCd mX0_turnByOne := ⟨gw479, gw54, by decide +kernel, by decide +kernel, by decide +kernel⟩
theorem cdX0_turnOver : xCd mX0_turnOver := ⟨gw494, gw54, by decide +kernel, by decide +kernel, by decide +kernel⟩
theorem cdX1_init : xCd mX1_init := ⟨gw205, gw60, by decide +kernel, by decide +kernel, by decide +kernel⟩
theorem cdX1_toldFraction : xCd mX1_toldFraction := ⟨gw688, gw60, by decide +kernel, by decide +kernel, by decide +kernel⟩
theorem cdX1_commonDivisor : xCd mX1_commonDivisor := ⟨gw691, gw60, by decide +kernel, by decide +kernel, by decide +kernel⟩
theorem cdX1_twiceShare : xCd mX1_twiceShare := ⟨gw683, gw60, by decide +kernel, by decide +kernel, by decide +kernel⟩
theorem cdX1_allWeight : xCd mX1_allWeight := ⟨gw744, gw60, by decide +kernel, by decide +kernel, by decide +kernel⟩
theorem cdX1_weightOfSnaps : xCd mX1_weightOfSnaps := ⟨gw730, gw60, by decide +kernel, by decide +kernel, by decide +kernel⟩
theorem cdX1_countBetween : xCd mX1_countBetween := ⟨gw734, gw60, by decide +kernel, by decide +kernel, by decide +kernel⟩
theorem cdX1_crossingsAmong : xCd mX1_crossingsAmong := ⟨gw738, gw60, by decide +kernel, by decide +kernel, by decide +kernel⟩
theorem cdX1_weightOf : xCd mX1_weightOf := ⟨gw741, gw60, by decide +kernel, by decide +kernel, by decide +kernel⟩
theorem cdX1_drawnFrom : xCd mX1_drawnFrom := ⟨gw755, gw60, by decide +kernel, by decide +kernel, by decide +kernel⟩
theorem cdX1_liveYear : xCd mX1_liveYear := ⟨gw760, gw60, by decide +kernel, by decide +kernel, by decide +kernel⟩
theorem cdX2_isTooLong : xCd mX2_isTooLong := ⟨gw597, gw67, by decide +kernel, by decide +kernel, by decide +kernel⟩
theorem cdX2_firstWrong : xCd mX2_firstWrong := ⟨gw603, gw67, by decide +kernel, by decide +kernel, by decide +kernel⟩
theorem cdX2_powerAt : xCd mX2_powerAt := ⟨gw606, gw67, by decide +kernel, by decide +kernel, by decide +kernel⟩
theorem cdX2_comesTrue : xCd mX2_comesTrue := ⟨gw610, gw67, by decide +kernel, by decide +kernel, by decide +kernel⟩
theorem cdX2_winds : xCd mX2_winds := ⟨gw613, gw67, by decide +kernel, by decide +kernel, by decide +kernel⟩
theorem cdX2_unwinds : xCd mX2_unwinds := ⟨gw618, gw67, by decide +kernel, by decide +kernel, by decide +kernel⟩
theorem cdX2_cuts : xCd mX2_cuts := ⟨gw623, gw67, by decide +kernel, by decide +kernel, by decide +kernel⟩
theorem cdX2_turns : xCd mX2_turns := ⟨gw628, gw67, by decide +kernel, by decide +kernel, by decide +kernel⟩
theorem cdX2_turnsOver : xCd mX2_turnsOver := ⟨gw632, gw67, by decide +kernel, by decide +kernel, by decide +kernel⟩
theorem cdX2_doCross : xCd mX2_doCross := ⟨gw636, gw67, by decide +kernel, by decide +kernel, by decide +kernel⟩
theorem cdX3_init : xCd mX3_init := ⟨gw128, gw55, by decide +kernel, by decide +kernel, by decide +kernel⟩
theorem cdX3_size : xCd mX3_size := ⟨gw506, gw55, by decide +kernel, by decide +kernel, by decide +kernel⟩
theorem cdX3_clear : xCd mX3_clear := ⟨gw372, gw55, by decide +kernel, by decide +kernel, by decide +kernel⟩
theorem cdX3_add : xCd mX3_add := ⟨gw448, gw55, by decide +kernel, by decide +kernel, by decide +kernel⟩
theorem cdX3_takeBack : xCd mX3_takeBack := ⟨gw502, gw55, by decide +kernel, by decide +kernel, by decide +kernel⟩
theorem cdX4_init : xCd mX4_init := ⟨gw192, gw59, by decide +kernel, by decide +kernel, by decide +kernel⟩
theorem cdX4_tryAll : xCd mX4_tryAll := ⟨gw703, gw59, by decide +kernel, by decide +kernel, by decide +kernel⟩
theorem cdX4_isAtRest : xCd mX4_isAtRest := ⟨gw718, gw59, by decide +kernel, by decide +kernel, by decide +kernel⟩
theorem cdX4_howMany : xCd mX4_howMany := ⟨gw714, gw59, by decide +kernel, by decide +kernel, by decide +kernel⟩
theorem cdX4_firstPair : xCd mX4_firstPair := ⟨gw722, gw59, by decide +kernel, by decide +kernel, by decide +kernel⟩
theorem cdX5_stepsOn : xCd mX5_stepsOn := ⟨gw482, gw62, by decide +kernel, by decide +kernel, by decide +kernel⟩
theorem cdX5_apart : xCd mX5_apart := ⟨gw316, gw62, by decide +kernel, by decide +kernel, by decide +kernel⟩
theorem cdX5_lengthBetween : xCd mX5_lengthBetween := ⟨gw348, gw62, by decide +kernel, by decide +kernel, by decide +kernel⟩
theorem cdX5_doCross : xCd mX5_doCross := ⟨gw341, gw62, by decide +kernel, by decide +kernel, by decide +kernel⟩
theorem cdX6_init : xCd mX6_init := ⟨gw163, gw57, by decide +kernel, by decide +kernel, by decide +kernel⟩
theorem cdX6_size : xCd mX6_size := ⟨gw651, gw57, by decide +kernel, by decide +kernel, by decide +kernel⟩
theorem cdX6_clear : xCd mX6_clear := ⟨gw659, gw57, by decide +kernel, by decide +kernel, by decide +kernel⟩
theorem cdX6_add : xCd mX6_add := ⟨gw647, gw57, by decide +kernel, by decide +kernel, by decide +kernel⟩
theorem cdX6_fits : xCd mX6_fits := ⟨gw671, gw57, by decide +kernel, by decide +kernel, by decide +kernel⟩
theorem cdX6_howMany : xCd mX6_howMany := ⟨gw667, gw57, by decide +kernel, by decide +kernel, by decide +kernel⟩
theorem cdX6_firstStar : xCd mX6_firstStar := ⟨gw676, gw57, by decide +kernel, by decide +kernel, by decide +kernel⟩
theorem cdX7_init : xCd mX7_init := ⟨gw147, gw56, by decide +kernel, by decide +kernel, by decide +kernel⟩
theorem cdX7_clear : xCd mX7_clear := ⟨gw376, gw56, by decide +kernel, by decide +kernel, by decide +kernel⟩
theorem cdX7_put : xCd mX7_put := ⟨gw778, gw56, by decide +kernel, by decide +kernel, by decide +kernel⟩
theorem cdX7_giveBack : xCd mX7_giveBack := ⟨gw788, gw56, by decide +kernel, by decide +kernel, by decide +kernel⟩
theorem cdX8_init : xCd mX8_init := ⟨gw80, gw53, by decide +kernel, by decide +kernel, by decide +kernel⟩
theorem cdX8_length : xCd mX8_length := ⟨gw256, gw53, by decide +kernel, by decide +kernel, by decide +kernel⟩
theorem cdX8_clear : xCd mX8_clear := ⟨gw264, gw53, by decide +kernel, by decide +kernel, by decide +kernel⟩
theorem cdX8_add : xCd mX8_add := ⟨gw252, gw53, by decide +kernel, by decide +kernel, by decide +kernel⟩
theorem cdX8_readOnto : xCd mX8_readOnto := ⟨gw272, gw53, by decide +kernel, by decide +kernel, by decide +kernel⟩
theorem cdX8_goesOn : xCd mX8_goesOn := ⟨gw280, gw53, by decide +kernel, by decide +kernel, by decide +kernel⟩
theorem cdX8_beginsThread : xCd mX8_beginsThread := ⟨gw284, gw53, by decide +kernel, by decide +kernel, by decide +kernel⟩
theorem cdX8_windsOn : xCd mX8_windsOn := ⟨gw300, gw53, by decide +kernel, by decide +kernel, by decide +kernel⟩
theorem cdX8_isNail : xCd mX8_isNail := ⟨gw292, gw53, by decide +kernel, by decide +kernel, by decide +kernel⟩
theorem cdX9_init : xCd mX9_init := ⟨gw182, gw58, by decide +kernel, by decide +kernel, by decide +kernel⟩
theorem cdX9_draw : xCd mX9_draw := ⟨gw526, gw58, by decide +kernel, by decide +kernel, by decide +kernel⟩
theorem cdX9_join : xCd mX9_join := ⟨gw533, gw58, by decide +kernel, by decide +kernel, by decide +kernel⟩
theorem cdX9_areJoined : xCd mX9_areJoined := ⟨gw538, gw58, by decide +kernel, by decide +kernel, by decide +kernel⟩
theorem cdX9_partsOf : xCd mX9_partsOf := ⟨gw522, gw58, by decide +kernel, by decide +kernel, by decide +kernel⟩
theorem cdX9_crossedUpwards : xCd mX9_crossedUpwards := ⟨gw542, gw58, by decide +kernel, by decide +kernel, by decide +kernel⟩
theorem cdX9_strokesOf : xCd mX9_strokesOf := ⟨gw556, gw58, by decide +kernel, by decide +kernel, by decide +kernel⟩
theorem cdX9_groupOf : xCd mX9_groupOf := ⟨gw560, gw58, by decide +kernel, by decide +kernel, by decide +kernel⟩
theorem cdX9_oddNails : xCd mX9_oddNails := ⟨gw564, gw58, by decide +kernel, by decide +kernel, by decide +kernel⟩
theorem cdX10_init : xCd mX10_init := ⟨gw72, gw52, by decide +kernel, by decide +kernel, by decide +kernel⟩
theorem cdX10_write : xCd mX10_write := ⟨gw245, gw52, by decide +kernel, by decide +kernel, by decide +kernel⟩
theorem cdX10_wipe : xCd mX10_wipe := ⟨gw260, gw52, by decide +kernel, by decide +kernel, by decide +kernel⟩
theorem cdX10_fault : xCd mX10_fault := ⟨gw268, gw52, by decide +kernel, by decide +kernel, by decide +kernel⟩
theorem cdX10_board : xCd mX10_board := ⟨gw361, gw52, by decide +kernel, by decide +kernel, by decide +kernel⟩
theorem cdX10_thread : xCd mX10_thread := ⟨gw381, gw52, by decide +kernel, by decide +kernel, by decide +kernel⟩
theorem cdX10_stretch : xCd mX10_stretch := ⟨gw413, gw52, by decide +kernel, by decide +kernel, by decide +kernel⟩
theorem cdX10_wind : xCd mX10_wind := ⟨gw443, gw52, by decide +kernel, by decide +kernel, by decide +kernel⟩
theorem cdX10_unwind : xCd mX10_unwind := ⟨gw454, gw52, by decide +kernel, by decide +kernel, by decide +kernel⟩
theorem cdX10_cut : xCd mX10_cut := ⟨gw462, gw52, by decide +kernel, by decide +kernel, by decide +kernel⟩
theorem cdX10_turn : xCd mX10_turn := ⟨gw475, gw52, by decide +kernel, by decide +kernel, by decide +kernel⟩
theorem cdX10_behind : xCd mX10_behind := ⟨gw490, gw52, by decide +kernel, by decide +kernel, by decide +kernel⟩
theorem cdX10_undo : xCd mX10_undo := ⟨gw498, gw52, by decide +kernel, by decide +kernel, by decide +kernel⟩
theorem cdX10_crossings : xCd mX10_crossings := ⟨gw510, gw52, by decide +kernel, by decide +kernel, by decide +kernel⟩
theorem cdX10_parts : xCd mX10_parts := ⟨gw518, gw52, by decide +kernel, by decide +kernel, by decide +kernel⟩
theorem cdX10_strokes : xCd mX10_strokes := ⟨gw552, gw52, by decide +kernel, by decide +kernel, by decide +kernel⟩
theorem cdX10_next : xCd mX10_next := ⟨gw571, gw52, by decide +kernel, by decide +kernel, by decide +kernel⟩
theorem cdX10_star : xCd mX10_star := ⟨gw585, gw52, by decide +kernel, by decide +kernel, by decide +kernel⟩
theorem cdX10_judge : xCd mX10_judge := ⟨gw594, gw52, by decide +kernel, by decide +kernel, by decide +kernel⟩
theorem cdX10_see : xCd mX10_see := ⟨gw643, gw52, by decide +kernel, by decide +kernel, by decide +kernel⟩
theorem cdX10_unsee : xCd mX10_unsee := ⟨gw655, gw52, by decide +kernel, by decide +kernel, by decide +kernel⟩
theorem cdX10_stars : xCd mX10_stars := ⟨gw663, gw52, by decide +kernel, by decide +kernel, by decide +kernel⟩
theorem cdX10_share : xCd mX10_share := ⟨gw680, gw52, by decide +kernel, by decide +kernel, by decide +kernel⟩
theorem cdX10_rests : xCd mX10_rests := ⟨gw699, gw52, by decide +kernel, by decide +kernel, by decide +kernel⟩
theorem cdX10_snaps : xCd mX10_snaps := ⟨gw726, gw52, by decide +kernel, by decide +kernel, by decide +kernel⟩
theorem cdX10_seed : xCd mX10_seed := ⟨gw748, gw52, by decide +kernel, by decide +kernel, by decide +kernel⟩
theorem cdX10_years : xCd mX10_years := ⟨gw752, gw52, by decide +kernel, by decide +kernel, by decide +kernel⟩
theorem cdX10_keep : xCd mX10_keep := ⟨gw774, gw52, by decide +kernel, by decide +kernel, by decide +kernel⟩
theorem cdX10_again : xCd mX10_again := ⟨gw784, gw52, by decide +kernel, by decide +kernel, by decide +kernel⟩
theorem cdX10_count : xCd mX10_count := ⟨gw792, gw52, by decide +kernel, by decide +kernel, by decide +kernel⟩
theorem cdX10_isOutside : xCd mX10_isOutside := ⟨gw248, gw52, by decide +kernel, by decide +kernel, by decide +kernel⟩
theorem cdX11_init : xCd mX11_init := ⟨gw805, gw61, by decide +kernel, by decide +kernel, by decide +kernel⟩
theorem cdX11_in : xCd mX11_in := ⟨gw875, gw61, by decide +kernel, by decide +kernel, by decide +kernel⟩
theorem cdX11_has : xCd mX11_has := ⟨gw1067, gw61, by decide +kernel, by decide +kernel, by decide +kernel⟩
theorem cdX11_ones : xCd mX11_ones := ⟨gw1137, gw61, by decide +kernel, by decide +kernel, by decide +kernel⟩
theorem cdX11_isNail : xCd mX11_isNail := ⟨gw910, gw61, by decide +kernel, by decide +kernel, by decide +kernel⟩
theorem cdX11_apart : xCd mX11_apart := ⟨gw933, gw61, by decide +kernel, by decide +kernel, by decide +kernel⟩
theorem cdX11_longBy : xCd mX11_longBy := ⟨gw956, gw61, by decide +kernel, by decide +kernel, by decide +kernel⟩
theorem cdX11_isBetween : xCd mX11_isBetween := ⟨gw949, gw61, by decide +kernel, by decide +kernel, by decide +kernel⟩
theorem cdX11_cross : xCd mX11_cross := ⟨gw946, gw61, by decide +kernel, by decide +kernel, by decide +kernel⟩
theorem cdX11_asOne : xCd mX11_asOne := ⟨gw963, gw61, by decide +kernel, by decide +kernel, by decide +kernel⟩
theorem cdX11_threadOf : xCd mX11_threadOf := ⟨gw926, gw61, by decide +kernel, by decide +kernel, by decide +kernel⟩
theorem cdX11_fromOf : xCd mX11_fromOf := ⟨gw940, gw61, by decide +kernel, by decide +kernel, by decide +kernel⟩
theorem cdX11_toOf : xCd mX11_toOf := ⟨gw943, gw61, by decide +kernel, by decide +kernel, by decide +kernel⟩
theorem cdX11_whichOf : xCd mX11_whichOf := ⟨gw990, gw61, by decide +kernel, by decide +kernel, by decide +kernel⟩
theorem cdX11_crossOnes : xCd mX11_crossOnes := ⟨gw997, gw61, by decide +kernel, by decide +kernel, by decide +kernel⟩
theorem cdX11_laid : xCd mX11_laid := ⟨gw923, gw61, by decide +kernel, by decide +kernel, by decide +kernel⟩
theorem cdX11_many : xCd mX11_many := ⟨gw919, gw61, by decide +kernel, by decide +kernel, by decide +kernel⟩
theorem cdX11_write : xCd mX11_write := ⟨gw871, gw61, by decide +kernel, by decide +kernel, by decide +kernel⟩
theorem cdX11_wipe : xCd mX11_wipe := ⟨gw879, gw61, by decide +kernel, by decide +kernel, by decide +kernel⟩
theorem cdX11_clearLevel : xCd mX11_clearLevel := ⟨gw891, gw61, by decide +kernel, by decide +kernel, by decide +kernel⟩
theorem cdX11_kindOf : xCd mX11_kindOf := ⟨gw930, gw61, by decide +kernel, by decide +kernel, by decide +kernel⟩
theorem cdX11_readText : xCd mX11_readText := ⟨gw887, gw61, by decide +kernel, by decide +kernel, by decide +kernel⟩
theorem cdX11_readParts : xCd mX11_readParts := ⟨gw895, gw61, by decide +kernel, by decide +kernel, by decide +kernel⟩
theorem cdX11_mayLay : xCd mX11_mayLay := ⟨gw903, gw61, by decide +kernel, by decide +kernel, by decide +kernel⟩
theorem cdX11_fault : xCd mX11_fault := ⟨gw883, gw61, by decide +kernel, by decide +kernel, by decide +kernel⟩
theorem cdX11_board : xCd mX11_board := ⟨gw967, gw61, by decide +kernel, by decide +kernel, by decide +kernel⟩
theorem cdX11_isThread : xCd mX11_isThread := ⟨gw975, gw61, by decide +kernel, by decide +kernel, by decide +kernel⟩
theorem cdX11_stretchesOf : xCd mX11_stretchesOf := ⟨gw915, gw61, by decide +kernel, by decide +kernel, by decide +kernel⟩
theorem cdX11_longOf : xCd mX11_longOf := ⟨gw953, gw61, by decide +kernel, by decide +kernel, by decide +kernel⟩
theorem cdX11_crossedBy : xCd mX11_crossedBy := ⟨gw937, gw61, by decide +kernel, by decide +kernel, by decide +kernel⟩
theorem cdX11_mayWind : xCd mX11_mayWind := ⟨gw907, gw61, by decide +kernel, by decide +kernel, by decide +kernel⟩
theorem cdX11_windOn : xCd mX11_windOn := ⟨gw960, gw61, by decide +kernel, by decide +kernel, by decide +kernel⟩
theorem cdX11_lastOf : xCd mX11_lastOf := ⟨gw987, gw61, by decide +kernel, by decide +kernel, by decide +kernel⟩
theorem cdX11_overOf : xCd mX11_overOf := ⟨gw994, gw61, by decide +kernel, by decide +kernel, by decide +kernel⟩
theorem cdX11_canUnwind : xCd mX11_canUnwind := ⟨gw983, gw61, by decide +kernel, by decide +kernel, by decide +kernel⟩
theorem cdX11_takeOff : xCd mX11_takeOff := ⟨gw1025, gw61, by decide +kernel, by decide +kernel, by decide +kernel⟩
theorem cdX11_unwindOn : xCd mX11_unwindOn := ⟨gw1021, gw61, by decide +kernel, by decide +kernel, by decide +kernel⟩
theorem cdX11_cutOn : xCd mX11_cutOn := ⟨gw1033, gw61, by decide +kernel, by decide +kernel, by decide +kernel⟩
theorem cdX11_renamed : xCd mX11_renamed := ⟨gw1044, gw61, by decide +kernel, by decide +kernel, by decide +kernel⟩
theorem cdX11_renameOn : xCd mX11_renameOn := ⟨gw1041, gw61, by decide +kernel, by decide +kernel, by decide +kernel⟩
theorem cdX11_mayGo : xCd mX11_mayGo := ⟨gw979, gw61, by decide +kernel, by decide +kernel, by decide +kernel⟩
theorem cdX11_thread : xCd mX11_thread := ⟨gw971, gw61, by decide +kernel, by decide +kernel, by decide +kernel⟩
theorem cdX11_aboveOf : xCd mX11_aboveOf := ⟨gw1005, gw61, by decide +kernel, by decide +kernel, by decide +kernel⟩
theorem cdX11_stretch : xCd mX11_stretch := ⟨gw1001, gw61, by decide +kernel, by decide +kernel, by decide +kernel⟩
theorem cdX11_keepAct : xCd mX11_keepAct := ⟨gw1013, gw61, by decide +kernel, by decide +kernel, by decide +kernel⟩
theorem cdX11_wind : xCd mX11_wind := ⟨gw1009, gw61, by decide +kernel, by decide +kernel, by decide +kernel⟩
theorem cdX11_unwind : xCd mX11_unwind := ⟨gw1017, gw61, by decide +kernel, by decide +kernel, by decide +kernel⟩
theorem cdX11_cut : xCd mX11_cut := ⟨gw1029, gw61, by decide +kernel, by decide +kernel, by decide +kernel⟩
theorem cdX11_turn : xCd mX11_turn := ⟨gw1037, gw61, by decide +kernel, by decide +kernel, by decide +kernel⟩
theorem cdX11_behind : xCd mX11_behind := ⟨gw1048, gw61, by decide +kernel, by decide +kernel, by decide +kernel⟩
theorem cdX11_undo : xCd mX11_undo := ⟨gw1052, gw61, by decide +kernel, by decide +kernel, by decide +kernel⟩
theorem cdX11_layTrial : xCd mX11_layTrial := ⟨gw1105, gw61, by decide +kernel, by decide +kernel, by decide +kernel⟩
theorem cdX11_crossesOf : xCd mX11_crossesOf := ⟨gw1064, gw61, by decide +kernel, by decide +kernel, by decide +kernel⟩
theorem cdX11_crossesOfTwo : xCd mX11_crossesOfTwo := ⟨gw1060, gw61, by decide +kernel, by decide +kernel, by decide +kernel⟩
theorem cdX11_crossings : xCd mX11_crossings := ⟨gw1056, gw61, by decide +kernel, by decide +kernel, by decide +kernel⟩
theorem cdX11_findLines : xCd mX11_findLines := ⟨gw1079, gw61, by decide +kernel, by decide +kernel, by decide +kernel⟩
theorem cdX11_partsOn : xCd mX11_partsOn := ⟨gw1075, gw61, by decide +kernel, by decide +kernel, by decide +kernel⟩
theorem cdX11_parts : xCd mX11_parts := ⟨gw1071, gw61, by decide +kernel, by decide +kernel, by decide +kernel⟩
theorem cdX11_partOf : xCd mX11_partOf := ⟨gw1091, gw61, by decide +kernel, by decide +kernel, by decide +kernel⟩
theorem cdX11_linesAt : xCd mX11_linesAt := ⟨gw1087, gw61, by decide +kernel, by decide +kernel, by decide +kernel⟩
theorem cdX11_strokes : xCd mX11_strokes := ⟨gw1083, gw61, by decide +kernel, by decide +kernel, by decide +kernel⟩
theorem cdX11_next : xCd mX11_next := ⟨gw1095, gw61, by decide +kernel, by decide +kernel, by decide +kernel⟩
theorem cdX11_star : xCd mX11_star := ⟨gw1099, gw61, by decide +kernel, by decide +kernel, by decide +kernel⟩
theorem cdX11_tryThing : xCd mX11_tryThing := ⟨gw1118, gw61, by decide +kernel, by decide +kernel, by decide +kernel⟩
theorem cdX11_tenThousandTo : xCd mX11_tenThousandTo := ⟨gw1113, gw61, by decide +kernel, by decide +kernel, by decide +kernel⟩
theorem cdX11_judge : xCd mX11_judge := ⟨gw1109, gw61, by decide +kernel, by decide +kernel, by decide +kernel⟩
theorem cdX11_see : xCd mX11_see := ⟨gw1122, gw61, by decide +kernel, by decide +kernel, by decide +kernel⟩
theorem cdX11_unsee : xCd mX11_unsee := ⟨gw1126, gw61, by decide +kernel, by decide +kernel, by decide +kernel⟩
theorem cdX11_stars : xCd mX11_stars := ⟨gw1130, gw61, by decide +kernel, by decide +kernel, by decide +kernel⟩
theorem cdX11_factorial : xCd mX11_factorial := ⟨gw1140, gw61, by decide +kernel, by decide +kernel, by decide +kernel⟩
theorem cdX11_common : xCd mX11_common := ⟨gw1143, gw61, by decide +kernel, by decide +kernel, by decide +kernel⟩
theorem cdX11_share : xCd mX11_share := ⟨gw1134, gw61, by decide +kernel, by decide +kernel, by decide +kernel⟩
theorem cdX11_choose : xCd mX11_choose := ⟨gw1159, gw61, by decide +kernel, by decide +kernel, by decide +kernel⟩
theorem cdX11_gain : xCd mX11_gain := ⟨gw1155, gw61, by decide +kernel, by decide +kernel, by decide +kernel⟩
theorem cdX11_isRest : xCd mX11_isRest := ⟨gw1151, gw61, by decide +kernel, by decide +kernel, by decide +kernel⟩
theorem cdX11_rests : xCd mX11_rests := ⟨gw1147, gw61, by decide +kernel, by decide +kernel, by decide +kernel⟩
theorem cdX11_snaps : xCd mX11_snaps := ⟨gw1163, gw61, by decide +kernel, by decide +kernel, by decide +kernel⟩
theorem cdX11_seed : xCd mX11_seed := ⟨gw1169, gw61, by decide +kernel, by decide +kernel, by decide +kernel⟩
theorem cdX11_years : xCd mX11_years := ⟨gw1173, gw61, by decide +kernel, by decide +kernel, by decide +kernel⟩
theorem cdX11_keep : xCd mX11_keep := ⟨gw1181, gw61, by decide +kernel, by decide +kernel, by decide +kernel⟩
theorem cdX11_again : xCd mX11_again := ⟨gw1185, gw61, by decide +kernel, by decide +kernel, by decide +kernel⟩
theorem cdX11_usedNails : xCd mX11_usedNails := ⟨gw1193, gw61, by decide +kernel, by decide +kernel, by decide +kernel⟩
theorem cdX11_count : xCd mX11_count := ⟨gw1189, gw61, by decide +kernel, by decide +kernel, by decide +kernel⟩
theorem cdJ6_bitCount_0f7a4 : xCd mJ6_bitCount_0f7a4 := ⟨gw545, gw66, by decide +kernel, by decide +kernel, by decide +kernel⟩
theorem cdJ13_bitCount_95d88 : xCd mJ13_bitCount_95d88 := ⟨gw436, gw65, by decide +kernel, by decide +kernel, by decide +kernel⟩
theorem cdJ9_floorMod_7cf53 : xCd mJ9_floorMod_7cf53 := ⟨gw319, gw63, by decide +kernel, by decide +kernel, by decide +kernel⟩
theorem cdJ9_abs_0f7a4 : xCd mJ9_abs_0f7a4 := ⟨gw694, gw63, by decide +kernel, by decide +kernel, by decide +kernel⟩
theorem cdJ9_max_7cf53 : xCd mJ9_max_7cf53 := ⟨gw567, gw63, by decide +kernel, by decide +kernel, by decide +kernel⟩
theorem cdJ9_min_7cf53 : xCd mJ9_min_7cf53 := ⟨gw322, gw63, by decide +kernel, by decide +kernel, by decide +kernel⟩
theorem cnX0_init : xCn mX0_init 0 := (by decide +kernel : (parseMethodDescriptor yX0_init.desc).map (fun d => d.parameters.length) = some 0)
theorem cnX0_clear : xCn mX0_clear 0 := (by decide +kernel : (parseMethodDescriptor yX0_clear.desc).map (fun d => d.parameters.length) = some 0)
theorem cnX0_becomeLike : xCn mX0_becomeLike 1 := (by decide +kernel : (parseMethodDescriptor yX0_becomeLike.desc).map (fun d => d.parameters.length) = some 1)
theorem cnX0_tie : xCn mX0_tie 2 := (by decide +kernel : (parseMethodDescriptor yX0_tie.desc).map (fun d => d.parameters.length) = some 2)
theorem cnX0_threads : xCn mX0_threads 0 := (by decide +kernel : (parseMethodDescriptor yX0_threads.desc).map (fun d => d.parameters.length) = some 0)
theorem cnX0_size : xCn mX0_size 0 := (by decide +kernel : (parseMethodDescriptor yX0_size.desc).map (fun d => d.parameters.length) = some 0)
theorem cnX0_hasThread : xCn mX0_hasThread 1 := (by decide +kernel : (parseMethodDescriptor yX0_hasThread.desc).map (fun d => d.parameters.length) = some 1)
theorem cnX0_hasStretch : xCn mX0_hasStretch 1 := (by decide +kernel : (parseMethodDescriptor yX0_hasStretch.desc).map (fun d => d.parameters.length) = some 1)
theorem cnX0_nailOf : xCn mX0_nailOf 1 := (by decide +kernel : (parseMethodDescriptor yX0_nailOf.desc).map (fun d => d.parameters.length) = some 1)
theorem cnX0_kindOf : xCn mX0_kindOf 1 := (by decide +kernel : (parseMethodDescriptor yX0_kindOf.desc).map (fun d => d.parameters.length) = some 1)
theorem cnX0_stretchesOf : xCn mX0_stretchesOf 1 := (by decide +kernel : (parseMethodDescriptor yX0_stretchesOf.desc).map (fun d => d.parameters.length) = some 1)
theorem cnX0_threadAt : xCn mX0_threadAt 1 := (by decide +kernel : (parseMethodDescriptor yX0_threadAt.desc).map (fun d => d.parameters.length) = some 1)
theorem cnX0_fromAt : xCn mX0_fromAt 1 := (by decide +kernel : (parseMethodDescriptor yX0_fromAt.desc).map (fun d => d.parameters.length) = some 1)
theorem cnX0_toAt : xCn mX0_toAt 1 := (by decide +kernel : (parseMethodDescriptor yX0_toAt.desc).map (fun d => d.parameters.length) = some 1)
theorem cnX0_placeAt : xCn mX0_placeAt 1 := (by decide +kernel : (parseMethodDescriptor yX0_placeAt.desc).map (fun d => d.parameters.length) = some 1)
theorem cnX0_packed : xCn mX0_packed 4 := (by decide +kernel : (parseMethodDescriptor yX0_packed.desc).map (fun d => d.parameters.length) = some 4)
theorem cnX0_lengthOf : xCn mX0_lengthOf 1 := (by decide +kernel : (parseMethodDescriptor yX0_lengthOf.desc).map (fun d => d.parameters.length) = some 1)
theorem cnX0_lengthOfAll : xCn mX0_lengthOfAll 0 := (by decide +kernel : (parseMethodDescriptor yX0_lengthOfAll.desc).map (fun d => d.parameters.length) = some 0)
theorem cnX0_endNails : xCn mX0_endNails 0 := (by decide +kernel : (parseMethodDescriptor yX0_endNails.desc).map (fun d => d.parameters.length) = some 0)
theorem cnX0_mayWind : xCn mX0_mayWind 2 := (by decide +kernel : (parseMethodDescriptor yX0_mayWind.desc).map (fun d => d.parameters.length) = some 2)
theorem cnX0_openNails : xCn mX0_openNails 1 := (by decide +kernel : (parseMethodDescriptor yX0_openNails.desc).map (fun d => d.parameters.length) = some 1)
theorem cnX0_bestNail : xCn mX0_bestNail 1 := (by decide +kernel : (parseMethodDescriptor yX0_bestNail.desc).map (fun d => d.parameters.length) = some 1)
theorem cnX0_crossed : xCn mX0_crossed 4 := (by decide +kernel : (parseMethodDescriptor yX0_crossed.desc).map (fun d => d.parameters.length) = some 4)
theorem cnX0_crossedBetween : xCn mX0_crossedBetween 2 := (by decide +kernel : (parseMethodDescriptor yX0_crossedBetween.desc).map (fun d => d.parameters.length) = some 2)
theorem cnX0_crossingFrom : xCn mX0_crossingFrom 2 := (by decide +kernel : (parseMethodDescriptor yX0_crossingFrom.desc).map (fun d => d.parameters.length) = some 2)
theorem cnX0_aboveOf : xCn mX0_aboveOf 1 := (by decide +kernel : (parseMethodDescriptor yX0_aboveOf.desc).map (fun d => d.parameters.length) = some 1)
theorem cnX0_crossesOneOf : xCn mX0_crossesOneOf 2 := (by decide +kernel : (parseMethodDescriptor yX0_crossesOneOf.desc).map (fun d => d.parameters.length) = some 2)
theorem cnX0_crossingsOf : xCn mX0_crossingsOf 2 := (by decide +kernel : (parseMethodDescriptor yX0_crossingsOf.desc).map (fun d => d.parameters.length) = some 2)
theorem cnX0_allCrossings : xCn mX0_allCrossings 0 := (by decide +kernel : (parseMethodDescriptor yX0_allCrossings.desc).map (fun d => d.parameters.length) = some 0)
theorem cnX0_lastOf : xCn mX0_lastOf 1 := (by decide +kernel : (parseMethodDescriptor yX0_lastOf.desc).map (fun d => d.parameters.length) = some 1)
theorem cnX0_worthOf : xCn mX0_worthOf 1 := (by decide +kernel : (parseMethodDescriptor yX0_worthOf.desc).map (fun d => d.parameters.length) = some 1)
theorem cnX0_windOn : xCn mX0_windOn 2 := (by decide +kernel : (parseMethodDescriptor yX0_windOn.desc).map (fun d => d.parameters.length) = some 2)
theorem cnX0_windStar : xCn mX0_windStar 3 := (by decide +kernel : (parseMethodDescriptor yX0_windStar.desc).map (fun d => d.parameters.length) = some 3)
theorem cnX0_mayUnwind : xCn mX0_mayUnwind 1 := (by decide +kernel : (parseMethodDescriptor yX0_mayUnwind.desc).map (fun d => d.parameters.length) = some 1)
theorem cnX0_unwindLast : xCn mX0_unwindLast 1 := (by decide +kernel : (parseMethodDescriptor yX0_unwindLast.desc).map (fun d => d.parameters.length) = some 1)
theorem cnX0_mayCut : xCn mX0_mayCut 1 := (by decide +kernel : (parseMethodDescriptor yX0_mayCut.desc).map (fun d => d.parameters.length) = some 1)
theorem cnX0_cutOff : xCn mX0_cutOff 1 := (by decide +kernel : (parseMethodDescriptor yX0_cutOff.desc).map (fun d => d.parameters.length) = some 1)
theorem cnX0_turnByOne : xCn mX0_turnByOne 0 := (by decide +kernel : (parseMethodDescriptor yX0_turnByOne.desc).map (fun d => d.parameters.length) = some 0)
theorem cnX0_turnOver : xCn mX0_turnOver 0 := (by decide +kernel : (parseMethodDescriptor yX0_turnOver.desc).map (fun d => d.parameters.length) = some 0)
theorem cnX1_init : xCn mX1_init 0 := (by decide +kernel : (parseMethodDescriptor yX1_init.desc).map (fun d => d.parameters.length) = some 0)
theorem cnX1_toldFraction : xCn mX1_toldFraction 3 := (by decide +kernel : (parseMethodDescriptor yX1_toldFraction.desc).map (fun d => d.parameters.length) = some 3)
theorem cnX1_commonDivisor : xCn mX1_commonDivisor 2 := (by decide +kernel : (parseMethodDescriptor yX1_commonDivisor.desc).map (fun d => d.parameters.length) = some 2)
theorem cnX1_twiceShare : xCn mX1_twiceShare 2 := (by decide +kernel : (parseMethodDescriptor yX1_twiceShare.desc).map (fun d => d.parameters.length) = some 2)
theorem cnX1_allWeight : xCn mX1_allWeight 1 := (by decide +kernel : (parseMethodDescriptor yX1_allWeight.desc).map (fun d => d.parameters.length) = some 1)
theorem cnX1_weightOfSnaps : xCn mX1_weightOfSnaps 3 := (by decide +kernel : (parseMethodDescriptor yX1_weightOfSnaps.desc).map (fun d => d.parameters.length) = some 3)
theorem cnX1_countBetween : xCn mX1_countBetween 1 := (by decide +kernel : (parseMethodDescriptor yX1_countBetween.desc).map (fun d => d.parameters.length) = some 1)
theorem cnX1_crossingsAmong : xCn mX1_crossingsAmong 1 := (by decide +kernel : (parseMethodDescriptor yX1_crossingsAmong.desc).map (fun d => d.parameters.length) = some 1)
theorem cnX1_weightOf : xCn mX1_weightOf 3 := (by decide +kernel : (parseMethodDescriptor yX1_weightOf.desc).map (fun d => d.parameters.length) = some 3)
theorem cnX1_drawnFrom : xCn mX1_drawnFrom 1 := (by decide +kernel : (parseMethodDescriptor yX1_drawnFrom.desc).map (fun d => d.parameters.length) = some 1)
theorem cnX1_liveYear : xCn mX1_liveYear 2 := (by decide +kernel : (parseMethodDescriptor yX1_liveYear.desc).map (fun d => d.parameters.length) = some 2)
theorem cnX2_isTooLong : xCn mX2_isTooLong 2 := (by decide +kernel : (parseMethodDescriptor yX2_isTooLong.desc).map (fun d => d.parameters.length) = some 2)
theorem cnX2_firstWrong : xCn mX2_firstWrong 4 := (by decide +kernel : (parseMethodDescriptor yX2_firstWrong.desc).map (fun d => d.parameters.length) = some 4)
theorem cnX2_powerAt : xCn mX2_powerAt 1 := (by decide +kernel : (parseMethodDescriptor yX2_powerAt.desc).map (fun d => d.parameters.length) = some 1)
theorem cnX2_comesTrue : xCn mX2_comesTrue 3 := (by decide +kernel : (parseMethodDescriptor yX2_comesTrue.desc).map (fun d => d.parameters.length) = some 3)
theorem cnX2_winds : xCn mX2_winds 3 := (by decide +kernel : (parseMethodDescriptor yX2_winds.desc).map (fun d => d.parameters.length) = some 3)
theorem cnX2_unwinds : xCn mX2_unwinds 2 := (by decide +kernel : (parseMethodDescriptor yX2_unwinds.desc).map (fun d => d.parameters.length) = some 2)
theorem cnX2_cuts : xCn mX2_cuts 2 := (by decide +kernel : (parseMethodDescriptor yX2_cuts.desc).map (fun d => d.parameters.length) = some 2)
theorem cnX2_turns : xCn mX2_turns 1 := (by decide +kernel : (parseMethodDescriptor yX2_turns.desc).map (fun d => d.parameters.length) = some 1)
theorem cnX2_turnsOver : xCn mX2_turnsOver 1 := (by decide +kernel : (parseMethodDescriptor yX2_turnsOver.desc).map (fun d => d.parameters.length) = some 1)
theorem cnX2_doCross : xCn mX2_doCross 4 := (by decide +kernel : (parseMethodDescriptor yX2_doCross.desc).map (fun d => d.parameters.length) = some 4)
theorem cnX3_init : xCn mX3_init 0 := (by decide +kernel : (parseMethodDescriptor yX3_init.desc).map (fun d => d.parameters.length) = some 0)
theorem cnX3_size : xCn mX3_size 0 := (by decide +kernel : (parseMethodDescriptor yX3_size.desc).map (fun d => d.parameters.length) = some 0)
theorem cnX3_clear : xCn mX3_clear 0 := (by decide +kernel : (parseMethodDescriptor yX3_clear.desc).map (fun d => d.parameters.length) = some 0)
theorem cnX3_add : xCn mX3_add 1 := (by decide +kernel : (parseMethodDescriptor yX3_add.desc).map (fun d => d.parameters.length) = some 1)
theorem cnX3_takeBack : xCn mX3_takeBack 1 := (by decide +kernel : (parseMethodDescriptor yX3_takeBack.desc).map (fun d => d.parameters.length) = some 1)
theorem cnX4_init : xCn mX4_init 0 := (by decide +kernel : (parseMethodDescriptor yX4_init.desc).map (fun d => d.parameters.length) = some 0)
theorem cnX4_tryAll : xCn mX4_tryAll 4 := (by decide +kernel : (parseMethodDescriptor yX4_tryAll.desc).map (fun d => d.parameters.length) = some 4)
theorem cnX4_isAtRest : xCn mX4_isAtRest 1 := (by decide +kernel : (parseMethodDescriptor yX4_isAtRest.desc).map (fun d => d.parameters.length) = some 1)
theorem cnX4_howMany : xCn mX4_howMany 0 := (by decide +kernel : (parseMethodDescriptor yX4_howMany.desc).map (fun d => d.parameters.length) = some 0)
theorem cnX4_firstPair : xCn mX4_firstPair 0 := (by decide +kernel : (parseMethodDescriptor yX4_firstPair.desc).map (fun d => d.parameters.length) = some 0)
theorem cnX5_stepsOn : xCn mX5_stepsOn 2 := (by decide +kernel : (parseMethodDescriptor yX5_stepsOn.desc).map (fun d => d.parameters.length) = some 2)
theorem cnX5_apart : xCn mX5_apart 2 := (by decide +kernel : (parseMethodDescriptor yX5_apart.desc).map (fun d => d.parameters.length) = some 2)
theorem cnX5_lengthBetween : xCn mX5_lengthBetween 2 := (by decide +kernel : (parseMethodDescriptor yX5_lengthBetween.desc).map (fun d => d.parameters.length) = some 2)
theorem cnX5_doCross : xCn mX5_doCross 4 := (by decide +kernel : (parseMethodDescriptor yX5_doCross.desc).map (fun d => d.parameters.length) = some 4)
theorem cnX6_init : xCn mX6_init 0 := (by decide +kernel : (parseMethodDescriptor yX6_init.desc).map (fun d => d.parameters.length) = some 0)
theorem cnX6_size : xCn mX6_size 0 := (by decide +kernel : (parseMethodDescriptor yX6_size.desc).map (fun d => d.parameters.length) = some 0)
theorem cnX6_clear : xCn mX6_clear 0 := (by decide +kernel : (parseMethodDescriptor yX6_clear.desc).map (fun d => d.parameters.length) = some 0)
theorem cnX6_add : xCn mX6_add 3 := (by decide +kernel : (parseMethodDescriptor yX6_add.desc).map (fun d => d.parameters.length) = some 3)
theorem cnX6_fits : xCn mX6_fits 2 := (by decide +kernel : (parseMethodDescriptor yX6_fits.desc).map (fun d => d.parameters.length) = some 2)
theorem cnX6_howMany : xCn mX6_howMany 0 := (by decide +kernel : (parseMethodDescriptor yX6_howMany.desc).map (fun d => d.parameters.length) = some 0)
theorem cnX6_firstStar : xCn mX6_firstStar 0 := (by decide +kernel : (parseMethodDescriptor yX6_firstStar.desc).map (fun d => d.parameters.length) = some 0)
theorem cnX7_init : xCn mX7_init 0 := (by decide +kernel : (parseMethodDescriptor yX7_init.desc).map (fun d => d.parameters.length) = some 0)
theorem cnX7_clear : xCn mX7_clear 0 := (by decide +kernel : (parseMethodDescriptor yX7_clear.desc).map (fun d => d.parameters.length) = some 0)
theorem cnX7_put : xCn mX7_put 2 := (by decide +kernel : (parseMethodDescriptor yX7_put.desc).map (fun d => d.parameters.length) = some 2)
theorem cnX7_giveBack : xCn mX7_giveBack 2 := (by decide +kernel : (parseMethodDescriptor yX7_giveBack.desc).map (fun d => d.parameters.length) = some 2)
theorem cnX8_init : xCn mX8_init 0 := (by decide +kernel : (parseMethodDescriptor yX8_init.desc).map (fun d => d.parameters.length) = some 0)
theorem cnX8_length : xCn mX8_length 0 := (by decide +kernel : (parseMethodDescriptor yX8_length.desc).map (fun d => d.parameters.length) = some 0)
theorem cnX8_clear : xCn mX8_clear 0 := (by decide +kernel : (parseMethodDescriptor yX8_clear.desc).map (fun d => d.parameters.length) = some 0)
theorem cnX8_add : xCn mX8_add 1 := (by decide +kernel : (parseMethodDescriptor yX8_add.desc).map (fun d => d.parameters.length) = some 1)
theorem cnX8_readOnto : xCn mX8_readOnto 1 := (by decide +kernel : (parseMethodDescriptor yX8_readOnto.desc).map (fun d => d.parameters.length) = some 1)
theorem cnX8_goesOn : xCn mX8_goesOn 2 := (by decide +kernel : (parseMethodDescriptor yX8_goesOn.desc).map (fun d => d.parameters.length) = some 2)
theorem cnX8_beginsThread : xCn mX8_beginsThread 2 := (by decide +kernel : (parseMethodDescriptor yX8_beginsThread.desc).map (fun d => d.parameters.length) = some 2)
theorem cnX8_windsOn : xCn mX8_windsOn 2 := (by decide +kernel : (parseMethodDescriptor yX8_windsOn.desc).map (fun d => d.parameters.length) = some 2)
theorem cnX8_isNail : xCn mX8_isNail 1 := (by decide +kernel : (parseMethodDescriptor yX8_isNail.desc).map (fun d => d.parameters.length) = some 1)
theorem cnX9_init : xCn mX9_init 0 := (by decide +kernel : (parseMethodDescriptor yX9_init.desc).map (fun d => d.parameters.length) = some 0)
theorem cnX9_draw : xCn mX9_draw 1 := (by decide +kernel : (parseMethodDescriptor yX9_draw.desc).map (fun d => d.parameters.length) = some 1)
theorem cnX9_join : xCn mX9_join 2 := (by decide +kernel : (parseMethodDescriptor yX9_join.desc).map (fun d => d.parameters.length) = some 2)
theorem cnX9_areJoined : xCn mX9_areJoined 2 := (by decide +kernel : (parseMethodDescriptor yX9_areJoined.desc).map (fun d => d.parameters.length) = some 2)
theorem cnX9_partsOf : xCn mX9_partsOf 1 := (by decide +kernel : (parseMethodDescriptor yX9_partsOf.desc).map (fun d => d.parameters.length) = some 1)
theorem cnX9_crossedUpwards : xCn mX9_crossedUpwards 2 := (by decide +kernel : (parseMethodDescriptor yX9_crossedUpwards.desc).map (fun d => d.parameters.length) = some 2)
theorem cnX9_strokesOf : xCn mX9_strokesOf 1 := (by decide +kernel : (parseMethodDescriptor yX9_strokesOf.desc).map (fun d => d.parameters.length) = some 1)
theorem cnX9_groupOf : xCn mX9_groupOf 1 := (by decide +kernel : (parseMethodDescriptor yX9_groupOf.desc).map (fun d => d.parameters.length) = some 1)
theorem cnX9_oddNails : xCn mX9_oddNails 1 := (by decide +kernel : (parseMethodDescriptor yX9_oddNails.desc).map (fun d => d.parameters.length) = some 1)
theorem cnX10_init : xCn mX10_init 0 := (by decide +kernel : (parseMethodDescriptor yX10_init.desc).map (fun d => d.parameters.length) = some 0)
theorem cnX10_write : xCn mX10_write 1 := (by decide +kernel : (parseMethodDescriptor yX10_write.desc).map (fun d => d.parameters.length) = some 1)
theorem cnX10_wipe : xCn mX10_wipe 0 := (by decide +kernel : (parseMethodDescriptor yX10_wipe.desc).map (fun d => d.parameters.length) = some 0)
theorem cnX10_fault : xCn mX10_fault 0 := (by decide +kernel : (parseMethodDescriptor yX10_fault.desc).map (fun d => d.parameters.length) = some 0)
theorem cnX10_board : xCn mX10_board 0 := (by decide +kernel : (parseMethodDescriptor yX10_board.desc).map (fun d => d.parameters.length) = some 0)
theorem cnX10_thread : xCn mX10_thread 2 := (by decide +kernel : (parseMethodDescriptor yX10_thread.desc).map (fun d => d.parameters.length) = some 2)
theorem cnX10_stretch : xCn mX10_stretch 2 := (by decide +kernel : (parseMethodDescriptor yX10_stretch.desc).map (fun d => d.parameters.length) = some 2)
theorem cnX10_wind : xCn mX10_wind 2 := (by decide +kernel : (parseMethodDescriptor yX10_wind.desc).map (fun d => d.parameters.length) = some 2)
theorem cnX10_unwind : xCn mX10_unwind 1 := (by decide +kernel : (parseMethodDescriptor yX10_unwind.desc).map (fun d => d.parameters.length) = some 1)
theorem cnX10_cut : xCn mX10_cut 1 := (by decide +kernel : (parseMethodDescriptor yX10_cut.desc).map (fun d => d.parameters.length) = some 1)
theorem cnX10_turn : xCn mX10_turn 0 := (by decide +kernel : (parseMethodDescriptor yX10_turn.desc).map (fun d => d.parameters.length) = some 0)
theorem cnX10_behind : xCn mX10_behind 0 := (by decide +kernel : (parseMethodDescriptor yX10_behind.desc).map (fun d => d.parameters.length) = some 0)
theorem cnX10_undo : xCn mX10_undo 0 := (by decide +kernel : (parseMethodDescriptor yX10_undo.desc).map (fun d => d.parameters.length) = some 0)
theorem cnX10_crossings : xCn mX10_crossings 2 := (by decide +kernel : (parseMethodDescriptor yX10_crossings.desc).map (fun d => d.parameters.length) = some 2)
theorem cnX10_parts : xCn mX10_parts 0 := (by decide +kernel : (parseMethodDescriptor yX10_parts.desc).map (fun d => d.parameters.length) = some 0)
theorem cnX10_strokes : xCn mX10_strokes 0 := (by decide +kernel : (parseMethodDescriptor yX10_strokes.desc).map (fun d => d.parameters.length) = some 0)
theorem cnX10_next : xCn mX10_next 2 := (by decide +kernel : (parseMethodDescriptor yX10_next.desc).map (fun d => d.parameters.length) = some 2)
theorem cnX10_star : xCn mX10_star 4 := (by decide +kernel : (parseMethodDescriptor yX10_star.desc).map (fun d => d.parameters.length) = some 4)
theorem cnX10_judge : xCn mX10_judge 2 := (by decide +kernel : (parseMethodDescriptor yX10_judge.desc).map (fun d => d.parameters.length) = some 2)
theorem cnX10_see : xCn mX10_see 3 := (by decide +kernel : (parseMethodDescriptor yX10_see.desc).map (fun d => d.parameters.length) = some 3)
theorem cnX10_unsee : xCn mX10_unsee 0 := (by decide +kernel : (parseMethodDescriptor yX10_unsee.desc).map (fun d => d.parameters.length) = some 0)
theorem cnX10_stars : xCn mX10_stars 1 := (by decide +kernel : (parseMethodDescriptor yX10_stars.desc).map (fun d => d.parameters.length) = some 1)
theorem cnX10_share : xCn mX10_share 2 := (by decide +kernel : (parseMethodDescriptor yX10_share.desc).map (fun d => d.parameters.length) = some 2)
theorem cnX10_rests : xCn mX10_rests 3 := (by decide +kernel : (parseMethodDescriptor yX10_rests.desc).map (fun d => d.parameters.length) = some 3)
theorem cnX10_snaps : xCn mX10_snaps 3 := (by decide +kernel : (parseMethodDescriptor yX10_snaps.desc).map (fun d => d.parameters.length) = some 3)
theorem cnX10_seed : xCn mX10_seed 1 := (by decide +kernel : (parseMethodDescriptor yX10_seed.desc).map (fun d => d.parameters.length) = some 1)
theorem cnX10_years : xCn mX10_years 1 := (by decide +kernel : (parseMethodDescriptor yX10_years.desc).map (fun d => d.parameters.length) = some 1)
theorem cnX10_keep : xCn mX10_keep 1 := (by decide +kernel : (parseMethodDescriptor yX10_keep.desc).map (fun d => d.parameters.length) = some 1)
theorem cnX10_again : xCn mX10_again 1 := (by decide +kernel : (parseMethodDescriptor yX10_again.desc).map (fun d => d.parameters.length) = some 1)
theorem cnX10_count : xCn mX10_count 1 := (by decide +kernel : (parseMethodDescriptor yX10_count.desc).map (fun d => d.parameters.length) = some 1)
theorem cnX10_isOutside : xCn mX10_isOutside 3 := (by decide +kernel : (parseMethodDescriptor yX10_isOutside.desc).map (fun d => d.parameters.length) = some 3)
theorem cnX11_init : xCn mX11_init 0 := (by decide +kernel : (parseMethodDescriptor yX11_init.desc).map (fun d => d.parameters.length) = some 0)
theorem cnX11_in : xCn mX11_in 3 := (by decide +kernel : (parseMethodDescriptor yX11_in.desc).map (fun d => d.parameters.length) = some 3)
theorem cnX11_has : xCn mX11_has 2 := (by decide +kernel : (parseMethodDescriptor yX11_has.desc).map (fun d => d.parameters.length) = some 2)
theorem cnX11_ones : xCn mX11_ones 1 := (by decide +kernel : (parseMethodDescriptor yX11_ones.desc).map (fun d => d.parameters.length) = some 1)
theorem cnX11_isNail : xCn mX11_isNail 1 := (by decide +kernel : (parseMethodDescriptor yX11_isNail.desc).map (fun d => d.parameters.length) = some 1)
theorem cnX11_apart : xCn mX11_apart 2 := (by decide +kernel : (parseMethodDescriptor yX11_apart.desc).map (fun d => d.parameters.length) = some 2)
theorem cnX11_longBy : xCn mX11_longBy 2 := (by decide +kernel : (parseMethodDescriptor yX11_longBy.desc).map (fun d => d.parameters.length) = some 2)
theorem cnX11_isBetween : xCn mX11_isBetween 3 := (by decide +kernel : (parseMethodDescriptor yX11_isBetween.desc).map (fun d => d.parameters.length) = some 3)
theorem cnX11_cross : xCn mX11_cross 4 := (by decide +kernel : (parseMethodDescriptor yX11_cross.desc).map (fun d => d.parameters.length) = some 4)
theorem cnX11_asOne : xCn mX11_asOne 4 := (by decide +kernel : (parseMethodDescriptor yX11_asOne.desc).map (fun d => d.parameters.length) = some 4)
theorem cnX11_threadOf : xCn mX11_threadOf 1 := (by decide +kernel : (parseMethodDescriptor yX11_threadOf.desc).map (fun d => d.parameters.length) = some 1)
theorem cnX11_fromOf : xCn mX11_fromOf 1 := (by decide +kernel : (parseMethodDescriptor yX11_fromOf.desc).map (fun d => d.parameters.length) = some 1)
theorem cnX11_toOf : xCn mX11_toOf 1 := (by decide +kernel : (parseMethodDescriptor yX11_toOf.desc).map (fun d => d.parameters.length) = some 1)
theorem cnX11_whichOf : xCn mX11_whichOf 1 := (by decide +kernel : (parseMethodDescriptor yX11_whichOf.desc).map (fun d => d.parameters.length) = some 1)
theorem cnX11_crossOnes : xCn mX11_crossOnes 2 := (by decide +kernel : (parseMethodDescriptor yX11_crossOnes.desc).map (fun d => d.parameters.length) = some 2)
theorem cnX11_laid : xCn mX11_laid 2 := (by decide +kernel : (parseMethodDescriptor yX11_laid.desc).map (fun d => d.parameters.length) = some 2)
theorem cnX11_many : xCn mX11_many 1 := (by decide +kernel : (parseMethodDescriptor yX11_many.desc).map (fun d => d.parameters.length) = some 1)
theorem cnX11_write : xCn mX11_write 1 := (by decide +kernel : (parseMethodDescriptor yX11_write.desc).map (fun d => d.parameters.length) = some 1)
theorem cnX11_wipe : xCn mX11_wipe 0 := (by decide +kernel : (parseMethodDescriptor yX11_wipe.desc).map (fun d => d.parameters.length) = some 0)
theorem cnX11_clearLevel : xCn mX11_clearLevel 1 := (by decide +kernel : (parseMethodDescriptor yX11_clearLevel.desc).map (fun d => d.parameters.length) = some 1)
theorem cnX11_kindOf : xCn mX11_kindOf 2 := (by decide +kernel : (parseMethodDescriptor yX11_kindOf.desc).map (fun d => d.parameters.length) = some 2)
theorem cnX11_readText : xCn mX11_readText 0 := (by decide +kernel : (parseMethodDescriptor yX11_readText.desc).map (fun d => d.parameters.length) = some 0)
theorem cnX11_readParts : xCn mX11_readParts 0 := (by decide +kernel : (parseMethodDescriptor yX11_readParts.desc).map (fun d => d.parameters.length) = some 0)
theorem cnX11_mayLay : xCn mX11_mayLay 2 := (by decide +kernel : (parseMethodDescriptor yX11_mayLay.desc).map (fun d => d.parameters.length) = some 2)
theorem cnX11_fault : xCn mX11_fault 0 := (by decide +kernel : (parseMethodDescriptor yX11_fault.desc).map (fun d => d.parameters.length) = some 0)
theorem cnX11_board : xCn mX11_board 0 := (by decide +kernel : (parseMethodDescriptor yX11_board.desc).map (fun d => d.parameters.length) = some 0)
theorem cnX11_isThread : xCn mX11_isThread 1 := (by decide +kernel : (parseMethodDescriptor yX11_isThread.desc).map (fun d => d.parameters.length) = some 1)
theorem cnX11_stretchesOf : xCn mX11_stretchesOf 2 := (by decide +kernel : (parseMethodDescriptor yX11_stretchesOf.desc).map (fun d => d.parameters.length) = some 2)
theorem cnX11_longOf : xCn mX11_longOf 2 := (by decide +kernel : (parseMethodDescriptor yX11_longOf.desc).map (fun d => d.parameters.length) = some 2)
theorem cnX11_crossedBy : xCn mX11_crossedBy 4 := (by decide +kernel : (parseMethodDescriptor yX11_crossedBy.desc).map (fun d => d.parameters.length) = some 4)
theorem cnX11_mayWind : xCn mX11_mayWind 3 := (by decide +kernel : (parseMethodDescriptor yX11_mayWind.desc).map (fun d => d.parameters.length) = some 3)
theorem cnX11_windOn : xCn mX11_windOn 3 := (by decide +kernel : (parseMethodDescriptor yX11_windOn.desc).map (fun d => d.parameters.length) = some 3)
theorem cnX11_lastOf : xCn mX11_lastOf 2 := (by decide +kernel : (parseMethodDescriptor yX11_lastOf.desc).map (fun d => d.parameters.length) = some 2)
theorem cnX11_overOf : xCn mX11_overOf 2 := (by decide +kernel : (parseMethodDescriptor yX11_overOf.desc).map (fun d => d.parameters.length) = some 2)
theorem cnX11_canUnwind : xCn mX11_canUnwind 2 := (by decide +kernel : (parseMethodDescriptor yX11_canUnwind.desc).map (fun d => d.parameters.length) = some 2)
theorem cnX11_takeOff : xCn mX11_takeOff 2 := (by decide +kernel : (parseMethodDescriptor yX11_takeOff.desc).map (fun d => d.parameters.length) = some 2)
theorem cnX11_unwindOn : xCn mX11_unwindOn 2 := (by decide +kernel : (parseMethodDescriptor yX11_unwindOn.desc).map (fun d => d.parameters.length) = some 2)
theorem cnX11_cutOn : xCn mX11_cutOn 2 := (by decide +kernel : (parseMethodDescriptor yX11_cutOn.desc).map (fun d => d.parameters.length) = some 2)
theorem cnX11_renamed : xCn mX11_renamed 2 := (by decide +kernel : (parseMethodDescriptor yX11_renamed.desc).map (fun d => d.parameters.length) = some 2)
theorem cnX11_renameOn : xCn mX11_renameOn 2 := (by decide +kernel : (parseMethodDescriptor yX11_renameOn.desc).map (fun d => d.parameters.length) = some 2)
theorem cnX11_mayGo : xCn mX11_mayGo 1 := (by decide +kernel : (parseMethodDescriptor yX11_mayGo.desc).map (fun d => d.parameters.length) = some 1)
theorem cnX11_thread : xCn mX11_thread 2 := (by decide +kernel : (parseMethodDescriptor yX11_thread.desc).map (fun d => d.parameters.length) = some 2)
theorem cnX11_aboveOf : xCn mX11_aboveOf 1 := (by decide +kernel : (parseMethodDescriptor yX11_aboveOf.desc).map (fun d => d.parameters.length) = some 1)
theorem cnX11_stretch : xCn mX11_stretch 2 := (by decide +kernel : (parseMethodDescriptor yX11_stretch.desc).map (fun d => d.parameters.length) = some 2)
theorem cnX11_keepAct : xCn mX11_keepAct 0 := (by decide +kernel : (parseMethodDescriptor yX11_keepAct.desc).map (fun d => d.parameters.length) = some 0)
theorem cnX11_wind : xCn mX11_wind 2 := (by decide +kernel : (parseMethodDescriptor yX11_wind.desc).map (fun d => d.parameters.length) = some 2)
theorem cnX11_unwind : xCn mX11_unwind 1 := (by decide +kernel : (parseMethodDescriptor yX11_unwind.desc).map (fun d => d.parameters.length) = some 1)
theorem cnX11_cut : xCn mX11_cut 1 := (by decide +kernel : (parseMethodDescriptor yX11_cut.desc).map (fun d => d.parameters.length) = some 1)
theorem cnX11_turn : xCn mX11_turn 0 := (by decide +kernel : (parseMethodDescriptor yX11_turn.desc).map (fun d => d.parameters.length) = some 0)
theorem cnX11_behind : xCn mX11_behind 0 := (by decide +kernel : (parseMethodDescriptor yX11_behind.desc).map (fun d => d.parameters.length) = some 0)
theorem cnX11_undo : xCn mX11_undo 0 := (by decide +kernel : (parseMethodDescriptor yX11_undo.desc).map (fun d => d.parameters.length) = some 0)
theorem cnX11_layTrial : xCn mX11_layTrial 0 := (by decide +kernel : (parseMethodDescriptor yX11_layTrial.desc).map (fun d => d.parameters.length) = some 0)
theorem cnX11_crossesOf : xCn mX11_crossesOf 2 := (by decide +kernel : (parseMethodDescriptor yX11_crossesOf.desc).map (fun d => d.parameters.length) = some 2)
theorem cnX11_crossesOfTwo : xCn mX11_crossesOfTwo 3 := (by decide +kernel : (parseMethodDescriptor yX11_crossesOfTwo.desc).map (fun d => d.parameters.length) = some 3)
theorem cnX11_crossings : xCn mX11_crossings 2 := (by decide +kernel : (parseMethodDescriptor yX11_crossings.desc).map (fun d => d.parameters.length) = some 2)
theorem cnX11_findLines : xCn mX11_findLines 1 := (by decide +kernel : (parseMethodDescriptor yX11_findLines.desc).map (fun d => d.parameters.length) = some 1)
theorem cnX11_partsOn : xCn mX11_partsOn 1 := (by decide +kernel : (parseMethodDescriptor yX11_partsOn.desc).map (fun d => d.parameters.length) = some 1)
theorem cnX11_parts : xCn mX11_parts 0 := (by decide +kernel : (parseMethodDescriptor yX11_parts.desc).map (fun d => d.parameters.length) = some 0)
theorem cnX11_partOf : xCn mX11_partOf 1 := (by decide +kernel : (parseMethodDescriptor yX11_partOf.desc).map (fun d => d.parameters.length) = some 1)
theorem cnX11_linesAt : xCn mX11_linesAt 1 := (by decide +kernel : (parseMethodDescriptor yX11_linesAt.desc).map (fun d => d.parameters.length) = some 1)
theorem cnX11_strokes : xCn mX11_strokes 0 := (by decide +kernel : (parseMethodDescriptor yX11_strokes.desc).map (fun d => d.parameters.length) = some 0)
theorem cnX11_next : xCn mX11_next 2 := (by decide +kernel : (parseMethodDescriptor yX11_next.desc).map (fun d => d.parameters.length) = some 2)
theorem cnX11_star : xCn mX11_star 4 := (by decide +kernel : (parseMethodDescriptor yX11_star.desc).map (fun d => d.parameters.length) = some 4)
theorem cnX11_tryThing : xCn mX11_tryThing 3 := (by decide +kernel : (parseMethodDescriptor yX11_tryThing.desc).map (fun d => d.parameters.length) = some 3)
theorem cnX11_tenThousandTo : xCn mX11_tenThousandTo 1 := (by decide +kernel : (parseMethodDescriptor yX11_tenThousandTo.desc).map (fun d => d.parameters.length) = some 1)
theorem cnX11_judge : xCn mX11_judge 2 := (by decide +kernel : (parseMethodDescriptor yX11_judge.desc).map (fun d => d.parameters.length) = some 2)
theorem cnX11_see : xCn mX11_see 3 := (by decide +kernel : (parseMethodDescriptor yX11_see.desc).map (fun d => d.parameters.length) = some 3)
theorem cnX11_unsee : xCn mX11_unsee 0 := (by decide +kernel : (parseMethodDescriptor yX11_unsee.desc).map (fun d => d.parameters.length) = some 0)
theorem cnX11_stars : xCn mX11_stars 1 := (by decide +kernel : (parseMethodDescriptor yX11_stars.desc).map (fun d => d.parameters.length) = some 1)
theorem cnX11_factorial : xCn mX11_factorial 1 := (by decide +kernel : (parseMethodDescriptor yX11_factorial.desc).map (fun d => d.parameters.length) = some 1)
theorem cnX11_common : xCn mX11_common 2 := (by decide +kernel : (parseMethodDescriptor yX11_common.desc).map (fun d => d.parameters.length) = some 2)
theorem cnX11_share : xCn mX11_share 2 := (by decide +kernel : (parseMethodDescriptor yX11_share.desc).map (fun d => d.parameters.length) = some 2)
theorem cnX11_choose : xCn mX11_choose 2 := (by decide +kernel : (parseMethodDescriptor yX11_choose.desc).map (fun d => d.parameters.length) = some 2)
theorem cnX11_gain : xCn mX11_gain 5 := (by decide +kernel : (parseMethodDescriptor yX11_gain.desc).map (fun d => d.parameters.length) = some 5)
theorem cnX11_isRest : xCn mX11_isRest 4 := (by decide +kernel : (parseMethodDescriptor yX11_isRest.desc).map (fun d => d.parameters.length) = some 4)
theorem cnX11_rests : xCn mX11_rests 3 := (by decide +kernel : (parseMethodDescriptor yX11_rests.desc).map (fun d => d.parameters.length) = some 3)
theorem cnX11_snaps : xCn mX11_snaps 3 := (by decide +kernel : (parseMethodDescriptor yX11_snaps.desc).map (fun d => d.parameters.length) = some 3)
theorem cnX11_seed : xCn mX11_seed 1 := (by decide +kernel : (parseMethodDescriptor yX11_seed.desc).map (fun d => d.parameters.length) = some 1)
theorem cnX11_years : xCn mX11_years 1 := (by decide +kernel : (parseMethodDescriptor yX11_years.desc).map (fun d => d.parameters.length) = some 1)
theorem cnX11_keep : xCn mX11_keep 1 := (by decide +kernel : (parseMethodDescriptor yX11_keep.desc).map (fun d => d.parameters.length) = some 1)
theorem cnX11_again : xCn mX11_again 1 := (by decide +kernel : (parseMethodDescriptor yX11_again.desc).map (fun d => d.parameters.length) = some 1)
theorem cnX11_usedNails : xCn mX11_usedNails 0 := (by decide +kernel : (parseMethodDescriptor yX11_usedNails.desc).map (fun d => d.parameters.length) = some 0)
theorem cnX11_count : xCn mX11_count 1 := (by decide +kernel : (parseMethodDescriptor yX11_count.desc).map (fun d => d.parameters.length) = some 1)
theorem cnJ6_bitCount_0f7a4 : xCn mJ6_bitCount_0f7a4 1 := (by decide +kernel : (parseMethodDescriptor yJ6_bitCount_0f7a4.desc).map (fun d => d.parameters.length) = some 1)
theorem cnJ13_bitCount_95d88 : xCn mJ13_bitCount_95d88 1 := (by decide +kernel : (parseMethodDescriptor yJ13_bitCount_95d88.desc).map (fun d => d.parameters.length) = some 1)
theorem cnJ9_floorMod_7cf53 : xCn mJ9_floorMod_7cf53 2 := (by decide +kernel : (parseMethodDescriptor yJ9_floorMod_7cf53.desc).map (fun d => d.parameters.length) = some 2)
theorem cnJ9_abs_0f7a4 : xCn mJ9_abs_0f7a4 1 := (by decide +kernel : (parseMethodDescriptor yJ9_abs_0f7a4.desc).map (fun d => d.parameters.length) = some 1)
theorem cnJ9_max_7cf53 : xCn mJ9_max_7cf53 2 := (by decide +kernel : (parseMethodDescriptor yJ9_max_7cf53.desc).map (fun d => d.parameters.length) = some 2)
theorem cnJ9_min_7cf53 : xCn mJ9_min_7cf53 2 := (by decide +kernel : (parseMethodDescriptor yJ9_min_7cf53.desc).map (fun d => d.parameters.length) = some 2)
theorem kiX10_9 : xCi RX10 9 mX8_init 0 := ⟨cdX8_init, cnX8_init, gw78, gw79, rfl, rfl⟩
theorem kiX10_18 : xCi RX10 18 mX0_init 0 := ⟨cdX0_init, cnX0_init, gw98, gw99, rfl, rfl⟩
theorem kiX10_28 : xCi RX10 28 mX3_init 0 := ⟨cdX3_init, cnX3_init, gw126, gw127, rfl, rfl⟩
theorem kiX10_35 : xCi RX10 35 mX7_init 0 := ⟨cdX7_init, cnX7_init, gw145, gw146, rfl, rfl⟩
theorem kiX10_42 : xCi RX10 42 mX6_init 0 := ⟨cdX6_init, cnX6_init, gw161, gw162, rfl, rfl⟩
theorem kiX10_49 : xCi RX10 49 mX9_init 0 := ⟨cdX9_init, cnX9_init, gw180, gw181, rfl, rfl⟩
theorem kiX10_56 : xCi RX10 56 mX4_init 0 := ⟨cdX4_init, cnX4_init, gw190, gw191, rfl, rfl⟩
theorem kiX10_63 : xCi RX10 63 mX1_init 0 := ⟨cdX1_init, cnX1_init, gw203, gw204, rfl, rfl⟩
theorem ksX10_72 : xCs RX10 72 mX10_isOutside 3 := ⟨cdX10_isOutside, cnX10_isOutside, Or.inl gw246, gw247⟩
theorem kvX10_76 : xCv RX10 76 mX8_add 1 7 := ⟨cdX8_add, cnX8_add, gw249, gw250, gw251, TX8, cfX8⟩
theorem kvX10_80 : xCv RX10 80 mX8_length 0 7 := ⟨cdX8_length, cnX8_length, gw253, gw254, gw255, TX8, cfX8⟩
theorem kvX10_84 : xCv RX10 84 mX8_clear 0 7 := ⟨cdX8_clear, cnX8_clear, gw261, gw262, gw263, TX8, cfX8⟩
theorem kvX10_87 : xCv RX10 87 mX8_readOnto 1 7 := ⟨cdX8_readOnto, cnX8_readOnto, gw269, gw270, gw271, TX8, cfX8⟩
theorem kvX10_91 : xCv RX10 91 mX0_becomeLike 1 1 := ⟨cdX0_becomeLike, cnX0_becomeLike, gw362, gw363, gw364, TX0, cfX0⟩
theorem kvX10_95 : xCv RX10 95 mX3_clear 0 3 := ⟨cdX3_clear, cnX3_clear, gw369, gw370, gw371, TX3, cfX3⟩
theorem kvX10_96 : xCv RX10 96 mX7_clear 0 6 := ⟨cdX7_clear, cnX7_clear, gw373, gw374, gw375, TX7, cfX7⟩
theorem kvX10_97 : xCv RX10 97 mX0_threads 0 1 := ⟨cdX0_threads, cnX0_threads, gw377, gw286, gw287, TX0, cfX0⟩
theorem kvX10_100 : xCv RX10 100 mX0_hasThread 1 1 := ⟨cdX0_hasThread, cnX0_hasThread, gw382, gw306, gw307, TX0, cfX0⟩
theorem kvX10_103 : xCv RX10 103 mX0_nailOf 1 1 := ⟨cdX0_nailOf, cnX0_nailOf, gw383, gw384, gw385, TX0, cfX0⟩
theorem kvX10_107 : xCv RX10 107 mX0_kindOf 1 1 := ⟨cdX0_kindOf, cnX0_kindOf, gw387, gw388, gw389, TX0, cfX0⟩
theorem kvX10_110 : xCv RX10 110 mX0_stretchesOf 1 1 := ⟨cdX0_stretchesOf, cnX0_stretchesOf, gw391, gw302, gw303, TX0, cfX0⟩
theorem kvX10_113 : xCv RX10 113 mX0_lengthOf 1 1 := ⟨cdX0_lengthOf, cnX0_lengthOf, gw392, gw343, gw344, TX0, cfX0⟩
theorem kvX10_116 : xCv RX10 116 mX0_openNails 1 1 := ⟨cdX0_openNails, cnX0_openNails, gw393, gw394, gw395, TX0, cfX0⟩
theorem kvX10_119 : xCv RX10 119 mX0_mayUnwind 1 1 := ⟨cdX0_mayUnwind, cnX0_mayUnwind, gw398, gw399, gw400, TX0, cfX0⟩
theorem kvX10_122 : xCv RX10 122 mX0_hasStretch 1 1 := ⟨cdX0_hasStretch, cnX0_hasStretch, gw414, gw415, gw416, TX0, cfX0⟩
theorem kvX10_125 : xCv RX10 125 mX0_threadAt 1 1 := ⟨cdX0_threadAt, cnX0_threadAt, gw418, gw328, gw329, TX0, cfX0⟩
theorem kvX10_128 : xCv RX10 128 mX0_fromAt 1 1 := ⟨cdX0_fromAt, cnX0_fromAt, gw419, gw332, gw333, TX0, cfX0⟩
theorem kvX10_131 : xCv RX10 131 mX0_toAt 1 1 := ⟨cdX0_toAt, cnX0_toAt, gw420, gw336, gw337, TX0, cfX0⟩
theorem kvX10_134 : xCv RX10 134 mX0_crossingFrom 2 1 := ⟨cdX0_crossingFrom, cnX0_crossingFrom, gw421, gw422, gw423, TX0, cfX0⟩
theorem kvX10_138 : xCv RX10 138 mX0_aboveOf 1 1 := ⟨cdX0_aboveOf, cnX0_aboveOf, gw425, gw426, gw427, TX0, cfX0⟩
theorem kvX10_141 : xCv RX10 141 mX0_mayWind 2 1 := ⟨cdX0_mayWind, cnX0_mayWind, gw444, gw310, gw311, TX0, cfX0⟩
theorem kvX10_145 : xCv RX10 145 mX3_add 1 3 := ⟨cdX3_add, cnX3_add, gw445, gw446, gw447, TX3, cfX3⟩
theorem kvX10_147 : xCv RX10 147 mX0_windOn 2 1 := ⟨cdX0_windOn, cnX0_windOn, gw450, gw352, gw353, TX0, cfX0⟩
theorem kvX10_150 : xCv RX10 150 mX0_unwindLast 1 1 := ⟨cdX0_unwindLast, cnX0_unwindLast, gw455, gw456, gw457, TX0, cfX0⟩
theorem kvX10_153 : xCv RX10 153 mX0_mayCut 1 1 := ⟨cdX0_mayCut, cnX0_mayCut, gw463, gw464, gw465, TX0, cfX0⟩
theorem kvX10_156 : xCv RX10 156 mX0_cutOff 1 1 := ⟨cdX0_cutOff, cnX0_cutOff, gw468, gw469, gw470, TX0, cfX0⟩
theorem kvX10_159 : xCv RX10 159 mX0_turnByOne 0 1 := ⟨cdX0_turnByOne, cnX0_turnByOne, gw476, gw477, gw478, TX0, cfX0⟩
theorem kvX10_162 : xCv RX10 162 mX0_size 0 1 := ⟨cdX0_size, cnX0_size, gw483, gw484, gw485, TX0, cfX0⟩
theorem kvX10_165 : xCv RX10 165 mX0_turnOver 0 1 := ⟨cdX0_turnOver, cnX0_turnOver, gw491, gw492, gw493, TX0, cfX0⟩
theorem kvX10_168 : xCv RX10 168 mX3_takeBack 1 3 := ⟨cdX3_takeBack, cnX3_takeBack, gw499, gw500, gw501, TX3, cfX3⟩
theorem kvX10_172 : xCv RX10 172 mX3_size 0 3 := ⟨cdX3_size, cnX3_size, gw503, gw504, gw505, TX3, cfX3⟩
theorem kvX10_173 : xCv RX10 173 mX0_crossingsOf 2 1 := ⟨cdX0_crossingsOf, cnX0_crossingsOf, gw511, gw512, gw513, TX0, cfX0⟩
theorem kvX10_176 : xCv RX10 176 mX9_partsOf 1 8 := ⟨cdX9_partsOf, cnX9_partsOf, gw519, gw520, gw521, TX9, cfX9⟩
theorem kvX10_179 : xCv RX10 179 mX9_strokesOf 1 8 := ⟨cdX9_strokesOf, cnX9_strokesOf, gw553, gw554, gw555, TX9, cfX9⟩
theorem kvX10_182 : xCv RX10 182 mX0_bestNail 1 1 := ⟨cdX0_bestNail, cnX0_bestNail, gw572, gw573, gw574, TX0, cfX0⟩
theorem kvX10_185 : xCv RX10 185 mX0_crossedBetween 2 1 := ⟨cdX0_crossedBetween, cnX0_crossedBetween, gw581, gw578, gw579, TX0, cfX0⟩
theorem kvX10_188 : xCv RX10 188 mX0_windStar 3 1 := ⟨cdX0_windStar, cnX0_windStar, gw586, gw587, gw588, TX0, cfX0⟩
theorem ksX10_192 : xCs RX10 192 mX2_isTooLong 2 := ⟨cdX2_isTooLong, cnX2_isTooLong, Or.inl gw595, gw596⟩
theorem ksX10_198 : xCs RX10 198 mX2_firstWrong 4 := ⟨cdX2_firstWrong, cnX2_firstWrong, Or.inl gw601, gw602⟩
theorem kvX10_202 : xCv RX10 202 mX6_add 3 5 := ⟨cdX6_add, cnX6_add, gw644, gw645, gw646, TX6, cfX6⟩
theorem kvX10_204 : xCv RX10 204 mX6_size 0 5 := ⟨cdX6_size, cnX6_size, gw648, gw649, gw650, TX6, cfX6⟩
theorem kvX10_205 : xCv RX10 205 mX6_clear 0 5 := ⟨cdX6_clear, cnX6_clear, gw656, gw657, gw658, TX6, cfX6⟩
theorem kvX10_206 : xCv RX10 206 mX6_howMany 0 5 := ⟨cdX6_howMany, cnX6_howMany, gw664, gw665, gw666, TX6, cfX6⟩
theorem kvX10_209 : xCv RX10 209 mX6_firstStar 0 5 := ⟨cdX6_firstStar, cnX6_firstStar, gw673, gw674, gw675, TX6, cfX6⟩
theorem ksX10_212 : xCs RX10 212 mX1_twiceShare 2 := ⟨cdX1_twiceShare, cnX1_twiceShare, Or.inl gw681, gw682⟩
theorem ksX10_216 : xCs RX10 216 mX1_toldFraction 3 := ⟨cdX1_toldFraction, cnX1_toldFraction, Or.inl gw686, gw687⟩
theorem kvX10_220 : xCv RX10 220 mX4_tryAll 4 4 := ⟨cdX4_tryAll, cnX4_tryAll, gw700, gw701, gw702, TX4, cfX4⟩
theorem kvX10_224 : xCv RX10 224 mX4_howMany 0 4 := ⟨cdX4_howMany, cnX4_howMany, gw711, gw712, gw713, TX4, cfX4⟩
theorem kvX10_225 : xCv RX10 225 mX4_firstPair 0 4 := ⟨cdX4_firstPair, cnX4_firstPair, gw719, gw720, gw721, TX4, cfX4⟩
theorem kvX10_228 : xCv RX10 228 mX1_weightOfSnaps 3 2 := ⟨cdX1_weightOfSnaps, cnX1_weightOfSnaps, gw727, gw728, gw729, TX1, cfX1⟩
theorem ksX10_232 : xCs RX10 232 mX1_allWeight 1 := ⟨cdX1_allWeight, cnX1_allWeight, Or.inl gw742, gw743⟩
theorem ksX10_235 : xCs RX10 235 mX1_drawnFrom 1 := ⟨cdX1_drawnFrom, cnX1_drawnFrom, Or.inl gw753, gw754⟩
theorem ksX10_239 : xCs RX10 239 mX1_liveYear 2 := ⟨cdX1_liveYear, cnX1_liveYear, Or.inl gw758, gw759⟩
theorem kvX10_243 : xCv RX10 243 mX0_allCrossings 0 1 := ⟨cdX0_allCrossings, cnX0_allCrossings, gw767, gw768, gw769, TX0, cfX0⟩
theorem kvX10_246 : xCv RX10 246 mX7_put 2 6 := ⟨cdX7_put, cnX7_put, gw775, gw776, gw777, TX7, cfX7⟩
theorem kvX10_250 : xCv RX10 250 mX7_giveBack 2 6 := ⟨cdX7_giveBack, cnX7_giveBack, gw785, gw786, gw787, TX7, cfX7⟩
theorem kvX10_254 : xCv RX10 254 mX0_endNails 0 1 := ⟨cdX0_endNails, cnX0_endNails, gw793, gw794, gw795, TX0, cfX0⟩
theorem kvX10_257 : xCv RX10 257 mX0_lengthOfAll 0 1 := ⟨cdX0_lengthOfAll, cnX0_lengthOfAll, gw797, gw798, gw799, TX0, cfX0⟩
theorem kvX0_40 : xCv RX0 40 mX0_hasThread 1 1 := ⟨cdX0_hasThread, cnX0_hasThread, gw305, gw306, gw307, TX0, cfX0⟩
theorem kvX0_44 : xCv RX0 44 mX0_threadAt 1 1 := ⟨cdX0_threadAt, cnX0_threadAt, gw327, gw328, gw329, TX0, cfX0⟩
theorem kvX0_48 : xCv RX0 48 mX0_fromAt 1 1 := ⟨cdX0_fromAt, cnX0_fromAt, gw331, gw332, gw333, TX0, cfX0⟩
theorem kvX0_51 : xCv RX0 51 mX0_toAt 1 1 := ⟨cdX0_toAt, cnX0_toAt, gw335, gw336, gw337, TX0, cfX0⟩
theorem ksX0_54 : xCs RX0 54 mX5_lengthBetween 2 := ⟨cdX5_lengthBetween, cnX5_lengthBetween, Or.inl gw346, gw347⟩
theorem ksX0_64 : xCs RX0 64 mX5_apart 2 := ⟨cdX5_apart, cnX5_apart, Or.inl gw314, gw315⟩
theorem kvX0_67 : xCv RX0 67 mX0_crossed 4 1 := ⟨cdX0_crossed, cnX0_crossed, gw323, gw325, gw3, TX0, cfX0⟩
theorem kvX0_71 : xCv RX0 71 mX0_lengthOf 1 1 := ⟨cdX0_lengthOf, cnX0_lengthOf, gw342, gw343, gw344, TX0, cfX0⟩
theorem kvX0_74 : xCv RX0 74 mX0_mayWind 2 1 := ⟨cdX0_mayWind, cnX0_mayWind, gw397, gw310, gw311, TX0, cfX0⟩
theorem kvX0_78 : xCv RX0 78 mX0_nailOf 1 1 := ⟨cdX0_nailOf, cnX0_nailOf, gw576, gw384, gw385, TX0, cfX0⟩
theorem kvX0_81 : xCv RX0 81 mX0_crossedBetween 2 1 := ⟨cdX0_crossedBetween, cnX0_crossedBetween, gw577, gw578, gw579, TX0, cfX0⟩
theorem ksX0_84 : xCs RX0 84 mX5_doCross 4 := ⟨cdX5_doCross, cnX5_doCross, Or.inl gw339, gw340⟩
theorem kvX0_88 : xCv RX0 88 mX0_hasStretch 1 1 := ⟨cdX0_hasStretch, cnX0_hasStretch, gw429, gw415, gw416, TX0, cfX0⟩
theorem kvX0_91 : xCv RX0 91 mX0_crossesOneOf 2 1 := ⟨cdX0_crossesOneOf, cnX0_crossesOneOf, gw430, gw432, gw5, TX0, cfX0⟩
theorem ksX0_95 : xCs RX0 95 mJ13_bitCount_95d88 1 := ⟨cdJ13_bitCount_95d88, cnJ13_bitCount_95d88, Or.inl gw434, gw435⟩
theorem kvX0_101 : xCv RX0 101 mX0_placeAt 1 1 := ⟨cdX0_placeAt, cnX0_placeAt, gw406, gw408, gw4, TX0, cfX0⟩
theorem kvX0_104 : xCv RX0 104 mX0_lastOf 1 1 := ⟨cdX0_lastOf, cnX0_lastOf, gw402, gw403, gw404, TX0, cfX0⟩
theorem kvX0_107 : xCv RX0 107 mX0_crossingFrom 2 1 := ⟨cdX0_crossingFrom, cnX0_crossingFrom, gw710, gw422, gw423, TX0, cfX0⟩
theorem ksX0_110 : xCs RX0 110 mX0_packed 4 := ⟨cdX0_packed, cnX0_packed, Or.inl gw355, gw356⟩
theorem ksX0_113 : xCs RX0 113 mX5_stepsOn 2 := ⟨cdX5_stepsOn, cnX5_stepsOn, Or.inl gw480, gw481⟩
theorem kvX0_116 : xCv RX0 116 mX0_windOn 2 1 := ⟨cdX0_windOn, cnX0_windOn, gw590, gw352, gw353, TX0, cfX0⟩
theorem kvX0_119 : xCv RX0 119 mX0_stretchesOf 1 1 := ⟨cdX0_stretchesOf, cnX0_stretchesOf, gw467, gw302, gw303, TX0, cfX0⟩
theorem ksX1_15 : xCs RX1 15 mX1_commonDivisor 2 := ⟨cdX1_commonDivisor, cnX1_commonDivisor, Or.inl gw689, gw690⟩
theorem ksX1_19 : xCs RX1 19 mJ9_max_7cf53 2 := ⟨cdJ9_max_7cf53, cnJ9_max_7cf53, Or.inl gw695, gw566⟩
theorem ksX1_24 : xCs RX1 24 mJ9_abs_0f7a4 1 := ⟨cdJ9_abs_0f7a4, cnJ9_abs_0f7a4, Or.inl gw692, gw693⟩
theorem kvX1_28 : xCv RX1 28 mX0_threads 0 1 := ⟨cdX0_threads, cnX0_threads, gw684, gw286, gw287, TX0, cfX0⟩
theorem kvX1_34 : xCv RX1 34 mX0_crossingsOf 2 1 := ⟨cdX0_crossingsOf, cnX0_crossingsOf, gw685, gw512, gw513, TX0, cfX0⟩
theorem kvX1_37 : xCv RX1 37 mX1_countBetween 1 2 := ⟨cdX1_countBetween, cnX1_countBetween, gw731, gw733, gw14, TX1, cfX1⟩
theorem kvX1_41 : xCv RX1 41 mX1_crossingsAmong 1 2 := ⟨cdX1_crossingsAmong, cnX1_crossingsAmong, gw735, gw737, gw15, TX1, cfX1⟩
theorem ksX1_44 : xCs RX1 44 mX1_weightOf 3 := ⟨cdX1_weightOf, cnX1_weightOf, Or.inl gw739, gw740⟩
theorem ksX1_54 : xCs RX1 54 mX2_winds 3 := ⟨cdX2_winds, cnX2_winds, Or.inl gw762, gw612⟩
theorem ksX1_60 : xCs RX1 60 mX2_unwinds 2 := ⟨cdX2_unwinds, cnX2_unwinds, Or.inl gw763, gw617⟩
theorem ksX1_64 : xCs RX1 64 mX2_cuts 2 := ⟨cdX2_cuts, cnX2_cuts, Or.inl gw764, gw622⟩
theorem kvX1_67 : xCv RX1 67 mX0_turnByOne 0 1 := ⟨cdX0_turnByOne, cnX0_turnByOne, gw765, gw477, gw478, TX0, cfX0⟩
theorem kvX1_70 : xCv RX1 70 mX0_turnOver 0 1 := ⟨cdX0_turnOver, cnX0_turnOver, gw766, gw492, gw493, TX0, cfX0⟩
theorem ksX2_19 : xCs RX2 19 mX2_powerAt 1 := ⟨cdX2_powerAt, cnX2_powerAt, Or.inl gw604, gw605⟩
theorem ksX2_25 : xCs RX2 25 mX2_comesTrue 3 := ⟨cdX2_comesTrue, cnX2_comesTrue, Or.inl gw608, gw609⟩
theorem ksX2_29 : xCs RX2 29 mX2_winds 3 := ⟨cdX2_winds, cnX2_winds, Or.inl gw611, gw612⟩
theorem ksX2_33 : xCs RX2 33 mX2_unwinds 2 := ⟨cdX2_unwinds, cnX2_unwinds, Or.inl gw616, gw617⟩
theorem ksX2_37 : xCs RX2 37 mX2_cuts 2 := ⟨cdX2_cuts, cnX2_cuts, Or.inl gw621, gw622⟩
theorem ksX2_40 : xCs RX2 40 mX2_turns 1 := ⟨cdX2_turns, cnX2_turns, Or.inl gw626, gw627⟩
theorem ksX2_44 : xCs RX2 44 mX2_turnsOver 1 := ⟨cdX2_turnsOver, cnX2_turnsOver, Or.inl gw630, gw631⟩
theorem ksX2_47 : xCs RX2 47 mX2_doCross 4 := ⟨cdX2_doCross, cnX2_doCross, Or.inl gw634, gw635⟩
theorem kvX2_51 : xCv RX2 51 mX9_partsOf 1 8 := ⟨cdX9_partsOf, cnX9_partsOf, gw639, gw520, gw521, TX9, cfX9⟩
theorem kvX2_57 : xCv RX2 57 mX0_mayWind 2 1 := ⟨cdX0_mayWind, cnX0_mayWind, gw614, gw310, gw311, TX0, cfX0⟩
theorem kvX2_63 : xCv RX2 63 mX0_windOn 2 1 := ⟨cdX0_windOn, cnX0_windOn, gw615, gw352, gw353, TX0, cfX0⟩
theorem kvX2_67 : xCv RX2 67 mX0_mayUnwind 1 1 := ⟨cdX0_mayUnwind, cnX0_mayUnwind, gw619, gw399, gw400, TX0, cfX0⟩
theorem kvX2_71 : xCv RX2 71 mX0_unwindLast 1 1 := ⟨cdX0_unwindLast, cnX0_unwindLast, gw620, gw456, gw457, TX0, cfX0⟩
theorem kvX2_75 : xCv RX2 75 mX0_mayCut 1 1 := ⟨cdX0_mayCut, cnX0_mayCut, gw624, gw464, gw465, TX0, cfX0⟩
theorem kvX2_78 : xCv RX2 78 mX0_cutOff 1 1 := ⟨cdX0_cutOff, cnX0_cutOff, gw625, gw469, gw470, TX0, cfX0⟩
theorem kvX2_81 : xCv RX2 81 mX0_turnByOne 0 1 := ⟨cdX0_turnByOne, cnX0_turnByOne, gw629, gw477, gw478, TX0, cfX0⟩
theorem kvX2_84 : xCv RX2 84 mX0_turnOver 0 1 := ⟨cdX0_turnOver, cnX0_turnOver, gw633, gw492, gw493, TX0, cfX0⟩
theorem kvX2_87 : xCv RX2 87 mX0_hasThread 1 1 := ⟨cdX0_hasThread, cnX0_hasThread, gw637, gw306, gw307, TX0, cfX0⟩
theorem kvX2_90 : xCv RX2 90 mX0_crossingsOf 2 1 := ⟨cdX0_crossingsOf, cnX0_crossingsOf, gw638, gw512, gw513, TX0, cfX0⟩
theorem kiX3_17 : xCi RX3 17 mX0_init 0 := ⟨cdX0_init, cnX0_init, gw132, gw99, rfl, rfl⟩
theorem kvX3_25 : xCv RX3 25 mX0_becomeLike 1 1 := ⟨cdX0_becomeLike, cnX0_becomeLike, gw449, gw363, gw364, TX0, cfX0⟩
theorem kvX4_18 : xCv RX4 18 mX0_becomeLike 1 1 := ⟨cdX0_becomeLike, cnX0_becomeLike, gw704, gw363, gw364, TX0, cfX0⟩
theorem kvX4_24 : xCv RX4 24 mX0_windStar 3 1 := ⟨cdX0_windStar, cnX0_windStar, gw705, gw587, gw588, TX0, cfX0⟩
theorem kvX4_28 : xCv RX4 28 mX0_worthOf 1 1 := ⟨cdX0_worthOf, cnX0_worthOf, gw706, gw707, gw708, TX0, cfX0⟩
theorem kvX4_32 : xCv RX4 32 mX4_isAtRest 1 4 := ⟨cdX4_isAtRest, cnX4_isAtRest, gw715, gw717, gw13, TX4, cfX4⟩
theorem ksX5_9 : xCs RX5 9 mJ9_floorMod_7cf53 2 := ⟨cdJ9_floorMod_7cf53, cnJ9_floorMod_7cf53, Or.inl gw317, gw318⟩
theorem ksX5_15 : xCs RX5 15 mJ9_min_7cf53 2 := ⟨cdJ9_min_7cf53, cnJ9_min_7cf53, Or.inl gw320, gw321⟩
theorem ksX6_25 : xCs RX6 25 mX5_stepsOn 2 := ⟨cdX5_stepsOn, cnX5_stepsOn, Or.inl gw672, gw481⟩
theorem kvX6_31 : xCv RX6 31 mX6_fits 2 5 := ⟨cdX6_fits, cnX6_fits, gw668, gw670, gw12, TX6, cfX6⟩
theorem kiX7_21 : xCi RX7 21 mX0_init 0 := ⟨cdX0_init, cnX0_init, gw150, gw99, rfl, rfl⟩
theorem kvX7_26 : xCv RX7 26 mX0_becomeLike 1 1 := ⟨cdX0_becomeLike, cnX0_becomeLike, gw780, gw363, gw364, TX0, cfX0⟩
theorem kvX8_25 : xCv RX8 25 mX0_clear 0 1 := ⟨cdX0_clear, cnX0_clear, gw273, gw274, gw275, TX0, cfX0⟩
theorem kvX8_30 : xCv RX8 30 mX8_goesOn 2 7 := ⟨cdX8_goesOn, cnX8_goesOn, gw277, gw279, gw0, TX8, cfX8⟩
theorem kvX8_34 : xCv RX8 34 mX8_beginsThread 2 7 := ⟨cdX8_beginsThread, cnX8_beginsThread, gw281, gw283, gw1, TX8, cfX8⟩
theorem ksX8_41 : xCs RX8 41 mX8_isNail 1 := ⟨cdX8_isNail, cnX8_isNail, Or.inl gw290, gw291⟩
theorem kvX8_45 : xCv RX8 45 mX0_tie 2 1 := ⟨cdX0_tie, cnX0_tie, gw293, gw294, gw295, TX0, cfX0⟩
theorem kvX8_49 : xCv RX8 49 mX8_windsOn 2 7 := ⟨cdX8_windsOn, cnX8_windsOn, gw297, gw299, gw2, TX8, cfX8⟩
theorem kvX8_52 : xCv RX8 52 mX0_threads 0 1 := ⟨cdX0_threads, cnX0_threads, gw285, gw286, gw287, TX0, cfX0⟩
theorem kvX8_56 : xCv RX8 56 mX0_stretchesOf 1 1 := ⟨cdX0_stretchesOf, cnX0_stretchesOf, gw301, gw302, gw303, TX0, cfX0⟩
theorem kvX8_60 : xCv RX8 60 mX0_mayWind 2 1 := ⟨cdX0_mayWind, cnX0_mayWind, gw309, gw310, gw311, TX0, cfX0⟩
theorem kvX8_63 : xCv RX8 63 mX0_windOn 2 1 := ⟨cdX0_windOn, cnX0_windOn, gw351, gw352, gw353, TX0, cfX0⟩
theorem kvX9_15 : xCv RX9 15 mX0_size 0 1 := ⟨cdX0_size, cnX0_size, gw527, gw484, gw485, TX0, cfX0⟩
theorem kvX9_21 : xCv RX9 21 mX0_fromAt 1 1 := ⟨cdX0_fromAt, cnX0_fromAt, gw528, gw332, gw333, TX0, cfX0⟩
theorem kvX9_25 : xCv RX9 25 mX0_toAt 1 1 := ⟨cdX0_toAt, cnX0_toAt, gw529, gw336, gw337, TX0, cfX0⟩
theorem kvX9_28 : xCv RX9 28 mX9_join 2 8 := ⟨cdX9_join, cnX9_join, gw530, gw532, gw7, TX9, cfX9⟩
theorem kvX9_36 : xCv RX9 36 mX9_draw 1 8 := ⟨cdX9_draw, cnX9_draw, gw523, gw525, gw6, TX9, cfX9⟩
theorem kvX9_40 : xCv RX9 40 mX9_areJoined 2 8 := ⟨cdX9_areJoined, cnX9_areJoined, gw535, gw537, gw8, TX9, cfX9⟩
theorem kvX9_44 : xCv RX9 44 mX9_crossedUpwards 2 8 := ⟨cdX9_crossedUpwards, cnX9_crossedUpwards, gw539, gw541, gw9, TX9, cfX9⟩
theorem ksX9_48 : xCs RX9 48 mJ6_bitCount_0f7a4 1 := ⟨cdJ6_bitCount_0f7a4, cnJ6_bitCount_0f7a4, Or.inl gw543, gw544⟩
theorem kvX9_53 : xCv RX9 53 mX9_groupOf 1 8 := ⟨cdX9_groupOf, cnX9_groupOf, gw557, gw559, gw10, TX9, cfX9⟩
theorem kvX9_56 : xCv RX9 56 mX9_oddNails 1 8 := ⟨cdX9_oddNails, cnX9_oddNails, gw561, gw563, gw11, TX9, cfX9⟩
theorem ksX9_59 : xCs RX9 59 mJ9_max_7cf53 2 := ⟨cdJ9_max_7cf53, cnJ9_max_7cf53, Or.inl gw565, gw566⟩
theorem kiL_9 : xCi RL 9 mX10_init 0 := ⟨cdX10_init, cnX10_init, gw70, gw71, rfl, rfl⟩
theorem kiL_12 : xCi RL 12 mX11_init 0 := ⟨cdX11_init, cnX11_init, gw803, gw804, rfl, rfl⟩
theorem kvL_13 : xCv RL 13 mX10_write 1 9 := ⟨cdX10_write, cnX10_write, gw242, gw243, gw244, TX10, cfX10⟩
theorem kvL_17 : xCv RL 17 mX11_write 1 10 := ⟨cdX11_write, cnX11_write, gw868, gw869, gw870, TX11, cfX11⟩
theorem kvL_18 : xCv RL 18 mX10_wipe 0 9 := ⟨cdX10_wipe, cnX10_wipe, gw257, gw258, gw259, TX10, cfX10⟩
theorem kvL_22 : xCv RL 22 mX11_wipe 0 10 := ⟨cdX11_wipe, cnX11_wipe, gw876, gw877, gw878, TX11, cfX11⟩
theorem kvL_23 : xCv RL 23 mX10_fault 0 9 := ⟨cdX10_fault, cnX10_fault, gw265, gw266, gw267, TX10, cfX10⟩
theorem kvL_26 : xCv RL 26 mX11_fault 0 10 := ⟨cdX11_fault, cnX11_fault, gw880, gw881, gw882, TX11, cfX11⟩
theorem kvL_27 : xCv RL 27 mX10_board 0 9 := ⟨cdX10_board, cnX10_board, gw358, gw359, gw360, TX10, cfX10⟩
theorem kvL_30 : xCv RL 30 mX11_board 0 10 := ⟨cdX11_board, cnX11_board, gw964, gw965, gw966, TX11, cfX11⟩
theorem kvL_31 : xCv RL 31 mX10_thread 2 9 := ⟨cdX10_thread, cnX10_thread, gw378, gw379, gw380, TX10, cfX10⟩
theorem kvL_35 : xCv RL 35 mX11_thread 2 10 := ⟨cdX11_thread, cnX11_thread, gw968, gw969, gw970, TX11, cfX11⟩
theorem kvL_36 : xCv RL 36 mX10_stretch 2 9 := ⟨cdX10_stretch, cnX10_stretch, gw410, gw411, gw412, TX10, cfX10⟩
theorem kvL_39 : xCv RL 39 mX11_stretch 2 10 := ⟨cdX11_stretch, cnX11_stretch, gw998, gw999, gw1000, TX11, cfX11⟩
theorem kvL_40 : xCv RL 40 mX10_wind 2 9 := ⟨cdX10_wind, cnX10_wind, gw440, gw441, gw442, TX10, cfX10⟩
theorem kvL_43 : xCv RL 43 mX11_wind 2 10 := ⟨cdX11_wind, cnX11_wind, gw1006, gw1007, gw1008, TX11, cfX11⟩
theorem kvL_44 : xCv RL 44 mX10_unwind 1 9 := ⟨cdX10_unwind, cnX10_unwind, gw451, gw452, gw453, TX10, cfX10⟩
theorem kvL_47 : xCv RL 47 mX11_unwind 1 10 := ⟨cdX11_unwind, cnX11_unwind, gw1014, gw1015, gw1016, TX11, cfX11⟩
theorem kvL_48 : xCv RL 48 mX10_cut 1 9 := ⟨cdX10_cut, cnX10_cut, gw459, gw460, gw461, TX10, cfX10⟩
theorem kvL_51 : xCv RL 51 mX11_cut 1 10 := ⟨cdX11_cut, cnX11_cut, gw1026, gw1027, gw1028, TX11, cfX11⟩
theorem kvL_52 : xCv RL 52 mX10_turn 0 9 := ⟨cdX10_turn, cnX10_turn, gw472, gw473, gw474, TX10, cfX10⟩
theorem kvL_55 : xCv RL 55 mX11_turn 0 10 := ⟨cdX11_turn, cnX11_turn, gw1034, gw1035, gw1036, TX11, cfX11⟩
theorem kvL_56 : xCv RL 56 mX10_behind 0 9 := ⟨cdX10_behind, cnX10_behind, gw487, gw488, gw489, TX10, cfX10⟩
theorem kvL_59 : xCv RL 59 mX11_behind 0 10 := ⟨cdX11_behind, cnX11_behind, gw1045, gw1046, gw1047, TX11, cfX11⟩
theorem kvL_60 : xCv RL 60 mX10_undo 0 9 := ⟨cdX10_undo, cnX10_undo, gw495, gw496, gw497, TX10, cfX10⟩
theorem kvL_63 : xCv RL 63 mX11_undo 0 10 := ⟨cdX11_undo, cnX11_undo, gw1049, gw1050, gw1051, TX11, cfX11⟩
theorem kvL_64 : xCv RL 64 mX10_crossings 2 9 := ⟨cdX10_crossings, cnX10_crossings, gw507, gw508, gw509, TX10, cfX10⟩
theorem kvL_67 : xCv RL 67 mX11_crossings 2 10 := ⟨cdX11_crossings, cnX11_crossings, gw1053, gw1054, gw1055, TX11, cfX11⟩
theorem kvL_68 : xCv RL 68 mX10_parts 0 9 := ⟨cdX10_parts, cnX10_parts, gw515, gw516, gw517, TX10, cfX10⟩
theorem kvL_71 : xCv RL 71 mX11_parts 0 10 := ⟨cdX11_parts, cnX11_parts, gw1068, gw1069, gw1070, TX11, cfX11⟩
theorem kvL_72 : xCv RL 72 mX10_strokes 0 9 := ⟨cdX10_strokes, cnX10_strokes, gw549, gw550, gw551, TX10, cfX10⟩
theorem kvL_75 : xCv RL 75 mX11_strokes 0 10 := ⟨cdX11_strokes, cnX11_strokes, gw1080, gw1081, gw1082, TX11, cfX11⟩
theorem kvL_76 : xCv RL 76 mX10_next 2 9 := ⟨cdX10_next, cnX10_next, gw568, gw569, gw570, TX10, cfX10⟩
theorem kvL_79 : xCv RL 79 mX11_next 2 10 := ⟨cdX11_next, cnX11_next, gw1092, gw1093, gw1094, TX11, cfX11⟩
theorem kvL_80 : xCv RL 80 mX10_star 4 9 := ⟨cdX10_star, cnX10_star, gw582, gw583, gw584, TX10, cfX10⟩
theorem kvL_84 : xCv RL 84 mX11_star 4 10 := ⟨cdX11_star, cnX11_star, gw1096, gw1097, gw1098, TX11, cfX11⟩
theorem kvL_87 : xCv RL 87 mX10_judge 2 9 := ⟨cdX10_judge, cnX10_judge, gw591, gw592, gw593, TX10, cfX10⟩
theorem kvL_91 : xCv RL 91 mX11_judge 2 10 := ⟨cdX11_judge, cnX11_judge, gw1106, gw1107, gw1108, TX11, cfX11⟩
theorem kvL_92 : xCv RL 92 mX10_see 3 9 := ⟨cdX10_see, cnX10_see, gw640, gw641, gw642, TX10, cfX10⟩
theorem kvL_96 : xCv RL 96 mX11_see 3 10 := ⟨cdX11_see, cnX11_see, gw1119, gw1120, gw1121, TX11, cfX11⟩
theorem kvL_97 : xCv RL 97 mX10_unsee 0 9 := ⟨cdX10_unsee, cnX10_unsee, gw652, gw653, gw654, TX10, cfX10⟩
theorem kvL_100 : xCv RL 100 mX11_unsee 0 10 := ⟨cdX11_unsee, cnX11_unsee, gw1123, gw1124, gw1125, TX11, cfX11⟩
theorem kvL_101 : xCv RL 101 mX10_stars 1 9 := ⟨cdX10_stars, cnX10_stars, gw660, gw661, gw662, TX10, cfX10⟩
theorem kvL_104 : xCv RL 104 mX11_stars 1 10 := ⟨cdX11_stars, cnX11_stars, gw1127, gw1128, gw1129, TX11, cfX11⟩
theorem kvL_105 : xCv RL 105 mX10_share 2 9 := ⟨cdX10_share, cnX10_share, gw677, gw678, gw679, TX10, cfX10⟩
theorem kvL_109 : xCv RL 109 mX11_share 2 10 := ⟨cdX11_share, cnX11_share, gw1131, gw1132, gw1133, TX11, cfX11⟩
theorem kvL_110 : xCv RL 110 mX10_rests 3 9 := ⟨cdX10_rests, cnX10_rests, gw696, gw697, gw698, TX10, cfX10⟩
theorem kvL_113 : xCv RL 113 mX11_rests 3 10 := ⟨cdX11_rests, cnX11_rests, gw1144, gw1145, gw1146, TX11, cfX11⟩
theorem kvL_114 : xCv RL 114 mX10_snaps 3 9 := ⟨cdX10_snaps, cnX10_snaps, gw723, gw724, gw725, TX10, cfX10⟩
theorem kvL_118 : xCv RL 118 mX11_snaps 3 10 := ⟨cdX11_snaps, cnX11_snaps, gw1160, gw1161, gw1162, TX11, cfX11⟩
theorem kvL_119 : xCv RL 119 mX10_seed 1 9 := ⟨cdX10_seed, cnX10_seed, gw745, gw746, gw747, TX10, cfX10⟩
theorem kvL_123 : xCv RL 123 mX11_seed 1 10 := ⟨cdX11_seed, cnX11_seed, gw1166, gw1167, gw1168, TX11, cfX11⟩
theorem kvL_124 : xCv RL 124 mX10_years 1 9 := ⟨cdX10_years, cnX10_years, gw749, gw750, gw751, TX10, cfX10⟩
theorem kvL_127 : xCv RL 127 mX11_years 1 10 := ⟨cdX11_years, cnX11_years, gw1170, gw1171, gw1172, TX11, cfX11⟩
theorem kvL_128 : xCv RL 128 mX10_keep 1 9 := ⟨cdX10_keep, cnX10_keep, gw771, gw772, gw773, TX10, cfX10⟩
theorem kvL_131 : xCv RL 131 mX11_keep 1 10 := ⟨cdX11_keep, cnX11_keep, gw1178, gw1179, gw1180, TX11, cfX11⟩
theorem kvL_132 : xCv RL 132 mX10_again 1 9 := ⟨cdX10_again, cnX10_again, gw781, gw782, gw783, TX10, cfX10⟩
theorem kvL_135 : xCv RL 135 mX11_again 1 10 := ⟨cdX11_again, cnX11_again, gw1182, gw1183, gw1184, TX11, cfX11⟩
theorem kvL_136 : xCv RL 136 mX10_count 1 9 := ⟨cdX10_count, cnX10_count, gw789, gw790, gw791, TX10, cfX10⟩
theorem kvL_139 : xCv RL 139 mX11_count 1 10 := ⟨cdX11_count, cnX11_count, gw1186, gw1187, gw1188, TX11, cfX11⟩
theorem ksX11_49 : xCs RX11 49 mX11_in 3 := ⟨cdX11_in, cnX11_in, Or.inl gw873, gw874⟩
theorem ksX11_53 : xCs RX11 53 mX11_apart 2 := ⟨cdX11_apart, cnX11_apart, Or.inl gw931, gw932⟩
theorem ksX11_57 : xCs RX11 57 mX11_isBetween 3 := ⟨cdX11_isBetween, cnX11_isBetween, Or.inl gw947, gw948⟩
theorem ksX11_61 : xCs RX11 61 mX11_fromOf 1 := ⟨cdX11_fromOf, cnX11_fromOf, Or.inl gw938, gw939⟩
theorem ksX11_65 : xCs RX11 65 mX11_toOf 1 := ⟨cdX11_toOf, cnX11_toOf, Or.inl gw941, gw942⟩
theorem ksX11_68 : xCs RX11 68 mX11_cross 4 := ⟨cdX11_cross, cnX11_cross, Or.inl gw944, gw945⟩
theorem kvX11_82 : xCv RX11 82 mX11_clearLevel 1 10 := ⟨cdX11_clearLevel, cnX11_clearLevel, gw888, gw890, gw17, TX11, cfX11⟩
theorem kvX11_89 : xCv RX11 89 mX11_readParts 0 10 := ⟨cdX11_readParts, cnX11_readParts, gw892, gw894, gw18, TX11, cfX11⟩
theorem kvX11_101 : xCv RX11 101 mX11_mayLay 2 10 := ⟨cdX11_mayLay, cnX11_mayLay, gw900, gw902, gw19, TX11, cfX11⟩
theorem kvX11_105 : xCv RX11 105 mX11_mayWind 3 10 := ⟨cdX11_mayWind, cnX11_mayWind, gw904, gw906, gw20, TX11, cfX11⟩
theorem kvX11_108 : xCv RX11 108 mX11_windOn 3 10 := ⟨cdX11_windOn, cnX11_windOn, gw957, gw959, gw27, TX11, cfX11⟩
theorem kvX11_112 : xCv RX11 112 mX11_readText 0 10 := ⟨cdX11_readText, cnX11_readText, gw884, gw886, gw16, TX11, cfX11⟩
theorem kvX11_121 : xCv RX11 121 mX11_many 1 10 := ⟨cdX11_many, cnX11_many, gw916, gw918, gw22, TX11, cfX11⟩
theorem kvX11_124 : xCv RX11 124 mX11_laid 2 10 := ⟨cdX11_laid, cnX11_laid, gw920, gw922, gw23, TX11, cfX11⟩
theorem ksX11_127 : xCs RX11 127 mX11_threadOf 1 := ⟨cdX11_threadOf, cnX11_threadOf, Or.inl gw924, gw925⟩
theorem ksX11_130 : xCs RX11 130 mX11_longBy 2 := ⟨cdX11_longBy, cnX11_longBy, Or.inl gw954, gw955⟩
theorem ksX11_133 : xCs RX11 133 mX11_isNail 1 := ⟨cdX11_isNail, cnX11_isNail, Or.inl gw908, gw909⟩
theorem kvX11_137 : xCv RX11 137 mX11_stretchesOf 2 10 := ⟨cdX11_stretchesOf, cnX11_stretchesOf, gw912, gw914, gw21, TX11, cfX11⟩
theorem kvX11_140 : xCv RX11 140 mX11_kindOf 2 10 := ⟨cdX11_kindOf, cnX11_kindOf, gw927, gw929, gw24, TX11, cfX11⟩
theorem kvX11_143 : xCv RX11 143 mX11_crossedBy 4 10 := ⟨cdX11_crossedBy, cnX11_crossedBy, gw934, gw936, gw25, TX11, cfX11⟩
theorem kvX11_147 : xCv RX11 147 mX11_longOf 2 10 := ⟨cdX11_longOf, cnX11_longOf, gw950, gw952, gw26, TX11, cfX11⟩
theorem ksX11_150 : xCs RX11 150 mX11_asOne 4 := ⟨cdX11_asOne, cnX11_asOne, Or.inl gw961, gw962⟩
theorem ksX11_153 : xCs RX11 153 mX11_whichOf 1 := ⟨cdX11_whichOf, cnX11_whichOf, Or.inl gw988, gw989⟩
theorem ksX11_156 : xCs RX11 156 mX11_crossOnes 2 := ⟨cdX11_crossOnes, cnX11_crossOnes, Or.inl gw995, gw996⟩
theorem kvX11_159 : xCv RX11 159 mX11_isThread 1 10 := ⟨cdX11_isThread, cnX11_isThread, gw972, gw974, gw28, TX11, cfX11⟩
theorem kvX11_162 : xCv RX11 162 mX11_lastOf 2 10 := ⟨cdX11_lastOf, cnX11_lastOf, gw984, gw986, gw31, TX11, cfX11⟩
theorem kvX11_165 : xCv RX11 165 mX11_overOf 2 10 := ⟨cdX11_overOf, cnX11_overOf, gw991, gw993, gw32, TX11, cfX11⟩
theorem kvX11_168 : xCv RX11 168 mX11_takeOff 2 10 := ⟨cdX11_takeOff, cnX11_takeOff, gw1022, gw1024, gw36, TX11, cfX11⟩
theorem ksX11_172 : xCs RX11 172 mX11_renamed 2 := ⟨cdX11_renamed, cnX11_renamed, Or.inl gw1042, gw1043⟩
theorem kvX11_176 : xCv RX11 176 mX11_mayGo 1 10 := ⟨cdX11_mayGo, cnX11_mayGo, gw976, gw978, gw29, TX11, cfX11⟩
theorem kvX11_179 : xCv RX11 179 mX11_canUnwind 2 10 := ⟨cdX11_canUnwind, cnX11_canUnwind, gw980, gw982, gw30, TX11, cfX11⟩
theorem kvX11_182 : xCv RX11 182 mX11_aboveOf 1 10 := ⟨cdX11_aboveOf, cnX11_aboveOf, gw1002, gw1004, gw33, TX11, cfX11⟩
theorem kvX11_188 : xCv RX11 188 mX11_keepAct 0 10 := ⟨cdX11_keepAct, cnX11_keepAct, gw1010, gw1012, gw34, TX11, cfX11⟩
theorem kvX11_191 : xCv RX11 191 mX11_unwindOn 2 10 := ⟨cdX11_unwindOn, cnX11_unwindOn, gw1018, gw1020, gw35, TX11, cfX11⟩
theorem kvX11_194 : xCv RX11 194 mX11_cutOn 2 10 := ⟨cdX11_cutOn, cnX11_cutOn, gw1030, gw1032, gw37, TX11, cfX11⟩
theorem kvX11_197 : xCv RX11 197 mX11_renameOn 2 10 := ⟨cdX11_renameOn, cnX11_renameOn, gw1038, gw1040, gw38, TX11, cfX11⟩
theorem ksX11_201 : xCs RX11 201 mX11_has 2 := ⟨cdX11_has, cnX11_has, Or.inl gw1065, gw1066⟩
theorem kvX11_204 : xCv RX11 204 mX11_crossesOf 2 10 := ⟨cdX11_crossesOf, cnX11_crossesOf, gw1061, gw1063, gw40, TX11, cfX11⟩
theorem kvX11_207 : xCv RX11 207 mX11_crossesOfTwo 3 10 := ⟨cdX11_crossesOfTwo, cnX11_crossesOfTwo, gw1057, gw1059, gw39, TX11, cfX11⟩
theorem kvX11_210 : xCv RX11 210 mX11_findLines 1 10 := ⟨cdX11_findLines, cnX11_findLines, gw1076, gw1078, gw42, TX11, cfX11⟩
theorem kvX11_213 : xCv RX11 213 mX11_partsOn 1 10 := ⟨cdX11_partsOn, cnX11_partsOn, gw1072, gw1074, gw41, TX11, cfX11⟩
theorem kvX11_216 : xCv RX11 216 mX11_linesAt 1 10 := ⟨cdX11_linesAt, cnX11_linesAt, gw1084, gw1086, gw43, TX11, cfX11⟩
theorem kvX11_219 : xCv RX11 219 mX11_partOf 1 10 := ⟨cdX11_partOf, cnX11_partOf, gw1088, gw1090, gw44, TX11, cfX11⟩
theorem kvX11_226 : xCv RX11 226 mX11_layTrial 0 10 := ⟨cdX11_layTrial, cnX11_layTrial, gw1102, gw1104, gw45, TX11, cfX11⟩
theorem ksX11_233 : xCs RX11 233 mX11_tenThousandTo 1 := ⟨cdX11_tenThousandTo, cnX11_tenThousandTo, Or.inl gw1111, gw1112⟩
theorem kvX11_237 : xCv RX11 237 mX11_tryThing 3 10 := ⟨cdX11_tryThing, cnX11_tryThing, gw1115, gw1117, gw46, TX11, cfX11⟩
theorem ksX11_243 : xCs RX11 243 mX11_ones 1 := ⟨cdX11_ones, cnX11_ones, Or.inl gw1135, gw1136⟩
theorem ksX11_246 : xCs RX11 246 mX11_factorial 1 := ⟨cdX11_factorial, cnX11_factorial, Or.inl gw1138, gw1139⟩
theorem ksX11_249 : xCs RX11 249 mX11_common 2 := ⟨cdX11_common, cnX11_common, Or.inl gw1141, gw1142⟩
theorem kvX11_252 : xCv RX11 252 mX11_choose 2 10 := ⟨cdX11_choose, cnX11_choose, gw1156, gw1158, gw49, TX11, cfX11⟩
theorem kvX11_255 : xCv RX11 255 mX11_gain 5 10 := ⟨cdX11_gain, cnX11_gain, gw1152, gw1154, gw48, TX11, cfX11⟩
theorem kvX11_259 : xCv RX11 259 mX11_isRest 4 10 := ⟨cdX11_isRest, cnX11_isRest, gw1148, gw1150, gw47, TX11, cfX11⟩
theorem kvX11_278 : xCv RX11 278 mX11_usedNails 0 10 := ⟨cdX11_usedNails, cnX11_usedNails, gw1190, gw1192, gw50, TX11, cfX11⟩
theorem ksX0_60 : xCs RX0 60 mX10_isOutside 3 := ⟨cdX10_isOutside, cnX10_isOutside, Or.inr ⟨by decide +kernel, rfl⟩, gw247⟩
theorem ksX2_9 : xCs RX2 9 mX10_isOutside 3 := ⟨cdX10_isOutside, cnX10_isOutside, Or.inr ⟨by decide +kernel, rfl⟩, gw247⟩
theorem ksX7_22 : xCs RX7 22 mX10_isOutside 3 := ⟨cdX10_isOutside, cnX10_isOutside, Or.inr ⟨by decide +kernel, rfl⟩, gw247⟩
theorem ksX8_37 : xCs RX8 37 mX10_isOutside 3 := ⟨cdX10_isOutside, cnX10_isOutside, Or.inr ⟨by decide +kernel, rfl⟩, gw247⟩
theorem ksX9_32 : xCs RX9 32 mX10_isOutside 3 := ⟨cdX10_isOutside, cnX10_isOutside, Or.inr ⟨by decide +kernel, rfl⟩, gw247⟩
theorem fdX10_10 : xFd RX10 10 9 0 true := ⟨RX10, TX10, cfX10, by decide, gw211, rfl, rfl⟩
theorem fdX10_19 : xFd RX10 19 9 1 true := ⟨RX10, TX10, cfX10, by decide, gw212, rfl, rfl⟩
theorem fdX10_23 : xFd RX10 23 9 2 true := ⟨RX10, TX10, cfX10, by decide, gw213, rfl, rfl⟩
theorem fdX10_29 : xFd RX10 29 9 3 true := ⟨RX10, TX10, cfX10, by decide, gw214, rfl, rfl⟩
theorem fdX10_36 : xFd RX10 36 9 4 true := ⟨RX10, TX10, cfX10, by decide, gw215, rfl, rfl⟩
theorem fdX10_43 : xFd RX10 43 9 5 true := ⟨RX10, TX10, cfX10, by decide, gw216, rfl, rfl⟩
theorem fdX10_50 : xFd RX10 50 9 6 true := ⟨RX10, TX10, cfX10, by decide, gw217, rfl, rfl⟩
theorem fdX10_57 : xFd RX10 57 9 7 true := ⟨RX10, TX10, cfX10, by decide, gw218, rfl, rfl⟩
theorem fdX10_64 : xFd RX10 64 9 8 true := ⟨RX10, TX10, cfX10, by decide, gw219, rfl, rfl⟩
theorem fdX10_68 : xFd RX10 68 9 9 false := ⟨RX10, TX10, cfX10, by decide, gw220, rfl, rfl⟩
theorem fdX0_9 : xFd RX0 9 1 0 true := ⟨RX0, TX0, cfX0, by decide, gw102, rfl, rfl⟩
theorem fdX0_15 : xFd RX0 15 1 1 true := ⟨RX0, TX0, cfX0, by decide, gw103, rfl, rfl⟩
theorem fdX0_18 : xFd RX0 18 1 2 true := ⟨RX0, TX0, cfX0, by decide, gw104, rfl, rfl⟩
theorem fdX0_21 : xFd RX0 21 1 3 true := ⟨RX0, TX0, cfX0, by decide, gw105, rfl, rfl⟩
theorem fdX0_24 : xFd RX0 24 1 4 false := ⟨RX0, TX0, cfX0, by decide, gw106, rfl, rfl⟩
theorem fdX0_28 : xFd RX0 28 1 5 false := ⟨RX0, TX0, cfX0, by decide, gw107, rfl, rfl⟩
theorem fdX0_31 : xFd RX0 31 1 6 false := ⟨RX0, TX0, cfX0, by decide, gw108, rfl, rfl⟩
theorem fdX1_9 : xFd RX1 9 2 0 true := ⟨RX1, TX1, cfX1, by decide, gw207, rfl, rfl⟩
theorem fdX3_11 : xFd RX3 11 3 0 true := ⟨RX3, TX3, cfX3, by decide, gw133, rfl, rfl⟩
theorem fdX3_18 : xFd RX3 18 3 1 false := ⟨RX3, TX3, cfX3, by decide, gw134, rfl, rfl⟩
theorem fdX3_22 : xFd RX3 22 3 2 false := ⟨RX3, TX3, cfX3, by decide, gw135, rfl, rfl⟩
theorem fdX4_11 : xFd RX4 11 4 0 true := ⟨RX4, TX4, cfX4, by decide, gw194, rfl, rfl⟩
theorem fdX4_15 : xFd RX4 15 4 1 true := ⟨RX4, TX4, cfX4, by decide, gw195, rfl, rfl⟩
theorem fdX6_9 : xFd RX6 9 5 0 true := ⟨RX6, TX6, cfX6, by decide, gw165, rfl, rfl⟩
theorem fdX6_15 : xFd RX6 15 5 1 true := ⟨RX6, TX6, cfX6, by decide, gw166, rfl, rfl⟩
theorem fdX6_18 : xFd RX6 18 5 2 true := ⟨RX6, TX6, cfX6, by decide, gw167, rfl, rfl⟩
theorem fdX6_21 : xFd RX6 21 5 3 false := ⟨RX6, TX6, cfX6, by decide, gw168, rfl, rfl⟩
theorem fdX7_11 : xFd RX7 11 6 0 true := ⟨RX7, TX7, cfX7, by decide, gw151, rfl, rfl⟩
theorem fdX7_17 : xFd RX7 17 6 1 true := ⟨RX7, TX7, cfX7, by decide, gw152, rfl, rfl⟩
theorem fdX8_9 : xFd RX8 9 7 0 true := ⟨RX8, TX8, cfX8, by decide, gw82, rfl, rfl⟩
theorem fdX8_15 : xFd RX8 15 7 1 false := ⟨RX8, TX8, cfX8, by decide, gw83, rfl, rfl⟩
theorem fdX8_19 : xFd RX8 19 7 2 false := ⟨RX8, TX8, cfX8, by decide, gw84, rfl, rfl⟩
theorem fdX8_22 : xFd RX8 22 7 3 false := ⟨RX8, TX8, cfX8, by decide, gw85, rfl, rfl⟩
theorem fdX9_9 : xFd RX9 9 8 0 true := ⟨RX9, TX9, cfX9, by decide, gw184, rfl, rfl⟩
theorem fdX11_7 : xFd RX11 7 10 1 true := ⟨RX11, TX11, cfX11, by decide, gw808, rfl, rfl⟩
theorem fdX11_13 : xFd RX11 13 10 2 true := ⟨RX11, TX11, cfX11, by decide, gw809, rfl, rfl⟩
theorem fdX11_16 : xFd RX11 16 10 3 true := ⟨RX11, TX11, cfX11, by decide, gw810, rfl, rfl⟩
theorem fdX11_19 : xFd RX11 19 10 5 true := ⟨RX11, TX11, cfX11, by decide, gw812, rfl, rfl⟩
theorem fdX11_22 : xFd RX11 22 10 8 true := ⟨RX11, TX11, cfX11, by decide, gw815, rfl, rfl⟩
theorem fdX11_25 : xFd RX11 25 10 11 true := ⟨RX11, TX11, cfX11, by decide, gw818, rfl, rfl⟩
theorem fdX11_28 : xFd RX11 28 10 12 true := ⟨RX11, TX11, cfX11, by decide, gw819, rfl, rfl⟩
theorem fdX11_31 : xFd RX11 31 10 14 true := ⟨RX11, TX11, cfX11, by decide, gw821, rfl, rfl⟩
theorem fdX11_34 : xFd RX11 34 10 15 true := ⟨RX11, TX11, cfX11, by decide, gw822, rfl, rfl⟩
theorem fdX11_37 : xFd RX11 37 10 16 true := ⟨RX11, TX11, cfX11, by decide, gw823, rfl, rfl⟩
theorem fdX11_40 : xFd RX11 40 10 18 true := ⟨RX11, TX11, cfX11, by decide, gw825, rfl, rfl⟩
theorem fdX11_44 : xFd RX11 44 10 19 true := ⟨RX11, TX11, cfX11, by decide, gw826, rfl, rfl⟩
theorem fdX11_74 : xFd RX11 74 10 6 false := ⟨RX11, TX11, cfX11, by decide, gw813, rfl, rfl⟩
theorem fdX11_78 : xFd RX11 78 10 7 false := ⟨RX11, TX11, cfX11, by decide, gw814, rfl, rfl⟩
theorem fdX11_86 : xFd RX11 86 10 4 false := ⟨RX11, TX11, cfX11, by decide, gw811, rfl, rfl⟩
theorem fdX11_115 : xFd RX11 115 10 0 false := ⟨RX11, TX11, cfX11, by decide, gw807, rfl, rfl⟩
theorem fdX11_118 : xFd RX11 118 10 9 false := ⟨RX11, TX11, cfX11, by decide, gw816, rfl, rfl⟩
theorem fdX11_185 : xFd RX11 185 10 10 false := ⟨RX11, TX11, cfX11, by decide, gw817, rfl, rfl⟩
theorem fdX11_240 : xFd RX11 240 10 13 false := ⟨RX11, TX11, cfX11, by decide, gw820, rfl, rfl⟩
theorem fdX11_266 : xFd RX11 266 10 17 false := ⟨RX11, TX11, cfX11, by decide, gw824, rfl, rfl⟩
