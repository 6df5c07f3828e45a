theorem am_tT {w : Cond} (i : Nat) (h : lw_tbl[i]? = some w ∧ goodWord w = true) : w ∈ am_T := List.mem_filter.mpr ⟨List.mem_of_getElem? h.1, h.2⟩
theorem am_tC {w : Cond} (h : w ∈ lw_tbl) (g : goodWord w = true) : w ∈ am_T := List.mem_filter.mpr ⟨h, g⟩
theorem am_in1 : ∀ w ∈ tables_1_1, w ∈ lw_tbl := fun w h => List.mem_append_right _ (List.mem_append_left _ h)
theorem am_in2 : ∀ w ∈ tables_1_2, w ∈ lw_tbl := fun w h => List.mem_append_right _ (List.mem_append_right _ (List.mem_append_left _ h))
theorem am_in3 : ∀ w ∈ tables_1_3, w ∈ lw_tbl := fun w h => List.mem_append_right _ (List.mem_append_right _ (List.mem_append_right _ (List.mem_append_left _ h)))
theorem am_in4 : ∀ w ∈ tables_1_4, w ∈ lw_tbl := fun w h => List.mem_append_right _ (List.mem_append_right _ (List.mem_append_right _ (List.mem_append_right _ (List.mem_append_left _ h))))
theorem am_in5 : ∀ w ∈ tables_1_5, w ∈ lw_tbl := fun w h => List.mem_append_right _ (List.mem_append_right _ (List.mem_append_right _ (List.mem_append_right _ (List.mem_append_right _ (List.mem_append_left _ h)))))
theorem am_in6 : ∀ w ∈ tables_1_6, w ∈ lw_tbl := fun w h => List.mem_append_right _ (List.mem_append_right _ (List.mem_append_right _ (List.mem_append_right _ (List.mem_append_right _ (List.mem_append_right _ (List.mem_append_left _ h))))))
theorem am_in7 : ∀ w ∈ tables_1_7, w ∈ lw_tbl := fun w h => List.mem_append_right _ (List.mem_append_right _ (List.mem_append_right _ (List.mem_append_right _ (List.mem_append_right _ (List.mem_append_right _ (List.mem_append_right _ (h)))))))
abbrev mX0_init : am_M := (yX0_init, prog_2_method_1_code, 4, none)
abbrev mX0_widens : am_M := (yX0_widens, prog_2_method_2_code, 3, (some .int))
abbrev mX0_ends : am_M := (yX0_ends, prog_2_method_3_code, 3, (some .int))
abbrev mX1_init : am_M := (yX1_init, prog_3_method_1_code, 3, none)
abbrev mX1_endsBy : am_M := (yX1_endsBy, prog_3_method_2_code, 3, (some .boolean))
abbrev mX1_goes : am_M := (yX1_goes, prog_3_method_3_code, 3, (some .int))
abbrev mX2_init : am_M := (yX2_init, prog_4_method_1_code, 4, none)
abbrev mX2_pull : am_M := (yX2_pull, prog_4_method_2_code, 3, (some .int))
abbrev mX2_widens : am_M := (yX2_widens, prog_4_method_3_code, 4, (some .int))
abbrev mX2_spreads : am_M := (yX2_spreads, prog_4_method_4_code, 3, (some .int))
abbrev mX2_lifts : am_M := (yX2_lifts, prog_4_method_5_code, 3, (some .int))
abbrev mX2_endsBy : am_M := (yX2_endsBy, prog_4_method_6_code, 3, (some .boolean))
abbrev mX2_goes : am_M := (yX2_goes, prog_4_method_7_code, 3, (some .int))
abbrev mX2_moves : am_M := (yX2_moves, prog_4_method_8_code, 3, (some .int))
abbrev mX2_ends : am_M := (yX2_ends, prog_4_method_9_code, 3, (some .int))
abbrev mX2_tells : am_M := (yX2_tells, prog_4_method_10_code, 3, (some .int))
abbrev mX3_init : am_M := (yX3_init, prog_5_method_1_code, 2, none)
abbrev mX3_become : am_M := (yX3_become, prog_5_method_2_code, 2, none)
abbrev mX3_pace : am_M := (yX3_pace, prog_5_method_3_code, 3, (some .int))
abbrev mX3_trait : am_M := (yX3_trait, prog_5_method_4_code, 2, (some .int))
abbrev mX3_gap : am_M := (yX3_gap, prog_5_method_5_code, 2, (some .int))
abbrev mX3_isNear : am_M := (yX3_isNear, prog_5_method_6_code, 2, (some .boolean))
abbrev mX3_isBehind : am_M := (yX3_isBehind, prog_5_method_7_code, 2, (some .boolean))
abbrev mX4_init : am_M := (yX4_init, prog_6_method_1_code, 2, none)
abbrev mX4_become : am_M := (yX4_become, prog_6_method_2_code, 3, none)
abbrev mX4_takeRings : am_M := (yX4_takeRings, prog_6_method_3_code, 3, none)
abbrev mX4_isFull : am_M := (yX4_isFull, prog_6_method_4_code, 1, (some .boolean))
abbrev mX4_hasRing : am_M := (yX4_hasRing, prog_6_method_5_code, 2, (some .boolean))
abbrev mX4_hasLaw : am_M := (yX4_hasLaw, prog_6_method_6_code, 2, (some .boolean))
abbrev mX4_isOn : am_M := (yX4_isOn, prog_6_method_7_code, 2, (some .boolean))
abbrev mX4_lawOn : am_M := (yX4_lawOn, prog_6_method_8_code, 2, (some (.object "SmokeRings$Law")))
abbrev mX4_addRing : am_M := (yX4_addRing, prog_6_method_9_code, 9, (some .int))
abbrev mX4_addStroke : am_M := (yX4_addStroke, prog_6_method_10_code, 3, (some .int))
abbrev mX4_addLaw : am_M := (yX4_addLaw, prog_6_method_11_code, 3, (some .int))
abbrev mX4_trailing : am_M := (yX4_trailing, prog_6_method_12_code, 2, (some .int))
abbrev mX4_given : am_M := (yX4_given, prog_6_method_13_code, 7, (some .int))
abbrev mX4_foremost : am_M := (yX4_foremost, prog_6_method_14_code, 3, (some .int))
abbrev mX4_wholeCount : am_M := (yX4_wholeCount, prog_6_method_15_code, 3, (some .int))
abbrev mX4_changesOfFront : am_M := (yX4_changesOfFront, prog_6_method_16_code, 7, (some .int))
abbrev mX4_greatestX : am_M := (yX4_greatestX, prog_6_method_17_code, 6, (some .int))
abbrev mX4_tick : am_M := (yX4_tick, prog_6_method_18_code, 2, none)
abbrev mX4_blow : am_M := (yX4_blow, prog_6_method_19_code, 3, none)
abbrev mX4_advance : am_M := (yX4_advance, prog_6_method_20_code, 6, none)
abbrev mX4_widen : am_M := (yX4_widen, prog_6_method_21_code, 7, none)
abbrev mX4_isOther : am_M := (yX4_isOther, prog_6_method_22_code, 2, (some .boolean))
abbrev mX4_endIfDue : am_M := (yX4_endIfDue, prog_6_method_23_code, 6, none)
abbrev mX4_endingLaw : am_M := (yX4_endingLaw, prog_6_method_24_code, 5, (some (.object "SmokeRings$Law")))
abbrev mX4_settle : am_M := (yX4_settle, prog_6_method_25_code, 2, none)
abbrev mX5_init : am_M := (yX5_init, prog_7_method_1_code, 2, none)
abbrev mX5_become : am_M := (yX5_become, prog_7_method_2_code, 2, none)
abbrev mX5_add : am_M := (yX5_add, prog_7_method_3_code, 2, none)
abbrev mX5_has : am_M := (yX5_has, prog_7_method_4_code, 2, (some .boolean))
abbrev mX5_stands : am_M := (yX5_stands, prog_7_method_5_code, 3, (some .boolean))
abbrev mX5_begin : am_M := (yX5_begin, prog_7_method_6_code, 3, none)
abbrev mX5_write : am_M := (yX5_write, prog_7_method_7_code, 3, none)
abbrev mX6_init : am_M := (yX6_init, prog_8_method_1_code, 3, none)
abbrev mX6_spreads : am_M := (yX6_spreads, prog_8_method_2_code, 3, (some .int))
abbrev mX6_lifts : am_M := (yX6_lifts, prog_8_method_3_code, 3, (some .int))
abbrev mX6_ends : am_M := (yX6_ends, prog_8_method_4_code, 3, (some .int))
abbrev mX6_tells : am_M := (yX6_tells, prog_8_method_5_code, 3, (some .int))
abbrev mX7_init : am_M := (yX7_init, prog_9_method_1_code, 1, none)
abbrev mX7_become : am_M := (yX7_become, prog_9_method_2_code, 2, none)
abbrev mX7_read : am_M := (yX7_read, prog_9_method_3_code, 6, (some .int))
abbrev mX7_takesOperand : am_M := (yX7_takesOperand, prog_9_method_4_code, 4, (some .boolean))
abbrev mX7_takesOperator : am_M := (yX7_takesOperator, prog_9_method_5_code, 3, (some .boolean))
abbrev mX7_takesDigit : am_M := (yX7_takesDigit, prog_9_method_6_code, 2, (some .boolean))
abbrev mX7_takesClose : am_M := (yX7_takesClose, prog_9_method_7_code, 1, (some .boolean))
abbrev mX7_isComplete : am_M := (yX7_isComplete, prog_9_method_8_code, 1, (some .boolean))
abbrev mX7_popAbove : am_M := (yX7_popAbove, prog_9_method_9_code, 3, none)
abbrev mX7_pop : am_M := (yX7_pop, prog_9_method_10_code, 1, none)
abbrev mX7_push : am_M := (yX7_push, prog_9_method_11_code, 2, none)
abbrev mX7_append : am_M := (yX7_append, prog_9_method_12_code, 2, none)
abbrev mX7_value : am_M := (yX7_value, prog_9_method_13_code, 6, (some .int))
abbrev mX7_result : am_M := (yX7_result, prog_9_method_14_code, 3, (some .int))
abbrev mX7_rank : am_M := (yX7_rank, prog_9_method_15_code, 1, (some .int))
abbrev mX7_isDigit : am_M := (yX7_isDigit, prog_9_method_16_code, 1, (some .boolean))
abbrev mX8_init : am_M := (yX8_init, prog_10_method_1_code, 3, none)
abbrev mX8_widens : am_M := (yX8_widens, prog_10_method_2_code, 4, (some .int))
abbrev mX8_moves : am_M := (yX8_moves, prog_10_method_3_code, 3, (some .int))
abbrev mX9_init : am_M := (yX9_init, prog_11_method_1_code, 3, none)
abbrev mX9_endsBy : am_M := (yX9_endsBy, prog_11_method_2_code, 3, (some .boolean))
abbrev mX9_goes : am_M := (yX9_goes, prog_11_method_3_code, 3, (some .int))
abbrev mX9_tells : am_M := (yX9_tells, prog_11_method_4_code, 3, (some .int))
abbrev mX10_init : am_M := (yX10_init, prog_12_method_1_code, 4, none)
abbrev mX10_widens : am_M := (yX10_widens, prog_12_method_2_code, 3, (some .int))
abbrev mX10_spreads : am_M := (yX10_spreads, prog_12_method_3_code, 4, (some .int))
abbrev mX10_moves : am_M := (yX10_moves, prog_12_method_4_code, 3, (some .int))
abbrev mX11_init : am_M := (yX11_init, prog_1_method_1_code, 2, none)
abbrev mX11_ring : am_M := (yX11_ring, prog_1_method_2_code, 9, (some .int))
abbrev mX11_ofRing : am_M := (yX11_ofRing, prog_1_method_3_code, 3, (some .int))
abbrev mX11_end : am_M := (yX11_end, prog_1_method_4_code, 3, (some .int))
abbrev mX11_wall : am_M := (yX11_wall, prog_1_method_5_code, 3, (some .int))
abbrev mX11_law : am_M := (yX11_law, prog_1_method_6_code, 3, (some .int))
abbrev mX11_ofLaw : am_M := (yX11_ofLaw, prog_1_method_7_code, 3, (some .int))
abbrev mX11_as : am_M := (yX11_as, prog_1_method_8_code, 3, (some .int))
abbrev mX11_turn : am_M := (yX11_turn, prog_1_method_9_code, 4, (some .int))
abbrev mX11_does : am_M := (yX11_does, prog_1_method_10_code, 8, (some .int))
abbrev mX11_pair : am_M := (yX11_pair, prog_1_method_11_code, 6, (some .int))
abbrev mX11_hole : am_M := (yX11_hole, prog_1_method_12_code, 3, (some .int))
abbrev mX11_stroke : am_M := (yX11_stroke, prog_1_method_13_code, 3, (some .int))
abbrev mX11_trails : am_M := (yX11_trails, prog_1_method_14_code, 2, (some .int))
abbrev mX11_feed : am_M := (yX11_feed, prog_1_method_15_code, 5, (some .int))
abbrev mX11_text : am_M := (yX11_text, prog_1_method_16_code, 3, (some .int))
abbrev mX11_gives : am_M := (yX11_gives, prog_1_method_17_code, 5, (some .int))
abbrev mX11_ticks : am_M := (yX11_ticks, prog_1_method_18_code, 2, (some .int))
abbrev mX11_breeze : am_M := (yX11_breeze, prog_1_method_19_code, 2, (some .int))
abbrev mX11_front : am_M := (yX11_front, prog_1_method_20_code, 2, (some .int))
abbrev mX11_then : am_M := (yX11_then, prog_1_method_21_code, 4, (some .int))
abbrev mX11_whole : am_M := (yX11_whole, prog_1_method_22_code, 2, (some .int))
abbrev mX11_turns : am_M := (yX11_turns, prog_1_method_23_code, 2, (some .int))
abbrev mX11_far : am_M := (yX11_far, prog_1_method_24_code, 3, (some .int))
abbrev mX11_knock : am_M := (yX11_knock, prog_1_method_25_code, 6, (some .int))
abbrev mX11_farthest : am_M := (yX11_farthest, prog_1_method_26_code, 9, (some .int))
abbrev mX11_second : am_M := (yX11_second, prog_1_method_27_code, 5, (some .int))
abbrev mX11_alike : am_M := (yX11_alike, prog_1_method_28_code, 6, (some .int))
abbrev mX11_off : am_M := (yX11_off, prog_1_method_29_code, 3, (some .int))
abbrev mX11_spun : am_M := (yX11_spun, prog_1_method_30_code, 7, (some .int))
abbrev mX11_made : am_M := (yX11_made, prog_1_method_31_code, 7, (some .int))
abbrev mX11_heart : am_M := (yX11_heart, prog_1_method_32_code, 8, (some .int))
abbrev mX11_seed : am_M := (yX11_seed, prog_1_method_33_code, 3, (some .int))
abbrev mX11_voice : am_M := (yX11_voice, prog_1_method_34_code, 5, (some .int))
abbrev mX11_trace : am_M := (yX11_trace, prog_1_method_35_code, 2, (some .int))
abbrev mX11_sheet : am_M := (yX11_sheet, prog_1_method_36_code, 4, (some .int))
abbrev mX11_put : am_M := (yX11_put, prog_1_method_37_code, 4, (some .int))
abbrev mX11_move : am_M := (yX11_move, prog_1_method_38_code, 8, (some .int))
abbrev mX11_film : am_M := (yX11_film, prog_1_method_39_code, 6, (some .int))
abbrev mX11_image : am_M := (yX11_image, prog_1_method_40_code, 1, (some .int))
abbrev mX11_restore : am_M := (yX11_restore, prog_1_method_41_code, 1, (some .int))
abbrev mX11_tell : am_M := (yX11_tell, prog_1_method_42_code, 2, (some .int))
abbrev mX11_check : am_M := (yX11_check, prog_1_method_43_code, 3, (some .int))
abbrev mX11_count : am_M := (yX11_count, prog_1_method_44_code, 2, (some .int))
abbrev mX11_told : am_M := (yX11_told, prog_1_method_45_code, 2, (some .int))
abbrev mX11_error : am_M := (yX11_error, prog_1_method_46_code, 3, (some .int))
abbrev mX11_pass : am_M := (yX11_pass, prog_1_method_47_code, 4, (some .int))
abbrev mX11_goAhead : am_M := (yX11_goAhead, prog_1_method_48_code, 3, none)
abbrev mX11_checked : am_M := (yX11_checked, prog_1_method_49_code, 4, (some .int))
abbrev mX11_filmError : am_M := (yX11_filmError, prog_1_method_50_code, 2, (some .int))
abbrev mX11_offBy : am_M := (yX11_offBy, prog_1_method_51_code, 8, (some .int))
abbrev mX11_isMissing : am_M := (yX11_isMissing, prog_1_method_52_code, 2, (some .boolean))
abbrev mX11_isSheet : am_M := (yX11_isSheet, prog_1_method_53_code, 1, (some .boolean))
abbrev mX11_isAhead : am_M := (yX11_isAhead, prog_1_method_54_code, 1, (some .boolean))
abbrev mX11_isHeld : am_M := (yX11_isHeld, prog_1_method_55_code, 3, (some .boolean))
abbrev mX11_held : am_M := (yX11_held, prog_1_method_56_code, 3, (some .int))
abbrev mX11_asBit : am_M := (yX11_asBit, prog_1_method_57_code, 1, (some .int))
abbrev mX11_quotient : am_M := (yX11_quotient, prog_1_method_58_code, 2, (some .int))
abbrev mX11_makeLaw : am_M := (yX11_makeLaw, prog_1_method_59_code, 3, (some (.object "SmokeRings$Law")))
abbrev mX11_isOfKind : am_M := (yX11_isOfKind, prog_1_method_60_code, 2, (some .boolean))
abbrev mX12_init : am_M := (yX12_init, prog_14_method_1_code, 1, none)
abbrev mX12_finds : am_M := (yX12_finds, prog_14_method_3_code, 2, (some .int))
abbrev mX12_in : am_M := (yX12_in, prog_14_method_4_code, 6, (some .boolean))
abbrev mX12_held : am_M := (yX12_held, prog_14_method_5_code, 4, (some .int))
abbrev mX12_copies : am_M := (yX12_copies, prog_14_method_6_code, 3, none)
abbrev mX12_isRing : am_M := (yX12_isRing, prog_14_method_7_code, 2, (some .boolean))
abbrev mX12_isLaw : am_M := (yX12_isLaw, prog_14_method_8_code, 2, (some .boolean))
abbrev mX12_of : am_M := (yX12_of, prog_14_method_9_code, 3, (some .int))
abbrev mX12_isWhole : am_M := (yX12_isWhole, prog_14_method_10_code, 2, (some .boolean))
abbrev mX12_adds : am_M := (yX12_adds, prog_14_method_11_code, 8, (some .int))
abbrev mX12_ring : am_M := (yX12_ring, prog_14_method_12_code, 8, (some .int))
abbrev mX12_paceOf : am_M := (yX12_paceOf, prog_14_method_13_code, 4, (some .int))
abbrev mX12_ofRing : am_M := (yX12_ofRing, prog_14_method_14_code, 3, (some .int))
abbrev mX12_end : am_M := (yX12_end, prog_14_method_15_code, 3, (some .int))
abbrev mX12_wall : am_M := (yX12_wall, prog_14_method_16_code, 3, (some .int))
abbrev mX12_law : am_M := (yX12_law, prog_14_method_17_code, 3, (some .int))
abbrev mX12_ofLaw : am_M := (yX12_ofLaw, prog_14_method_18_code, 3, (some .int))
abbrev mX12_isOf : am_M := (yX12_isOf, prog_14_method_19_code, 2, (some .boolean))
abbrev mX12_as : am_M := (yX12_as, prog_14_method_20_code, 3, (some .int))
abbrev mX12_turn : am_M := (yX12_turn, prog_14_method_21_code, 4, (some .int))
abbrev mX12_apart : am_M := (yX12_apart, prog_14_method_22_code, 2, (some .int))
abbrev mX12_gap : am_M := (yX12_gap, prog_14_method_23_code, 3, (some .int))
abbrev mX12_areNear : am_M := (yX12_areNear, prog_14_method_24_code, 3, (some .boolean))
abbrev mX12_isBehind : am_M := (yX12_isBehind, prog_14_method_25_code, 5, (some .boolean))
abbrev mX12_widens : am_M := (yX12_widens, prog_14_method_26_code, 8, (some .int))
abbrev mX12_spreads : am_M := (yX12_spreads, prog_14_method_27_code, 6, (some .int))
abbrev mX12_lifts : am_M := (yX12_lifts, prog_14_method_28_code, 3, (some .int))
abbrev mX12_doesEnd : am_M := (yX12_doesEnd, prog_14_method_29_code, 4, (some .boolean))
abbrev mX12_does : am_M := (yX12_does, prog_14_method_30_code, 5, (some .int))
abbrev mX12_pair : am_M := (yX12_pair, prog_14_method_31_code, 4, (some .int))
abbrev mX12_here : am_M := (yX12_here, prog_14_method_32_code, 1, (some .int))
abbrev mX12_wrong : am_M := (yX12_wrong, prog_14_method_33_code, 1, (some .int))
abbrev mX12_takes : am_M := (yX12_takes, prog_14_method_34_code, 2, (some .boolean))
abbrev mX12_nameOf : am_M := (yX12_nameOf, prog_14_method_35_code, 2, (some .int))
abbrev mX12_either : am_M := (yX12_either, prog_14_method_36_code, 3, (some .int))
abbrev mX12_both : am_M := (yX12_both, prog_14_method_37_code, 3, (some .int))
abbrev mX12_compared : am_M := (yX12_compared, prog_14_method_38_code, 4, (some .int))
abbrev mX12_sum : am_M := (yX12_sum, prog_14_method_39_code, 4, (some .int))
abbrev mX12_product : am_M := (yX12_product, prog_14_method_40_code, 4, (some .int))
abbrev mX12_unit : am_M := (yX12_unit, prog_14_method_41_code, 5, (some .int))
abbrev mX12_worked : am_M := (yX12_worked, prog_14_method_42_code, 5, (some .int))
abbrev mX12_feed : am_M := (yX12_feed, prog_14_method_43_code, 5, (some .int))
abbrev mX12_text : am_M := (yX12_text, prog_14_method_44_code, 5, (some .int))
abbrev mX12_givesOf : am_M := (yX12_givesOf, prog_14_method_45_code, 5, (some .int))
abbrev mX12_gives : am_M := (yX12_gives, prog_14_method_46_code, 5, (some .int))
abbrev mX12_hole : am_M := (yX12_hole, prog_14_method_47_code, 3, (some .int))
abbrev mX12_strokes : am_M := (yX12_strokes, prog_14_method_48_code, 4, (some .int))
abbrev mX12_stroke : am_M := (yX12_stroke, prog_14_method_49_code, 3, (some .int))
abbrev mX12_trailsOf : am_M := (yX12_trailsOf, prog_14_method_50_code, 2, (some .int))
abbrev mX12_trails : am_M := (yX12_trails, prog_14_method_51_code, 2, (some .int))
abbrev mX12_goesOn : am_M := (yX12_goesOn, prog_14_method_52_code, 8, none)
abbrev mX12_lawThatEnds : am_M := (yX12_lawThatEnds, prog_14_method_53_code, 5, (some .int))
abbrev mX12_mayEnd : am_M := (yX12_mayEnd, prog_14_method_54_code, 5, none)
abbrev mX12_goesBy : am_M := (yX12_goesBy, prog_14_method_55_code, 4, none)
abbrev mX12_goesAhead : am_M := (yX12_goesAhead, prog_14_method_56_code, 4, none)
abbrev mX12_ticks : am_M := (yX12_ticks, prog_14_method_57_code, 2, (some .int))
abbrev mX12_breeze : am_M := (yX12_breeze, prog_14_method_58_code, 4, (some .int))
abbrev mX12_frontOf : am_M := (yX12_frontOf, prog_14_method_59_code, 3, (some .int))
abbrev mX12_front : am_M := (yX12_front, prog_14_method_60_code, 2, (some .int))
abbrev mX12_isAhead : am_M := (yX12_isAhead, prog_14_method_61_code, 1, (some .boolean))
abbrev mX12_ahead : am_M := (yX12_ahead, prog_14_method_62_code, 2, none)
abbrev mX12_then : am_M := (yX12_then, prog_14_method_63_code, 4, (some .int))
abbrev mX12_wholeIn : am_M := (yX12_wholeIn, prog_14_method_64_code, 3, (some .int))
abbrev mX12_whole : am_M := (yX12_whole, prog_14_method_65_code, 2, (some .int))
abbrev mX12_turnsIn : am_M := (yX12_turnsIn, prog_14_method_66_code, 7, (some .int))
abbrev mX12_turns : am_M := (yX12_turns, prog_14_method_67_code, 2, (some .int))
abbrev mX12_farIn : am_M := (yX12_farIn, prog_14_method_68_code, 6, (some .int))
abbrev mX12_far : am_M := (yX12_far, prog_14_method_69_code, 3, (some .int))
abbrev mX12_knock : am_M := (yX12_knock, prog_14_method_70_code, 5, (some .int))
abbrev mX12_farthest : am_M := (yX12_farthest, prog_14_method_71_code, 10, (some .int))
abbrev mX12_second : am_M := (yX12_second, prog_14_method_72_code, 6, (some .int))
abbrev mX12_alike : am_M := (yX12_alike, prog_14_method_73_code, 6, (some .int))
abbrev mX12_offIn : am_M := (yX12_offIn, prog_14_method_74_code, 9, (some .int))
abbrev mX12_whyNoFilm : am_M := (yX12_whyNoFilm, prog_14_method_75_code, 2, (some .int))
abbrev mX12_off : am_M := (yX12_off, prog_14_method_76_code, 3, (some .int))
abbrev mX12_spun : am_M := (yX12_spun, prog_14_method_77_code, 7, (some .int))
abbrev mX12_made : am_M := (yX12_made, prog_14_method_78_code, 7, (some .int))
abbrev mX12_heart : am_M := (yX12_heart, prog_14_method_79_code, 7, (some .int))
abbrev mX12_seed : am_M := (yX12_seed, prog_14_method_80_code, 3, (some .int))
abbrev mX12_ran : am_M := (yX12_ran, prog_14_method_81_code, 2, none)
abbrev mX12_above : am_M := (yX12_above, prog_14_method_82_code, 1, (some .int))
abbrev mX12_own : am_M := (yX12_own, prog_14_method_83_code, 1, (some .int))
abbrev mX12_toldM : am_M := (yX12_toldM, prog_14_method_84_code, 1, (some .int))
abbrev mX12_goes : am_M := (yX12_goes, prog_14_method_85_code, 3, (some .int))
abbrev mX12_moves : am_M := (yX12_moves, prog_14_method_86_code, 4, (some .int))
abbrev mX12_ends : am_M := (yX12_ends, prog_14_method_87_code, 3, (some .int))
abbrev mX12_tells : am_M := (yX12_tells, prog_14_method_88_code, 4, (some .int))
abbrev mX12_voice : am_M := (yX12_voice, prog_14_method_89_code, 5, (some .int))
abbrev mX12_trace : am_M := (yX12_trace, prog_14_method_90_code, 2, (some .int))
abbrev mX12_isSheet : am_M := (yX12_isSheet, prog_14_method_91_code, 1, (some .boolean))
abbrev mX12_sheet : am_M := (yX12_sheet, prog_14_method_92_code, 5, (some .int))
abbrev mX12_put : am_M := (yX12_put, prog_14_method_93_code, 4, (some .int))
abbrev mX12_move : am_M := (yX12_move, prog_14_method_94_code, 7, (some .int))
abbrev mX12_film : am_M := (yX12_film, prog_14_method_95_code, 5, (some .int))
abbrev mX12_image : am_M := (yX12_image, prog_14_method_96_code, 1, (some .int))
abbrev mX12_restore : am_M := (yX12_restore, prog_14_method_97_code, 1, (some .int))
abbrev mX12_tell : am_M := (yX12_tell, prog_14_method_98_code, 2, (some .int))
abbrev mX12_check : am_M := (yX12_check, prog_14_method_99_code, 5, (some .int))
abbrev mX12_count : am_M := (yX12_count, prog_14_method_100_code, 2, (some .int))
abbrev mX12_told : am_M := (yX12_told, prog_14_method_101_code, 2, (some .int))
abbrev mJ11_isValidCodePoint_9a6ad : am_M := (yJ11_isValidCodePoint_9a6ad, prog_15_method_11_code, 2, (some .boolean))
abbrev mJ11_highSurrogate_5068e : am_M := (yJ11_highSurrogate_5068e, prog_15_method_28_code, 1, (some .char))
abbrev mJ11_lowSurrogate_5068e : am_M := (yJ11_lowSurrogate_5068e, prog_15_method_29_code, 1, (some .char))
abbrev mJ9_abs_0f7a4 : am_M := (yJ9_abs_0f7a4, prog_16_method_59_code, 1, (some .int))
abbrev mJ9_abs_067f4 : am_M := (yJ9_abs_067f4, prog_16_method_61_code, 2, (some .long))
abbrev mJ9_max_7cf53 : am_M := (yJ9_max_7cf53, prog_16_method_65_code, 2, (some .int))
abbrev mJ9_min_7cf53 : am_M := (yJ9_min_7cf53, prog_16_method_69_code, 2, (some .int))
abbrev mJ9_min_f86c9 : am_M := (yJ9_min_f86c9, prog_16_method_70_code, 4, (some .long))
abbrev mJ0_length_8abf5 : am_M := (yJ0_length_8abf5, prog_17_method_54_code, 1, (some .int))
abbrev mJ0_indexOf_0f7a4 : am_M := (yJ0_indexOf_0f7a4, prog_17_method_79_code, 2, (some .int))
abbrev mJ0_indexOf_7cf53 : am_M := (yJ0_indexOf_7cf53, prog_17_method_80_code, 3, (some .int))
abbrev mJ0_coder_7d493 : am_M := (yJ0_coder_7d493, prog_17_method_152_code, 1, (some .byte))
abbrev mJ0_isLatin1_aae02 : am_M := (yJ0_isLatin1_aae02, prog_17_method_154_code, 1, (some .boolean))
abbrev mJ0_checkBoundsBeginEnd_23922 : am_M := (yJ0_checkBoundsBeginEnd_23922, prog_17_method_158_code, 3, none)
abbrev mJ1_canEncode_9a6ad : am_M := (yJ1_canEncode_9a6ad, prog_18_method_4_code, 1, (some .boolean))
abbrev mJ1_indexOf_4cfef : am_M := (yJ1_indexOf_4cfef, prog_18_method_22_code, 4, (some .int))
abbrev mJ1_indexOfChar_4cfef : am_M := (yJ1_indexOfChar_4cfef, prog_18_method_23_code, 6, (some .int))
abbrev mJ2_getChar_3b067 : am_M := (yJ2_getChar_3b067, prog_19_method_5_code, 2, (some .char))
abbrev mJ2_length_9d52b : am_M := (yJ2_length_9d52b, prog_19_method_6_code, 1, (some .int))
abbrev mJ2_indexOf_4cfef : am_M := (yJ2_indexOf_4cfef, prog_19_method_40_code, 4, (some .int))
abbrev mJ2_indexOfChar_4cfef : am_M := (yJ2_indexOfChar_4cfef, prog_19_method_47_code, 4, (some .int))
abbrev mJ2_indexOfCharUnsafe_4cfef : am_M := (yJ2_indexOfCharUnsafe_4cfef, prog_19_method_48_code, 5, (some .int))
abbrev mJ2_indexOfSupplementary_4cfef : am_M := (yJ2_indexOfSupplementary_4cfef, prog_19_method_49_code, 7, (some .int))
abbrev mJ2_checkBoundsBeginEnd_d044e : am_M := (yJ2_checkBoundsBeginEnd_d044e, prog_19_method_93_code, 3, none)
abbrev mJ7_fill_53178 : am_M := (yJ7_fill_53178, prog_21_method_103_code, 4, none)
abbrev mJ3_checkFromToIndex_8c36e : am_M := (yJ3_checkFromToIndex_8c36e, prog_22_method_12_code, 4, (some .int))
abbrev mL_law : am_M := (yL_law, code, 4, some .boolean)
set_option maxRecDepth 100000 in
theorem ce_X0_init : am_Ce mX0_init 3 := ⟨(am_tC (am_in2 _ (List.mem_of_getElem? (i := 96) rfl)) rfl), (am_tT 67 (by decide +kernel)), by decide +kernel⟩
set_option maxRecDepth 100000 in
theorem ce_X0_widens : am_Ce mX0_widens 2 := ⟨(am_tC (am_in2 _ (List.mem_of_getElem? (i := 211) rfl)) rfl), (am_tT 67 (by decide +kernel)), by decide +kernel⟩
set_option maxRecDepth 100000 in
theorem ce_X0_ends : am_Ce mX0_ends 2 := ⟨(am_tC (am_in4 _ (List.mem_of_getElem? (i := 228) rfl)) rfl), (am_tT 67 (by decide +kernel)), by decide +kernel⟩
set_option maxRecDepth 100000 in
theorem ce_X1_init : am_Ce mX1_init 2 := ⟨(am_tC (am_in2 _ (List.mem_of_getElem? (i := 86) rfl)) rfl), (am_tT 66 (by decide +kernel)), by decide +kernel⟩
set_option maxRecDepth 100000 in
theorem ce_X1_endsBy : am_Ce mX1_endsBy 2 := ⟨(am_tC (am_in3 _ (List.mem_of_getElem? (i := 14) rfl)) rfl), (am_tT 66 (by decide +kernel)), by decide +kernel⟩
set_option maxRecDepth 100000 in
theorem ce_X1_goes : am_Ce mX1_goes 2 := ⟨(am_tC (am_in4 _ (List.mem_of_getElem? (i := 185) rfl)) rfl), (am_tT 66 (by decide +kernel)), by decide +kernel⟩
set_option maxRecDepth 100000 in
theorem ce_X2_init : am_Ce mX2_init 3 := ⟨(am_tC (am_in2 _ (List.mem_of_getElem? (i := 60) rfl)) rfl), (am_tT 64 (by decide +kernel)), by decide +kernel⟩
set_option maxRecDepth 100000 in
theorem ce_X2_pull : am_Ce mX2_pull 2 := ⟨(am_tC (am_in2 _ (List.mem_of_getElem? (i := 223) rfl)) rfl), (am_tT 64 (by decide +kernel)), by decide +kernel⟩
set_option maxRecDepth 100000 in
theorem ce_X2_widens : am_Ce mX2_widens 2 := ⟨(am_tC (am_in3 _ (List.mem_of_getElem? (i := 0) rfl)) rfl), (am_tT 64 (by decide +kernel)), by decide +kernel⟩
set_option maxRecDepth 100000 in
theorem ce_X2_spreads : am_Ce mX2_spreads 2 := ⟨(am_tC (am_in2 _ (List.mem_of_getElem? (i := 190) rfl)) rfl), (am_tT 64 (by decide +kernel)), by decide +kernel⟩
set_option maxRecDepth 100000 in
theorem ce_X2_lifts : am_Ce mX2_lifts 2 := ⟨(am_tC (am_in2 _ (List.mem_of_getElem? (i := 204) rfl)) rfl), (am_tT 64 (by decide +kernel)), by decide +kernel⟩
set_option maxRecDepth 100000 in
theorem ce_X2_endsBy : am_Ce mX2_endsBy 2 := ⟨(am_tC (am_in3 _ (List.mem_of_getElem? (i := 25) rfl)) rfl), (am_tT 64 (by decide +kernel)), by decide +kernel⟩
set_option maxRecDepth 100000 in
theorem ce_X2_goes : am_Ce mX2_goes 2 := ⟨(am_tC (am_in4 _ (List.mem_of_getElem? (i := 198) rfl)) rfl), (am_tT 64 (by decide +kernel)), by decide +kernel⟩
set_option maxRecDepth 100000 in
theorem ce_X2_moves : am_Ce mX2_moves 2 := ⟨(am_tC (am_in4 _ (List.mem_of_getElem? (i := 224) rfl)) rfl), (am_tT 64 (by decide +kernel)), by decide +kernel⟩
set_option maxRecDepth 100000 in
theorem ce_X2_ends : am_Ce mX2_ends 2 := ⟨(am_tC (am_in4 _ (List.mem_of_getElem? (i := 221) rfl)) rfl), (am_tT 64 (by decide +kernel)), by decide +kernel⟩
set_option maxRecDepth 100000 in
theorem ce_X2_tells : am_Ce mX2_tells 2 := ⟨(am_tC (am_in5 _ (List.mem_of_getElem? (i := 20) rfl)) rfl), (am_tT 64 (by decide +kernel)), by decide +kernel⟩
set_option maxRecDepth 100000 in
theorem ce_X3_init : am_Ce mX3_init 1 := ⟨(am_tC (am_in1 _ (List.mem_of_getElem? (i := 41) rfl)) rfl), (am_tT 59 (by decide +kernel)), by decide +kernel⟩
set_option maxRecDepth 100000 in
theorem ce_X3_become : am_Ce mX3_become 1 := ⟨(am_tC (am_in4 _ (List.mem_of_getElem? (i := 5) rfl)) rfl), (am_tT 59 (by decide +kernel)), by decide +kernel⟩
set_option maxRecDepth 100000 in
theorem ce_X3_pace : am_Ce mX3_pace 0 := ⟨(am_tC (am_in2 _ (List.mem_of_getElem? (i := 33) rfl)) rfl), (am_tT 59 (by decide +kernel)), by decide +kernel⟩
set_option maxRecDepth 100000 in
theorem ce_X3_trait : am_Ce mX3_trait 1 := ⟨(am_tC (am_in2 _ (List.mem_of_getElem? (i := 26) rfl)) rfl), (am_tT 59 (by decide +kernel)), by decide +kernel⟩
set_option maxRecDepth 100000 in
theorem ce_X3_gap : am_Ce mX3_gap 1 := ⟨(am_tC (am_in2 _ (List.mem_of_getElem? (i := 227) rfl)) rfl), (am_tT 59 (by decide +kernel)), by decide +kernel⟩
set_option maxRecDepth 100000 in
theorem ce_X3_isNear : am_Ce mX3_isNear 1 := ⟨(am_tC (am_in2 _ (List.mem_of_getElem? (i := 215) rfl)) rfl), (am_tT 59 (by decide +kernel)), by decide +kernel⟩
set_option maxRecDepth 100000 in
theorem ce_X3_isBehind : am_Ce mX3_isBehind 1 := ⟨(am_tC (am_in3 _ (List.mem_of_getElem? (i := 6) rfl)) rfl), (am_tT 59 (by decide +kernel)), by decide +kernel⟩
set_option maxRecDepth 100000 in
theorem ce_X4_init : am_Ce mX4_init 0 := ⟨(am_tC (am_in1 _ (List.mem_of_getElem? (i := 34) rfl)) rfl), (am_tT 58 (by decide +kernel)), by decide +kernel⟩
set_option maxRecDepth 100000 in
theorem ce_X4_become : am_Ce mX4_become 1 := ⟨(am_tC (am_in4 _ (List.mem_of_getElem? (i := 73) rfl)) rfl), (am_tT 58 (by decide +kernel)), by decide +kernel⟩
set_option maxRecDepth 100000 in
theorem ce_X4_takeRings : am_Ce mX4_takeRings 1 := ⟨(am_tC (am_in4 _ (List.mem_of_getElem? (i := 77) rfl)) rfl), (am_tT 58 (by decide +kernel)), by decide +kernel⟩
set_option maxRecDepth 100000 in
theorem ce_X4_isFull : am_Ce mX4_isFull 0 := ⟨(am_tC (am_in2 _ (List.mem_of_getElem? (i := 6) rfl)) rfl), (am_tT 58 (by decide +kernel)), by decide +kernel⟩
set_option maxRecDepth 100000 in
theorem ce_X4_hasRing : am_Ce mX4_hasRing 1 := ⟨(am_tC (am_in2 _ (List.mem_of_getElem? (i := 22) rfl)) rfl), (am_tT 58 (by decide +kernel)), by decide +kernel⟩
set_option maxRecDepth 100000 in
theorem ce_X4_hasLaw : am_Ce mX4_hasLaw 1 := ⟨(am_tC (am_in2 _ (List.mem_of_getElem? (i := 150) rfl)) rfl), (am_tT 58 (by decide +kernel)), by decide +kernel⟩
set_option maxRecDepth 100000 in
theorem ce_X4_isOn : am_Ce mX4_isOn 1 := ⟨(am_tC (am_in2 _ (List.mem_of_getElem? (i := 154) rfl)) rfl), (am_tT 58 (by decide +kernel)), by decide +kernel⟩
set_option maxRecDepth 100000 in
theorem ce_X4_lawOn : am_Ce mX4_lawOn 1 := ⟨(am_tC (am_in4 _ (List.mem_of_getElem? (i := 13) rfl)) rfl), (am_tT 58 (by decide +kernel)), by decide +kernel⟩
set_option maxRecDepth 100000 in
theorem ce_X4_addRing : am_Ce mX4_addRing 6 := ⟨(am_tC (am_in2 _ (List.mem_of_getElem? (i := 11) rfl)) rfl), (am_tT 58 (by decide +kernel)), by decide +kernel⟩
set_option maxRecDepth 100000 in
theorem ce_X4_addStroke : am_Ce mX4_addStroke 2 := ⟨(am_tC (am_in3 _ (List.mem_of_getElem? (i := 44) rfl)) rfl), (am_tT 58 (by decide +kernel)), by decide +kernel⟩
set_option maxRecDepth 100000 in
theorem ce_X4_addLaw : am_Ce mX4_addLaw 1 := ⟨(am_tC (am_in2 _ (List.mem_of_getElem? (i := 142) rfl)) rfl), (am_tT 58 (by decide +kernel)), by decide +kernel⟩
set_option maxRecDepth 100000 in
theorem ce_X4_trailing : am_Ce mX4_trailing 1 := ⟨(am_tC (am_in3 _ (List.mem_of_getElem? (i := 73) rfl)) rfl), (am_tT 58 (by decide +kernel)), by decide +kernel⟩
set_option maxRecDepth 100000 in
theorem ce_X4_given : am_Ce mX4_given 4 := ⟨(am_tC (am_in3 _ (List.mem_of_getElem? (i := 48) rfl)) rfl), (am_tT 58 (by decide +kernel)), by decide +kernel⟩
set_option maxRecDepth 100000 in
theorem ce_X4_foremost : am_Ce mX4_foremost 0 := ⟨(am_tC (am_in4 _ (List.mem_of_getElem? (i := 57) rfl)) rfl), (am_tT 58 (by decide +kernel)), by decide +kernel⟩
set_option maxRecDepth 100000 in
theorem ce_X4_wholeCount : am_Ce mX4_wholeCount 0 := ⟨(am_tC (am_in4 _ (List.mem_of_getElem? (i := 92) rfl)) rfl), (am_tT 58 (by decide +kernel)), by decide +kernel⟩
set_option maxRecDepth 100000 in
theorem ce_X4_changesOfFront : am_Ce mX4_changesOfFront 2 := ⟨(am_tC (am_in4 _ (List.mem_of_getElem? (i := 101) rfl)) rfl), (am_tT 58 (by decide +kernel)), by decide +kernel⟩
set_option maxRecDepth 100000 in
theorem ce_X4_greatestX : am_Ce mX4_greatestX 2 := ⟨(am_tC (am_in4 _ (List.mem_of_getElem? (i := 111) rfl)) rfl), (am_tT 58 (by decide +kernel)), by decide +kernel⟩
set_option maxRecDepth 100000 in
theorem ce_X4_tick : am_Ce mX4_tick 0 := ⟨(am_tC (am_in4 _ (List.mem_of_getElem? (i := 1) rfl)) rfl), (am_tT 58 (by decide +kernel)), by decide +kernel⟩
set_option maxRecDepth 100000 in
theorem ce_X4_blow : am_Ce mX4_blow 0 := ⟨(am_tC (am_in4 _ (List.mem_of_getElem? (i := 44) rfl)) rfl), (am_tT 58 (by decide +kernel)), by decide +kernel⟩
set_option maxRecDepth 100000 in
theorem ce_X4_advance : am_Ce mX4_advance 2 := ⟨(am_tC (am_in4 _ (List.mem_of_getElem? (i := 9) rfl)) rfl), (am_tT 58 (by decide +kernel)), by decide +kernel⟩
set_option maxRecDepth 100000 in
theorem ce_X4_widen : am_Ce mX4_widen 2 := ⟨(am_tC (am_in4 _ (List.mem_of_getElem? (i := 21) rfl)) rfl), (am_tT 58 (by decide +kernel)), by decide +kernel⟩
set_option maxRecDepth 100000 in
theorem ce_X4_isOther : am_Ce mX4_isOther 2 := ⟨(am_tC (am_in4 _ (List.mem_of_getElem? (i := 25) rfl)) rfl), (am_tT 58 (by decide +kernel)), by decide +kernel⟩
set_option maxRecDepth 100000 in
theorem ce_X4_endIfDue : am_Ce mX4_endIfDue 1 := ⟨(am_tC (am_in4 _ (List.mem_of_getElem? (i := 30) rfl)) rfl), (am_tT 58 (by decide +kernel)), by decide +kernel⟩
set_option maxRecDepth 100000 in
theorem ce_X4_endingLaw : am_Ce mX4_endingLaw 2 := ⟨(am_tC (am_in4 _ (List.mem_of_getElem? (i := 34) rfl)) rfl), (am_tT 58 (by decide +kernel)), by decide +kernel⟩
set_option maxRecDepth 100000 in
theorem ce_X4_settle : am_Ce mX4_settle 1 := ⟨(am_tC (am_in4 _ (List.mem_of_getElem? (i := 40) rfl)) rfl), (am_tT 58 (by decide +kernel)), by decide +kernel⟩
set_option maxRecDepth 100000 in
theorem ce_X5_init : am_Ce mX5_init 1 := ⟨(am_tC (am_in1 _ (List.mem_of_getElem? (i := 125) rfl)) rfl), (am_tT 61 (by decide +kernel)), by decide +kernel⟩
set_option maxRecDepth 100000 in
theorem ce_X5_become : am_Ce mX5_become 1 := ⟨(am_tC (am_in4 _ (List.mem_of_getElem? (i := 82) rfl)) rfl), (am_tT 61 (by decide +kernel)), by decide +kernel⟩
set_option maxRecDepth 100000 in
theorem ce_X5_add : am_Ce mX5_add 1 := ⟨(am_tC (am_in3 _ (List.mem_of_getElem? (i := 85) rfl)) rfl), (am_tT 61 (by decide +kernel)), by decide +kernel⟩
set_option maxRecDepth 100000 in
theorem ce_X5_has : am_Ce mX5_has 1 := ⟨(am_tC (am_in5 _ (List.mem_of_getElem? (i := 30) rfl)) rfl), (am_tT 61 (by decide +kernel)), by decide +kernel⟩
set_option maxRecDepth 100000 in
theorem ce_X5_stands : am_Ce mX5_stands 2 := ⟨(am_tC (am_in5 _ (List.mem_of_getElem? (i := 58) rfl)) rfl), (am_tT 61 (by decide +kernel)), by decide +kernel⟩
set_option maxRecDepth 100000 in
theorem ce_X5_begin : am_Ce mX5_begin 2 := ⟨(am_tC (am_in5 _ (List.mem_of_getElem? (i := 38) rfl)) rfl), (am_tT 61 (by decide +kernel)), by decide +kernel⟩
set_option maxRecDepth 100000 in
theorem ce_X5_write : am_Ce mX5_write 2 := ⟨(am_tC (am_in5 _ (List.mem_of_getElem? (i := 49) rfl)) rfl), (am_tT 61 (by decide +kernel)), by decide +kernel⟩
set_option maxRecDepth 100000 in
theorem ce_X6_init : am_Ce mX6_init 2 := ⟨(am_tC (am_in2 _ (List.mem_of_getElem? (i := 126) rfl)) rfl), (am_tT 70 (by decide +kernel)), by decide +kernel⟩
set_option maxRecDepth 100000 in
theorem ce_X6_spreads : am_Ce mX6_spreads 2 := ⟨(am_tC (am_in2 _ (List.mem_of_getElem? (i := 179) rfl)) rfl), (am_tT 70 (by decide +kernel)), by decide +kernel⟩
set_option maxRecDepth 100000 in
theorem ce_X6_lifts : am_Ce mX6_lifts 2 := ⟨(am_tC (am_in2 _ (List.mem_of_getElem? (i := 199) rfl)) rfl), (am_tT 70 (by decide +kernel)), by decide +kernel⟩
set_option maxRecDepth 100000 in
theorem ce_X6_ends : am_Ce mX6_ends 2 := ⟨(am_tC (am_in4 _ (List.mem_of_getElem? (i := 232) rfl)) rfl), (am_tT 70 (by decide +kernel)), by decide +kernel⟩
set_option maxRecDepth 100000 in
theorem ce_X6_tells : am_Ce mX6_tells 2 := ⟨(am_tC (am_in5 _ (List.mem_of_getElem? (i := 4) rfl)) rfl), (am_tT 70 (by decide +kernel)), by decide +kernel⟩
set_option maxRecDepth 100000 in
theorem ce_X7_init : am_Ce mX7_init 0 := ⟨(am_tC (am_in1 _ (List.mem_of_getElem? (i := 95) rfl)) rfl), (am_tT 60 (by decide +kernel)), by decide +kernel⟩
set_option maxRecDepth 100000 in
theorem ce_X7_become : am_Ce mX7_become 1 := ⟨(am_tC (am_in3 _ (List.mem_of_getElem? (i := 219) rfl)) rfl), (am_tT 60 (by decide +kernel)), by decide +kernel⟩
set_option maxRecDepth 100000 in
theorem ce_X7_read : am_Ce mX7_read 2 := ⟨(am_tC (am_in3 _ (List.mem_of_getElem? (i := 95) rfl)) rfl), (am_tT 60 (by decide +kernel)), by decide +kernel⟩
set_option maxRecDepth 100000 in
theorem ce_X7_takesOperand : am_Ce mX7_takesOperand 2 := ⟨(am_tC (am_in3 _ (List.mem_of_getElem? (i := 99) rfl)) rfl), (am_tT 60 (by decide +kernel)), by decide +kernel⟩
set_option maxRecDepth 100000 in
theorem ce_X7_takesOperator : am_Ce mX7_takesOperator 1 := ⟨(am_tC (am_in3 _ (List.mem_of_getElem? (i := 192) rfl)) rfl), (am_tT 60 (by decide +kernel)), by decide +kernel⟩
set_option maxRecDepth 100000 in
theorem ce_X7_takesDigit : am_Ce mX7_takesDigit 1 := ⟨(am_tC (am_in3 _ (List.mem_of_getElem? (i := 196) rfl)) rfl), (am_tT 60 (by decide +kernel)), by decide +kernel⟩
set_option maxRecDepth 100000 in
theorem ce_X7_takesClose : am_Ce mX7_takesClose 0 := ⟨(am_tC (am_in3 _ (List.mem_of_getElem? (i := 200) rfl)) rfl), (am_tT 60 (by decide +kernel)), by decide +kernel⟩
set_option maxRecDepth 100000 in
theorem ce_X7_isComplete : am_Ce mX7_isComplete 0 := ⟨(am_tC (am_in3 _ (List.mem_of_getElem? (i := 215) rfl)) rfl), (am_tT 60 (by decide +kernel)), by decide +kernel⟩
set_option maxRecDepth 100000 in
theorem ce_X7_popAbove : am_Ce mX7_popAbove 1 := ⟨(am_tC (am_in3 _ (List.mem_of_getElem? (i := 204) rfl)) rfl), (am_tT 60 (by decide +kernel)), by decide +kernel⟩
set_option maxRecDepth 100000 in
theorem ce_X7_pop : am_Ce mX7_pop 0 := ⟨(am_tC (am_in3 _ (List.mem_of_getElem? (i := 211) rfl)) rfl), (am_tT 60 (by decide +kernel)), by decide +kernel⟩
set_option maxRecDepth 100000 in
theorem ce_X7_push : am_Ce mX7_push 1 := ⟨(am_tC (am_in3 _ (List.mem_of_getElem? (i := 56) rfl)) rfl), (am_tT 60 (by decide +kernel)), by decide +kernel⟩
set_option maxRecDepth 100000 in
theorem ce_X7_append : am_Ce mX7_append 1 := ⟨(am_tC (am_in3 _ (List.mem_of_getElem? (i := 106) rfl)) rfl), (am_tT 60 (by decide +kernel)), by decide +kernel⟩
set_option maxRecDepth 100000 in
theorem ce_X7_value : am_Ce mX7_value 3 := ⟨(am_tC (am_in3 _ (List.mem_of_getElem? (i := 52) rfl)) rfl), (am_tT 60 (by decide +kernel)), by decide +kernel⟩
set_option maxRecDepth 100000 in
theorem ce_X7_result : am_Ce mX7_result 3 := ⟨(am_tC (am_in3 _ (List.mem_of_getElem? (i := 60) rfl)) rfl), (am_tT 60 (by decide +kernel)), by decide +kernel⟩
set_option maxRecDepth 100000 in
theorem ce_X7_rank : am_Ce mX7_rank 1 := ⟨(am_tC (am_in3 _ (List.mem_of_getElem? (i := 207) rfl)) rfl), (am_tT 60 (by decide +kernel)), by decide +kernel⟩
set_option maxRecDepth 100000 in
theorem ce_X7_isDigit : am_Ce mX7_isDigit 1 := ⟨(am_tC (am_in3 _ (List.mem_of_getElem? (i := 102) rfl)) rfl), (am_tT 60 (by decide +kernel)), by decide +kernel⟩
set_option maxRecDepth 100000 in
theorem ce_X8_init : am_Ce mX8_init 2 := ⟨(am_tC (am_in2 _ (List.mem_of_getElem? (i := 57) rfl)) rfl), (am_tT 65 (by decide +kernel)), by decide +kernel⟩
set_option maxRecDepth 100000 in
theorem ce_X8_widens : am_Ce mX8_widens 2 := ⟨(am_tC (am_in2 _ (List.mem_of_getElem? (i := 235) rfl)) rfl), (am_tT 65 (by decide +kernel)), by decide +kernel⟩
set_option maxRecDepth 100000 in
theorem ce_X8_moves : am_Ce mX8_moves 2 := ⟨(am_tC (am_in4 _ (List.mem_of_getElem? (i := 213) rfl)) rfl), (am_tT 65 (by decide +kernel)), by decide +kernel⟩
set_option maxRecDepth 100000 in
theorem ce_X9_init : am_Ce mX9_init 2 := ⟨(am_tC (am_in2 _ (List.mem_of_getElem? (i := 106) rfl)) rfl), (am_tT 68 (by decide +kernel)), by decide +kernel⟩
set_option maxRecDepth 100000 in
theorem ce_X9_endsBy : am_Ce mX9_endsBy 2 := ⟨(am_tC (am_in3 _ (List.mem_of_getElem? (i := 22) rfl)) rfl), (am_tT 68 (by decide +kernel)), by decide +kernel⟩
set_option maxRecDepth 100000 in
theorem ce_X9_goes : am_Ce mX9_goes 2 := ⟨(am_tC (am_in4 _ (List.mem_of_getElem? (i := 192) rfl)) rfl), (am_tT 68 (by decide +kernel)), by decide +kernel⟩
set_option maxRecDepth 100000 in
theorem ce_X9_tells : am_Ce mX9_tells 2 := ⟨(am_tC (am_in5 _ (List.mem_of_getElem? (i := 15) rfl)) rfl), (am_tT 68 (by decide +kernel)), by decide +kernel⟩
set_option maxRecDepth 100000 in
theorem ce_X10_init : am_Ce mX10_init 3 := ⟨(am_tC (am_in2 _ (List.mem_of_getElem? (i := 116) rfl)) rfl), (am_tT 69 (by decide +kernel)), by decide +kernel⟩
set_option maxRecDepth 100000 in
theorem ce_X10_widens : am_Ce mX10_widens 2 := ⟨(am_tC (am_in2 _ (List.mem_of_getElem? (i := 232) rfl)) rfl), (am_tT 69 (by decide +kernel)), by decide +kernel⟩
set_option maxRecDepth 100000 in
theorem ce_X10_spreads : am_Ce mX10_spreads 2 := ⟨(am_tC (am_in2 _ (List.mem_of_getElem? (i := 182) rfl)) rfl), (am_tT 69 (by decide +kernel)), by decide +kernel⟩
set_option maxRecDepth 100000 in
theorem ce_X10_moves : am_Ce mX10_moves 2 := ⟨(am_tC (am_in4 _ (List.mem_of_getElem? (i := 208) rfl)) rfl), (am_tT 69 (by decide +kernel)), by decide +kernel⟩
set_option maxRecDepth 100000 in
theorem ce_X11_init : am_Ce mX11_init 0 := ⟨(am_tC (am_in1 _ (List.mem_of_getElem? (i := 26) rfl)) rfl), (am_tT 57 (by decide +kernel)), by decide +kernel⟩
set_option maxRecDepth 100000 in
theorem ce_X11_ring : am_Ce mX11_ring 4 := ⟨(am_tC (am_in1 _ (List.mem_of_getElem? (i := 230) rfl)) rfl), (am_tT 57 (by decide +kernel)), by decide +kernel⟩
set_option maxRecDepth 100000 in
theorem ce_X11_ofRing : am_Ce mX11_ofRing 2 := ⟨(am_tC (am_in2 _ (List.mem_of_getElem? (i := 18) rfl)) rfl), (am_tT 57 (by decide +kernel)), by decide +kernel⟩
set_option maxRecDepth 100000 in
theorem ce_X11_end : am_Ce mX11_end 1 := ⟨(am_tC (am_in2 _ (List.mem_of_getElem? (i := 40) rfl)) rfl), (am_tT 57 (by decide +kernel)), by decide +kernel⟩
set_option maxRecDepth 100000 in
theorem ce_X11_wall : am_Ce mX11_wall 1 := ⟨(am_tC (am_in2 _ (List.mem_of_getElem? (i := 45) rfl)) rfl), (am_tT 57 (by decide +kernel)), by decide +kernel⟩
set_option maxRecDepth 100000 in
theorem ce_X11_law : am_Ce mX11_law 2 := ⟨(am_tC (am_in2 _ (List.mem_of_getElem? (i := 49) rfl)) rfl), (am_tT 57 (by decide +kernel)), by decide +kernel⟩
set_option maxRecDepth 100000 in
theorem ce_X11_ofLaw : am_Ce mX11_ofLaw 2 := ⟨(am_tC (am_in2 _ (List.mem_of_getElem? (i := 146) rfl)) rfl), (am_tT 57 (by decide +kernel)), by decide +kernel⟩
set_option maxRecDepth 100000 in
theorem ce_X11_as : am_Ce mX11_as 2 := ⟨(am_tC (am_in2 _ (List.mem_of_getElem? (i := 158) rfl)) rfl), (am_tT 57 (by decide +kernel)), by decide +kernel⟩
set_option maxRecDepth 100000 in
theorem ce_X11_turn : am_Ce mX11_turn 2 := ⟨(am_tC (am_in2 _ (List.mem_of_getElem? (i := 166) rfl)) rfl), (am_tT 57 (by decide +kernel)), by decide +kernel⟩
set_option maxRecDepth 100000 in
theorem ce_X11_does : am_Ce mX11_does 4 := ⟨(am_tC (am_in2 _ (List.mem_of_getElem? (i := 170) rfl)) rfl), (am_tT 57 (by decide +kernel)), by decide +kernel⟩
set_option maxRecDepth 100000 in
theorem ce_X11_pair : am_Ce mX11_pair 3 := ⟨(am_tC (am_in3 _ (List.mem_of_getElem? (i := 29) rfl)) rfl), (am_tT 57 (by decide +kernel)), by decide +kernel⟩
set_option maxRecDepth 100000 in
theorem ce_X11_hole : am_Ce mX11_hole 1 := ⟨(am_tC (am_in3 _ (List.mem_of_getElem? (i := 36) rfl)) rfl), (am_tT 57 (by decide +kernel)), by decide +kernel⟩
set_option maxRecDepth 100000 in
theorem ce_X11_stroke : am_Ce mX11_stroke 2 := ⟨(am_tC (am_in3 _ (List.mem_of_getElem? (i := 40) rfl)) rfl), (am_tT 57 (by decide +kernel)), by decide +kernel⟩
set_option maxRecDepth 100000 in
theorem ce_X11_trails : am_Ce mX11_trails 1 := ⟨(am_tC (am_in3 _ (List.mem_of_getElem? (i := 69) rfl)) rfl), (am_tT 57 (by decide +kernel)), by decide +kernel⟩
set_option maxRecDepth 100000 in
theorem ce_X11_feed : am_Ce mX11_feed 2 := ⟨(am_tC (am_in3 _ (List.mem_of_getElem? (i := 80) rfl)) rfl), (am_tT 57 (by decide +kernel)), by decide +kernel⟩
set_option maxRecDepth 100000 in
theorem ce_X11_text : am_Ce mX11_text 1 := ⟨(am_tC (am_in3 _ (List.mem_of_getElem? (i := 89) rfl)) rfl), (am_tT 57 (by decide +kernel)), by decide +kernel⟩
set_option maxRecDepth 100000 in
theorem ce_X11_gives : am_Ce mX11_gives 4 := ⟨(am_tC (am_in3 _ (List.mem_of_getElem? (i := 227) rfl)) rfl), (am_tT 57 (by decide +kernel)), by decide +kernel⟩
set_option maxRecDepth 100000 in
theorem ce_X11_ticks : am_Ce mX11_ticks 1 := ⟨(am_tC (am_in3 _ (List.mem_of_getElem? (i := 232) rfl)) rfl), (am_tT 57 (by decide +kernel)), by decide +kernel⟩
set_option maxRecDepth 100000 in
theorem ce_X11_breeze : am_Ce mX11_breeze 1 := ⟨(am_tC (am_in4 _ (List.mem_of_getElem? (i := 49) rfl)) rfl), (am_tT 57 (by decide +kernel)), by decide +kernel⟩
set_option maxRecDepth 100000 in
theorem ce_X11_front : am_Ce mX11_front 0 := ⟨(am_tC (am_in4 _ (List.mem_of_getElem? (i := 53) rfl)) rfl), (am_tT 57 (by decide +kernel)), by decide +kernel⟩
set_option maxRecDepth 100000 in
theorem ce_X11_then : am_Ce mX11_then 3 := ⟨(am_tC (am_in4 _ (List.mem_of_getElem? (i := 62) rfl)) rfl), (am_tT 57 (by decide +kernel)), by decide +kernel⟩
set_option maxRecDepth 100000 in
theorem ce_X11_whole : am_Ce mX11_whole 1 := ⟨(am_tC (am_in4 _ (List.mem_of_getElem? (i := 88) rfl)) rfl), (am_tT 57 (by decide +kernel)), by decide +kernel⟩
set_option maxRecDepth 100000 in
theorem ce_X11_turns : am_Ce mX11_turns 1 := ⟨(am_tC (am_in4 _ (List.mem_of_getElem? (i := 97) rfl)) rfl), (am_tT 57 (by decide +kernel)), by decide +kernel⟩
set_option maxRecDepth 100000 in
theorem ce_X11_far : am_Ce mX11_far 2 := ⟨(am_tC (am_in4 _ (List.mem_of_getElem? (i := 107) rfl)) rfl), (am_tT 57 (by decide +kernel)), by decide +kernel⟩
set_option maxRecDepth 100000 in
theorem ce_X11_knock : am_Ce mX11_knock 3 := ⟨(am_tC (am_in4 _ (List.mem_of_getElem? (i := 115) rfl)) rfl), (am_tT 57 (by decide +kernel)), by decide +kernel⟩
set_option maxRecDepth 100000 in
theorem ce_X11_farthest : am_Ce mX11_farthest 3 := ⟨(am_tC (am_in4 _ (List.mem_of_getElem? (i := 120) rfl)) rfl), (am_tT 57 (by decide +kernel)), by decide +kernel⟩
set_option maxRecDepth 100000 in
theorem ce_X11_second : am_Ce mX11_second 3 := ⟨(am_tC (am_in4 _ (List.mem_of_getElem? (i := 124) rfl)) rfl), (am_tT 57 (by decide +kernel)), by decide +kernel⟩
set_option maxRecDepth 100000 in
theorem ce_X11_alike : am_Ce mX11_alike 2 := ⟨(am_tC (am_in4 _ (List.mem_of_getElem? (i := 129) rfl)) rfl), (am_tT 57 (by decide +kernel)), by decide +kernel⟩
set_option maxRecDepth 100000 in
theorem ce_X11_off : am_Ce mX11_off 1 := ⟨(am_tC (am_in4 _ (List.mem_of_getElem? (i := 134) rfl)) rfl), (am_tT 57 (by decide +kernel)), by decide +kernel⟩
set_option maxRecDepth 100000 in
theorem ce_X11_spun : am_Ce mX11_spun 1 := ⟨(am_tC (am_in4 _ (List.mem_of_getElem? (i := 161) rfl)) rfl), (am_tT 57 (by decide +kernel)), by decide +kernel⟩
set_option maxRecDepth 100000 in
theorem ce_X11_made : am_Ce mX11_made 1 := ⟨(am_tC (am_in4 _ (List.mem_of_getElem? (i := 165) rfl)) rfl), (am_tT 57 (by decide +kernel)), by decide +kernel⟩
set_option maxRecDepth 100000 in
theorem ce_X11_heart : am_Ce mX11_heart 1 := ⟨(am_tC (am_in4 _ (List.mem_of_getElem? (i := 169) rfl)) rfl), (am_tT 57 (by decide +kernel)), by decide +kernel⟩
set_option maxRecDepth 100000 in
theorem ce_X11_seed : am_Ce mX11_seed 1 := ⟨(am_tC (am_in4 _ (List.mem_of_getElem? (i := 173) rfl)) rfl), (am_tT 57 (by decide +kernel)), by decide +kernel⟩
set_option maxRecDepth 100000 in
theorem ce_X11_voice : am_Ce mX11_voice 3 := ⟨(am_tC (am_in4 _ (List.mem_of_getElem? (i := 177) rfl)) rfl), (am_tT 57 (by decide +kernel)), by decide +kernel⟩
set_option maxRecDepth 100000 in
theorem ce_X11_trace : am_Ce mX11_trace 1 := ⟨(am_tC (am_in5 _ (List.mem_of_getElem? (i := 26) rfl)) rfl), (am_tT 57 (by decide +kernel)), by decide +kernel⟩
set_option maxRecDepth 100000 in
theorem ce_X11_sheet : am_Ce mX11_sheet 3 := ⟨(am_tC (am_in5 _ (List.mem_of_getElem? (i := 34) rfl)) rfl), (am_tT 57 (by decide +kernel)), by decide +kernel⟩
set_option maxRecDepth 100000 in
theorem ce_X11_put : am_Ce mX11_put 3 := ⟨(am_tC (am_in5 _ (List.mem_of_getElem? (i := 45) rfl)) rfl), (am_tT 57 (by decide +kernel)), by decide +kernel⟩
set_option maxRecDepth 100000 in
theorem ce_X11_move : am_Ce mX11_move 5 := ⟨(am_tC (am_in5 _ (List.mem_of_getElem? (i := 54) rfl)) rfl), (am_tT 57 (by decide +kernel)), by decide +kernel⟩
set_option maxRecDepth 100000 in
theorem ce_X11_film : am_Ce mX11_film 1 := ⟨(am_tC (am_in5 _ (List.mem_of_getElem? (i := 63) rfl)) rfl), (am_tT 57 (by decide +kernel)), by decide +kernel⟩
set_option maxRecDepth 100000 in
theorem ce_X11_image : am_Ce mX11_image 0 := ⟨(am_tC (am_in5 _ (List.mem_of_getElem? (i := 67) rfl)) rfl), (am_tT 57 (by decide +kernel)), by decide +kernel⟩
set_option maxRecDepth 100000 in
theorem ce_X11_restore : am_Ce mX11_restore 0 := ⟨(am_tC (am_in5 _ (List.mem_of_getElem? (i := 71) rfl)) rfl), (am_tT 57 (by decide +kernel)), by decide +kernel⟩
set_option maxRecDepth 100000 in
theorem ce_X11_tell : am_Ce mX11_tell 1 := ⟨(am_tC (am_in5 _ (List.mem_of_getElem? (i := 75) rfl)) rfl), (am_tT 57 (by decide +kernel)), by decide +kernel⟩
set_option maxRecDepth 100000 in
theorem ce_X11_check : am_Ce mX11_check 1 := ⟨(am_tC (am_in5 _ (List.mem_of_getElem? (i := 79) rfl)) rfl), (am_tT 57 (by decide +kernel)), by decide +kernel⟩
set_option maxRecDepth 100000 in
theorem ce_X11_count : am_Ce mX11_count 1 := ⟨(am_tC (am_in5 _ (List.mem_of_getElem? (i := 87) rfl)) rfl), (am_tT 57 (by decide +kernel)), by decide +kernel⟩
set_option maxRecDepth 100000 in
theorem ce_X11_told : am_Ce mX11_told 1 := ⟨(am_tC (am_in5 _ (List.mem_of_getElem? (i := 91) rfl)) rfl), (am_tT 57 (by decide +kernel)), by decide +kernel⟩
set_option maxRecDepth 100000 in
theorem ce_X11_error : am_Ce mX11_error 1 := ⟨(am_tC (am_in2 _ (List.mem_of_getElem? (i := 1) rfl)) rfl), (am_tT 57 (by decide +kernel)), by decide +kernel⟩
set_option maxRecDepth 100000 in
theorem ce_X11_pass : am_Ce mX11_pass 2 := ⟨(am_tC (am_in3 _ (List.mem_of_getElem? (i := 236) rfl)) rfl), (am_tT 57 (by decide +kernel)), by decide +kernel⟩
set_option maxRecDepth 100000 in
theorem ce_X11_goAhead : am_Ce mX11_goAhead 1 := ⟨(am_tC (am_in4 _ (List.mem_of_getElem? (i := 69) rfl)) rfl), (am_tT 57 (by decide +kernel)), by decide +kernel⟩
set_option maxRecDepth 100000 in
theorem ce_X11_checked : am_Ce mX11_checked 1 := ⟨(am_tC (am_in5 _ (List.mem_of_getElem? (i := 83) rfl)) rfl), (am_tT 57 (by decide +kernel)), by decide +kernel⟩
set_option maxRecDepth 100000 in
theorem ce_X11_filmError : am_Ce mX11_filmError 1 := ⟨(am_tC (am_in4 _ (List.mem_of_getElem? (i := 138) rfl)) rfl), (am_tT 57 (by decide +kernel)), by decide +kernel⟩
set_option maxRecDepth 100000 in
theorem ce_X11_offBy : am_Ce mX11_offBy 2 := ⟨(am_tC (am_in4 _ (List.mem_of_getElem? (i := 150) rfl)) rfl), (am_tT 57 (by decide +kernel)), by decide +kernel⟩
set_option maxRecDepth 100000 in
theorem ce_X11_isMissing : am_Ce mX11_isMissing 1 := ⟨(am_tC (am_in4 _ (List.mem_of_getElem? (i := 145) rfl)) rfl), (am_tT 57 (by decide +kernel)), by decide +kernel⟩
set_option maxRecDepth 100000 in
theorem ce_X11_isSheet : am_Ce mX11_isSheet 1 := ⟨(am_tC (am_in4 _ (List.mem_of_getElem? (i := 141) rfl)) rfl), (am_tT 57 (by decide +kernel)), by decide +kernel⟩
set_option maxRecDepth 100000 in
theorem ce_X11_isAhead : am_Ce mX11_isAhead 1 := ⟨(am_tC (am_in4 _ (List.mem_of_getElem? (i := 65) rfl)) rfl), (am_tT 57 (by decide +kernel)), by decide +kernel⟩
set_option maxRecDepth 100000 in
theorem ce_X11_isHeld : am_Ce mX11_isHeld 3 := ⟨(am_tC (am_in1 _ (List.mem_of_getElem? (i := 236) rfl)) rfl), (am_tT 57 (by decide +kernel)), by decide +kernel⟩
set_option maxRecDepth 100000 in
theorem ce_X11_held : am_Ce mX11_held 3 := ⟨(am_tC (am_in3 _ (List.mem_of_getElem? (i := 64) rfl)) rfl), (am_tT 57 (by decide +kernel)), by decide +kernel⟩
set_option maxRecDepth 100000 in
theorem ce_X11_asBit : am_Ce mX11_asBit 1 := ⟨(am_tC (am_in2 _ (List.mem_of_getElem? (i := 29) rfl)) rfl), (am_tT 57 (by decide +kernel)), by decide +kernel⟩
set_option maxRecDepth 100000 in
theorem ce_X11_quotient : am_Ce mX11_quotient 2 := ⟨(am_tC (am_in2 _ (List.mem_of_getElem? (i := 36) rfl)) rfl), (am_tT 57 (by decide +kernel)), by decide +kernel⟩
set_option maxRecDepth 100000 in
theorem ce_X11_makeLaw : am_Ce mX11_makeLaw 3 := ⟨(am_tC (am_in2 _ (List.mem_of_getElem? (i := 52) rfl)) rfl), (am_tT 57 (by decide +kernel)), by decide +kernel⟩
set_option maxRecDepth 100000 in
theorem ce_X11_isOfKind : am_Ce mX11_isOfKind 2 := ⟨(am_tC (am_in2 _ (List.mem_of_getElem? (i := 161) rfl)) rfl), (am_tT 57 (by decide +kernel)), by decide +kernel⟩
set_option maxRecDepth 100000 in
theorem ce_X12_init : am_Ce mX12_init 0 := ⟨(am_tC (am_in5 _ (List.mem_of_getElem? (i := 96) rfl)) rfl), (am_tT 62 (by decide +kernel)), by decide +kernel⟩
set_option maxRecDepth 100000 in
theorem ce_X12_finds : am_Ce mX12_finds 1 := ⟨(am_tC (am_in5 _ (List.mem_of_getElem? (i := 180) rfl)) rfl), (am_tT 62 (by decide +kernel)), by decide +kernel⟩
set_option maxRecDepth 100000 in
theorem ce_X12_in : am_Ce mX12_in 3 := ⟨(am_tC (am_in5 _ (List.mem_of_getElem? (i := 172) rfl)) rfl), (am_tT 62 (by decide +kernel)), by decide +kernel⟩
set_option maxRecDepth 100000 in
theorem ce_X12_held : am_Ce mX12_held 3 := ⟨(am_tC (am_in6 _ (List.mem_of_getElem? (i := 93) rfl)) rfl), (am_tT 62 (by decide +kernel)), by decide +kernel⟩
set_option maxRecDepth 100000 in
theorem ce_X12_copies : am_Ce mX12_copies 2 := ⟨(am_tC (am_in6 _ (List.mem_of_getElem? (i := 170) rfl)) rfl), (am_tT 62 (by decide +kernel)), by decide +kernel⟩
set_option maxRecDepth 100000 in
theorem ce_X12_isRing : am_Ce mX12_isRing 1 := ⟨(am_tC (am_in5 _ (List.mem_of_getElem? (i := 192) rfl)) rfl), (am_tT 62 (by decide +kernel)), by decide +kernel⟩
set_option maxRecDepth 100000 in
theorem ce_X12_isLaw : am_Ce mX12_isLaw 1 := ⟨(am_tC (am_in5 _ (List.mem_of_getElem? (i := 221) rfl)) rfl), (am_tT 62 (by decide +kernel)), by decide +kernel⟩
set_option maxRecDepth 100000 in
theorem ce_X12_of : am_Ce mX12_of 3 := ⟨(am_tC (am_in5 _ (List.mem_of_getElem? (i := 199) rfl)) rfl), (am_tT 62 (by decide +kernel)), by decide +kernel⟩
set_option maxRecDepth 100000 in
theorem ce_X12_isWhole : am_Ce mX12_isWhole 2 := ⟨(am_tC (am_in6 _ (List.mem_of_getElem? (i := 130) rfl)) rfl), (am_tT 62 (by decide +kernel)), by decide +kernel⟩
set_option maxRecDepth 100000 in
theorem ce_X12_adds : am_Ce mX12_adds 7 := ⟨(am_tC (am_in5 _ (List.mem_of_getElem? (i := 184) rfl)) rfl), (am_tT 62 (by decide +kernel)), by decide +kernel⟩
set_option maxRecDepth 100000 in
theorem ce_X12_ring : am_Ce mX12_ring 4 := ⟨(am_tC (am_in5 _ (List.mem_of_getElem? (i := 166) rfl)) rfl), (am_tT 62 (by decide +kernel)), by decide +kernel⟩
set_option maxRecDepth 100000 in
theorem ce_X12_paceOf : am_Ce mX12_paceOf 2 := ⟨(am_tC (am_in5 _ (List.mem_of_getElem? (i := 196) rfl)) rfl), (am_tT 62 (by decide +kernel)), by decide +kernel⟩
set_option maxRecDepth 100000 in
theorem ce_X12_ofRing : am_Ce mX12_ofRing 2 := ⟨(am_tC (am_in5 _ (List.mem_of_getElem? (i := 188) rfl)) rfl), (am_tT 62 (by decide +kernel)), by decide +kernel⟩
set_option maxRecDepth 100000 in
theorem ce_X12_end : am_Ce mX12_end 1 := ⟨(am_tC (am_in5 _ (List.mem_of_getElem? (i := 203) rfl)) rfl), (am_tT 62 (by decide +kernel)), by decide +kernel⟩
set_option maxRecDepth 100000 in
theorem ce_X12_wall : am_Ce mX12_wall 1 := ⟨(am_tC (am_in5 _ (List.mem_of_getElem? (i := 207) rfl)) rfl), (am_tT 62 (by decide +kernel)), by decide +kernel⟩
set_option maxRecDepth 100000 in
theorem ce_X12_law : am_Ce mX12_law 2 := ⟨(am_tC (am_in5 _ (List.mem_of_getElem? (i := 211) rfl)) rfl), (am_tT 62 (by decide +kernel)), by decide +kernel⟩
set_option maxRecDepth 100000 in
theorem ce_X12_ofLaw : am_Ce mX12_ofLaw 2 := ⟨(am_tC (am_in5 _ (List.mem_of_getElem? (i := 217) rfl)) rfl), (am_tT 62 (by decide +kernel)), by decide +kernel⟩
set_option maxRecDepth 100000 in
theorem ce_X12_isOf : am_Ce mX12_isOf 2 := ⟨(am_tC (am_in5 _ (List.mem_of_getElem? (i := 229) rfl)) rfl), (am_tT 62 (by decide +kernel)), by decide +kernel⟩
set_option maxRecDepth 100000 in
theorem ce_X12_as : am_Ce mX12_as 2 := ⟨(am_tC (am_in5 _ (List.mem_of_getElem? (i := 226) rfl)) rfl), (am_tT 62 (by decide +kernel)), by decide +kernel⟩
set_option maxRecDepth 100000 in
theorem ce_X12_turn : am_Ce mX12_turn 2 := ⟨(am_tC (am_in5 _ (List.mem_of_getElem? (i := 233) rfl)) rfl), (am_tT 62 (by decide +kernel)), by decide +kernel⟩
set_option maxRecDepth 100000 in
theorem ce_X12_apart : am_Ce mX12_apart 2 := ⟨(am_tC (am_in6 _ (List.mem_of_getElem? (i := 7) rfl)) rfl), (am_tT 62 (by decide +kernel)), by decide +kernel⟩
set_option maxRecDepth 100000 in
theorem ce_X12_gap : am_Ce mX12_gap 3 := ⟨(am_tC (am_in6 _ (List.mem_of_getElem? (i := 4) rfl)) rfl), (am_tT 62 (by decide +kernel)), by decide +kernel⟩
set_option maxRecDepth 100000 in
theorem ce_X12_areNear : am_Ce mX12_areNear 3 := ⟨(am_tC (am_in6 _ (List.mem_of_getElem? (i := 10) rfl)) rfl), (am_tT 62 (by decide +kernel)), by decide +kernel⟩
set_option maxRecDepth 100000 in
theorem ce_X12_isBehind : am_Ce mX12_isBehind 3 := ⟨(am_tC (am_in6 _ (List.mem_of_getElem? (i := 13) rfl)) rfl), (am_tT 62 (by decide +kernel)), by decide +kernel⟩
set_option maxRecDepth 100000 in
theorem ce_X12_widens : am_Ce mX12_widens 4 := ⟨(am_tC (am_in6 _ (List.mem_of_getElem? (i := 1) rfl)) rfl), (am_tT 62 (by decide +kernel)), by decide +kernel⟩
set_option maxRecDepth 100000 in
theorem ce_X12_spreads : am_Ce mX12_spreads 3 := ⟨(am_tC (am_in6 _ (List.mem_of_getElem? (i := 19) rfl)) rfl), (am_tT 62 (by decide +kernel)), by decide +kernel⟩
set_option maxRecDepth 100000 in
theorem ce_X12_lifts : am_Ce mX12_lifts 3 := ⟨(am_tC (am_in6 _ (List.mem_of_getElem? (i := 22) rfl)) rfl), (am_tT 62 (by decide +kernel)), by decide +kernel⟩
set_option maxRecDepth 100000 in
theorem ce_X12_doesEnd : am_Ce mX12_doesEnd 4 := ⟨(am_tC (am_in6 _ (List.mem_of_getElem? (i := 16) rfl)) rfl), (am_tT 62 (by decide +kernel)), by decide +kernel⟩
set_option maxRecDepth 100000 in
theorem ce_X12_does : am_Ce mX12_does 4 := ⟨(am_tC (am_in5 _ (List.mem_of_getElem? (i := 237) rfl)) rfl), (am_tT 62 (by decide +kernel)), by decide +kernel⟩
set_option maxRecDepth 100000 in
theorem ce_X12_pair : am_Ce mX12_pair 3 := ⟨(am_tC (am_in6 _ (List.mem_of_getElem? (i := 26) rfl)) rfl), (am_tT 62 (by decide +kernel)), by decide +kernel⟩
set_option maxRecDepth 100000 in
theorem ce_X12_here : am_Ce mX12_here 0 := ⟨(am_tC (am_in6 _ (List.mem_of_getElem? (i := 68) rfl)) rfl), (am_tT 62 (by decide +kernel)), by decide +kernel⟩
set_option maxRecDepth 100000 in
theorem ce_X12_wrong : am_Ce mX12_wrong 0 := ⟨(am_tC (am_in6 _ (List.mem_of_getElem? (i := 72) rfl)) rfl), (am_tT 62 (by decide +kernel)), by decide +kernel⟩
set_option maxRecDepth 100000 in
theorem ce_X12_takes : am_Ce mX12_takes 1 := ⟨(am_tC (am_in6 _ (List.mem_of_getElem? (i := 76) rfl)) rfl), (am_tT 62 (by decide +kernel)), by decide +kernel⟩
set_option maxRecDepth 100000 in
theorem ce_X12_nameOf : am_Ce mX12_nameOf 1 := ⟨(am_tC (am_in6 _ (List.mem_of_getElem? (i := 80) rfl)) rfl), (am_tT 62 (by decide +kernel)), by decide +kernel⟩
set_option maxRecDepth 100000 in
theorem ce_X12_either : am_Ce mX12_either 0 := ⟨(am_tC (am_in6 _ (List.mem_of_getElem? (i := 44) rfl)) rfl), (am_tT 62 (by decide +kernel)), by decide +kernel⟩
set_option maxRecDepth 100000 in
theorem ce_X12_both : am_Ce mX12_both 0 := ⟨(am_tC (am_in6 _ (List.mem_of_getElem? (i := 48) rfl)) rfl), (am_tT 62 (by decide +kernel)), by decide +kernel⟩
set_option maxRecDepth 100000 in
theorem ce_X12_compared : am_Ce mX12_compared 0 := ⟨(am_tC (am_in6 _ (List.mem_of_getElem? (i := 52) rfl)) rfl), (am_tT 62 (by decide +kernel)), by decide +kernel⟩
set_option maxRecDepth 100000 in
theorem ce_X12_sum : am_Ce mX12_sum 0 := ⟨(am_tC (am_in6 _ (List.mem_of_getElem? (i := 56) rfl)) rfl), (am_tT 62 (by decide +kernel)), by decide +kernel⟩
set_option maxRecDepth 100000 in
theorem ce_X12_product : am_Ce mX12_product 0 := ⟨(am_tC (am_in6 _ (List.mem_of_getElem? (i := 60) rfl)) rfl), (am_tT 62 (by decide +kernel)), by decide +kernel⟩
set_option maxRecDepth 100000 in
theorem ce_X12_unit : am_Ce mX12_unit 0 := ⟨(am_tC (am_in6 _ (List.mem_of_getElem? (i := 64) rfl)) rfl), (am_tT 62 (by decide +kernel)), by decide +kernel⟩
set_option maxRecDepth 100000 in
theorem ce_X12_worked : am_Ce mX12_worked 3 := ⟨(am_tC (am_in6 _ (List.mem_of_getElem? (i := 40) rfl)) rfl), (am_tT 62 (by decide +kernel)), by decide +kernel⟩
set_option maxRecDepth 100000 in
theorem ce_X12_feed : am_Ce mX12_feed 2 := ⟨(am_tC (am_in6 _ (List.mem_of_getElem? (i := 30) rfl)) rfl), (am_tT 62 (by decide +kernel)), by decide +kernel⟩
set_option maxRecDepth 100000 in
theorem ce_X12_text : am_Ce mX12_text 1 := ⟨(am_tC (am_in6 _ (List.mem_of_getElem? (i := 36) rfl)) rfl), (am_tT 62 (by decide +kernel)), by decide +kernel⟩
set_option maxRecDepth 100000 in
theorem ce_X12_givesOf : am_Ce mX12_givesOf 4 := ⟨(am_tC (am_in6 _ (List.mem_of_getElem? (i := 90) rfl)) rfl), (am_tT 62 (by decide +kernel)), by decide +kernel⟩
set_option maxRecDepth 100000 in
theorem ce_X12_gives : am_Ce mX12_gives 4 := ⟨(am_tC (am_in6 _ (List.mem_of_getElem? (i := 86) rfl)) rfl), (am_tT 62 (by decide +kernel)), by decide +kernel⟩
set_option maxRecDepth 100000 in
theorem ce_X12_hole : am_Ce mX12_hole 1 := ⟨(am_tC (am_in6 _ (List.mem_of_getElem? (i := 97) rfl)) rfl), (am_tT 62 (by decide +kernel)), by decide +kernel⟩
set_option maxRecDepth 100000 in
theorem ce_X12_strokes : am_Ce mX12_strokes 3 := ⟨(am_tC (am_in6 _ (List.mem_of_getElem? (i := 106) rfl)) rfl), (am_tT 62 (by decide +kernel)), by decide +kernel⟩
set_option maxRecDepth 100000 in
theorem ce_X12_stroke : am_Ce mX12_stroke 2 := ⟨(am_tC (am_in6 _ (List.mem_of_getElem? (i := 101) rfl)) rfl), (am_tT 62 (by decide +kernel)), by decide +kernel⟩
set_option maxRecDepth 100000 in
theorem ce_X12_trailsOf : am_Ce mX12_trailsOf 1 := ⟨(am_tC (am_in6 _ (List.mem_of_getElem? (i := 114) rfl)) rfl), (am_tT 62 (by decide +kernel)), by decide +kernel⟩
set_option maxRecDepth 100000 in
theorem ce_X12_trails : am_Ce mX12_trails 1 := ⟨(am_tC (am_in6 _ (List.mem_of_getElem? (i := 110) rfl)) rfl), (am_tT 62 (by decide +kernel)), by decide +kernel⟩
set_option maxRecDepth 100000 in
theorem ce_X12_goesOn : am_Ce mX12_goesOn 2 := ⟨(am_tC (am_in6 _ (List.mem_of_getElem? (i := 134) rfl)) rfl), (am_tT 62 (by decide +kernel)), by decide +kernel⟩
set_option maxRecDepth 100000 in
theorem ce_X12_lawThatEnds : am_Ce mX12_lawThatEnds 3 := ⟨(am_tC (am_in6 _ (List.mem_of_getElem? (i := 143) rfl)) rfl), (am_tT 62 (by decide +kernel)), by decide +kernel⟩
set_option maxRecDepth 100000 in
theorem ce_X12_mayEnd : am_Ce mX12_mayEnd 2 := ⟨(am_tC (am_in6 _ (List.mem_of_getElem? (i := 139) rfl)) rfl), (am_tT 62 (by decide +kernel)), by decide +kernel⟩
set_option maxRecDepth 100000 in
theorem ce_X12_goesBy : am_Ce mX12_goesBy 1 := ⟨(am_tC (am_in6 _ (List.mem_of_getElem? (i := 127) rfl)) rfl), (am_tT 62 (by decide +kernel)), by decide +kernel⟩
set_option maxRecDepth 100000 in
theorem ce_X12_goesAhead : am_Ce mX12_goesAhead 2 := ⟨(am_tC (am_in6 _ (List.mem_of_getElem? (i := 123) rfl)) rfl), (am_tT 62 (by decide +kernel)), by decide +kernel⟩
set_option maxRecDepth 100000 in
theorem ce_X12_ticks : am_Ce mX12_ticks 1 := ⟨(am_tC (am_in6 _ (List.mem_of_getElem? (i := 118) rfl)) rfl), (am_tT 62 (by decide +kernel)), by decide +kernel⟩
set_option maxRecDepth 100000 in
theorem ce_X12_breeze : am_Ce mX12_breeze 1 := ⟨(am_tC (am_in6 _ (List.mem_of_getElem? (i := 147) rfl)) rfl), (am_tT 62 (by decide +kernel)), by decide +kernel⟩
set_option maxRecDepth 100000 in
theorem ce_X12_frontOf : am_Ce mX12_frontOf 1 := ⟨(am_tC (am_in6 _ (List.mem_of_getElem? (i := 155) rfl)) rfl), (am_tT 62 (by decide +kernel)), by decide +kernel⟩
set_option maxRecDepth 100000 in
theorem ce_X12_front : am_Ce mX12_front 0 := ⟨(am_tC (am_in6 _ (List.mem_of_getElem? (i := 152) rfl)) rfl), (am_tT 62 (by decide +kernel)), by decide +kernel⟩
set_option maxRecDepth 100000 in
theorem ce_X12_isAhead : am_Ce mX12_isAhead 1 := ⟨(am_tC (am_in6 _ (List.mem_of_getElem? (i := 162) rfl)) rfl), (am_tT 62 (by decide +kernel)), by decide +kernel⟩
set_option maxRecDepth 100000 in
theorem ce_X12_ahead : am_Ce mX12_ahead 1 := ⟨(am_tC (am_in6 _ (List.mem_of_getElem? (i := 167) rfl)) rfl), (am_tT 62 (by decide +kernel)), by decide +kernel⟩
set_option maxRecDepth 100000 in
theorem ce_X12_then : am_Ce mX12_then 3 := ⟨(am_tC (am_in6 _ (List.mem_of_getElem? (i := 159) rfl)) rfl), (am_tT 62 (by decide +kernel)), by decide +kernel⟩
set_option maxRecDepth 100000 in
theorem ce_X12_wholeIn : am_Ce mX12_wholeIn 1 := ⟨(am_tC (am_in6 _ (List.mem_of_getElem? (i := 177) rfl)) rfl), (am_tT 62 (by decide +kernel)), by decide +kernel⟩
set_option maxRecDepth 100000 in
theorem ce_X12_whole : am_Ce mX12_whole 1 := ⟨(am_tC (am_in6 _ (List.mem_of_getElem? (i := 174) rfl)) rfl), (am_tT 62 (by decide +kernel)), by decide +kernel⟩
set_option maxRecDepth 100000 in
theorem ce_X12_turnsIn : am_Ce mX12_turnsIn 2 := ⟨(am_tC (am_in6 _ (List.mem_of_getElem? (i := 185) rfl)) rfl), (am_tT 62 (by decide +kernel)), by decide +kernel⟩
set_option maxRecDepth 100000 in
theorem ce_X12_turns : am_Ce mX12_turns 1 := ⟨(am_tC (am_in6 _ (List.mem_of_getElem? (i := 181) rfl)) rfl), (am_tT 62 (by decide +kernel)), by decide +kernel⟩
set_option maxRecDepth 100000 in
theorem ce_X12_farIn : am_Ce mX12_farIn 3 := ⟨(am_tC (am_in6 _ (List.mem_of_getElem? (i := 193) rfl)) rfl), (am_tT 62 (by decide +kernel)), by decide +kernel⟩
set_option maxRecDepth 100000 in
theorem ce_X12_far : am_Ce mX12_far 2 := ⟨(am_tC (am_in6 _ (List.mem_of_getElem? (i := 189) rfl)) rfl), (am_tT 62 (by decide +kernel)), by decide +kernel⟩
set_option maxRecDepth 100000 in
theorem ce_X12_knock : am_Ce mX12_knock 3 := ⟨(am_tC (am_in6 _ (List.mem_of_getElem? (i := 197) rfl)) rfl), (am_tT 62 (by decide +kernel)), by decide +kernel⟩
set_option maxRecDepth 100000 in
theorem ce_X12_farthest : am_Ce mX12_farthest 3 := ⟨(am_tC (am_in6 _ (List.mem_of_getElem? (i := 201) rfl)) rfl), (am_tT 62 (by decide +kernel)), by decide +kernel⟩
set_option maxRecDepth 100000 in
theorem ce_X12_second : am_Ce mX12_second 3 := ⟨(am_tC (am_in6 _ (List.mem_of_getElem? (i := 207) rfl)) rfl), (am_tT 62 (by decide +kernel)), by decide +kernel⟩
set_option maxRecDepth 100000 in
theorem ce_X12_alike : am_Ce mX12_alike 2 := ⟨(am_tC (am_in6 _ (List.mem_of_getElem? (i := 211) rfl)) rfl), (am_tT 62 (by decide +kernel)), by decide +kernel⟩
set_option maxRecDepth 100000 in
theorem ce_X12_offIn : am_Ce mX12_offIn 2 := ⟨(am_tC (am_in6 _ (List.mem_of_getElem? (i := 226) rfl)) rfl), (am_tT 62 (by decide +kernel)), by decide +kernel⟩
set_option maxRecDepth 100000 in
theorem ce_X12_whyNoFilm : am_Ce mX12_whyNoFilm 1 := ⟨(am_tC (am_in6 _ (List.mem_of_getElem? (i := 219) rfl)) rfl), (am_tT 62 (by decide +kernel)), by decide +kernel⟩
set_option maxRecDepth 100000 in
theorem ce_X12_off : am_Ce mX12_off 1 := ⟨(am_tC (am_in6 _ (List.mem_of_getElem? (i := 215) rfl)) rfl), (am_tT 62 (by decide +kernel)), by decide +kernel⟩
set_option maxRecDepth 100000 in
theorem ce_X12_spun : am_Ce mX12_spun 1 := ⟨(am_tC (am_in6 _ (List.mem_of_getElem? (i := 232) rfl)) rfl), (am_tT 62 (by decide +kernel)), by decide +kernel⟩
set_option maxRecDepth 100000 in
theorem ce_X12_made : am_Ce mX12_made 1 := ⟨(am_tC (am_in6 _ (List.mem_of_getElem? (i := 236) rfl)) rfl), (am_tT 62 (by decide +kernel)), by decide +kernel⟩
set_option maxRecDepth 100000 in
theorem ce_X12_heart : am_Ce mX12_heart 1 := ⟨(am_tC (am_in7 _ (List.mem_of_getElem? (i := 0) rfl)) rfl), (am_tT 62 (by decide +kernel)), by decide +kernel⟩
set_option maxRecDepth 100000 in
theorem ce_X12_seed : am_Ce mX12_seed 1 := ⟨(am_tC (am_in7 _ (List.mem_of_getElem? (i := 5) rfl)) rfl), (am_tT 62 (by decide +kernel)), by decide +kernel⟩
set_option maxRecDepth 100000 in
theorem ce_X12_ran : am_Ce mX12_ran 1 := ⟨(am_tC (am_in7 _ (List.mem_of_getElem? (i := 21) rfl)) rfl), (am_tT 62 (by decide +kernel)), by decide +kernel⟩
set_option maxRecDepth 100000 in
theorem ce_X12_above : am_Ce mX12_above 1 := ⟨(am_tC (am_in7 _ (List.mem_of_getElem? (i := 24) rfl)) rfl), (am_tT 62 (by decide +kernel)), by decide +kernel⟩
set_option maxRecDepth 100000 in
theorem ce_X12_own : am_Ce mX12_own 0 := ⟨(am_tC (am_in7 _ (List.mem_of_getElem? (i := 13) rfl)) rfl), (am_tT 62 (by decide +kernel)), by decide +kernel⟩
set_option maxRecDepth 100000 in
theorem ce_X12_toldM : am_Ce mX12_toldM 0 := ⟨(am_tC (am_in7 _ (List.mem_of_getElem? (i := 36) rfl)) rfl), (am_tT 62 (by decide +kernel)), by decide +kernel⟩
set_option maxRecDepth 100000 in
theorem ce_X12_goes : am_Ce mX12_goes 2 := ⟨(am_tC (am_in7 _ (List.mem_of_getElem? (i := 17) rfl)) rfl), (am_tT 62 (by decide +kernel)), by decide +kernel⟩
set_option maxRecDepth 100000 in
theorem ce_X12_moves : am_Ce mX12_moves 2 := ⟨(am_tC (am_in7 _ (List.mem_of_getElem? (i := 28) rfl)) rfl), (am_tT 62 (by decide +kernel)), by decide +kernel⟩
set_option maxRecDepth 100000 in
theorem ce_X12_ends : am_Ce mX12_ends 2 := ⟨(am_tC (am_in7 _ (List.mem_of_getElem? (i := 32) rfl)) rfl), (am_tT 62 (by decide +kernel)), by decide +kernel⟩
set_option maxRecDepth 100000 in
theorem ce_X12_tells : am_Ce mX12_tells 2 := ⟨(am_tC (am_in7 _ (List.mem_of_getElem? (i := 40) rfl)) rfl), (am_tT 62 (by decide +kernel)), by decide +kernel⟩
set_option maxRecDepth 100000 in
theorem ce_X12_voice : am_Ce mX12_voice 3 := ⟨(am_tC (am_in7 _ (List.mem_of_getElem? (i := 9) rfl)) rfl), (am_tT 62 (by decide +kernel)), by decide +kernel⟩
set_option maxRecDepth 100000 in
theorem ce_X12_trace : am_Ce mX12_trace 1 := ⟨(am_tC (am_in7 _ (List.mem_of_getElem? (i := 44) rfl)) rfl), (am_tT 62 (by decide +kernel)), by decide +kernel⟩
set_option maxRecDepth 100000 in
theorem ce_X12_isSheet : am_Ce mX12_isSheet 1 := ⟨(am_tC (am_in6 _ (List.mem_of_getElem? (i := 222) rfl)) rfl), (am_tT 62 (by decide +kernel)), by decide +kernel⟩
set_option maxRecDepth 100000 in
theorem ce_X12_sheet : am_Ce mX12_sheet 3 := ⟨(am_tC (am_in7 _ (List.mem_of_getElem? (i := 48) rfl)) rfl), (am_tT 62 (by decide +kernel)), by decide +kernel⟩
set_option maxRecDepth 100000 in
theorem ce_X12_put : am_Ce mX12_put 3 := ⟨(am_tC (am_in7 _ (List.mem_of_getElem? (i := 52) rfl)) rfl), (am_tT 62 (by decide +kernel)), by decide +kernel⟩
set_option maxRecDepth 100000 in
theorem ce_X12_move : am_Ce mX12_move 5 := ⟨(am_tC (am_in7 _ (List.mem_of_getElem? (i := 56) rfl)) rfl), (am_tT 62 (by decide +kernel)), by decide +kernel⟩
set_option maxRecDepth 100000 in
theorem ce_X12_film : am_Ce mX12_film 1 := ⟨(am_tC (am_in7 _ (List.mem_of_getElem? (i := 60) rfl)) rfl), (am_tT 62 (by decide +kernel)), by decide +kernel⟩
set_option maxRecDepth 100000 in
theorem ce_X12_image : am_Ce mX12_image 0 := ⟨(am_tC (am_in7 _ (List.mem_of_getElem? (i := 64) rfl)) rfl), (am_tT 62 (by decide +kernel)), by decide +kernel⟩
set_option maxRecDepth 100000 in
theorem ce_X12_restore : am_Ce mX12_restore 0 := ⟨(am_tC (am_in7 _ (List.mem_of_getElem? (i := 68) rfl)) rfl), (am_tT 62 (by decide +kernel)), by decide +kernel⟩
set_option maxRecDepth 100000 in
theorem ce_X12_tell : am_Ce mX12_tell 1 := ⟨(am_tC (am_in7 _ (List.mem_of_getElem? (i := 72) rfl)) rfl), (am_tT 62 (by decide +kernel)), by decide +kernel⟩
set_option maxRecDepth 100000 in
theorem ce_X12_check : am_Ce mX12_check 1 := ⟨(am_tC (am_in7 _ (List.mem_of_getElem? (i := 76) rfl)) rfl), (am_tT 62 (by decide +kernel)), by decide +kernel⟩
set_option maxRecDepth 100000 in
theorem ce_X12_count : am_Ce mX12_count 1 := ⟨(am_tC (am_in7 _ (List.mem_of_getElem? (i := 80) rfl)) rfl), (am_tT 62 (by decide +kernel)), by decide +kernel⟩
set_option maxRecDepth 100000 in
theorem ce_X12_told : am_Ce mX12_told 1 := ⟨(am_tC (am_in7 _ (List.mem_of_getElem? (i := 84) rfl)) rfl), (am_tT 62 (by decide +kernel)), by decide +kernel⟩
set_option maxRecDepth 100000 in
theorem ce_J11_isValidCodePoint_9a6ad : am_Ce mJ11_isValidCodePoint_9a6ad 1 := ⟨(am_tC (am_in3 _ (List.mem_of_getElem? (i := 180) rfl)) rfl), (am_tT 75 (by decide +kernel)), by decide +kernel⟩
set_option maxRecDepth 100000 in
theorem ce_J11_highSurrogate_5068e : am_Ce mJ11_highSurrogate_5068e 1 := ⟨(am_tC (am_in3 _ (List.mem_of_getElem? (i := 183) rfl)) rfl), (am_tT 75 (by decide +kernel)), by decide +kernel⟩
set_option maxRecDepth 100000 in
theorem ce_J11_lowSurrogate_5068e : am_Ce mJ11_lowSurrogate_5068e 1 := ⟨(am_tC (am_in3 _ (List.mem_of_getElem? (i := 187) rfl)) rfl), (am_tT 75 (by decide +kernel)), by decide +kernel⟩
set_option maxRecDepth 100000 in
theorem ce_J9_abs_0f7a4 : am_Ce mJ9_abs_0f7a4 1 := ⟨(am_tC (am_in2 _ (List.mem_of_getElem? (i := 185) rfl)) rfl), (am_tT 63 (by decide +kernel)), by decide +kernel⟩
set_option maxRecDepth 100000 in
theorem ce_J9_abs_067f4 : am_Ce mJ9_abs_067f4 1 := ⟨(am_tC (am_in4 _ (List.mem_of_getElem? (i := 153) rfl)) rfl), (am_tT 63 (by decide +kernel)), by decide +kernel⟩
set_option maxRecDepth 100000 in
theorem ce_J9_max_7cf53 : am_Ce mJ9_max_7cf53 2 := ⟨(am_tC (am_in3 _ (List.mem_of_getElem? (i := 76) rfl)) rfl), (am_tT 63 (by decide +kernel)), by decide +kernel⟩
set_option maxRecDepth 100000 in
theorem ce_J9_min_7cf53 : am_Ce mJ9_min_7cf53 2 := ⟨(am_tC (am_in2 _ (List.mem_of_getElem? (i := 14) rfl)) rfl), (am_tT 63 (by decide +kernel)), by decide +kernel⟩
set_option maxRecDepth 100000 in
theorem ce_J9_min_f86c9 : am_Ce mJ9_min_f86c9 2 := ⟨(am_tC (am_in4 _ (List.mem_of_getElem? (i := 157) rfl)) rfl), (am_tT 63 (by decide +kernel)), by decide +kernel⟩
set_option maxRecDepth 100000 in
theorem ce_J0_length_8abf5 : am_Ce mJ0_length_8abf5 0 := ⟨(am_tC (am_in3 _ (List.mem_of_getElem? (i := 124) rfl)) rfl), (am_tT 71 (by decide +kernel)), by decide +kernel⟩
set_option maxRecDepth 100000 in
theorem ce_J0_indexOf_0f7a4 : am_Ce mJ0_indexOf_0f7a4 1 := ⟨(am_tC (am_in3 _ (List.mem_of_getElem? (i := 110) rfl)) rfl), (am_tT 71 (by decide +kernel)), by decide +kernel⟩
set_option maxRecDepth 100000 in
theorem ce_J0_indexOf_7cf53 : am_Ce mJ0_indexOf_7cf53 2 := ⟨(am_tC (am_in3 _ (List.mem_of_getElem? (i := 114) rfl)) rfl), (am_tT 71 (by decide +kernel)), by decide +kernel⟩
set_option maxRecDepth 100000 in
theorem ce_J0_coder_7d493 : am_Ce mJ0_coder_7d493 0 := ⟨(am_tC (am_in3 _ (List.mem_of_getElem? (i := 128) rfl)) rfl), (am_tT 71 (by decide +kernel)), by decide +kernel⟩
set_option maxRecDepth 100000 in
theorem ce_J0_isLatin1_aae02 : am_Ce mJ0_isLatin1_aae02 0 := ⟨(am_tC (am_in3 _ (List.mem_of_getElem? (i := 118) rfl)) rfl), (am_tT 71 (by decide +kernel)), by decide +kernel⟩
set_option maxRecDepth 100000 in
theorem ce_J0_checkBoundsBeginEnd_23922 : am_Ce mJ0_checkBoundsBeginEnd_23922 3 := ⟨(am_tC (am_in3 _ (List.mem_of_getElem? (i := 157) rfl)) rfl), (am_tT 71 (by decide +kernel)), by decide +kernel⟩
set_option maxRecDepth 100000 in
theorem ce_J1_canEncode_9a6ad : am_Ce mJ1_canEncode_9a6ad 1 := ⟨(am_tC (am_in3 _ (List.mem_of_getElem? (i := 134) rfl)) rfl), (am_tT 72 (by decide +kernel)), by decide +kernel⟩
set_option maxRecDepth 100000 in
theorem ce_J1_indexOf_4cfef : am_Ce mJ1_indexOf_4cfef 4 := ⟨(am_tC (am_in3 _ (List.mem_of_getElem? (i := 131) rfl)) rfl), (am_tT 72 (by decide +kernel)), by decide +kernel⟩
set_option maxRecDepth 100000 in
theorem ce_J1_indexOfChar_4cfef : am_Ce mJ1_indexOfChar_4cfef 4 := ⟨(am_tC (am_in3 _ (List.mem_of_getElem? (i := 139) rfl)) rfl), (am_tT 72 (by decide +kernel)), by decide +kernel⟩
set_option maxRecDepth 100000 in
theorem ce_J2_getChar_3b067 : am_Ce mJ2_getChar_3b067 2 := ⟨(am_tC (am_in3 _ (List.mem_of_getElem? (i := 168) rfl)) rfl), (am_tT 73 (by decide +kernel)), by decide +kernel⟩
set_option maxRecDepth 100000 in
theorem ce_J2_length_9d52b : am_Ce mJ2_length_9d52b 1 := ⟨(am_tC (am_in3 _ (List.mem_of_getElem? (i := 154) rfl)) rfl), (am_tT 73 (by decide +kernel)), by decide +kernel⟩
set_option maxRecDepth 100000 in
theorem ce_J2_indexOf_4cfef : am_Ce mJ2_indexOf_4cfef 4 := ⟨(am_tC (am_in3 _ (List.mem_of_getElem? (i := 142) rfl)) rfl), (am_tT 73 (by decide +kernel)), by decide +kernel⟩
set_option maxRecDepth 100000 in
theorem ce_J2_indexOfChar_4cfef : am_Ce mJ2_indexOfChar_4cfef 4 := ⟨(am_tC (am_in3 _ (List.mem_of_getElem? (i := 148) rfl)) rfl), (am_tT 73 (by decide +kernel)), by decide +kernel⟩
set_option maxRecDepth 100000 in
theorem ce_J2_indexOfCharUnsafe_4cfef : am_Ce mJ2_indexOfCharUnsafe_4cfef 4 := ⟨(am_tC (am_in3 _ (List.mem_of_getElem? (i := 165) rfl)) rfl), (am_tT 73 (by decide +kernel)), by decide +kernel⟩
set_option maxRecDepth 100000 in
theorem ce_J2_indexOfSupplementary_4cfef : am_Ce mJ2_indexOfSupplementary_4cfef 4 := ⟨(am_tC (am_in3 _ (List.mem_of_getElem? (i := 177) rfl)) rfl), (am_tT 73 (by decide +kernel)), by decide +kernel⟩
set_option maxRecDepth 100000 in
theorem ce_J2_checkBoundsBeginEnd_d044e : am_Ce mJ2_checkBoundsBeginEnd_d044e 3 := ⟨(am_tC (am_in3 _ (List.mem_of_getElem? (i := 151) rfl)) rfl), (am_tT 73 (by decide +kernel)), by decide +kernel⟩
set_option maxRecDepth 100000 in
theorem ce_J7_fill_53178 : am_Ce mJ7_fill_53178 2 := ⟨(am_tC (am_in5 _ (List.mem_of_getElem? (i := 41) rfl)) rfl), (am_tT 77 (by decide +kernel)), by decide +kernel⟩
set_option maxRecDepth 100000 in
theorem ce_J3_checkFromToIndex_8c36e : am_Ce mJ3_checkFromToIndex_8c36e 4 := ⟨(am_tC (am_in3 _ (List.mem_of_getElem? (i := 162) rfl)) rfl), (am_tT 74 (by decide +kernel)), by decide +kernel⟩
theorem kc_X4_29 : Cond.constant RX4 29 (99999) ∈ am_T := (am_tT 145 (by decide +kernel))
theorem kc_X11_53 : Cond.constant RX11 53 (100000) ∈ am_T := (am_tT 287 (by decide +kernel))
theorem kc_X11_54 : Cond.constant RX11 54 (-99999) ∈ am_T := (am_tT 288 (by decide +kernel))
theorem kc_X11_55 : Cond.constant RX11 55 (99999) ∈ am_T := (am_tT 289 (by decide +kernel))
theorem kc_X11_60 : Cond.constant RX11 60 (-1000000001) ∈ am_T := (am_tT 293 (by decide +kernel))
theorem kc_X11_322 : Cond.constant RX11 322 (-1000000000) ∈ am_T := (am_tT 298 (by decide +kernel))
theorem kc_X11_69 : Cond.constant RX11 69 (-1000000004) ∈ am_T := (am_tT 303 (by decide +kernel))
theorem kc_X11_131 : Cond.constant RX11 131 (-1000000005) ∈ am_T := (am_tT 458 (by decide +kernel))
theorem kc_X11_177 : Cond.constantLong RX11 177 (255) ∈ am_T := (am_tT 617 (by decide +kernel))
theorem kc_J2_227 : Cond.constant RJ2 227 (65536) ∈ am_T := (am_tT 681 (by decide +kernel))
theorem kc_J11_110 : Cond.constant RJ11 110 (55232) ∈ am_T := (am_tT 720 (by decide +kernel))
theorem kc_J11_76 : Cond.constant RJ11 76 (56320) ∈ am_T := (am_tT 724 (by decide +kernel))
theorem kc_X11_288 : Cond.constant RX11 288 (-1000000003) ∈ am_T := (am_tT 773 (by decide +kernel))
theorem kc_X4_172 : Cond.constant RX4 172 (-99999) ∈ am_T := (am_tT 793 (by decide +kernel))
theorem kc_X4_160 : Cond.constant RX4 160 (1103515245) ∈ am_T := (am_tT 821 (by decide +kernel))
theorem kc_X11_210 : Cond.constant RX11 210 (-1000000002) ∈ am_T := (am_tT 834 (by decide +kernel))
theorem kc_X11_258 : Cond.constant RX11 258 (40000001) ∈ am_T := (am_tT 922 (by decide +kernel))
theorem kc_X11_330 : Cond.constantLong RX11 330 (1000000) ∈ am_T := (am_tT 930 (by decide +kernel))
theorem kc_X12_46 : Cond.constant RX12 46 (99999) ∈ am_T := (am_tT 1114 (by decide +kernel))
theorem kc_X12_52 : Cond.constant RX12 52 (100000) ∈ am_T := (am_tT 1183 (by decide +kernel))
theorem kc_X12_53 : Cond.constantLong RX12 53 (-99999) ∈ am_T := (am_tT 1184 (by decide +kernel))
theorem kc_X12_55 : Cond.constantLong RX12 55 (99999) ∈ am_T := (am_tT 1185 (by decide +kernel))
theorem kc_X12_57 : Cond.constantLong RX12 57 (-999) ∈ am_T := (am_tT 1189 (by decide +kernel))
theorem kc_X12_59 : Cond.constantLong RX12 59 (999) ∈ am_T := (am_tT 1190 (by decide +kernel))
theorem kc_X12_61 : Cond.constantLong RX12 61 (200) ∈ am_T := (am_tT 1191 (by decide +kernel))
theorem kc_X12_63 : Cond.constantLong RX12 63 (50) ∈ am_T := (am_tT 1192 (by decide +kernel))
theorem kc_X12_47 : Cond.constant RX12 47 (-1000000000) ∈ am_T := (am_tT 1197 (by decide +kernel))
theorem kc_X12_81 : Cond.constantLong RX12 81 (7) ∈ am_T := (am_tT 1209 (by decide +kernel))
theorem kc_X12_87 : Cond.constantLong RX12 87 (6) ∈ am_T := (am_tT 1228 (by decide +kernel))
theorem kc_X12_89 : Cond.constantLong RX12 89 (99) ∈ am_T := (am_tT 1229 (by decide +kernel))
theorem kc_X12_94 : Cond.constantLong RX12 94 (2) ∈ am_T := (am_tT 1238 (by decide +kernel))
theorem kc_X12_117 : Cond.constantLong RX12 117 (3) ∈ am_T := (am_tT 1254 (by decide +kernel))
theorem kc_X12_185 : Cond.constantLong RX12 185 (8) ∈ am_T := (am_tT 1287 (by decide +kernel))
theorem kc_X12_187 : Cond.constantLong RX12 187 (255) ∈ am_T := (am_tT 1288 (by decide +kernel))
theorem kc_X12_181 : Cond.constantLong RX12 181 (48) ∈ am_T := (am_tT 1337 (by decide +kernel))
theorem kc_X12_183 : Cond.constantLong RX12 183 (57) ∈ am_T := (am_tT 1338 (by decide +kernel))
theorem kc_X12_201 : Cond.constantLong RX12 201 (400) ∈ am_T := (am_tT 1358 (by decide +kernel))
theorem kc_X12_228 : Cond.constantLong RX12 228 (100) ∈ am_T := (am_tT 1375 (by decide +kernel))
theorem kc_X12_213 : Cond.constant RX12 213 (-99999) ∈ am_T := (am_tT 1391 (by decide +kernel))
theorem kc_X12_233 : Cond.constant RX12 233 (1103515245) ∈ am_T := (am_tT 1404 (by decide +kernel))
theorem kc_X12_238 : Cond.constantLong RX12 238 (60) ∈ am_T := (am_tT 1419 (by decide +kernel))
theorem kc_X12_260 : Cond.constantLong RX12 260 (40) ∈ am_T := (am_tT 1458 (by decide +kernel))
theorem kc_X12_262 : Cond.constantLong RX12 262 (20) ∈ am_T := (am_tT 1459 (by decide +kernel))
theorem kc_X12_264 : Cond.constantLong RX12 264 (1000000) ∈ am_T := (am_tT 1483 (by decide +kernel))
theorem kc_X12_266 : Cond.constant RX12 266 (1000000) ∈ am_T := (am_tT 1484 (by decide +kernel))
theorem kc_X12_276 : Cond.constantLong RX12 276 (9999) ∈ am_T := (am_tT 1497 (by decide +kernel))
theorem kc_X12_311 : Cond.constantLong RX12 311 (5) ∈ am_T := (am_tT 1581 (by decide +kernel))
theorem kc_L_69 : Cond.constantLong RL 69 (4294967295) ∈ am_T := (am_tT 1582 (by decide +kernel))
theorem fl_X3_7_3 : am_Fl RX3 7 3 0 := ⟨_, RX3, rfl, by decide, (am_tT 99 (by decide +kernel)), Or.inl rfl⟩
theorem fl_X4_184_3 : am_Fl RX4 184 3 0 := ⟨_, RX3, rfl, by decide, (am_tT 100 (by decide +kernel)), Or.inl rfl⟩
theorem fl_X3_22_3 : am_Fl RX3 22 3 1 := ⟨_, RX3, rfl, by decide, (am_tT 101 (by decide +kernel)), Or.inl rfl⟩
theorem fl_X10_7_3 : am_Fl RX10 7 3 1 := ⟨_, RX3, rfl, by decide, (am_tT 102 (by decide +kernel)), Or.inl rfl⟩
theorem fl_X4_93_3 : am_Fl RX4 93 3 1 := ⟨_, RX3, rfl, by decide, (am_tT 103 (by decide +kernel)), Or.inl rfl⟩
theorem fl_X11_229_3 : am_Fl RX11 229 3 1 := ⟨_, RX3, rfl, by decide, (am_tT 104 (by decide +kernel)), Or.inl rfl⟩
theorem fl_X3_25_3 : am_Fl RX3 25 3 2 := ⟨_, RX3, rfl, by decide, (am_tT 105 (by decide +kernel)), Or.inl rfl⟩
theorem fl_X4_96_3 : am_Fl RX4 96 3 2 := ⟨_, RX3, rfl, by decide, (am_tT 106 (by decide +kernel)), Or.inl rfl⟩
theorem fl_X3_13_3 : am_Fl RX3 13 3 3 := ⟨_, RX3, rfl, by decide, (am_tT 107 (by decide +kernel)), Or.inl rfl⟩
theorem fl_X0_7_3 : am_Fl RX0 7 3 3 := ⟨_, RX3, rfl, by decide, (am_tT 108 (by decide +kernel)), Or.inl rfl⟩
theorem fl_X2_34_3 : am_Fl RX2 34 3 3 := ⟨_, RX3, rfl, by decide, (am_tT 109 (by decide +kernel)), Or.inl rfl⟩
theorem fl_X4_99_3 : am_Fl RX4 99 3 3 := ⟨_, RX3, rfl, by decide, (am_tT 110 (by decide +kernel)), Or.inl rfl⟩
theorem fl_X2_19_3 : am_Fl RX2 19 3 4 := ⟨_, RX3, rfl, by decide, (am_tT 111 (by decide +kernel)), Or.inl rfl⟩
theorem fl_X3_28_3 : am_Fl RX3 28 3 4 := ⟨_, RX3, rfl, by decide, (am_tT 112 (by decide +kernel)), Or.inl rfl⟩
theorem fl_X10_24_3 : am_Fl RX10 24 3 4 := ⟨_, RX3, rfl, by decide, (am_tT 113 (by decide +kernel)), Or.inl rfl⟩
theorem fl_X4_102_3 : am_Fl RX4 102 3 4 := ⟨_, RX3, rfl, by decide, (am_tT 114 (by decide +kernel)), Or.inl rfl⟩
theorem fl_X11_232_3 : am_Fl RX11 232 3 4 := ⟨_, RX3, rfl, by decide, (am_tT 115 (by decide +kernel)), Or.inl rfl⟩
theorem fl_X3_16_3 : am_Fl RX3 16 3 5 := ⟨_, RX3, rfl, by decide, (am_tT 116 (by decide +kernel)), Or.inl rfl⟩
theorem fl_X9_9_3 : am_Fl RX9 9 3 5 := ⟨_, RX3, rfl, by decide, (am_tT 117 (by decide +kernel)), Or.inl rfl⟩
theorem fl_X4_105_3 : am_Fl RX4 105 3 5 := ⟨_, RX3, rfl, by decide, (am_tT 118 (by decide +kernel)), Or.inl rfl⟩
theorem fl_X11_235_3 : am_Fl RX11 235 3 5 := ⟨_, RX3, rfl, by decide, (am_tT 119 (by decide +kernel)), Or.inl rfl⟩
theorem fl_X3_19_3 : am_Fl RX3 19 3 6 := ⟨_, RX3, rfl, by decide, (am_tT 120 (by decide +kernel)), Or.inl rfl⟩
theorem fl_X8_19_3 : am_Fl RX8 19 3 6 := ⟨_, RX3, rfl, by decide, (am_tT 121 (by decide +kernel)), Or.inl rfl⟩
theorem fl_X4_108_3 : am_Fl RX4 108 3 6 := ⟨_, RX3, rfl, by decide, (am_tT 122 (by decide +kernel)), Or.inl rfl⟩
theorem fl_X3_31_3 : am_Fl RX3 31 3 7 := ⟨_, RX3, rfl, by decide, (am_tT 123 (by decide +kernel)), Or.inl rfl⟩
theorem fl_X11_87_3 : am_Fl RX11 87 3 7 := ⟨_, RX3, rfl, by decide, (am_tT 124 (by decide +kernel)), Or.inl rfl⟩
theorem fl_X4_111_3 : am_Fl RX4 111 3 7 := ⟨_, RX3, rfl, by decide, (am_tT 125 (by decide +kernel)), Or.inl rfl⟩
theorem fl_X7_9_7 : am_Fl RX7 9 7 0 := ⟨_, RX7, rfl, by decide, (am_tT 153 (by decide +kernel)), Or.inl rfl⟩
theorem fl_X7_18_7 : am_Fl RX7 18 7 1 := ⟨_, RX7, rfl, by decide, (am_tT 154 (by decide +kernel)), Or.inl rfl⟩
theorem fl_X4_126_7 : am_Fl RX4 126 7 1 := ⟨_, RX7, rfl, by decide, (am_tT 155 (by decide +kernel)), Or.inl rfl⟩
theorem fl_X7_15_7 : am_Fl RX7 15 7 2 := ⟨_, RX7, rfl, by decide, (am_tT 156 (by decide +kernel)), Or.inl rfl⟩
theorem fl_X7_28_7 : am_Fl RX7 28 7 3 := ⟨_, RX7, rfl, by decide, (am_tT 157 (by decide +kernel)), Or.inl rfl⟩
theorem fl_X7_31_7 : am_Fl RX7 31 7 4 := ⟨_, RX7, rfl, by decide, (am_tT 158 (by decide +kernel)), Or.inl rfl⟩
theorem fl_X7_34_7 : am_Fl RX7 34 7 5 := ⟨_, RX7, rfl, by decide, (am_tT 159 (by decide +kernel)), Or.inl rfl⟩
theorem fl_X7_37_7 : am_Fl RX7 37 7 6 := ⟨_, RX7, rfl, by decide, (am_tT 160 (by decide +kernel)), Or.inl rfl⟩
theorem fl_X5_7_5 : am_Fl RX5 7 5 0 := ⟨_, RX5, rfl, by decide, (am_tT 183 (by decide +kernel)), Or.inl rfl⟩
theorem fl_X7_44_5 : am_Fl RX7 44 5 0 := ⟨_, RX5, rfl, by decide, (am_tT 184 (by decide +kernel)), Or.inl rfl⟩
theorem fl_X11_282_5 : am_Fl RX11 282 5 0 := ⟨_, RX5, rfl, by decide, (am_tT 185 (by decide +kernel)), Or.inl rfl⟩
theorem fl_X5_13_5 : am_Fl RX5 13 5 1 := ⟨_, RX5, rfl, by decide, (am_tT 186 (by decide +kernel)), Or.inl rfl⟩
theorem fl_X7_41_5 : am_Fl RX7 41 5 1 := ⟨_, RX5, rfl, by decide, (am_tT 187 (by decide +kernel)), Or.inl rfl⟩
theorem fl_X11_174_5 : am_Fl RX11 174 5 1 := ⟨_, RX5, rfl, by decide, (am_tT 188 (by decide +kernel)), Or.inl rfl⟩
theorem fl_X5_29_5 : am_Fl RX5 29 5 2 := ⟨_, RX5, rfl, by decide, (am_tT 189 (by decide +kernel)), Or.inl rfl⟩
theorem fl_X11_299_5 : am_Fl RX11 299 5 2 := ⟨_, RX5, rfl, by decide, (am_tT 190 (by decide +kernel)), Or.inl rfl⟩
theorem fl_X4_11_4 : am_Fl RX4 11 4 0 := ⟨_, RX4, rfl, by decide, (am_tT 198 (by decide +kernel)), Or.inl rfl⟩
theorem fl_X11_78_4 : am_Fl RX11 78 4 0 := ⟨_, RX4, rfl, by decide, (am_tT 199 (by decide +kernel)), Or.inl rfl⟩
theorem fl_X4_77_4 : am_Fl RX4 77 4 1 := ⟨_, RX4, rfl, by decide, (am_tT 200 (by decide +kernel)), Or.inl rfl⟩
theorem fl_X11_244_4 : am_Fl RX11 244 4 1 := ⟨_, RX4, rfl, by decide, (am_tT 201 (by decide +kernel)), Or.inl rfl⟩
theorem fl_X4_17_4 : am_Fl RX4 17 4 2 := ⟨_, RX4, rfl, by decide, (am_tT 202 (by decide +kernel)), Or.inl rfl⟩
theorem fl_X4_25_4 : am_Fl RX4 25 4 3 := ⟨_, RX4, rfl, by decide, (am_tT 203 (by decide +kernel)), Or.inl rfl⟩
theorem fl_X11_112_4 : am_Fl RX11 112 4 3 := ⟨_, RX4, rfl, by decide, (am_tT 204 (by decide +kernel)), Or.inl rfl⟩
theorem fl_X4_61_4 : am_Fl RX4 61 4 4 := ⟨_, RX4, rfl, by decide, (am_tT 205 (by decide +kernel)), Or.inl rfl⟩
theorem fl_X11_98_4 : am_Fl RX11 98 4 4 := ⟨_, RX4, rfl, by decide, (am_tT 206 (by decide +kernel)), Or.inl rfl⟩
theorem fl_X4_64_4 : am_Fl RX4 64 4 5 := ⟨_, RX4, rfl, by decide, (am_tT 207 (by decide +kernel)), Or.inl rfl⟩
theorem fl_X11_132_4 : am_Fl RX11 132 4 5 := ⟨_, RX4, rfl, by decide, (am_tT 208 (by decide +kernel)), Or.inl rfl⟩
theorem fl_X4_30_4 : am_Fl RX4 30 4 6 := ⟨_, RX4, rfl, by decide, (am_tT 209 (by decide +kernel)), Or.inl rfl⟩
theorem fl_X11_95_4 : am_Fl RX11 95 4 6 := ⟨_, RX4, rfl, by decide, (am_tT 210 (by decide +kernel)), Or.inl rfl⟩
theorem fl_X4_34_4 : am_Fl RX4 34 4 7 := ⟨_, RX4, rfl, by decide, (am_tT 211 (by decide +kernel)), Or.inl rfl⟩
theorem fl_X11_161_4 : am_Fl RX11 161 4 7 := ⟨_, RX4, rfl, by decide, (am_tT 212 (by decide +kernel)), Or.inl rfl⟩
theorem fl_X4_67_4 : am_Fl RX4 67 4 8 := ⟨_, RX4, rfl, by decide, (am_tT 213 (by decide +kernel)), Or.inl rfl⟩
theorem fl_X11_312_4 : am_Fl RX11 312 4 8 := ⟨_, RX4, rfl, by decide, (am_tT 214 (by decide +kernel)), Or.inl rfl⟩
theorem fl_X4_37_4 : am_Fl RX4 37 4 9 := ⟨_, RX4, rfl, by decide, (am_tT 215 (by decide +kernel)), Or.inl rfl⟩
theorem fl_X11_263_4 : am_Fl RX11 263 4 9 := ⟨_, RX4, rfl, by decide, (am_tT 216 (by decide +kernel)), Or.inl rfl⟩
theorem fl_X4_42_4 : am_Fl RX4 42 4 10 := ⟨_, RX4, rfl, by decide, (am_tT 217 (by decide +kernel)), Or.inl rfl⟩
theorem fl_X11_190_4 : am_Fl RX11 190 4 10 := ⟨_, RX4, rfl, by decide, (am_tT 218 (by decide +kernel)), Or.inl rfl⟩
theorem fl_X4_50_4 : am_Fl RX4 50 4 11 := ⟨_, RX4, rfl, by decide, (am_tT 219 (by decide +kernel)), Or.inl rfl⟩
theorem fl_X11_171_4 : am_Fl RX11 171 4 11 := ⟨_, RX4, rfl, by decide, (am_tT 220 (by decide +kernel)), Or.inl rfl⟩
theorem fl_X4_54_4 : am_Fl RX4 54 4 12 := ⟨_, RX4, rfl, by decide, (am_tT 221 (by decide +kernel)), Or.inl rfl⟩
theorem fl_X11_315_4 : am_Fl RX11 315 4 12 := ⟨_, RX4, rfl, by decide, (am_tT 222 (by decide +kernel)), Or.inl rfl⟩
theorem fl_X11_12_11 : am_Fl RX11 12 11 0 := ⟨_, RX11, rfl, by decide, (am_tT 255 (by decide +kernel)), Or.inl rfl⟩
theorem fl_X11_16_11 : am_Fl RX11 16 11 1 := ⟨_, RX11, rfl, by decide, (am_tT 256 (by decide +kernel)), Or.inl rfl⟩
theorem fl_X11_19_11 : am_Fl RX11 19 11 2 := ⟨_, RX11, rfl, by decide, (am_tT 257 (by decide +kernel)), Or.inl rfl⟩
theorem fl_X11_22_11 : am_Fl RX11 22 11 3 := ⟨_, RX11, rfl, by decide, (am_tT 258 (by decide +kernel)), Or.inl rfl⟩
theorem fl_X11_25_11 : am_Fl RX11 25 11 4 := ⟨_, RX11, rfl, by decide, (am_tT 259 (by decide +kernel)), Or.inl rfl⟩
theorem fl_X11_31_11 : am_Fl RX11 31 11 5 := ⟨_, RX11, rfl, by decide, (am_tT 260 (by decide +kernel)), Or.inl rfl⟩
theorem fl_X11_38_11 : am_Fl RX11 38 11 6 := ⟨_, RX11, rfl, by decide, (am_tT 261 (by decide +kernel)), Or.inl rfl⟩
theorem fl_X11_45_11 : am_Fl RX11 45 11 7 := ⟨_, RX11, rfl, by decide, (am_tT 262 (by decide +kernel)), Or.inl rfl⟩
theorem fl_X11_49_11 : am_Fl RX11 49 11 8 := ⟨_, RX11, rfl, by decide, (am_tT 263 (by decide +kernel)), Or.inl rfl⟩
theorem fl_X2_7_0 : am_Fl RX2 7 0 0 := ⟨_, RX2, rfl, by decide, (am_tT 358 (by decide +kernel)), Or.inl rfl⟩
theorem fl_X2_7_1 : am_Fl RX2 7 1 0 := ⟨_, RX2, rfl, by decide, (am_tT 358 (by decide +kernel)), Or.inl rfl⟩
theorem fl_X2_7_2 : am_Fl RX2 7 2 0 := ⟨_, RX2, rfl, by decide, (am_tT 358 (by decide +kernel)), Or.inl rfl⟩
theorem fl_X2_7_6 : am_Fl RX2 7 6 0 := ⟨_, RX2, rfl, by decide, (am_tT 358 (by decide +kernel)), Or.inl rfl⟩
theorem fl_X2_7_8 : am_Fl RX2 7 8 0 := ⟨_, RX2, rfl, by decide, (am_tT 358 (by decide +kernel)), Or.inl rfl⟩
theorem fl_X2_7_9 : am_Fl RX2 7 9 0 := ⟨_, RX2, rfl, by decide, (am_tT 358 (by decide +kernel)), Or.inl rfl⟩
theorem fl_X2_7_10 : am_Fl RX2 7 10 0 := ⟨_, RX2, rfl, by decide, (am_tT 358 (by decide +kernel)), Or.inl rfl⟩
theorem fl_X11_116_0 : am_Fl RX11 116 0 0 := ⟨_, RX2, rfl, by decide, (am_tT 359 (by decide +kernel)), Or.inl rfl⟩
theorem fl_X11_116_1 : am_Fl RX11 116 1 0 := ⟨_, RX2, rfl, by decide, (am_tT 359 (by decide +kernel)), Or.inl rfl⟩
theorem fl_X11_116_2 : am_Fl RX11 116 2 0 := ⟨_, RX2, rfl, by decide, (am_tT 359 (by decide +kernel)), Or.inl rfl⟩
theorem fl_X11_116_6 : am_Fl RX11 116 6 0 := ⟨_, RX2, rfl, by decide, (am_tT 359 (by decide +kernel)), Or.inl rfl⟩
theorem fl_X11_116_8 : am_Fl RX11 116 8 0 := ⟨_, RX2, rfl, by decide, (am_tT 359 (by decide +kernel)), Or.inl rfl⟩
theorem fl_X11_116_9 : am_Fl RX11 116 9 0 := ⟨_, RX2, rfl, by decide, (am_tT 359 (by decide +kernel)), Or.inl rfl⟩
theorem fl_X11_116_10 : am_Fl RX11 116 10 0 := ⟨_, RX2, rfl, by decide, (am_tT 359 (by decide +kernel)), Or.inl rfl⟩
theorem fl_X2_13_0 : am_Fl RX2 13 0 1 := ⟨_, RX2, rfl, by decide, (am_tT 360 (by decide +kernel)), Or.inl rfl⟩
theorem fl_X2_13_1 : am_Fl RX2 13 1 1 := ⟨_, RX2, rfl, by decide, (am_tT 360 (by decide +kernel)), Or.inl rfl⟩
theorem fl_X2_13_2 : am_Fl RX2 13 2 1 := ⟨_, RX2, rfl, by decide, (am_tT 360 (by decide +kernel)), Or.inl rfl⟩
theorem fl_X2_13_6 : am_Fl RX2 13 6 1 := ⟨_, RX2, rfl, by decide, (am_tT 360 (by decide +kernel)), Or.inl rfl⟩
theorem fl_X2_13_8 : am_Fl RX2 13 8 1 := ⟨_, RX2, rfl, by decide, (am_tT 360 (by decide +kernel)), Or.inl rfl⟩
theorem fl_X2_13_9 : am_Fl RX2 13 9 1 := ⟨_, RX2, rfl, by decide, (am_tT 360 (by decide +kernel)), Or.inl rfl⟩
theorem fl_X2_13_10 : am_Fl RX2 13 10 1 := ⟨_, RX2, rfl, by decide, (am_tT 360 (by decide +kernel)), Or.inl rfl⟩
theorem fl_X10_43_6 : am_Fl RX10 43 6 1 := ⟨_, RX10, rfl, by decide, (am_tT 361 (by decide +kernel)), Or.inr (am_tT 362 (by decide +kernel))⟩
theorem fl_X10_43_10 : am_Fl RX10 43 10 1 := ⟨_, RX10, rfl, by decide, (am_tT 361 (by decide +kernel)), Or.inr (am_tT 362 (by decide +kernel))⟩
theorem fl_X2_16_0 : am_Fl RX2 16 0 2 := ⟨_, RX2, rfl, by decide, (am_tT 363 (by decide +kernel)), Or.inl rfl⟩
theorem fl_X2_16_1 : am_Fl RX2 16 1 2 := ⟨_, RX2, rfl, by decide, (am_tT 363 (by decide +kernel)), Or.inl rfl⟩
theorem fl_X2_16_2 : am_Fl RX2 16 2 2 := ⟨_, RX2, rfl, by decide, (am_tT 363 (by decide +kernel)), Or.inl rfl⟩
theorem fl_X2_16_6 : am_Fl RX2 16 6 2 := ⟨_, RX2, rfl, by decide, (am_tT 363 (by decide +kernel)), Or.inl rfl⟩
theorem fl_X2_16_8 : am_Fl RX2 16 8 2 := ⟨_, RX2, rfl, by decide, (am_tT 363 (by decide +kernel)), Or.inl rfl⟩
theorem fl_X2_16_9 : am_Fl RX2 16 9 2 := ⟨_, RX2, rfl, by decide, (am_tT 363 (by decide +kernel)), Or.inl rfl⟩
theorem fl_X2_16_10 : am_Fl RX2 16 10 2 := ⟨_, RX2, rfl, by decide, (am_tT 363 (by decide +kernel)), Or.inl rfl⟩
theorem fl_X1_19_1 : am_Fl RX1 19 1 2 := ⟨_, RX1, rfl, by decide, (am_tT 364 (by decide +kernel)), Or.inr (am_tT 365 (by decide +kernel))⟩
theorem fl_X10_19_6 : am_Fl RX10 19 6 2 := ⟨_, RX10, rfl, by decide, (am_tT 366 (by decide +kernel)), Or.inr (am_tT 367 (by decide +kernel))⟩
theorem fl_X10_19_10 : am_Fl RX10 19 10 2 := ⟨_, RX10, rfl, by decide, (am_tT 366 (by decide +kernel)), Or.inr (am_tT 367 (by decide +kernel))⟩
theorem fl_X6_26_6 : am_Fl RX6 26 6 2 := ⟨_, RX6, rfl, by decide, (am_tT 368 (by decide +kernel)), Or.inr (am_tT 369 (by decide +kernel))⟩
theorem fl_X11_121_0 : am_Fl RX11 121 0 2 := ⟨_, RX2, rfl, by decide, (am_tT 370 (by decide +kernel)), Or.inl rfl⟩
theorem fl_X11_121_1 : am_Fl RX11 121 1 2 := ⟨_, RX2, rfl, by decide, (am_tT 370 (by decide +kernel)), Or.inl rfl⟩
theorem fl_X11_121_2 : am_Fl RX11 121 2 2 := ⟨_, RX2, rfl, by decide, (am_tT 370 (by decide +kernel)), Or.inl rfl⟩
theorem fl_X11_121_6 : am_Fl RX11 121 6 2 := ⟨_, RX2, rfl, by decide, (am_tT 370 (by decide +kernel)), Or.inl rfl⟩
theorem fl_X11_121_8 : am_Fl RX11 121 8 2 := ⟨_, RX2, rfl, by decide, (am_tT 370 (by decide +kernel)), Or.inl rfl⟩
theorem fl_X11_121_9 : am_Fl RX11 121 9 2 := ⟨_, RX2, rfl, by decide, (am_tT 370 (by decide +kernel)), Or.inl rfl⟩
theorem fl_X11_121_10 : am_Fl RX11 121 10 2 := ⟨_, RX2, rfl, by decide, (am_tT 370 (by decide +kernel)), Or.inl rfl⟩
theorem fl_X12_7_12 : am_Fl RX12 7 12 0 := ⟨_, RX12, rfl, by decide, (am_tT 1115 (by decide +kernel)), Or.inl rfl⟩
theorem fl_X12_13_12 : am_Fl RX12 13 12 1 := ⟨_, RX12, rfl, by decide, (am_tT 1116 (by decide +kernel)), Or.inl rfl⟩
theorem fl_X12_16_12 : am_Fl RX12 16 12 2 := ⟨_, RX12, rfl, by decide, (am_tT 1117 (by decide +kernel)), Or.inl rfl⟩
theorem fl_X12_19_12 : am_Fl RX12 19 12 3 := ⟨_, RX12, rfl, by decide, (am_tT 1118 (by decide +kernel)), Or.inl rfl⟩
theorem fl_X12_22_12 : am_Fl RX12 22 12 4 := ⟨_, RX12, rfl, by decide, (am_tT 1119 (by decide +kernel)), Or.inl rfl⟩
theorem fl_X12_308_12 : am_Fl RX12 308 12 5 := ⟨_, RX12, rfl, by decide, (am_tT 1120 (by decide +kernel)), Or.inl rfl⟩
theorem fl_X12_25_12 : am_Fl RX12 25 12 6 := ⟨_, RX12, rfl, by decide, (am_tT 1121 (by decide +kernel)), Or.inl rfl⟩
theorem fl_X12_140_12 : am_Fl RX12 140 12 7 := ⟨_, RX12, rfl, by decide, (am_tT 1122 (by decide +kernel)), Or.inl rfl⟩
theorem fl_X12_130_12 : am_Fl RX12 130 12 8 := ⟨_, RX12, rfl, by decide, (am_tT 1123 (by decide +kernel)), Or.inl rfl⟩
theorem fl_X12_134_12 : am_Fl RX12 134 12 9 := ⟨_, RX12, rfl, by decide, (am_tT 1124 (by decide +kernel)), Or.inl rfl⟩
theorem fl_X12_137_12 : am_Fl RX12 137 12 10 := ⟨_, RX12, rfl, by decide, (am_tT 1125 (by decide +kernel)), Or.inl rfl⟩
theorem fl_X12_169_12 : am_Fl RX12 169 12 11 := ⟨_, RX12, rfl, by decide, (am_tT 1126 (by decide +kernel)), Or.inl rfl⟩
theorem fl_X12_147_12 : am_Fl RX12 147 12 12 := ⟨_, RX12, rfl, by decide, (am_tT 1127 (by decide +kernel)), Or.inl rfl⟩
theorem fl_X12_28_12 : am_Fl RX12 28 12 13 := ⟨_, RX12, rfl, by decide, (am_tT 1128 (by decide +kernel)), Or.inl rfl⟩
theorem fl_X12_31_12 : am_Fl RX12 31 12 14 := ⟨_, RX12, rfl, by decide, (am_tT 1129 (by decide +kernel)), Or.inl rfl⟩
theorem fl_X12_278_12 : am_Fl RX12 278 12 15 := ⟨_, RX12, rfl, by decide, (am_tT 1130 (by decide +kernel)), Or.inl rfl⟩
theorem fl_X12_281_12 : am_Fl RX12 281 12 16 := ⟨_, RX12, rfl, by decide, (am_tT 1131 (by decide +kernel)), Or.inl rfl⟩
theorem fl_X12_34_12 : am_Fl RX12 34 12 17 := ⟨_, RX12, rfl, by decide, (am_tT 1132 (by decide +kernel)), Or.inl rfl⟩
theorem fl_X12_37_12 : am_Fl RX12 37 12 18 := ⟨_, RX12, rfl, by decide, (am_tT 1133 (by decide +kernel)), Or.inl rfl⟩
theorem fl_X12_40_12 : am_Fl RX12 40 12 19 := ⟨_, RX12, rfl, by decide, (am_tT 1134 (by decide +kernel)), Or.inl rfl⟩
theorem fl_X12_43_12 : am_Fl RX12 43 12 20 := ⟨_, RX12, rfl, by decide, (am_tT 1135 (by decide +kernel)), Or.inl rfl⟩
theorem ci_X0_1 : am_CI RX0 1 mX2_init 3 := ⟨ce_X2_init, (am_tT 393 (by decide +kernel)), (am_tT 355 (by decide +kernel)), rfl, rfl⟩
theorem cv_X0_13 : am_CV RX0 13 mX3_isNear 1 := ⟨ce_X3_isNear, (am_tT 508 (by decide +kernel)), (am_tT 509 (by decide +kernel)), am_tT 510 (by decide +kernel)⟩
set_option maxRecDepth 100000 in
theorem cu_X0_17_0 : am_CU RX0 17 (⟨"SmokeRings$Headlong", "pull", "(LSmokeRings$Ring;LSmokeRings$Ring;)I"⟩ : MethodName) RX2 RX0 mX2_pull 2 := ⟨ce_X2_pull, (am_tT 513 (by decide +kernel)), (am_tT 514 (by decide +kernel)), (am_tT 518 (by decide +kernel)), ⟨_, _, _, (am_tC (am_in2 _ (List.mem_of_getElem? (i := 223) rfl)) rfl)⟩, am_tT 516 (by decide +kernel), (am_tT 518 (by decide +kernel)), by decide +kernel⟩
set_option maxRecDepth 100000 in
theorem cu_X0_17_9 : am_CU RX0 17 (⟨"SmokeRings$Headlong", "pull", "(LSmokeRings$Ring;LSmokeRings$Ring;)I"⟩ : MethodName) RX2 RX9 mX2_pull 2 := ⟨ce_X2_pull, (am_tT 513 (by decide +kernel)), (am_tT 514 (by decide +kernel)), (am_tT 518 (by decide +kernel)), ⟨_, _, _, (am_tC (am_in2 _ (List.mem_of_getElem? (i := 223) rfl)) rfl)⟩, am_tT 517 (by decide +kernel), (am_tT 518 (by decide +kernel)), by decide +kernel⟩
theorem cv_X0_23 : am_CV RX0 23 mX5_add 1 := ⟨ce_X5_add, (am_tT 1005 (by decide +kernel)), (am_tT 619 (by decide +kernel)), am_tT 620 (by decide +kernel)⟩
theorem cp_X0_29 : am_CP RX0 29 mX2_ends 2 := ⟨ce_X2_ends, (am_tT 1006 (by decide +kernel)), (am_tT 1593 (by decide +kernel)), (am_tT 397 (by decide +kernel)), (am_tT 996 (by decide +kernel)), by decide +kernel⟩
theorem ci_X1_3 : am_CI RX1 3 mX2_init 3 := ⟨ce_X2_init, (am_tT 383 (by decide +kernel)), (am_tT 355 (by decide +kernel)), rfl, rfl⟩
theorem cv_X1_9 : am_CV RX1 9 mX3_isNear 1 := ⟨ce_X3_isNear, (am_tT 551 (by decide +kernel)), (am_tT 509 (by decide +kernel)), am_tT 510 (by decide +kernel)⟩
theorem cv_X1_15 : am_CV RX1 15 mX3_gap 1 := ⟨ce_X3_gap, (am_tT 552 (by decide +kernel)), (am_tT 521 (by decide +kernel)), am_tT 522 (by decide +kernel)⟩
theorem cv_X1_25 : am_CV RX1 25 mX3_isBehind 1 := ⟨ce_X3_isBehind, (am_tT 553 (by decide +kernel)), (am_tT 540 (by decide +kernel)), am_tT 541 (by decide +kernel)⟩
theorem cv_X1_28 : am_CV RX1 28 mX5_add 1 := ⟨ce_X5_add, (am_tT 962 (by decide +kernel)), (am_tT 619 (by decide +kernel)), am_tT 620 (by decide +kernel)⟩
theorem cp_X1_34 : am_CP RX1 34 mX2_goes 2 := ⟨ce_X2_goes, (am_tT 963 (by decide +kernel)), (am_tT 957 (by decide +kernel)), (am_tT 387 (by decide +kernel)), (am_tT 955 (by decide +kernel)), by decide +kernel⟩
theorem co_X2_1 : Cond.methodLink RX2 1 Lib.objectInit ∈ am_T := (am_tT 357 (by decide +kernel))
theorem cv_X2_24 : am_CV RX2 24 mX3_gap 1 := ⟨ce_X3_gap, (am_tT 520 (by decide +kernel)), (am_tT 521 (by decide +kernel)), am_tT 522 (by decide +kernel)⟩
theorem cn_X2_28 : am_CN RX2 28 mX11_quotient 2 := ⟨ce_X11_quotient, ⟨"SmokeRings", List.mem_filter.mpr ⟨List.mem_of_getElem? (i := 524) (by decide +kernel), rfl⟩⟩, (am_tT 331 (by decide +kernel))⟩
theorem cv_X2_37 : am_CV RX2 37 mX3_isNear 1 := ⟨ce_X3_isNear, (am_tT 537 (by decide +kernel)), (am_tT 509 (by decide +kernel)), am_tT 510 (by decide +kernel)⟩
set_option maxRecDepth 100000 in
theorem cu_X2_41_0 : am_CU RX2 41 yX2_pull RX2 RX0 mX2_pull 2 := ⟨ce_X2_pull, (am_tT 538 (by decide +kernel)), (am_tT 1585 (by decide +kernel)), (am_tT 518 (by decide +kernel)), ⟨_, _, _, (am_tC (am_in2 _ (List.mem_of_getElem? (i := 223) rfl)) rfl)⟩, am_tT 1586 (by decide +kernel), (am_tT 518 (by decide +kernel)), by decide +kernel⟩
set_option maxRecDepth 100000 in
theorem cu_X2_41_1 : am_CU RX2 41 yX2_pull RX2 RX1 mX2_pull 2 := ⟨ce_X2_pull, (am_tT 538 (by decide +kernel)), (am_tT 1585 (by decide +kernel)), (am_tT 518 (by decide +kernel)), ⟨_, _, _, (am_tC (am_in2 _ (List.mem_of_getElem? (i := 223) rfl)) rfl)⟩, am_tT 1587 (by decide +kernel), (am_tT 518 (by decide +kernel)), by decide +kernel⟩
set_option maxRecDepth 100000 in
theorem cu_X2_41_2 : am_CU RX2 41 yX2_pull RX2 RX2 mX2_pull 2 := ⟨ce_X2_pull, (am_tT 538 (by decide +kernel)), (am_tT 1585 (by decide +kernel)), (am_tT 518 (by decide +kernel)), ⟨_, _, _, (am_tC (am_in2 _ (List.mem_of_getElem? (i := 223) rfl)) rfl)⟩, am_tT 1588 (by decide +kernel), (am_tT 518 (by decide +kernel)), by decide +kernel⟩
set_option maxRecDepth 100000 in
theorem cu_X2_41_6 : am_CU RX2 41 yX2_pull RX2 RX6 mX2_pull 2 := ⟨ce_X2_pull, (am_tT 538 (by decide +kernel)), (am_tT 1585 (by decide +kernel)), (am_tT 518 (by decide +kernel)), ⟨_, _, _, (am_tC (am_in2 _ (List.mem_of_getElem? (i := 223) rfl)) rfl)⟩, am_tT 1589 (by decide +kernel), (am_tT 518 (by decide +kernel)), by decide +kernel⟩
set_option maxRecDepth 100000 in
theorem cu_X2_41_8 : am_CU RX2 41 yX2_pull RX2 RX8 mX2_pull 2 := ⟨ce_X2_pull, (am_tT 538 (by decide +kernel)), (am_tT 1585 (by decide +kernel)), (am_tT 518 (by decide +kernel)), ⟨_, _, _, (am_tC (am_in2 _ (List.mem_of_getElem? (i := 223) rfl)) rfl)⟩, am_tT 1590 (by decide +kernel), (am_tT 518 (by decide +kernel)), by decide +kernel⟩
set_option maxRecDepth 100000 in
theorem cu_X2_41_9 : am_CU RX2 41 yX2_pull RX2 RX9 mX2_pull 2 := ⟨ce_X2_pull, (am_tT 538 (by decide +kernel)), (am_tT 1585 (by decide +kernel)), (am_tT 518 (by decide +kernel)), ⟨_, _, _, (am_tC (am_in2 _ (List.mem_of_getElem? (i := 223) rfl)) rfl)⟩, am_tT 1591 (by decide +kernel), (am_tT 518 (by decide +kernel)), by decide +kernel⟩
set_option maxRecDepth 100000 in
theorem cu_X2_41_10 : am_CU RX2 41 yX2_pull RX2 RX10 mX2_pull 2 := ⟨ce_X2_pull, (am_tT 538 (by decide +kernel)), (am_tT 1585 (by decide +kernel)), (am_tT 518 (by decide +kernel)), ⟨_, _, _, (am_tC (am_in2 _ (List.mem_of_getElem? (i := 223) rfl)) rfl)⟩, am_tT 1592 (by decide +kernel), (am_tT 518 (by decide +kernel)), by decide +kernel⟩
theorem cv_X2_45 : am_CV RX2 45 mX3_isBehind 1 := ⟨ce_X3_isBehind, (am_tT 539 (by decide +kernel)), (am_tT 540 (by decide +kernel)), am_tT 541 (by decide +kernel)⟩
theorem cv_X2_48 : am_CV RX2 48 mX5_add 1 := ⟨ce_X5_add, (am_tT 975 (by decide +kernel)), (am_tT 619 (by decide +kernel)), am_tT 620 (by decide +kernel)⟩
set_option maxRecDepth 100000 in
theorem cu_X2_54_0 : am_CU RX2 54 yX2_goes RX2 RX0 mX2_goes 2 := ⟨ce_X2_goes, (am_tT 1001 (by decide +kernel)), (am_tT 957 (by decide +kernel)), (am_tT 955 (by decide +kernel)), ⟨_, _, _, (am_tC (am_in4 _ (List.mem_of_getElem? (i := 198) rfl)) rfl)⟩, am_tT 958 (by decide +kernel), (am_tT 955 (by decide +kernel)), by decide +kernel⟩
set_option maxRecDepth 100000 in
theorem cu_X2_54_1 : am_CU RX2 54 yX2_goes RX2 RX1 mX1_goes 2 := ⟨ce_X1_goes, (am_tT 1001 (by decide +kernel)), (am_tT 957 (by decide +kernel)), (am_tT 955 (by decide +kernel)), ⟨_, _, _, (am_tC (am_in4 _ (List.mem_of_getElem? (i := 198) rfl)) rfl)⟩, am_tT 959 (by decide +kernel), (am_tT 960 (by decide +kernel)), by decide +kernel⟩
set_option maxRecDepth 100000 in
theorem cu_X2_54_2 : am_CU RX2 54 yX2_goes RX2 RX2 mX2_goes 2 := ⟨ce_X2_goes, (am_tT 1001 (by decide +kernel)), (am_tT 957 (by decide +kernel)), (am_tT 955 (by decide +kernel)), ⟨_, _, _, (am_tC (am_in4 _ (List.mem_of_getElem? (i := 198) rfl)) rfl)⟩, am_tT 956 (by decide +kernel), (am_tT 955 (by decide +kernel)), by decide +kernel⟩
set_option maxRecDepth 100000 in
theorem cu_X2_54_6 : am_CU RX2 54 yX2_goes RX2 RX6 mX2_goes 2 := ⟨ce_X2_goes, (am_tT 1001 (by decide +kernel)), (am_tT 957 (by decide +kernel)), (am_tT 955 (by decide +kernel)), ⟨_, _, _, (am_tC (am_in4 _ (List.mem_of_getElem? (i := 198) rfl)) rfl)⟩, am_tT 964 (by decide +kernel), (am_tT 955 (by decide +kernel)), by decide +kernel⟩
set_option maxRecDepth 100000 in
theorem cu_X2_54_8 : am_CU RX2 54 yX2_goes RX2 RX8 mX2_goes 2 := ⟨ce_X2_goes, (am_tT 1001 (by decide +kernel)), (am_tT 957 (by decide +kernel)), (am_tT 955 (by decide +kernel)), ⟨_, _, _, (am_tC (am_in4 _ (List.mem_of_getElem? (i := 198) rfl)) rfl)⟩, am_tT 965 (by decide +kernel), (am_tT 955 (by decide +kernel)), by decide +kernel⟩
set_option maxRecDepth 100000 in
theorem cu_X2_54_9 : am_CU RX2 54 yX2_goes RX2 RX9 mX9_goes 2 := ⟨ce_X9_goes, (am_tT 1001 (by decide +kernel)), (am_tT 957 (by decide +kernel)), (am_tT 955 (by decide +kernel)), ⟨_, _, _, (am_tC (am_in4 _ (List.mem_of_getElem? (i := 198) rfl)) rfl)⟩, am_tT 966 (by decide +kernel), (am_tT 967 (by decide +kernel)), by decide +kernel⟩
set_option maxRecDepth 100000 in
theorem cu_X2_54_10 : am_CU RX2 54 yX2_goes RX2 RX10 mX2_goes 2 := ⟨ce_X2_goes, (am_tT 1001 (by decide +kernel)), (am_tT 957 (by decide +kernel)), (am_tT 955 (by decide +kernel)), ⟨_, _, _, (am_tC (am_in4 _ (List.mem_of_getElem? (i := 198) rfl)) rfl)⟩, am_tT 973 (by decide +kernel), (am_tT 955 (by decide +kernel)), by decide +kernel⟩
set_option maxRecDepth 100000 in
theorem cu_X2_58_0 : am_CU RX2 58 yX2_moves RX2 RX0 mX2_moves 2 := ⟨ce_X2_moves, (am_tT 1037 (by decide +kernel)), (am_tT 979 (by decide +kernel)), (am_tT 977 (by decide +kernel)), ⟨_, _, _, (am_tC (am_in4 _ (List.mem_of_getElem? (i := 224) rfl)) rfl)⟩, am_tT 980 (by decide +kernel), (am_tT 977 (by decide +kernel)), by decide +kernel⟩
set_option maxRecDepth 100000 in
theorem cu_X2_58_1 : am_CU RX2 58 yX2_moves RX2 RX1 mX2_moves 2 := ⟨ce_X2_moves, (am_tT 1037 (by decide +kernel)), (am_tT 979 (by decide +kernel)), (am_tT 977 (by decide +kernel)), ⟨_, _, _, (am_tC (am_in4 _ (List.mem_of_getElem? (i := 224) rfl)) rfl)⟩, am_tT 981 (by decide +kernel), (am_tT 977 (by decide +kernel)), by decide +kernel⟩
set_option maxRecDepth 100000 in
theorem cu_X2_58_2 : am_CU RX2 58 yX2_moves RX2 RX2 mX2_moves 2 := ⟨ce_X2_moves, (am_tT 1037 (by decide +kernel)), (am_tT 979 (by decide +kernel)), (am_tT 977 (by decide +kernel)), ⟨_, _, _, (am_tC (am_in4 _ (List.mem_of_getElem? (i := 224) rfl)) rfl)⟩, am_tT 978 (by decide +kernel), (am_tT 977 (by decide +kernel)), by decide +kernel⟩
set_option maxRecDepth 100000 in
theorem cu_X2_58_6 : am_CU RX2 58 yX2_moves RX2 RX6 mX10_moves 2 := ⟨ce_X10_moves, (am_tT 1037 (by decide +kernel)), (am_tT 979 (by decide +kernel)), (am_tT 977 (by decide +kernel)), ⟨_, _, _, (am_tC (am_in4 _ (List.mem_of_getElem? (i := 224) rfl)) rfl)⟩, am_tT 982 (by decide +kernel), (am_tT 983 (by decide +kernel)), by decide +kernel⟩
set_option maxRecDepth 100000 in
theorem cu_X2_58_8 : am_CU RX2 58 yX2_moves RX2 RX8 mX8_moves 2 := ⟨ce_X8_moves, (am_tT 1037 (by decide +kernel)), (am_tT 979 (by decide +kernel)), (am_tT 977 (by decide +kernel)), ⟨_, _, _, (am_tC (am_in4 _ (List.mem_of_getElem? (i := 224) rfl)) rfl)⟩, am_tT 987 (by decide +kernel), (am_tT 988 (by decide +kernel)), by decide +kernel⟩
set_option maxRecDepth 100000 in
theorem cu_X2_58_9 : am_CU RX2 58 yX2_moves RX2 RX9 mX2_moves 2 := ⟨ce_X2_moves, (am_tT 1037 (by decide +kernel)), (am_tT 979 (by decide +kernel)), (am_tT 977 (by decide +kernel)), ⟨_, _, _, (am_tC (am_in4 _ (List.mem_of_getElem? (i := 224) rfl)) rfl)⟩, am_tT 998 (by decide +kernel), (am_tT 977 (by decide +kernel)), by decide +kernel⟩
set_option maxRecDepth 100000 in
theorem cu_X2_58_10 : am_CU RX2 58 yX2_moves RX2 RX10 mX10_moves 2 := ⟨ce_X10_moves, (am_tT 1037 (by decide +kernel)), (am_tT 979 (by decide +kernel)), (am_tT 977 (by decide +kernel)), ⟨_, _, _, (am_tC (am_in4 _ (List.mem_of_getElem? (i := 224) rfl)) rfl)⟩, am_tT 999 (by decide +kernel), (am_tT 983 (by decide +kernel)), by decide +kernel⟩
set_option maxRecDepth 100000 in
theorem cu_X2_61_0 : am_CU RX2 61 yX2_ends RX2 RX0 mX0_ends 2 := ⟨ce_X0_ends, (am_tT 1038 (by decide +kernel)), (am_tT 1593 (by decide +kernel)), (am_tT 996 (by decide +kernel)), ⟨_, _, _, (am_tC (am_in4 _ (List.mem_of_getElem? (i := 221) rfl)) rfl)⟩, am_tT 1594 (by decide +kernel), (am_tT 1003 (by decide +kernel)), by decide +kernel⟩
set_option maxRecDepth 100000 in
theorem cu_X2_61_1 : am_CU RX2 61 yX2_ends RX2 RX1 mX2_ends 2 := ⟨ce_X2_ends, (am_tT 1038 (by decide +kernel)), (am_tT 1593 (by decide +kernel)), (am_tT 996 (by decide +kernel)), ⟨_, _, _, (am_tC (am_in4 _ (List.mem_of_getElem? (i := 221) rfl)) rfl)⟩, am_tT 1595 (by decide +kernel), (am_tT 996 (by decide +kernel)), by decide +kernel⟩
set_option maxRecDepth 100000 in
theorem cu_X2_61_2 : am_CU RX2 61 yX2_ends RX2 RX2 mX2_ends 2 := ⟨ce_X2_ends, (am_tT 1038 (by decide +kernel)), (am_tT 1593 (by decide +kernel)), (am_tT 996 (by decide +kernel)), ⟨_, _, _, (am_tC (am_in4 _ (List.mem_of_getElem? (i := 221) rfl)) rfl)⟩, am_tT 1596 (by decide +kernel), (am_tT 996 (by decide +kernel)), by decide +kernel⟩
set_option maxRecDepth 100000 in
theorem cu_X2_61_6 : am_CU RX2 61 yX2_ends RX2 RX6 mX6_ends 2 := ⟨ce_X6_ends, (am_tT 1038 (by decide +kernel)), (am_tT 1593 (by decide +kernel)), (am_tT 996 (by decide +kernel)), ⟨_, _, _, (am_tC (am_in4 _ (List.mem_of_getElem? (i := 221) rfl)) rfl)⟩, am_tT 1597 (by decide +kernel), (am_tT 1007 (by decide +kernel)), by decide +kernel⟩
set_option maxRecDepth 100000 in
theorem cu_X2_61_8 : am_CU RX2 61 yX2_ends RX2 RX8 mX2_ends 2 := ⟨ce_X2_ends, (am_tT 1038 (by decide +kernel)), (am_tT 1593 (by decide +kernel)), (am_tT 996 (by decide +kernel)), ⟨_, _, _, (am_tC (am_in4 _ (List.mem_of_getElem? (i := 221) rfl)) rfl)⟩, am_tT 1598 (by decide +kernel), (am_tT 996 (by decide +kernel)), by decide +kernel⟩
set_option maxRecDepth 100000 in
theorem cu_X2_61_9 : am_CU RX2 61 yX2_ends RX2 RX9 mX0_ends 2 := ⟨ce_X0_ends, (am_tT 1038 (by decide +kernel)), (am_tT 1593 (by decide +kernel)), (am_tT 996 (by decide +kernel)), ⟨_, _, _, (am_tC (am_in4 _ (List.mem_of_getElem? (i := 221) rfl)) rfl)⟩, am_tT 1599 (by decide +kernel), (am_tT 1003 (by decide +kernel)), by decide +kernel⟩
set_option maxRecDepth 100000 in
theorem cu_X2_61_10 : am_CU RX2 61 yX2_ends RX2 RX10 mX2_ends 2 := ⟨ce_X2_ends, (am_tT 1038 (by decide +kernel)), (am_tT 1593 (by decide +kernel)), (am_tT 996 (by decide +kernel)), ⟨_, _, _, (am_tC (am_in4 _ (List.mem_of_getElem? (i := 221) rfl)) rfl)⟩, am_tT 1600 (by decide +kernel), (am_tT 996 (by decide +kernel)), by decide +kernel⟩
theorem co_X3_1 : Cond.methodLink RX3 1 Lib.objectInit ∈ am_T := (am_tT 98 (by decide +kernel))
theorem cn_X3_35 : am_CN RX3 35 mX11_quotient 2 := ⟨ce_X11_quotient, ⟨"SmokeRings", List.mem_filter.mpr ⟨List.mem_of_getElem? (i := 330) (by decide +kernel), rfl⟩⟩, (am_tT 331 (by decide +kernel))⟩
theorem cn_X3_41 : am_CN RX3 41 mX11_asBit 1 := ⟨ce_X11_asBit, ⟨"SmokeRings", List.mem_filter.mpr ⟨List.mem_of_getElem? (i := 323) (by decide +kernel), rfl⟩⟩, (am_tT 324 (by decide +kernel))⟩
theorem cv_X3_45 : am_CV RX3 45 mX3_pace 0 := ⟨ce_X3_pace, (am_tT 326 (by decide +kernel)), (am_tT 327 (by decide +kernel)), am_tT 328 (by decide +kernel)⟩
theorem cs_X3_49 : am_CS RX3 49 mJ9_abs_0f7a4 1 := ⟨ce_J9_abs_0f7a4, (am_tT 512 (by decide +kernel)), (am_tT 480 (by decide +kernel))⟩
theorem co_X4_3 : Cond.methodLink RX4 3 Lib.objectInit ∈ am_T := (am_tT 91 (by decide +kernel))
theorem ci_X4_20 : am_CI RX4 20 mX3_init 1 := ⟨ce_X3_init, (am_tT 95 (by decide +kernel)), (am_tT 96 (by decide +kernel)), rfl, rfl⟩
theorem ci_X4_46 : am_CI RX4 46 mX7_init 0 := ⟨ce_X7_init, (am_tT 149 (by decide +kernel)), (am_tT 150 (by decide +kernel)), rfl, rfl⟩
theorem ci_X4_49 : am_CI RX4 49 mX5_init 1 := ⟨ce_X5_init, (am_tT 179 (by decide +kernel)), (am_tT 180 (by decide +kernel)), rfl, rfl⟩
theorem cv_X4_57 : am_CV RX4 57 mX4_takeRings 1 := ⟨ce_X4_takeRings, (am_tT 850 (by decide +kernel)), (am_tT 851 (by decide +kernel)), am_tT 852 (by decide +kernel)⟩
theorem cv_X4_70 : am_CV RX4 70 mX7_become 1 := ⟨ce_X7_become, (am_tT 854 (by decide +kernel)), (am_tT 753 (by decide +kernel)), am_tT 754 (by decide +kernel)⟩
theorem cv_X4_74 : am_CV RX4 74 mX5_become 1 := ⟨ce_X5_become, (am_tT 855 (by decide +kernel)), (am_tT 856 (by decide +kernel)), am_tT 857 (by decide +kernel)⟩
theorem cv_X4_80 : am_CV RX4 80 mX3_become 1 := ⟨ce_X3_become, (am_tT 778 (by decide +kernel)), (am_tT 779 (by decide +kernel)), am_tT 780 (by decide +kernel)⟩
theorem cv_X4_83 : am_CV RX4 83 mX4_isOn 1 := ⟨ce_X4_isOn, (am_tT 790 (by decide +kernel)), (am_tT 448 (by decide +kernel)), am_tT 449 (by decide +kernel)⟩
theorem cs_X4_87 : am_CS RX4 87 mJ9_min_7cf53 2 := ⟨ce_J9_min_7cf53, (am_tT 308 (by decide +kernel)), (am_tT 309 (by decide +kernel))⟩
theorem cv_X4_115 : am_CV RX4 115 mX4_given 4 := ⟨ce_X4_given, (am_tT 581 (by decide +kernel)), (am_tT 582 (by decide +kernel)), am_tT 583 (by decide +kernel)⟩
theorem cv_X4_119 : am_CV RX4 119 mX4_addRing 6 := ⟨ce_X4_addRing, (am_tT 601 (by decide +kernel)), (am_tT 305 (by decide +kernel)), am_tT 306 (by decide +kernel)⟩
theorem cs_X4_123 : am_CS RX4 123 mJ9_max_7cf53 2 := ⟨ce_J9_max_7cf53, (am_tT 610 (by decide +kernel)), (am_tT 611 (by decide +kernel))⟩
theorem cv_X4_129 : am_CV RX4 129 mX7_value 3 := ⟨ce_X7_value, (am_tT 585 (by decide +kernel)), (am_tT 586 (by decide +kernel)), am_tT 587 (by decide +kernel)⟩
theorem cn_X4_133 : am_CN RX4 133 mX11_held 3 := ⟨ce_X11_held, ⟨"SmokeRings", List.mem_filter.mpr ⟨List.mem_of_getElem? (i := 598) (by decide +kernel), rfl⟩⟩, (am_tT 599 (by decide +kernel))⟩
theorem cn_X4_136 : am_CN RX4 136 mX11_asBit 1 := ⟨ce_X11_asBit, ⟨"SmokeRings", List.mem_filter.mpr ⟨List.mem_of_getElem? (i := 869) (by decide +kernel), rfl⟩⟩, (am_tT 324 (by decide +kernel))⟩
theorem cv_X4_140 : am_CV RX4 140 mX4_foremost 0 := ⟨ce_X4_foremost, (am_tT 878 (by decide +kernel)), (am_tT 831 (by decide +kernel)), am_tT 832 (by decide +kernel)⟩
theorem cv_X4_144 : am_CV RX4 144 mX4_tick 0 := ⟨ce_X4_tick, (am_tT 879 (by decide +kernel)), (am_tT 775 (by decide +kernel)), am_tT 776 (by decide +kernel)⟩
theorem cv_X4_147 : am_CV RX4 147 mX4_advance 2 := ⟨ce_X4_advance, (am_tT 782 (by decide +kernel)), (am_tT 784 (by decide +kernel)), am_tT 11 (by decide +kernel)⟩
theorem cv_X4_151 : am_CV RX4 151 mX4_widen 2 := ⟨ce_X4_widen, (am_tT 794 (by decide +kernel)), (am_tT 796 (by decide +kernel)), am_tT 13 (by decide +kernel)⟩
theorem cv_X4_154 : am_CV RX4 154 mX4_endIfDue 1 := ⟨ce_X4_endIfDue, (am_tT 803 (by decide +kernel)), (am_tT 805 (by decide +kernel)), am_tT 14 (by decide +kernel)⟩
theorem cv_X4_157 : am_CV RX4 157 mX4_settle 1 := ⟨ce_X4_settle, (am_tT 813 (by decide +kernel)), (am_tT 815 (by decide +kernel)), am_tT 16 (by decide +kernel)⟩
theorem cv_X4_161 : am_CV RX4 161 mX4_lawOn 1 := ⟨ce_X4_lawOn, (am_tT 786 (by decide +kernel)), (am_tT 788 (by decide +kernel)), am_tT 12 (by decide +kernel)⟩
set_option maxRecDepth 100000 in
theorem cu_X4_165_0 : am_CU RX4 165 yX2_lifts RX2 RX0 mX2_lifts 2 := ⟨ce_X2_lifts, (am_tT 791 (by decide +kernel)), (am_tT 490 (by decide +kernel)), (am_tT 488 (by decide +kernel)), ⟨_, _, _, (am_tC (am_in2 _ (List.mem_of_getElem? (i := 204) rfl)) rfl)⟩, am_tT 491 (by decide +kernel), (am_tT 488 (by decide +kernel)), by decide +kernel⟩
set_option maxRecDepth 100000 in
theorem cu_X4_165_1 : am_CU RX4 165 yX2_lifts RX2 RX1 mX2_lifts 2 := ⟨ce_X2_lifts, (am_tT 791 (by decide +kernel)), (am_tT 490 (by decide +kernel)), (am_tT 488 (by decide +kernel)), ⟨_, _, _, (am_tC (am_in2 _ (List.mem_of_getElem? (i := 204) rfl)) rfl)⟩, am_tT 492 (by decide +kernel), (am_tT 488 (by decide +kernel)), by decide +kernel⟩
set_option maxRecDepth 100000 in
theorem cu_X4_165_2 : am_CU RX4 165 yX2_lifts RX2 RX2 mX2_lifts 2 := ⟨ce_X2_lifts, (am_tT 791 (by decide +kernel)), (am_tT 490 (by decide +kernel)), (am_tT 488 (by decide +kernel)), ⟨_, _, _, (am_tC (am_in2 _ (List.mem_of_getElem? (i := 204) rfl)) rfl)⟩, am_tT 489 (by decide +kernel), (am_tT 488 (by decide +kernel)), by decide +kernel⟩
set_option maxRecDepth 100000 in
theorem cu_X4_165_6 : am_CU RX4 165 yX2_lifts RX2 RX6 mX6_lifts 2 := ⟨ce_X6_lifts, (am_tT 791 (by decide +kernel)), (am_tT 490 (by decide +kernel)), (am_tT 488 (by decide +kernel)), ⟨_, _, _, (am_tC (am_in2 _ (List.mem_of_getElem? (i := 204) rfl)) rfl)⟩, am_tT 493 (by decide +kernel), (am_tT 494 (by decide +kernel)), by decide +kernel⟩
set_option maxRecDepth 100000 in
theorem cu_X4_165_8 : am_CU RX4 165 yX2_lifts RX2 RX8 mX2_lifts 2 := ⟨ce_X2_lifts, (am_tT 791 (by decide +kernel)), (am_tT 490 (by decide +kernel)), (am_tT 488 (by decide +kernel)), ⟨_, _, _, (am_tC (am_in2 _ (List.mem_of_getElem? (i := 204) rfl)) rfl)⟩, am_tT 497 (by decide +kernel), (am_tT 488 (by decide +kernel)), by decide +kernel⟩
set_option maxRecDepth 100000 in
theorem cu_X4_165_9 : am_CU RX4 165 yX2_lifts RX2 RX9 mX2_lifts 2 := ⟨ce_X2_lifts, (am_tT 791 (by decide +kernel)), (am_tT 490 (by decide +kernel)), (am_tT 488 (by decide +kernel)), ⟨_, _, _, (am_tC (am_in2 _ (List.mem_of_getElem? (i := 204) rfl)) rfl)⟩, am_tT 498 (by decide +kernel), (am_tT 488 (by decide +kernel)), by decide +kernel⟩
set_option maxRecDepth 100000 in
theorem cu_X4_165_10 : am_CU RX4 165 yX2_lifts RX2 RX10 mX2_lifts 2 := ⟨ce_X2_lifts, (am_tT 791 (by decide +kernel)), (am_tT 490 (by decide +kernel)), (am_tT 488 (by decide +kernel)), ⟨_, _, _, (am_tC (am_in2 _ (List.mem_of_getElem? (i := 204) rfl)) rfl)⟩, am_tT 499 (by decide +kernel), (am_tT 488 (by decide +kernel)), by decide +kernel⟩
theorem cv_X4_169 : am_CV RX4 169 mX3_pace 0 := ⟨ce_X3_pace, (am_tT 792 (by decide +kernel)), (am_tT 327 (by decide +kernel)), am_tT 328 (by decide +kernel)⟩
set_option maxRecDepth 100000 in
theorem cu_X4_173_0 : am_CU RX4 173 yX2_spreads RX2 RX0 mX2_spreads 2 := ⟨ce_X2_spreads, (am_tT 798 (by decide +kernel)), (am_tT 470 (by decide +kernel)), (am_tT 468 (by decide +kernel)), ⟨_, _, _, (am_tC (am_in2 _ (List.mem_of_getElem? (i := 190) rfl)) rfl)⟩, am_tT 471 (by decide +kernel), (am_tT 468 (by decide +kernel)), by decide +kernel⟩
set_option maxRecDepth 100000 in
theorem cu_X4_173_1 : am_CU RX4 173 yX2_spreads RX2 RX1 mX2_spreads 2 := ⟨ce_X2_spreads, (am_tT 798 (by decide +kernel)), (am_tT 470 (by decide +kernel)), (am_tT 468 (by decide +kernel)), ⟨_, _, _, (am_tC (am_in2 _ (List.mem_of_getElem? (i := 190) rfl)) rfl)⟩, am_tT 472 (by decide +kernel), (am_tT 468 (by decide +kernel)), by decide +kernel⟩
set_option maxRecDepth 100000 in
theorem cu_X4_173_2 : am_CU RX4 173 yX2_spreads RX2 RX2 mX2_spreads 2 := ⟨ce_X2_spreads, (am_tT 798 (by decide +kernel)), (am_tT 470 (by decide +kernel)), (am_tT 468 (by decide +kernel)), ⟨_, _, _, (am_tC (am_in2 _ (List.mem_of_getElem? (i := 190) rfl)) rfl)⟩, am_tT 469 (by decide +kernel), (am_tT 468 (by decide +kernel)), by decide +kernel⟩
set_option maxRecDepth 100000 in
theorem cu_X4_173_6 : am_CU RX4 173 yX2_spreads RX2 RX6 mX6_spreads 2 := ⟨ce_X6_spreads, (am_tT 798 (by decide +kernel)), (am_tT 470 (by decide +kernel)), (am_tT 468 (by decide +kernel)), ⟨_, _, _, (am_tC (am_in2 _ (List.mem_of_getElem? (i := 190) rfl)) rfl)⟩, am_tT 473 (by decide +kernel), (am_tT 474 (by decide +kernel)), by decide +kernel⟩
set_option maxRecDepth 100000 in
theorem cu_X4_173_8 : am_CU RX4 173 yX2_spreads RX2 RX8 mX2_spreads 2 := ⟨ce_X2_spreads, (am_tT 798 (by decide +kernel)), (am_tT 470 (by decide +kernel)), (am_tT 468 (by decide +kernel)), ⟨_, _, _, (am_tC (am_in2 _ (List.mem_of_getElem? (i := 190) rfl)) rfl)⟩, am_tT 483 (by decide +kernel), (am_tT 468 (by decide +kernel)), by decide +kernel⟩
set_option maxRecDepth 100000 in
theorem cu_X4_173_9 : am_CU RX4 173 yX2_spreads RX2 RX9 mX2_spreads 2 := ⟨ce_X2_spreads, (am_tT 798 (by decide +kernel)), (am_tT 470 (by decide +kernel)), (am_tT 468 (by decide +kernel)), ⟨_, _, _, (am_tC (am_in2 _ (List.mem_of_getElem? (i := 190) rfl)) rfl)⟩, am_tT 484 (by decide +kernel), (am_tT 468 (by decide +kernel)), by decide +kernel⟩
set_option maxRecDepth 100000 in
theorem cu_X4_173_10 : am_CU RX4 173 yX2_spreads RX2 RX10 mX10_spreads 2 := ⟨ce_X10_spreads, (am_tT 798 (by decide +kernel)), (am_tT 470 (by decide +kernel)), (am_tT 468 (by decide +kernel)), ⟨_, _, _, (am_tC (am_in2 _ (List.mem_of_getElem? (i := 190) rfl)) rfl)⟩, am_tT 485 (by decide +kernel), (am_tT 477 (by decide +kernel)), by decide +kernel⟩
theorem cs_X4_176 : am_CS RX4 176 mX4_isOther 2 := ⟨ce_X4_isOther, (am_tT 799 (by decide +kernel)), (am_tT 800 (by decide +kernel))⟩
set_option maxRecDepth 100000 in
theorem cu_X4_180_0 : am_CU RX4 180 yX2_widens RX2 RX0 mX0_widens 2 := ⟨ce_X0_widens, (am_tT 802 (by decide +kernel)), (am_tT 504 (by decide +kernel)), (am_tT 502 (by decide +kernel)), ⟨_, _, _, (am_tC (am_in3 _ (List.mem_of_getElem? (i := 0) rfl)) rfl)⟩, am_tT 505 (by decide +kernel), (am_tT 506 (by decide +kernel)), by decide +kernel⟩
set_option maxRecDepth 100000 in
theorem cu_X4_180_1 : am_CU RX4 180 yX2_widens RX2 RX1 mX2_widens 2 := ⟨ce_X2_widens, (am_tT 802 (by decide +kernel)), (am_tT 504 (by decide +kernel)), (am_tT 502 (by decide +kernel)), ⟨_, _, _, (am_tC (am_in3 _ (List.mem_of_getElem? (i := 0) rfl)) rfl)⟩, am_tT 525 (by decide +kernel), (am_tT 502 (by decide +kernel)), by decide +kernel⟩
set_option maxRecDepth 100000 in
theorem cu_X4_180_2 : am_CU RX4 180 yX2_widens RX2 RX2 mX2_widens 2 := ⟨ce_X2_widens, (am_tT 802 (by decide +kernel)), (am_tT 504 (by decide +kernel)), (am_tT 502 (by decide +kernel)), ⟨_, _, _, (am_tC (am_in3 _ (List.mem_of_getElem? (i := 0) rfl)) rfl)⟩, am_tT 503 (by decide +kernel), (am_tT 502 (by decide +kernel)), by decide +kernel⟩
set_option maxRecDepth 100000 in
theorem cu_X4_180_6 : am_CU RX4 180 yX2_widens RX2 RX6 mX10_widens 2 := ⟨ce_X10_widens, (am_tT 802 (by decide +kernel)), (am_tT 504 (by decide +kernel)), (am_tT 502 (by decide +kernel)), ⟨_, _, _, (am_tC (am_in3 _ (List.mem_of_getElem? (i := 0) rfl)) rfl)⟩, am_tT 526 (by decide +kernel), (am_tT 527 (by decide +kernel)), by decide +kernel⟩
set_option maxRecDepth 100000 in
theorem cu_X4_180_8 : am_CU RX4 180 yX2_widens RX2 RX8 mX8_widens 2 := ⟨ce_X8_widens, (am_tT 802 (by decide +kernel)), (am_tT 504 (by decide +kernel)), (am_tT 502 (by decide +kernel)), ⟨_, _, _, (am_tC (am_in3 _ (List.mem_of_getElem? (i := 0) rfl)) rfl)⟩, am_tT 529 (by decide +kernel), (am_tT 530 (by decide +kernel)), by decide +kernel⟩
set_option maxRecDepth 100000 in
theorem cu_X4_180_9 : am_CU RX4 180 yX2_widens RX2 RX9 mX0_widens 2 := ⟨ce_X0_widens, (am_tT 802 (by decide +kernel)), (am_tT 504 (by decide +kernel)), (am_tT 502 (by decide +kernel)), ⟨_, _, _, (am_tC (am_in3 _ (List.mem_of_getElem? (i := 0) rfl)) rfl)⟩, am_tT 534 (by decide +kernel), (am_tT 506 (by decide +kernel)), by decide +kernel⟩
set_option maxRecDepth 100000 in
theorem cu_X4_180_10 : am_CU RX4 180 yX2_widens RX2 RX10 mX10_widens 2 := ⟨ce_X10_widens, (am_tT 802 (by decide +kernel)), (am_tT 504 (by decide +kernel)), (am_tT 502 (by decide +kernel)), ⟨_, _, _, (am_tC (am_in3 _ (List.mem_of_getElem? (i := 0) rfl)) rfl)⟩, am_tT 535 (by decide +kernel), (am_tT 527 (by decide +kernel)), by decide +kernel⟩
theorem cv_X4_187 : am_CV RX4 187 mX4_endingLaw 2 := ⟨ce_X4_endingLaw, (am_tT 807 (by decide +kernel)), (am_tT 809 (by decide +kernel)), am_tT 15 (by decide +kernel)⟩
set_option maxRecDepth 100000 in
theorem cu_X4_193_0 : am_CU RX4 193 yX2_endsBy RX2 RX0 mX2_endsBy 2 := ⟨ce_X2_endsBy, (am_tT 811 (by decide +kernel)), (am_tT 546 (by decide +kernel)), (am_tT 544 (by decide +kernel)), ⟨_, _, _, (am_tC (am_in3 _ (List.mem_of_getElem? (i := 25) rfl)) rfl)⟩, am_tT 547 (by decide +kernel), (am_tT 544 (by decide +kernel)), by decide +kernel⟩
set_option maxRecDepth 100000 in
theorem cu_X4_193_1 : am_CU RX4 193 yX2_endsBy RX2 RX1 mX1_endsBy 2 := ⟨ce_X1_endsBy, (am_tT 811 (by decide +kernel)), (am_tT 546 (by decide +kernel)), (am_tT 544 (by decide +kernel)), ⟨_, _, _, (am_tC (am_in3 _ (List.mem_of_getElem? (i := 25) rfl)) rfl)⟩, am_tT 548 (by decide +kernel), (am_tT 549 (by decide +kernel)), by decide +kernel⟩
set_option maxRecDepth 100000 in
theorem cu_X4_193_2 : am_CU RX4 193 yX2_endsBy RX2 RX2 mX2_endsBy 2 := ⟨ce_X2_endsBy, (am_tT 811 (by decide +kernel)), (am_tT 546 (by decide +kernel)), (am_tT 544 (by decide +kernel)), ⟨_, _, _, (am_tC (am_in3 _ (List.mem_of_getElem? (i := 25) rfl)) rfl)⟩, am_tT 545 (by decide +kernel), (am_tT 544 (by decide +kernel)), by decide +kernel⟩
set_option maxRecDepth 100000 in
theorem cu_X4_193_6 : am_CU RX4 193 yX2_endsBy RX2 RX6 mX2_endsBy 2 := ⟨ce_X2_endsBy, (am_tT 811 (by decide +kernel)), (am_tT 546 (by decide +kernel)), (am_tT 544 (by decide +kernel)), ⟨_, _, _, (am_tC (am_in3 _ (List.mem_of_getElem? (i := 25) rfl)) rfl)⟩, am_tT 554 (by decide +kernel), (am_tT 544 (by decide +kernel)), by decide +kernel⟩
set_option maxRecDepth 100000 in
theorem cu_X4_193_8 : am_CU RX4 193 yX2_endsBy RX2 RX8 mX2_endsBy 2 := ⟨ce_X2_endsBy, (am_tT 811 (by decide +kernel)), (am_tT 546 (by decide +kernel)), (am_tT 544 (by decide +kernel)), ⟨_, _, _, (am_tC (am_in3 _ (List.mem_of_getElem? (i := 25) rfl)) rfl)⟩, am_tT 555 (by decide +kernel), (am_tT 544 (by decide +kernel)), by decide +kernel⟩
set_option maxRecDepth 100000 in
theorem cu_X4_193_9 : am_CU RX4 193 yX2_endsBy RX2 RX9 mX9_endsBy 2 := ⟨ce_X9_endsBy, (am_tT 811 (by decide +kernel)), (am_tT 546 (by decide +kernel)), (am_tT 544 (by decide +kernel)), ⟨_, _, _, (am_tC (am_in3 _ (List.mem_of_getElem? (i := 25) rfl)) rfl)⟩, am_tT 556 (by decide +kernel), (am_tT 557 (by decide +kernel)), by decide +kernel⟩
set_option maxRecDepth 100000 in
theorem cu_X4_193_10 : am_CU RX4 193 yX2_endsBy RX2 RX10 mX2_endsBy 2 := ⟨ce_X2_endsBy, (am_tT 811 (by decide +kernel)), (am_tT 546 (by decide +kernel)), (am_tT 544 (by decide +kernel)), ⟨_, _, _, (am_tC (am_in3 _ (List.mem_of_getElem? (i := 25) rfl)) rfl)⟩, am_tT 560 (by decide +kernel), (am_tT 544 (by decide +kernel)), by decide +kernel⟩
theorem co_X5_1 : Cond.methodLink RX5 1 Lib.objectInit ∈ am_T := (am_tT 182 (by decide +kernel))
theorem cs_X5_17 : am_CS RX5 17 mJ9_min_7cf53 2 := ⟨ce_J9_min_7cf53, (am_tT 859 (by decide +kernel)), (am_tT 309 (by decide +kernel))⟩
theorem cs_X5_32 : am_CS RX5 32 mJ7_fill_53178 2 := ⟨ce_J7_fill_53178, (am_tT 1055 (by decide +kernel)), (am_tT 1056 (by decide +kernel))⟩
theorem cv_X5_38 : am_CV RX5 38 mX5_has 1 := ⟨ce_X5_has, (am_tT 1066 (by decide +kernel)), (am_tT 1044 (by decide +kernel)), am_tT 1045 (by decide +kernel)⟩
theorem ci_X6_3 : am_CI RX6 3 mX10_init 3 := ⟨ce_X10_init, (am_tT 423 (by decide +kernel)), (am_tT 411 (by decide +kernel)), rfl, rfl⟩
theorem cp_X6_9 : am_CP RX6 9 mX10_spreads 2 := ⟨ce_X10_spreads, (am_tT 476 (by decide +kernel)), (am_tT 1583 (by decide +kernel)), (am_tT 427 (by decide +kernel)), (am_tT 477 (by decide +kernel)), by decide +kernel⟩
theorem cv_X6_13 : am_CV RX6 13 mX6_spreads 2 := ⟨ce_X6_spreads, (am_tT 496 (by decide +kernel)), (am_tT 474 (by decide +kernel)), am_tT 1584 (by decide +kernel)⟩
theorem cv_X6_16 : am_CV RX6 16 mX5_add 1 := ⟨ce_X5_add, (am_tT 1009 (by decide +kernel)), (am_tT 619 (by decide +kernel)), am_tT 620 (by decide +kernel)⟩
set_option maxRecDepth 100000 in
theorem cu_X6_30_6 : am_CU RX6 30 (⟨"SmokeRings$Slanted", "moves", "(ILSmokeRings$Row;)I"⟩ : MethodName) RX10 RX6 mX10_moves 2 := ⟨ce_X10_moves, (am_tT 1021 (by decide +kernel)), (am_tT 1022 (by decide +kernel)), (am_tT 983 (by decide +kernel)), ⟨_, _, _, (am_tC (am_in4 _ (List.mem_of_getElem? (i := 208) rfl)) rfl)⟩, am_tT 1024 (by decide +kernel), (am_tT 983 (by decide +kernel)), by decide +kernel⟩
theorem co_X7_3 : Cond.methodLink RX7 3 Lib.objectInit ∈ am_T := (am_tT 152 (by decide +kernel))
theorem cv_X7_47 : am_CV RX7 47 mX7_takesOperand 2 := ⟨ce_X7_takesOperand, (am_tT 632 (by decide +kernel)), (am_tT 634 (by decide +kernel)), am_tT 2 (by decide +kernel)⟩
theorem cv_X7_51 : am_CV RX7 51 mX7_takesOperator 1 := ⟨ce_X7_takesOperator, (am_tT 725 (by decide +kernel)), (am_tT 727 (by decide +kernel)), am_tT 4 (by decide +kernel)⟩
theorem cv_X7_55 : am_CV RX7 55 mX7_isComplete 0 := ⟨ce_X7_isComplete, (am_tT 748 (by decide +kernel)), (am_tT 750 (by decide +kernel)), am_tT 9 (by decide +kernel)⟩
theorem cv_X7_59 : am_CV RX7 59 mX7_push 1 := ⟨ce_X7_push, (am_tT 589 (by decide +kernel)), (am_tT 591 (by decide +kernel)), am_tT 1 (by decide +kernel)⟩
theorem cs_X7_63 : am_CS RX7 63 mX7_isDigit 1 := ⟨ce_X7_isDigit, (am_tT 636 (by decide +kernel)), (am_tT 637 (by decide +kernel))⟩
theorem cv_X7_66 : am_CV RX7 66 mX7_append 1 := ⟨ce_X7_append, (am_tT 639 (by decide +kernel)), (am_tT 641 (by decide +kernel)), am_tT 3 (by decide +kernel)⟩
theorem cv_X7_69 : am_CV RX7 69 mJ0_indexOf_0f7a4 1 := ⟨ce_J0_indexOf_0f7a4, (am_tT 643 (by decide +kernel)), (am_tT 644 (by decide +kernel)), am_tT 645 (by decide +kernel)⟩
theorem cv_X7_75 : am_CV RX7 75 mX7_takesDigit 1 := ⟨ce_X7_takesDigit, (am_tT 729 (by decide +kernel)), (am_tT 731 (by decide +kernel)), am_tT 5 (by decide +kernel)⟩
theorem cv_X7_78 : am_CV RX7 78 mX7_takesClose 0 := ⟨ce_X7_takesClose, (am_tT 733 (by decide +kernel)), (am_tT 735 (by decide +kernel)), am_tT 6 (by decide +kernel)⟩
theorem cs_X7_81 : am_CS RX7 81 mX7_rank 1 := ⟨ce_X7_rank, (am_tT 741 (by decide +kernel)), (am_tT 742 (by decide +kernel))⟩
theorem cv_X7_84 : am_CV RX7 84 mX7_popAbove 1 := ⟨ce_X7_popAbove, (am_tT 737 (by decide +kernel)), (am_tT 739 (by decide +kernel)), am_tT 7 (by decide +kernel)⟩
theorem cv_X7_87 : am_CV RX7 87 mX7_pop 0 := ⟨ce_X7_pop, (am_tT 744 (by decide +kernel)), (am_tT 746 (by decide +kernel)), am_tT 8 (by decide +kernel)⟩
theorem cn_X7_90 : am_CN RX7 90 mX11_asBit 1 := ⟨ce_X11_asBit, ⟨"SmokeRings", List.mem_filter.mpr ⟨List.mem_of_getElem? (i := 593) (by decide +kernel), rfl⟩⟩, (am_tT 324 (by decide +kernel))⟩
theorem cs_X7_94 : am_CS RX7 94 mX7_result 3 := ⟨ce_X7_result, (am_tT 594 (by decide +kernel)), (am_tT 595 (by decide +kernel))⟩
theorem cn_X7_98 : am_CN RX7 98 mX11_quotient 2 := ⟨ce_X11_quotient, ⟨"SmokeRings", List.mem_filter.mpr ⟨List.mem_of_getElem? (i := 597) (by decide +kernel), rfl⟩⟩, (am_tT 331 (by decide +kernel))⟩
theorem ci_X8_3 : am_CI RX8 3 mX2_init 3 := ⟨ce_X2_init, (am_tT 354 (by decide +kernel)), (am_tT 355 (by decide +kernel)), rfl, rfl⟩
theorem cp_X8_9 : am_CP RX8 9 mX2_widens 2 := ⟨ce_X2_widens, (am_tT 532 (by decide +kernel)), (am_tT 504 (by decide +kernel)), (am_tT 377 (by decide +kernel)), (am_tT 502 (by decide +kernel)), by decide +kernel⟩
theorem cv_X8_13 : am_CV RX8 13 mX3_gap 1 := ⟨ce_X3_gap, (am_tT 533 (by decide +kernel)), (am_tT 521 (by decide +kernel)), am_tT 522 (by decide +kernel)⟩
theorem cv_X8_23 : am_CV RX8 23 mX5_add 1 := ⟨ce_X5_add, (am_tT 990 (by decide +kernel)), (am_tT 619 (by decide +kernel)), am_tT 620 (by decide +kernel)⟩
theorem cp_X8_29 : am_CP RX8 29 mX2_moves 2 := ⟨ce_X2_moves, (am_tT 991 (by decide +kernel)), (am_tT 979 (by decide +kernel)), (am_tT 377 (by decide +kernel)), (am_tT 977 (by decide +kernel)), by decide +kernel⟩
set_option maxRecDepth 100000 in
theorem cu_X8_33_8 : am_CU RX8 33 (⟨"SmokeRings$Through", "ends", "(ILSmokeRings$Row;)I"⟩ : MethodName) RX2 RX8 mX2_ends 2 := ⟨ce_X2_ends, (am_tT 992 (by decide +kernel)), (am_tT 993 (by decide +kernel)), (am_tT 996 (by decide +kernel)), ⟨_, _, _, (am_tC (am_in4 _ (List.mem_of_getElem? (i := 221) rfl)) rfl)⟩, am_tT 995 (by decide +kernel), (am_tT 996 (by decide +kernel)), by decide +kernel⟩
theorem ci_X9_3 : am_CI RX9 3 mX0_init 3 := ⟨ce_X0_init, (am_tT 403 (by decide +kernel)), (am_tT 391 (by decide +kernel)), rfl, rfl⟩
theorem cv_X9_15 : am_CV RX9 15 mX3_isNear 1 := ⟨ce_X3_isNear, (am_tT 559 (by decide +kernel)), (am_tT 509 (by decide +kernel)), am_tT 510 (by decide +kernel)⟩
theorem cv_X9_19 : am_CV RX9 19 mX5_add 1 := ⟨ce_X5_add, (am_tT 969 (by decide +kernel)), (am_tT 619 (by decide +kernel)), am_tT 620 (by decide +kernel)⟩
theorem cv_X9_32 : am_CV RX9 32 mX9_goes 2 := ⟨ce_X9_goes, (am_tT 1034 (by decide +kernel)), (am_tT 967 (by decide +kernel)), am_tT 1601 (by decide +kernel)⟩
theorem ci_X10_1 : am_CI RX10 1 mX2_init 3 := ⟨ce_X2_init, (am_tT 413 (by decide +kernel)), (am_tT 355 (by decide +kernel)), rfl, rfl⟩
theorem cs_X10_13 : am_CS RX10 13 mJ9_abs_0f7a4 1 := ⟨ce_J9_abs_0f7a4, (am_tT 479 (by decide +kernel)), (am_tT 480 (by decide +kernel))⟩
theorem cn_X10_27 : am_CN RX10 27 mX11_quotient 2 := ⟨ce_X11_quotient, ⟨"SmokeRings", List.mem_filter.mpr ⟨List.mem_of_getElem? (i := 482) (by decide +kernel), rfl⟩⟩, (am_tT 331 (by decide +kernel))⟩
theorem cv_X10_33 : am_CV RX10 33 mX5_add 1 := ⟨ce_X5_add, (am_tT 985 (by decide +kernel)), (am_tT 619 (by decide +kernel)), am_tT 620 (by decide +kernel)⟩
theorem cp_X10_39 : am_CP RX10 39 mX2_moves 2 := ⟨ce_X2_moves, (am_tT 986 (by decide +kernel)), (am_tT 979 (by decide +kernel)), (am_tT 417 (by decide +kernel)), (am_tT 977 (by decide +kernel)), by decide +kernel⟩
theorem co_X11_3 : Cond.methodLink RX11 3 Lib.objectInit ∈ am_T := (am_tT 83 (by decide +kernel))
theorem ci_X11_11 : am_CI RX11 11 mX4_init 0 := ⟨ce_X4_init, (am_tT 88 (by decide +kernel)), (am_tT 89 (by decide +kernel)), rfl, rfl⟩
theorem ci_X11_35 : am_CI RX11 35 mX5_init 1 := ⟨ce_X5_init, (am_tT 252 (by decide +kernel)), (am_tT 180 (by decide +kernel)), rfl, rfl⟩
theorem ci_X11_44 : am_CI RX11 44 mX7_init 0 := ⟨ce_X7_init, (am_tT 254 (by decide +kernel)), (am_tT 150 (by decide +kernel)), rfl, rfl⟩
theorem cs_X11_56 : am_CS RX11 56 mX11_isHeld 3 := ⟨ce_X11_isHeld, (am_tT 290 (by decide +kernel)), (am_tT 291 (by decide +kernel))⟩
theorem cv_X11_61 : am_CV RX11 61 mX11_error 1 := ⟨ce_X11_error, (am_tT 294 (by decide +kernel)), (am_tT 296 (by decide +kernel)), am_tT 0 (by decide +kernel)⟩
theorem cv_X11_65 : am_CV RX11 65 mX4_isFull 0 := ⟨ce_X4_isFull, (am_tT 299 (by decide +kernel)), (am_tT 300 (by decide +kernel)), am_tT 301 (by decide +kernel)⟩
theorem cv_X11_70 : am_CV RX11 70 mX4_addRing 6 := ⟨ce_X4_addRing, (am_tT 304 (by decide +kernel)), (am_tT 305 (by decide +kernel)), am_tT 306 (by decide +kernel)⟩
theorem cv_X11_74 : am_CV RX11 74 mX4_hasRing 1 := ⟨ce_X4_hasRing, (am_tT 315 (by decide +kernel)), (am_tT 316 (by decide +kernel)), am_tT 317 (by decide +kernel)⟩
theorem cv_X11_82 : am_CV RX11 82 mX3_trait 1 := ⟨ce_X3_trait, (am_tT 319 (by decide +kernel)), (am_tT 320 (by decide +kernel)), am_tT 321 (by decide +kernel)⟩
theorem cs_X11_91 : am_CS RX11 91 mX11_asBit 1 := ⟨ce_X11_asBit, (am_tT 337 (by decide +kernel)), (am_tT 324 (by decide +kernel))⟩
theorem cs_X11_101 : am_CS RX11 101 mX11_makeLaw 3 := ⟨ce_X11_makeLaw, (am_tT 346 (by decide +kernel)), (am_tT 347 (by decide +kernel))⟩
theorem cv_X11_105 : am_CV RX11 105 mX4_addLaw 1 := ⟨ce_X4_addLaw, (am_tT 435 (by decide +kernel)), (am_tT 436 (by decide +kernel)), am_tT 437 (by decide +kernel)⟩
theorem cv_X11_109 : am_CV RX11 109 mX4_hasLaw 1 := ⟨ce_X4_hasLaw, (am_tT 443 (by decide +kernel)), (am_tT 444 (by decide +kernel)), am_tT 445 (by decide +kernel)⟩
theorem cv_X11_124 : am_CV RX11 124 mX4_isOn 1 := ⟨ce_X4_isOn, (am_tT 447 (by decide +kernel)), (am_tT 448 (by decide +kernel)), am_tT 449 (by decide +kernel)⟩
theorem cs_X11_127 : am_CS RX11 127 mX11_isOfKind 2 := ⟨ce_X11_isOfKind, (am_tT 455 (by decide +kernel)), (am_tT 456 (by decide +kernel))⟩
set_option maxRecDepth 100000 in
theorem cu_X11_135_0 : am_CU RX11 135 yX2_spreads RX2 RX0 mX2_spreads 2 := ⟨ce_X2_spreads, (am_tT 467 (by decide +kernel)), (am_tT 470 (by decide +kernel)), (am_tT 468 (by decide +kernel)), ⟨_, _, _, (am_tC (am_in2 _ (List.mem_of_getElem? (i := 190) rfl)) rfl)⟩, am_tT 471 (by decide +kernel), (am_tT 468 (by decide +kernel)), by decide +kernel⟩
set_option maxRecDepth 100000 in
theorem cu_X11_135_1 : am_CU RX11 135 yX2_spreads RX2 RX1 mX2_spreads 2 := ⟨ce_X2_spreads, (am_tT 467 (by decide +kernel)), (am_tT 470 (by decide +kernel)), (am_tT 468 (by decide +kernel)), ⟨_, _, _, (am_tC (am_in2 _ (List.mem_of_getElem? (i := 190) rfl)) rfl)⟩, am_tT 472 (by decide +kernel), (am_tT 468 (by decide +kernel)), by decide +kernel⟩
set_option maxRecDepth 100000 in
theorem cu_X11_135_2 : am_CU RX11 135 yX2_spreads RX2 RX2 mX2_spreads 2 := ⟨ce_X2_spreads, (am_tT 467 (by decide +kernel)), (am_tT 470 (by decide +kernel)), (am_tT 468 (by decide +kernel)), ⟨_, _, _, (am_tC (am_in2 _ (List.mem_of_getElem? (i := 190) rfl)) rfl)⟩, am_tT 469 (by decide +kernel), (am_tT 468 (by decide +kernel)), by decide +kernel⟩
set_option maxRecDepth 100000 in
theorem cu_X11_135_6 : am_CU RX11 135 yX2_spreads RX2 RX6 mX6_spreads 2 := ⟨ce_X6_spreads, (am_tT 467 (by decide +kernel)), (am_tT 470 (by decide +kernel)), (am_tT 468 (by decide +kernel)), ⟨_, _, _, (am_tC (am_in2 _ (List.mem_of_getElem? (i := 190) rfl)) rfl)⟩, am_tT 473 (by decide +kernel), (am_tT 474 (by decide +kernel)), by decide +kernel⟩
set_option maxRecDepth 100000 in
theorem cu_X11_135_8 : am_CU RX11 135 yX2_spreads RX2 RX8 mX2_spreads 2 := ⟨ce_X2_spreads, (am_tT 467 (by decide +kernel)), (am_tT 470 (by decide +kernel)), (am_tT 468 (by decide +kernel)), ⟨_, _, _, (am_tC (am_in2 _ (List.mem_of_getElem? (i := 190) rfl)) rfl)⟩, am_tT 483 (by decide +kernel), (am_tT 468 (by decide +kernel)), by decide +kernel⟩
set_option maxRecDepth 100000 in
theorem cu_X11_135_9 : am_CU RX11 135 yX2_spreads RX2 RX9 mX2_spreads 2 := ⟨ce_X2_spreads, (am_tT 467 (by decide +kernel)), (am_tT 470 (by decide +kernel)), (am_tT 468 (by decide +kernel)), ⟨_, _, _, (am_tC (am_in2 _ (List.mem_of_getElem? (i := 190) rfl)) rfl)⟩, am_tT 484 (by decide +kernel), (am_tT 468 (by decide +kernel)), by decide +kernel⟩
set_option maxRecDepth 100000 in
theorem cu_X11_135_10 : am_CU RX11 135 yX2_spreads RX2 RX10 mX10_spreads 2 := ⟨ce_X10_spreads, (am_tT 467 (by decide +kernel)), (am_tT 470 (by decide +kernel)), (am_tT 468 (by decide +kernel)), ⟨_, _, _, (am_tC (am_in2 _ (List.mem_of_getElem? (i := 190) rfl)) rfl)⟩, am_tT 485 (by decide +kernel), (am_tT 477 (by decide +kernel)), by decide +kernel⟩
set_option maxRecDepth 100000 in
theorem cu_X11_139_0 : am_CU RX11 139 yX2_lifts RX2 RX0 mX2_lifts 2 := ⟨ce_X2_lifts, (am_tT 487 (by decide +kernel)), (am_tT 490 (by decide +kernel)), (am_tT 488 (by decide +kernel)), ⟨_, _, _, (am_tC (am_in2 _ (List.mem_of_getElem? (i := 204) rfl)) rfl)⟩, am_tT 491 (by decide +kernel), (am_tT 488 (by decide +kernel)), by decide +kernel⟩
set_option maxRecDepth 100000 in
theorem cu_X11_139_1 : am_CU RX11 139 yX2_lifts RX2 RX1 mX2_lifts 2 := ⟨ce_X2_lifts, (am_tT 487 (by decide +kernel)), (am_tT 490 (by decide +kernel)), (am_tT 488 (by decide +kernel)), ⟨_, _, _, (am_tC (am_in2 _ (List.mem_of_getElem? (i := 204) rfl)) rfl)⟩, am_tT 492 (by decide +kernel), (am_tT 488 (by decide +kernel)), by decide +kernel⟩
set_option maxRecDepth 100000 in
theorem cu_X11_139_2 : am_CU RX11 139 yX2_lifts RX2 RX2 mX2_lifts 2 := ⟨ce_X2_lifts, (am_tT 487 (by decide +kernel)), (am_tT 490 (by decide +kernel)), (am_tT 488 (by decide +kernel)), ⟨_, _, _, (am_tC (am_in2 _ (List.mem_of_getElem? (i := 204) rfl)) rfl)⟩, am_tT 489 (by decide +kernel), (am_tT 488 (by decide +kernel)), by decide +kernel⟩
set_option maxRecDepth 100000 in
theorem cu_X11_139_6 : am_CU RX11 139 yX2_lifts RX2 RX6 mX6_lifts 2 := ⟨ce_X6_lifts, (am_tT 487 (by decide +kernel)), (am_tT 490 (by decide +kernel)), (am_tT 488 (by decide +kernel)), ⟨_, _, _, (am_tC (am_in2 _ (List.mem_of_getElem? (i := 204) rfl)) rfl)⟩, am_tT 493 (by decide +kernel), (am_tT 494 (by decide +kernel)), by decide +kernel⟩
set_option maxRecDepth 100000 in
theorem cu_X11_139_8 : am_CU RX11 139 yX2_lifts RX2 RX8 mX2_lifts 2 := ⟨ce_X2_lifts, (am_tT 487 (by decide +kernel)), (am_tT 490 (by decide +kernel)), (am_tT 488 (by decide +kernel)), ⟨_, _, _, (am_tC (am_in2 _ (List.mem_of_getElem? (i := 204) rfl)) rfl)⟩, am_tT 497 (by decide +kernel), (am_tT 488 (by decide +kernel)), by decide +kernel⟩
set_option maxRecDepth 100000 in
theorem cu_X11_139_9 : am_CU RX11 139 yX2_lifts RX2 RX9 mX2_lifts 2 := ⟨ce_X2_lifts, (am_tT 487 (by decide +kernel)), (am_tT 490 (by decide +kernel)), (am_tT 488 (by decide +kernel)), ⟨_, _, _, (am_tC (am_in2 _ (List.mem_of_getElem? (i := 204) rfl)) rfl)⟩, am_tT 498 (by decide +kernel), (am_tT 488 (by decide +kernel)), by decide +kernel⟩
set_option maxRecDepth 100000 in
theorem cu_X11_139_10 : am_CU RX11 139 yX2_lifts RX2 RX10 mX2_lifts 2 := ⟨ce_X2_lifts, (am_tT 487 (by decide +kernel)), (am_tT 490 (by decide +kernel)), (am_tT 488 (by decide +kernel)), ⟨_, _, _, (am_tC (am_in2 _ (List.mem_of_getElem? (i := 204) rfl)) rfl)⟩, am_tT 499 (by decide +kernel), (am_tT 488 (by decide +kernel)), by decide +kernel⟩
set_option maxRecDepth 100000 in
theorem cu_X11_142_0 : am_CU RX11 142 yX2_widens RX2 RX0 mX0_widens 2 := ⟨ce_X0_widens, (am_tT 501 (by decide +kernel)), (am_tT 504 (by decide +kernel)), (am_tT 502 (by decide +kernel)), ⟨_, _, _, (am_tC (am_in3 _ (List.mem_of_getElem? (i := 0) rfl)) rfl)⟩, am_tT 505 (by decide +kernel), (am_tT 506 (by decide +kernel)), by decide +kernel⟩
set_option maxRecDepth 100000 in
theorem cu_X11_142_1 : am_CU RX11 142 yX2_widens RX2 RX1 mX2_widens 2 := ⟨ce_X2_widens, (am_tT 501 (by decide +kernel)), (am_tT 504 (by decide +kernel)), (am_tT 502 (by decide +kernel)), ⟨_, _, _, (am_tC (am_in3 _ (List.mem_of_getElem? (i := 0) rfl)) rfl)⟩, am_tT 525 (by decide +kernel), (am_tT 502 (by decide +kernel)), by decide +kernel⟩
set_option maxRecDepth 100000 in
theorem cu_X11_142_2 : am_CU RX11 142 yX2_widens RX2 RX2 mX2_widens 2 := ⟨ce_X2_widens, (am_tT 501 (by decide +kernel)), (am_tT 504 (by decide +kernel)), (am_tT 502 (by decide +kernel)), ⟨_, _, _, (am_tC (am_in3 _ (List.mem_of_getElem? (i := 0) rfl)) rfl)⟩, am_tT 503 (by decide +kernel), (am_tT 502 (by decide +kernel)), by decide +kernel⟩
set_option maxRecDepth 100000 in
theorem cu_X11_142_6 : am_CU RX11 142 yX2_widens RX2 RX6 mX10_widens 2 := ⟨ce_X10_widens, (am_tT 501 (by decide +kernel)), (am_tT 504 (by decide +kernel)), (am_tT 502 (by decide +kernel)), ⟨_, _, _, (am_tC (am_in3 _ (List.mem_of_getElem? (i := 0) rfl)) rfl)⟩, am_tT 526 (by decide +kernel), (am_tT 527 (by decide +kernel)), by decide +kernel⟩
set_option maxRecDepth 100000 in
theorem cu_X11_142_8 : am_CU RX11 142 yX2_widens RX2 RX8 mX8_widens 2 := ⟨ce_X8_widens, (am_tT 501 (by decide +kernel)), (am_tT 504 (by decide +kernel)), (am_tT 502 (by decide +kernel)), ⟨_, _, _, (am_tC (am_in3 _ (List.mem_of_getElem? (i := 0) rfl)) rfl)⟩, am_tT 529 (by decide +kernel), (am_tT 530 (by decide +kernel)), by decide +kernel⟩
set_option maxRecDepth 100000 in
theorem cu_X11_142_9 : am_CU RX11 142 yX2_widens RX2 RX9 mX0_widens 2 := ⟨ce_X0_widens, (am_tT 501 (by decide +kernel)), (am_tT 504 (by decide +kernel)), (am_tT 502 (by decide +kernel)), ⟨_, _, _, (am_tC (am_in3 _ (List.mem_of_getElem? (i := 0) rfl)) rfl)⟩, am_tT 534 (by decide +kernel), (am_tT 506 (by decide +kernel)), by decide +kernel⟩
set_option maxRecDepth 100000 in
theorem cu_X11_142_10 : am_CU RX11 142 yX2_widens RX2 RX10 mX10_widens 2 := ⟨ce_X10_widens, (am_tT 501 (by decide +kernel)), (am_tT 504 (by decide +kernel)), (am_tT 502 (by decide +kernel)), ⟨_, _, _, (am_tC (am_in3 _ (List.mem_of_getElem? (i := 0) rfl)) rfl)⟩, am_tT 535 (by decide +kernel), (am_tT 527 (by decide +kernel)), by decide +kernel⟩
set_option maxRecDepth 100000 in
theorem cu_X11_146_0 : am_CU RX11 146 yX2_endsBy RX2 RX0 mX2_endsBy 2 := ⟨ce_X2_endsBy, (am_tT 543 (by decide +kernel)), (am_tT 546 (by decide +kernel)), (am_tT 544 (by decide +kernel)), ⟨_, _, _, (am_tC (am_in3 _ (List.mem_of_getElem? (i := 25) rfl)) rfl)⟩, am_tT 547 (by decide +kernel), (am_tT 544 (by decide +kernel)), by decide +kernel⟩
set_option maxRecDepth 100000 in
theorem cu_X11_146_1 : am_CU RX11 146 yX2_endsBy RX2 RX1 mX1_endsBy 2 := ⟨ce_X1_endsBy, (am_tT 543 (by decide +kernel)), (am_tT 546 (by decide +kernel)), (am_tT 544 (by decide +kernel)), ⟨_, _, _, (am_tC (am_in3 _ (List.mem_of_getElem? (i := 25) rfl)) rfl)⟩, am_tT 548 (by decide +kernel), (am_tT 549 (by decide +kernel)), by decide +kernel⟩
set_option maxRecDepth 100000 in
theorem cu_X11_146_2 : am_CU RX11 146 yX2_endsBy RX2 RX2 mX2_endsBy 2 := ⟨ce_X2_endsBy, (am_tT 543 (by decide +kernel)), (am_tT 546 (by decide +kernel)), (am_tT 544 (by decide +kernel)), ⟨_, _, _, (am_tC (am_in3 _ (List.mem_of_getElem? (i := 25) rfl)) rfl)⟩, am_tT 545 (by decide +kernel), (am_tT 544 (by decide +kernel)), by decide +kernel⟩
set_option maxRecDepth 100000 in
theorem cu_X11_146_6 : am_CU RX11 146 yX2_endsBy RX2 RX6 mX2_endsBy 2 := ⟨ce_X2_endsBy, (am_tT 543 (by decide +kernel)), (am_tT 546 (by decide +kernel)), (am_tT 544 (by decide +kernel)), ⟨_, _, _, (am_tC (am_in3 _ (List.mem_of_getElem? (i := 25) rfl)) rfl)⟩, am_tT 554 (by decide +kernel), (am_tT 544 (by decide +kernel)), by decide +kernel⟩
set_option maxRecDepth 100000 in
theorem cu_X11_146_8 : am_CU RX11 146 yX2_endsBy RX2 RX8 mX2_endsBy 2 := ⟨ce_X2_endsBy, (am_tT 543 (by decide +kernel)), (am_tT 546 (by decide +kernel)), (am_tT 544 (by decide +kernel)), ⟨_, _, _, (am_tC (am_in3 _ (List.mem_of_getElem? (i := 25) rfl)) rfl)⟩, am_tT 555 (by decide +kernel), (am_tT 544 (by decide +kernel)), by decide +kernel⟩
set_option maxRecDepth 100000 in
theorem cu_X11_146_9 : am_CU RX11 146 yX2_endsBy RX2 RX9 mX9_endsBy 2 := ⟨ce_X9_endsBy, (am_tT 543 (by decide +kernel)), (am_tT 546 (by decide +kernel)), (am_tT 544 (by decide +kernel)), ⟨_, _, _, (am_tC (am_in3 _ (List.mem_of_getElem? (i := 25) rfl)) rfl)⟩, am_tT 556 (by decide +kernel), (am_tT 557 (by decide +kernel)), by decide +kernel⟩
set_option maxRecDepth 100000 in
theorem cu_X11_146_10 : am_CU RX11 146 yX2_endsBy RX2 RX10 mX2_endsBy 2 := ⟨ce_X2_endsBy, (am_tT 543 (by decide +kernel)), (am_tT 546 (by decide +kernel)), (am_tT 544 (by decide +kernel)), ⟨_, _, _, (am_tC (am_in3 _ (List.mem_of_getElem? (i := 25) rfl)) rfl)⟩, am_tT 560 (by decide +kernel), (am_tT 544 (by decide +kernel)), by decide +kernel⟩
theorem cv_X11_150 : am_CV RX11 150 mX3_gap 1 := ⟨ce_X3_gap, (am_tT 566 (by decide +kernel)), (am_tT 521 (by decide +kernel)), am_tT 522 (by decide +kernel)⟩
theorem cv_X11_154 : am_CV RX11 154 mX3_isNear 1 := ⟨ce_X3_isNear, (am_tT 567 (by decide +kernel)), (am_tT 509 (by decide +kernel)), am_tT 510 (by decide +kernel)⟩
theorem cv_X11_158 : am_CV RX11 158 mX3_isBehind 1 := ⟨ce_X3_isBehind, (am_tT 568 (by decide +kernel)), (am_tT 540 (by decide +kernel)), am_tT 541 (by decide +kernel)⟩
theorem cv_X11_164 : am_CV RX11 164 mX4_addStroke 2 := ⟨ce_X4_addStroke, (am_tT 577 (by decide +kernel)), (am_tT 578 (by decide +kernel)), am_tT 579 (by decide +kernel)⟩
theorem cv_X11_168 : am_CV RX11 168 mX4_trailing 1 := ⟨ce_X4_trailing, (am_tT 606 (by decide +kernel)), (am_tT 607 (by decide +kernel)), am_tT 608 (by decide +kernel)⟩
theorem cv_X11_179 : am_CV RX11 179 mX5_add 1 := ⟨ce_X5_add, (am_tT 618 (by decide +kernel)), (am_tT 619 (by decide +kernel)), am_tT 620 (by decide +kernel)⟩
theorem cv_X11_186 : am_CV RX11 186 mX7_read 2 := ⟨ce_X7_read, (am_tT 628 (by decide +kernel)), (am_tT 629 (by decide +kernel)), am_tT 630 (by decide +kernel)⟩
theorem cv_X11_194 : am_CV RX11 194 mX7_become 1 := ⟨ce_X7_become, (am_tT 752 (by decide +kernel)), (am_tT 753 (by decide +kernel)), am_tT 754 (by decide +kernel)⟩
theorem cv_X11_198 : am_CV RX11 198 mX4_given 4 := ⟨ce_X4_given, (am_tT 764 (by decide +kernel)), (am_tT 582 (by decide +kernel)), am_tT 583 (by decide +kernel)⟩
theorem cv_X11_202 : am_CV RX11 202 mX11_pass 2 := ⟨ce_X11_pass, (am_tT 769 (by decide +kernel)), (am_tT 771 (by decide +kernel)), am_tT 10 (by decide +kernel)⟩
theorem cv_X11_206 : am_CV RX11 206 mX4_foremost 0 := ⟨ce_X4_foremost, (am_tT 830 (by decide +kernel)), (am_tT 831 (by decide +kernel)), am_tT 832 (by decide +kernel)⟩
theorem cs_X11_211 : am_CS RX11 211 mX11_isAhead 1 := ⟨ce_X11_isAhead, (am_tT 839 (by decide +kernel)), (am_tT 840 (by decide +kernel))⟩
theorem cv_X11_214 : am_CV RX11 214 mX11_goAhead 1 := ⟨ce_X11_goAhead, (am_tT 842 (by decide +kernel)), (am_tT 844 (by decide +kernel)), am_tT 17 (by decide +kernel)⟩
theorem cv_X11_217 : am_CV RX11 217 mX4_wholeCount 0 := ⟨ce_X4_wholeCount, (am_tT 865 (by decide +kernel)), (am_tT 866 (by decide +kernel)), am_tT 867 (by decide +kernel)⟩
theorem cv_X11_220 : am_CV RX11 220 mX4_become 1 := ⟨ce_X4_become, (am_tT 846 (by decide +kernel)), (am_tT 847 (by decide +kernel)), am_tT 848 (by decide +kernel)⟩
theorem cv_X11_223 : am_CV RX11 223 mX4_changesOfFront 2 := ⟨ce_X4_changesOfFront, (am_tT 874 (by decide +kernel)), (am_tT 875 (by decide +kernel)), am_tT 876 (by decide +kernel)⟩
theorem cv_X11_226 : am_CV RX11 226 mX4_greatestX 2 := ⟨ce_X4_greatestX, (am_tT 884 (by decide +kernel)), (am_tT 885 (by decide +kernel)), am_tT 886 (by decide +kernel)⟩
theorem cs_X11_238 : am_CS RX11 238 mX11_quotient 2 := ⟨ce_X11_quotient, (am_tT 892 (by decide +kernel)), (am_tT 331 (by decide +kernel))⟩
theorem cv_X11_241 : am_CV RX11 241 mX4_tick 0 := ⟨ce_X4_tick, (am_tT 774 (by decide +kernel)), (am_tT 775 (by decide +kernel)), am_tT 776 (by decide +kernel)⟩
theorem cv_X11_247 : am_CV RX11 247 mX4_takeRings 1 := ⟨ce_X4_takeRings, (am_tT 901 (by decide +kernel)), (am_tT 851 (by decide +kernel)), am_tT 852 (by decide +kernel)⟩
theorem cs_X11_250 : am_CS RX11 250 mJ9_min_7cf53 2 := ⟨ce_J9_min_7cf53, (am_tT 906 (by decide +kernel)), (am_tT 309 (by decide +kernel))⟩
theorem cv_X11_255 : am_CV RX11 255 mX11_filmError 1 := ⟨ce_X11_filmError, (am_tT 911 (by decide +kernel)), (am_tT 913 (by decide +kernel)), am_tT 18 (by decide +kernel)⟩
theorem cv_X11_259 : am_CV RX11 259 mX11_offBy 2 := ⟨ce_X11_offBy, (am_tT 923 (by decide +kernel)), (am_tT 925 (by decide +kernel)), am_tT 20 (by decide +kernel)⟩
set_option maxRecDepth 100000 in
theorem cu_X11_266_0 : am_CU RX11 266 yX2_goes RX2 RX0 mX2_goes 2 := ⟨ce_X2_goes, (am_tT 954 (by decide +kernel)), (am_tT 957 (by decide +kernel)), (am_tT 955 (by decide +kernel)), ⟨_, _, _, (am_tC (am_in4 _ (List.mem_of_getElem? (i := 198) rfl)) rfl)⟩, am_tT 958 (by decide +kernel), (am_tT 955 (by decide +kernel)), by decide +kernel⟩
set_option maxRecDepth 100000 in
theorem cu_X11_266_1 : am_CU RX11 266 yX2_goes RX2 RX1 mX1_goes 2 := ⟨ce_X1_goes, (am_tT 954 (by decide +kernel)), (am_tT 957 (by decide +kernel)), (am_tT 955 (by decide +kernel)), ⟨_, _, _, (am_tC (am_in4 _ (List.mem_of_getElem? (i := 198) rfl)) rfl)⟩, am_tT 959 (by decide +kernel), (am_tT 960 (by decide +kernel)), by decide +kernel⟩
set_option maxRecDepth 100000 in
theorem cu_X11_266_2 : am_CU RX11 266 yX2_goes RX2 RX2 mX2_goes 2 := ⟨ce_X2_goes, (am_tT 954 (by decide +kernel)), (am_tT 957 (by decide +kernel)), (am_tT 955 (by decide +kernel)), ⟨_, _, _, (am_tC (am_in4 _ (List.mem_of_getElem? (i := 198) rfl)) rfl)⟩, am_tT 956 (by decide +kernel), (am_tT 955 (by decide +kernel)), by decide +kernel⟩
set_option maxRecDepth 100000 in
theorem cu_X11_266_6 : am_CU RX11 266 yX2_goes RX2 RX6 mX2_goes 2 := ⟨ce_X2_goes, (am_tT 954 (by decide +kernel)), (am_tT 957 (by decide +kernel)), (am_tT 955 (by decide +kernel)), ⟨_, _, _, (am_tC (am_in4 _ (List.mem_of_getElem? (i := 198) rfl)) rfl)⟩, am_tT 964 (by decide +kernel), (am_tT 955 (by decide +kernel)), by decide +kernel⟩
set_option maxRecDepth 100000 in
theorem cu_X11_266_8 : am_CU RX11 266 yX2_goes RX2 RX8 mX2_goes 2 := ⟨ce_X2_goes, (am_tT 954 (by decide +kernel)), (am_tT 957 (by decide +kernel)), (am_tT 955 (by decide +kernel)), ⟨_, _, _, (am_tC (am_in4 _ (List.mem_of_getElem? (i := 198) rfl)) rfl)⟩, am_tT 965 (by decide +kernel), (am_tT 955 (by decide +kernel)), by decide +kernel⟩
set_option maxRecDepth 100000 in
theorem cu_X11_266_9 : am_CU RX11 266 yX2_goes RX2 RX9 mX9_goes 2 := ⟨ce_X9_goes, (am_tT 954 (by decide +kernel)), (am_tT 957 (by decide +kernel)), (am_tT 955 (by decide +kernel)), ⟨_, _, _, (am_tC (am_in4 _ (List.mem_of_getElem? (i := 198) rfl)) rfl)⟩, am_tT 966 (by decide +kernel), (am_tT 967 (by decide +kernel)), by decide +kernel⟩
set_option maxRecDepth 100000 in
theorem cu_X11_266_10 : am_CU RX11 266 yX2_goes RX2 RX10 mX2_goes 2 := ⟨ce_X2_goes, (am_tT 954 (by decide +kernel)), (am_tT 957 (by decide +kernel)), (am_tT 955 (by decide +kernel)), ⟨_, _, _, (am_tC (am_in4 _ (List.mem_of_getElem? (i := 198) rfl)) rfl)⟩, am_tT 973 (by decide +kernel), (am_tT 955 (by decide +kernel)), by decide +kernel⟩
set_option maxRecDepth 100000 in
theorem cu_X11_270_0 : am_CU RX11 270 yX2_moves RX2 RX0 mX2_moves 2 := ⟨ce_X2_moves, (am_tT 976 (by decide +kernel)), (am_tT 979 (by decide +kernel)), (am_tT 977 (by decide +kernel)), ⟨_, _, _, (am_tC (am_in4 _ (List.mem_of_getElem? (i := 224) rfl)) rfl)⟩, am_tT 980 (by decide +kernel), (am_tT 977 (by decide +kernel)), by decide +kernel⟩
set_option maxRecDepth 100000 in
theorem cu_X11_270_1 : am_CU RX11 270 yX2_moves RX2 RX1 mX2_moves 2 := ⟨ce_X2_moves, (am_tT 976 (by decide +kernel)), (am_tT 979 (by decide +kernel)), (am_tT 977 (by decide +kernel)), ⟨_, _, _, (am_tC (am_in4 _ (List.mem_of_getElem? (i := 224) rfl)) rfl)⟩, am_tT 981 (by decide +kernel), (am_tT 977 (by decide +kernel)), by decide +kernel⟩
set_option maxRecDepth 100000 in
theorem cu_X11_270_2 : am_CU RX11 270 yX2_moves RX2 RX2 mX2_moves 2 := ⟨ce_X2_moves, (am_tT 976 (by decide +kernel)), (am_tT 979 (by decide +kernel)), (am_tT 977 (by decide +kernel)), ⟨_, _, _, (am_tC (am_in4 _ (List.mem_of_getElem? (i := 224) rfl)) rfl)⟩, am_tT 978 (by decide +kernel), (am_tT 977 (by decide +kernel)), by decide +kernel⟩
set_option maxRecDepth 100000 in
theorem cu_X11_270_6 : am_CU RX11 270 yX2_moves RX2 RX6 mX10_moves 2 := ⟨ce_X10_moves, (am_tT 976 (by decide +kernel)), (am_tT 979 (by decide +kernel)), (am_tT 977 (by decide +kernel)), ⟨_, _, _, (am_tC (am_in4 _ (List.mem_of_getElem? (i := 224) rfl)) rfl)⟩, am_tT 982 (by decide +kernel), (am_tT 983 (by decide +kernel)), by decide +kernel⟩
set_option maxRecDepth 100000 in
theorem cu_X11_270_8 : am_CU RX11 270 yX2_moves RX2 RX8 mX8_moves 2 := ⟨ce_X8_moves, (am_tT 976 (by decide +kernel)), (am_tT 979 (by decide +kernel)), (am_tT 977 (by decide +kernel)), ⟨_, _, _, (am_tC (am_in4 _ (List.mem_of_getElem? (i := 224) rfl)) rfl)⟩, am_tT 987 (by decide +kernel), (am_tT 988 (by decide +kernel)), by decide +kernel⟩
set_option maxRecDepth 100000 in
theorem cu_X11_270_9 : am_CU RX11 270 yX2_moves RX2 RX9 mX2_moves 2 := ⟨ce_X2_moves, (am_tT 976 (by decide +kernel)), (am_tT 979 (by decide +kernel)), (am_tT 977 (by decide +kernel)), ⟨_, _, _, (am_tC (am_in4 _ (List.mem_of_getElem? (i := 224) rfl)) rfl)⟩, am_tT 998 (by decide +kernel), (am_tT 977 (by decide +kernel)), by decide +kernel⟩
set_option maxRecDepth 100000 in
theorem cu_X11_270_10 : am_CU RX11 270 yX2_moves RX2 RX10 mX10_moves 2 := ⟨ce_X10_moves, (am_tT 976 (by decide +kernel)), (am_tT 979 (by decide +kernel)), (am_tT 977 (by decide +kernel)), ⟨_, _, _, (am_tC (am_in4 _ (List.mem_of_getElem? (i := 224) rfl)) rfl)⟩, am_tT 999 (by decide +kernel), (am_tT 983 (by decide +kernel)), by decide +kernel⟩
set_option maxRecDepth 100000 in
theorem cu_X11_273_0 : am_CU RX11 273 yX2_ends RX2 RX0 mX0_ends 2 := ⟨ce_X0_ends, (am_tT 1002 (by decide +kernel)), (am_tT 1593 (by decide +kernel)), (am_tT 996 (by decide +kernel)), ⟨_, _, _, (am_tC (am_in4 _ (List.mem_of_getElem? (i := 221) rfl)) rfl)⟩, am_tT 1594 (by decide +kernel), (am_tT 1003 (by decide +kernel)), by decide +kernel⟩
set_option maxRecDepth 100000 in
theorem cu_X11_273_1 : am_CU RX11 273 yX2_ends RX2 RX1 mX2_ends 2 := ⟨ce_X2_ends, (am_tT 1002 (by decide +kernel)), (am_tT 1593 (by decide +kernel)), (am_tT 996 (by decide +kernel)), ⟨_, _, _, (am_tC (am_in4 _ (List.mem_of_getElem? (i := 221) rfl)) rfl)⟩, am_tT 1595 (by decide +kernel), (am_tT 996 (by decide +kernel)), by decide +kernel⟩
set_option maxRecDepth 100000 in
theorem cu_X11_273_2 : am_CU RX11 273 yX2_ends RX2 RX2 mX2_ends 2 := ⟨ce_X2_ends, (am_tT 1002 (by decide +kernel)), (am_tT 1593 (by decide +kernel)), (am_tT 996 (by decide +kernel)), ⟨_, _, _, (am_tC (am_in4 _ (List.mem_of_getElem? (i := 221) rfl)) rfl)⟩, am_tT 1596 (by decide +kernel), (am_tT 996 (by decide +kernel)), by decide +kernel⟩
set_option maxRecDepth 100000 in
theorem cu_X11_273_6 : am_CU RX11 273 yX2_ends RX2 RX6 mX6_ends 2 := ⟨ce_X6_ends, (am_tT 1002 (by decide +kernel)), (am_tT 1593 (by decide +kernel)), (am_tT 996 (by decide +kernel)), ⟨_, _, _, (am_tC (am_in4 _ (List.mem_of_getElem? (i := 221) rfl)) rfl)⟩, am_tT 1597 (by decide +kernel), (am_tT 1007 (by decide +kernel)), by decide +kernel⟩
set_option maxRecDepth 100000 in
theorem cu_X11_273_8 : am_CU RX11 273 yX2_ends RX2 RX8 mX2_ends 2 := ⟨ce_X2_ends, (am_tT 1002 (by decide +kernel)), (am_tT 1593 (by decide +kernel)), (am_tT 996 (by decide +kernel)), ⟨_, _, _, (am_tC (am_in4 _ (List.mem_of_getElem? (i := 221) rfl)) rfl)⟩, am_tT 1598 (by decide +kernel), (am_tT 996 (by decide +kernel)), by decide +kernel⟩
set_option maxRecDepth 100000 in
theorem cu_X11_273_9 : am_CU RX11 273 yX2_ends RX2 RX9 mX0_ends 2 := ⟨ce_X0_ends, (am_tT 1002 (by decide +kernel)), (am_tT 1593 (by decide +kernel)), (am_tT 996 (by decide +kernel)), ⟨_, _, _, (am_tC (am_in4 _ (List.mem_of_getElem? (i := 221) rfl)) rfl)⟩, am_tT 1599 (by decide +kernel), (am_tT 1003 (by decide +kernel)), by decide +kernel⟩
set_option maxRecDepth 100000 in
theorem cu_X11_273_10 : am_CU RX11 273 yX2_ends RX2 RX10 mX2_ends 2 := ⟨ce_X2_ends, (am_tT 1002 (by decide +kernel)), (am_tT 1593 (by decide +kernel)), (am_tT 996 (by decide +kernel)), ⟨_, _, _, (am_tC (am_in4 _ (List.mem_of_getElem? (i := 221) rfl)) rfl)⟩, am_tT 1600 (by decide +kernel), (am_tT 996 (by decide +kernel)), by decide +kernel⟩
set_option maxRecDepth 100000 in
theorem cu_X11_276_0 : am_CU RX11 276 yX2_tells RX2 RX0 mX2_tells 2 := ⟨ce_X2_tells, (am_tT 1012 (by decide +kernel)), (am_tT 1015 (by decide +kernel)), (am_tT 1013 (by decide +kernel)), ⟨_, _, _, (am_tC (am_in5 _ (List.mem_of_getElem? (i := 20) rfl)) rfl)⟩, am_tT 1016 (by decide +kernel), (am_tT 1013 (by decide +kernel)), by decide +kernel⟩
set_option maxRecDepth 100000 in
theorem cu_X11_276_1 : am_CU RX11 276 yX2_tells RX2 RX1 mX2_tells 2 := ⟨ce_X2_tells, (am_tT 1012 (by decide +kernel)), (am_tT 1015 (by decide +kernel)), (am_tT 1013 (by decide +kernel)), ⟨_, _, _, (am_tC (am_in5 _ (List.mem_of_getElem? (i := 20) rfl)) rfl)⟩, am_tT 1017 (by decide +kernel), (am_tT 1013 (by decide +kernel)), by decide +kernel⟩
set_option maxRecDepth 100000 in
theorem cu_X11_276_2 : am_CU RX11 276 yX2_tells RX2 RX2 mX2_tells 2 := ⟨ce_X2_tells, (am_tT 1012 (by decide +kernel)), (am_tT 1015 (by decide +kernel)), (am_tT 1013 (by decide +kernel)), ⟨_, _, _, (am_tC (am_in5 _ (List.mem_of_getElem? (i := 20) rfl)) rfl)⟩, am_tT 1014 (by decide +kernel), (am_tT 1013 (by decide +kernel)), by decide +kernel⟩
set_option maxRecDepth 100000 in
theorem cu_X11_276_6 : am_CU RX11 276 yX2_tells RX2 RX6 mX6_tells 2 := ⟨ce_X6_tells, (am_tT 1012 (by decide +kernel)), (am_tT 1015 (by decide +kernel)), (am_tT 1013 (by decide +kernel)), ⟨_, _, _, (am_tC (am_in5 _ (List.mem_of_getElem? (i := 20) rfl)) rfl)⟩, am_tT 1018 (by decide +kernel), (am_tT 1019 (by decide +kernel)), by decide +kernel⟩
set_option maxRecDepth 100000 in
theorem cu_X11_276_8 : am_CU RX11 276 yX2_tells RX2 RX8 mX2_tells 2 := ⟨ce_X2_tells, (am_tT 1012 (by decide +kernel)), (am_tT 1015 (by decide +kernel)), (am_tT 1013 (by decide +kernel)), ⟨_, _, _, (am_tC (am_in5 _ (List.mem_of_getElem? (i := 20) rfl)) rfl)⟩, am_tT 1028 (by decide +kernel), (am_tT 1013 (by decide +kernel)), by decide +kernel⟩
set_option maxRecDepth 100000 in
theorem cu_X11_276_9 : am_CU RX11 276 yX2_tells RX2 RX9 mX9_tells 2 := ⟨ce_X9_tells, (am_tT 1012 (by decide +kernel)), (am_tT 1015 (by decide +kernel)), (am_tT 1013 (by decide +kernel)), ⟨_, _, _, (am_tC (am_in5 _ (List.mem_of_getElem? (i := 20) rfl)) rfl)⟩, am_tT 1029 (by decide +kernel), (am_tT 1030 (by decide +kernel)), by decide +kernel⟩
set_option maxRecDepth 100000 in
theorem cu_X11_276_10 : am_CU RX11 276 yX2_tells RX2 RX10 mX2_tells 2 := ⟨ce_X2_tells, (am_tT 1012 (by decide +kernel)), (am_tT 1015 (by decide +kernel)), (am_tT 1013 (by decide +kernel)), ⟨_, _, _, (am_tC (am_in5 _ (List.mem_of_getElem? (i := 20) rfl)) rfl)⟩, am_tT 1035 (by decide +kernel), (am_tT 1013 (by decide +kernel)), by decide +kernel⟩
theorem cv_X11_279 : am_CV RX11 279 mX5_has 1 := ⟨ce_X5_has, (am_tT 1043 (by decide +kernel)), (am_tT 1044 (by decide +kernel)), am_tT 1045 (by decide +kernel)⟩
theorem cs_X11_285 : am_CS RX11 285 mX11_isSheet 1 := ⟨ce_X11_isSheet, (am_tT 915 (by decide +kernel)), (am_tT 916 (by decide +kernel))⟩
theorem cv_X11_289 : am_CV RX11 289 mX5_begin 2 := ⟨ce_X5_begin, (am_tT 1051 (by decide +kernel)), (am_tT 1052 (by decide +kernel)), am_tT 1053 (by decide +kernel)⟩
theorem cv_X11_293 : am_CV RX11 293 mX11_isMissing 1 := ⟨ce_X11_isMissing, (am_tT 918 (by decide +kernel)), (am_tT 920 (by decide +kernel)), am_tT 19 (by decide +kernel)⟩
theorem cv_X11_296 : am_CV RX11 296 mX5_write 2 := ⟨ce_X5_write, (am_tT 1062 (by decide +kernel)), (am_tT 1063 (by decide +kernel)), am_tT 1064 (by decide +kernel)⟩
theorem cv_X11_302 : am_CV RX11 302 mX5_stands 2 := ⟨ce_X5_stands, (am_tT 1071 (by decide +kernel)), (am_tT 1072 (by decide +kernel)), am_tT 1073 (by decide +kernel)⟩
theorem cv_X11_318 : am_CV RX11 318 mX11_checked 1 := ⟨ce_X11_checked, (am_tT 1096 (by decide +kernel)), (am_tT 1098 (by decide +kernel)), am_tT 21 (by decide +kernel)⟩
theorem cv_X11_323 : am_CV RX11 323 mX4_blow 0 := ⟨ce_X4_blow, (am_tT 817 (by decide +kernel)), (am_tT 818 (by decide +kernel)), am_tT 819 (by decide +kernel)⟩
theorem cs_X11_326 : am_CS RX11 326 mJ9_abs_067f4 1 := ⟨ce_J9_abs_067f4, (am_tT 927 (by decide +kernel)), (am_tT 928 (by decide +kernel))⟩
theorem cs_X11_332 : am_CS RX11 332 mJ9_min_f86c9 2 := ⟨ce_J9_min_f86c9, (am_tT 931 (by decide +kernel)), (am_tT 932 (by decide +kernel))⟩
theorem ci_X11_337 : am_CI RX11 337 mX8_init 2 := ⟨ce_X8_init, (am_tT 351 (by decide +kernel)), (am_tT 352 (by decide +kernel)), rfl, rfl⟩
theorem ci_X11_341 : am_CI RX11 341 mX1_init 2 := ⟨ce_X1_init, (am_tT 380 (by decide +kernel)), (am_tT 381 (by decide +kernel)), rfl, rfl⟩
theorem ci_X11_344 : am_CI RX11 344 mX0_init 3 := ⟨ce_X0_init, (am_tT 390 (by decide +kernel)), (am_tT 391 (by decide +kernel)), rfl, rfl⟩
theorem ci_X11_349 : am_CI RX11 349 mX9_init 2 := ⟨ce_X9_init, (am_tT 400 (by decide +kernel)), (am_tT 401 (by decide +kernel)), rfl, rfl⟩
theorem ci_X11_352 : am_CI RX11 352 mX10_init 3 := ⟨ce_X10_init, (am_tT 410 (by decide +kernel)), (am_tT 411 (by decide +kernel)), rfl, rfl⟩
theorem ci_X11_355 : am_CI RX11 355 mX6_init 2 := ⟨ce_X6_init, (am_tT 420 (by decide +kernel)), (am_tT 421 (by decide +kernel)), rfl, rfl⟩
theorem ci_X11_356 : am_CI RX11 356 mX2_init 3 := ⟨ce_X2_init, (am_tT 430 (by decide +kernel)), (am_tT 355 (by decide +kernel)), rfl, rfl⟩
theorem co_X12_1 : Cond.methodLink RX12 1 Lib.objectInit ∈ am_T := (am_tT 1113 (by decide +kernel))
theorem cs_X12_48 : am_CS RX12 48 mX12_in 3 := ⟨ce_X12_in, (am_tT 1186 (by decide +kernel)), (am_tT 1187 (by decide +kernel))⟩
theorem cv_X12_65 : am_CV RX12 65 mX12_finds 1 := ⟨ce_X12_finds, (am_tT 1193 (by decide +kernel)), (am_tT 1195 (by decide +kernel)), am_tT 22 (by decide +kernel)⟩
theorem cs_X12_69 : am_CS RX12 69 mX12_adds 7 := ⟨ce_X12_adds, (am_tT 1198 (by decide +kernel)), (am_tT 1199 (by decide +kernel))⟩
theorem cs_X12_73 : am_CS RX12 73 mX12_of 3 := ⟨ce_X12_of, (am_tT 1213 (by decide +kernel)), (am_tT 1214 (by decide +kernel))⟩
theorem cv_X12_77 : am_CV RX12 77 mX12_isRing 1 := ⟨ce_X12_isRing, (am_tT 1205 (by decide +kernel)), (am_tT 1207 (by decide +kernel)), am_tT 23 (by decide +kernel)⟩
theorem cs_X12_83 : am_CS RX12 83 mX12_paceOf 2 := ⟨ce_X12_paceOf, (am_tT 1210 (by decide +kernel)), (am_tT 1211 (by decide +kernel))⟩
theorem cv_X12_91 : am_CV RX12 91 mX12_isLaw 1 := ⟨ce_X12_isLaw, (am_tT 1234 (by decide +kernel)), (am_tT 1236 (by decide +kernel)), am_tT 24 (by decide +kernel)⟩
theorem cs_X12_96 : am_CS RX12 96 mX12_isOf 2 := ⟨ce_X12_isOf, (am_tT 1243 (by decide +kernel)), (am_tT 1244 (by decide +kernel))⟩
theorem cs_X12_100 : am_CS RX12 100 mX12_apart 2 := ⟨ce_X12_apart, (am_tT 1261 (by decide +kernel)), (am_tT 1262 (by decide +kernel))⟩
theorem cs_X12_104 : am_CS RX12 104 mX12_gap 3 := ⟨ce_X12_gap, (am_tT 1258 (by decide +kernel)), (am_tT 1259 (by decide +kernel))⟩
theorem cs_X12_107 : am_CS RX12 107 mX12_areNear 3 := ⟨ce_X12_areNear, (am_tT 1264 (by decide +kernel)), (am_tT 1265 (by decide +kernel))⟩
theorem cs_X12_111 : am_CS RX12 111 mX12_isBehind 3 := ⟨ce_X12_isBehind, (am_tT 1267 (by decide +kernel)), (am_tT 1268 (by decide +kernel))⟩
theorem cs_X12_114 : am_CS RX12 114 mX12_spreads 3 := ⟨ce_X12_spreads, (am_tT 1273 (by decide +kernel)), (am_tT 1274 (by decide +kernel))⟩
theorem cs_X12_119 : am_CS RX12 119 mX12_widens 4 := ⟨ce_X12_widens, (am_tT 1255 (by decide +kernel)), (am_tT 1256 (by decide +kernel))⟩
theorem cs_X12_123 : am_CS RX12 123 mX12_doesEnd 4 := ⟨ce_X12_doesEnd, (am_tT 1270 (by decide +kernel)), (am_tT 1271 (by decide +kernel))⟩
theorem cs_X12_127 : am_CS RX12 127 mX12_lifts 3 := ⟨ce_X12_lifts, (am_tT 1276 (by decide +kernel)), (am_tT 1277 (by decide +kernel))⟩
theorem cv_X12_143 : am_CV RX12 143 mX12_here 0 := ⟨ce_X12_here, (am_tT 1321 (by decide +kernel)), (am_tT 1323 (by decide +kernel)), am_tT 32 (by decide +kernel)⟩
theorem cv_X12_151 : am_CV RX12 151 mX12_both 0 := ⟨ce_X12_both, (am_tT 1301 (by decide +kernel)), (am_tT 1303 (by decide +kernel)), am_tT 27 (by decide +kernel)⟩
theorem cv_X12_154 : am_CV RX12 154 mX12_takes 1 := ⟨ce_X12_takes, (am_tT 1329 (by decide +kernel)), (am_tT 1331 (by decide +kernel)), am_tT 34 (by decide +kernel)⟩
theorem cv_X12_157 : am_CV RX12 157 mX12_compared 0 := ⟨ce_X12_compared, (am_tT 1305 (by decide +kernel)), (am_tT 1307 (by decide +kernel)), am_tT 28 (by decide +kernel)⟩
theorem cv_X12_160 : am_CV RX12 160 mX12_sum 0 := ⟨ce_X12_sum, (am_tT 1309 (by decide +kernel)), (am_tT 1311 (by decide +kernel)), am_tT 29 (by decide +kernel)⟩
theorem cv_X12_163 : am_CV RX12 163 mX12_product 0 := ⟨ce_X12_product, (am_tT 1313 (by decide +kernel)), (am_tT 1315 (by decide +kernel)), am_tT 30 (by decide +kernel)⟩
theorem cv_X12_166 : am_CV RX12 166 mX12_unit 0 := ⟨ce_X12_unit, (am_tT 1317 (by decide +kernel)), (am_tT 1319 (by decide +kernel)), am_tT 31 (by decide +kernel)⟩
theorem cv_X12_172 : am_CV RX12 172 mX12_wrong 0 := ⟨ce_X12_wrong, (am_tT 1325 (by decide +kernel)), (am_tT 1327 (by decide +kernel)), am_tT 33 (by decide +kernel)⟩
theorem cv_X12_175 : am_CV RX12 175 mX12_either 0 := ⟨ce_X12_either, (am_tT 1297 (by decide +kernel)), (am_tT 1299 (by decide +kernel)), am_tT 26 (by decide +kernel)⟩
theorem cv_X12_178 : am_CV RX12 178 mX12_nameOf 1 := ⟨ce_X12_nameOf, (am_tT 1333 (by decide +kernel)), (am_tT 1335 (by decide +kernel)), am_tT 35 (by decide +kernel)⟩
theorem cv_X12_189 : am_CV RX12 189 mX12_worked 3 := ⟨ce_X12_worked, (am_tT 1293 (by decide +kernel)), (am_tT 1295 (by decide +kernel)), am_tT 25 (by decide +kernel)⟩
theorem cs_X12_193 : am_CS RX12 193 mX12_held 3 := ⟨ce_X12_held, (am_tT 1347 (by decide +kernel)), (am_tT 1348 (by decide +kernel))⟩
theorem cv_X12_197 : am_CV RX12 197 mX12_givesOf 4 := ⟨ce_X12_givesOf, (am_tT 1343 (by decide +kernel)), (am_tT 1345 (by decide +kernel)), am_tT 36 (by decide +kernel)⟩
theorem cv_X12_203 : am_CV RX12 203 mX12_strokes 3 := ⟨ce_X12_strokes, (am_tT 1359 (by decide +kernel)), (am_tT 1361 (by decide +kernel)), am_tT 37 (by decide +kernel)⟩
theorem cv_X12_206 : am_CV RX12 206 mX12_trailsOf 1 := ⟨ce_X12_trailsOf, (am_tT 1367 (by decide +kernel)), (am_tT 1369 (by decide +kernel)), am_tT 38 (by decide +kernel)⟩
theorem cs_X12_209 : am_CS RX12 209 mX12_isWhole 2 := ⟨ce_X12_isWhole, (am_tT 1384 (by decide +kernel)), (am_tT 1385 (by decide +kernel))⟩
theorem cv_X12_214 : am_CV RX12 214 mX12_lawThatEnds 3 := ⟨ce_X12_lawThatEnds, (am_tT 1396 (by decide +kernel)), (am_tT 1398 (by decide +kernel)), am_tT 43 (by decide +kernel)⟩
theorem cv_X12_217 : am_CV RX12 217 mX12_goesOn 2 := ⟨ce_X12_goesOn, (am_tT 1387 (by decide +kernel)), (am_tT 1389 (by decide +kernel)), am_tT 41 (by decide +kernel)⟩
theorem cv_X12_221 : am_CV RX12 221 mX12_mayEnd 2 := ⟨ce_X12_mayEnd, (am_tT 1392 (by decide +kernel)), (am_tT 1394 (by decide +kernel)), am_tT 42 (by decide +kernel)⟩
theorem cv_X12_224 : am_CV RX12 224 mX12_goesBy 1 := ⟨ce_X12_goesBy, (am_tT 1380 (by decide +kernel)), (am_tT 1382 (by decide +kernel)), am_tT 40 (by decide +kernel)⟩
theorem cv_X12_230 : am_CV RX12 230 mX12_goesAhead 2 := ⟨ce_X12_goesAhead, (am_tT 1376 (by decide +kernel)), (am_tT 1378 (by decide +kernel)), am_tT 39 (by decide +kernel)⟩
theorem cs_X12_234 : am_CS RX12 234 mX12_frontOf 1 := ⟨ce_X12_frontOf, (am_tT 1409 (by decide +kernel)), (am_tT 1410 (by decide +kernel))⟩
theorem cs_X12_240 : am_CS RX12 240 mX12_copies 2 := ⟨ce_X12_copies, (am_tT 1424 (by decide +kernel)), (am_tT 1425 (by decide +kernel))⟩
theorem cs_X12_244 : am_CS RX12 244 mX12_isAhead 1 := ⟨ce_X12_isAhead, (am_tT 1416 (by decide +kernel)), (am_tT 1417 (by decide +kernel))⟩
theorem cv_X12_247 : am_CV RX12 247 mX12_ahead 1 := ⟨ce_X12_ahead, (am_tT 1420 (by decide +kernel)), (am_tT 1422 (by decide +kernel)), am_tT 44 (by decide +kernel)⟩
theorem cs_X12_251 : am_CS RX12 251 mX12_wholeIn 1 := ⟨ce_X12_wholeIn, (am_tT 1431 (by decide +kernel)), (am_tT 1432 (by decide +kernel))⟩
theorem cv_X12_254 : am_CV RX12 254 mX12_turnsIn 2 := ⟨ce_X12_turnsIn, (am_tT 1438 (by decide +kernel)), (am_tT 1440 (by decide +kernel)), am_tT 45 (by decide +kernel)⟩
theorem cv_X12_257 : am_CV RX12 257 mX12_farIn 3 := ⟨ce_X12_farIn, (am_tT 1446 (by decide +kernel)), (am_tT 1448 (by decide +kernel)), am_tT 46 (by decide +kernel)⟩
theorem cs_X12_267 : am_CS RX12 267 mX12_isSheet 1 := ⟨ce_X12_isSheet, (am_tT 1476 (by decide +kernel)), (am_tT 1477 (by decide +kernel))⟩
theorem cv_X12_270 : am_CV RX12 270 mX12_whyNoFilm 1 := ⟨ce_X12_whyNoFilm, (am_tT 1472 (by decide +kernel)), (am_tT 1474 (by decide +kernel)), am_tT 47 (by decide +kernel)⟩
theorem cv_X12_273 : am_CV RX12 273 mX12_offIn 2 := ⟨ce_X12_offIn, (am_tT 1479 (by decide +kernel)), (am_tT 1481 (by decide +kernel)), am_tT 48 (by decide +kernel)⟩
theorem cv_X12_284 : am_CV RX12 284 mX12_ran 1 := ⟨ce_X12_ran, (am_tT 1514 (by decide +kernel)), (am_tT 1516 (by decide +kernel)), am_tT 51 (by decide +kernel)⟩
theorem cs_X12_287 : am_CS RX12 287 mX12_above 1 := ⟨ce_X12_above, (am_tT 1518 (by decide +kernel)), (am_tT 1519 (by decide +kernel))⟩
theorem cv_X12_290 : am_CV RX12 290 mX12_goes 2 := ⟨ce_X12_goes, (am_tT 1510 (by decide +kernel)), (am_tT 1512 (by decide +kernel)), am_tT 50 (by decide +kernel)⟩
theorem cv_X12_293 : am_CV RX12 293 mX12_own 0 := ⟨ce_X12_own, (am_tT 1506 (by decide +kernel)), (am_tT 1508 (by decide +kernel)), am_tT 49 (by decide +kernel)⟩
theorem cv_X12_296 : am_CV RX12 296 mX12_moves 2 := ⟨ce_X12_moves, (am_tT 1521 (by decide +kernel)), (am_tT 1523 (by decide +kernel)), am_tT 52 (by decide +kernel)⟩
theorem cv_X12_299 : am_CV RX12 299 mX12_ends 2 := ⟨ce_X12_ends, (am_tT 1525 (by decide +kernel)), (am_tT 1527 (by decide +kernel)), am_tT 53 (by decide +kernel)⟩
theorem cv_X12_302 : am_CV RX12 302 mX12_toldM 0 := ⟨ce_X12_toldM, (am_tT 1529 (by decide +kernel)), (am_tT 1531 (by decide +kernel)), am_tT 54 (by decide +kernel)⟩
theorem cv_X12_305 : am_CV RX12 305 mX12_tells 2 := ⟨ce_X12_tells, (am_tT 1533 (by decide +kernel)), (am_tT 1535 (by decide +kernel)), am_tT 55 (by decide +kernel)⟩
theorem cv_J0_335 : am_CV RJ0 335 mJ0_coder_7d493 0 := ⟨ce_J0_coder_7d493, (am_tT 661 (by decide +kernel)), (am_tT 662 (by decide +kernel)), am_tT 663 (by decide +kernel)⟩
theorem cv_J0_633 : am_CV RJ0 633 mJ0_indexOf_7cf53 2 := ⟨ce_J0_indexOf_7cf53, (am_tT 647 (by decide +kernel)), (am_tT 648 (by decide +kernel)), am_tT 649 (by decide +kernel)⟩
theorem cv_J0_492 : am_CV RJ0 492 mJ0_isLatin1_aae02 0 := ⟨ce_J0_isLatin1_aae02, (am_tT 651 (by decide +kernel)), (am_tT 652 (by decide +kernel)), am_tT 653 (by decide +kernel)⟩
theorem cv_J0_505 : am_CV RJ0 505 mJ0_length_8abf5 0 := ⟨ce_J0_length_8abf5, (am_tT 657 (by decide +kernel)), (am_tT 658 (by decide +kernel)), am_tT 659 (by decide +kernel)⟩
theorem cs_J0_637 : am_CS RJ0 637 mJ1_indexOf_4cfef 4 := ⟨ce_J1_indexOf_4cfef, (am_tT 665 (by decide +kernel)), (am_tT 666 (by decide +kernel))⟩
theorem cs_J0_640 : am_CS RJ0 640 mJ2_indexOf_4cfef 4 := ⟨ce_J2_indexOf_4cfef, (am_tT 676 (by decide +kernel)), (am_tT 677 (by decide +kernel))⟩
theorem cs_J0_1062 : am_CS RJ0 1062 mJ3_checkFromToIndex_8c36e 4 := ⟨ce_J3_checkFromToIndex_8c36e, (am_tT 696 (by decide +kernel)), (am_tT 697 (by decide +kernel))⟩
theorem cs_J1_88 : am_CS RJ1 88 mJ1_canEncode_9a6ad 1 := ⟨ce_J1_canEncode_9a6ad, (am_tT 668 (by decide +kernel)), (am_tT 669 (by decide +kernel))⟩
theorem cs_J1_92 : am_CS RJ1 92 mJ9_max_7cf53 2 := ⟨ce_J9_max_7cf53, (am_tT 671 (by decide +kernel)), (am_tT 611 (by decide +kernel))⟩
theorem cs_J1_38 : am_CS RJ1 38 mJ9_min_7cf53 2 := ⟨ce_J9_min_7cf53, (am_tT 672 (by decide +kernel)), (am_tT 309 (by decide +kernel))⟩
theorem cs_J1_95 : am_CS RJ1 95 mJ1_indexOfChar_4cfef 4 := ⟨ce_J1_indexOfChar_4cfef, (am_tT 673 (by decide +kernel)), (am_tT 674 (by decide +kernel))⟩
theorem cs_J2_48 : am_CS RJ2 48 mJ2_length_9d52b 1 := ⟨ce_J2_length_9d52b, (am_tT 688 (by decide +kernel)), (am_tT 689 (by decide +kernel))⟩
theorem cs_J2_224 : am_CS RJ2 224 mJ9_max_7cf53 2 := ⟨ce_J9_max_7cf53, (am_tT 679 (by decide +kernel)), (am_tT 611 (by decide +kernel))⟩
theorem cs_J2_183 : am_CS RJ2 183 mJ9_min_7cf53 2 := ⟨ce_J9_min_7cf53, (am_tT 680 (by decide +kernel)), (am_tT 309 (by decide +kernel))⟩
theorem cs_J2_228 : am_CS RJ2 228 mJ2_indexOfChar_4cfef 4 := ⟨ce_J2_indexOfChar_4cfef, (am_tT 682 (by decide +kernel)), (am_tT 683 (by decide +kernel))⟩
theorem cs_J2_232 : am_CS RJ2 232 mJ2_indexOfSupplementary_4cfef 4 := ⟨ce_J2_indexOfSupplementary_4cfef, (am_tT 711 (by decide +kernel)), (am_tT 712 (by decide +kernel))⟩
theorem cs_J2_96 : am_CS RJ2 96 mJ2_checkBoundsBeginEnd_d044e 3 := ⟨ce_J2_checkBoundsBeginEnd_d044e, (am_tT 685 (by decide +kernel)), (am_tT 686 (by decide +kernel))⟩
theorem cs_J2_244 : am_CS RJ2 244 mJ2_indexOfCharUnsafe_4cfef 4 := ⟨ce_J2_indexOfCharUnsafe_4cfef, (am_tT 699 (by decide +kernel)), (am_tT 700 (by decide +kernel))⟩
theorem cs_J2_71 : am_CS RJ2 71 mJ2_getChar_3b067 2 := ⟨ce_J2_getChar_3b067, (am_tT 702 (by decide +kernel)), (am_tT 703 (by decide +kernel))⟩
theorem cs_J2_164 : am_CS RJ2 164 mJ11_isValidCodePoint_9a6ad 1 := ⟨ce_J11_isValidCodePoint_9a6ad, (am_tT 714 (by decide +kernel)), (am_tT 715 (by decide +kernel))⟩
theorem cs_J2_157 : am_CS RJ2 157 mJ11_highSurrogate_5068e 1 := ⟨ce_J11_highSurrogate_5068e, (am_tT 717 (by decide +kernel)), (am_tT 718 (by decide +kernel))⟩
theorem cs_J2_161 : am_CS RJ2 161 mJ11_lowSurrogate_5068e 1 := ⟨ce_J11_lowSurrogate_5068e, (am_tT 721 (by decide +kernel)), (am_tT 722 (by decide +kernel))⟩
theorem cs_J2_241 : am_CS RJ2 241 mJ0_checkBoundsBeginEnd_23922 3 := ⟨ce_J0_checkBoundsBeginEnd_23922, (am_tT 691 (by decide +kernel)), (am_tT 692 (by decide +kernel))⟩
theorem ci_L_9 : am_CI RL 9 mX11_init 0 := ⟨ce_X11_init, (am_tT 80 (by decide +kernel)), (am_tT 81 (by decide +kernel)), rfl, rfl⟩
theorem ci_L_12 : am_CI RL 12 mX12_init 0 := ⟨ce_X12_init, (am_tT 1110 (by decide +kernel)), (am_tT 1111 (by decide +kernel)), rfl, rfl⟩
theorem cv_L_13 : am_CV RL 13 mX11_ring 4 := ⟨ce_X11_ring, (am_tT 283 (by decide +kernel)), (am_tT 284 (by decide +kernel)), am_tT 285 (by decide +kernel)⟩
theorem cv_L_17 : am_CV RL 17 mX12_ring 4 := ⟨ce_X12_ring, (am_tT 1179 (by decide +kernel)), (am_tT 1180 (by decide +kernel)), am_tT 1181 (by decide +kernel)⟩
theorem cv_L_18 : am_CV RL 18 mX11_ofRing 2 := ⟨ce_X11_ofRing, (am_tT 311 (by decide +kernel)), (am_tT 312 (by decide +kernel)), am_tT 313 (by decide +kernel)⟩
theorem cv_L_22 : am_CV RL 22 mX12_ofRing 2 := ⟨ce_X12_ofRing, (am_tT 1201 (by decide +kernel)), (am_tT 1202 (by decide +kernel)), am_tT 1203 (by decide +kernel)⟩
theorem cv_L_23 : am_CV RL 23 mX11_end 1 := ⟨ce_X11_end, (am_tT 333 (by decide +kernel)), (am_tT 334 (by decide +kernel)), am_tT 335 (by decide +kernel)⟩
theorem cv_L_27 : am_CV RL 27 mX12_end 1 := ⟨ce_X12_end, (am_tT 1216 (by decide +kernel)), (am_tT 1217 (by decide +kernel)), am_tT 1218 (by decide +kernel)⟩
theorem cv_L_28 : am_CV RL 28 mX11_wall 1 := ⟨ce_X11_wall, (am_tT 338 (by decide +kernel)), (am_tT 339 (by decide +kernel)), am_tT 340 (by decide +kernel)⟩
theorem cv_L_31 : am_CV RL 31 mX12_wall 1 := ⟨ce_X12_wall, (am_tT 1220 (by decide +kernel)), (am_tT 1221 (by decide +kernel)), am_tT 1222 (by decide +kernel)⟩
theorem cv_L_32 : am_CV RL 32 mX11_law 2 := ⟨ce_X11_law, (am_tT 342 (by decide +kernel)), (am_tT 343 (by decide +kernel)), am_tT 344 (by decide +kernel)⟩
theorem cv_L_35 : am_CV RL 35 mX12_law 2 := ⟨ce_X12_law, (am_tT 1224 (by decide +kernel)), (am_tT 1225 (by decide +kernel)), am_tT 1226 (by decide +kernel)⟩
theorem cv_L_36 : am_CV RL 36 mX11_ofLaw 2 := ⟨ce_X11_ofLaw, (am_tT 439 (by decide +kernel)), (am_tT 440 (by decide +kernel)), am_tT 441 (by decide +kernel)⟩
theorem cv_L_39 : am_CV RL 39 mX12_ofLaw 2 := ⟨ce_X12_ofLaw, (am_tT 1230 (by decide +kernel)), (am_tT 1231 (by decide +kernel)), am_tT 1232 (by decide +kernel)⟩
theorem cv_L_40 : am_CV RL 40 mX11_as 2 := ⟨ce_X11_as, (am_tT 451 (by decide +kernel)), (am_tT 452 (by decide +kernel)), am_tT 453 (by decide +kernel)⟩
theorem cv_L_43 : am_CV RL 43 mX12_as 2 := ⟨ce_X12_as, (am_tT 1239 (by decide +kernel)), (am_tT 1240 (by decide +kernel)), am_tT 1241 (by decide +kernel)⟩
theorem cv_L_44 : am_CV RL 44 mX11_turn 2 := ⟨ce_X11_turn, (am_tT 459 (by decide +kernel)), (am_tT 460 (by decide +kernel)), am_tT 461 (by decide +kernel)⟩
theorem cv_L_47 : am_CV RL 47 mX12_turn 2 := ⟨ce_X12_turn, (am_tT 1246 (by decide +kernel)), (am_tT 1247 (by decide +kernel)), am_tT 1248 (by decide +kernel)⟩
theorem cv_L_48 : am_CV RL 48 mX11_does 4 := ⟨ce_X11_does, (am_tT 463 (by decide +kernel)), (am_tT 464 (by decide +kernel)), am_tT 465 (by decide +kernel)⟩
theorem cv_L_51 : am_CV RL 51 mX12_does 4 := ⟨ce_X12_does, (am_tT 1250 (by decide +kernel)), (am_tT 1251 (by decide +kernel)), am_tT 1252 (by decide +kernel)⟩
theorem cv_L_52 : am_CV RL 52 mX11_pair 3 := ⟨ce_X11_pair, (am_tT 562 (by decide +kernel)), (am_tT 563 (by decide +kernel)), am_tT 564 (by decide +kernel)⟩
theorem cv_L_56 : am_CV RL 56 mX12_pair 3 := ⟨ce_X12_pair, (am_tT 1279 (by decide +kernel)), (am_tT 1280 (by decide +kernel)), am_tT 1281 (by decide +kernel)⟩
theorem cv_L_57 : am_CV RL 57 mX11_hole 1 := ⟨ce_X11_hole, (am_tT 569 (by decide +kernel)), (am_tT 570 (by decide +kernel)), am_tT 571 (by decide +kernel)⟩
theorem cv_L_60 : am_CV RL 60 mX12_hole 1 := ⟨ce_X12_hole, (am_tT 1350 (by decide +kernel)), (am_tT 1351 (by decide +kernel)), am_tT 1352 (by decide +kernel)⟩
theorem cv_L_61 : am_CV RL 61 mX11_stroke 2 := ⟨ce_X11_stroke, (am_tT 573 (by decide +kernel)), (am_tT 574 (by decide +kernel)), am_tT 575 (by decide +kernel)⟩
theorem cv_L_64 : am_CV RL 64 mX12_stroke 2 := ⟨ce_X12_stroke, (am_tT 1354 (by decide +kernel)), (am_tT 1355 (by decide +kernel)), am_tT 1356 (by decide +kernel)⟩
theorem cv_L_65 : am_CV RL 65 mX11_trails 1 := ⟨ce_X11_trails, (am_tT 602 (by decide +kernel)), (am_tT 603 (by decide +kernel)), am_tT 604 (by decide +kernel)⟩
theorem cv_L_68 : am_CV RL 68 mX12_trails 1 := ⟨ce_X12_trails, (am_tT 1363 (by decide +kernel)), (am_tT 1364 (by decide +kernel)), am_tT 1365 (by decide +kernel)⟩
theorem cv_L_71 : am_CV RL 71 mX11_feed 2 := ⟨ce_X11_feed, (am_tT 613 (by decide +kernel)), (am_tT 614 (by decide +kernel)), am_tT 615 (by decide +kernel)⟩
theorem cv_L_75 : am_CV RL 75 mX12_feed 2 := ⟨ce_X12_feed, (am_tT 1283 (by decide +kernel)), (am_tT 1284 (by decide +kernel)), am_tT 1285 (by decide +kernel)⟩
theorem cv_L_76 : am_CV RL 76 mX11_text 1 := ⟨ce_X11_text, (am_tT 622 (by decide +kernel)), (am_tT 623 (by decide +kernel)), am_tT 624 (by decide +kernel)⟩
theorem cv_L_79 : am_CV RL 79 mX12_text 1 := ⟨ce_X12_text, (am_tT 1289 (by decide +kernel)), (am_tT 1290 (by decide +kernel)), am_tT 1291 (by decide +kernel)⟩
theorem cv_L_80 : am_CV RL 80 mX11_gives 4 := ⟨ce_X11_gives, (am_tT 760 (by decide +kernel)), (am_tT 761 (by decide +kernel)), am_tT 762 (by decide +kernel)⟩
theorem cv_L_83 : am_CV RL 83 mX12_gives 4 := ⟨ce_X12_gives, (am_tT 1339 (by decide +kernel)), (am_tT 1340 (by decide +kernel)), am_tT 1341 (by decide +kernel)⟩
theorem cv_L_84 : am_CV RL 84 mX11_ticks 1 := ⟨ce_X11_ticks, (am_tT 765 (by decide +kernel)), (am_tT 766 (by decide +kernel)), am_tT 767 (by decide +kernel)⟩
theorem cv_L_87 : am_CV RL 87 mX12_ticks 1 := ⟨ce_X12_ticks, (am_tT 1371 (by decide +kernel)), (am_tT 1372 (by decide +kernel)), am_tT 1373 (by decide +kernel)⟩
theorem cv_L_88 : am_CV RL 88 mX11_breeze 1 := ⟨ce_X11_breeze, (am_tT 822 (by decide +kernel)), (am_tT 823 (by decide +kernel)), am_tT 824 (by decide +kernel)⟩
theorem cv_L_91 : am_CV RL 91 mX12_breeze 1 := ⟨ce_X12_breeze, (am_tT 1400 (by decide +kernel)), (am_tT 1401 (by decide +kernel)), am_tT 1402 (by decide +kernel)⟩
theorem cv_L_92 : am_CV RL 92 mX11_front 0 := ⟨ce_X11_front, (am_tT 826 (by decide +kernel)), (am_tT 827 (by decide +kernel)), am_tT 828 (by decide +kernel)⟩
theorem cv_L_96 : am_CV RL 96 mX12_front 0 := ⟨ce_X12_front, (am_tT 1405 (by decide +kernel)), (am_tT 1406 (by decide +kernel)), am_tT 1407 (by decide +kernel)⟩
theorem cv_L_97 : am_CV RL 97 mX11_then 3 := ⟨ce_X11_then, (am_tT 835 (by decide +kernel)), (am_tT 836 (by decide +kernel)), am_tT 837 (by decide +kernel)⟩
theorem cv_L_100 : am_CV RL 100 mX12_then 3 := ⟨ce_X12_then, (am_tT 1412 (by decide +kernel)), (am_tT 1413 (by decide +kernel)), am_tT 1414 (by decide +kernel)⟩
theorem cv_L_101 : am_CV RL 101 mX11_whole 1 := ⟨ce_X11_whole, (am_tT 861 (by decide +kernel)), (am_tT 862 (by decide +kernel)), am_tT 863 (by decide +kernel)⟩
theorem cv_L_104 : am_CV RL 104 mX12_whole 1 := ⟨ce_X12_whole, (am_tT 1427 (by decide +kernel)), (am_tT 1428 (by decide +kernel)), am_tT 1429 (by decide +kernel)⟩
theorem cv_L_105 : am_CV RL 105 mX11_turns 1 := ⟨ce_X11_turns, (am_tT 870 (by decide +kernel)), (am_tT 871 (by decide +kernel)), am_tT 872 (by decide +kernel)⟩
theorem cv_L_108 : am_CV RL 108 mX12_turns 1 := ⟨ce_X12_turns, (am_tT 1434 (by decide +kernel)), (am_tT 1435 (by decide +kernel)), am_tT 1436 (by decide +kernel)⟩
theorem cv_L_109 : am_CV RL 109 mX11_far 2 := ⟨ce_X11_far, (am_tT 880 (by decide +kernel)), (am_tT 881 (by decide +kernel)), am_tT 882 (by decide +kernel)⟩
theorem cv_L_112 : am_CV RL 112 mX12_far 2 := ⟨ce_X12_far, (am_tT 1442 (by decide +kernel)), (am_tT 1443 (by decide +kernel)), am_tT 1444 (by decide +kernel)⟩
theorem cv_L_113 : am_CV RL 113 mX11_knock 3 := ⟨ce_X11_knock, (am_tT 888 (by decide +kernel)), (am_tT 889 (by decide +kernel)), am_tT 890 (by decide +kernel)⟩
theorem cv_L_116 : am_CV RL 116 mX12_knock 3 := ⟨ce_X12_knock, (am_tT 1450 (by decide +kernel)), (am_tT 1451 (by decide +kernel)), am_tT 1452 (by decide +kernel)⟩
theorem cv_L_117 : am_CV RL 117 mX11_farthest 3 := ⟨ce_X11_farthest, (am_tT 893 (by decide +kernel)), (am_tT 894 (by decide +kernel)), am_tT 895 (by decide +kernel)⟩
theorem cv_L_120 : am_CV RL 120 mX12_farthest 3 := ⟨ce_X12_farthest, (am_tT 1454 (by decide +kernel)), (am_tT 1455 (by decide +kernel)), am_tT 1456 (by decide +kernel)⟩
theorem cv_L_121 : am_CV RL 121 mX11_second 3 := ⟨ce_X11_second, (am_tT 897 (by decide +kernel)), (am_tT 898 (by decide +kernel)), am_tT 899 (by decide +kernel)⟩
theorem cv_L_124 : am_CV RL 124 mX12_second 3 := ⟨ce_X12_second, (am_tT 1460 (by decide +kernel)), (am_tT 1461 (by decide +kernel)), am_tT 1462 (by decide +kernel)⟩
theorem cv_L_125 : am_CV RL 125 mX11_alike 2 := ⟨ce_X11_alike, (am_tT 902 (by decide +kernel)), (am_tT 903 (by decide +kernel)), am_tT 904 (by decide +kernel)⟩
theorem cv_L_128 : am_CV RL 128 mX12_alike 2 := ⟨ce_X12_alike, (am_tT 1464 (by decide +kernel)), (am_tT 1465 (by decide +kernel)), am_tT 1466 (by decide +kernel)⟩
theorem cv_L_129 : am_CV RL 129 mX11_off 1 := ⟨ce_X11_off, (am_tT 907 (by decide +kernel)), (am_tT 908 (by decide +kernel)), am_tT 909 (by decide +kernel)⟩
theorem cv_L_132 : am_CV RL 132 mX12_off 1 := ⟨ce_X12_off, (am_tT 1468 (by decide +kernel)), (am_tT 1469 (by decide +kernel)), am_tT 1470 (by decide +kernel)⟩
theorem cv_L_133 : am_CV RL 133 mX11_spun 1 := ⟨ce_X11_spun, (am_tT 934 (by decide +kernel)), (am_tT 935 (by decide +kernel)), am_tT 936 (by decide +kernel)⟩
theorem cv_L_136 : am_CV RL 136 mX12_spun 1 := ⟨ce_X12_spun, (am_tT 1485 (by decide +kernel)), (am_tT 1486 (by decide +kernel)), am_tT 1487 (by decide +kernel)⟩
theorem cv_L_137 : am_CV RL 137 mX11_made 1 := ⟨ce_X11_made, (am_tT 938 (by decide +kernel)), (am_tT 939 (by decide +kernel)), am_tT 940 (by decide +kernel)⟩
theorem cv_L_140 : am_CV RL 140 mX12_made 1 := ⟨ce_X12_made, (am_tT 1489 (by decide +kernel)), (am_tT 1490 (by decide +kernel)), am_tT 1491 (by decide +kernel)⟩
theorem cv_L_141 : am_CV RL 141 mX11_heart 1 := ⟨ce_X11_heart, (am_tT 942 (by decide +kernel)), (am_tT 943 (by decide +kernel)), am_tT 944 (by decide +kernel)⟩
theorem cv_L_144 : am_CV RL 144 mX12_heart 1 := ⟨ce_X12_heart, (am_tT 1493 (by decide +kernel)), (am_tT 1494 (by decide +kernel)), am_tT 1495 (by decide +kernel)⟩
theorem cv_L_145 : am_CV RL 145 mX11_seed 1 := ⟨ce_X11_seed, (am_tT 946 (by decide +kernel)), (am_tT 947 (by decide +kernel)), am_tT 948 (by decide +kernel)⟩
theorem cv_L_148 : am_CV RL 148 mX12_seed 1 := ⟨ce_X12_seed, (am_tT 1498 (by decide +kernel)), (am_tT 1499 (by decide +kernel)), am_tT 1500 (by decide +kernel)⟩
theorem cv_L_149 : am_CV RL 149 mX11_voice 3 := ⟨ce_X11_voice, (am_tT 950 (by decide +kernel)), (am_tT 951 (by decide +kernel)), am_tT 952 (by decide +kernel)⟩
theorem cv_L_152 : am_CV RL 152 mX12_voice 3 := ⟨ce_X12_voice, (am_tT 1502 (by decide +kernel)), (am_tT 1503 (by decide +kernel)), am_tT 1504 (by decide +kernel)⟩
theorem cv_L_153 : am_CV RL 153 mX11_trace 1 := ⟨ce_X11_trace, (am_tT 1039 (by decide +kernel)), (am_tT 1040 (by decide +kernel)), am_tT 1041 (by decide +kernel)⟩
theorem cv_L_156 : am_CV RL 156 mX12_trace 1 := ⟨ce_X12_trace, (am_tT 1537 (by decide +kernel)), (am_tT 1538 (by decide +kernel)), am_tT 1539 (by decide +kernel)⟩
theorem cv_L_157 : am_CV RL 157 mX11_sheet 3 := ⟨ce_X11_sheet, (am_tT 1047 (by decide +kernel)), (am_tT 1048 (by decide +kernel)), am_tT 1049 (by decide +kernel)⟩
theorem cv_L_160 : am_CV RL 160 mX12_sheet 3 := ⟨ce_X12_sheet, (am_tT 1541 (by decide +kernel)), (am_tT 1542 (by decide +kernel)), am_tT 1543 (by decide +kernel)⟩
theorem cv_L_161 : am_CV RL 161 mX11_put 3 := ⟨ce_X11_put, (am_tT 1058 (by decide +kernel)), (am_tT 1059 (by decide +kernel)), am_tT 1060 (by decide +kernel)⟩
theorem cv_L_164 : am_CV RL 164 mX12_put 3 := ⟨ce_X12_put, (am_tT 1545 (by decide +kernel)), (am_tT 1546 (by decide +kernel)), am_tT 1547 (by decide +kernel)⟩
theorem cv_L_165 : am_CV RL 165 mX11_move 5 := ⟨ce_X11_move, (am_tT 1067 (by decide +kernel)), (am_tT 1068 (by decide +kernel)), am_tT 1069 (by decide +kernel)⟩
theorem cv_L_169 : am_CV RL 169 mX12_move 5 := ⟨ce_X12_move, (am_tT 1549 (by decide +kernel)), (am_tT 1550 (by decide +kernel)), am_tT 1551 (by decide +kernel)⟩
theorem cv_L_170 : am_CV RL 170 mX11_film 1 := ⟨ce_X11_film, (am_tT 1076 (by decide +kernel)), (am_tT 1077 (by decide +kernel)), am_tT 1078 (by decide +kernel)⟩
theorem cv_L_173 : am_CV RL 173 mX12_film 1 := ⟨ce_X12_film, (am_tT 1553 (by decide +kernel)), (am_tT 1554 (by decide +kernel)), am_tT 1555 (by decide +kernel)⟩
theorem cv_L_174 : am_CV RL 174 mX11_image 0 := ⟨ce_X11_image, (am_tT 1080 (by decide +kernel)), (am_tT 1081 (by decide +kernel)), am_tT 1082 (by decide +kernel)⟩
theorem cv_L_177 : am_CV RL 177 mX12_image 0 := ⟨ce_X12_image, (am_tT 1557 (by decide +kernel)), (am_tT 1558 (by decide +kernel)), am_tT 1559 (by decide +kernel)⟩
theorem cv_L_178 : am_CV RL 178 mX11_restore 0 := ⟨ce_X11_restore, (am_tT 1084 (by decide +kernel)), (am_tT 1085 (by decide +kernel)), am_tT 1086 (by decide +kernel)⟩
theorem cv_L_181 : am_CV RL 181 mX12_restore 0 := ⟨ce_X12_restore, (am_tT 1561 (by decide +kernel)), (am_tT 1562 (by decide +kernel)), am_tT 1563 (by decide +kernel)⟩
theorem cv_L_182 : am_CV RL 182 mX11_tell 1 := ⟨ce_X11_tell, (am_tT 1088 (by decide +kernel)), (am_tT 1089 (by decide +kernel)), am_tT 1090 (by decide +kernel)⟩
theorem cv_L_185 : am_CV RL 185 mX12_tell 1 := ⟨ce_X12_tell, (am_tT 1565 (by decide +kernel)), (am_tT 1566 (by decide +kernel)), am_tT 1567 (by decide +kernel)⟩
theorem cv_L_186 : am_CV RL 186 mX11_check 1 := ⟨ce_X11_check, (am_tT 1092 (by decide +kernel)), (am_tT 1093 (by decide +kernel)), am_tT 1094 (by decide +kernel)⟩
theorem cv_L_189 : am_CV RL 189 mX12_check 1 := ⟨ce_X12_check, (am_tT 1569 (by decide +kernel)), (am_tT 1570 (by decide +kernel)), am_tT 1571 (by decide +kernel)⟩
theorem cv_L_190 : am_CV RL 190 mX11_count 1 := ⟨ce_X11_count, (am_tT 1100 (by decide +kernel)), (am_tT 1101 (by decide +kernel)), am_tT 1102 (by decide +kernel)⟩
theorem cv_L_193 : am_CV RL 193 mX12_count 1 := ⟨ce_X12_count, (am_tT 1573 (by decide +kernel)), (am_tT 1574 (by decide +kernel)), am_tT 1575 (by decide +kernel)⟩
theorem cv_L_194 : am_CV RL 194 mX11_told 1 := ⟨ce_X11_told, (am_tT 1104 (by decide +kernel)), (am_tT 1105 (by decide +kernel)), am_tT 1106 (by decide +kernel)⟩
theorem cv_L_197 : am_CV RL 197 mX12_told 1 := ⟨ce_X12_told, (am_tT 1577 (by decide +kernel)), (am_tT 1578 (by decide +kernel)), am_tT 1579 (by decide +kernel)⟩
theorem co_inst : Cond.instanceMethod Lib.objectInit ∈ am_T := (am_tT 84 (by decide +kernel))
set_option maxRecDepth 100000 in
theorem co_code : Cond.code Lib.objectInit ⟨#[0xb1]⟩ 1 none ∈ am_T := (am_tC (am_in1 _ (List.mem_of_getElem? (i := 29) rfl)) rfl)
theorem co_arri : Cond.arrayClass .int ∈ am_T := (am_tT 176 (by decide +kernel))
theorem cl_L_7 : Cond.classLink RL 7 RX11 ∈ am_T := (am_tT 78 (by decide +kernel))
theorem cl_X11_9 : Cond.classLink RX11 9 RX4 ∈ am_T := (am_tT 86 (by decide +kernel))
theorem cl_X4_9 : Cond.classLink RX4 9 RX3 ∈ am_T := (am_tT 92 (by decide +kernel))
theorem cl_X4_23 : Cond.classLink RX4 23 RX2 ∈ am_T := (am_tT 143 (by decide +kernel))
theorem cl_X4_40 : Cond.classLink RX4 40 RX7 ∈ am_T := (am_tT 146 (by decide +kernel))
theorem cl_X4_47 : Cond.classLink RX4 47 RX5 ∈ am_T := (am_tT 177 (by decide +kernel))
theorem cl_X11_29 : Cond.classLink RX11 29 RX5 ∈ am_T := (am_tT 250 (by decide +kernel))
theorem cl_X11_42 : Cond.classLink RX11 42 RX7 ∈ am_T := (am_tT 253 (by decide +kernel))
theorem cl_X11_335 : Cond.classLink RX11 335 RX8 ∈ am_T := (am_tT 349 (by decide +kernel))
theorem cl_X11_339 : Cond.classLink RX11 339 RX1 ∈ am_T := (am_tT 378 (by decide +kernel))
theorem cl_X11_342 : Cond.classLink RX11 342 RX0 ∈ am_T := (am_tT 388 (by decide +kernel))
theorem cl_X11_347 : Cond.classLink RX11 347 RX9 ∈ am_T := (am_tT 398 (by decide +kernel))
theorem cl_X11_350 : Cond.classLink RX11 350 RX10 ∈ am_T := (am_tT 408 (by decide +kernel))
theorem cl_X11_353 : Cond.classLink RX11 353 RX6 ∈ am_T := (am_tT 418 (by decide +kernel))
theorem cl_X11_117 : Cond.classLink RX11 117 RX2 ∈ am_T := (am_tT 428 (by decide +kernel))
theorem cl_X4_191 : Cond.classLink RX4 191 RX1 ∈ am_T := (am_tT 812 (by decide +kernel))
theorem cl_L_10 : Cond.classLink RL 10 RX12 ∈ am_T := (am_tT 1108 (by decide +kernel))
theorem cz_0 : Cond.instantiable RX0 3 ∈ am_T := (am_tT 389 (by decide +kernel))
theorem cy_0 : Cond.initialized RX0 ∈ am_T := (am_tT 67 (by decide +kernel))
theorem cz_1 : Cond.instantiable RX1 3 ∈ am_T := (am_tT 379 (by decide +kernel))
theorem cy_1 : Cond.initialized RX1 ∈ am_T := (am_tT 66 (by decide +kernel))
theorem cz_2 : Cond.instantiable RX2 3 ∈ am_T := (am_tT 429 (by decide +kernel))
theorem cy_2 : Cond.initialized RX2 ∈ am_T := (am_tT 64 (by decide +kernel))
theorem cz_3 : Cond.instantiable RX3 8 ∈ am_T := (am_tT 94 (by decide +kernel))
theorem cy_3 : Cond.initialized RX3 ∈ am_T := (am_tT 59 (by decide +kernel))
theorem cz_4 : Cond.instantiable RX4 13 ∈ am_T := (am_tT 87 (by decide +kernel))
theorem cy_4 : Cond.initialized RX4 ∈ am_T := (am_tT 58 (by decide +kernel))
theorem cz_5 : Cond.instantiable RX5 3 ∈ am_T := (am_tT 178 (by decide +kernel))
theorem cy_5 : Cond.initialized RX5 ∈ am_T := (am_tT 61 (by decide +kernel))
theorem cz_6 : Cond.instantiable RX6 3 ∈ am_T := (am_tT 419 (by decide +kernel))
theorem cy_6 : Cond.initialized RX6 ∈ am_T := (am_tT 70 (by decide +kernel))
theorem cz_7 : Cond.instantiable RX7 7 ∈ am_T := (am_tT 148 (by decide +kernel))
theorem cy_7 : Cond.initialized RX7 ∈ am_T := (am_tT 60 (by decide +kernel))
theorem cz_8 : Cond.instantiable RX8 3 ∈ am_T := (am_tT 350 (by decide +kernel))
theorem cy_8 : Cond.initialized RX8 ∈ am_T := (am_tT 65 (by decide +kernel))
theorem cz_9 : Cond.instantiable RX9 3 ∈ am_T := (am_tT 399 (by decide +kernel))
theorem cy_9 : Cond.initialized RX9 ∈ am_T := (am_tT 68 (by decide +kernel))
theorem cz_10 : Cond.instantiable RX10 3 ∈ am_T := (am_tT 409 (by decide +kernel))
theorem cy_10 : Cond.initialized RX10 ∈ am_T := (am_tT 69 (by decide +kernel))
theorem cz_11 : Cond.instantiable RX11 9 ∈ am_T := (am_tT 79 (by decide +kernel))
theorem cy_11 : Cond.initialized RX11 ∈ am_T := (am_tT 57 (by decide +kernel))
theorem cz_12 : Cond.instantiable RX12 21 ∈ am_T := (am_tT 1109 (by decide +kernel))
theorem cy_12 : Cond.initialized RX12 ∈ am_T := (am_tT 62 (by decide +kernel))
