/-! THE METHODS: the bytes decode so -/
theorem k_Fi_init : ∀ q ∈ t_Fi_init, decode prog_1_method_1_code q.1 = .ok q.2 := by decide +kernel
theorem k_Pa_init : ∀ q ∈ t_Pa_init, decode prog_6_method_1_code q.1 = .ok q.2 := by decide +kernel
theorem k_Sh_init : ∀ q ∈ t_Sh_init, decode prog_10_method_1_code q.1 = .ok q.2 := by decide +kernel
theorem k_Pr_init : ∀ q ∈ t_Pr_init, decode prog_8_method_1_code q.1 = .ok q.2 := by decide +kernel
theorem k_De_init : ∀ q ∈ t_De_init, decode prog_2_method_1_code q.1 = .ok q.2 := by decide +kernel
theorem k_Jo_init : ∀ q ∈ t_Jo_init, decode prog_4_method_1_code q.1 = .ok q.2 := by decide +kernel
theorem k_Fi_machine : ∀ q ∈ t_Fi_machine, decode prog_1_method_5_code q.1 = .ok q.2 := by decide +kernel
theorem k_Pa_isMachine : ∀ q ∈ t_Pa_isMachine, decode prog_6_method_4_code q.1 = .ok q.2 := by decide +kernel
theorem k_Pa_fitting : ∀ q ∈ t_Pa_fitting, decode prog_6_method_3_code q.1 = .ok q.2 := by decide +kernel
theorem k_Pa_take : ∀ q ∈ t_Pa_take, decode prog_6_method_7_code q.1 = .ok q.2 := by decide +kernel
theorem k_Pa_takeKind : ∀ q ∈ t_Pa_takeKind, decode prog_6_method_8_code q.1 = .ok q.2 := by decide +kernel
theorem k_Pa_kindOf : ∀ q ∈ t_Pa_kindOf, decode prog_6_method_9_code q.1 = .ok q.2 := by decide +kernel
theorem k_Pa_takeSide : ∀ q ∈ t_Pa_takeSide, decode prog_6_method_10_code q.1 = .ok q.2 := by decide +kernel
theorem k_Pa_digitOf : ∀ q ∈ t_Pa_digitOf, decode prog_6_method_18_code q.1 = .ok q.2 := by decide +kernel
theorem k_Fi_isSide : ∀ q ∈ t_Fi_isSide, decode prog_1_method_39_code q.1 = .ok q.2 := by decide +kernel
theorem k_Fi_isWithin : ∀ q ∈ t_Fi_isWithin, decode prog_1_method_38_code q.1 = .ok q.2 := by decide +kernel
theorem k_Pa_takeSign : ∀ q ∈ t_Pa_takeSign, decode prog_6_method_11_code q.1 = .ok q.2 := by decide +kernel
theorem k_Pa_takeTurn : ∀ q ∈ t_Pa_takeTurn, decode prog_6_method_12_code q.1 = .ok q.2 := by decide +kernel
theorem k_Pa_takeRestOfTurn : ∀ q ∈ t_Pa_takeRestOfTurn, decode prog_6_method_13_code q.1 = .ok q.2 := by decide +kernel
theorem k_Pa_takeShift : ∀ q ∈ t_Pa_takeShift, decode prog_6_method_14_code q.1 = .ok q.2 := by decide +kernel
theorem k_Pa_mostShift : ∀ q ∈ t_Pa_mostShift, decode prog_6_method_17_code q.1 = .ok q.2 := by decide +kernel
theorem k_Pa_takeRestOfShift : ∀ q ∈ t_Pa_takeRestOfShift, decode prog_6_method_15_code q.1 = .ok q.2 := by decide +kernel
theorem k_Pa_takeComma : ∀ q ∈ t_Pa_takeComma, decode prog_6_method_16_code q.1 = .ok q.2 := by decide +kernel
theorem k_Pa_machineRead : ∀ q ∈ t_Pa_machineRead, decode prog_6_method_5_code q.1 = .ok q.2 := by decide +kernel
theorem k_Pa_partRead : ∀ q ∈ t_Pa_partRead, decode prog_6_method_6_code q.1 = .ok q.2 := by decide +kernel
theorem k_Ga_init : ∀ q ∈ t_Ga_init, decode prog_3_method_1_code q.1 = .ok q.2 := by decide +kernel
theorem k_Pt_init : ∀ q ∈ t_Pt_init, decode prog_7_method_1_code q.1 = .ok q.2 := by decide +kernel
theorem k_Ro_init : ∀ q ∈ t_Ro_init, decode prog_9_method_1_code q.1 = .ok q.2 := by decide +kernel
theorem k_To_init : ∀ q ∈ t_To_init, decode prog_11_method_1_code q.1 = .ok q.2 := by decide +kernel
theorem k_Wo_init : ∀ q ∈ t_Wo_init, decode prog_12_method_1_code q.1 = .ok q.2 := by decide +kernel
theorem k_Ma_init : ∀ q ∈ t_Ma_init, decode prog_5_method_1_code q.1 = .ok q.2 := by decide +kernel
theorem k_Fi_part : ∀ q ∈ t_Fi_part, decode prog_1_method_6_code q.1 = .ok q.2 := by decide +kernel
theorem k_Fi_partAt : ∀ q ∈ t_Fi_partAt, decode prog_1_method_36_code q.1 = .ok q.2 := by decide +kernel
theorem k_Fi_machineAt : ∀ q ∈ t_Fi_machineAt, decode prog_1_method_35_code q.1 = .ok q.2 := by decide +kernel
theorem k_Pt_tell : ∀ q ∈ t_Pt_tell, decode prog_7_method_6_code q.1 = .ok q.2 := by decide +kernel
theorem k_Ga_kind : ∀ q ∈ t_Ga_kind, decode prog_3_method_2_code q.1 = .ok q.2 := by decide +kernel
theorem k_Ro_kind : ∀ q ∈ t_Ro_kind, decode prog_9_method_2_code q.1 = .ok q.2 := by decide +kernel
theorem k_To_kind : ∀ q ∈ t_To_kind, decode prog_11_method_2_code q.1 = .ok q.2 := by decide +kernel
theorem k_Wo_kind : ∀ q ∈ t_Wo_kind, decode prog_12_method_2_code q.1 = .ok q.2 := by decide +kernel
theorem k_Ga_turn : ∀ q ∈ t_Ga_turn, decode prog_3_method_3_code q.1 = .ok q.2 := by decide +kernel
theorem k_Ro_turn : ∀ q ∈ t_Ro_turn, decode prog_9_method_3_code q.1 = .ok q.2 := by decide +kernel
theorem k_Wo_turn : ∀ q ∈ t_Wo_turn, decode prog_12_method_3_code q.1 = .ok q.2 := by decide +kernel
theorem k_Ga_shift : ∀ q ∈ t_Ga_shift, decode prog_3_method_4_code q.1 = .ok q.2 := by decide +kernel
theorem k_Ro_shift : ∀ q ∈ t_Ro_shift, decode prog_9_method_4_code q.1 = .ok q.2 := by decide +kernel
theorem k_Wo_shift : ∀ q ∈ t_Wo_shift, decode prog_12_method_4_code q.1 = .ok q.2 := by decide +kernel
theorem k_Fi_as : ∀ q ∈ t_Fi_as, decode prog_1_method_7_code q.1 = .ok q.2 := by decide +kernel
theorem k_Fi_isOfKind : ∀ q ∈ t_Fi_isOfKind, decode prog_1_method_45_code q.1 = .ok q.2 := by decide +kernel
theorem k_Fi_print : ∀ q ∈ t_Fi_print, decode prog_1_method_8_code q.1 = .ok q.2 := by decide +kernel
theorem k_Sh_next : ∀ q ∈ t_Sh_next, decode prog_10_method_4_code q.1 = .ok q.2 := by decide +kernel
theorem k_Pr_begin : ∀ q ∈ t_Pr_begin, decode prog_8_method_2_code q.1 = .ok q.2 := by decide +kernel
theorem k_Jmath_min : ∀ q ∈ t_Jmath_min, decode prog_17_method_69_code q.1 = .ok q.2 := by decide +kernel
theorem k_Pr_findPlaces : ∀ q ∈ t_Pr_findPlaces, decode prog_8_method_6_code q.1 = .ok q.2 := by decide +kernel
theorem k_Fi_run : ∀ q ∈ t_Fi_run, decode prog_1_method_9_code q.1 = .ok q.2 := by decide +kernel
theorem k_Sh_printAt : ∀ q ∈ t_Sh_printAt, decode prog_10_method_3_code q.1 = .ok q.2 := by decide +kernel
theorem k_Pr_leave : ∀ q ∈ t_Pr_leave, decode prog_8_method_10_code q.1 = .ok q.2 := by decide +kernel
theorem k_Ga_touched : ∀ q ∈ t_Ga_touched, decode prog_3_method_5_code q.1 = .ok q.2 := by decide +kernel
theorem k_Fi_everyOf : ∀ q ∈ t_Fi_everyOf, decode prog_1_method_46_code q.1 = .ok q.2 := by decide +kernel
theorem k_Ro_touched : ∀ q ∈ t_Ro_touched, decode prog_9_method_5_code q.1 = .ok q.2 := by decide +kernel
theorem k_To_touched : ∀ q ∈ t_To_touched, decode prog_11_method_3_code q.1 = .ok q.2 := by decide +kernel
theorem k_Wo_touched : ∀ q ∈ t_Wo_touched, decode prog_12_method_5_code q.1 = .ok q.2 := by decide +kernel
theorem k_Fi_spooled : ∀ q ∈ t_Fi_spooled, decode prog_1_method_47_code q.1 = .ok q.2 := by decide +kernel
theorem k_Fi_turned : ∀ q ∈ t_Fi_turned, decode prog_1_method_48_code q.1 = .ok q.2 := by decide +kernel
theorem k_Fi_isIn : ∀ q ∈ t_Fi_isIn, decode prog_1_method_49_code q.1 = .ok q.2 := by decide +kernel
theorem k_Pr_put : ∀ q ∈ t_Pr_put, decode prog_8_method_9_code q.1 = .ok q.2 := by decide +kernel
theorem k_Fi_mend : ∀ q ∈ t_Fi_mend, decode prog_1_method_10_code q.1 = .ok q.2 := by decide +kernel
theorem k_Pr_takeOut : ∀ q ∈ t_Pr_takeOut, decode prog_8_method_5_code q.1 = .ok q.2 := by decide +kernel
theorem k_Fi_copy : ∀ q ∈ t_Fi_copy, decode prog_1_method_11_code q.1 = .ok q.2 := by decide +kernel
theorem k_Pr_takeFrom : ∀ q ∈ t_Pr_takeFrom, decode prog_8_method_3_code q.1 = .ok q.2 := by decide +kernel
theorem k_Pr_whiten : ∀ q ∈ t_Pr_whiten, decode prog_8_method_4_code q.1 = .ok q.2 := by decide +kernel
theorem k_Fi_mark : ∀ q ∈ t_Fi_mark, decode prog_1_method_12_code q.1 = .ok q.2 := by decide +kernel
theorem k_Fi_picture : ∀ q ∈ t_Fi_picture, decode prog_1_method_14_code q.1 = .ok q.2 := by decide +kernel
theorem k_Pr_tell : ∀ q ∈ t_Pr_tell, decode prog_8_method_8_code q.1 = .ok q.2 := by decide +kernel
theorem k_Fi_whose : ∀ q ∈ t_Fi_whose, decode prog_1_method_18_code q.1 = .ok q.2 := by decide +kernel
theorem k_Fi_ownersOf : ∀ q ∈ t_Fi_ownersOf, decode prog_1_method_37_code q.1 = .ok q.2 := by decide +kernel
theorem k_Ma_mayHaveMarked : ∀ q ∈ t_Ma_mayHaveMarked, decode prog_5_method_2_code q.1 = .ok q.2 := by decide +kernel
theorem k_Pr_marked : ∀ q ∈ t_Pr_marked, decode prog_8_method_12_code q.1 = .ok q.2 := by decide +kernel
theorem k_Pr_sidesMarked : ∀ q ∈ t_Pr_sidesMarked, decode prog_8_method_11_code q.1 = .ok q.2 := by decide +kernel
theorem k_Fi_isAmong : ∀ q ∈ t_Fi_isAmong, decode prog_1_method_50_code q.1 = .ok q.2 := by decide +kernel
theorem k_Law_cell : ∀ q ∈ t_Law_cell, decode method_2_code q.1 = .ok q.2 := by decide +kernel
theorem k_Law_at : ∀ q ∈ t_Law_at, decode method_3_code q.1 = .ok q.2 := by decide +kernel
theorem k_Law_machineText_0 : ∀ q ∈ t_Law_machineText_0, decode method_5_code q.1 = .ok q.2 := by decide +kernel
theorem k_Law_machineText_1 : ∀ q ∈ t_Law_machineText_1, decode method_5_code q.1 = .ok q.2 := by decide +kernel
theorem k_Law_machineText_2 : ∀ q ∈ t_Law_machineText_2, decode method_5_code q.1 = .ok q.2 := by decide +kernel
theorem k_Law_machineText_3 : ∀ q ∈ t_Law_machineText_3, decode method_5_code q.1 = .ok q.2 := by decide +kernel
theorem k_Law_machineText_4 : ∀ q ∈ t_Law_machineText_4, decode method_5_code q.1 = .ok q.2 := by decide +kernel
theorem k_Law_machineText : ∀ q ∈ t_Law_machineText, decode method_5_code q.1 = .ok q.2 := by
  intro q hq
  unfold t_Law_machineText at hq
  rcases List.mem_append.mp hq with hq | hq
  · exact k_Law_machineText_0 q hq
  rcases List.mem_append.mp hq with hq | hq
  · exact k_Law_machineText_1 q hq
  rcases List.mem_append.mp hq with hq | hq
  · exact k_Law_machineText_2 q hq
  rcases List.mem_append.mp hq with hq | hq
  · exact k_Law_machineText_3 q hq
  exact k_Law_machineText_4 q hq
theorem k_Law_number : ∀ q ∈ t_Law_number, decode method_4_code q.1 = .ok q.2 := by decide +kernel
theorem k_Law_write : ∀ q ∈ t_Law_write, decode method_6_code q.1 = .ok q.2 := by decide +kernel
theorem k_Fi_letters : ∀ q ∈ t_Fi_letters, decode prog_1_method_2_code q.1 = .ok q.2 := by decide +kernel
theorem k_Fi_lettersIn : ∀ q ∈ t_Fi_lettersIn, decode prog_1_method_44_code q.1 = .ok q.2 := by decide +kernel
theorem k_Fi_byteOf : ∀ q ∈ t_Fi_byteOf, decode prog_1_method_43_code q.1 = .ok q.2 := by decide +kernel
theorem k_Pa_append : ∀ q ∈ t_Pa_append, decode prog_6_method_2_code q.1 = .ok q.2 := by decide +kernel
theorem k_Law_leaves : ∀ q ∈ t_Law_leaves, decode method_7_code q.1 = .ok q.2 := by decide +kernel
theorem k_Law_black : ∀ q ∈ t_Law_black, decode method_8_code q.1 = .ok q.2 := by decide +kernel
theorem k_Law_start : ∀ q ∈ t_Law_start, decode method_12_code q.1 = .ok q.2 := by decide +kernel
theorem k_Law_run : ∀ q ∈ t_Law_run, decode method_13_code q.1 = .ok q.2 := by decide +kernel
theorem k_Law_mend : ∀ q ∈ t_Law_mend, decode method_14_code q.1 = .ok q.2 := by decide +kernel
theorem k_Law_copy : ∀ q ∈ t_Law_copy, decode method_15_code q.1 = .ok q.2 := by decide +kernel
theorem k_Law_marks : ∀ q ∈ t_Law_marks, decode method_10_code q.1 = .ok q.2 := by decide +kernel
theorem k_Law_white : ∀ q ∈ t_Law_white, decode method_9_code q.1 = .ok q.2 := by decide +kernel
theorem k_Law_stands : ∀ q ∈ t_Law_stands, decode method_17_code q.1 = .ok q.2 := by decide +kernel
theorem k_Fi_length : ∀ q ∈ t_Fi_length, decode prog_1_method_13_code q.1 = .ok q.2 := by decide +kernel
theorem k_Law_rounds_0 : ∀ q ∈ t_Law_rounds_0, decode method_20_code q.1 = .ok q.2 := by decide +kernel
theorem k_Law_rounds_1 : ∀ q ∈ t_Law_rounds_1, decode method_20_code q.1 = .ok q.2 := by decide +kernel
theorem k_Law_rounds_2 : ∀ q ∈ t_Law_rounds_2, decode method_20_code q.1 = .ok q.2 := by decide +kernel
theorem k_Law_rounds_3 : ∀ q ∈ t_Law_rounds_3, decode method_20_code q.1 = .ok q.2 := by decide +kernel
theorem k_Law_rounds_4 : ∀ q ∈ t_Law_rounds_4, decode method_20_code q.1 = .ok q.2 := by decide +kernel
theorem k_Law_rounds_5 : ∀ q ∈ t_Law_rounds_5, decode method_20_code q.1 = .ok q.2 := by decide +kernel
theorem k_Law_rounds_6 : ∀ q ∈ t_Law_rounds_6, decode method_20_code q.1 = .ok q.2 := by decide +kernel
theorem k_Law_rounds_7 : ∀ q ∈ t_Law_rounds_7, decode method_20_code q.1 = .ok q.2 := by decide +kernel
theorem k_Law_rounds : ∀ q ∈ t_Law_rounds, decode method_20_code q.1 = .ok q.2 := by
  intro q hq
  unfold t_Law_rounds at hq
  rcases List.mem_append.mp hq with hq | hq
  · exact k_Law_rounds_0 q hq
  rcases List.mem_append.mp hq with hq | hq
  · exact k_Law_rounds_1 q hq
  rcases List.mem_append.mp hq with hq | hq
  · exact k_Law_rounds_2 q hq
  rcases List.mem_append.mp hq with hq | hq
  · exact k_Law_rounds_3 q hq
  rcases List.mem_append.mp hq with hq | hq
  · exact k_Law_rounds_4 q hq
  rcases List.mem_append.mp hq with hq | hq
  · exact k_Law_rounds_5 q hq
  rcases List.mem_append.mp hq with hq | hq
  · exact k_Law_rounds_6 q hq
  exact k_Law_rounds_7 q hq
theorem k_Fi_lets : ∀ q ∈ t_Fi_lets, decode prog_1_method_15_code q.1 = .ok q.2 := by decide +kernel
theorem k_Fi_isSort : ∀ q ∈ t_Fi_isSort, decode prog_1_method_40_code q.1 = .ok q.2 := by decide +kernel
theorem k_Fi_isRound : ∀ q ∈ t_Fi_isRound, decode prog_1_method_41_code q.1 = .ok q.2 := by decide +kernel
theorem k_Fi_mayBe : ∀ q ∈ t_Fi_mayBe, decode prog_1_method_51_code q.1 = .ok q.2 := by decide +kernel
theorem k_Jlong_bitCount : ∀ q ∈ t_Jlong_bitCount, decode prog_16_method_50_code q.1 = .ok q.2 := by decide +kernel
theorem k_Fi_chance : ∀ q ∈ t_Fi_chance, decode prog_1_method_17_code q.1 = .ok q.2 := by decide +kernel
theorem k_Fi_chanceOf : ∀ q ∈ t_Fi_chanceOf, decode prog_1_method_54_code q.1 = .ok q.2 := by decide +kernel
theorem k_Fi_commonDivisor : ∀ q ∈ t_Fi_commonDivisor, decode prog_1_method_55_code q.1 = .ok q.2 := by decide +kernel
theorem k_Law_share : ∀ q ∈ t_Law_share, decode method_18_code q.1 = .ok q.2 := by decide +kernel
theorem k_Fi_rounds : ∀ q ∈ t_Fi_rounds, decode prog_1_method_16_code q.1 = .ok q.2 := by decide +kernel
theorem k_Fi_roundsOf : ∀ q ∈ t_Fi_roundsOf, decode prog_1_method_52_code q.1 = .ok q.2 := by decide +kernel
theorem k_Fi_wound : ∀ q ∈ t_Fi_wound, decode prog_1_method_19_code q.1 = .ok q.2 := by decide +kernel
theorem k_Fi_windings : ∀ q ∈ t_Fi_windings, decode prog_1_method_53_code q.1 = .ok q.2 := by decide +kernel
theorem k_Law_places_0 : ∀ q ∈ t_Law_places_0, decode method_21_code q.1 = .ok q.2 := by decide +kernel
theorem k_Law_places_1 : ∀ q ∈ t_Law_places_1, decode method_21_code q.1 = .ok q.2 := by decide +kernel
theorem k_Law_places_2 : ∀ q ∈ t_Law_places_2, decode method_21_code q.1 = .ok q.2 := by decide +kernel
theorem k_Law_places_3 : ∀ q ∈ t_Law_places_3, decode method_21_code q.1 = .ok q.2 := by decide +kernel
theorem k_Law_places_4 : ∀ q ∈ t_Law_places_4, decode method_21_code q.1 = .ok q.2 := by decide +kernel
theorem k_Law_places : ∀ q ∈ t_Law_places, decode method_21_code q.1 = .ok q.2 := by
  intro q hq
  unfold t_Law_places at hq
  rcases List.mem_append.mp hq with hq | hq
  · exact k_Law_places_0 q hq
  rcases List.mem_append.mp hq with hq | hq
  · exact k_Law_places_1 q hq
  rcases List.mem_append.mp hq with hq | hq
  · exact k_Law_places_2 q hq
  rcases List.mem_append.mp hq with hq | hq
  · exact k_Law_places_3 q hq
  exact k_Law_places_4 q hq
theorem k_Fi_trace : ∀ q ∈ t_Fi_trace, decode prog_1_method_20_code q.1 = .ok q.2 := by decide +kernel
theorem k_Sh_addTrace : ∀ q ∈ t_Sh_addTrace, decode prog_10_method_5_code q.1 = .ok q.2 := by decide +kernel
theorem k_Law_last : ∀ q ∈ t_Law_last, decode method_22_code q.1 = .ok q.2 := by decide +kernel
theorem k_Law_first : ∀ q ∈ t_Law_first, decode method_23_code q.1 = .ok q.2 := by decide +kernel
theorem k_Fi_gone : ∀ q ∈ t_Fi_gone, decode prog_1_method_22_code q.1 = .ok q.2 := by decide +kernel
theorem k_Sh_tracesAllow : ∀ q ∈ t_Sh_tracesAllow, decode prog_10_method_6_code q.1 = .ok q.2 := by decide +kernel
theorem k_Pr_lastAhead : ∀ q ∈ t_Pr_lastAhead, decode prog_8_method_13_code q.1 = .ok q.2 := by decide +kernel
theorem k_Pr_firstFrom : ∀ q ∈ t_Pr_firstFrom, decode prog_8_method_14_code q.1 = .ok q.2 := by decide +kernel
theorem k_Jmath_max : ∀ q ∈ t_Jmath_max, decode prog_17_method_65_code q.1 = .ok q.2 := by decide +kernel
theorem k_Fi_earlier : ∀ q ∈ t_Fi_earlier, decode prog_1_method_23_code q.1 = .ok q.2 := by decide +kernel
theorem k_Fi_clear : ∀ q ∈ t_Fi_clear, decode prog_1_method_21_code q.1 = .ok q.2 := by decide +kernel
theorem k_Fi_count : ∀ q ∈ t_Fi_count, decode prog_1_method_30_code q.1 = .ok q.2 := by decide +kernel
theorem k_Sh_pictures : ∀ q ∈ t_Sh_pictures, decode prog_10_method_7_code q.1 = .ok q.2 := by decide +kernel
theorem k_Sh_marks : ∀ q ∈ t_Sh_marks, decode prog_10_method_8_code q.1 = .ok q.2 := by decide +kernel
theorem k_Pr_marksOn : ∀ q ∈ t_Pr_marksOn, decode prog_8_method_16_code q.1 = .ok q.2 := by decide +kernel
theorem k_Jint_bitCount : ∀ q ∈ t_Jint_bitCount, decode prog_15_method_49_code q.1 = .ok q.2 := by decide +kernel
theorem k_Law_0 : ∀ q ∈ t_Law_0, decode code q.1 = .ok q.2 := by decide +kernel
theorem k_Law_1 : ∀ q ∈ t_Law_1, decode code q.1 = .ok q.2 := by decide +kernel
theorem k_Law_2 : ∀ q ∈ t_Law_2, decode code q.1 = .ok q.2 := by decide +kernel
theorem k_Law_3 : ∀ q ∈ t_Law_3, decode code q.1 = .ok q.2 := by decide +kernel
theorem k_Law_4 : ∀ q ∈ t_Law_4, decode code q.1 = .ok q.2 := by decide +kernel
theorem k_Law_5 : ∀ q ∈ t_Law_5, decode code q.1 = .ok q.2 := by decide +kernel
theorem k_Law_6 : ∀ q ∈ t_Law_6, decode code q.1 = .ok q.2 := by decide +kernel
theorem k_Law_7 : ∀ q ∈ t_Law_7, decode code q.1 = .ok q.2 := by decide +kernel
theorem k_Law_8 : ∀ q ∈ t_Law_8, decode code q.1 = .ok q.2 := by decide +kernel
theorem k_Law_9 : ∀ q ∈ t_Law_9, decode code q.1 = .ok q.2 := by decide +kernel
theorem k_Law : ∀ q ∈ t_Law, decode code q.1 = .ok q.2 := by
  intro q hq
  unfold t_Law at hq
  rcases List.mem_append.mp hq with hq | hq
  · exact k_Law_0 q hq
  rcases List.mem_append.mp hq with hq | hq
  · exact k_Law_1 q hq
  rcases List.mem_append.mp hq with hq | hq
  · exact k_Law_2 q hq
  rcases List.mem_append.mp hq with hq | hq
  · exact k_Law_3 q hq
  rcases List.mem_append.mp hq with hq | hq
  · exact k_Law_4 q hq
  rcases List.mem_append.mp hq with hq | hq
  · exact k_Law_5 q hq
  rcases List.mem_append.mp hq with hq | hq
  · exact k_Law_6 q hq
  rcases List.mem_append.mp hq with hq | hq
  · exact k_Law_7 q hq
  rcases List.mem_append.mp hq with hq | hq
  · exact k_Law_8 q hq
  exact k_Law_9 q hq
