abbrev rmX0_act : Room := { frames := 0, cells := 0, slots := 0, locals := 0 }
abbrev rmX0_addHandler : Room := { frames := 4, cells := 0, slots := 0, locals := 89 }
abbrev rmX0_addInstruction : Room := { frames := 4, cells := 0, slots := 0, locals := 89 }
abbrev rmX0_empty : Room := { frames := 4, cells := 0, slots := 0, locals := 89 }
abbrev rmX0_entriesNeeded : Room := { frames := 2, cells := 0, slots := 0, locals := 42 }
abbrev rmX0_first : Room := { frames := 0, cells := 0, slots := 0, locals := 0 }
abbrev rmX0_handlerFor : Room := { frames := 0, cells := 0, slots := 0, locals := 0 }
abbrev rmX0_handlerPlace : Room := { frames := 1, cells := 0, slots := 0, locals := 23 }
abbrev rmX0_init : Room := { frames := 2, cells := 0, slots := 0, locals := 40 }
abbrev rmX0_isJump : Room := { frames := 0, cells := 0, slots := 0, locals := 0 }
abbrev rmX0_jumpPlace : Room := { frames := 1, cells := 0, slots := 0, locals := 23 }
abbrev rmX0_leadsBack : Room := { frames := 1, cells := 0, slots := 0, locals := 21 }
abbrev rmX0_number : Room := { frames := 0, cells := 0, slots := 0, locals := 0 }
abbrev rmX0_second : Room := { frames := 0, cells := 0, slots := 0, locals := 0 }
abbrev rmX10_about : Room := { frames := 2, cells := 0, slots := 0, locals := 46 }
abbrev rmX10_answer : Room := { frames := 0, cells := 0, slots := 0, locals := 0 }
abbrev rmX10_clear : Room := { frames := 1, cells := 0, slots := 0, locals := 21 }
abbrev rmX10_entries : Room := { frames := 2, cells := 0, slots := 0, locals := 46 }
abbrev rmX10_entry : Room := { frames := 2, cells := 0, slots := 0, locals := 46 }
abbrev rmX10_handler : Room := { frames := 5, cells := 0, slots := 0, locals := 113 }
abbrev rmX10_init : Room := { frames := 4, cells := 0, slots := 0, locals := 83 }
abbrev rmX10_instruction : Room := { frames := 5, cells := 0, slots := 0, locals := 114 }
abbrev rmX10_isPlace : Room := { frames := 1, cells := 0, slots := 0, locals := 25 }
abbrev rmX10_isRegister : Room := { frames := 1, cells := 0, slots := 0, locals := 25 }
abbrev rmX10_method : Room := { frames := 6, cells := 0, slots := 0, locals := 129 }
abbrev rmX10_numberFits : Room := { frames := 2, cells := 0, slots := 0, locals := 46 }
abbrev rmX10_run : Room := { frames := 7, cells := 0, slots := 0, locals := 171 }
abbrev rmX10_step : Room := { frames := 7, cells := 0, slots := 0, locals := 171 }
abbrev rmX10_told : Room := { frames := 1, cells := 0, slots := 0, locals := 21 }
abbrev rmX10_within : Room := { frames := 0, cells := 0, slots := 0, locals := 0 }
abbrev rmX11_about : Room := { frames := 3, cells := 0, slots := 0, locals := 67 }
abbrev rmX11_answer : Room := { frames := 0, cells := 0, slots := 0, locals := 0 }
abbrev rmX11_beginOf : Room := { frames := 1, cells := 0, slots := 0, locals := 21 }
abbrev rmX11_begins : Room := { frames := 6, cells := 0, slots := 0, locals := 149 }
abbrev rmX11_cast : Room := { frames := 0, cells := 0, slots := 0, locals := 0 }
abbrev rmX11_clear : Room := { frames := 0, cells := 0, slots := 0, locals := 0 }
abbrev rmX11_countOf : Room := { frames := 1, cells := 0, slots := 0, locals := 23 }
abbrev rmX11_counts : Room := { frames := 0, cells := 0, slots := 0, locals := 0 }
abbrev rmX11_divides : Room := { frames := 3, cells := 0, slots := 0, locals := 69 }
abbrev rmX11_enter : Room := { frames := 3, cells := 0, slots := 0, locals := 67 }
abbrev rmX11_entries : Room := { frames := 3, cells := 0, slots := 0, locals := 67 }
abbrev rmX11_entry : Room := { frames := 3, cells := 0, slots := 0, locals := 72 }
abbrev rmX11_fails : Room := { frames := 2, cells := 0, slots := 0, locals := 44 }
abbrev rmX11_guards : Room := { frames := 3, cells := 0, slots := 0, locals := 69 }
abbrev rmX11_handler : Room := { frames := 2, cells := 0, slots := 0, locals := 46 }
abbrev rmX11_in : Room := { frames := 0, cells := 0, slots := 0, locals := 0 }
abbrev rmX11_init : Room := { frames := 1, cells := 0, slots := 0, locals := 20 }
abbrev rmX11_instruction : Room := { frames := 2, cells := 0, slots := 0, locals := 47 }
abbrev rmX11_isBack : Room := { frames := 0, cells := 0, slots := 0, locals := 0 }
abbrev rmX11_isLarge : Room := { frames := 2, cells := 0, slots := 0, locals := 46 }
abbrev rmX11_isMethod : Room := { frames := 1, cells := 0, slots := 0, locals := 25 }
abbrev rmX11_isPaid : Room := { frames := 1, cells := 0, slots := 0, locals := 22 }
abbrev rmX11_isRight : Room := { frames := 1, cells := 0, slots := 0, locals := 25 }
abbrev rmX11_jumps : Room := { frames := 1, cells := 0, slots := 0, locals := 22 }
abbrev rmX11_lay : Room := { frames := 0, cells := 0, slots := 0, locals := 0 }
abbrev rmX11_leave : Room := { frames := 0, cells := 0, slots := 0, locals := 0 }
abbrev rmX11_lesser : Room := { frames := 0, cells := 0, slots := 0, locals := 0 }
abbrev rmX11_makes : Room := { frames := 3, cells := 0, slots := 0, locals := 69 }
abbrev rmX11_mark : Room := { frames := 2, cells := 0, slots := 0, locals := 46 }
abbrev rmX11_method : Room := { frames := 0, cells := 0, slots := 0, locals := 0 }
abbrev rmX11_returns : Room := { frames := 1, cells := 0, slots := 0, locals := 21 }
abbrev rmX11_rows : Room := { frames := 4, cells := 0, slots := 0, locals := 94 }
abbrev rmX11_run : Room := { frames := 8, cells := 0, slots := 0, locals := 193 }
abbrev rmX11_runs : Room := { frames := 7, cells := 0, slots := 0, locals := 169 }
abbrev rmX11_step : Room := { frames := 8, cells := 0, slots := 0, locals := 193 }
abbrev rmX11_takes : Room := { frames := 1, cells := 0, slots := 0, locals := 22 }
abbrev rmX11_told : Room := { frames := 0, cells := 0, slots := 0, locals := 0 }
abbrev rmX11_work : Room := { frames := 5, cells := 0, slots := 0, locals := 122 }
abbrev rmX1_become : Room := { frames := 0, cells := 0, slots := 0, locals := 0 }
abbrev rmX1_begin : Room := { frames := 1, cells := 0, slots := 0, locals := 20 }
abbrev rmX1_held : Room := { frames := 0, cells := 0, slots := 0, locals := 0 }
abbrev rmX1_hold : Room := { frames := 1, cells := 0, slots := 0, locals := 25 }
abbrev rmX1_init : Room := { frames := 2, cells := 0, slots := 0, locals := 40 }
abbrev rmX1_let : Room := { frames := 1, cells := 0, slots := 0, locals := 25 }
abbrev rmX1_register : Room := { frames := 0, cells := 0, slots := 0, locals := 0 }
abbrev rmX2_beginFrame : Room := { frames := 4, cells := 0, slots := 0, locals := 91 }
abbrev rmX2_endFrame : Room := { frames := 1, cells := 0, slots := 0, locals := 22 }
abbrev rmX2_giveBack : Room := { frames := 2, cells := 0, slots := 0, locals := 45 }
abbrev rmX2_go : Room := { frames := 6, cells := 0, slots := 0, locals := 143 }
abbrev rmX2_handOver : Room := { frames := 4, cells := 0, slots := 0, locals := 92 }
abbrev rmX2_hold : Room := { frames := 2, cells := 0, slots := 0, locals := 47 }
abbrev rmX2_init : Room := { frames := 3, cells := 0, slots := 0, locals := 61 }
abbrev rmX2_leap : Room := { frames := 3, cells := 0, slots := 0, locals := 66 }
abbrev rmX2_let : Room := { frames := 2, cells := 0, slots := 0, locals := 47 }
abbrev rmX2_look : Room := { frames := 3, cells := 0, slots := 0, locals := 74 }
abbrev rmX2_make : Room := { frames := 2, cells := 0, slots := 0, locals := 49 }
abbrev rmX2_perform : Room := { frames := 5, cells := 0, slots := 0, locals := 116 }
abbrev rmX2_raise : Room := { frames := 5, cells := 0, slots := 0, locals := 116 }
abbrev rmX2_reckon : Room := { frames := 1, cells := 0, slots := 0, locals := 23 }
abbrev rmX2_stop : Room := { frames := 0, cells := 0, slots := 0, locals := 0 }
abbrev rmX2_top : Room := { frames := 1, cells := 0, slots := 0, locals := 25 }
abbrev rmX3_enter : Room := { frames := 3, cells := 0, slots := 0, locals := 69 }
abbrev rmX3_fetch : Room := { frames := 3, cells := 0, slots := 0, locals := 69 }
abbrev rmX3_init : Room := { frames := 1, cells := 0, slots := 0, locals := 20 }
abbrev rmX3_jump : Room := { frames := 1, cells := 0, slots := 0, locals := 21 }
abbrev rmX3_pass : Room := { frames := 2, cells := 0, slots := 0, locals := 46 }
abbrev rmX3_take : Room := { frames := 3, cells := 0, slots := 0, locals := 69 }
abbrev rmX4_add : Room := { frames := 0, cells := 0, slots := 0, locals := 0 }
abbrev rmX4_addHandlers : Room := { frames := 2, cells := 0, slots := 0, locals := 45 }
abbrev rmX4_addJumps : Room := { frames := 2, cells := 0, slots := 0, locals := 45 }
abbrev rmX4_addLead : Room := { frames := 1, cells := 0, slots := 0, locals := 23 }
abbrev rmX4_addPlaces : Room := { frames := 1, cells := 0, slots := 0, locals := 23 }
abbrev rmX4_build : Room := { frames := 3, cells := 0, slots := 0, locals := 68 }
abbrev rmX4_goal : Room := { frames := 0, cells := 0, slots := 0, locals := 0 }
abbrev rmX4_handlerMark : Room := { frames := 0, cells := 0, slots := 0, locals := 0 }
abbrev rmX4_init : Room := { frames := 1, cells := 0, slots := 0, locals := 20 }
abbrev rmX4_number : Room := { frames := 0, cells := 0, slots := 0, locals := 0 }
abbrev rmX4_sort : Room := { frames := 0, cells := 0, slots := 0, locals := 0 }
abbrev rmX4_tell : Room := { frames := 1, cells := 0, slots := 0, locals := 21 }
abbrev rmX5_add : Room := { frames := 5, cells := 0, slots := 0, locals := 109 }
abbrev rmX5_at : Room := { frames := 1, cells := 0, slots := 0, locals := 25 }
abbrev rmX5_drop : Room := { frames := 0, cells := 0, slots := 0, locals := 0 }
abbrev rmX5_init : Room := { frames := 3, cells := 0, slots := 0, locals := 60 }
abbrev rmX7_enter : Room := { frames := 1, cells := 0, slots := 0, locals := 20 }
abbrev rmX7_fetch : Room := { frames := 2, cells := 0, slots := 0, locals := 46 }
abbrev rmX7_init : Room := { frames := 1, cells := 0, slots := 0, locals := 20 }
abbrev rmX7_jump : Room := { frames := 2, cells := 0, slots := 0, locals := 44 }
abbrev rmX7_take : Room := { frames := 2, cells := 0, slots := 0, locals := 44 }
abbrev rmX8_cell : Room := { frames := 2, cells := 0, slots := 0, locals := 47 }
abbrev rmX8_drop : Room := { frames := 0, cells := 0, slots := 0, locals := 0 }
abbrev rmX8_fault : Room := { frames := 1, cells := 0, slots := 0, locals := 25 }
abbrev rmX8_fitted : Room := { frames := 0, cells := 0, slots := 0, locals := 0 }
abbrev rmX8_holdsThings : Room := { frames := 0, cells := 0, slots := 0, locals := 0 }
abbrev rmX8_init : Room := { frames := 1, cells := 0, slots := 0, locals := 20 }
abbrev rmX8_isOf : Room := { frames := 0, cells := 0, slots := 0, locals := 0 }
abbrev rmX8_make : Room := { frames := 1, cells := 0, slots := 0, locals := 23 }
abbrev rmX8_put : Room := { frames := 2, cells := 0, slots := 0, locals := 47 }
abbrev rmX9_beginInstruction : Room := { frames := 0, cells := 0, slots := 0, locals := 0 }
abbrev rmX9_countMake : Room := { frames := 1, cells := 0, slots := 0, locals := 23 }
abbrev rmX9_countOne : Room := { frames := 0, cells := 0, slots := 0, locals := 0 }
abbrev rmX9_init : Room := { frames := 1, cells := 0, slots := 0, locals := 20 }
abbrev rmX9_reset : Room := { frames := 0, cells := 0, slots := 0, locals := 0 }
abbrev rmX9_tell : Room := { frames := 0, cells := 0, slots := 0, locals := 0 }
/-! the code of each method is among the words; what a caller needs -/
theorem kc_X0_act : Cond.code yX0_act cX0_act 2 (some .int) ∈ GW := gw_in 373 (by decide +kernel) (by decide +kernel)
theorem cv_X0_act : CalV yX0_act cX0_act 2 (some .int) rmX0_act 1 RX0 := ⟨gw_in 371 (by decide +kernel) (by decide +kernel), gw_in 372 (by decide +kernel) (by decide +kernel), gw_in 46 (by decide +kernel) (by decide +kernel), kc_X0_act, by decide +kernel, rfl, rfl⟩
theorem kc_X0_addHandler : Cond.code yX0_addHandler cX0_addHandler 5 (some .int) ∈ GW := gw_in 444 (by decide +kernel) (by decide +kernel)
theorem cv_X0_addHandler : CalV yX0_addHandler cX0_addHandler 5 (some .int) rmX0_addHandler 4 RX0 := ⟨gw_in 442 (by decide +kernel) (by decide +kernel), gw_in 443 (by decide +kernel) (by decide +kernel), gw_in 46 (by decide +kernel) (by decide +kernel), kc_X0_addHandler, by decide +kernel, rfl, rfl⟩
theorem kc_X0_addInstruction : Cond.code yX0_addInstruction cX0_addInstruction 6 (some .int) ∈ GW := gw_in 436 (by decide +kernel) (by decide +kernel)
theorem cv_X0_addInstruction : CalV yX0_addInstruction cX0_addInstruction 6 (some .int) rmX0_addInstruction 4 RX0 := ⟨gw_in 434 (by decide +kernel) (by decide +kernel), gw_in 435 (by decide +kernel) (by decide +kernel), gw_in 46 (by decide +kernel) (by decide +kernel), kc_X0_addInstruction, by decide +kernel, rfl, rfl⟩
theorem kc_X0_empty : Cond.code yX0_empty cX0_empty 1 none ∈ GW := gw_in 341 (by decide +kernel) (by decide +kernel)
theorem cv_X0_empty : CalV yX0_empty cX0_empty 1 none rmX0_empty 0 RX0 := ⟨gw_in 339 (by decide +kernel) (by decide +kernel), gw_in 340 (by decide +kernel) (by decide +kernel), gw_in 46 (by decide +kernel) (by decide +kernel), kc_X0_empty, by decide +kernel, rfl, rfl⟩
theorem kc_X0_entriesNeeded : Cond.code yX0_entriesNeeded cX0_entriesNeeded 3 (some .int) ∈ GW := gw_in 349 (by decide +kernel) (by decide +kernel)
theorem cv_X0_entriesNeeded : CalV yX0_entriesNeeded cX0_entriesNeeded 3 (some .int) rmX0_entriesNeeded 0 RX0 := ⟨gw_in 347 (by decide +kernel) (by decide +kernel), gw_in 348 (by decide +kernel) (by decide +kernel), gw_in 46 (by decide +kernel) (by decide +kernel), kc_X0_entriesNeeded, by decide +kernel, rfl, rfl⟩
theorem kc_X0_first : Cond.code yX0_first cX0_first 2 (some .int) ∈ GW := gw_in 377 (by decide +kernel) (by decide +kernel)
theorem cv_X0_first : CalV yX0_first cX0_first 2 (some .int) rmX0_first 1 RX0 := ⟨gw_in 375 (by decide +kernel) (by decide +kernel), gw_in 376 (by decide +kernel) (by decide +kernel), gw_in 46 (by decide +kernel) (by decide +kernel), kc_X0_first, by decide +kernel, rfl, rfl⟩
theorem kc_X0_handlerFor : Cond.code yX0_handlerFor cX0_handlerFor 4 (some .int) ∈ GW := gw_in 673 (by decide +kernel) (by decide +kernel)
theorem cv_X0_handlerFor : CalV yX0_handlerFor cX0_handlerFor 4 (some .int) rmX0_handlerFor 2 RX0 := ⟨gw_in 671 (by decide +kernel) (by decide +kernel), gw_in 672 (by decide +kernel) (by decide +kernel), gw_in 46 (by decide +kernel) (by decide +kernel), kc_X0_handlerFor, by decide +kernel, rfl, rfl⟩
theorem kc_X0_handlerPlace : Cond.code yX0_handlerPlace cX0_handlerPlace 2 (some .int) ∈ GW := gw_in 402 (by decide +kernel) (by decide +kernel)
theorem cv_X0_handlerPlace : CalV yX0_handlerPlace cX0_handlerPlace 2 (some .int) rmX0_handlerPlace 1 RX0 := ⟨gw_in 400 (by decide +kernel) (by decide +kernel), gw_in 401 (by decide +kernel) (by decide +kernel), gw_in 46 (by decide +kernel) (by decide +kernel), kc_X0_handlerPlace, by decide +kernel, rfl, rfl⟩
theorem kc_X0_isJump : Cond.code yX0_isJump cX0_isJump 2 (some .boolean) ∈ GW := gw_in 357 (by decide +kernel) (by decide +kernel)
theorem cv_X0_isJump : CalV yX0_isJump cX0_isJump 2 (some .boolean) rmX0_isJump 1 RX0 := ⟨gw_in 355 (by decide +kernel) (by decide +kernel), gw_in 356 (by decide +kernel) (by decide +kernel), gw_in 46 (by decide +kernel) (by decide +kernel), kc_X0_isJump, by decide +kernel, rfl, rfl⟩
theorem kc_X0_jumpPlace : Cond.code yX0_jumpPlace cX0_jumpPlace 2 (some .int) ∈ GW := gw_in 386 (by decide +kernel) (by decide +kernel)
theorem cv_X0_jumpPlace : CalV yX0_jumpPlace cX0_jumpPlace 2 (some .int) rmX0_jumpPlace 1 RX0 := ⟨gw_in 384 (by decide +kernel) (by decide +kernel), gw_in 385 (by decide +kernel) (by decide +kernel), gw_in 46 (by decide +kernel) (by decide +kernel), kc_X0_jumpPlace, by decide +kernel, rfl, rfl⟩
theorem kc_X0_leadsBack : Cond.code yX0_leadsBack cX0_leadsBack 2 (some .boolean) ∈ GW := gw_in 353 (by decide +kernel) (by decide +kernel)
theorem cv_X0_leadsBack : CalV yX0_leadsBack cX0_leadsBack 2 (some .boolean) rmX0_leadsBack 1 RX0 := ⟨gw_in 351 (by decide +kernel) (by decide +kernel), gw_in 352 (by decide +kernel) (by decide +kernel), gw_in 46 (by decide +kernel) (by decide +kernel), kc_X0_leadsBack, by decide +kernel, rfl, rfl⟩
theorem kc_X0_number : Cond.code yX0_number cX0_number 2 (some .long) ∈ GW := gw_in 361 (by decide +kernel) (by decide +kernel)
theorem cv_X0_number : CalV yX0_number cX0_number 2 (some .long) rmX0_number 1 RX0 := ⟨gw_in 359 (by decide +kernel) (by decide +kernel), gw_in 360 (by decide +kernel) (by decide +kernel), gw_in 46 (by decide +kernel) (by decide +kernel), kc_X0_number, by decide +kernel, rfl, rfl⟩
theorem kc_X0_second : Cond.code yX0_second cX0_second 2 (some .int) ∈ GW := gw_in 606 (by decide +kernel) (by decide +kernel)
theorem cv_X0_second : CalV yX0_second cX0_second 2 (some .int) rmX0_second 1 RX0 := ⟨gw_in 604 (by decide +kernel) (by decide +kernel), gw_in 605 (by decide +kernel) (by decide +kernel), gw_in 46 (by decide +kernel) (by decide +kernel), kc_X0_second, by decide +kernel, rfl, rfl⟩
theorem kc_X10_about : Cond.code yX10_about cX10_about 4 (some .int) ∈ GW := gw_in 731 (by decide +kernel) (by decide +kernel)
theorem cv_X10_about : CalV yX10_about cX10_about 4 (some .int) rmX10_about 2 RX10 := ⟨gw_in 729 (by decide +kernel) (by decide +kernel), gw_in 730 (by decide +kernel) (by decide +kernel), gw_in 44 (by decide +kernel) (by decide +kernel), kc_X10_about, by decide +kernel, rfl, rfl⟩
theorem kc_X10_answer : Cond.code yX10_answer cX10_answer 1 (some .long) ∈ GW := gw_in 704 (by decide +kernel) (by decide +kernel)
theorem cv_X10_answer : CalV yX10_answer cX10_answer 1 (some .long) rmX10_answer 0 RX10 := ⟨gw_in 702 (by decide +kernel) (by decide +kernel), gw_in 703 (by decide +kernel) (by decide +kernel), gw_in 44 (by decide +kernel) (by decide +kernel), kc_X10_answer, by decide +kernel, rfl, rfl⟩
theorem kc_X10_clear : Cond.code yX10_clear cX10_clear 1 (some .int) ∈ GW := gw_in 735 (by decide +kernel) (by decide +kernel)
theorem cv_X10_clear : CalV yX10_clear cX10_clear 1 (some .int) rmX10_clear 0 RX10 := ⟨gw_in 733 (by decide +kernel) (by decide +kernel), gw_in 734 (by decide +kernel) (by decide +kernel), gw_in 44 (by decide +kernel) (by decide +kernel), kc_X10_clear, by decide +kernel, rfl, rfl⟩
theorem kc_X10_entries : Cond.code yX10_entries cX10_entries 3 (some .int) ∈ GW := gw_in 716 (by decide +kernel) (by decide +kernel)
theorem cv_X10_entries : CalV yX10_entries cX10_entries 3 (some .int) rmX10_entries 1 RX10 := ⟨gw_in 714 (by decide +kernel) (by decide +kernel), gw_in 715 (by decide +kernel) (by decide +kernel), gw_in 44 (by decide +kernel) (by decide +kernel), kc_X10_entries, by decide +kernel, rfl, rfl⟩
theorem kc_X10_entry : Cond.code yX10_entry cX10_entry 5 (some .int) ∈ GW := gw_in 720 (by decide +kernel) (by decide +kernel)
theorem cv_X10_entry : CalV yX10_entry cX10_entry 5 (some .int) rmX10_entry 3 RX10 := ⟨gw_in 718 (by decide +kernel) (by decide +kernel), gw_in 719 (by decide +kernel) (by decide +kernel), gw_in 44 (by decide +kernel) (by decide +kernel), kc_X10_entry, by decide +kernel, rfl, rfl⟩
theorem kc_X10_handler : Cond.code yX10_handler cX10_handler 7 (some .int) ∈ GW := gw_in 440 (by decide +kernel) (by decide +kernel)
theorem cv_X10_handler : CalV yX10_handler cX10_handler 7 (some .int) rmX10_handler 5 RX10 := ⟨gw_in 438 (by decide +kernel) (by decide +kernel), gw_in 439 (by decide +kernel) (by decide +kernel), gw_in 44 (by decide +kernel) (by decide +kernel), kc_X10_handler, by decide +kernel, rfl, rfl⟩
theorem kc_X10_instruction : Cond.code yX10_instruction cX10_instruction 8 (some .int) ∈ GW := gw_in 409 (by decide +kernel) (by decide +kernel)
theorem cv_X10_instruction : CalV yX10_instruction cX10_instruction 8 (some .int) rmX10_instruction 5 RX10 := ⟨gw_in 407 (by decide +kernel) (by decide +kernel), gw_in 408 (by decide +kernel) (by decide +kernel), gw_in 44 (by decide +kernel) (by decide +kernel), kc_X10_instruction, by decide +kernel, rfl, rfl⟩
theorem kc_X10_isPlace : Cond.code yX10_isPlace cX10_isPlace 2 (some .boolean) ∈ GW := gw_in 428 (by decide +kernel) (by decide +kernel)
theorem cs_X10_isPlace : CalS yX10_isPlace cX10_isPlace 2 (some .boolean) rmX10_isPlace 1 := ⟨gw_in 427 (by decide +kernel) (by decide +kernel), gw_in 44 (by decide +kernel) (by decide +kernel), kc_X10_isPlace, by decide +kernel, rfl, rfl⟩
theorem kc_X10_isRegister : Cond.code yX10_isRegister cX10_isRegister 1 (some .boolean) ∈ GW := gw_in 421 (by decide +kernel) (by decide +kernel)
theorem cs_X10_isRegister : CalS yX10_isRegister cX10_isRegister 1 (some .boolean) rmX10_isRegister 1 := ⟨gw_in 420 (by decide +kernel) (by decide +kernel), gw_in 44 (by decide +kernel) (by decide +kernel), kc_X10_isRegister, by decide +kernel, rfl, rfl⟩
theorem kc_X10_method : Cond.code yX10_method cX10_method 1 (some .int) ∈ GW := gw_in 333 (by decide +kernel) (by decide +kernel)
theorem cv_X10_method : CalV yX10_method cX10_method 1 (some .int) rmX10_method 0 RX10 := ⟨gw_in 331 (by decide +kernel) (by decide +kernel), gw_in 332 (by decide +kernel) (by decide +kernel), gw_in 44 (by decide +kernel) (by decide +kernel), kc_X10_method, by decide +kernel, rfl, rfl⟩
theorem kc_X10_numberFits : Cond.code yX10_numberFits cX10_numberFits 3 (some .boolean) ∈ GW := gw_in 425 (by decide +kernel) (by decide +kernel)
theorem cs_X10_numberFits : CalS yX10_numberFits cX10_numberFits 3 (some .boolean) rmX10_numberFits 2 := ⟨gw_in 424 (by decide +kernel) (by decide +kernel), gw_in 44 (by decide +kernel) (by decide +kernel), kc_X10_numberFits, by decide +kernel, rfl, rfl⟩
theorem kc_X10_run : Cond.code yX10_run cX10_run 5 (some .int) ∈ GW := gw_in 448 (by decide +kernel) (by decide +kernel)
theorem cv_X10_run : CalV yX10_run cX10_run 5 (some .int) rmX10_run 3 RX10 := ⟨gw_in 446 (by decide +kernel) (by decide +kernel), gw_in 447 (by decide +kernel) (by decide +kernel), gw_in 44 (by decide +kernel) (by decide +kernel), kc_X10_run, by decide +kernel, rfl, rfl⟩
theorem kc_X10_step : Cond.code yX10_step cX10_step 5 (some .int) ∈ GW := gw_in 700 (by decide +kernel) (by decide +kernel)
theorem cv_X10_step : CalV yX10_step cX10_step 5 (some .int) rmX10_step 3 RX10 := ⟨gw_in 698 (by decide +kernel) (by decide +kernel), gw_in 699 (by decide +kernel) (by decide +kernel), gw_in 44 (by decide +kernel) (by decide +kernel), kc_X10_step, by decide +kernel, rfl, rfl⟩
theorem kc_X10_told : Cond.code yX10_told cX10_told 2 (some .int) ∈ GW := gw_in 708 (by decide +kernel) (by decide +kernel)
theorem cv_X10_told : CalV yX10_told cX10_told 2 (some .int) rmX10_told 1 RX10 := ⟨gw_in 706 (by decide +kernel) (by decide +kernel), gw_in 707 (by decide +kernel) (by decide +kernel), gw_in 44 (by decide +kernel) (by decide +kernel), kc_X10_told, by decide +kernel, rfl, rfl⟩
theorem kc_X10_within : Cond.code yX10_within cX10_within 6 (some .boolean) ∈ GW := gw_in 416 (by decide +kernel) (by decide +kernel)
theorem cs_X10_within : CalS yX10_within cX10_within 6 (some .boolean) rmX10_within 3 := ⟨gw_in 415 (by decide +kernel) (by decide +kernel), gw_in 44 (by decide +kernel) (by decide +kernel), kc_X10_within, by decide +kernel, rfl, rfl⟩
theorem kc_X11_about : Cond.code yX11_about cX11_about 5 (some .int) ∈ GW := gw_in 937 (by decide +kernel) (by decide +kernel)
theorem cv_X11_about : CalV yX11_about cX11_about 5 (some .int) rmX11_about 2 RX11 := ⟨gw_in 935 (by decide +kernel) (by decide +kernel), gw_in 936 (by decide +kernel) (by decide +kernel), gw_in 54 (by decide +kernel) (by decide +kernel), kc_X11_about, by decide +kernel, rfl, rfl⟩
theorem kc_X11_answer : Cond.code yX11_answer cX11_answer 1 (some .long) ∈ GW := gw_in 1016 (by decide +kernel) (by decide +kernel)
theorem cv_X11_answer : CalV yX11_answer cX11_answer 1 (some .long) rmX11_answer 0 RX11 := ⟨gw_in 1014 (by decide +kernel) (by decide +kernel), gw_in 1015 (by decide +kernel) (by decide +kernel), gw_in 54 (by decide +kernel) (by decide +kernel), kc_X11_answer, by decide +kernel, rfl, rfl⟩
theorem kc_X11_beginOf : Cond.code yX11_beginOf cX11_beginOf 6 (some .int) ∈ GW := gw_in 930 (by decide +kernel) (by decide +kernel)
theorem cv_X11_beginOf : CalV yX11_beginOf cX11_beginOf 6 (some .int) rmX11_beginOf 2 RX11 := ⟨gw_in 929 (by decide +kernel) (by decide +kernel), gw_in 27 (by decide +kernel) (by decide +kernel), gw_in 54 (by decide +kernel) (by decide +kernel), kc_X11_beginOf, by decide +kernel, rfl, rfl⟩
theorem kc_X11_begins : Cond.code yX11_begins cX11_begins 1 none ∈ GW := gw_in 963 (by decide +kernel) (by decide +kernel)
theorem cv_X11_begins : CalV yX11_begins cX11_begins 1 none rmX11_begins 0 RX11 := ⟨gw_in 962 (by decide +kernel) (by decide +kernel), gw_in 32 (by decide +kernel) (by decide +kernel), gw_in 54 (by decide +kernel) (by decide +kernel), kc_X11_begins, by decide +kernel, rfl, rfl⟩
theorem kc_X11_cast : Cond.code yX11_cast cX11_cast 3 (some .long) ∈ GW := gw_in 1007 (by decide +kernel) (by decide +kernel)
theorem cs_X11_cast : CalS yX11_cast cX11_cast 3 (some .long) rmX11_cast 2 := ⟨gw_in 1006 (by decide +kernel) (by decide +kernel), gw_in 54 (by decide +kernel) (by decide +kernel), kc_X11_cast, by decide +kernel, rfl, rfl⟩
theorem kc_X11_clear : Cond.code yX11_clear cX11_clear 2 (some .int) ∈ GW := gw_in 898 (by decide +kernel) (by decide +kernel)
theorem cv_X11_clear : CalV yX11_clear cX11_clear 2 (some .int) rmX11_clear 0 RX11 := ⟨gw_in 896 (by decide +kernel) (by decide +kernel), gw_in 897 (by decide +kernel) (by decide +kernel), gw_in 54 (by decide +kernel) (by decide +kernel), kc_X11_clear, by decide +kernel, rfl, rfl⟩
theorem kc_X11_countOf : Cond.code yX11_countOf cX11_countOf 4 (some .int) ∈ GW := gw_in 910 (by decide +kernel) (by decide +kernel)
theorem cv_X11_countOf : CalV yX11_countOf cX11_countOf 4 (some .int) rmX11_countOf 1 RX11 := ⟨gw_in 909 (by decide +kernel) (by decide +kernel), gw_in 23 (by decide +kernel) (by decide +kernel), gw_in 54 (by decide +kernel) (by decide +kernel), kc_X11_countOf, by decide +kernel, rfl, rfl⟩
theorem kc_X11_counts : Cond.code yX11_counts cX11_counts 3 (some .boolean) ∈ GW := gw_in 954 (by decide +kernel) (by decide +kernel)
theorem cv_X11_counts : CalV yX11_counts cX11_counts 3 (some .boolean) rmX11_counts 1 RX11 := ⟨gw_in 953 (by decide +kernel) (by decide +kernel), gw_in 30 (by decide +kernel) (by decide +kernel), gw_in 54 (by decide +kernel) (by decide +kernel), kc_X11_counts, by decide +kernel, rfl, rfl⟩
theorem kc_X11_divides : Cond.code yX11_divides cX11_divides 7 none ∈ GW := gw_in 979 (by decide +kernel) (by decide +kernel)
theorem cv_X11_divides : CalV yX11_divides cX11_divides 7 none rmX11_divides 4 RX11 := ⟨gw_in 978 (by decide +kernel) (by decide +kernel), gw_in 36 (by decide +kernel) (by decide +kernel), gw_in 54 (by decide +kernel) (by decide +kernel), kc_X11_divides, by decide +kernel, rfl, rfl⟩
theorem kc_X11_enter : Cond.code yX11_enter cX11_enter 6 none ∈ GW := gw_in 950 (by decide +kernel) (by decide +kernel)
theorem cv_X11_enter : CalV yX11_enter cX11_enter 6 none rmX11_enter 2 RX11 := ⟨gw_in 949 (by decide +kernel) (by decide +kernel), gw_in 29 (by decide +kernel) (by decide +kernel), gw_in 54 (by decide +kernel) (by decide +kernel), kc_X11_enter, by decide +kernel, rfl, rfl⟩
theorem kc_X11_entries : Cond.code yX11_entries cX11_entries 2 (some .int) ∈ GW := gw_in 902 (by decide +kernel) (by decide +kernel)
theorem cv_X11_entries : CalV yX11_entries cX11_entries 2 (some .int) rmX11_entries 1 RX11 := ⟨gw_in 900 (by decide +kernel) (by decide +kernel), gw_in 901 (by decide +kernel) (by decide +kernel), gw_in 54 (by decide +kernel) (by decide +kernel), kc_X11_entries, by decide +kernel, rfl, rfl⟩
theorem kc_X11_entry : Cond.code yX11_entry cX11_entry 4 (some .int) ∈ GW := gw_in 918 (by decide +kernel) (by decide +kernel)
theorem cv_X11_entry : CalV yX11_entry cX11_entry 4 (some .int) rmX11_entry 3 RX11 := ⟨gw_in 916 (by decide +kernel) (by decide +kernel), gw_in 917 (by decide +kernel) (by decide +kernel), gw_in 54 (by decide +kernel) (by decide +kernel), kc_X11_entry, by decide +kernel, rfl, rfl⟩
theorem kc_X11_fails : Cond.code yX11_fails cX11_fails 6 none ∈ GW := gw_in 983 (by decide +kernel) (by decide +kernel)
theorem cv_X11_fails : CalV yX11_fails cX11_fails 6 none rmX11_fails 2 RX11 := ⟨gw_in 982 (by decide +kernel) (by decide +kernel), gw_in 37 (by decide +kernel) (by decide +kernel), gw_in 54 (by decide +kernel) (by decide +kernel), kc_X11_fails, by decide +kernel, rfl, rfl⟩
theorem kc_X11_guards : Cond.code yX11_guards cX11_guards 4 none ∈ GW := gw_in 995 (by decide +kernel) (by decide +kernel)
theorem cv_X11_guards : CalV yX11_guards cX11_guards 4 none rmX11_guards 3 RX11 := ⟨gw_in 994 (by decide +kernel) (by decide +kernel), gw_in 40 (by decide +kernel) (by decide +kernel), gw_in 54 (by decide +kernel) (by decide +kernel), kc_X11_guards, by decide +kernel, rfl, rfl⟩
theorem kc_X11_handler : Cond.code yX11_handler cX11_handler 7 (some .int) ∈ GW := gw_in 894 (by decide +kernel) (by decide +kernel)
theorem cv_X11_handler : CalV yX11_handler cX11_handler 7 (some .int) rmX11_handler 5 RX11 := ⟨gw_in 892 (by decide +kernel) (by decide +kernel), gw_in 893 (by decide +kernel) (by decide +kernel), gw_in 54 (by decide +kernel) (by decide +kernel), kc_X11_handler, by decide +kernel, rfl, rfl⟩
theorem kc_X11_in : Cond.code yX11_in cX11_in 6 (some .boolean) ∈ GW := gw_in 881 (by decide +kernel) (by decide +kernel)
theorem cs_X11_in : CalS yX11_in cX11_in 6 (some .boolean) rmX11_in 3 := ⟨gw_in 880 (by decide +kernel) (by decide +kernel), gw_in 54 (by decide +kernel) (by decide +kernel), kc_X11_in, by decide +kernel, rfl, rfl⟩
theorem kc_X11_instruction : Cond.code yX11_instruction cX11_instruction 8 (some .int) ∈ GW := gw_in 874 (by decide +kernel) (by decide +kernel)
theorem cv_X11_instruction : CalV yX11_instruction cX11_instruction 8 (some .int) rmX11_instruction 5 RX11 := ⟨gw_in 872 (by decide +kernel) (by decide +kernel), gw_in 873 (by decide +kernel) (by decide +kernel), gw_in 54 (by decide +kernel) (by decide +kernel), kc_X11_instruction, by decide +kernel, rfl, rfl⟩
theorem kc_X11_isBack : Cond.code yX11_isBack cX11_isBack 4 (some .boolean) ∈ GW := gw_in 914 (by decide +kernel) (by decide +kernel)
theorem cv_X11_isBack : CalV yX11_isBack cX11_isBack 4 (some .boolean) rmX11_isBack 2 RX11 := ⟨gw_in 913 (by decide +kernel) (by decide +kernel), gw_in 24 (by decide +kernel) (by decide +kernel), gw_in 54 (by decide +kernel) (by decide +kernel), kc_X11_isBack, by decide +kernel, rfl, rfl⟩
theorem kc_X11_isLarge : Cond.code yX11_isLarge cX11_isLarge 2 (some .boolean) ∈ GW := gw_in 906 (by decide +kernel) (by decide +kernel)
theorem cv_X11_isLarge : CalV yX11_isLarge cX11_isLarge 2 (some .boolean) rmX11_isLarge 1 RX11 := ⟨gw_in 905 (by decide +kernel) (by decide +kernel), gw_in 22 (by decide +kernel) (by decide +kernel), gw_in 54 (by decide +kernel) (by decide +kernel), kc_X11_isLarge, by decide +kernel, rfl, rfl⟩
theorem kc_X11_isMethod : Cond.code yX11_isMethod cX11_isMethod 2 (some .boolean) ∈ GW := gw_in 878 (by decide +kernel) (by decide +kernel)
theorem cv_X11_isMethod : CalV yX11_isMethod cX11_isMethod 2 (some .boolean) rmX11_isMethod 1 RX11 := ⟨gw_in 877 (by decide +kernel) (by decide +kernel), gw_in 21 (by decide +kernel) (by decide +kernel), gw_in 54 (by decide +kernel) (by decide +kernel), kc_X11_isMethod, by decide +kernel, rfl, rfl⟩
theorem kc_X11_isPaid : Cond.code yX11_isPaid cX11_isPaid 6 (some .boolean) ∈ GW := gw_in 958 (by decide +kernel) (by decide +kernel)
theorem cv_X11_isPaid : CalV yX11_isPaid cX11_isPaid 6 (some .boolean) rmX11_isPaid 1 RX11 := ⟨gw_in 957 (by decide +kernel) (by decide +kernel), gw_in 31 (by decide +kernel) (by decide +kernel), gw_in 54 (by decide +kernel) (by decide +kernel), kc_X11_isPaid, by decide +kernel, rfl, rfl⟩
theorem kc_X11_isRight : Cond.code yX11_isRight cX11_isRight 3 (some .boolean) ∈ GW := gw_in 886 (by decide +kernel) (by decide +kernel)
theorem cs_X11_isRight : CalS yX11_isRight cX11_isRight 3 (some .boolean) rmX11_isRight 2 := ⟨gw_in 885 (by decide +kernel) (by decide +kernel), gw_in 54 (by decide +kernel) (by decide +kernel), kc_X11_isRight, by decide +kernel, rfl, rfl⟩
theorem kc_X11_jumps : Cond.code yX11_jumps cX11_jumps 3 none ∈ GW := gw_in 991 (by decide +kernel) (by decide +kernel)
theorem cv_X11_jumps : CalV yX11_jumps cX11_jumps 3 none rmX11_jumps 2 RX11 := ⟨gw_in 990 (by decide +kernel) (by decide +kernel), gw_in 39 (by decide +kernel) (by decide +kernel), gw_in 54 (by decide +kernel) (by decide +kernel), kc_X11_jumps, by decide +kernel, rfl, rfl⟩
theorem kc_X11_lay : Cond.code yX11_lay cX11_lay 4 none ∈ GW := gw_in 926 (by decide +kernel) (by decide +kernel)
theorem cv_X11_lay : CalV yX11_lay cX11_lay 4 none rmX11_lay 3 RX11 := ⟨gw_in 925 (by decide +kernel) (by decide +kernel), gw_in 26 (by decide +kernel) (by decide +kernel), gw_in 54 (by decide +kernel) (by decide +kernel), kc_X11_lay, by decide +kernel, rfl, rfl⟩
theorem kc_X11_leave : Cond.code yX11_leave cX11_leave 2 none ∈ GW := gw_in 975 (by decide +kernel) (by decide +kernel)
theorem cv_X11_leave : CalV yX11_leave cX11_leave 2 none rmX11_leave 0 RX11 := ⟨gw_in 974 (by decide +kernel) (by decide +kernel), gw_in 35 (by decide +kernel) (by decide +kernel), gw_in 54 (by decide +kernel) (by decide +kernel), kc_X11_leave, by decide +kernel, rfl, rfl⟩
theorem kc_X11_lesser : Cond.code yX11_lesser cX11_lesser 2 (some .int) ∈ GW := gw_in 933 (by decide +kernel) (by decide +kernel)
theorem cs_X11_lesser : CalS yX11_lesser cX11_lesser 2 (some .int) rmX11_lesser 2 := ⟨gw_in 932 (by decide +kernel) (by decide +kernel), gw_in 54 (by decide +kernel) (by decide +kernel), kc_X11_lesser, by decide +kernel, rfl, rfl⟩
theorem kc_X11_makes : Cond.code yX11_makes cX11_makes 6 none ∈ GW := gw_in 1003 (by decide +kernel) (by decide +kernel)
theorem cv_X11_makes : CalV yX11_makes cX11_makes 6 none rmX11_makes 3 RX11 := ⟨gw_in 1002 (by decide +kernel) (by decide +kernel), gw_in 42 (by decide +kernel) (by decide +kernel), gw_in 54 (by decide +kernel) (by decide +kernel), kc_X11_makes, by decide +kernel, rfl, rfl⟩
theorem kc_X11_mark : Cond.code yX11_mark cX11_mark 7 none ∈ GW := gw_in 922 (by decide +kernel) (by decide +kernel)
theorem cv_X11_mark : CalV yX11_mark cX11_mark 7 none rmX11_mark 1 RX11 := ⟨gw_in 921 (by decide +kernel) (by decide +kernel), gw_in 25 (by decide +kernel) (by decide +kernel), gw_in 54 (by decide +kernel) (by decide +kernel), kc_X11_mark, by decide +kernel, rfl, rfl⟩
theorem kc_X11_method : Cond.code yX11_method cX11_method 1 (some .int) ∈ GW := gw_in 870 (by decide +kernel) (by decide +kernel)
theorem cv_X11_method : CalV yX11_method cX11_method 1 (some .int) rmX11_method 0 RX11 := ⟨gw_in 868 (by decide +kernel) (by decide +kernel), gw_in 869 (by decide +kernel) (by decide +kernel), gw_in 54 (by decide +kernel) (by decide +kernel), kc_X11_method, by decide +kernel, rfl, rfl⟩
theorem kc_X11_returns : Cond.code yX11_returns cX11_returns 5 none ∈ GW := gw_in 971 (by decide +kernel) (by decide +kernel)
theorem cv_X11_returns : CalV yX11_returns cX11_returns 5 none rmX11_returns 1 RX11 := ⟨gw_in 970 (by decide +kernel) (by decide +kernel), gw_in 34 (by decide +kernel) (by decide +kernel), gw_in 54 (by decide +kernel) (by decide +kernel), kc_X11_returns, by decide +kernel, rfl, rfl⟩
theorem kc_X11_rows : Cond.code yX11_rows cX11_rows 9 none ∈ GW := gw_in 999 (by decide +kernel) (by decide +kernel)
theorem cv_X11_rows : CalV yX11_rows cX11_rows 9 none rmX11_rows 5 RX11 := ⟨gw_in 998 (by decide +kernel) (by decide +kernel), gw_in 41 (by decide +kernel) (by decide +kernel), gw_in 54 (by decide +kernel) (by decide +kernel), kc_X11_rows, by decide +kernel, rfl, rfl⟩
theorem kc_X11_run : Cond.code yX11_run cX11_run 5 (some .int) ∈ GW := gw_in 941 (by decide +kernel) (by decide +kernel)
theorem cv_X11_run : CalV yX11_run cX11_run 5 (some .int) rmX11_run 3 RX11 := ⟨gw_in 939 (by decide +kernel) (by decide +kernel), gw_in 940 (by decide +kernel) (by decide +kernel), gw_in 54 (by decide +kernel) (by decide +kernel), kc_X11_run, by decide +kernel, rfl, rfl⟩
theorem kc_X11_runs : Cond.code yX11_runs cX11_runs 5 (some .int) ∈ GW := gw_in 945 (by decide +kernel) (by decide +kernel)
theorem cv_X11_runs : CalV yX11_runs cX11_runs 5 (some .int) rmX11_runs 3 RX11 := ⟨gw_in 944 (by decide +kernel) (by decide +kernel), gw_in 28 (by decide +kernel) (by decide +kernel), gw_in 54 (by decide +kernel) (by decide +kernel), kc_X11_runs, by decide +kernel, rfl, rfl⟩
theorem kc_X11_step : Cond.code yX11_step cX11_step 5 (some .int) ∈ GW := gw_in 1012 (by decide +kernel) (by decide +kernel)
theorem cv_X11_step : CalV yX11_step cX11_step 5 (some .int) rmX11_step 3 RX11 := ⟨gw_in 1010 (by decide +kernel) (by decide +kernel), gw_in 1011 (by decide +kernel) (by decide +kernel), gw_in 54 (by decide +kernel) (by decide +kernel), kc_X11_step, by decide +kernel, rfl, rfl⟩
theorem kc_X11_takes : Cond.code yX11_takes cX11_takes 3 none ∈ GW := gw_in 987 (by decide +kernel) (by decide +kernel)
theorem cv_X11_takes : CalV yX11_takes cX11_takes 3 none rmX11_takes 2 RX11 := ⟨gw_in 986 (by decide +kernel) (by decide +kernel), gw_in 38 (by decide +kernel) (by decide +kernel), gw_in 54 (by decide +kernel) (by decide +kernel), kc_X11_takes, by decide +kernel, rfl, rfl⟩
theorem kc_X11_told : Cond.code yX11_told cX11_told 2 (some .int) ∈ GW := gw_in 1020 (by decide +kernel) (by decide +kernel)
theorem cv_X11_told : CalV yX11_told cX11_told 2 (some .int) rmX11_told 1 RX11 := ⟨gw_in 1018 (by decide +kernel) (by decide +kernel), gw_in 1019 (by decide +kernel) (by decide +kernel), gw_in 54 (by decide +kernel) (by decide +kernel), kc_X11_told, by decide +kernel, rfl, rfl⟩
theorem kc_X11_work : Cond.code yX11_work cX11_work 8 none ∈ GW := gw_in 967 (by decide +kernel) (by decide +kernel)
theorem cv_X11_work : CalV yX11_work cX11_work 8 none rmX11_work 1 RX11 := ⟨gw_in 966 (by decide +kernel) (by decide +kernel), gw_in 33 (by decide +kernel) (by decide +kernel), gw_in 54 (by decide +kernel) (by decide +kernel), kc_X11_work, by decide +kernel, rfl, rfl⟩
theorem kc_X1_become : Cond.code yX1_become cX1_become 4 none ∈ GW := gw_in 562 (by decide +kernel) (by decide +kernel)
theorem cv_X1_become : CalV yX1_become cX1_become 4 none rmX1_become 2 RX1 := ⟨gw_in 560 (by decide +kernel) (by decide +kernel), gw_in 561 (by decide +kernel) (by decide +kernel), gw_in 50 (by decide +kernel) (by decide +kernel), kc_X1_become, by decide +kernel, rfl, rfl⟩
theorem kc_X1_begin : Cond.code yX1_begin cX1_begin 5 none ∈ GW := gw_in 470 (by decide +kernel) (by decide +kernel)
theorem cv_X1_begin : CalV yX1_begin cX1_begin 5 none rmX1_begin 2 RX1 := ⟨gw_in 468 (by decide +kernel) (by decide +kernel), gw_in 469 (by decide +kernel) (by decide +kernel), gw_in 50 (by decide +kernel) (by decide +kernel), kc_X1_begin, by decide +kernel, rfl, rfl⟩
theorem kc_X1_held : Cond.code yX1_held cX1_held 3 (some .int) ∈ GW := gw_in 643 (by decide +kernel) (by decide +kernel)
theorem cv_X1_held : CalV yX1_held cX1_held 3 (some .int) rmX1_held 0 RX1 := ⟨gw_in 641 (by decide +kernel) (by decide +kernel), gw_in 642 (by decide +kernel) (by decide +kernel), gw_in 50 (by decide +kernel) (by decide +kernel), kc_X1_held, by decide +kernel, rfl, rfl⟩
theorem kc_X1_hold : Cond.code yX1_hold cX1_hold 3 (some .boolean) ∈ GW := gw_in 651 (by decide +kernel) (by decide +kernel)
theorem cv_X1_hold : CalV yX1_hold cX1_hold 3 (some .boolean) rmX1_hold 1 RX1 := ⟨gw_in 649 (by decide +kernel) (by decide +kernel), gw_in 650 (by decide +kernel) (by decide +kernel), gw_in 50 (by decide +kernel) (by decide +kernel), kc_X1_hold, by decide +kernel, rfl, rfl⟩
theorem kc_X1_let : Cond.code yX1_let cX1_let 3 (some .boolean) ∈ GW := gw_in 661 (by decide +kernel) (by decide +kernel)
theorem cv_X1_let : CalV yX1_let cX1_let 3 (some .boolean) rmX1_let 1 RX1 := ⟨gw_in 659 (by decide +kernel) (by decide +kernel), gw_in 660 (by decide +kernel) (by decide +kernel), gw_in 50 (by decide +kernel) (by decide +kernel), kc_X1_let, by decide +kernel, rfl, rfl⟩
theorem kc_X1_register : Cond.code yX1_register cX1_register 2 (some .long) ∈ GW := gw_in 503 (by decide +kernel) (by decide +kernel)
theorem cv_X1_register : CalV yX1_register cX1_register 2 (some .long) rmX1_register 1 RX1 := ⟨gw_in 501 (by decide +kernel) (by decide +kernel), gw_in 502 (by decide +kernel) (by decide +kernel), gw_in 50 (by decide +kernel) (by decide +kernel), kc_X1_register, by decide +kernel, rfl, rfl⟩
theorem kc_X2_beginFrame : Cond.code yX2_beginFrame cX2_beginFrame 6 none ∈ GW := gw_in 462 (by decide +kernel) (by decide +kernel)
theorem cv_X2_beginFrame : CalV yX2_beginFrame cX2_beginFrame 6 none rmX2_beginFrame 3 RX2 := ⟨gw_in 461 (by decide +kernel) (by decide +kernel), gw_in 5 (by decide +kernel) (by decide +kernel), gw_in 48 (by decide +kernel) (by decide +kernel), kc_X2_beginFrame, by decide +kernel, rfl, rfl⟩
theorem kc_X2_endFrame : Cond.code yX2_endFrame cX2_endFrame 2 none ∈ GW := gw_in 639 (by decide +kernel) (by decide +kernel)
theorem cv_X2_endFrame : CalV yX2_endFrame cX2_endFrame 2 none rmX2_endFrame 1 RX2 := ⟨gw_in 638 (by decide +kernel) (by decide +kernel), gw_in 15 (by decide +kernel) (by decide +kernel), gw_in 48 (by decide +kernel) (by decide +kernel), kc_X2_endFrame, by decide +kernel, rfl, rfl⟩
theorem kc_X2_giveBack : Cond.code yX2_giveBack cX2_giveBack 5 none ∈ GW := gw_in 635 (by decide +kernel) (by decide +kernel)
theorem cv_X2_giveBack : CalV yX2_giveBack cX2_giveBack 5 none rmX2_giveBack 2 RX2 := ⟨gw_in 634 (by decide +kernel) (by decide +kernel), gw_in 14 (by decide +kernel) (by decide +kernel), gw_in 48 (by decide +kernel) (by decide +kernel), kc_X2_giveBack, by decide +kernel, rfl, rfl⟩
theorem kc_X2_go : Cond.code yX2_go cX2_go 9 (some .int) ∈ GW := gw_in 452 (by decide +kernel) (by decide +kernel)
theorem cv_X2_go : CalV yX2_go cX2_go 9 (some .int) rmX2_go 4 RX2 := ⟨gw_in 450 (by decide +kernel) (by decide +kernel), gw_in 451 (by decide +kernel) (by decide +kernel), gw_in 48 (by decide +kernel) (by decide +kernel), kc_X2_go, by decide +kernel, rfl, rfl⟩
theorem kc_X2_handOver : Cond.code yX2_handOver cX2_handOver 5 none ∈ GW := gw_in 677 (by decide +kernel) (by decide +kernel)
theorem cv_X2_handOver : CalV yX2_handOver cX2_handOver 5 none rmX2_handOver 4 RX2 := ⟨gw_in 676 (by decide +kernel) (by decide +kernel), gw_in 20 (by decide +kernel) (by decide +kernel), gw_in 48 (by decide +kernel) (by decide +kernel), kc_X2_handOver, by decide +kernel, rfl, rfl⟩
theorem kc_X2_hold : Cond.code yX2_hold cX2_hold 4 (some .int) ∈ GW := gw_in 647 (by decide +kernel) (by decide +kernel)
theorem cv_X2_hold : CalV yX2_hold cX2_hold 4 (some .int) rmX2_hold 2 RX2 := ⟨gw_in 646 (by decide +kernel) (by decide +kernel), gw_in 16 (by decide +kernel) (by decide +kernel), gw_in 48 (by decide +kernel) (by decide +kernel), kc_X2_hold, by decide +kernel, rfl, rfl⟩
theorem kc_X2_leap : Cond.code yX2_leap cX2_leap 3 none ∈ GW := gw_in 566 (by decide +kernel) (by decide +kernel)
theorem cv_X2_leap : CalV yX2_leap cX2_leap 3 none rmX2_leap 2 RX2 := ⟨gw_in 565 (by decide +kernel) (by decide +kernel), gw_in 9 (by decide +kernel) (by decide +kernel), gw_in 48 (by decide +kernel) (by decide +kernel), kc_X2_leap, by decide +kernel, rfl, rfl⟩
theorem kc_X2_let : Cond.code yX2_let cX2_let 4 (some .int) ∈ GW := gw_in 657 (by decide +kernel) (by decide +kernel)
theorem cv_X2_let : CalV yX2_let cX2_let 4 (some .int) rmX2_let 2 RX2 := ⟨gw_in 656 (by decide +kernel) (by decide +kernel), gw_in 17 (by decide +kernel) (by decide +kernel), gw_in 48 (by decide +kernel) (by decide +kernel), kc_X2_let, by decide +kernel, rfl, rfl⟩
theorem kc_X2_look : Cond.code yX2_look cX2_look 8 (some .int) ∈ GW := gw_in 602 (by decide +kernel) (by decide +kernel)
theorem cv_X2_look : CalV yX2_look cX2_look 8 (some .int) rmX2_look 2 RX2 := ⟨gw_in 601 (by decide +kernel) (by decide +kernel), gw_in 12 (by decide +kernel) (by decide +kernel), gw_in 48 (by decide +kernel) (by decide +kernel), kc_X2_look, by decide +kernel, rfl, rfl⟩
theorem kc_X2_make : Cond.code yX2_make cX2_make 6 (some .int) ∈ GW := gw_in 587 (by decide +kernel) (by decide +kernel)
theorem cv_X2_make : CalV yX2_make cX2_make 6 (some .int) rmX2_make 3 RX2 := ⟨gw_in 586 (by decide +kernel) (by decide +kernel), gw_in 10 (by decide +kernel) (by decide +kernel), gw_in 48 (by decide +kernel) (by decide +kernel), kc_X2_make, by decide +kernel, rfl, rfl⟩
theorem kc_X2_perform : Cond.code yX2_perform cX2_perform 8 (some .int) ∈ GW := gw_in 555 (by decide +kernel) (by decide +kernel)
theorem cv_X2_perform : CalV yX2_perform cX2_perform 8 (some .int) rmX2_perform 2 RX2 := ⟨gw_in 554 (by decide +kernel) (by decide +kernel), gw_in 8 (by decide +kernel) (by decide +kernel), gw_in 48 (by decide +kernel) (by decide +kernel), kc_X2_perform, by decide +kernel, rfl, rfl⟩
theorem kc_X2_raise : Cond.code yX2_raise cX2_raise 6 none ∈ GW := gw_in 669 (by decide +kernel) (by decide +kernel)
theorem cv_X2_raise : CalV yX2_raise cX2_raise 6 none rmX2_raise 2 RX2 := ⟨gw_in 668 (by decide +kernel) (by decide +kernel), gw_in 19 (by decide +kernel) (by decide +kernel), gw_in 48 (by decide +kernel) (by decide +kernel), kc_X2_raise, by decide +kernel, rfl, rfl⟩
theorem kc_X2_reckon : Cond.code yX2_reckon cX2_reckon 8 (some .int) ∈ GW := gw_in 665 (by decide +kernel) (by decide +kernel)
theorem cv_X2_reckon : CalV yX2_reckon cX2_reckon 8 (some .int) rmX2_reckon 2 RX2 := ⟨gw_in 664 (by decide +kernel) (by decide +kernel), gw_in 18 (by decide +kernel) (by decide +kernel), gw_in 48 (by decide +kernel) (by decide +kernel), kc_X2_reckon, by decide +kernel, rfl, rfl⟩
theorem kc_X2_stop : Cond.code yX2_stop cX2_stop 1 none ∈ GW := gw_in 466 (by decide +kernel) (by decide +kernel)
theorem cv_X2_stop : CalV yX2_stop cX2_stop 1 none rmX2_stop 0 RX2 := ⟨gw_in 465 (by decide +kernel) (by decide +kernel), gw_in 6 (by decide +kernel) (by decide +kernel), gw_in 48 (by decide +kernel) (by decide +kernel), kc_X2_stop, by decide +kernel, rfl, rfl⟩
theorem kc_X2_top : Cond.code yX2_top cX2_top 1 (some (.object "StepMarks$Frame")) ∈ GW := gw_in 528 (by decide +kernel) (by decide +kernel)
theorem cv_X2_top : CalV yX2_top cX2_top 1 (some (.object "StepMarks$Frame")) rmX2_top 0 RX2 := ⟨gw_in 527 (by decide +kernel) (by decide +kernel), gw_in 7 (by decide +kernel) (by decide +kernel), gw_in 48 (by decide +kernel) (by decide +kernel), kc_X2_top, by decide +kernel, rfl, rfl⟩
theorem kc_X3_enter : Cond.code yX3_enter cX3_enter 3 (some .boolean) ∈ GW := gw_in 484 (by decide +kernel) (by decide +kernel)
theorem cf_X3_enter : CalF ⟨"StepMarks$Pacer", "enter", "(LStepMarks$Frame;LStepMarks$Tally;)Z"⟩ yX3_enter cX3_enter 3 (some .boolean) rmX3_enter 2 RX3 := ⟨gw_in 480 (by decide +kernel) (by decide +kernel), gw_in 482 (by decide +kernel) (by decide +kernel), gw_in 52 (by decide +kernel) (by decide +kernel), kc_X3_enter, by decide +kernel, rfl, rfl⟩
theorem kc_X3_fetch : Cond.code yX3_fetch cX3_fetch 5 (some .boolean) ∈ GW := gw_in 538 (by decide +kernel) (by decide +kernel)
theorem cf_X3_fetch : CalF ⟨"StepMarks$Pacer", "fetch", "(LStepMarks$Frame;LStepMarks$Tally;)Z"⟩ yX3_fetch cX3_fetch 5 (some .boolean) rmX3_fetch 2 RX3 := ⟨gw_in 534 (by decide +kernel) (by decide +kernel), gw_in 536 (by decide +kernel) (by decide +kernel), gw_in 52 (by decide +kernel) (by decide +kernel), kc_X3_fetch, by decide +kernel, rfl, rfl⟩
theorem kc_X3_jump : Cond.code yX3_jump cX3_jump 3 (some .boolean) ∈ GW := gw_in 575 (by decide +kernel) (by decide +kernel)
theorem cf_X3_jump : CalF ⟨"StepMarks$Pacer", "jump", "(LStepMarks$Frame;LStepMarks$Tally;)Z"⟩ yX3_jump cX3_jump 3 (some .boolean) rmX3_jump 2 RX3 := ⟨gw_in 571 (by decide +kernel) (by decide +kernel), gw_in 573 (by decide +kernel) (by decide +kernel), gw_in 52 (by decide +kernel) (by decide +kernel), kc_X3_jump, by decide +kernel, rfl, rfl⟩
theorem kc_X3_pass : Cond.code yX3_pass cX3_pass 4 (some .boolean) ∈ GW := gw_in 487 (by decide +kernel) (by decide +kernel)
theorem cs_X3_pass : CalS yX3_pass cX3_pass 4 (some .boolean) rmX3_pass 2 := ⟨gw_in 486 (by decide +kernel) (by decide +kernel), gw_in 52 (by decide +kernel) (by decide +kernel), kc_X3_pass, by decide +kernel, rfl, rfl⟩
theorem kc_X3_take : Cond.code yX3_take cX3_take 4 (some .boolean) ∈ GW := gw_in 686 (by decide +kernel) (by decide +kernel)
theorem cf_X3_take : CalF ⟨"StepMarks$Pacer", "take", "(LStepMarks$Frame;ILStepMarks$Tally;)Z"⟩ yX3_take cX3_take 4 (some .boolean) rmX3_take 3 RX3 := ⟨gw_in 682 (by decide +kernel) (by decide +kernel), gw_in 684 (by decide +kernel) (by decide +kernel), gw_in 52 (by decide +kernel) (by decide +kernel), kc_X3_take, by decide +kernel, rfl, rfl⟩
theorem kc_X4_add : Cond.code yX4_add cX4_add 4 none ∈ GW := gw_in 365 (by decide +kernel) (by decide +kernel)
theorem cv_X4_add : CalV yX4_add cX4_add 4 none rmX4_add 3 RX4 := ⟨gw_in 364 (by decide +kernel) (by decide +kernel), gw_in 0 (by decide +kernel) (by decide +kernel), gw_in 47 (by decide +kernel) (by decide +kernel), kc_X4_add, by decide +kernel, rfl, rfl⟩
theorem kc_X4_addHandlers : Cond.code yX4_addHandlers cX4_addHandlers 3 none ∈ GW := gw_in 398 (by decide +kernel) (by decide +kernel)
theorem cv_X4_addHandlers : CalV yX4_addHandlers cX4_addHandlers 3 none rmX4_addHandlers 1 RX4 := ⟨gw_in 397 (by decide +kernel) (by decide +kernel), gw_in 4 (by decide +kernel) (by decide +kernel), gw_in 47 (by decide +kernel) (by decide +kernel), kc_X4_addHandlers, by decide +kernel, rfl, rfl⟩
theorem kc_X4_addJumps : Cond.code yX4_addJumps cX4_addJumps 4 none ∈ GW := gw_in 381 (by decide +kernel) (by decide +kernel)
theorem cv_X4_addJumps : CalV yX4_addJumps cX4_addJumps 4 none rmX4_addJumps 1 RX4 := ⟨gw_in 380 (by decide +kernel) (by decide +kernel), gw_in 2 (by decide +kernel) (by decide +kernel), gw_in 47 (by decide +kernel) (by decide +kernel), kc_X4_addJumps, by decide +kernel, rfl, rfl⟩
theorem kc_X4_addLead : Cond.code yX4_addLead cX4_addLead 3 (some .int) ∈ GW := gw_in 394 (by decide +kernel) (by decide +kernel)
theorem cv_X4_addLead : CalV yX4_addLead cX4_addLead 3 (some .int) rmX4_addLead 1 RX4 := ⟨gw_in 393 (by decide +kernel) (by decide +kernel), gw_in 3 (by decide +kernel) (by decide +kernel), gw_in 47 (by decide +kernel) (by decide +kernel), kc_X4_addLead, by decide +kernel, rfl, rfl⟩
theorem kc_X4_addPlaces : Cond.code yX4_addPlaces cX4_addPlaces 3 none ∈ GW := gw_in 369 (by decide +kernel) (by decide +kernel)
theorem cv_X4_addPlaces : CalV yX4_addPlaces cX4_addPlaces 3 none rmX4_addPlaces 1 RX4 := ⟨gw_in 368 (by decide +kernel) (by decide +kernel), gw_in 1 (by decide +kernel) (by decide +kernel), gw_in 47 (by decide +kernel) (by decide +kernel), kc_X4_addPlaces, by decide +kernel, rfl, rfl⟩
theorem kc_X4_build : Cond.code yX4_build cX4_build 2 none ∈ GW := gw_in 345 (by decide +kernel) (by decide +kernel)
theorem cv_X4_build : CalV yX4_build cX4_build 2 none rmX4_build 1 RX4 := ⟨gw_in 343 (by decide +kernel) (by decide +kernel), gw_in 344 (by decide +kernel) (by decide +kernel), gw_in 47 (by decide +kernel) (by decide +kernel), kc_X4_build, by decide +kernel, rfl, rfl⟩
theorem kc_X4_goal : Cond.code yX4_goal cX4_goal 2 (some .int) ∈ GW := gw_in 514 (by decide +kernel) (by decide +kernel)
theorem cv_X4_goal : CalV yX4_goal cX4_goal 2 (some .int) rmX4_goal 1 RX4 := ⟨gw_in 512 (by decide +kernel) (by decide +kernel), gw_in 513 (by decide +kernel) (by decide +kernel), gw_in 47 (by decide +kernel) (by decide +kernel), kc_X4_goal, by decide +kernel, rfl, rfl⟩
theorem kc_X4_handlerMark : Cond.code yX4_handlerMark cX4_handlerMark 2 (some .int) ∈ GW := gw_in 690 (by decide +kernel) (by decide +kernel)
theorem cv_X4_handlerMark : CalV yX4_handlerMark cX4_handlerMark 2 (some .int) rmX4_handlerMark 1 RX4 := ⟨gw_in 688 (by decide +kernel) (by decide +kernel), gw_in 689 (by decide +kernel) (by decide +kernel), gw_in 47 (by decide +kernel) (by decide +kernel), kc_X4_handlerMark, by decide +kernel, rfl, rfl⟩
theorem kc_X4_number : Cond.code yX4_number cX4_number 2 (some .int) ∈ GW := gw_in 499 (by decide +kernel) (by decide +kernel)
theorem cv_X4_number : CalV yX4_number cX4_number 2 (some .int) rmX4_number 1 RX4 := ⟨gw_in 497 (by decide +kernel) (by decide +kernel), gw_in 498 (by decide +kernel) (by decide +kernel), gw_in 47 (by decide +kernel) (by decide +kernel), kc_X4_number, by decide +kernel, rfl, rfl⟩
theorem kc_X4_sort : Cond.code yX4_sort cX4_sort 2 (some .int) ∈ GW := gw_in 491 (by decide +kernel) (by decide +kernel)
theorem cv_X4_sort : CalV yX4_sort cX4_sort 2 (some .int) rmX4_sort 1 RX4 := ⟨gw_in 489 (by decide +kernel) (by decide +kernel), gw_in 490 (by decide +kernel) (by decide +kernel), gw_in 47 (by decide +kernel) (by decide +kernel), kc_X4_sort, by decide +kernel, rfl, rfl⟩
theorem kc_X4_tell : Cond.code yX4_tell cX4_tell 3 (some .int) ∈ GW := gw_in 724 (by decide +kernel) (by decide +kernel)
theorem cv_X4_tell : CalV yX4_tell cX4_tell 3 (some .int) rmX4_tell 2 RX4 := ⟨gw_in 722 (by decide +kernel) (by decide +kernel), gw_in 723 (by decide +kernel) (by decide +kernel), gw_in 47 (by decide +kernel) (by decide +kernel), kc_X4_tell, by decide +kernel, rfl, rfl⟩
theorem kc_X5_add : Cond.code yX5_add cX5_add 1 (some .int) ∈ GW := gw_in 337 (by decide +kernel) (by decide +kernel)
theorem cv_X5_add : CalV yX5_add cX5_add 1 (some .int) rmX5_add 0 RX5 := ⟨gw_in 335 (by decide +kernel) (by decide +kernel), gw_in 336 (by decide +kernel) (by decide +kernel), gw_in 45 (by decide +kernel) (by decide +kernel), kc_X5_add, by decide +kernel, rfl, rfl⟩
theorem kc_X5_at : Cond.code yX5_at cX5_at 2 (some (.object "StepMarks$Code")) ∈ GW := gw_in 413 (by decide +kernel) (by decide +kernel)
theorem cv_X5_at : CalV yX5_at cX5_at 2 (some (.object "StepMarks$Code")) rmX5_at 1 RX5 := ⟨gw_in 411 (by decide +kernel) (by decide +kernel), gw_in 412 (by decide +kernel) (by decide +kernel), gw_in 45 (by decide +kernel) (by decide +kernel), kc_X5_at, by decide +kernel, rfl, rfl⟩
theorem kc_X5_drop : Cond.code yX5_drop cX5_drop 2 (some .int) ∈ GW := gw_in 739 (by decide +kernel) (by decide +kernel)
theorem cv_X5_drop : CalV yX5_drop cX5_drop 2 (some .int) rmX5_drop 0 RX5 := ⟨gw_in 737 (by decide +kernel) (by decide +kernel), gw_in 738 (by decide +kernel) (by decide +kernel), gw_in 45 (by decide +kernel) (by decide +kernel), kc_X5_drop, by decide +kernel, rfl, rfl⟩
theorem kc_X7_enter : Cond.code yX7_enter cX7_enter 3 (some .boolean) ∈ GW := gw_in 520 (by decide +kernel) (by decide +kernel)
theorem cf_X7_enter : CalF ⟨"StepMarks$Pacer", "enter", "(LStepMarks$Frame;LStepMarks$Tally;)Z"⟩ yX7_enter cX7_enter 3 (some .boolean) rmX7_enter 2 RX7 := ⟨gw_in 516 (by decide +kernel) (by decide +kernel), gw_in 518 (by decide +kernel) (by decide +kernel), gw_in 53 (by decide +kernel) (by decide +kernel), kc_X7_enter, by decide +kernel, rfl, rfl⟩
theorem kc_X7_fetch : Cond.code yX7_fetch cX7_fetch 4 (some .boolean) ∈ GW := gw_in 543 (by decide +kernel) (by decide +kernel)
theorem cf_X7_fetch : CalF ⟨"StepMarks$Pacer", "fetch", "(LStepMarks$Frame;LStepMarks$Tally;)Z"⟩ yX7_fetch cX7_fetch 4 (some .boolean) rmX7_fetch 2 RX7 := ⟨gw_in 539 (by decide +kernel) (by decide +kernel), gw_in 541 (by decide +kernel) (by decide +kernel), gw_in 53 (by decide +kernel) (by decide +kernel), kc_X7_fetch, by decide +kernel, rfl, rfl⟩
theorem kc_X7_jump : Cond.code yX7_jump cX7_jump 3 (some .boolean) ∈ GW := gw_in 580 (by decide +kernel) (by decide +kernel)
theorem cf_X7_jump : CalF ⟨"StepMarks$Pacer", "jump", "(LStepMarks$Frame;LStepMarks$Tally;)Z"⟩ yX7_jump cX7_jump 3 (some .boolean) rmX7_jump 2 RX7 := ⟨gw_in 576 (by decide +kernel) (by decide +kernel), gw_in 578 (by decide +kernel) (by decide +kernel), gw_in 53 (by decide +kernel) (by decide +kernel), kc_X7_jump, by decide +kernel, rfl, rfl⟩
theorem kc_X7_take : Cond.code yX7_take cX7_take 4 (some .boolean) ∈ GW := gw_in 695 (by decide +kernel) (by decide +kernel)
theorem cf_X7_take : CalF ⟨"StepMarks$Pacer", "take", "(LStepMarks$Frame;ILStepMarks$Tally;)Z"⟩ yX7_take cX7_take 4 (some .boolean) rmX7_take 3 RX7 := ⟨gw_in 691 (by decide +kernel) (by decide +kernel), gw_in 693 (by decide +kernel) (by decide +kernel), gw_in 53 (by decide +kernel) (by decide +kernel), kc_X7_take, by decide +kernel, rfl, rfl⟩
theorem kc_X8_cell : Cond.code yX8_cell cX8_cell 3 (some .long) ∈ GW := gw_in 630 (by decide +kernel) (by decide +kernel)
theorem cv_X8_cell : CalV yX8_cell cX8_cell 3 (some .long) rmX8_cell 1 RX8 := ⟨gw_in 628 (by decide +kernel) (by decide +kernel), gw_in 629 (by decide +kernel) (by decide +kernel), gw_in 51 (by decide +kernel) (by decide +kernel), kc_X8_cell, by decide +kernel, rfl, rfl⟩
theorem kc_X8_drop : Cond.code yX8_drop cX8_drop 1 none ∈ GW := gw_in 474 (by decide +kernel) (by decide +kernel)
theorem cv_X8_drop : CalV yX8_drop cX8_drop 1 none rmX8_drop 0 RX8 := ⟨gw_in 472 (by decide +kernel) (by decide +kernel), gw_in 473 (by decide +kernel) (by decide +kernel), gw_in 51 (by decide +kernel) (by decide +kernel), kc_X8_drop, by decide +kernel, rfl, rfl⟩
theorem kc_X8_fault : Cond.code yX8_fault cX8_fault 3 (some .int) ∈ GW := gw_in 614 (by decide +kernel) (by decide +kernel)
theorem cv_X8_fault : CalV yX8_fault cX8_fault 3 (some .int) rmX8_fault 1 RX8 := ⟨gw_in 612 (by decide +kernel) (by decide +kernel), gw_in 613 (by decide +kernel) (by decide +kernel), gw_in 51 (by decide +kernel) (by decide +kernel), kc_X8_fault, by decide +kernel, rfl, rfl⟩
theorem kc_X8_fitted : Cond.code yX8_fitted cX8_fitted 3 (some .long) ∈ GW := gw_in 619 (by decide +kernel) (by decide +kernel)
theorem cv_X8_fitted : CalV yX8_fitted cX8_fitted 3 (some .long) rmX8_fitted 1 RX8 := ⟨gw_in 618 (by decide +kernel) (by decide +kernel), gw_in 13 (by decide +kernel) (by decide +kernel), gw_in 51 (by decide +kernel) (by decide +kernel), kc_X8_fitted, by decide +kernel, rfl, rfl⟩
theorem kc_X8_holdsThings : Cond.code yX8_holdsThings cX8_holdsThings 1 (some .boolean) ∈ GW := gw_in 597 (by decide +kernel) (by decide +kernel)
theorem cv_X8_holdsThings : CalV yX8_holdsThings cX8_holdsThings 1 (some .boolean) rmX8_holdsThings 0 RX8 := ⟨gw_in 596 (by decide +kernel) (by decide +kernel), gw_in 11 (by decide +kernel) (by decide +kernel), gw_in 51 (by decide +kernel) (by decide +kernel), kc_X8_holdsThings, by decide +kernel, rfl, rfl⟩
theorem kc_X8_isOf : Cond.code yX8_isOf cX8_isOf 3 (some .boolean) ∈ GW := gw_in 624 (by decide +kernel) (by decide +kernel)
theorem cv_X8_isOf : CalV yX8_isOf cX8_isOf 3 (some .boolean) rmX8_isOf 1 RX8 := ⟨gw_in 622 (by decide +kernel) (by decide +kernel), gw_in 623 (by decide +kernel) (by decide +kernel), gw_in 51 (by decide +kernel) (by decide +kernel), kc_X8_isOf, by decide +kernel, rfl, rfl⟩
theorem kc_X8_make : Cond.code yX8_make cX8_make 7 (some .int) ∈ GW := gw_in 591 (by decide +kernel) (by decide +kernel)
theorem cv_X8_make : CalV yX8_make cX8_make 7 (some .int) rmX8_make 2 RX8 := ⟨gw_in 589 (by decide +kernel) (by decide +kernel), gw_in 590 (by decide +kernel) (by decide +kernel), gw_in 51 (by decide +kernel) (by decide +kernel), kc_X8_make, by decide +kernel, rfl, rfl⟩
theorem kc_X8_put : Cond.code yX8_put cX8_put 8 (some .int) ∈ GW := gw_in 610 (by decide +kernel) (by decide +kernel)
theorem cv_X8_put : CalV yX8_put cX8_put 8 (some .int) rmX8_put 2 RX8 := ⟨gw_in 608 (by decide +kernel) (by decide +kernel), gw_in 609 (by decide +kernel) (by decide +kernel), gw_in 51 (by decide +kernel) (by decide +kernel), kc_X8_put, by decide +kernel, rfl, rfl⟩
theorem kc_X9_beginInstruction : Cond.code yX9_beginInstruction cX9_beginInstruction 1 (some .boolean) ∈ GW := gw_in 551 (by decide +kernel) (by decide +kernel)
theorem cv_X9_beginInstruction : CalV yX9_beginInstruction cX9_beginInstruction 1 (some .boolean) rmX9_beginInstruction 0 RX9 := ⟨gw_in 549 (by decide +kernel) (by decide +kernel), gw_in 550 (by decide +kernel) (by decide +kernel), gw_in 49 (by decide +kernel) (by decide +kernel), kc_X9_beginInstruction, by decide +kernel, rfl, rfl⟩
theorem kc_X9_countMake : Cond.code yX9_countMake cX9_countMake 4 (some .boolean) ∈ GW := gw_in 507 (by decide +kernel) (by decide +kernel)
theorem cv_X9_countMake : CalV yX9_countMake cX9_countMake 4 (some .boolean) rmX9_countMake 1 RX9 := ⟨gw_in 505 (by decide +kernel) (by decide +kernel), gw_in 506 (by decide +kernel) (by decide +kernel), gw_in 49 (by decide +kernel) (by decide +kernel), kc_X9_countMake, by decide +kernel, rfl, rfl⟩
theorem kc_X9_countOne : Cond.code yX9_countOne cX9_countOne 1 (some .boolean) ∈ GW := gw_in 495 (by decide +kernel) (by decide +kernel)
theorem cv_X9_countOne : CalV yX9_countOne cX9_countOne 1 (some .boolean) rmX9_countOne 0 RX9 := ⟨gw_in 493 (by decide +kernel) (by decide +kernel), gw_in 494 (by decide +kernel) (by decide +kernel), gw_in 49 (by decide +kernel) (by decide +kernel), kc_X9_countOne, by decide +kernel, rfl, rfl⟩
theorem kc_X9_reset : Cond.code yX9_reset cX9_reset 2 none ∈ GW := gw_in 458 (by decide +kernel) (by decide +kernel)
theorem cv_X9_reset : CalV yX9_reset cX9_reset 2 none rmX9_reset 1 RX9 := ⟨gw_in 456 (by decide +kernel) (by decide +kernel), gw_in 457 (by decide +kernel) (by decide +kernel), gw_in 49 (by decide +kernel) (by decide +kernel), kc_X9_reset, by decide +kernel, rfl, rfl⟩
theorem kc_X9_tell : Cond.code yX9_tell cX9_tell 2 (some .int) ∈ GW := gw_in 712 (by decide +kernel) (by decide +kernel)
theorem cv_X9_tell : CalV yX9_tell cX9_tell 2 (some .int) rmX9_tell 1 RX9 := ⟨gw_in 710 (by decide +kernel) (by decide +kernel), gw_in 711 (by decide +kernel) (by decide +kernel), gw_in 49 (by decide +kernel) (by decide +kernel), kc_X9_tell, by decide +kernel, rfl, rfl⟩
theorem lk_X10_1 : Cond.methodLink RX10 1 objectInit ∈ GW := gw_in 61 (by decide +kernel) (by decide +kernel)
theorem lk_X10_9 : Cond.methodLink RX10 9 yX5_init ∈ GW := gw_in 66 (by decide +kernel) (by decide +kernel)
theorem lk_X10_18 : Cond.methodLink RX10 18 yX2_init ∈ GW := gw_in 166 (by decide +kernel) (by decide +kernel)
theorem lk_X10_27 : Cond.methodLinkNest RX10 27 yX3_init "StepMarks" ∈ NestW := nw_in 305 (by decide +kernel) (by decide +kernel)
theorem lk_X10_34 : Cond.methodLinkNest RX10 34 yX7_init "StepMarks" ∈ NestW := nw_in 312 (by decide +kernel) (by decide +kernel)
theorem lk_X10_38 : Cond.methodLink RX10 38 yX5_add ∈ GW := gw_in 334 (by decide +kernel) (by decide +kernel)
theorem lk_X10_42 : Cond.methodLink RX10 42 yX5_at ∈ GW := gw_in 410 (by decide +kernel) (by decide +kernel)
theorem lk_X10_48 : Cond.methodLink RX10 48 yX10_within ∈ GW := gw_in 418 (by decide +kernel) (by decide +kernel)
theorem lk_X10_52 : Cond.methodLink RX10 52 yX10_isRegister ∈ GW := gw_in 419 (by decide +kernel) (by decide +kernel)
theorem lk_X10_56 : Cond.methodLink RX10 56 yX10_numberFits ∈ GW := gw_in 423 (by decide +kernel) (by decide +kernel)
theorem lk_X10_60 : Cond.methodLink RX10 60 yX0_addInstruction ∈ GW := gw_in 433 (by decide +kernel) (by decide +kernel)
theorem lk_X10_66 : Cond.methodLink RX10 66 yX10_isPlace ∈ GW := gw_in 426 (by decide +kernel) (by decide +kernel)
theorem lk_X10_70 : Cond.methodLink RX10 70 yX0_addHandler ∈ GW := gw_in 441 (by decide +kernel) (by decide +kernel)
theorem lk_X10_74 : Cond.methodLink RX10 74 yX2_go ∈ GW := gw_in 449 (by decide +kernel) (by decide +kernel)
theorem lk_X10_88 : Cond.methodLink RX10 88 yX9_tell ∈ GW := gw_in 709 (by decide +kernel) (by decide +kernel)
theorem lk_X10_108 : Cond.methodLink RX10 108 yX4_tell ∈ GW := gw_in 721 (by decide +kernel) (by decide +kernel)
theorem lk_X10_118 : Cond.methodLink RX10 118 yX5_drop ∈ GW := gw_in 736 (by decide +kernel) (by decide +kernel)
theorem lk_X0_3 : Cond.methodLink RX0 3 objectInit ∈ GW := gw_in 76 (by decide +kernel) (by decide +kernel)
theorem lk_X0_46 : Cond.methodLinkNest RX0 46 yX4_init "StepMarks" ∈ NestW := nw_in 79 (by decide +kernel) (by decide +kernel)
theorem lk_X0_51 : Cond.methodLink RX0 51 yX4_build ∈ GW := gw_in 342 (by decide +kernel) (by decide +kernel)
theorem lk_X0_55 : Cond.methodLink RX0 55 yX0_isJump ∈ GW := gw_in 354 (by decide +kernel) (by decide +kernel)
theorem lk_X0_59 : Cond.methodLink RX0 59 yX0_number ∈ GW := gw_in 358 (by decide +kernel) (by decide +kernel)
theorem lk_X0_63 : Cond.methodLink RX0 63 Lib.MathLoose.min_long.x ∈ GW := gw_in 387 (by decide +kernel) (by decide +kernel)
theorem lk_X0_69 : Cond.methodLink RX0 69 Lib.Math.min.name ∈ GW := gw_in 403 (by decide +kernel) (by decide +kernel)
theorem lk_X0_72 : Cond.methodLink RX0 72 yX0_leadsBack ∈ GW := gw_in 350 (by decide +kernel) (by decide +kernel)
theorem lk_X1_3 : Cond.methodLink RX1 3 objectInit ∈ GW := gw_in 221 (by decide +kernel) (by decide +kernel)
theorem lk_X1_21 : Cond.methodLinkNest RX1 21 yX8_init "StepMarks" ∈ NestW := nw_in 224 (by decide +kernel) (by decide +kernel)
theorem lk_X1_46 : Cond.methodLink RX1 46 yX8_drop ∈ GW := gw_in 471 (by decide +kernel) (by decide +kernel)
theorem lk_X1_51 : Cond.methodLinkNest RX1 51 yX10_within "StepMarks" ∈ NestW := nw_in 653 (by decide +kernel) (by decide +kernel)
theorem lk_X2_3 : Cond.methodLink RX2 3 objectInit ∈ GW := gw_in 169 (by decide +kernel) (by decide +kernel)
theorem lk_X2_19 : Cond.methodLinkNest RX2 19 yX9_init "StepMarks" ∈ NestW := nw_in 174 (by decide +kernel) (by decide +kernel)
theorem lk_X2_47 : Cond.methodLink RX2 47 yX1_init ∈ GW := gw_in 218 (by decide +kernel) (by decide +kernel)
theorem lk_X2_52 : Cond.methodLinkNest RX2 52 yX10_within "StepMarks" ∈ NestW := nw_in 454 (by decide +kernel) (by decide +kernel)
theorem lk_X2_68 : Cond.methodLink RX2 68 yX9_reset ∈ GW := gw_in 455 (by decide +kernel) (by decide +kernel)
theorem lk_X2_72 : Cond.methodLink RX2 72 yX2_beginFrame ∈ GW := gw_in 459 (by decide +kernel) (by decide +kernel)
theorem lk_X2_76 : Cond.methodLink RX2 76 yX2_top ∈ GW := gw_in 525 (by decide +kernel) (by decide +kernel)
theorem lk_X2_80 : Cond.methodLink RX2 80 (⟨"StepMarks$Pacer", "fetch", "(LStepMarks$Frame;LStepMarks$Tally;)Z"⟩ : MethodName) ∈ GW := gw_in 531 (by decide +kernel) (by decide +kernel)
theorem lk_X2_86 : Cond.methodLink RX2 86 yX9_beginInstruction ∈ GW := gw_in 548 (by decide +kernel) (by decide +kernel)
theorem lk_X2_90 : Cond.methodLink RX2 90 yX2_stop ∈ GW := gw_in 463 (by decide +kernel) (by decide +kernel)
theorem lk_X2_93 : Cond.methodLink RX2 93 yX2_perform ∈ GW := gw_in 552 (by decide +kernel) (by decide +kernel)
theorem lk_X2_97 : Cond.methodLink RX2 97 yX2_raise ∈ GW := gw_in 666 (by decide +kernel) (by decide +kernel)
theorem lk_X2_103 : Cond.methodLink RX2 103 yX1_begin ∈ GW := gw_in 467 (by decide +kernel) (by decide +kernel)
theorem lk_X2_107 : Cond.methodLink RX2 107 (⟨"StepMarks$Pacer", "enter", "(LStepMarks$Frame;LStepMarks$Tally;)Z"⟩ : MethodName) ∈ GW := gw_in 476 (by decide +kernel) (by decide +kernel)
theorem lk_X2_113 : Cond.methodLink RX2 113 Lib.Math.max.name ∈ GW := gw_in 522 (by decide +kernel) (by decide +kernel)
theorem lk_X2_119 : Cond.methodLink RX2 119 yX1_held ∈ GW := gw_in 640 (by decide +kernel) (by decide +kernel)
theorem lk_X2_129 : Cond.methodLink RX2 129 yX0_act ∈ GW := gw_in 556 (by decide +kernel) (by decide +kernel)
theorem lk_X2_133 : Cond.methodLink RX2 133 yX0_first ∈ GW := gw_in 557 (by decide +kernel) (by decide +kernel)
theorem lk_X2_136 : Cond.methodLink RX2 136 yX0_number ∈ GW := gw_in 558 (by decide +kernel) (by decide +kernel)
theorem lk_X2_139 : Cond.methodLink RX2 139 yX1_become ∈ GW := gw_in 559 (by decide +kernel) (by decide +kernel)
theorem lk_X2_143 : Cond.methodLink RX2 143 yX2_leap ∈ GW := gw_in 563 (by decide +kernel) (by decide +kernel)
theorem lk_X2_147 : Cond.methodLink RX2 147 yX1_register ∈ GW := gw_in 583 (by decide +kernel) (by decide +kernel)
theorem lk_X2_150 : Cond.methodLink RX2 150 yX2_make ∈ GW := gw_in 584 (by decide +kernel) (by decide +kernel)
theorem lk_X2_154 : Cond.methodLink RX2 154 yX2_look ∈ GW := gw_in 599 (by decide +kernel) (by decide +kernel)
theorem lk_X2_158 : Cond.methodLink RX2 158 yX5_at ∈ GW := gw_in 631 (by decide +kernel) (by decide +kernel)
theorem lk_X2_165 : Cond.methodLink RX2 165 yX2_giveBack ∈ GW := gw_in 632 (by decide +kernel) (by decide +kernel)
theorem lk_X2_175 : Cond.methodLink RX2 175 yX2_hold ∈ GW := gw_in 644 (by decide +kernel) (by decide +kernel)
theorem lk_X2_179 : Cond.methodLink RX2 179 yX2_let ∈ GW := gw_in 654 (by decide +kernel) (by decide +kernel)
theorem lk_X2_182 : Cond.methodLink RX2 182 yX2_reckon ∈ GW := gw_in 662 (by decide +kernel) (by decide +kernel)
theorem lk_X2_185 : Cond.methodLink RX2 185 yX0_second ∈ GW := gw_in 603 (by decide +kernel) (by decide +kernel)
theorem lk_X2_188 : Cond.methodLink RX2 188 (⟨"StepMarks$Pacer", "jump", "(LStepMarks$Frame;LStepMarks$Tally;)Z"⟩ : MethodName) ∈ GW := gw_in 568 (by decide +kernel) (by decide +kernel)
theorem lk_X2_195 : Cond.methodLink RX2 195 yX8_make ∈ GW := gw_in 588 (by decide +kernel) (by decide +kernel)
theorem lk_X2_203 : Cond.methodLink RX2 203 yX8_put ∈ GW := gw_in 607 (by decide +kernel) (by decide +kernel)
theorem lk_X2_207 : Cond.methodLink RX2 207 yX8_isOf ∈ GW := gw_in 621 (by decide +kernel) (by decide +kernel)
theorem lk_X2_217 : Cond.methodLink RX2 217 yX8_fault ∈ GW := gw_in 626 (by decide +kernel) (by decide +kernel)
theorem lk_X2_221 : Cond.methodLink RX2 221 yX8_cell ∈ GW := gw_in 627 (by decide +kernel) (by decide +kernel)
theorem lk_X2_225 : Cond.methodLink RX2 225 yX2_endFrame ∈ GW := gw_in 636 (by decide +kernel) (by decide +kernel)
theorem lk_X2_233 : Cond.methodLink RX2 233 yX1_hold ∈ GW := gw_in 648 (by decide +kernel) (by decide +kernel)
theorem lk_X2_238 : Cond.methodLink RX2 238 yX1_let ∈ GW := gw_in 658 (by decide +kernel) (by decide +kernel)
theorem lk_X2_240 : Cond.methodLink RX2 240 yX0_handlerFor ∈ GW := gw_in 670 (by decide +kernel) (by decide +kernel)
theorem lk_X2_243 : Cond.methodLink RX2 243 yX2_handOver ∈ GW := gw_in 674 (by decide +kernel) (by decide +kernel)
theorem lk_X2_256 : Cond.methodLink RX2 256 (⟨"StepMarks$Pacer", "take", "(LStepMarks$Frame;ILStepMarks$Tally;)Z"⟩ : MethodName) ∈ GW := gw_in 679 (by decide +kernel) (by decide +kernel)
theorem lk_X3_3 : Cond.methodLink RX3 3 objectInit ∈ GW := gw_in 308 (by decide +kernel) (by decide +kernel)
theorem lk_X3_15 : Cond.methodLink RX3 15 yX3_pass ∈ GW := gw_in 485 (by decide +kernel) (by decide +kernel)
theorem lk_X3_31 : Cond.methodLink RX3 31 yX4_sort ∈ GW := gw_in 488 (by decide +kernel) (by decide +kernel)
theorem lk_X3_40 : Cond.methodLink RX3 40 yX4_number ∈ GW := gw_in 496 (by decide +kernel) (by decide +kernel)
theorem lk_X3_46 : Cond.methodLink RX3 46 yX4_goal ∈ GW := gw_in 511 (by decide +kernel) (by decide +kernel)
theorem lk_X3_49 : Cond.methodLink RX3 49 yX4_handlerMark ∈ GW := gw_in 687 (by decide +kernel) (by decide +kernel)
theorem lk_X3_52 : Cond.methodLink RX3 52 yX9_countOne ∈ GW := gw_in 492 (by decide +kernel) (by decide +kernel)
theorem lk_X3_58 : Cond.methodLink RX3 58 yX1_register ∈ GW := gw_in 500 (by decide +kernel) (by decide +kernel)
theorem lk_X3_62 : Cond.methodLink RX3 62 yX9_countMake ∈ GW := gw_in 504 (by decide +kernel) (by decide +kernel)
theorem lk_X4_3 : Cond.methodLink RX4 3 objectInit ∈ GW := gw_in 82 (by decide +kernel) (by decide +kernel)
theorem lk_X4_38 : Cond.methodLink RX4 38 yX0_entriesNeeded ∈ GW := gw_in 346 (by decide +kernel) (by decide +kernel)
theorem lk_X4_44 : Cond.methodLink RX4 44 yX4_add ∈ GW := gw_in 362 (by decide +kernel) (by decide +kernel)
theorem lk_X4_48 : Cond.methodLink RX4 48 yX4_addPlaces ∈ GW := gw_in 366 (by decide +kernel) (by decide +kernel)
theorem lk_X4_52 : Cond.methodLink RX4 52 yX4_addJumps ∈ GW := gw_in 378 (by decide +kernel) (by decide +kernel)
theorem lk_X4_55 : Cond.methodLink RX4 55 yX4_addHandlers ∈ GW := gw_in 395 (by decide +kernel) (by decide +kernel)
theorem lk_X4_59 : Cond.methodLink RX4 59 yX0_act ∈ GW := gw_in 370 (by decide +kernel) (by decide +kernel)
theorem lk_X4_63 : Cond.methodLink RX4 63 yX0_first ∈ GW := gw_in 374 (by decide +kernel) (by decide +kernel)
theorem lk_X4_66 : Cond.methodLink RX4 66 yX0_isJump ∈ GW := gw_in 382 (by decide +kernel) (by decide +kernel)
theorem lk_X4_70 : Cond.methodLink RX4 70 yX0_jumpPlace ∈ GW := gw_in 383 (by decide +kernel) (by decide +kernel)
theorem lk_X4_73 : Cond.methodLink RX4 73 yX0_leadsBack ∈ GW := gw_in 390 (by decide +kernel) (by decide +kernel)
theorem lk_X4_76 : Cond.methodLink RX4 76 yX4_addLead ∈ GW := gw_in 391 (by decide +kernel) (by decide +kernel)
theorem lk_X4_82 : Cond.methodLink RX4 82 yX0_handlerPlace ∈ GW := gw_in 399 (by decide +kernel) (by decide +kernel)
theorem lk_X4_85 : Cond.methodLink RX4 85 yX4_sort ∈ GW := gw_in 725 (by decide +kernel) (by decide +kernel)
theorem lk_X4_88 : Cond.methodLink RX4 88 yX4_number ∈ GW := gw_in 726 (by decide +kernel) (by decide +kernel)
theorem lk_X4_91 : Cond.methodLink RX4 91 yX4_goal ∈ GW := gw_in 727 (by decide +kernel) (by decide +kernel)
theorem lk_X5_3 : Cond.methodLink RX5 3 objectInit ∈ GW := gw_in 69 (by decide +kernel) (by decide +kernel)
theorem lk_X5_21 : Cond.methodLinkNest RX5 21 yX0_init "StepMarks" ∈ NestW := nw_in 73 (by decide +kernel) (by decide +kernel)
theorem lk_X5_22 : Cond.methodLink RX5 22 yX0_empty ∈ GW := gw_in 338 (by decide +kernel) (by decide +kernel)
theorem lk_X5_25 : Cond.methodLinkNest RX5 25 yX10_within "StepMarks" ∈ NestW := nw_in 414 (by decide +kernel) (by decide +kernel)
theorem lk_X7_3 : Cond.methodLink RX7 3 objectInit ∈ GW := gw_in 315 (by decide +kernel) (by decide +kernel)
theorem lk_X7_15 : Cond.methodLink RX7 15 yX9_countOne ∈ GW := gw_in 521 (by decide +kernel) (by decide +kernel)
theorem lk_X7_28 : Cond.methodLink RX7 28 yX0_act ∈ GW := gw_in 544 (by decide +kernel) (by decide +kernel)
theorem lk_X7_34 : Cond.methodLink RX7 34 yX0_first ∈ GW := gw_in 545 (by decide +kernel) (by decide +kernel)
theorem lk_X7_37 : Cond.methodLink RX7 37 yX1_register ∈ GW := gw_in 546 (by decide +kernel) (by decide +kernel)
theorem lk_X7_41 : Cond.methodLink RX7 41 yX9_countMake ∈ GW := gw_in 547 (by decide +kernel) (by decide +kernel)
theorem lk_X7_45 : Cond.methodLink RX7 45 yX0_jumpPlace ∈ GW := gw_in 581 (by decide +kernel) (by decide +kernel)
theorem lk_X7_48 : Cond.methodLink RX7 48 yX0_leadsBack ∈ GW := gw_in 582 (by decide +kernel) (by decide +kernel)
theorem lk_X7_52 : Cond.methodLink RX7 52 yX0_handlerPlace ∈ GW := gw_in 696 (by decide +kernel) (by decide +kernel)
theorem lk_X8_3 : Cond.methodLink RX8 3 objectInit ∈ GW := gw_in 227 (by decide +kernel) (by decide +kernel)
theorem lk_X8_24 : Cond.methodLink RX8 24 Lib.MathLoose.min_long.x ∈ GW := gw_in 593 (by decide +kernel) (by decide +kernel)
theorem lk_X8_30 : Cond.methodLink RX8 30 yX8_holdsThings ∈ GW := gw_in 594 (by decide +kernel) (by decide +kernel)
theorem lk_X8_36 : Cond.methodLinkNest RX8 36 yX10_within "StepMarks" ∈ NestW := nw_in 615 (by decide +kernel) (by decide +kernel)
theorem lk_X8_40 : Cond.methodLink RX8 40 yX8_fault ∈ GW := gw_in 611 (by decide +kernel) (by decide +kernel)
theorem lk_X8_44 : Cond.methodLink RX8 44 yX8_fitted ∈ GW := gw_in 616 (by decide +kernel) (by decide +kernel)
theorem lk_X9_3 : Cond.methodLink RX9 3 objectInit ∈ GW := gw_in 177 (by decide +kernel) (by decide +kernel)
theorem lk_X9_43 : Cond.methodLink RX9 43 Lib.MathLoose.max_long.x ∈ GW := gw_in 508 (by decide +kernel) (by decide +kernel)
theorem lk_L_9 : Cond.methodLink RL 9 yX10_init ∈ GW := gw_in 58 (by decide +kernel) (by decide +kernel)
theorem lk_L_12 : Cond.methodLink RL 12 yX11_init ∈ GW := gw_in 742 (by decide +kernel) (by decide +kernel)
theorem lk_L_13 : Cond.methodLink RL 13 yX10_method ∈ GW := gw_in 330 (by decide +kernel) (by decide +kernel)
theorem lk_L_17 : Cond.methodLink RL 17 yX11_method ∈ GW := gw_in 867 (by decide +kernel) (by decide +kernel)
theorem lk_L_20 : Cond.methodLink RL 20 yX10_instruction ∈ GW := gw_in 406 (by decide +kernel) (by decide +kernel)
theorem lk_L_24 : Cond.methodLink RL 24 yX11_instruction ∈ GW := gw_in 871 (by decide +kernel) (by decide +kernel)
theorem lk_L_25 : Cond.methodLink RL 25 yX10_handler ∈ GW := gw_in 437 (by decide +kernel) (by decide +kernel)
theorem lk_L_29 : Cond.methodLink RL 29 yX11_handler ∈ GW := gw_in 891 (by decide +kernel) (by decide +kernel)
theorem lk_L_30 : Cond.methodLink RL 30 yX10_run ∈ GW := gw_in 445 (by decide +kernel) (by decide +kernel)
theorem lk_L_34 : Cond.methodLink RL 34 yX11_run ∈ GW := gw_in 938 (by decide +kernel) (by decide +kernel)
theorem lk_L_35 : Cond.methodLink RL 35 yX10_step ∈ GW := gw_in 697 (by decide +kernel) (by decide +kernel)
theorem lk_L_38 : Cond.methodLink RL 38 yX11_step ∈ GW := gw_in 1009 (by decide +kernel) (by decide +kernel)
theorem lk_L_39 : Cond.methodLink RL 39 yX10_answer ∈ GW := gw_in 701 (by decide +kernel) (by decide +kernel)
theorem lk_L_43 : Cond.methodLink RL 43 yX11_answer ∈ GW := gw_in 1013 (by decide +kernel) (by decide +kernel)
theorem lk_L_44 : Cond.methodLink RL 44 yX10_told ∈ GW := gw_in 705 (by decide +kernel) (by decide +kernel)
theorem lk_L_48 : Cond.methodLink RL 48 yX11_told ∈ GW := gw_in 1017 (by decide +kernel) (by decide +kernel)
theorem lk_L_49 : Cond.methodLink RL 49 yX10_entries ∈ GW := gw_in 713 (by decide +kernel) (by decide +kernel)
theorem lk_L_52 : Cond.methodLink RL 52 yX11_entries ∈ GW := gw_in 899 (by decide +kernel) (by decide +kernel)
theorem lk_L_53 : Cond.methodLink RL 53 yX10_entry ∈ GW := gw_in 717 (by decide +kernel) (by decide +kernel)
theorem lk_L_57 : Cond.methodLink RL 57 yX11_entry ∈ GW := gw_in 915 (by decide +kernel) (by decide +kernel)
theorem lk_L_58 : Cond.methodLink RL 58 yX10_about ∈ GW := gw_in 728 (by decide +kernel) (by decide +kernel)
theorem lk_L_62 : Cond.methodLink RL 62 yX11_about ∈ GW := gw_in 934 (by decide +kernel) (by decide +kernel)
theorem lk_L_63 : Cond.methodLink RL 63 yX10_clear ∈ GW := gw_in 732 (by decide +kernel) (by decide +kernel)
theorem lk_L_66 : Cond.methodLink RL 66 yX11_clear ∈ GW := gw_in 895 (by decide +kernel) (by decide +kernel)
theorem lk_X11_1 : Cond.methodLink RX11 1 objectInit ∈ GW := gw_in 745 (by decide +kernel) (by decide +kernel)
theorem lk_X11_84 : Cond.methodLink RX11 84 yX11_in ∈ GW := gw_in 879 (by decide +kernel) (by decide +kernel)
theorem lk_X11_96 : Cond.methodLink RX11 96 yX11_isMethod ∈ GW := gw_in 875 (by decide +kernel) (by decide +kernel)
theorem lk_X11_104 : Cond.methodLink RX11 104 yX11_isRight ∈ GW := gw_in 884 (by decide +kernel) (by decide +kernel)
theorem lk_X11_108 : Cond.methodLink RX11 108 yX11_isBack ∈ GW := gw_in 911 (by decide +kernel) (by decide +kernel)
theorem lk_X11_112 : Cond.methodLink RX11 112 yX11_countOf ∈ GW := gw_in 907 (by decide +kernel) (by decide +kernel)
theorem lk_X11_116 : Cond.methodLink RX11 116 yX11_lesser ∈ GW := gw_in 931 (by decide +kernel) (by decide +kernel)
theorem lk_X11_123 : Cond.methodLink RX11 123 yX11_lay ∈ GW := gw_in 923 (by decide +kernel) (by decide +kernel)
theorem lk_X11_127 : Cond.methodLink RX11 127 yX11_beginOf ∈ GW := gw_in 927 (by decide +kernel) (by decide +kernel)
theorem lk_X11_130 : Cond.methodLink RX11 130 yX11_isLarge ∈ GW := gw_in 903 (by decide +kernel) (by decide +kernel)
theorem lk_X11_133 : Cond.methodLink RX11 133 yX11_mark ∈ GW := gw_in 919 (by decide +kernel) (by decide +kernel)
theorem lk_X11_150 : Cond.methodLink RX11 150 yX11_counts ∈ GW := gw_in 951 (by decide +kernel) (by decide +kernel)
theorem lk_X11_160 : Cond.methodLink RX11 160 yX11_leave ∈ GW := gw_in 972 (by decide +kernel) (by decide +kernel)
theorem lk_X11_176 : Cond.methodLink RX11 176 yX11_takes ∈ GW := gw_in 984 (by decide +kernel) (by decide +kernel)
theorem lk_X11_197 : Cond.methodLink RX11 197 yX11_enter ∈ GW := gw_in 947 (by decide +kernel) (by decide +kernel)
theorem lk_X11_201 : Cond.methodLink RX11 201 yX11_isPaid ∈ GW := gw_in 955 (by decide +kernel) (by decide +kernel)
theorem lk_X11_204 : Cond.methodLink RX11 204 yX11_begins ∈ GW := gw_in 960 (by decide +kernel) (by decide +kernel)
theorem lk_X11_209 : Cond.methodLink RX11 209 yX11_work ∈ GW := gw_in 964 (by decide +kernel) (by decide +kernel)
theorem lk_X11_212 : Cond.methodLink RX11 212 yX11_returns ∈ GW := gw_in 968 (by decide +kernel) (by decide +kernel)
theorem lk_X11_216 : Cond.methodLink RX11 216 yX11_divides ∈ GW := gw_in 976 (by decide +kernel) (by decide +kernel)
theorem lk_X11_220 : Cond.methodLink RX11 220 yX11_jumps ∈ GW := gw_in 988 (by decide +kernel) (by decide +kernel)
theorem lk_X11_223 : Cond.methodLink RX11 223 yX11_fails ∈ GW := gw_in 980 (by decide +kernel) (by decide +kernel)
theorem lk_X11_226 : Cond.methodLink RX11 226 yX11_guards ∈ GW := gw_in 992 (by decide +kernel) (by decide +kernel)
theorem lk_X11_230 : Cond.methodLink RX11 230 yX11_rows ∈ GW := gw_in 996 (by decide +kernel) (by decide +kernel)
theorem lk_X11_238 : Cond.methodLink RX11 238 yX11_makes ∈ GW := gw_in 1000 (by decide +kernel) (by decide +kernel)
theorem lk_X11_242 : Cond.methodLink RX11 242 yX11_cast ∈ GW := gw_in 1005 (by decide +kernel) (by decide +kernel)
theorem lk_X11_246 : Cond.methodLink RX11 246 yX11_runs ∈ GW := gw_in 942 (by decide +kernel) (by decide +kernel)
theorem kl_X10_46 : Cond.constantLong RX10 46 (18) ∈ GW := gw_in 417 (by decide +kernel) (by decide +kernel)
theorem kl_X10_121 : Cond.constantLong RX10 121 (3) ∈ GW := gw_in 422 (by decide +kernel) (by decide +kernel)
theorem kl_X10_123 : Cond.constantLong RX10 123 (40) ∈ GW := gw_in 429 (by decide +kernel) (by decide +kernel)
theorem kl_X10_125 : Cond.constantLong RX10 125 (6) ∈ GW := gw_in 430 (by decide +kernel) (by decide +kernel)
theorem kl_X10_127 : Cond.constantLong RX10 127 (5) ∈ GW := gw_in 431 (by decide +kernel) (by decide +kernel)
theorem kl_X10_106 : Cond.constantLong RX10 106 (2) ∈ GW := gw_in 432 (by decide +kernel) (by decide +kernel)
theorem kl_X2_50 : Cond.constantLong RX2 50 (200) ∈ GW := gw_in 453 (by decide +kernel) (by decide +kernel)
theorem kl_X2_101 : Cond.constantLong RX2 101 (12) ∈ GW := gw_in 529 (by decide +kernel) (by decide +kernel)
theorem kl_X8_22 : Cond.constantLong RX8 22 (200) ∈ GW := gw_in 592 (by decide +kernel) (by decide +kernel)
theorem kl_X8_34 : Cond.constantLong RX8 34 (-1) ∈ GW := gw_in 598 (by decide +kernel) (by decide +kernel)
theorem kl_X8_50 : Cond.constantLong RX8 50 (7) ∈ GW := gw_in 620 (by decide +kernel) (by decide +kernel)
theorem kl_X8_48 : Cond.constantLong RX8 48 (5) ∈ GW := gw_in 625 (by decide +kernel) (by decide +kernel)
theorem kl_X1_49 : Cond.constantLong RX1 49 (2) ∈ GW := gw_in 652 (by decide +kernel) (by decide +kernel)
theorem kl_X11_100 : Cond.constantLong RX11 100 (18) ∈ GW := gw_in 882 (by decide +kernel) (by decide +kernel)
theorem kl_X11_102 : Cond.constantLong RX11 102 (3) ∈ GW := gw_in 883 (by decide +kernel) (by decide +kernel)
theorem kl_X11_88 : Cond.constantLong RX11 88 (40) ∈ GW := gw_in 887 (by decide +kernel) (by decide +kernel)
theorem kl_X11_90 : Cond.constantLong RX11 90 (6) ∈ GW := gw_in 888 (by decide +kernel) (by decide +kernel)
theorem kl_X11_92 : Cond.constantLong RX11 92 (5) ∈ GW := gw_in 889 (by decide +kernel) (by decide +kernel)
theorem kl_X11_94 : Cond.constantLong RX11 94 (2) ∈ GW := gw_in 890 (by decide +kernel) (by decide +kernel)
theorem kl_X11_183 : Cond.constantLong RX11 183 (200) ∈ GW := gw_in 946 (by decide +kernel) (by decide +kernel)
theorem kl_X11_207 : Cond.constantLong RX11 207 (1000) ∈ GW := gw_in 959 (by decide +kernel) (by decide +kernel)
theorem kl_X11_236 : Cond.constantLong RX11 236 (-1) ∈ GW := gw_in 1004 (by decide +kernel) (by decide +kernel)
theorem kl_X11_234 : Cond.constantLong RX11 234 (7) ∈ GW := gw_in 1008 (by decide +kernel) (by decide +kernel)
theorem kl_L_18 : Cond.constantLong RL 18 (4294967295) ∈ GW := gw_in 1021 (by decide +kernel) (by decide +kernel)
theorem ms_max : Cond.static Lib.Math.max.name ∈ GW := gw_in 523 (by decide +kernel) (by decide +kernel)
theorem mc_max : Cond.code Lib.Math.max.name Lib.Math.max.code 2 (some .int) ∈ GW := gw_in 524 (by decide +kernel) (by decide +kernel)
theorem ms_min : Cond.static Lib.Math.min.name ∈ GW := gw_in 404 (by decide +kernel) (by decide +kernel)
theorem mc_min : Cond.code Lib.Math.min.name Lib.Math.min.code 2 (some .int) ∈ GW := gw_in 405 (by decide +kernel) (by decide +kernel)
theorem ms_maxL : Cond.static Lib.MathLoose.max_long.x ∈ GW := gw_in 509 (by decide +kernel) (by decide +kernel)
theorem mc_maxL : Cond.code Lib.MathLoose.max_long.x Lib.MathLoose.max_long.code 4 (some .long) ∈ GW := gw_in 510 (by decide +kernel) (by decide +kernel)
theorem ms_minL : Cond.static Lib.MathLoose.min_long.x ∈ GW := gw_in 388 (by decide +kernel) (by decide +kernel)
theorem mc_minL : Cond.code Lib.MathLoose.min_long.x Lib.MathLoose.min_long.code 4 (some .long) ∈ GW := gw_in 389 (by decide +kernel) (by decide +kernel)
theorem mi_Math : Cond.initialized "java/lang/Math" ∈ GW := gw_in 55 (by decide +kernel) (by decide +kernel)
