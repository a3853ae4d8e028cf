theorem dX9_tell_72 : decode cX9_tell 72 = .ok (.ireturn, 1) := by decide +kernel
theorem dX9_tell_73 : decode cX9_tell 73 = .ok (.aload_n 0, 1) := by decide +kernel
theorem dX9_tell_74 : decode cX9_tell 74 = .ok (.getfield 30, 3) := by decide +kernel
theorem dX9_tell_77 : decode cX9_tell 77 = .ok (.ireturn, 1) := by decide +kernel
theorem dX9_tell_78 : decode cX9_tell 78 = .ok (.aload_n 0, 1) := by decide +kernel
theorem dX9_tell_79 : decode cX9_tell 79 = .ok (.getfield 33, 3) := by decide +kernel
theorem dX9_tell_82 : decode cX9_tell 82 = .ok (.ireturn, 1) := by decide +kernel
theorem dX9_tell_83 : decode cX9_tell 83 = .ok (.aload_n 0, 1) := by decide +kernel
theorem dX9_tell_84 : decode cX9_tell 84 = .ok (.getfield 36, 3) := by decide +kernel
theorem dX9_tell_87 : decode cX9_tell 87 = .ok (.ireturn, 1) := by decide +kernel
theorem dX9_tell_88 : decode cX9_tell 88 = .ok (.bipush (-2), 2) := by decide +kernel
theorem dX9_tell_90 : decode cX9_tell 90 = .ok (.ireturn, 1) := by decide +kernel
theorem dX10_init_0 : decode cX10_init 0 = .ok (.aload_n 0, 1) := by decide +kernel
theorem dX10_init_1 : decode cX10_init 1 = .ok (.invokespecial 1, 3) := by decide +kernel
theorem dX10_init_4 : decode cX10_init 4 = .ok (.aload_n 0, 1) := by decide +kernel
theorem dX10_init_5 : decode cX10_init 5 = .ok (.new 7, 3) := by decide +kernel
theorem dX10_init_8 : decode cX10_init 8 = .ok (.dup, 1) := by decide +kernel
theorem dX10_init_9 : decode cX10_init 9 = .ok (.invokespecial 9, 3) := by decide +kernel
theorem dX10_init_12 : decode cX10_init 12 = .ok (.putfield 10, 3) := by decide +kernel
theorem dX10_init_15 : decode cX10_init 15 = .ok (.aload_n 0, 1) := by decide +kernel
theorem dX10_init_16 : decode cX10_init 16 = .ok (.new 16, 3) := by decide +kernel
theorem dX10_init_19 : decode cX10_init 19 = .ok (.dup, 1) := by decide +kernel
theorem dX10_init_20 : decode cX10_init 20 = .ok (.aload_n 0, 1) := by decide +kernel
theorem dX10_init_21 : decode cX10_init 21 = .ok (.getfield 10, 3) := by decide +kernel
theorem dX10_init_24 : decode cX10_init 24 = .ok (.invokespecial 18, 3) := by decide +kernel
theorem dX10_init_27 : decode cX10_init 27 = .ok (.putfield 21, 3) := by decide +kernel
theorem dX10_init_30 : decode cX10_init 30 = .ok (.aload_n 0, 1) := by decide +kernel
theorem dX10_init_31 : decode cX10_init 31 = .ok (.new 25, 3) := by decide +kernel
theorem dX10_init_34 : decode cX10_init 34 = .ok (.dup, 1) := by decide +kernel
theorem dX10_init_35 : decode cX10_init 35 = .ok (.invokespecial 27, 3) := by decide +kernel
theorem dX10_init_38 : decode cX10_init 38 = .ok (.putfield 28, 3) := by decide +kernel
theorem dX10_init_41 : decode cX10_init 41 = .ok (.aload_n 0, 1) := by decide +kernel
theorem dX10_init_42 : decode cX10_init 42 = .ok (.new 32, 3) := by decide +kernel
theorem dX10_init_45 : decode cX10_init 45 = .ok (.dup, 1) := by decide +kernel
theorem dX10_init_46 : decode cX10_init 46 = .ok (.invokespecial 34, 3) := by decide +kernel
theorem dX10_init_49 : decode cX10_init 49 = .ok (.putfield 35, 3) := by decide +kernel
theorem dX10_init_52 : decode cX10_init 52 = .ok (.return_, 1) := by decide +kernel
theorem dX10_method_0 : decode cX10_method 0 = .ok (.aload_n 0, 1) := by decide +kernel
theorem dX10_method_1 : decode cX10_method 1 = .ok (.getfield 10, 3) := by decide +kernel
theorem dX10_method_4 : decode cX10_method 4 = .ok (.invokevirtual 38, 3) := by decide +kernel
theorem dX10_method_7 : decode cX10_method 7 = .ok (.ireturn, 1) := by decide +kernel
theorem dX10_instruction_0 : decode cX10_instruction 0 = .ok (.aload_n 0, 1) := by decide +kernel
theorem dX10_instruction_1 : decode cX10_instruction 1 = .ok (.getfield 10, 3) := by decide +kernel
theorem dX10_instruction_4 : decode cX10_instruction 4 = .ok (.iload_n 1, 1) := by decide +kernel
theorem dX10_instruction_5 : decode cX10_instruction 5 = .ok (.invokevirtual 42, 3) := by decide +kernel
theorem dX10_instruction_8 : decode cX10_instruction 8 = .ok (.astore 7, 2) := by decide +kernel
theorem dX10_instruction_10 : decode cX10_instruction 10 = .ok (.aload 7, 2) := by decide +kernel
theorem dX10_instruction_12 : decode cX10_instruction 12 = .ok (.ifnull 39, 3) := by decide +kernel
theorem dX10_instruction_15 : decode cX10_instruction 15 = .ok (.iload_n 2, 1) := by decide +kernel
theorem dX10_instruction_16 : decode cX10_instruction 16 = .ok (.i2l, 1) := by decide +kernel
theorem dX10_instruction_17 : decode cX10_instruction 17 = .ok (.lconst 0, 1) := by decide +kernel
theorem dX10_instruction_18 : decode cX10_instruction 18 = .ok (.ldc2_w 46, 3) := by decide +kernel
theorem dX10_instruction_21 : decode cX10_instruction 21 = .ok (.invokestatic 48, 3) := by decide +kernel
theorem dX10_instruction_24 : decode cX10_instruction 24 = .ok (.ifCond .eq 27, 3) := by decide +kernel
theorem dX10_instruction_27 : decode cX10_instruction 27 = .ok (.iload_n 3, 1) := by decide +kernel
theorem dX10_instruction_28 : decode cX10_instruction 28 = .ok (.invokestatic 52, 3) := by decide +kernel
theorem dX10_instruction_31 : decode cX10_instruction 31 = .ok (.ifCond .eq 20, 3) := by decide +kernel
theorem dX10_instruction_34 : decode cX10_instruction 34 = .ok (.iload 4, 2) := by decide +kernel
theorem dX10_instruction_36 : decode cX10_instruction 36 = .ok (.invokestatic 52, 3) := by decide +kernel
theorem dX10_instruction_39 : decode cX10_instruction 39 = .ok (.ifCond .eq 12, 3) := by decide +kernel
theorem dX10_instruction_42 : decode cX10_instruction 42 = .ok (.iload_n 2, 1) := by decide +kernel
theorem dX10_instruction_43 : decode cX10_instruction 43 = .ok (.lload 5, 2) := by decide +kernel
theorem dX10_instruction_45 : decode cX10_instruction 45 = .ok (.invokestatic 56, 3) := by decide +kernel
theorem dX10_instruction_48 : decode cX10_instruction 48 = .ok (.ifCond .ne 6, 3) := by decide +kernel
theorem dX10_instruction_51 : decode cX10_instruction 51 = .ok (.bipush (-2), 2) := by decide +kernel
theorem dX10_instruction_53 : decode cX10_instruction 53 = .ok (.ireturn, 1) := by decide +kernel
theorem dX10_instruction_54 : decode cX10_instruction 54 = .ok (.aload 7, 2) := by decide +kernel
theorem dX10_instruction_56 : decode cX10_instruction 56 = .ok (.iload_n 2, 1) := by decide +kernel
theorem dX10_instruction_57 : decode cX10_instruction 57 = .ok (.iload_n 3, 1) := by decide +kernel
theorem dX10_instruction_58 : decode cX10_instruction 58 = .ok (.iload 4, 2) := by decide +kernel
theorem dX10_instruction_60 : decode cX10_instruction 60 = .ok (.lload 5, 2) := by decide +kernel
theorem dX10_instruction_62 : decode cX10_instruction 62 = .ok (.invokevirtual 60, 3) := by decide +kernel
theorem dX10_instruction_65 : decode cX10_instruction 65 = .ok (.ireturn, 1) := by decide +kernel
theorem dX10_handler_0 : decode cX10_handler 0 = .ok (.aload_n 0, 1) := by decide +kernel
theorem dX10_handler_1 : decode cX10_handler 1 = .ok (.getfield 10, 3) := by decide +kernel
theorem dX10_handler_4 : decode cX10_handler 4 = .ok (.iload_n 1, 1) := by decide +kernel
theorem dX10_handler_5 : decode cX10_handler 5 = .ok (.invokevirtual 42, 3) := by decide +kernel
theorem dX10_handler_8 : decode cX10_handler 8 = .ok (.astore 6, 2) := by decide +kernel
theorem dX10_handler_10 : decode cX10_handler 10 = .ok (.aload 6, 2) := by decide +kernel
theorem dX10_handler_12 : decode cX10_handler 12 = .ok (.ifnull 37, 3) := by decide +kernel
theorem dX10_handler_15 : decode cX10_handler 15 = .ok (.iload_n 2, 1) := by decide +kernel
theorem dX10_handler_16 : decode cX10_handler 16 = .ok (.i2l, 1) := by decide +kernel
theorem dX10_handler_17 : decode cX10_handler 17 = .ok (.invokestatic 66, 3) := by decide +kernel
theorem dX10_handler_20 : decode cX10_handler 20 = .ok (.ifCond .eq 29, 3) := by decide +kernel
theorem dX10_handler_23 : decode cX10_handler 23 = .ok (.iload_n 3, 1) := by decide +kernel
theorem dX10_handler_24 : decode cX10_handler 24 = .ok (.i2l, 1) := by decide +kernel
theorem dX10_handler_25 : decode cX10_handler 25 = .ok (.invokestatic 66, 3) := by decide +kernel
theorem dX10_handler_28 : decode cX10_handler 28 = .ok (.ifCond .eq 21, 3) := by decide +kernel
theorem dX10_handler_31 : decode cX10_handler 31 = .ok (.iload 4, 2) := by decide +kernel
theorem dX10_handler_33 : decode cX10_handler 33 = .ok (.i2l, 1) := by decide +kernel
theorem dX10_handler_34 : decode cX10_handler 34 = .ok (.invokestatic 66, 3) := by decide +kernel
theorem dX10_handler_37 : decode cX10_handler 37 = .ok (.ifCond .eq 12, 3) := by decide +kernel
theorem dX10_handler_40 : decode cX10_handler 40 = .ok (.iload 5, 2) := by decide +kernel
theorem dX10_handler_42 : decode cX10_handler 42 = .ok (.sipush (-511), 3) := by decide +kernel
theorem dX10_handler_45 : decode cX10_handler 45 = .ok (.iand, 1) := by decide +kernel
theorem dX10_handler_46 : decode cX10_handler 46 = .ok (.ifCond .eq 6, 3) := by decide +kernel
theorem dX10_handler_49 : decode cX10_handler 49 = .ok (.bipush (-2), 2) := by decide +kernel
theorem dX10_handler_51 : decode cX10_handler 51 = .ok (.ireturn, 1) := by decide +kernel
theorem dX10_handler_52 : decode cX10_handler 52 = .ok (.aload 6, 2) := by decide +kernel
theorem dX10_handler_54 : decode cX10_handler 54 = .ok (.iload_n 2, 1) := by decide +kernel
theorem dX10_handler_55 : decode cX10_handler 55 = .ok (.iload_n 3, 1) := by decide +kernel
theorem dX10_handler_56 : decode cX10_handler 56 = .ok (.iload 4, 2) := by decide +kernel
theorem dX10_handler_58 : decode cX10_handler 58 = .ok (.iload 5, 2) := by decide +kernel
theorem dX10_handler_60 : decode cX10_handler 60 = .ok (.invokevirtual 70, 3) := by decide +kernel
theorem dX10_handler_63 : decode cX10_handler 63 = .ok (.ireturn, 1) := by decide +kernel
theorem dX10_run_0 : decode cX10_run 0 = .ok (.aload_n 0, 1) := by decide +kernel
theorem dX10_run_1 : decode cX10_run 1 = .ok (.getfield 21, 3) := by decide +kernel
theorem dX10_run_4 : decode cX10_run 4 = .ok (.aload_n 0, 1) := by decide +kernel
theorem dX10_run_5 : decode cX10_run 5 = .ok (.getfield 10, 3) := by decide +kernel
theorem dX10_run_8 : decode cX10_run 8 = .ok (.iload_n 1, 1) := by decide +kernel
theorem dX10_run_9 : decode cX10_run 9 = .ok (.invokevirtual 42, 3) := by decide +kernel
theorem dX10_run_12 : decode cX10_run 12 = .ok (.lload_n 2, 1) := by decide +kernel
theorem dX10_run_13 : decode cX10_run 13 = .ok (.iload 4, 2) := by decide +kernel
theorem dX10_run_15 : decode cX10_run 15 = .ok (.aload_n 0, 1) := by decide +kernel
theorem dX10_run_16 : decode cX10_run 16 = .ok (.getfield 28, 3) := by decide +kernel
theorem dX10_run_19 : decode cX10_run 19 = .ok (.invokevirtual 74, 3) := by decide +kernel
theorem dX10_run_22 : decode cX10_run 22 = .ok (.ireturn, 1) := by decide +kernel
theorem dX10_step_0 : decode cX10_step 0 = .ok (.aload_n 0, 1) := by decide +kernel
theorem dX10_step_1 : decode cX10_step 1 = .ok (.getfield 21, 3) := by decide +kernel
theorem dX10_step_4 : decode cX10_step 4 = .ok (.aload_n 0, 1) := by decide +kernel
theorem dX10_step_5 : decode cX10_step 5 = .ok (.getfield 10, 3) := by decide +kernel
theorem dX10_step_8 : decode cX10_step 8 = .ok (.iload_n 1, 1) := by decide +kernel
theorem dX10_step_9 : decode cX10_step 9 = .ok (.invokevirtual 42, 3) := by decide +kernel
theorem dX10_step_12 : decode cX10_step 12 = .ok (.lload_n 2, 1) := by decide +kernel
theorem dX10_step_13 : decode cX10_step 13 = .ok (.iload 4, 2) := by decide +kernel
theorem dX10_step_15 : decode cX10_step 15 = .ok (.aload_n 0, 1) := by decide +kernel
theorem dX10_step_16 : decode cX10_step 16 = .ok (.getfield 35, 3) := by decide +kernel
theorem dX10_step_19 : decode cX10_step 19 = .ok (.invokevirtual 74, 3) := by decide +kernel
theorem dX10_step_22 : decode cX10_step 22 = .ok (.ireturn, 1) := by decide +kernel
theorem dX10_answer_0 : decode cX10_answer 0 = .ok (.aload_n 0, 1) := by decide +kernel
theorem dX10_answer_1 : decode cX10_answer 1 = .ok (.getfield 21, 3) := by decide +kernel
theorem dX10_answer_4 : decode cX10_answer 4 = .ok (.getfield 78, 3) := by decide +kernel
theorem dX10_answer_7 : decode cX10_answer 7 = .ok (.getfield 82, 3) := by decide +kernel
theorem dX10_answer_10 : decode cX10_answer 10 = .ok (.lreturn, 1) := by decide +kernel
theorem dX10_told_0 : decode cX10_told 0 = .ok (.aload_n 0, 1) := by decide +kernel
theorem dX10_told_1 : decode cX10_told 1 = .ok (.getfield 21, 3) := by decide +kernel
theorem dX10_told_4 : decode cX10_told 4 = .ok (.getfield 78, 3) := by decide +kernel
theorem dX10_told_7 : decode cX10_told 7 = .ok (.iload_n 1, 1) := by decide +kernel
theorem dX10_told_8 : decode cX10_told 8 = .ok (.invokevirtual 88, 3) := by decide +kernel
theorem dX10_told_11 : decode cX10_told 11 = .ok (.ireturn, 1) := by decide +kernel
theorem dX10_entries_0 : decode cX10_entries 0 = .ok (.aload_n 0, 1) := by decide +kernel
theorem dX10_entries_1 : decode cX10_entries 1 = .ok (.getfield 10, 3) := by decide +kernel
theorem dX10_entries_4 : decode cX10_entries 4 = .ok (.iload_n 1, 1) := by decide +kernel
theorem dX10_entries_5 : decode cX10_entries 5 = .ok (.invokevirtual 42, 3) := by decide +kernel
theorem dX10_entries_8 : decode cX10_entries 8 = .ok (.astore_n 2, 1) := by decide +kernel
theorem dX10_entries_9 : decode cX10_entries 9 = .ok (.aload_n 2, 1) := by decide +kernel
theorem dX10_entries_10 : decode cX10_entries 10 = .ok (.ifnonnull 6, 3) := by decide +kernel
theorem dX10_entries_13 : decode cX10_entries 13 = .ok (.bipush (-2), 2) := by decide +kernel
theorem dX10_entries_15 : decode cX10_entries 15 = .ok (.ireturn, 1) := by decide +kernel
theorem dX10_entries_16 : decode cX10_entries 16 = .ok (.aload_n 2, 1) := by decide +kernel
theorem dX10_entries_17 : decode cX10_entries 17 = .ok (.getfield 92, 3) := by decide +kernel
theorem dX10_entries_20 : decode cX10_entries 20 = .ok (.getfield 96, 3) := by decide +kernel
theorem dX10_entries_23 : decode cX10_entries 23 = .ok (.ifCond .eq 8, 3) := by decide +kernel
theorem dX10_entries_26 : decode cX10_entries 26 = .ok (.bipush (-4), 2) := by decide +kernel
theorem dX10_entries_28 : decode cX10_entries 28 = .ok (.goto 10, 3) := by decide +kernel
theorem dX10_entries_31 : decode cX10_entries 31 = .ok (.aload_n 2, 1) := by decide +kernel
theorem dX10_entries_32 : decode cX10_entries 32 = .ok (.getfield 92, 3) := by decide +kernel
theorem dX10_entries_35 : decode cX10_entries 35 = .ok (.getfield 102, 3) := by decide +kernel
theorem dX10_entries_38 : decode cX10_entries 38 = .ok (.ireturn, 1) := by decide +kernel
theorem dX10_entry_0 : decode cX10_entry 0 = .ok (.aload_n 0, 1) := by decide +kernel
theorem dX10_entry_1 : decode cX10_entry 1 = .ok (.getfield 10, 3) := by decide +kernel
theorem dX10_entry_4 : decode cX10_entry 4 = .ok (.iload_n 1, 1) := by decide +kernel
theorem dX10_entry_5 : decode cX10_entry 5 = .ok (.invokevirtual 42, 3) := by decide +kernel
theorem dX10_entry_8 : decode cX10_entry 8 = .ok (.astore 4, 2) := by decide +kernel
theorem dX10_entry_10 : decode cX10_entry 10 = .ok (.aload 4, 2) := by decide +kernel
theorem dX10_entry_12 : decode cX10_entry 12 = .ok (.ifnull 15, 3) := by decide +kernel
theorem dX10_entry_15 : decode cX10_entry 15 = .ok (.iload_n 3, 1) := by decide +kernel
theorem dX10_entry_16 : decode cX10_entry 16 = .ok (.i2l, 1) := by decide +kernel
theorem dX10_entry_17 : decode cX10_entry 17 = .ok (.lconst 0, 1) := by decide +kernel
theorem dX10_entry_18 : decode cX10_entry 18 = .ok (.ldc2_w 106, 3) := by decide +kernel
theorem dX10_entry_21 : decode cX10_entry 21 = .ok (.invokestatic 48, 3) := by decide +kernel
theorem dX10_entry_24 : decode cX10_entry 24 = .ok (.ifCond .ne 6, 3) := by decide +kernel
theorem dX10_entry_27 : decode cX10_entry 27 = .ok (.bipush (-2), 2) := by decide +kernel
theorem dX10_entry_29 : decode cX10_entry 29 = .ok (.ireturn, 1) := by decide +kernel
theorem dX10_entry_30 : decode cX10_entry 30 = .ok (.aload 4, 2) := by decide +kernel
theorem dX10_entry_32 : decode cX10_entry 32 = .ok (.getfield 92, 3) := by decide +kernel
theorem dX10_entry_35 : decode cX10_entry 35 = .ok (.getfield 96, 3) := by decide +kernel
theorem dX10_entry_38 : decode cX10_entry 38 = .ok (.ifCond .eq 8, 3) := by decide +kernel
theorem dX10_entry_41 : decode cX10_entry 41 = .ok (.bipush (-4), 2) := by decide +kernel
theorem dX10_entry_43 : decode cX10_entry 43 = .ok (.goto 13, 3) := by decide +kernel
theorem dX10_entry_46 : decode cX10_entry 46 = .ok (.aload 4, 2) := by decide +kernel
theorem dX10_entry_48 : decode cX10_entry 48 = .ok (.getfield 92, 3) := by decide +kernel
theorem dX10_entry_51 : decode cX10_entry 51 = .ok (.iload_n 2, 1) := by decide +kernel
theorem dX10_entry_52 : decode cX10_entry 52 = .ok (.iload_n 3, 1) := by decide +kernel
theorem dX10_entry_53 : decode cX10_entry 53 = .ok (.invokevirtual 108, 3) := by decide +kernel
theorem dX10_entry_56 : decode cX10_entry 56 = .ok (.ireturn, 1) := by decide +kernel
theorem dX10_about_0 : decode cX10_about 0 = .ok (.aload_n 0, 1) := by decide +kernel
theorem dX10_about_1 : decode cX10_about 1 = .ok (.getfield 10, 3) := by decide +kernel
theorem dX10_about_4 : decode cX10_about 4 = .ok (.iload_n 1, 1) := by decide +kernel
theorem dX10_about_5 : decode cX10_about 5 = .ok (.invokevirtual 42, 3) := by decide +kernel
theorem dX10_about_8 : decode cX10_about 8 = .ok (.astore_n 3, 1) := by decide +kernel
theorem dX10_about_9 : decode cX10_about 9 = .ok (.aload_n 3, 1) := by decide +kernel
theorem dX10_about_10 : decode cX10_about 10 = .ok (.ifnull 15, 3) := by decide +kernel
theorem dX10_about_13 : decode cX10_about 13 = .ok (.iload_n 2, 1) := by decide +kernel
theorem dX10_about_14 : decode cX10_about 14 = .ok (.i2l, 1) := by decide +kernel
theorem dX10_about_15 : decode cX10_about 15 = .ok (.lconst 0, 1) := by decide +kernel
theorem dX10_about_16 : decode cX10_about 16 = .ok (.ldc2_w 106, 3) := by decide +kernel
theorem dX10_about_19 : decode cX10_about 19 = .ok (.invokestatic 48, 3) := by decide +kernel
theorem dX10_about_22 : decode cX10_about 22 = .ok (.ifCond .ne 6, 3) := by decide +kernel
theorem dX10_about_25 : decode cX10_about 25 = .ok (.bipush (-2), 2) := by decide +kernel
theorem dX10_about_27 : decode cX10_about 27 = .ok (.ireturn, 1) := by decide +kernel
theorem dX10_about_28 : decode cX10_about 28 = .ok (.iload_n 2, 1) := by decide +kernel
theorem dX10_about_29 : decode cX10_about 29 = .ok (.ifCond .ne 8, 3) := by decide +kernel
theorem dX10_about_32 : decode cX10_about 32 = .ok (.aload_n 3, 1) := by decide +kernel
theorem dX10_about_33 : decode cX10_about 33 = .ok (.getfield 111, 3) := by decide +kernel
theorem dX10_about_36 : decode cX10_about 36 = .ok (.ireturn, 1) := by decide +kernel
theorem dX10_about_37 : decode cX10_about 37 = .ok (.iload_n 2, 1) := by decide +kernel
theorem dX10_about_38 : decode cX10_about 38 = .ok (.iconst 1, 1) := by decide +kernel
theorem dX10_about_39 : decode cX10_about 39 = .ok (.if_icmp .ne 8, 3) := by decide +kernel
theorem dX10_about_42 : decode cX10_about 42 = .ok (.aload_n 3, 1) := by decide +kernel
theorem dX10_about_43 : decode cX10_about 43 = .ok (.getfield 112, 3) := by decide +kernel
theorem dX10_about_46 : decode cX10_about 46 = .ok (.ireturn, 1) := by decide +kernel
theorem dX10_about_47 : decode cX10_about 47 = .ok (.aload_n 3, 1) := by decide +kernel
theorem dX10_about_48 : decode cX10_about 48 = .ok (.getfield 92, 3) := by decide +kernel
theorem dX10_about_51 : decode cX10_about 51 = .ok (.getfield 96, 3) := by decide +kernel
theorem dX10_about_54 : decode cX10_about 54 = .ok (.ifCond .eq 8, 3) := by decide +kernel
theorem dX10_about_57 : decode cX10_about 57 = .ok (.bipush (-4), 2) := by decide +kernel
theorem dX10_about_59 : decode cX10_about 59 = .ok (.goto 10, 3) := by decide +kernel
theorem dX10_about_62 : decode cX10_about 62 = .ok (.aload_n 3, 1) := by decide +kernel
theorem dX10_about_63 : decode cX10_about 63 = .ok (.getfield 92, 3) := by decide +kernel
theorem dX10_about_66 : decode cX10_about 66 = .ok (.getfield 115, 3) := by decide +kernel
theorem dX10_about_69 : decode cX10_about 69 = .ok (.ireturn, 1) := by decide +kernel
theorem dX10_clear_0 : decode cX10_clear 0 = .ok (.aload_n 0, 1) := by decide +kernel
theorem dX10_clear_1 : decode cX10_clear 1 = .ok (.getfield 10, 3) := by decide +kernel
theorem dX10_clear_4 : decode cX10_clear 4 = .ok (.invokevirtual 118, 3) := by decide +kernel
theorem dX10_clear_7 : decode cX10_clear 7 = .ok (.ireturn, 1) := by decide +kernel
theorem dX10_within_0 : decode cX10_within 0 = .ok (.lload_n 2, 1) := by decide +kernel
theorem dX10_within_1 : decode cX10_within 1 = .ok (.lload_n 0, 1) := by decide +kernel
theorem dX10_within_2 : decode cX10_within 2 = .ok (.lcmp, 1) := by decide +kernel
theorem dX10_within_3 : decode cX10_within 3 = .ok (.ifCond .gt 14, 3) := by decide +kernel
theorem dX10_within_6 : decode cX10_within 6 = .ok (.lload_n 0, 1) := by decide +kernel
theorem dX10_within_7 : decode cX10_within 7 = .ok (.lload 4, 2) := by decide +kernel
theorem dX10_within_9 : decode cX10_within 9 = .ok (.lcmp, 1) := by decide +kernel
theorem dX10_within_10 : decode cX10_within 10 = .ok (.ifCond .gt 7, 3) := by decide +kernel
theorem dX10_within_13 : decode cX10_within 13 = .ok (.iconst 1, 1) := by decide +kernel
theorem dX10_within_14 : decode cX10_within 14 = .ok (.goto 4, 3) := by decide +kernel
theorem dX10_within_17 : decode cX10_within 17 = .ok (.iconst 0, 1) := by decide +kernel
theorem dX10_within_18 : decode cX10_within 18 = .ok (.ireturn, 1) := by decide +kernel
theorem dX10_isRegister_0 : decode cX10_isRegister 0 = .ok (.iload_n 0, 1) := by decide +kernel
theorem dX10_isRegister_1 : decode cX10_isRegister 1 = .ok (.i2l, 1) := by decide +kernel
theorem dX10_isRegister_2 : decode cX10_isRegister 2 = .ok (.lconst 0, 1) := by decide +kernel
theorem dX10_isRegister_3 : decode cX10_isRegister 3 = .ok (.ldc2_w 121, 3) := by decide +kernel
theorem dX10_isRegister_6 : decode cX10_isRegister 6 = .ok (.invokestatic 48, 3) := by decide +kernel
theorem dX10_isRegister_9 : decode cX10_isRegister 9 = .ok (.ireturn, 1) := by decide +kernel
theorem dX10_isPlace_0 : decode cX10_isPlace 0 = .ok (.lload_n 0, 1) := by decide +kernel
theorem dX10_isPlace_1 : decode cX10_isPlace 1 = .ok (.lconst 0, 1) := by decide +kernel
theorem dX10_isPlace_2 : decode cX10_isPlace 2 = .ok (.ldc2_w 123, 3) := by decide +kernel
theorem dX10_isPlace_5 : decode cX10_isPlace 5 = .ok (.invokestatic 48, 3) := by decide +kernel
theorem dX10_isPlace_8 : decode cX10_isPlace 8 = .ok (.ireturn, 1) := by decide +kernel
theorem dX10_numberFits_0 : decode cX10_numberFits 0 = .ok (.iload_n 0, 1) := by decide +kernel
theorem dX10_numberFits_1 : decode cX10_numberFits 1 = .ok (.tableswitch 99 6 18 #[67, 67, 72, 99, 99, 72, 99, 81, 99, 99, 99, 90, 90], 67) := by decide +kernel
theorem dX10_numberFits_68 : decode cX10_numberFits 68 = .ok (.lload_n 1, 1) := by decide +kernel
theorem dX10_numberFits_69 : decode cX10_numberFits 69 = .ok (.invokestatic 66, 3) := by decide +kernel
theorem dX10_numberFits_72 : decode cX10_numberFits 72 = .ok (.ireturn, 1) := by decide +kernel
theorem dX10_numberFits_73 : decode cX10_numberFits 73 = .ok (.lload_n 1, 1) := by decide +kernel
theorem dX10_numberFits_74 : decode cX10_numberFits 74 = .ok (.lconst 0, 1) := by decide +kernel
theorem dX10_numberFits_75 : decode cX10_numberFits 75 = .ok (.ldc2_w 125, 3) := by decide +kernel
theorem dX10_numberFits_78 : decode cX10_numberFits 78 = .ok (.invokestatic 48, 3) := by decide +kernel
theorem dX10_numberFits_81 : decode cX10_numberFits 81 = .ok (.ireturn, 1) := by decide +kernel
theorem dX10_numberFits_82 : decode cX10_numberFits 82 = .ok (.lload_n 1, 1) := by decide +kernel
theorem dX10_numberFits_83 : decode cX10_numberFits 83 = .ok (.lconst 0, 1) := by decide +kernel
theorem dX10_numberFits_84 : decode cX10_numberFits 84 = .ok (.ldc2_w 127, 3) := by decide +kernel
theorem dX10_numberFits_87 : decode cX10_numberFits 87 = .ok (.invokestatic 48, 3) := by decide +kernel
theorem dX10_numberFits_90 : decode cX10_numberFits 90 = .ok (.ireturn, 1) := by decide +kernel
theorem dX10_numberFits_91 : decode cX10_numberFits 91 = .ok (.lload_n 1, 1) := by decide +kernel
theorem dX10_numberFits_92 : decode cX10_numberFits 92 = .ok (.lconst 0, 1) := by decide +kernel
theorem dX10_numberFits_93 : decode cX10_numberFits 93 = .ok (.ldc2_w 106, 3) := by decide +kernel
theorem dX10_numberFits_96 : decode cX10_numberFits 96 = .ok (.invokestatic 48, 3) := by decide +kernel
theorem dX10_numberFits_99 : decode cX10_numberFits 99 = .ok (.ireturn, 1) := by decide +kernel
theorem dX10_numberFits_100 : decode cX10_numberFits 100 = .ok (.iconst 1, 1) := by decide +kernel
theorem dX10_numberFits_101 : decode cX10_numberFits 101 = .ok (.ireturn, 1) := by decide +kernel
theorem dX11_init_0 : decode cX11_init 0 = .ok (.aload_n 0, 1) := by decide +kernel
theorem dX11_init_1 : decode cX11_init 1 = .ok (.invokespecial 1, 3) := by decide +kernel
theorem dX11_init_4 : decode cX11_init 4 = .ok (.aload_n 0, 1) := by decide +kernel
theorem dX11_init_5 : decode cX11_init 5 = .ok (.bipush 6, 2) := by decide +kernel
theorem dX11_init_7 : decode cX11_init 7 = .ok (.newarray .int, 2) := by decide +kernel
theorem dX11_init_9 : decode cX11_init 9 = .ok (.putfield 7, 3) := by decide +kernel
theorem dX11_init_12 : decode cX11_init 12 = .ok (.aload_n 0, 1) := by decide +kernel
theorem dX11_init_13 : decode cX11_init 13 = .ok (.sipush 240, 3) := by decide +kernel
theorem dX11_init_16 : decode cX11_init 16 = .ok (.newarray .int, 2) := by decide +kernel
theorem dX11_init_18 : decode cX11_init 18 = .ok (.putfield 13, 3) := by decide +kernel
theorem dX11_init_21 : decode cX11_init 21 = .ok (.aload_n 0, 1) := by decide +kernel
theorem dX11_init_22 : decode cX11_init 22 = .ok (.sipush 240, 3) := by decide +kernel
theorem dX11_init_25 : decode cX11_init 25 = .ok (.newarray .int, 2) := by decide +kernel
theorem dX11_init_27 : decode cX11_init 27 = .ok (.putfield 16, 3) := by decide +kernel
theorem dX11_init_30 : decode cX11_init 30 = .ok (.aload_n 0, 1) := by decide +kernel
theorem dX11_init_31 : decode cX11_init 31 = .ok (.sipush 240, 3) := by decide +kernel
theorem dX11_init_34 : decode cX11_init 34 = .ok (.newarray .int, 2) := by decide +kernel
theorem dX11_init_36 : decode cX11_init 36 = .ok (.putfield 19, 3) := by decide +kernel
theorem dX11_init_39 : decode cX11_init 39 = .ok (.aload_n 0, 1) := by decide +kernel
theorem dX11_init_40 : decode cX11_init 40 = .ok (.sipush 240, 3) := by decide +kernel
theorem dX11_init_43 : decode cX11_init 43 = .ok (.newarray .long, 2) := by decide +kernel
theorem dX11_init_45 : decode cX11_init 45 = .ok (.putfield 22, 3) := by decide +kernel
theorem dX11_init_48 : decode cX11_init 48 = .ok (.aload_n 0, 1) := by decide +kernel
theorem dX11_init_49 : decode cX11_init 49 = .ok (.bipush 6, 2) := by decide +kernel
theorem dX11_init_51 : decode cX11_init 51 = .ok (.newarray .int, 2) := by decide +kernel
theorem dX11_init_53 : decode cX11_init 53 = .ok (.putfield 26, 3) := by decide +kernel
theorem dX11_init_56 : decode cX11_init 56 = .ok (.aload_n 0, 1) := by decide +kernel
theorem dX11_init_57 : decode cX11_init 57 = .ok (.bipush 24, 2) := by decide +kernel
theorem dX11_init_59 : decode cX11_init 59 = .ok (.newarray .int, 2) := by decide +kernel
theorem dX11_init_61 : decode cX11_init 61 = .ok (.putfield 29, 3) := by decide +kernel
theorem dX11_init_64 : decode cX11_init 64 = .ok (.aload_n 0, 1) := by decide +kernel
theorem dX11_init_65 : decode cX11_init 65 = .ok (.bipush 24, 2) := by decide +kernel
theorem dX11_init_67 : decode cX11_init 67 = .ok (.newarray .int, 2) := by decide +kernel
theorem dX11_init_69 : decode cX11_init 69 = .ok (.putfield 32, 3) := by decide +kernel
theorem dX11_init_72 : decode cX11_init 72 = .ok (.aload_n 0, 1) := by decide +kernel
theorem dX11_init_73 : decode cX11_init 73 = .ok (.bipush 24, 2) := by decide +kernel
theorem dX11_init_75 : decode cX11_init 75 = .ok (.newarray .int, 2) := by decide +kernel
theorem dX11_init_77 : decode cX11_init 77 = .ok (.putfield 35, 3) := by decide +kernel
theorem dX11_init_80 : decode cX11_init 80 = .ok (.aload_n 0, 1) := by decide +kernel
theorem dX11_init_81 : decode cX11_init 81 = .ok (.bipush 24, 2) := by decide +kernel
theorem dX11_init_83 : decode cX11_init 83 = .ok (.newarray .int, 2) := by decide +kernel
theorem dX11_init_85 : decode cX11_init 85 = .ok (.putfield 38, 3) := by decide +kernel
theorem dX11_init_88 : decode cX11_init 88 = .ok (.aload_n 0, 1) := by decide +kernel
theorem dX11_init_89 : decode cX11_init 89 = .ok (.bipush 12, 2) := by decide +kernel
theorem dX11_init_91 : decode cX11_init 91 = .ok (.newarray .int, 2) := by decide +kernel
theorem dX11_init_93 : decode cX11_init 93 = .ok (.putfield 41, 3) := by decide +kernel
theorem dX11_init_96 : decode cX11_init 96 = .ok (.aload_n 0, 1) := by decide +kernel
theorem dX11_init_97 : decode cX11_init 97 = .ok (.bipush 12, 2) := by decide +kernel
theorem dX11_init_99 : decode cX11_init 99 = .ok (.newarray .int, 2) := by decide +kernel
theorem dX11_init_101 : decode cX11_init 101 = .ok (.putfield 44, 3) := by decide +kernel
theorem dX11_init_104 : decode cX11_init 104 = .ok (.aload_n 0, 1) := by decide +kernel
theorem dX11_init_105 : decode cX11_init 105 = .ok (.bipush 48, 2) := by decide +kernel
theorem dX11_init_107 : decode cX11_init 107 = .ok (.newarray .long, 2) := by decide +kernel
theorem dX11_init_109 : decode cX11_init 109 = .ok (.putfield 47, 3) := by decide +kernel
theorem dX11_init_112 : decode cX11_init 112 = .ok (.aload_n 0, 1) := by decide +kernel
theorem dX11_init_113 : decode cX11_init 113 = .ok (.bipush 12, 2) := by decide +kernel
theorem dX11_init_115 : decode cX11_init 115 = .ok (.newarray .int, 2) := by decide +kernel
theorem dX11_init_117 : decode cX11_init 117 = .ok (.putfield 50, 3) := by decide +kernel
theorem dX11_init_120 : decode cX11_init 120 = .ok (.aload_n 0, 1) := by decide +kernel
theorem dX11_init_121 : decode cX11_init 121 = .ok (.bipush 12, 2) := by decide +kernel
theorem dX11_init_123 : decode cX11_init 123 = .ok (.newarray .int, 2) := by decide +kernel
theorem dX11_init_125 : decode cX11_init 125 = .ok (.putfield 53, 3) := by decide +kernel
theorem dX11_init_128 : decode cX11_init 128 = .ok (.aload_n 0, 1) := by decide +kernel
theorem dX11_init_129 : decode cX11_init 129 = .ok (.bipush 12, 2) := by decide +kernel
theorem dX11_init_131 : decode cX11_init 131 = .ok (.newarray .int, 2) := by decide +kernel
theorem dX11_init_133 : decode cX11_init 133 = .ok (.putfield 56, 3) := by decide +kernel
theorem dX11_init_136 : decode cX11_init 136 = .ok (.aload_n 0, 1) := by decide +kernel
theorem dX11_init_137 : decode cX11_init 137 = .ok (.bipush 12, 2) := by decide +kernel
theorem dX11_init_139 : decode cX11_init 139 = .ok (.newarray .int, 2) := by decide +kernel
theorem dX11_init_141 : decode cX11_init 141 = .ok (.putfield 59, 3) := by decide +kernel
theorem dX11_init_144 : decode cX11_init 144 = .ok (.aload_n 0, 1) := by decide +kernel
theorem dX11_init_145 : decode cX11_init 145 = .ok (.bipush 12, 2) := by decide +kernel
theorem dX11_init_147 : decode cX11_init 147 = .ok (.newarray .int, 2) := by decide +kernel
theorem dX11_init_149 : decode cX11_init 149 = .ok (.putfield 62, 3) := by decide +kernel
theorem dX11_init_152 : decode cX11_init 152 = .ok (.aload_n 0, 1) := by decide +kernel
theorem dX11_init_153 : decode cX11_init 153 = .ok (.bipush 36, 2) := by decide +kernel
theorem dX11_init_155 : decode cX11_init 155 = .ok (.newarray .int, 2) := by decide +kernel
theorem dX11_init_157 : decode cX11_init 157 = .ok (.putfield 65, 3) := by decide +kernel
theorem dX11_init_160 : decode cX11_init 160 = .ok (.aload_n 0, 1) := by decide +kernel
theorem dX11_init_161 : decode cX11_init 161 = .ok (.sipush 256, 3) := by decide +kernel
theorem dX11_init_164 : decode cX11_init 164 = .ok (.newarray .long, 2) := by decide +kernel
theorem dX11_init_166 : decode cX11_init 166 = .ok (.putfield 68, 3) := by decide +kernel
theorem dX11_init_169 : decode cX11_init 169 = .ok (.aload_n 0, 1) := by decide +kernel
theorem dX11_init_170 : decode cX11_init 170 = .ok (.bipush 70, 2) := by decide +kernel
theorem dX11_init_172 : decode cX11_init 172 = .ok (.newarray .int, 2) := by decide +kernel
theorem dX11_init_174 : decode cX11_init 174 = .ok (.putfield 71, 3) := by decide +kernel
theorem dX11_init_177 : decode cX11_init 177 = .ok (.aload_n 0, 1) := by decide +kernel
theorem dX11_init_178 : decode cX11_init 178 = .ok (.bipush 70, 2) := by decide +kernel
theorem dX11_init_180 : decode cX11_init 180 = .ok (.newarray .int, 2) := by decide +kernel
theorem dX11_init_182 : decode cX11_init 182 = .ok (.putfield 74, 3) := by decide +kernel
theorem dX11_init_185 : decode cX11_init 185 = .ok (.aload_n 0, 1) := by decide +kernel
theorem dX11_init_186 : decode cX11_init 186 = .ok (.bipush 70, 2) := by decide +kernel
theorem dX11_init_188 : decode cX11_init 188 = .ok (.newarray .int, 2) := by decide +kernel
theorem dX11_init_190 : decode cX11_init 190 = .ok (.putfield 77, 3) := by decide +kernel
theorem dX11_init_193 : decode cX11_init 193 = .ok (.aload_n 0, 1) := by decide +kernel
theorem dX11_init_194 : decode cX11_init 194 = .ok (.getfield 50, 3) := by decide +kernel
theorem dX11_init_197 : decode cX11_init 197 = .ok (.iconst 0, 1) := by decide +kernel
theorem dX11_init_198 : decode cX11_init 198 = .ok (.iconst (-1), 1) := by decide +kernel
theorem dX11_init_199 : decode cX11_init 199 = .ok (.iastore, 1) := by decide +kernel
theorem dX11_init_200 : decode cX11_init 200 = .ok (.return_, 1) := by decide +kernel
theorem dX11_in_0 : decode cX11_in 0 = .ok (.lload_n 0, 1) := by decide +kernel
theorem dX11_in_1 : decode cX11_in 1 = .ok (.lload_n 2, 1) := by decide +kernel
theorem dX11_in_2 : decode cX11_in 2 = .ok (.lcmp, 1) := by decide +kernel
theorem dX11_in_3 : decode cX11_in 3 = .ok (.ifCond .lt 14, 3) := by decide +kernel
theorem dX11_in_6 : decode cX11_in 6 = .ok (.lload_n 0, 1) := by decide +kernel
theorem dX11_in_7 : decode cX11_in 7 = .ok (.lload 4, 2) := by decide +kernel
theorem dX11_in_9 : decode cX11_in 9 = .ok (.lcmp, 1) := by decide +kernel
theorem dX11_in_10 : decode cX11_in 10 = .ok (.ifCond .gt 7, 3) := by decide +kernel
theorem dX11_in_13 : decode cX11_in 13 = .ok (.iconst 1, 1) := by decide +kernel
theorem dX11_in_14 : decode cX11_in 14 = .ok (.goto 4, 3) := by decide +kernel
theorem dX11_in_17 : decode cX11_in 17 = .ok (.iconst 0, 1) := by decide +kernel
theorem dX11_in_18 : decode cX11_in 18 = .ok (.ireturn, 1) := by decide +kernel
theorem dX11_isMethod_0 : decode cX11_isMethod 0 = .ok (.iload_n 1, 1) := by decide +kernel
theorem dX11_isMethod_1 : decode cX11_isMethod 1 = .ok (.i2l, 1) := by decide +kernel
theorem dX11_isMethod_2 : decode cX11_isMethod 2 = .ok (.lconst 0, 1) := by decide +kernel
theorem dX11_isMethod_3 : decode cX11_isMethod 3 = .ok (.aload_n 0, 1) := by decide +kernel
theorem dX11_isMethod_4 : decode cX11_isMethod 4 = .ok (.getfield 80, 3) := by decide +kernel
theorem dX11_isMethod_7 : decode cX11_isMethod 7 = .ok (.iconst 1, 1) := by decide +kernel
theorem dX11_isMethod_8 : decode cX11_isMethod 8 = .ok (.isub, 1) := by decide +kernel
theorem dX11_isMethod_9 : decode cX11_isMethod 9 = .ok (.i2l, 1) := by decide +kernel
theorem dX11_isMethod_10 : decode cX11_isMethod 10 = .ok (.invokestatic 84, 3) := by decide +kernel
theorem dX11_isMethod_13 : decode cX11_isMethod 13 = .ok (.ireturn, 1) := by decide +kernel
theorem dX11_method_0 : decode cX11_method 0 = .ok (.aload_n 0, 1) := by decide +kernel
theorem dX11_method_1 : decode cX11_method 1 = .ok (.getfield 80, 3) := by decide +kernel
theorem dX11_method_4 : decode cX11_method 4 = .ok (.bipush 6, 2) := by decide +kernel
theorem dX11_method_6 : decode cX11_method 6 = .ok (.if_icmp .ne 6, 3) := by decide +kernel
theorem dX11_method_9 : decode cX11_method 9 = .ok (.bipush (-3), 2) := by decide +kernel
theorem dX11_method_11 : decode cX11_method 11 = .ok (.ireturn, 1) := by decide +kernel
theorem dX11_method_12 : decode cX11_method 12 = .ok (.aload_n 0, 1) := by decide +kernel
theorem dX11_method_13 : decode cX11_method 13 = .ok (.getfield 7, 3) := by decide +kernel
theorem dX11_method_16 : decode cX11_method 16 = .ok (.aload_n 0, 1) := by decide +kernel
theorem dX11_method_17 : decode cX11_method 17 = .ok (.getfield 80, 3) := by decide +kernel
theorem dX11_method_20 : decode cX11_method 20 = .ok (.iconst 0, 1) := by decide +kernel
theorem dX11_method_21 : decode cX11_method 21 = .ok (.iastore, 1) := by decide +kernel
theorem dX11_method_22 : decode cX11_method 22 = .ok (.aload_n 0, 1) := by decide +kernel
theorem dX11_method_23 : decode cX11_method 23 = .ok (.getfield 26, 3) := by decide +kernel
theorem dX11_method_26 : decode cX11_method 26 = .ok (.aload_n 0, 1) := by decide +kernel
theorem dX11_method_27 : decode cX11_method 27 = .ok (.getfield 80, 3) := by decide +kernel
theorem dX11_method_30 : decode cX11_method 30 = .ok (.iconst 0, 1) := by decide +kernel
theorem dX11_method_31 : decode cX11_method 31 = .ok (.iastore, 1) := by decide +kernel
theorem dX11_method_32 : decode cX11_method 32 = .ok (.aload_n 0, 1) := by decide +kernel
theorem dX11_method_33 : decode cX11_method 33 = .ok (.dup, 1) := by decide +kernel
theorem dX11_method_34 : decode cX11_method 34 = .ok (.getfield 80, 3) := by decide +kernel
theorem dX11_method_37 : decode cX11_method 37 = .ok (.iconst 1, 1) := by decide +kernel
theorem dX11_method_38 : decode cX11_method 38 = .ok (.iadd, 1) := by decide +kernel
theorem dX11_method_39 : decode cX11_method 39 = .ok (.putfield 80, 3) := by decide +kernel
theorem dX11_method_42 : decode cX11_method 42 = .ok (.aload_n 0, 1) := by decide +kernel
theorem dX11_method_43 : decode cX11_method 43 = .ok (.getfield 80, 3) := by decide +kernel
theorem dX11_method_46 : decode cX11_method 46 = .ok (.iconst 1, 1) := by decide +kernel
theorem dX11_method_47 : decode cX11_method 47 = .ok (.isub, 1) := by decide +kernel
theorem dX11_method_48 : decode cX11_method 48 = .ok (.ireturn, 1) := by decide +kernel
theorem dX11_isRight_0 : decode cX11_isRight 0 = .ok (.iload_n 0, 1) := by decide +kernel
theorem dX11_isRight_1 : decode cX11_isRight 1 = .ok (.tableswitch 103 6 18 #[67, 67, 76, 103, 103, 76, 103, 85, 103, 103, 103, 94, 94], 67) := by decide +kernel
theorem dX11_isRight_68 : decode cX11_isRight 68 = .ok (.lload_n 1, 1) := by decide +kernel
theorem dX11_isRight_69 : decode cX11_isRight 69 = .ok (.lconst 0, 1) := by decide +kernel
theorem dX11_isRight_70 : decode cX11_isRight 70 = .ok (.ldc2_w 88, 3) := by decide +kernel
theorem dX11_isRight_73 : decode cX11_isRight 73 = .ok (.invokestatic 84, 3) := by decide +kernel
theorem dX11_isRight_76 : decode cX11_isRight 76 = .ok (.ireturn, 1) := by decide +kernel
theorem dX11_isRight_77 : decode cX11_isRight 77 = .ok (.lload_n 1, 1) := by decide +kernel
theorem dX11_isRight_78 : decode cX11_isRight 78 = .ok (.lconst 0, 1) := by decide +kernel
theorem dX11_isRight_79 : decode cX11_isRight 79 = .ok (.ldc2_w 90, 3) := by decide +kernel
theorem dX11_isRight_82 : decode cX11_isRight 82 = .ok (.invokestatic 84, 3) := by decide +kernel
theorem dX11_isRight_85 : decode cX11_isRight 85 = .ok (.ireturn, 1) := by decide +kernel
theorem dX11_isRight_86 : decode cX11_isRight 86 = .ok (.lload_n 1, 1) := by decide +kernel
theorem dX11_isRight_87 : decode cX11_isRight 87 = .ok (.lconst 0, 1) := by decide +kernel
theorem dX11_isRight_88 : decode cX11_isRight 88 = .ok (.ldc2_w 92, 3) := by decide +kernel
theorem dX11_isRight_91 : decode cX11_isRight 91 = .ok (.invokestatic 84, 3) := by decide +kernel
theorem dX11_isRight_94 : decode cX11_isRight 94 = .ok (.ireturn, 1) := by decide +kernel
theorem dX11_isRight_95 : decode cX11_isRight 95 = .ok (.lload_n 1, 1) := by decide +kernel
theorem dX11_isRight_96 : decode cX11_isRight 96 = .ok (.lconst 0, 1) := by decide +kernel
theorem dX11_isRight_97 : decode cX11_isRight 97 = .ok (.ldc2_w 94, 3) := by decide +kernel
theorem dX11_isRight_100 : decode cX11_isRight 100 = .ok (.invokestatic 84, 3) := by decide +kernel
theorem dX11_isRight_103 : decode cX11_isRight 103 = .ok (.ireturn, 1) := by decide +kernel
theorem dX11_isRight_104 : decode cX11_isRight 104 = .ok (.iconst 1, 1) := by decide +kernel
theorem dX11_isRight_105 : decode cX11_isRight 105 = .ok (.ireturn, 1) := by decide +kernel
theorem dX11_instruction_0 : decode cX11_instruction 0 = .ok (.aload_n 0, 1) := by decide +kernel
theorem dX11_instruction_1 : decode cX11_instruction 1 = .ok (.iload_n 1, 1) := by decide +kernel
theorem dX11_instruction_2 : decode cX11_instruction 2 = .ok (.invokevirtual 96, 3) := by decide +kernel
theorem dX11_instruction_5 : decode cX11_instruction 5 = .ok (.ifCond .eq 49, 3) := by decide +kernel
theorem dX11_instruction_8 : decode cX11_instruction 8 = .ok (.iload_n 2, 1) := by decide +kernel
theorem dX11_instruction_9 : decode cX11_instruction 9 = .ok (.i2l, 1) := by decide +kernel
theorem dX11_instruction_10 : decode cX11_instruction 10 = .ok (.lconst 0, 1) := by decide +kernel
theorem dX11_instruction_11 : decode cX11_instruction 11 = .ok (.ldc2_w 100, 3) := by decide +kernel
theorem dX11_instruction_14 : decode cX11_instruction 14 = .ok (.invokestatic 84, 3) := by decide +kernel
theorem dX11_instruction_17 : decode cX11_instruction 17 = .ok (.ifCond .eq 37, 3) := by decide +kernel
theorem dX11_instruction_20 : decode cX11_instruction 20 = .ok (.iload_n 3, 1) := by decide +kernel
theorem dX11_instruction_21 : decode cX11_instruction 21 = .ok (.i2l, 1) := by decide +kernel
theorem dX11_instruction_22 : decode cX11_instruction 22 = .ok (.lconst 0, 1) := by decide +kernel
theorem dX11_instruction_23 : decode cX11_instruction 23 = .ok (.ldc2_w 102, 3) := by decide +kernel
theorem dX11_instruction_26 : decode cX11_instruction 26 = .ok (.invokestatic 84, 3) := by decide +kernel
theorem dX11_instruction_29 : decode cX11_instruction 29 = .ok (.ifCond .eq 25, 3) := by decide +kernel
theorem dX11_instruction_32 : decode cX11_instruction 32 = .ok (.iload 4, 2) := by decide +kernel
theorem dX11_instruction_34 : decode cX11_instruction 34 = .ok (.i2l, 1) := by decide +kernel
theorem dX11_instruction_35 : decode cX11_instruction 35 = .ok (.lconst 0, 1) := by decide +kernel
theorem dX11_instruction_36 : decode cX11_instruction 36 = .ok (.ldc2_w 102, 3) := by decide +kernel
theorem dX11_instruction_39 : decode cX11_instruction 39 = .ok (.invokestatic 84, 3) := by decide +kernel
theorem dX11_instruction_42 : decode cX11_instruction 42 = .ok (.ifCond .eq 12, 3) := by decide +kernel
theorem dX11_instruction_45 : decode cX11_instruction 45 = .ok (.iload_n 2, 1) := by decide +kernel
theorem dX11_instruction_46 : decode cX11_instruction 46 = .ok (.lload 5, 2) := by decide +kernel
theorem dX11_instruction_48 : decode cX11_instruction 48 = .ok (.invokestatic 104, 3) := by decide +kernel
theorem dX11_instruction_51 : decode cX11_instruction 51 = .ok (.ifCond .ne 6, 3) := by decide +kernel
theorem dX11_instruction_54 : decode cX11_instruction 54 = .ok (.bipush (-2), 2) := by decide +kernel
theorem dX11_instruction_56 : decode cX11_instruction 56 = .ok (.ireturn, 1) := by decide +kernel
theorem dX11_instruction_57 : decode cX11_instruction 57 = .ok (.aload_n 0, 1) := by decide +kernel
theorem dX11_instruction_58 : decode cX11_instruction 58 = .ok (.getfield 7, 3) := by decide +kernel
theorem dX11_instruction_61 : decode cX11_instruction 61 = .ok (.iload_n 1, 1) := by decide +kernel
theorem dX11_instruction_62 : decode cX11_instruction 62 = .ok (.iaload, 1) := by decide +kernel
theorem dX11_instruction_63 : decode cX11_instruction 63 = .ok (.bipush 40, 2) := by decide +kernel
theorem dX11_instruction_65 : decode cX11_instruction 65 = .ok (.if_icmp .ne 6, 3) := by decide +kernel
theorem dX11_instruction_68 : decode cX11_instruction 68 = .ok (.bipush (-3), 2) := by decide +kernel
theorem dX11_instruction_70 : decode cX11_instruction 70 = .ok (.ireturn, 1) := by decide +kernel
theorem dX11_instruction_71 : decode cX11_instruction 71 = .ok (.bipush 40, 2) := by decide +kernel
theorem dX11_instruction_73 : decode cX11_instruction 73 = .ok (.iload_n 1, 1) := by decide +kernel
theorem dX11_instruction_74 : decode cX11_instruction 74 = .ok (.imul, 1) := by decide +kernel
theorem dX11_instruction_75 : decode cX11_instruction 75 = .ok (.aload_n 0, 1) := by decide +kernel
theorem dX11_instruction_76 : decode cX11_instruction 76 = .ok (.getfield 7, 3) := by decide +kernel
theorem dX11_instruction_79 : decode cX11_instruction 79 = .ok (.iload_n 1, 1) := by decide +kernel
theorem dX11_instruction_80 : decode cX11_instruction 80 = .ok (.iaload, 1) := by decide +kernel
theorem dX11_instruction_81 : decode cX11_instruction 81 = .ok (.iadd, 1) := by decide +kernel
theorem dX11_instruction_82 : decode cX11_instruction 82 = .ok (.istore 7, 2) := by decide +kernel
theorem dX11_instruction_84 : decode cX11_instruction 84 = .ok (.aload_n 0, 1) := by decide +kernel
theorem dX11_instruction_85 : decode cX11_instruction 85 = .ok (.getfield 13, 3) := by decide +kernel
theorem dX11_instruction_88 : decode cX11_instruction 88 = .ok (.iload 7, 2) := by decide +kernel
theorem dX11_instruction_90 : decode cX11_instruction 90 = .ok (.iload_n 2, 1) := by decide +kernel
theorem dX11_instruction_91 : decode cX11_instruction 91 = .ok (.iastore, 1) := by decide +kernel
theorem dX11_instruction_92 : decode cX11_instruction 92 = .ok (.aload_n 0, 1) := by decide +kernel
theorem dX11_instruction_93 : decode cX11_instruction 93 = .ok (.getfield 16, 3) := by decide +kernel
theorem dX11_instruction_96 : decode cX11_instruction 96 = .ok (.iload 7, 2) := by decide +kernel
theorem dX11_instruction_98 : decode cX11_instruction 98 = .ok (.iload_n 3, 1) := by decide +kernel
theorem dX11_instruction_99 : decode cX11_instruction 99 = .ok (.iastore, 1) := by decide +kernel
theorem dX11_instruction_100 : decode cX11_instruction 100 = .ok (.aload_n 0, 1) := by decide +kernel
theorem dX11_instruction_101 : decode cX11_instruction 101 = .ok (.getfield 19, 3) := by decide +kernel
theorem dX11_instruction_104 : decode cX11_instruction 104 = .ok (.iload 7, 2) := by decide +kernel
theorem dX11_instruction_106 : decode cX11_instruction 106 = .ok (.iload 4, 2) := by decide +kernel
theorem dX11_instruction_108 : decode cX11_instruction 108 = .ok (.iastore, 1) := by decide +kernel
theorem dX11_instruction_109 : decode cX11_instruction 109 = .ok (.aload_n 0, 1) := by decide +kernel
theorem dX11_instruction_110 : decode cX11_instruction 110 = .ok (.getfield 22, 3) := by decide +kernel
theorem dX11_instruction_113 : decode cX11_instruction 113 = .ok (.iload 7, 2) := by decide +kernel
theorem dX11_instruction_115 : decode cX11_instruction 115 = .ok (.lload 5, 2) := by decide +kernel
theorem dX11_instruction_117 : decode cX11_instruction 117 = .ok (.lastore, 1) := by decide +kernel
theorem dX11_instruction_118 : decode cX11_instruction 118 = .ok (.aload_n 0, 1) := by decide +kernel
theorem dX11_instruction_119 : decode cX11_instruction 119 = .ok (.getfield 7, 3) := by decide +kernel
theorem dX11_instruction_122 : decode cX11_instruction 122 = .ok (.iload_n 1, 1) := by decide +kernel
theorem dX11_instruction_123 : decode cX11_instruction 123 = .ok (.dup2, 1) := by decide +kernel
theorem dX11_instruction_124 : decode cX11_instruction 124 = .ok (.iaload, 1) := by decide +kernel
theorem dX11_instruction_125 : decode cX11_instruction 125 = .ok (.iconst 1, 1) := by decide +kernel
theorem dX11_instruction_126 : decode cX11_instruction 126 = .ok (.iadd, 1) := by decide +kernel
theorem dX11_instruction_127 : decode cX11_instruction 127 = .ok (.iastore, 1) := by decide +kernel
theorem dX11_instruction_128 : decode cX11_instruction 128 = .ok (.aload_n 0, 1) := by decide +kernel
theorem dX11_instruction_129 : decode cX11_instruction 129 = .ok (.getfield 7, 3) := by decide +kernel
theorem dX11_instruction_132 : decode cX11_instruction 132 = .ok (.iload_n 1, 1) := by decide +kernel
theorem dX11_instruction_133 : decode cX11_instruction 133 = .ok (.iaload, 1) := by decide +kernel
theorem dX11_instruction_134 : decode cX11_instruction 134 = .ok (.iconst 1, 1) := by decide +kernel
theorem dX11_instruction_135 : decode cX11_instruction 135 = .ok (.isub, 1) := by decide +kernel
theorem dX11_instruction_136 : decode cX11_instruction 136 = .ok (.ireturn, 1) := by decide +kernel
theorem dX11_handler_0 : decode cX11_handler 0 = .ok (.aload_n 0, 1) := by decide +kernel
theorem dX11_handler_1 : decode cX11_handler 1 = .ok (.iload_n 1, 1) := by decide +kernel
theorem dX11_handler_2 : decode cX11_handler 2 = .ok (.invokevirtual 96, 3) := by decide +kernel
theorem dX11_handler_5 : decode cX11_handler 5 = .ok (.ifCond .eq 49, 3) := by decide +kernel
theorem dX11_handler_8 : decode cX11_handler 8 = .ok (.iload_n 2, 1) := by decide +kernel
theorem dX11_handler_9 : decode cX11_handler 9 = .ok (.i2l, 1) := by decide +kernel
theorem dX11_handler_10 : decode cX11_handler 10 = .ok (.lconst 0, 1) := by decide +kernel
theorem dX11_handler_11 : decode cX11_handler 11 = .ok (.ldc2_w 88, 3) := by decide +kernel
theorem dX11_handler_14 : decode cX11_handler 14 = .ok (.invokestatic 84, 3) := by decide +kernel
theorem dX11_handler_17 : decode cX11_handler 17 = .ok (.ifCond .eq 37, 3) := by decide +kernel
theorem dX11_handler_20 : decode cX11_handler 20 = .ok (.iload_n 3, 1) := by decide +kernel
theorem dX11_handler_21 : decode cX11_handler 21 = .ok (.i2l, 1) := by decide +kernel
theorem dX11_handler_22 : decode cX11_handler 22 = .ok (.lconst 0, 1) := by decide +kernel
theorem dX11_handler_23 : decode cX11_handler 23 = .ok (.ldc2_w 88, 3) := by decide +kernel
theorem dX11_handler_26 : decode cX11_handler 26 = .ok (.invokestatic 84, 3) := by decide +kernel
theorem dX11_handler_29 : decode cX11_handler 29 = .ok (.ifCond .eq 25, 3) := by decide +kernel
theorem dX11_handler_32 : decode cX11_handler 32 = .ok (.iload 4, 2) := by decide +kernel
theorem dX11_handler_34 : decode cX11_handler 34 = .ok (.i2l, 1) := by decide +kernel
theorem dX11_handler_35 : decode cX11_handler 35 = .ok (.lconst 0, 1) := by decide +kernel
theorem dX11_handler_36 : decode cX11_handler 36 = .ok (.ldc2_w 88, 3) := by decide +kernel
theorem dX11_handler_39 : decode cX11_handler 39 = .ok (.invokestatic 84, 3) := by decide +kernel
theorem dX11_handler_42 : decode cX11_handler 42 = .ok (.ifCond .eq 12, 3) := by decide +kernel
theorem dX11_handler_45 : decode cX11_handler 45 = .ok (.iload 5, 2) := by decide +kernel
theorem dX11_handler_47 : decode cX11_handler 47 = .ok (.sipush (-511), 3) := by decide +kernel
theorem dX11_handler_50 : decode cX11_handler 50 = .ok (.iand, 1) := by decide +kernel
theorem dX11_handler_51 : decode cX11_handler 51 = .ok (.ifCond .eq 6, 3) := by decide +kernel
theorem dX11_handler_54 : decode cX11_handler 54 = .ok (.bipush (-2), 2) := by decide +kernel
theorem dX11_handler_56 : decode cX11_handler 56 = .ok (.ireturn, 1) := by decide +kernel
theorem dX11_handler_57 : decode cX11_handler 57 = .ok (.aload_n 0, 1) := by decide +kernel
theorem dX11_handler_58 : decode cX11_handler 58 = .ok (.getfield 26, 3) := by decide +kernel
theorem dX11_handler_61 : decode cX11_handler 61 = .ok (.iload_n 1, 1) := by decide +kernel
theorem dX11_handler_62 : decode cX11_handler 62 = .ok (.iaload, 1) := by decide +kernel
theorem dX11_handler_63 : decode cX11_handler 63 = .ok (.iconst 4, 1) := by decide +kernel
theorem dX11_handler_64 : decode cX11_handler 64 = .ok (.if_icmp .ne 6, 3) := by decide +kernel
theorem dX11_handler_67 : decode cX11_handler 67 = .ok (.bipush (-3), 2) := by decide +kernel
theorem dX11_handler_69 : decode cX11_handler 69 = .ok (.ireturn, 1) := by decide +kernel
theorem dX11_handler_70 : decode cX11_handler 70 = .ok (.iconst 4, 1) := by decide +kernel
theorem dX11_handler_71 : decode cX11_handler 71 = .ok (.iload_n 1, 1) := by decide +kernel
theorem dX11_handler_72 : decode cX11_handler 72 = .ok (.imul, 1) := by decide +kernel
theorem dX11_handler_73 : decode cX11_handler 73 = .ok (.aload_n 0, 1) := by decide +kernel
theorem dX11_handler_74 : decode cX11_handler 74 = .ok (.getfield 26, 3) := by decide +kernel
theorem dX11_handler_77 : decode cX11_handler 77 = .ok (.iload_n 1, 1) := by decide +kernel
theorem dX11_handler_78 : decode cX11_handler 78 = .ok (.iaload, 1) := by decide +kernel
theorem dX11_handler_79 : decode cX11_handler 79 = .ok (.iadd, 1) := by decide +kernel
theorem dX11_handler_80 : decode cX11_handler 80 = .ok (.istore 6, 2) := by decide +kernel
theorem dX11_handler_82 : decode cX11_handler 82 = .ok (.aload_n 0, 1) := by decide +kernel
theorem dX11_handler_83 : decode cX11_handler 83 = .ok (.getfield 29, 3) := by decide +kernel
theorem dX11_handler_86 : decode cX11_handler 86 = .ok (.iload 6, 2) := by decide +kernel
theorem dX11_handler_88 : decode cX11_handler 88 = .ok (.iload_n 2, 1) := by decide +kernel
theorem dX11_handler_89 : decode cX11_handler 89 = .ok (.iastore, 1) := by decide +kernel
theorem dX11_handler_90 : decode cX11_handler 90 = .ok (.aload_n 0, 1) := by decide +kernel
theorem dX11_handler_91 : decode cX11_handler 91 = .ok (.getfield 32, 3) := by decide +kernel
theorem dX11_handler_94 : decode cX11_handler 94 = .ok (.iload 6, 2) := by decide +kernel
theorem dX11_handler_96 : decode cX11_handler 96 = .ok (.iload_n 3, 1) := by decide +kernel
theorem dX11_handler_97 : decode cX11_handler 97 = .ok (.iastore, 1) := by decide +kernel
theorem dX11_handler_98 : decode cX11_handler 98 = .ok (.aload_n 0, 1) := by decide +kernel
theorem dX11_handler_99 : decode cX11_handler 99 = .ok (.getfield 35, 3) := by decide +kernel
theorem dX11_handler_102 : decode cX11_handler 102 = .ok (.iload 6, 2) := by decide +kernel
theorem dX11_handler_104 : decode cX11_handler 104 = .ok (.iload 4, 2) := by decide +kernel
theorem dX11_handler_106 : decode cX11_handler 106 = .ok (.iastore, 1) := by decide +kernel
theorem dX11_handler_107 : decode cX11_handler 107 = .ok (.aload_n 0, 1) := by decide +kernel
theorem dX11_handler_108 : decode cX11_handler 108 = .ok (.getfield 38, 3) := by decide +kernel
theorem dX11_handler_111 : decode cX11_handler 111 = .ok (.iload 6, 2) := by decide +kernel
theorem dX11_handler_113 : decode cX11_handler 113 = .ok (.iload 5, 2) := by decide +kernel
theorem dX11_handler_115 : decode cX11_handler 115 = .ok (.iastore, 1) := by decide +kernel
theorem dX11_handler_116 : decode cX11_handler 116 = .ok (.aload_n 0, 1) := by decide +kernel
theorem dX11_handler_117 : decode cX11_handler 117 = .ok (.getfield 26, 3) := by decide +kernel
theorem dX11_handler_120 : decode cX11_handler 120 = .ok (.iload_n 1, 1) := by decide +kernel
theorem dX11_handler_121 : decode cX11_handler 121 = .ok (.dup2, 1) := by decide +kernel
theorem dX11_handler_122 : decode cX11_handler 122 = .ok (.iaload, 1) := by decide +kernel
theorem dX11_handler_123 : decode cX11_handler 123 = .ok (.iconst 1, 1) := by decide +kernel
theorem dX11_handler_124 : decode cX11_handler 124 = .ok (.iadd, 1) := by decide +kernel
theorem dX11_handler_125 : decode cX11_handler 125 = .ok (.iastore, 1) := by decide +kernel
theorem dX11_handler_126 : decode cX11_handler 126 = .ok (.aload_n 0, 1) := by decide +kernel
theorem dX11_handler_127 : decode cX11_handler 127 = .ok (.getfield 26, 3) := by decide +kernel
theorem dX11_handler_130 : decode cX11_handler 130 = .ok (.iload_n 1, 1) := by decide +kernel
theorem dX11_handler_131 : decode cX11_handler 131 = .ok (.iaload, 1) := by decide +kernel
theorem dX11_handler_132 : decode cX11_handler 132 = .ok (.iconst 1, 1) := by decide +kernel
theorem dX11_handler_133 : decode cX11_handler 133 = .ok (.isub, 1) := by decide +kernel
theorem dX11_handler_134 : decode cX11_handler 134 = .ok (.ireturn, 1) := by decide +kernel
theorem dX11_clear_0 : decode cX11_clear 0 = .ok (.aload_n 0, 1) := by decide +kernel
theorem dX11_clear_1 : decode cX11_clear 1 = .ok (.getfield 80, 3) := by decide +kernel
theorem dX11_clear_4 : decode cX11_clear 4 = .ok (.istore_n 1, 1) := by decide +kernel
theorem dX11_clear_5 : decode cX11_clear 5 = .ok (.aload_n 0, 1) := by decide +kernel
theorem dX11_clear_6 : decode cX11_clear 6 = .ok (.iconst 0, 1) := by decide +kernel
theorem dX11_clear_7 : decode cX11_clear 7 = .ok (.putfield 80, 3) := by decide +kernel
theorem dX11_clear_10 : decode cX11_clear 10 = .ok (.iload_n 1, 1) := by decide +kernel
theorem dX11_clear_11 : decode cX11_clear 11 = .ok (.ireturn, 1) := by decide +kernel
theorem dX11_lesser_0 : decode cX11_lesser 0 = .ok (.iload_n 0, 1) := by decide +kernel
theorem dX11_lesser_1 : decode cX11_lesser 1 = .ok (.iload_n 1, 1) := by decide +kernel
theorem dX11_lesser_2 : decode cX11_lesser 2 = .ok (.if_icmp .ge 7, 3) := by decide +kernel
theorem dX11_lesser_5 : decode cX11_lesser 5 = .ok (.iload_n 0, 1) := by decide +kernel
theorem dX11_lesser_6 : decode cX11_lesser 6 = .ok (.goto 4, 3) := by decide +kernel
theorem dX11_lesser_9 : decode cX11_lesser 9 = .ok (.iload_n 1, 1) := by decide +kernel
theorem dX11_lesser_10 : decode cX11_lesser 10 = .ok (.ireturn, 1) := by decide +kernel
theorem dX11_isBack_0 : decode cX11_isBack 0 = .ok (.bipush 40, 2) := by decide +kernel
theorem dX11_isBack_2 : decode cX11_isBack 2 = .ok (.iload_n 1, 1) := by decide +kernel
theorem dX11_isBack_3 : decode cX11_isBack 3 = .ok (.imul, 1) := by decide +kernel
theorem dX11_isBack_4 : decode cX11_isBack 4 = .ok (.iload_n 2, 1) := by decide +kernel
theorem dX11_isBack_5 : decode cX11_isBack 5 = .ok (.iadd, 1) := by decide +kernel
theorem dX11_isBack_6 : decode cX11_isBack 6 = .ok (.istore_n 3, 1) := by decide +kernel
theorem dX11_isBack_7 : decode cX11_isBack 7 = .ok (.aload_n 0, 1) := by decide +kernel
theorem dX11_isBack_8 : decode cX11_isBack 8 = .ok (.getfield 13, 3) := by decide +kernel
theorem dX11_isBack_11 : decode cX11_isBack 11 = .ok (.iload_n 3, 1) := by decide +kernel
theorem dX11_isBack_12 : decode cX11_isBack 12 = .ok (.iaload, 1) := by decide +kernel
theorem dX11_isBack_13 : decode cX11_isBack 13 = .ok (.bipush 6, 2) := by decide +kernel
theorem dX11_isBack_15 : decode cX11_isBack 15 = .ok (.if_icmp .eq 14, 3) := by decide +kernel
theorem dX11_isBack_18 : decode cX11_isBack 18 = .ok (.aload_n 0, 1) := by decide +kernel
theorem dX11_isBack_19 : decode cX11_isBack 19 = .ok (.getfield 13, 3) := by decide +kernel
theorem dX11_isBack_22 : decode cX11_isBack 22 = .ok (.iload_n 3, 1) := by decide +kernel
theorem dX11_isBack_23 : decode cX11_isBack 23 = .ok (.iaload, 1) := by decide +kernel
theorem dX11_isBack_24 : decode cX11_isBack 24 = .ok (.bipush 7, 2) := by decide +kernel
theorem dX11_isBack_26 : decode cX11_isBack 26 = .ok (.if_icmp .ne 19, 3) := by decide +kernel
theorem dX11_isBack_29 : decode cX11_isBack 29 = .ok (.aload_n 0, 1) := by decide +kernel
theorem dX11_isBack_30 : decode cX11_isBack 30 = .ok (.getfield 22, 3) := by decide +kernel
theorem dX11_isBack_33 : decode cX11_isBack 33 = .ok (.iload_n 3, 1) := by decide +kernel
theorem dX11_isBack_34 : decode cX11_isBack 34 = .ok (.laload, 1) := by decide +kernel
theorem dX11_isBack_35 : decode cX11_isBack 35 = .ok (.iload_n 2, 1) := by decide +kernel
theorem dX11_isBack_36 : decode cX11_isBack 36 = .ok (.i2l, 1) := by decide +kernel
theorem dX11_isBack_37 : decode cX11_isBack 37 = .ok (.lcmp, 1) := by decide +kernel
theorem dX11_isBack_38 : decode cX11_isBack 38 = .ok (.ifCond .gt 7, 3) := by decide +kernel
theorem dX11_isBack_41 : decode cX11_isBack 41 = .ok (.iconst 1, 1) := by decide +kernel
theorem dX11_isBack_42 : decode cX11_isBack 42 = .ok (.goto 4, 3) := by decide +kernel
theorem dX11_isBack_45 : decode cX11_isBack 45 = .ok (.iconst 0, 1) := by decide +kernel
theorem dX11_isBack_46 : decode cX11_isBack 46 = .ok (.ireturn, 1) := by decide +kernel
theorem dX11_countOf_0 : decode cX11_countOf 0 = .ok (.iconst 2, 1) := by decide +kernel
theorem dX11_countOf_1 : decode cX11_countOf 1 = .ok (.aload_n 0, 1) := by decide +kernel
theorem dX11_countOf_2 : decode cX11_countOf 2 = .ok (.getfield 7, 3) := by decide +kernel
theorem dX11_countOf_5 : decode cX11_countOf 5 = .ok (.iload_n 1, 1) := by decide +kernel
theorem dX11_countOf_6 : decode cX11_countOf 6 = .ok (.iaload, 1) := by decide +kernel
theorem dX11_countOf_7 : decode cX11_countOf 7 = .ok (.iadd, 1) := by decide +kernel
theorem dX11_countOf_8 : decode cX11_countOf 8 = .ok (.iconst 2, 1) := by decide +kernel
theorem dX11_countOf_9 : decode cX11_countOf 9 = .ok (.aload_n 0, 1) := by decide +kernel
theorem dX11_countOf_10 : decode cX11_countOf 10 = .ok (.getfield 26, 3) := by decide +kernel
theorem dX11_countOf_13 : decode cX11_countOf 13 = .ok (.iload_n 1, 1) := by decide +kernel
theorem dX11_countOf_14 : decode cX11_countOf 14 = .ok (.iaload, 1) := by decide +kernel
theorem dX11_countOf_15 : decode cX11_countOf 15 = .ok (.imul, 1) := by decide +kernel
theorem dX11_countOf_16 : decode cX11_countOf 16 = .ok (.iadd, 1) := by decide +kernel
theorem dX11_countOf_17 : decode cX11_countOf 17 = .ok (.istore_n 2, 1) := by decide +kernel
theorem dX11_countOf_18 : decode cX11_countOf 18 = .ok (.iconst 0, 1) := by decide +kernel
theorem dX11_countOf_19 : decode cX11_countOf 19 = .ok (.istore_n 3, 1) := by decide +kernel
theorem dX11_countOf_20 : decode cX11_countOf 20 = .ok (.iload_n 3, 1) := by decide +kernel
theorem dX11_countOf_21 : decode cX11_countOf 21 = .ok (.aload_n 0, 1) := by decide +kernel
theorem dX11_countOf_22 : decode cX11_countOf 22 = .ok (.getfield 7, 3) := by decide +kernel
theorem dX11_countOf_25 : decode cX11_countOf 25 = .ok (.iload_n 1, 1) := by decide +kernel
theorem dX11_countOf_26 : decode cX11_countOf 26 = .ok (.iaload, 1) := by decide +kernel
theorem dX11_countOf_27 : decode cX11_countOf 27 = .ok (.if_icmp .ge 50, 3) := by decide +kernel
theorem dX11_countOf_30 : decode cX11_countOf 30 = .ok (.iload_n 2, 1) := by decide +kernel
theorem dX11_countOf_31 : decode cX11_countOf 31 = .ok (.aload_n 0, 1) := by decide +kernel
theorem dX11_countOf_32 : decode cX11_countOf 32 = .ok (.getfield 13, 3) := by decide +kernel
theorem dX11_countOf_35 : decode cX11_countOf 35 = .ok (.bipush 40, 2) := by decide +kernel
theorem dX11_countOf_37 : decode cX11_countOf 37 = .ok (.iload_n 1, 1) := by decide +kernel
theorem dX11_countOf_38 : decode cX11_countOf 38 = .ok (.imul, 1) := by decide +kernel
theorem dX11_countOf_39 : decode cX11_countOf 39 = .ok (.iload_n 3, 1) := by decide +kernel
theorem dX11_countOf_40 : decode cX11_countOf 40 = .ok (.iadd, 1) := by decide +kernel
theorem dX11_countOf_41 : decode cX11_countOf 41 = .ok (.iaload, 1) := by decide +kernel
theorem dX11_countOf_42 : decode cX11_countOf 42 = .ok (.bipush 8, 2) := by decide +kernel
theorem dX11_countOf_44 : decode cX11_countOf 44 = .ok (.if_icmp .ne 7, 3) := by decide +kernel
theorem dX11_countOf_47 : decode cX11_countOf 47 = .ok (.iconst 1, 1) := by decide +kernel
theorem dX11_countOf_48 : decode cX11_countOf 48 = .ok (.goto 4, 3) := by decide +kernel
theorem dX11_countOf_51 : decode cX11_countOf 51 = .ok (.iconst 0, 1) := by decide +kernel
theorem dX11_countOf_52 : decode cX11_countOf 52 = .ok (.iadd, 1) := by decide +kernel
theorem dX11_countOf_53 : decode cX11_countOf 53 = .ok (.istore_n 2, 1) := by decide +kernel
theorem dX11_countOf_54 : decode cX11_countOf 54 = .ok (.iload_n 2, 1) := by decide +kernel
theorem dX11_countOf_55 : decode cX11_countOf 55 = .ok (.aload_n 0, 1) := by decide +kernel
theorem dX11_countOf_56 : decode cX11_countOf 56 = .ok (.iload_n 1, 1) := by decide +kernel
theorem dX11_countOf_57 : decode cX11_countOf 57 = .ok (.iload_n 3, 1) := by decide +kernel
theorem dX11_countOf_58 : decode cX11_countOf 58 = .ok (.invokevirtual 108, 3) := by decide +kernel
theorem dX11_countOf_61 : decode cX11_countOf 61 = .ok (.ifCond .eq 7, 3) := by decide +kernel
theorem dX11_countOf_64 : decode cX11_countOf 64 = .ok (.iconst 2, 1) := by decide +kernel
theorem dX11_countOf_65 : decode cX11_countOf 65 = .ok (.goto 4, 3) := by decide +kernel
theorem dX11_countOf_68 : decode cX11_countOf 68 = .ok (.iconst 0, 1) := by decide +kernel
theorem dX11_countOf_69 : decode cX11_countOf 69 = .ok (.iadd, 1) := by decide +kernel
theorem dX11_countOf_70 : decode cX11_countOf 70 = .ok (.istore_n 2, 1) := by decide +kernel
theorem dX11_countOf_71 : decode cX11_countOf 71 = .ok (.iinc 3 1, 3) := by decide +kernel
theorem dX11_countOf_74 : decode cX11_countOf 74 = .ok (.goto (-54), 3) := by decide +kernel
theorem dX11_countOf_77 : decode cX11_countOf 77 = .ok (.iload_n 2, 1) := by decide +kernel
theorem dX11_countOf_78 : decode cX11_countOf 78 = .ok (.ireturn, 1) := by decide +kernel
theorem dX11_isLarge_0 : decode cX11_isLarge 0 = .ok (.aload_n 0, 1) := by decide +kernel
theorem dX11_isLarge_1 : decode cX11_isLarge 1 = .ok (.iload_n 1, 1) := by decide +kernel
theorem dX11_isLarge_2 : decode cX11_isLarge 2 = .ok (.invokevirtual 112, 3) := by decide +kernel
theorem dX11_isLarge_5 : decode cX11_isLarge 5 = .ok (.bipush 70, 2) := by decide +kernel
theorem dX11_isLarge_7 : decode cX11_isLarge 7 = .ok (.if_icmp .le 7, 3) := by decide +kernel
theorem dX11_isLarge_10 : decode cX11_isLarge 10 = .ok (.iconst 1, 1) := by decide +kernel
theorem dX11_isLarge_11 : decode cX11_isLarge 11 = .ok (.goto 4, 3) := by decide +kernel
theorem dX11_isLarge_14 : decode cX11_isLarge 14 = .ok (.iconst 0, 1) := by decide +kernel
theorem dX11_isLarge_15 : decode cX11_isLarge 15 = .ok (.ireturn, 1) := by decide +kernel
theorem dX11_beginOf_0 : decode cX11_beginOf 0 = .ok (.iconst 1, 1) := by decide +kernel
theorem dX11_beginOf_1 : decode cX11_beginOf 1 = .ok (.istore_n 3, 1) := by decide +kernel
theorem dX11_beginOf_2 : decode cX11_beginOf 2 = .ok (.iload_n 2, 1) := by decide +kernel
theorem dX11_beginOf_3 : decode cX11_beginOf 3 = .ok (.aload_n 0, 1) := by decide +kernel
theorem dX11_beginOf_4 : decode cX11_beginOf 4 = .ok (.getfield 7, 3) := by decide +kernel
theorem dX11_beginOf_7 : decode cX11_beginOf 7 = .ok (.iload_n 1, 1) := by decide +kernel
theorem dX11_beginOf_8 : decode cX11_beginOf 8 = .ok (.iaload, 1) := by decide +kernel
theorem dX11_beginOf_9 : decode cX11_beginOf 9 = .ok (.invokestatic 116, 3) := by decide +kernel
theorem dX11_beginOf_12 : decode cX11_beginOf 12 = .ok (.istore 4, 2) := by decide +kernel
theorem dX11_beginOf_14 : decode cX11_beginOf 14 = .ok (.iconst 0, 1) := by decide +kernel
theorem dX11_beginOf_15 : decode cX11_beginOf 15 = .ok (.istore 5, 2) := by decide +kernel
theorem dX11_beginOf_17 : decode cX11_beginOf 17 = .ok (.iload 5, 2) := by decide +kernel
theorem dX11_beginOf_19 : decode cX11_beginOf 19 = .ok (.iload 4, 2) := by decide +kernel
theorem dX11_beginOf_21 : decode cX11_beginOf 21 = .ok (.if_icmp .ge 34, 3) := by decide +kernel
theorem dX11_beginOf_24 : decode cX11_beginOf 24 = .ok (.iload_n 3, 1) := by decide +kernel
theorem dX11_beginOf_25 : decode cX11_beginOf 25 = .ok (.aload_n 0, 1) := by decide +kernel
theorem dX11_beginOf_26 : decode cX11_beginOf 26 = .ok (.getfield 13, 3) := by decide +kernel
theorem dX11_beginOf_29 : decode cX11_beginOf 29 = .ok (.bipush 40, 2) := by decide +kernel
theorem dX11_beginOf_31 : decode cX11_beginOf 31 = .ok (.iload_n 1, 1) := by decide +kernel
theorem dX11_beginOf_32 : decode cX11_beginOf 32 = .ok (.imul, 1) := by decide +kernel
theorem dX11_beginOf_33 : decode cX11_beginOf 33 = .ok (.iload 5, 2) := by decide +kernel
theorem dX11_beginOf_35 : decode cX11_beginOf 35 = .ok (.iadd, 1) := by decide +kernel
theorem dX11_beginOf_36 : decode cX11_beginOf 36 = .ok (.iaload, 1) := by decide +kernel
theorem dX11_beginOf_37 : decode cX11_beginOf 37 = .ok (.bipush 8, 2) := by decide +kernel
theorem dX11_beginOf_39 : decode cX11_beginOf 39 = .ok (.if_icmp .ne 7, 3) := by decide +kernel
theorem dX11_beginOf_42 : decode cX11_beginOf 42 = .ok (.iconst 2, 1) := by decide +kernel
theorem dX11_beginOf_43 : decode cX11_beginOf 43 = .ok (.goto 4, 3) := by decide +kernel
theorem dX11_beginOf_46 : decode cX11_beginOf 46 = .ok (.iconst 1, 1) := by decide +kernel
theorem dX11_beginOf_47 : decode cX11_beginOf 47 = .ok (.iadd, 1) := by decide +kernel
theorem dX11_beginOf_48 : decode cX11_beginOf 48 = .ok (.istore_n 3, 1) := by decide +kernel
theorem dX11_beginOf_49 : decode cX11_beginOf 49 = .ok (.iinc 5 1, 3) := by decide +kernel
theorem dX11_beginOf_52 : decode cX11_beginOf 52 = .ok (.goto (-35), 3) := by decide +kernel
theorem dX11_beginOf_55 : decode cX11_beginOf 55 = .ok (.iload_n 3, 1) := by decide +kernel
theorem dX11_beginOf_56 : decode cX11_beginOf 56 = .ok (.ireturn, 1) := by decide +kernel
theorem dX11_lay_0 : decode cX11_lay 0 = .ok (.aload_n 0, 1) := by decide +kernel
theorem dX11_lay_1 : decode cX11_lay 1 = .ok (.getfield 71, 3) := by decide +kernel
theorem dX11_lay_4 : decode cX11_lay 4 = .ok (.aload_n 0, 1) := by decide +kernel
theorem dX11_lay_5 : decode cX11_lay 5 = .ok (.getfield 120, 3) := by decide +kernel
theorem dX11_lay_8 : decode cX11_lay 8 = .ok (.iload_n 1, 1) := by decide +kernel
theorem dX11_lay_9 : decode cX11_lay 9 = .ok (.iastore, 1) := by decide +kernel
theorem dX11_lay_10 : decode cX11_lay 10 = .ok (.aload_n 0, 1) := by decide +kernel
theorem dX11_lay_11 : decode cX11_lay 11 = .ok (.getfield 74, 3) := by decide +kernel
theorem dX11_lay_14 : decode cX11_lay 14 = .ok (.aload_n 0, 1) := by decide +kernel
theorem dX11_lay_15 : decode cX11_lay 15 = .ok (.getfield 120, 3) := by decide +kernel
theorem dX11_lay_18 : decode cX11_lay 18 = .ok (.iload_n 2, 1) := by decide +kernel
theorem dX11_lay_19 : decode cX11_lay 19 = .ok (.iastore, 1) := by decide +kernel
theorem dX11_lay_20 : decode cX11_lay 20 = .ok (.aload_n 0, 1) := by decide +kernel
theorem dX11_lay_21 : decode cX11_lay 21 = .ok (.getfield 77, 3) := by decide +kernel
theorem dX11_lay_24 : decode cX11_lay 24 = .ok (.aload_n 0, 1) := by decide +kernel
theorem dX11_lay_25 : decode cX11_lay 25 = .ok (.getfield 120, 3) := by decide +kernel
theorem dX11_lay_28 : decode cX11_lay 28 = .ok (.iload_n 3, 1) := by decide +kernel
theorem dX11_lay_29 : decode cX11_lay 29 = .ok (.iastore, 1) := by decide +kernel
theorem dX11_lay_30 : decode cX11_lay 30 = .ok (.aload_n 0, 1) := by decide +kernel
theorem dX11_lay_31 : decode cX11_lay 31 = .ok (.dup, 1) := by decide +kernel
theorem dX11_lay_32 : decode cX11_lay 32 = .ok (.getfield 120, 3) := by decide +kernel
theorem dX11_lay_35 : decode cX11_lay 35 = .ok (.iconst 1, 1) := by decide +kernel
theorem dX11_lay_36 : decode cX11_lay 36 = .ok (.iadd, 1) := by decide +kernel
theorem dX11_lay_37 : decode cX11_lay 37 = .ok (.putfield 120, 3) := by decide +kernel
theorem dX11_lay_40 : decode cX11_lay 40 = .ok (.return_, 1) := by decide +kernel
theorem dX11_mark_0 : decode cX11_mark 0 = .ok (.aload_n 0, 1) := by decide +kernel
theorem dX11_mark_1 : decode cX11_mark 1 = .ok (.iconst 0, 1) := by decide +kernel
theorem dX11_mark_2 : decode cX11_mark 2 = .ok (.putfield 120, 3) := by decide +kernel
theorem dX11_mark_5 : decode cX11_mark 5 = .ok (.aload_n 0, 1) := by decide +kernel
theorem dX11_mark_6 : decode cX11_mark 6 = .ok (.iconst 1, 1) := by decide +kernel
theorem dX11_mark_7 : decode cX11_mark 7 = .ok (.iconst 0, 1) := by decide +kernel
theorem dX11_mark_8 : decode cX11_mark 8 = .ok (.iconst (-1), 1) := by decide +kernel
theorem dX11_mark_9 : decode cX11_mark 9 = .ok (.invokevirtual 123, 3) := by decide +kernel
theorem dX11_mark_12 : decode cX11_mark 12 = .ok (.iconst 0, 1) := by decide +kernel
theorem dX11_mark_13 : decode cX11_mark 13 = .ok (.istore_n 2, 1) := by decide +kernel
theorem dX11_mark_14 : decode cX11_mark 14 = .ok (.aload_n 0, 1) := by decide +kernel
theorem dX11_mark_15 : decode cX11_mark 15 = .ok (.iload_n 1, 1) := by decide +kernel
theorem dX11_mark_16 : decode cX11_mark 16 = .ok (.aload_n 0, 1) := by decide +kernel
theorem dX11_mark_17 : decode cX11_mark 17 = .ok (.getfield 7, 3) := by decide +kernel
theorem dX11_mark_20 : decode cX11_mark 20 = .ok (.iload_n 1, 1) := by decide +kernel
theorem dX11_mark_21 : decode cX11_mark 21 = .ok (.iaload, 1) := by decide +kernel
theorem dX11_mark_22 : decode cX11_mark 22 = .ok (.invokevirtual 127, 3) := by decide +kernel
theorem dX11_mark_25 : decode cX11_mark 25 = .ok (.iconst 1, 1) := by decide +kernel
theorem dX11_mark_26 : decode cX11_mark 26 = .ok (.iadd, 1) := by decide +kernel
theorem dX11_mark_27 : decode cX11_mark 27 = .ok (.istore_n 3, 1) := by decide +kernel
theorem dX11_mark_28 : decode cX11_mark 28 = .ok (.iconst 0, 1) := by decide +kernel
theorem dX11_mark_29 : decode cX11_mark 29 = .ok (.istore 4, 2) := by decide +kernel
theorem dX11_mark_31 : decode cX11_mark 31 = .ok (.iload 4, 2) := by decide +kernel
theorem dX11_mark_33 : decode cX11_mark 33 = .ok (.aload_n 0, 1) := by decide +kernel
theorem dX11_mark_34 : decode cX11_mark 34 = .ok (.getfield 7, 3) := by decide +kernel
theorem dX11_mark_37 : decode cX11_mark 37 = .ok (.iload_n 1, 1) := by decide +kernel
theorem dX11_mark_38 : decode cX11_mark 38 = .ok (.iaload, 1) := by decide +kernel
theorem dX11_mark_39 : decode cX11_mark 39 = .ok (.if_icmp .ge 139, 3) := by decide +kernel
theorem dX11_mark_42 : decode cX11_mark 42 = .ok (.bipush 40, 2) := by decide +kernel
theorem dX11_mark_44 : decode cX11_mark 44 = .ok (.iload_n 1, 1) := by decide +kernel
theorem dX11_mark_45 : decode cX11_mark 45 = .ok (.imul, 1) := by decide +kernel
theorem dX11_mark_46 : decode cX11_mark 46 = .ok (.iload 4, 2) := by decide +kernel
theorem dX11_mark_48 : decode cX11_mark 48 = .ok (.iadd, 1) := by decide +kernel
theorem dX11_mark_49 : decode cX11_mark 49 = .ok (.istore 5, 2) := by decide +kernel
theorem dX11_mark_51 : decode cX11_mark 51 = .ok (.aload_n 0, 1) := by decide +kernel
theorem dX11_mark_52 : decode cX11_mark 52 = .ok (.getfield 13, 3) := by decide +kernel
theorem dX11_mark_55 : decode cX11_mark 55 = .ok (.iload 5, 2) := by decide +kernel
theorem dX11_mark_57 : decode cX11_mark 57 = .ok (.iaload, 1) := by decide +kernel
theorem dX11_mark_58 : decode cX11_mark 58 = .ok (.bipush 8, 2) := by decide +kernel
theorem dX11_mark_60 : decode cX11_mark 60 = .ok (.if_icmp .ne 16, 3) := by decide +kernel
theorem dX11_mark_63 : decode cX11_mark 63 = .ok (.aload_n 0, 1) := by decide +kernel
theorem dX11_mark_64 : decode cX11_mark 64 = .ok (.iconst 2, 1) := by decide +kernel
theorem dX11_mark_65 : decode cX11_mark 65 = .ok (.aload_n 0, 1) := by decide +kernel
theorem dX11_mark_66 : decode cX11_mark 66 = .ok (.getfield 16, 3) := by decide +kernel
theorem dX11_mark_69 : decode cX11_mark 69 = .ok (.iload 5, 2) := by decide +kernel
theorem dX11_mark_71 : decode cX11_mark 71 = .ok (.iaload, 1) := by decide +kernel
theorem dX11_mark_72 : decode cX11_mark 72 = .ok (.iconst (-1), 1) := by decide +kernel
theorem dX11_mark_73 : decode cX11_mark 73 = .ok (.invokevirtual 123, 3) := by decide +kernel
theorem dX11_mark_76 : decode cX11_mark 76 = .ok (.aload_n 0, 1) := by decide +kernel
theorem dX11_mark_77 : decode cX11_mark 77 = .ok (.getfield 13, 3) := by decide +kernel
theorem dX11_mark_80 : decode cX11_mark 80 = .ok (.iload 5, 2) := by decide +kernel
theorem dX11_mark_82 : decode cX11_mark 82 = .ok (.iaload, 1) := by decide +kernel
theorem dX11_mark_83 : decode cX11_mark 83 = .ok (.bipush 6, 2) := by decide +kernel
theorem dX11_mark_85 : decode cX11_mark 85 = .ok (.if_icmp .eq 15, 3) := by decide +kernel
theorem dX11_mark_88 : decode cX11_mark 88 = .ok (.aload_n 0, 1) := by decide +kernel
theorem dX11_mark_89 : decode cX11_mark 89 = .ok (.getfield 13, 3) := by decide +kernel
theorem dX11_mark_92 : decode cX11_mark 92 = .ok (.iload 5, 2) := by decide +kernel
theorem dX11_mark_94 : decode cX11_mark 94 = .ok (.iaload, 1) := by decide +kernel
theorem dX11_mark_95 : decode cX11_mark 95 = .ok (.bipush 7, 2) := by decide +kernel
theorem dX11_mark_97 : decode cX11_mark 97 = .ok (.if_icmp .ne 7, 3) := by decide +kernel
theorem dX11_mark_100 : decode cX11_mark 100 = .ok (.iconst 1, 1) := by decide +kernel
theorem dX11_mark_101 : decode cX11_mark 101 = .ok (.goto 4, 3) := by decide +kernel
theorem dX11_mark_104 : decode cX11_mark 104 = .ok (.iconst 0, 1) := by decide +kernel
theorem dX11_mark_105 : decode cX11_mark 105 = .ok (.istore 6, 2) := by decide +kernel
theorem dX11_mark_107 : decode cX11_mark 107 = .ok (.aload_n 0, 1) := by decide +kernel
theorem dX11_mark_108 : decode cX11_mark 108 = .ok (.iconst 0, 1) := by decide +kernel
theorem dX11_mark_109 : decode cX11_mark 109 = .ok (.iload 4, 2) := by decide +kernel
theorem dX11_mark_111 : decode cX11_mark 111 = .ok (.iload 6, 2) := by decide +kernel
theorem dX11_mark_113 : decode cX11_mark 113 = .ok (.ifCond .ne 7, 3) := by decide +kernel
theorem dX11_mark_116 : decode cX11_mark 116 = .ok (.iconst (-1), 1) := by decide +kernel
theorem dX11_mark_117 : decode cX11_mark 117 = .ok (.goto 34, 3) := by decide +kernel
theorem dX11_mark_120 : decode cX11_mark 120 = .ok (.aload_n 0, 1) := by decide +kernel
theorem dX11_mark_121 : decode cX11_mark 121 = .ok (.iload_n 1, 1) := by decide +kernel
theorem dX11_mark_122 : decode cX11_mark 122 = .ok (.iload 4, 2) := by decide +kernel
theorem dX11_mark_124 : decode cX11_mark 124 = .ok (.invokevirtual 108, 3) := by decide +kernel
theorem dX11_mark_127 : decode cX11_mark 127 = .ok (.ifCond .eq 11, 3) := by decide +kernel
theorem dX11_mark_130 : decode cX11_mark 130 = .ok (.iload_n 3, 1) := by decide +kernel
theorem dX11_mark_131 : decode cX11_mark 131 = .ok (.iconst 2, 1) := by decide +kernel
theorem dX11_mark_132 : decode cX11_mark 132 = .ok (.iload_n 2, 1) := by decide +kernel
theorem dX11_mark_133 : decode cX11_mark 133 = .ok (.imul, 1) := by decide +kernel
theorem dX11_mark_134 : decode cX11_mark 134 = .ok (.iadd, 1) := by decide +kernel
theorem dX11_mark_135 : decode cX11_mark 135 = .ok (.goto 16, 3) := by decide +kernel
theorem dX11_mark_138 : decode cX11_mark 138 = .ok (.aload_n 0, 1) := by decide +kernel
theorem dX11_mark_139 : decode cX11_mark 139 = .ok (.iload_n 1, 1) := by decide +kernel
theorem dX11_mark_140 : decode cX11_mark 140 = .ok (.aload_n 0, 1) := by decide +kernel
theorem dX11_mark_141 : decode cX11_mark 141 = .ok (.getfield 22, 3) := by decide +kernel
theorem dX11_mark_144 : decode cX11_mark 144 = .ok (.iload 5, 2) := by decide +kernel
theorem dX11_mark_146 : decode cX11_mark 146 = .ok (.laload, 1) := by decide +kernel
theorem dX11_mark_147 : decode cX11_mark 147 = .ok (.l2i, 1) := by decide +kernel
theorem dX11_mark_148 : decode cX11_mark 148 = .ok (.invokevirtual 127, 3) := by decide +kernel
theorem dX11_mark_151 : decode cX11_mark 151 = .ok (.invokevirtual 123, 3) := by decide +kernel
theorem dX11_mark_154 : decode cX11_mark 154 = .ok (.iload_n 2, 1) := by decide +kernel
theorem dX11_mark_155 : decode cX11_mark 155 = .ok (.aload_n 0, 1) := by decide +kernel
theorem dX11_mark_156 : decode cX11_mark 156 = .ok (.iload_n 1, 1) := by decide +kernel
theorem dX11_mark_157 : decode cX11_mark 157 = .ok (.iload 4, 2) := by decide +kernel
theorem dX11_mark_159 : decode cX11_mark 159 = .ok (.invokevirtual 108, 3) := by decide +kernel
theorem dX11_mark_162 : decode cX11_mark 162 = .ok (.ifCond .eq 7, 3) := by decide +kernel
theorem dX11_mark_165 : decode cX11_mark 165 = .ok (.iconst 1, 1) := by decide +kernel
theorem dX11_mark_166 : decode cX11_mark 166 = .ok (.goto 4, 3) := by decide +kernel
theorem dX11_mark_169 : decode cX11_mark 169 = .ok (.iconst 0, 1) := by decide +kernel
theorem dX11_mark_170 : decode cX11_mark 170 = .ok (.iadd, 1) := by decide +kernel
theorem dX11_mark_171 : decode cX11_mark 171 = .ok (.istore_n 2, 1) := by decide +kernel
theorem dX11_mark_172 : decode cX11_mark 172 = .ok (.iinc 4 1, 3) := by decide +kernel
theorem dX11_mark_175 : decode cX11_mark 175 = .ok (.goto (-144), 3) := by decide +kernel
theorem dX11_mark_178 : decode cX11_mark 178 = .ok (.aload_n 0, 1) := by decide +kernel
theorem dX11_mark_179 : decode cX11_mark 179 = .ok (.iconst 0, 1) := by decide +kernel
theorem dX11_mark_180 : decode cX11_mark 180 = .ok (.aload_n 0, 1) := by decide +kernel
theorem dX11_mark_181 : decode cX11_mark 181 = .ok (.getfield 7, 3) := by decide +kernel
theorem dX11_mark_184 : decode cX11_mark 184 = .ok (.iload_n 1, 1) := by decide +kernel
theorem dX11_mark_185 : decode cX11_mark 185 = .ok (.iaload, 1) := by decide +kernel
theorem dX11_mark_186 : decode cX11_mark 186 = .ok (.iconst (-1), 1) := by decide +kernel
theorem dX11_mark_187 : decode cX11_mark 187 = .ok (.invokevirtual 123, 3) := by decide +kernel
theorem dX11_mark_190 : decode cX11_mark 190 = .ok (.iconst 0, 1) := by decide +kernel
theorem dX11_mark_191 : decode cX11_mark 191 = .ok (.istore 4, 2) := by decide +kernel
theorem dX11_mark_193 : decode cX11_mark 193 = .ok (.iload 4, 2) := by decide +kernel
theorem dX11_mark_195 : decode cX11_mark 195 = .ok (.aload_n 0, 1) := by decide +kernel
theorem dX11_mark_196 : decode cX11_mark 196 = .ok (.getfield 7, 3) := by decide +kernel
theorem dX11_mark_199 : decode cX11_mark 199 = .ok (.iload_n 1, 1) := by decide +kernel
theorem dX11_mark_200 : decode cX11_mark 200 = .ok (.iaload, 1) := by decide +kernel
theorem dX11_mark_201 : decode cX11_mark 201 = .ok (.if_icmp .ge 55, 3) := by decide +kernel
theorem dX11_mark_204 : decode cX11_mark 204 = .ok (.aload_n 0, 1) := by decide +kernel
theorem dX11_mark_205 : decode cX11_mark 205 = .ok (.iload_n 1, 1) := by decide +kernel
theorem dX11_mark_206 : decode cX11_mark 206 = .ok (.iload 4, 2) := by decide +kernel
theorem dX11_mark_208 : decode cX11_mark 208 = .ok (.invokevirtual 108, 3) := by decide +kernel
theorem dX11_mark_211 : decode cX11_mark 211 = .ok (.ifCond .eq 39, 3) := by decide +kernel
theorem dX11_mark_214 : decode cX11_mark 214 = .ok (.aload_n 0, 1) := by decide +kernel
theorem dX11_mark_215 : decode cX11_mark 215 = .ok (.iconst 1, 1) := by decide +kernel
theorem dX11_mark_216 : decode cX11_mark 216 = .ok (.iconst 0, 1) := by decide +kernel
theorem dX11_mark_217 : decode cX11_mark 217 = .ok (.iconst (-1), 1) := by decide +kernel
theorem dX11_mark_218 : decode cX11_mark 218 = .ok (.invokevirtual 123, 3) := by decide +kernel
theorem dX11_mark_221 : decode cX11_mark 221 = .ok (.aload_n 0, 1) := by decide +kernel
theorem dX11_mark_222 : decode cX11_mark 222 = .ok (.iload_n 1, 1) := by decide +kernel
theorem dX11_mark_223 : decode cX11_mark 223 = .ok (.aload_n 0, 1) := by decide +kernel
theorem dX11_mark_224 : decode cX11_mark 224 = .ok (.getfield 22, 3) := by decide +kernel
theorem dX11_mark_227 : decode cX11_mark 227 = .ok (.bipush 40, 2) := by decide +kernel
theorem dX11_mark_229 : decode cX11_mark 229 = .ok (.iload_n 1, 1) := by decide +kernel
theorem dX11_mark_230 : decode cX11_mark 230 = .ok (.imul, 1) := by decide +kernel
theorem dX11_mark_231 : decode cX11_mark 231 = .ok (.iload 4, 2) := by decide +kernel
theorem dX11_mark_233 : decode cX11_mark 233 = .ok (.iadd, 1) := by decide +kernel
theorem dX11_mark_234 : decode cX11_mark 234 = .ok (.laload, 1) := by decide +kernel
theorem dX11_mark_235 : decode cX11_mark 235 = .ok (.l2i, 1) := by decide +kernel
theorem dX11_mark_236 : decode cX11_mark 236 = .ok (.invokevirtual 127, 3) := by decide +kernel
theorem dX11_mark_239 : decode cX11_mark 239 = .ok (.istore 5, 2) := by decide +kernel
theorem dX11_mark_241 : decode cX11_mark 241 = .ok (.aload_n 0, 1) := by decide +kernel
theorem dX11_mark_242 : decode cX11_mark 242 = .ok (.iconst 3, 1) := by decide +kernel
theorem dX11_mark_243 : decode cX11_mark 243 = .ok (.iload 5, 2) := by decide +kernel
theorem dX11_mark_245 : decode cX11_mark 245 = .ok (.iload 5, 2) := by decide +kernel
theorem dX11_mark_247 : decode cX11_mark 247 = .ok (.invokevirtual 123, 3) := by decide +kernel
theorem dX11_mark_250 : decode cX11_mark 250 = .ok (.iinc 4 1, 3) := by decide +kernel
theorem dX11_mark_253 : decode cX11_mark 253 = .ok (.goto (-60), 3) := by decide +kernel
theorem dX11_mark_256 : decode cX11_mark 256 = .ok (.iconst 0, 1) := by decide +kernel
theorem dX11_mark_257 : decode cX11_mark 257 = .ok (.istore 4, 2) := by decide +kernel
theorem dX11_mark_259 : decode cX11_mark 259 = .ok (.iload 4, 2) := by decide +kernel
theorem dX11_mark_261 : decode cX11_mark 261 = .ok (.aload_n 0, 1) := by decide +kernel
theorem dX11_mark_262 : decode cX11_mark 262 = .ok (.getfield 26, 3) := by decide +kernel
theorem dX11_mark_265 : decode cX11_mark 265 = .ok (.iload_n 1, 1) := by decide +kernel
theorem dX11_mark_266 : decode cX11_mark 266 = .ok (.iaload, 1) := by decide +kernel
theorem dX11_mark_267 : decode cX11_mark 267 = .ok (.if_icmp .ge 43, 3) := by decide +kernel
theorem dX11_mark_270 : decode cX11_mark 270 = .ok (.aload_n 0, 1) := by decide +kernel
theorem dX11_mark_271 : decode cX11_mark 271 = .ok (.iconst 1, 1) := by decide +kernel
theorem dX11_mark_272 : decode cX11_mark 272 = .ok (.iconst 0, 1) := by decide +kernel
theorem dX11_mark_273 : decode cX11_mark 273 = .ok (.iconst (-1), 1) := by decide +kernel
theorem dX11_mark_274 : decode cX11_mark 274 = .ok (.invokevirtual 123, 3) := by decide +kernel
theorem dX11_mark_277 : decode cX11_mark 277 = .ok (.aload_n 0, 1) := by decide +kernel
theorem dX11_mark_278 : decode cX11_mark 278 = .ok (.iload_n 1, 1) := by decide +kernel
theorem dX11_mark_279 : decode cX11_mark 279 = .ok (.aload_n 0, 1) := by decide +kernel
theorem dX11_mark_280 : decode cX11_mark 280 = .ok (.getfield 35, 3) := by decide +kernel
theorem dX11_mark_283 : decode cX11_mark 283 = .ok (.iconst 4, 1) := by decide +kernel
theorem dX11_mark_284 : decode cX11_mark 284 = .ok (.iload_n 1, 1) := by decide +kernel
theorem dX11_mark_285 : decode cX11_mark 285 = .ok (.imul, 1) := by decide +kernel
theorem dX11_mark_286 : decode cX11_mark 286 = .ok (.iload 4, 2) := by decide +kernel
theorem dX11_mark_288 : decode cX11_mark 288 = .ok (.iadd, 1) := by decide +kernel
theorem dX11_mark_289 : decode cX11_mark 289 = .ok (.iaload, 1) := by decide +kernel
theorem dX11_mark_290 : decode cX11_mark 290 = .ok (.invokevirtual 127, 3) := by decide +kernel
theorem dX11_mark_293 : decode cX11_mark 293 = .ok (.istore 5, 2) := by decide +kernel
theorem dX11_mark_295 : decode cX11_mark 295 = .ok (.aload_n 0, 1) := by decide +kernel
theorem dX11_mark_296 : decode cX11_mark 296 = .ok (.iconst 3, 1) := by decide +kernel
theorem dX11_mark_297 : decode cX11_mark 297 = .ok (.iload 5, 2) := by decide +kernel
theorem dX11_mark_299 : decode cX11_mark 299 = .ok (.iload 5, 2) := by decide +kernel
theorem dX11_mark_301 : decode cX11_mark 301 = .ok (.invokevirtual 123, 3) := by decide +kernel
theorem dX11_mark_304 : decode cX11_mark 304 = .ok (.iinc 4 1, 3) := by decide +kernel
theorem dX11_mark_307 : decode cX11_mark 307 = .ok (.goto (-48), 3) := by decide +kernel
theorem dX11_mark_310 : decode cX11_mark 310 = .ok (.return_, 1) := by decide +kernel
theorem dX11_entries_0 : decode cX11_entries 0 = .ok (.aload_n 0, 1) := by decide +kernel
theorem dX11_entries_1 : decode cX11_entries 1 = .ok (.iload_n 1, 1) := by decide +kernel
theorem dX11_entries_2 : decode cX11_entries 2 = .ok (.invokevirtual 96, 3) := by decide +kernel
theorem dX11_entries_5 : decode cX11_entries 5 = .ok (.ifCond .ne 8, 3) := by decide +kernel
theorem dX11_entries_8 : decode cX11_entries 8 = .ok (.bipush (-2), 2) := by decide +kernel
theorem dX11_entries_10 : decode cX11_entries 10 = .ok (.goto 21, 3) := by decide +kernel
theorem dX11_entries_13 : decode cX11_entries 13 = .ok (.aload_n 0, 1) := by decide +kernel
theorem dX11_entries_14 : decode cX11_entries 14 = .ok (.iload_n 1, 1) := by decide +kernel
theorem dX11_entries_15 : decode cX11_entries 15 = .ok (.invokevirtual 130, 3) := by decide +kernel
theorem dX11_entries_18 : decode cX11_entries 18 = .ok (.ifCond .eq 8, 3) := by decide +kernel
theorem dX11_entries_21 : decode cX11_entries 21 = .ok (.bipush (-4), 2) := by decide +kernel
theorem dX11_entries_23 : decode cX11_entries 23 = .ok (.goto 8, 3) := by decide +kernel
theorem dX11_entries_26 : decode cX11_entries 26 = .ok (.aload_n 0, 1) := by decide +kernel
theorem dX11_entries_27 : decode cX11_entries 27 = .ok (.iload_n 1, 1) := by decide +kernel
theorem dX11_entries_28 : decode cX11_entries 28 = .ok (.invokevirtual 112, 3) := by decide +kernel
theorem dX11_entries_31 : decode cX11_entries 31 = .ok (.ireturn, 1) := by decide +kernel
theorem dX11_entry_0 : decode cX11_entry 0 = .ok (.aload_n 0, 1) := by decide +kernel
theorem dX11_entry_1 : decode cX11_entry 1 = .ok (.iload_n 1, 1) := by decide +kernel
theorem dX11_entry_2 : decode cX11_entry 2 = .ok (.invokevirtual 96, 3) := by decide +kernel
theorem dX11_entry_5 : decode cX11_entry 5 = .ok (.ifCond .eq 15, 3) := by decide +kernel
theorem dX11_entry_8 : decode cX11_entry 8 = .ok (.iload_n 3, 1) := by decide +kernel
theorem dX11_entry_9 : decode cX11_entry 9 = .ok (.i2l, 1) := by decide +kernel
theorem dX11_entry_10 : decode cX11_entry 10 = .ok (.lconst 0, 1) := by decide +kernel
theorem dX11_entry_11 : decode cX11_entry 11 = .ok (.ldc2_w 94, 3) := by decide +kernel
theorem dX11_entry_14 : decode cX11_entry 14 = .ok (.invokestatic 84, 3) := by decide +kernel
theorem dX11_entry_17 : decode cX11_entry 17 = .ok (.ifCond .ne 6, 3) := by decide +kernel
theorem dX11_entry_20 : decode cX11_entry 20 = .ok (.bipush (-2), 2) := by decide +kernel
theorem dX11_entry_22 : decode cX11_entry 22 = .ok (.ireturn, 1) := by decide +kernel
theorem dX11_entry_23 : decode cX11_entry 23 = .ok (.aload_n 0, 1) := by decide +kernel
theorem dX11_entry_24 : decode cX11_entry 24 = .ok (.iload_n 1, 1) := by decide +kernel
theorem dX11_entry_25 : decode cX11_entry 25 = .ok (.invokevirtual 130, 3) := by decide +kernel
theorem dX11_entry_28 : decode cX11_entry 28 = .ok (.ifCond .eq 6, 3) := by decide +kernel
theorem dX11_entry_31 : decode cX11_entry 31 = .ok (.bipush (-4), 2) := by decide +kernel
theorem dX11_entry_33 : decode cX11_entry 33 = .ok (.ireturn, 1) := by decide +kernel
theorem dX11_entry_34 : decode cX11_entry 34 = .ok (.aload_n 0, 1) := by decide +kernel
theorem dX11_entry_35 : decode cX11_entry 35 = .ok (.iload_n 1, 1) := by decide +kernel
theorem dX11_entry_36 : decode cX11_entry 36 = .ok (.invokevirtual 133, 3) := by decide +kernel
theorem dX11_entry_39 : decode cX11_entry 39 = .ok (.iload_n 2, 1) := by decide +kernel
theorem dX11_entry_40 : decode cX11_entry 40 = .ok (.i2l, 1) := by decide +kernel
theorem dX11_entry_41 : decode cX11_entry 41 = .ok (.lconst 0, 1) := by decide +kernel
theorem dX11_entry_42 : decode cX11_entry 42 = .ok (.aload_n 0, 1) := by decide +kernel
theorem dX11_entry_43 : decode cX11_entry 43 = .ok (.getfield 120, 3) := by decide +kernel
theorem dX11_entry_46 : decode cX11_entry 46 = .ok (.iconst 1, 1) := by decide +kernel
theorem dX11_entry_47 : decode cX11_entry 47 = .ok (.isub, 1) := by decide +kernel
theorem dX11_entry_48 : decode cX11_entry 48 = .ok (.i2l, 1) := by decide +kernel
