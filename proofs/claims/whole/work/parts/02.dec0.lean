theorem dX0_init_0 : decode cX0_init 0 = .ok (.aload_n 0, 1) := by decide +kernel
theorem dX0_init_1 : decode cX0_init 1 = .ok (.invokespecial 3, 3) := by decide +kernel
theorem dX0_init_4 : decode cX0_init 4 = .ok (.aload_n 0, 1) := by decide +kernel
theorem dX0_init_5 : decode cX0_init 5 = .ok (.bipush 40, 2) := by decide +kernel
theorem dX0_init_7 : decode cX0_init 7 = .ok (.newarray .int, 2) := by decide +kernel
theorem dX0_init_9 : decode cX0_init 9 = .ok (.putfield 9, 3) := by decide +kernel
theorem dX0_init_12 : decode cX0_init 12 = .ok (.aload_n 0, 1) := by decide +kernel
theorem dX0_init_13 : decode cX0_init 13 = .ok (.bipush 40, 2) := by decide +kernel
theorem dX0_init_15 : decode cX0_init 15 = .ok (.newarray .int, 2) := by decide +kernel
theorem dX0_init_17 : decode cX0_init 17 = .ok (.putfield 15, 3) := by decide +kernel
theorem dX0_init_20 : decode cX0_init 20 = .ok (.aload_n 0, 1) := by decide +kernel
theorem dX0_init_21 : decode cX0_init 21 = .ok (.bipush 40, 2) := by decide +kernel
theorem dX0_init_23 : decode cX0_init 23 = .ok (.newarray .int, 2) := by decide +kernel
theorem dX0_init_25 : decode cX0_init 25 = .ok (.putfield 18, 3) := by decide +kernel
theorem dX0_init_28 : decode cX0_init 28 = .ok (.aload_n 0, 1) := by decide +kernel
theorem dX0_init_29 : decode cX0_init 29 = .ok (.bipush 40, 2) := by decide +kernel
theorem dX0_init_31 : decode cX0_init 31 = .ok (.newarray .long, 2) := by decide +kernel
theorem dX0_init_33 : decode cX0_init 33 = .ok (.putfield 21, 3) := by decide +kernel
theorem dX0_init_36 : decode cX0_init 36 = .ok (.aload_n 0, 1) := by decide +kernel
theorem dX0_init_37 : decode cX0_init 37 = .ok (.iconst 0, 1) := by decide +kernel
theorem dX0_init_38 : decode cX0_init 38 = .ok (.putfield 25, 3) := by decide +kernel
theorem dX0_init_41 : decode cX0_init 41 = .ok (.aload_n 0, 1) := by decide +kernel
theorem dX0_init_42 : decode cX0_init 42 = .ok (.iconst 4, 1) := by decide +kernel
theorem dX0_init_43 : decode cX0_init 43 = .ok (.newarray .int, 2) := by decide +kernel
theorem dX0_init_45 : decode cX0_init 45 = .ok (.putfield 29, 3) := by decide +kernel
theorem dX0_init_48 : decode cX0_init 48 = .ok (.aload_n 0, 1) := by decide +kernel
theorem dX0_init_49 : decode cX0_init 49 = .ok (.iconst 4, 1) := by decide +kernel
theorem dX0_init_50 : decode cX0_init 50 = .ok (.newarray .int, 2) := by decide +kernel
theorem dX0_init_52 : decode cX0_init 52 = .ok (.putfield 32, 3) := by decide +kernel
theorem dX0_init_55 : decode cX0_init 55 = .ok (.aload_n 0, 1) := by decide +kernel
theorem dX0_init_56 : decode cX0_init 56 = .ok (.iconst 4, 1) := by decide +kernel
theorem dX0_init_57 : decode cX0_init 57 = .ok (.newarray .int, 2) := by decide +kernel
theorem dX0_init_59 : decode cX0_init 59 = .ok (.putfield 35, 3) := by decide +kernel
theorem dX0_init_62 : decode cX0_init 62 = .ok (.aload_n 0, 1) := by decide +kernel
theorem dX0_init_63 : decode cX0_init 63 = .ok (.iconst 4, 1) := by decide +kernel
theorem dX0_init_64 : decode cX0_init 64 = .ok (.newarray .int, 2) := by decide +kernel
theorem dX0_init_66 : decode cX0_init 66 = .ok (.putfield 38, 3) := by decide +kernel
theorem dX0_init_69 : decode cX0_init 69 = .ok (.aload_n 0, 1) := by decide +kernel
theorem dX0_init_70 : decode cX0_init 70 = .ok (.iconst 0, 1) := by decide +kernel
theorem dX0_init_71 : decode cX0_init 71 = .ok (.putfield 41, 3) := by decide +kernel
theorem dX0_init_74 : decode cX0_init 74 = .ok (.aload_n 0, 1) := by decide +kernel
theorem dX0_init_75 : decode cX0_init 75 = .ok (.new 44, 3) := by decide +kernel
theorem dX0_init_78 : decode cX0_init 78 = .ok (.dup, 1) := by decide +kernel
theorem dX0_init_79 : decode cX0_init 79 = .ok (.invokespecial 46, 3) := by decide +kernel
theorem dX0_init_82 : decode cX0_init 82 = .ok (.putfield 47, 3) := by decide +kernel
theorem dX0_init_85 : decode cX0_init 85 = .ok (.return_, 1) := by decide +kernel
theorem dX0_empty_0 : decode cX0_empty 0 = .ok (.aload_n 0, 1) := by decide +kernel
theorem dX0_empty_1 : decode cX0_empty 1 = .ok (.iconst 0, 1) := by decide +kernel
theorem dX0_empty_2 : decode cX0_empty 2 = .ok (.putfield 25, 3) := by decide +kernel
theorem dX0_empty_5 : decode cX0_empty 5 = .ok (.aload_n 0, 1) := by decide +kernel
theorem dX0_empty_6 : decode cX0_empty 6 = .ok (.iconst 0, 1) := by decide +kernel
theorem dX0_empty_7 : decode cX0_empty 7 = .ok (.putfield 41, 3) := by decide +kernel
theorem dX0_empty_10 : decode cX0_empty 10 = .ok (.aload_n 0, 1) := by decide +kernel
theorem dX0_empty_11 : decode cX0_empty 11 = .ok (.getfield 47, 3) := by decide +kernel
theorem dX0_empty_14 : decode cX0_empty 14 = .ok (.aload_n 0, 1) := by decide +kernel
theorem dX0_empty_15 : decode cX0_empty 15 = .ok (.invokevirtual 51, 3) := by decide +kernel
theorem dX0_empty_18 : decode cX0_empty 18 = .ok (.return_, 1) := by decide +kernel
theorem dX0_addInstruction_0 : decode cX0_addInstruction 0 = .ok (.aload_n 0, 1) := by decide +kernel
theorem dX0_addInstruction_1 : decode cX0_addInstruction 1 = .ok (.getfield 25, 3) := by decide +kernel
theorem dX0_addInstruction_4 : decode cX0_addInstruction 4 = .ok (.bipush 40, 2) := by decide +kernel
theorem dX0_addInstruction_6 : decode cX0_addInstruction 6 = .ok (.if_icmp .lt 6, 3) := by decide +kernel
theorem dX0_addInstruction_9 : decode cX0_addInstruction 9 = .ok (.bipush (-3), 2) := by decide +kernel
theorem dX0_addInstruction_11 : decode cX0_addInstruction 11 = .ok (.ireturn, 1) := by decide +kernel
theorem dX0_addInstruction_12 : decode cX0_addInstruction 12 = .ok (.aload_n 0, 1) := by decide +kernel
theorem dX0_addInstruction_13 : decode cX0_addInstruction 13 = .ok (.getfield 9, 3) := by decide +kernel
theorem dX0_addInstruction_16 : decode cX0_addInstruction 16 = .ok (.aload_n 0, 1) := by decide +kernel
theorem dX0_addInstruction_17 : decode cX0_addInstruction 17 = .ok (.getfield 25, 3) := by decide +kernel
theorem dX0_addInstruction_20 : decode cX0_addInstruction 20 = .ok (.iload_n 1, 1) := by decide +kernel
theorem dX0_addInstruction_21 : decode cX0_addInstruction 21 = .ok (.iastore, 1) := by decide +kernel
theorem dX0_addInstruction_22 : decode cX0_addInstruction 22 = .ok (.aload_n 0, 1) := by decide +kernel
theorem dX0_addInstruction_23 : decode cX0_addInstruction 23 = .ok (.getfield 15, 3) := by decide +kernel
theorem dX0_addInstruction_26 : decode cX0_addInstruction 26 = .ok (.aload_n 0, 1) := by decide +kernel
theorem dX0_addInstruction_27 : decode cX0_addInstruction 27 = .ok (.getfield 25, 3) := by decide +kernel
theorem dX0_addInstruction_30 : decode cX0_addInstruction 30 = .ok (.iload_n 2, 1) := by decide +kernel
theorem dX0_addInstruction_31 : decode cX0_addInstruction 31 = .ok (.iastore, 1) := by decide +kernel
theorem dX0_addInstruction_32 : decode cX0_addInstruction 32 = .ok (.aload_n 0, 1) := by decide +kernel
theorem dX0_addInstruction_33 : decode cX0_addInstruction 33 = .ok (.getfield 18, 3) := by decide +kernel
theorem dX0_addInstruction_36 : decode cX0_addInstruction 36 = .ok (.aload_n 0, 1) := by decide +kernel
theorem dX0_addInstruction_37 : decode cX0_addInstruction 37 = .ok (.getfield 25, 3) := by decide +kernel
theorem dX0_addInstruction_40 : decode cX0_addInstruction 40 = .ok (.iload_n 3, 1) := by decide +kernel
theorem dX0_addInstruction_41 : decode cX0_addInstruction 41 = .ok (.iastore, 1) := by decide +kernel
theorem dX0_addInstruction_42 : decode cX0_addInstruction 42 = .ok (.aload_n 0, 1) := by decide +kernel
theorem dX0_addInstruction_43 : decode cX0_addInstruction 43 = .ok (.getfield 21, 3) := by decide +kernel
theorem dX0_addInstruction_46 : decode cX0_addInstruction 46 = .ok (.aload_n 0, 1) := by decide +kernel
theorem dX0_addInstruction_47 : decode cX0_addInstruction 47 = .ok (.getfield 25, 3) := by decide +kernel
theorem dX0_addInstruction_50 : decode cX0_addInstruction 50 = .ok (.lload 4, 2) := by decide +kernel
theorem dX0_addInstruction_52 : decode cX0_addInstruction 52 = .ok (.lastore, 1) := by decide +kernel
theorem dX0_addInstruction_53 : decode cX0_addInstruction 53 = .ok (.aload_n 0, 1) := by decide +kernel
theorem dX0_addInstruction_54 : decode cX0_addInstruction 54 = .ok (.dup, 1) := by decide +kernel
theorem dX0_addInstruction_55 : decode cX0_addInstruction 55 = .ok (.getfield 25, 3) := by decide +kernel
theorem dX0_addInstruction_58 : decode cX0_addInstruction 58 = .ok (.iconst 1, 1) := by decide +kernel
theorem dX0_addInstruction_59 : decode cX0_addInstruction 59 = .ok (.iadd, 1) := by decide +kernel
theorem dX0_addInstruction_60 : decode cX0_addInstruction 60 = .ok (.putfield 25, 3) := by decide +kernel
theorem dX0_addInstruction_63 : decode cX0_addInstruction 63 = .ok (.aload_n 0, 1) := by decide +kernel
theorem dX0_addInstruction_64 : decode cX0_addInstruction 64 = .ok (.getfield 47, 3) := by decide +kernel
theorem dX0_addInstruction_67 : decode cX0_addInstruction 67 = .ok (.aload_n 0, 1) := by decide +kernel
theorem dX0_addInstruction_68 : decode cX0_addInstruction 68 = .ok (.invokevirtual 51, 3) := by decide +kernel
theorem dX0_addInstruction_71 : decode cX0_addInstruction 71 = .ok (.aload_n 0, 1) := by decide +kernel
theorem dX0_addInstruction_72 : decode cX0_addInstruction 72 = .ok (.getfield 25, 3) := by decide +kernel
theorem dX0_addInstruction_75 : decode cX0_addInstruction 75 = .ok (.iconst 1, 1) := by decide +kernel
theorem dX0_addInstruction_76 : decode cX0_addInstruction 76 = .ok (.isub, 1) := by decide +kernel
theorem dX0_addInstruction_77 : decode cX0_addInstruction 77 = .ok (.ireturn, 1) := by decide +kernel
theorem dX0_addHandler_0 : decode cX0_addHandler 0 = .ok (.aload_n 0, 1) := by decide +kernel
theorem dX0_addHandler_1 : decode cX0_addHandler 1 = .ok (.getfield 41, 3) := by decide +kernel
theorem dX0_addHandler_4 : decode cX0_addHandler 4 = .ok (.iconst 4, 1) := by decide +kernel
theorem dX0_addHandler_5 : decode cX0_addHandler 5 = .ok (.if_icmp .lt 6, 3) := by decide +kernel
theorem dX0_addHandler_8 : decode cX0_addHandler 8 = .ok (.bipush (-3), 2) := by decide +kernel
theorem dX0_addHandler_10 : decode cX0_addHandler 10 = .ok (.ireturn, 1) := by decide +kernel
theorem dX0_addHandler_11 : decode cX0_addHandler 11 = .ok (.aload_n 0, 1) := by decide +kernel
theorem dX0_addHandler_12 : decode cX0_addHandler 12 = .ok (.getfield 29, 3) := by decide +kernel
theorem dX0_addHandler_15 : decode cX0_addHandler 15 = .ok (.aload_n 0, 1) := by decide +kernel
theorem dX0_addHandler_16 : decode cX0_addHandler 16 = .ok (.getfield 41, 3) := by decide +kernel
theorem dX0_addHandler_19 : decode cX0_addHandler 19 = .ok (.iload_n 1, 1) := by decide +kernel
theorem dX0_addHandler_20 : decode cX0_addHandler 20 = .ok (.iastore, 1) := by decide +kernel
theorem dX0_addHandler_21 : decode cX0_addHandler 21 = .ok (.aload_n 0, 1) := by decide +kernel
theorem dX0_addHandler_22 : decode cX0_addHandler 22 = .ok (.getfield 32, 3) := by decide +kernel
theorem dX0_addHandler_25 : decode cX0_addHandler 25 = .ok (.aload_n 0, 1) := by decide +kernel
theorem dX0_addHandler_26 : decode cX0_addHandler 26 = .ok (.getfield 41, 3) := by decide +kernel
theorem dX0_addHandler_29 : decode cX0_addHandler 29 = .ok (.iload_n 2, 1) := by decide +kernel
theorem dX0_addHandler_30 : decode cX0_addHandler 30 = .ok (.iastore, 1) := by decide +kernel
theorem dX0_addHandler_31 : decode cX0_addHandler 31 = .ok (.aload_n 0, 1) := by decide +kernel
theorem dX0_addHandler_32 : decode cX0_addHandler 32 = .ok (.getfield 35, 3) := by decide +kernel
theorem dX0_addHandler_35 : decode cX0_addHandler 35 = .ok (.aload_n 0, 1) := by decide +kernel
theorem dX0_addHandler_36 : decode cX0_addHandler 36 = .ok (.getfield 41, 3) := by decide +kernel
theorem dX0_addHandler_39 : decode cX0_addHandler 39 = .ok (.iload_n 3, 1) := by decide +kernel
theorem dX0_addHandler_40 : decode cX0_addHandler 40 = .ok (.iastore, 1) := by decide +kernel
theorem dX0_addHandler_41 : decode cX0_addHandler 41 = .ok (.aload_n 0, 1) := by decide +kernel
theorem dX0_addHandler_42 : decode cX0_addHandler 42 = .ok (.getfield 38, 3) := by decide +kernel
theorem dX0_addHandler_45 : decode cX0_addHandler 45 = .ok (.aload_n 0, 1) := by decide +kernel
theorem dX0_addHandler_46 : decode cX0_addHandler 46 = .ok (.getfield 41, 3) := by decide +kernel
theorem dX0_addHandler_49 : decode cX0_addHandler 49 = .ok (.iload 4, 2) := by decide +kernel
theorem dX0_addHandler_51 : decode cX0_addHandler 51 = .ok (.iastore, 1) := by decide +kernel
theorem dX0_addHandler_52 : decode cX0_addHandler 52 = .ok (.aload_n 0, 1) := by decide +kernel
theorem dX0_addHandler_53 : decode cX0_addHandler 53 = .ok (.dup, 1) := by decide +kernel
theorem dX0_addHandler_54 : decode cX0_addHandler 54 = .ok (.getfield 41, 3) := by decide +kernel
theorem dX0_addHandler_57 : decode cX0_addHandler 57 = .ok (.iconst 1, 1) := by decide +kernel
theorem dX0_addHandler_58 : decode cX0_addHandler 58 = .ok (.iadd, 1) := by decide +kernel
theorem dX0_addHandler_59 : decode cX0_addHandler 59 = .ok (.putfield 41, 3) := by decide +kernel
theorem dX0_addHandler_62 : decode cX0_addHandler 62 = .ok (.aload_n 0, 1) := by decide +kernel
theorem dX0_addHandler_63 : decode cX0_addHandler 63 = .ok (.getfield 47, 3) := by decide +kernel
theorem dX0_addHandler_66 : decode cX0_addHandler 66 = .ok (.aload_n 0, 1) := by decide +kernel
theorem dX0_addHandler_67 : decode cX0_addHandler 67 = .ok (.invokevirtual 51, 3) := by decide +kernel
theorem dX0_addHandler_70 : decode cX0_addHandler 70 = .ok (.aload_n 0, 1) := by decide +kernel
theorem dX0_addHandler_71 : decode cX0_addHandler 71 = .ok (.getfield 41, 3) := by decide +kernel
theorem dX0_addHandler_74 : decode cX0_addHandler 74 = .ok (.iconst 1, 1) := by decide +kernel
theorem dX0_addHandler_75 : decode cX0_addHandler 75 = .ok (.isub, 1) := by decide +kernel
theorem dX0_addHandler_76 : decode cX0_addHandler 76 = .ok (.ireturn, 1) := by decide +kernel
theorem dX0_act_0 : decode cX0_act 0 = .ok (.iconst 0, 1) := by decide +kernel
theorem dX0_act_1 : decode cX0_act 1 = .ok (.iload_n 1, 1) := by decide +kernel
theorem dX0_act_2 : decode cX0_act 2 = .ok (.if_icmp .gt 20, 3) := by decide +kernel
theorem dX0_act_5 : decode cX0_act 5 = .ok (.iload_n 1, 1) := by decide +kernel
theorem dX0_act_6 : decode cX0_act 6 = .ok (.aload_n 0, 1) := by decide +kernel
theorem dX0_act_7 : decode cX0_act 7 = .ok (.getfield 25, 3) := by decide +kernel
theorem dX0_act_10 : decode cX0_act 10 = .ok (.if_icmp .ge 12, 3) := by decide +kernel
theorem dX0_act_13 : decode cX0_act 13 = .ok (.aload_n 0, 1) := by decide +kernel
theorem dX0_act_14 : decode cX0_act 14 = .ok (.getfield 9, 3) := by decide +kernel
theorem dX0_act_17 : decode cX0_act 17 = .ok (.iload_n 1, 1) := by decide +kernel
theorem dX0_act_18 : decode cX0_act 18 = .ok (.iaload, 1) := by decide +kernel
theorem dX0_act_19 : decode cX0_act 19 = .ok (.goto 5, 3) := by decide +kernel
theorem dX0_act_22 : decode cX0_act 22 = .ok (.bipush 14, 2) := by decide +kernel
theorem dX0_act_24 : decode cX0_act 24 = .ok (.ireturn, 1) := by decide +kernel
theorem dX0_first_0 : decode cX0_first 0 = .ok (.iconst 0, 1) := by decide +kernel
theorem dX0_first_1 : decode cX0_first 1 = .ok (.iload_n 1, 1) := by decide +kernel
theorem dX0_first_2 : decode cX0_first 2 = .ok (.if_icmp .gt 20, 3) := by decide +kernel
theorem dX0_first_5 : decode cX0_first 5 = .ok (.iload_n 1, 1) := by decide +kernel
theorem dX0_first_6 : decode cX0_first 6 = .ok (.aload_n 0, 1) := by decide +kernel
theorem dX0_first_7 : decode cX0_first 7 = .ok (.getfield 25, 3) := by decide +kernel
theorem dX0_first_10 : decode cX0_first 10 = .ok (.if_icmp .ge 12, 3) := by decide +kernel
theorem dX0_first_13 : decode cX0_first 13 = .ok (.aload_n 0, 1) := by decide +kernel
theorem dX0_first_14 : decode cX0_first 14 = .ok (.getfield 15, 3) := by decide +kernel
theorem dX0_first_17 : decode cX0_first 17 = .ok (.iload_n 1, 1) := by decide +kernel
theorem dX0_first_18 : decode cX0_first 18 = .ok (.iaload, 1) := by decide +kernel
theorem dX0_first_19 : decode cX0_first 19 = .ok (.goto 4, 3) := by decide +kernel
theorem dX0_first_22 : decode cX0_first 22 = .ok (.iconst 0, 1) := by decide +kernel
theorem dX0_first_23 : decode cX0_first 23 = .ok (.ireturn, 1) := by decide +kernel
theorem dX0_second_0 : decode cX0_second 0 = .ok (.iconst 0, 1) := by decide +kernel
theorem dX0_second_1 : decode cX0_second 1 = .ok (.iload_n 1, 1) := by decide +kernel
theorem dX0_second_2 : decode cX0_second 2 = .ok (.if_icmp .gt 20, 3) := by decide +kernel
theorem dX0_second_5 : decode cX0_second 5 = .ok (.iload_n 1, 1) := by decide +kernel
theorem dX0_second_6 : decode cX0_second 6 = .ok (.aload_n 0, 1) := by decide +kernel
theorem dX0_second_7 : decode cX0_second 7 = .ok (.getfield 25, 3) := by decide +kernel
theorem dX0_second_10 : decode cX0_second 10 = .ok (.if_icmp .ge 12, 3) := by decide +kernel
theorem dX0_second_13 : decode cX0_second 13 = .ok (.aload_n 0, 1) := by decide +kernel
theorem dX0_second_14 : decode cX0_second 14 = .ok (.getfield 18, 3) := by decide +kernel
theorem dX0_second_17 : decode cX0_second 17 = .ok (.iload_n 1, 1) := by decide +kernel
theorem dX0_second_18 : decode cX0_second 18 = .ok (.iaload, 1) := by decide +kernel
theorem dX0_second_19 : decode cX0_second 19 = .ok (.goto 4, 3) := by decide +kernel
theorem dX0_second_22 : decode cX0_second 22 = .ok (.iconst 0, 1) := by decide +kernel
theorem dX0_second_23 : decode cX0_second 23 = .ok (.ireturn, 1) := by decide +kernel
theorem dX0_number_0 : decode cX0_number 0 = .ok (.iconst 0, 1) := by decide +kernel
theorem dX0_number_1 : decode cX0_number 1 = .ok (.iload_n 1, 1) := by decide +kernel
theorem dX0_number_2 : decode cX0_number 2 = .ok (.if_icmp .gt 20, 3) := by decide +kernel
theorem dX0_number_5 : decode cX0_number 5 = .ok (.iload_n 1, 1) := by decide +kernel
theorem dX0_number_6 : decode cX0_number 6 = .ok (.aload_n 0, 1) := by decide +kernel
theorem dX0_number_7 : decode cX0_number 7 = .ok (.getfield 25, 3) := by decide +kernel
theorem dX0_number_10 : decode cX0_number 10 = .ok (.if_icmp .ge 12, 3) := by decide +kernel
theorem dX0_number_13 : decode cX0_number 13 = .ok (.aload_n 0, 1) := by decide +kernel
theorem dX0_number_14 : decode cX0_number 14 = .ok (.getfield 21, 3) := by decide +kernel
theorem dX0_number_17 : decode cX0_number 17 = .ok (.iload_n 1, 1) := by decide +kernel
theorem dX0_number_18 : decode cX0_number 18 = .ok (.laload, 1) := by decide +kernel
theorem dX0_number_19 : decode cX0_number 19 = .ok (.goto 4, 3) := by decide +kernel
theorem dX0_number_22 : decode cX0_number 22 = .ok (.lconst 0, 1) := by decide +kernel
theorem dX0_number_23 : decode cX0_number 23 = .ok (.lreturn, 1) := by decide +kernel
theorem dX0_isJump_0 : decode cX0_isJump 0 = .ok (.iconst 0, 1) := by decide +kernel
theorem dX0_isJump_1 : decode cX0_isJump 1 = .ok (.iload_n 1, 1) := by decide +kernel
theorem dX0_isJump_2 : decode cX0_isJump 2 = .ok (.if_icmp .gt 37, 3) := by decide +kernel
theorem dX0_isJump_5 : decode cX0_isJump 5 = .ok (.iload_n 1, 1) := by decide +kernel
theorem dX0_isJump_6 : decode cX0_isJump 6 = .ok (.aload_n 0, 1) := by decide +kernel
theorem dX0_isJump_7 : decode cX0_isJump 7 = .ok (.getfield 25, 3) := by decide +kernel
theorem dX0_isJump_10 : decode cX0_isJump 10 = .ok (.if_icmp .ge 29, 3) := by decide +kernel
theorem dX0_isJump_13 : decode cX0_isJump 13 = .ok (.aload_n 0, 1) := by decide +kernel
theorem dX0_isJump_14 : decode cX0_isJump 14 = .ok (.getfield 9, 3) := by decide +kernel
theorem dX0_isJump_17 : decode cX0_isJump 17 = .ok (.iload_n 1, 1) := by decide +kernel
theorem dX0_isJump_18 : decode cX0_isJump 18 = .ok (.iaload, 1) := by decide +kernel
theorem dX0_isJump_19 : decode cX0_isJump 19 = .ok (.bipush 6, 2) := by decide +kernel
theorem dX0_isJump_21 : decode cX0_isJump 21 = .ok (.if_icmp .eq 14, 3) := by decide +kernel
theorem dX0_isJump_24 : decode cX0_isJump 24 = .ok (.aload_n 0, 1) := by decide +kernel
theorem dX0_isJump_25 : decode cX0_isJump 25 = .ok (.getfield 9, 3) := by decide +kernel
theorem dX0_isJump_28 : decode cX0_isJump 28 = .ok (.iload_n 1, 1) := by decide +kernel
theorem dX0_isJump_29 : decode cX0_isJump 29 = .ok (.iaload, 1) := by decide +kernel
theorem dX0_isJump_30 : decode cX0_isJump 30 = .ok (.bipush 7, 2) := by decide +kernel
theorem dX0_isJump_32 : decode cX0_isJump 32 = .ok (.if_icmp .ne 7, 3) := by decide +kernel
theorem dX0_isJump_35 : decode cX0_isJump 35 = .ok (.iconst 1, 1) := by decide +kernel
theorem dX0_isJump_36 : decode cX0_isJump 36 = .ok (.goto 4, 3) := by decide +kernel
theorem dX0_isJump_39 : decode cX0_isJump 39 = .ok (.iconst 0, 1) := by decide +kernel
theorem dX0_isJump_40 : decode cX0_isJump 40 = .ok (.ireturn, 1) := by decide +kernel
theorem dX0_leadsBack_0 : decode cX0_leadsBack 0 = .ok (.aload_n 0, 1) := by decide +kernel
theorem dX0_leadsBack_1 : decode cX0_leadsBack 1 = .ok (.iload_n 1, 1) := by decide +kernel
theorem dX0_leadsBack_2 : decode cX0_leadsBack 2 = .ok (.invokevirtual 55, 3) := by decide +kernel
theorem dX0_leadsBack_5 : decode cX0_leadsBack 5 = .ok (.ifCond .eq 18, 3) := by decide +kernel
theorem dX0_leadsBack_8 : decode cX0_leadsBack 8 = .ok (.aload_n 0, 1) := by decide +kernel
theorem dX0_leadsBack_9 : decode cX0_leadsBack 9 = .ok (.iload_n 1, 1) := by decide +kernel
theorem dX0_leadsBack_10 : decode cX0_leadsBack 10 = .ok (.invokevirtual 59, 3) := by decide +kernel
theorem dX0_leadsBack_13 : decode cX0_leadsBack 13 = .ok (.iload_n 1, 1) := by decide +kernel
theorem dX0_leadsBack_14 : decode cX0_leadsBack 14 = .ok (.i2l, 1) := by decide +kernel
theorem dX0_leadsBack_15 : decode cX0_leadsBack 15 = .ok (.lcmp, 1) := by decide +kernel
theorem dX0_leadsBack_16 : decode cX0_leadsBack 16 = .ok (.ifCond .gt 7, 3) := by decide +kernel
theorem dX0_leadsBack_19 : decode cX0_leadsBack 19 = .ok (.iconst 1, 1) := by decide +kernel
theorem dX0_leadsBack_20 : decode cX0_leadsBack 20 = .ok (.goto 4, 3) := by decide +kernel
theorem dX0_leadsBack_23 : decode cX0_leadsBack 23 = .ok (.iconst 0, 1) := by decide +kernel
theorem dX0_leadsBack_24 : decode cX0_leadsBack 24 = .ok (.ireturn, 1) := by decide +kernel
theorem dX0_jumpPlace_0 : decode cX0_jumpPlace 0 = .ok (.aload_n 0, 1) := by decide +kernel
theorem dX0_jumpPlace_1 : decode cX0_jumpPlace 1 = .ok (.iload_n 1, 1) := by decide +kernel
theorem dX0_jumpPlace_2 : decode cX0_jumpPlace 2 = .ok (.invokevirtual 59, 3) := by decide +kernel
theorem dX0_jumpPlace_5 : decode cX0_jumpPlace 5 = .ok (.aload_n 0, 1) := by decide +kernel
theorem dX0_jumpPlace_6 : decode cX0_jumpPlace 6 = .ok (.getfield 25, 3) := by decide +kernel
theorem dX0_jumpPlace_9 : decode cX0_jumpPlace 9 = .ok (.i2l, 1) := by decide +kernel
theorem dX0_jumpPlace_10 : decode cX0_jumpPlace 10 = .ok (.invokestatic 63, 3) := by decide +kernel
theorem dX0_jumpPlace_13 : decode cX0_jumpPlace 13 = .ok (.l2i, 1) := by decide +kernel
theorem dX0_jumpPlace_14 : decode cX0_jumpPlace 14 = .ok (.ireturn, 1) := by decide +kernel
theorem dX0_handlerPlace_0 : decode cX0_handlerPlace 0 = .ok (.iconst 0, 1) := by decide +kernel
theorem dX0_handlerPlace_1 : decode cX0_handlerPlace 1 = .ok (.iload_n 1, 1) := by decide +kernel
theorem dX0_handlerPlace_2 : decode cX0_handlerPlace 2 = .ok (.if_icmp .gt 27, 3) := by decide +kernel
theorem dX0_handlerPlace_5 : decode cX0_handlerPlace 5 = .ok (.iload_n 1, 1) := by decide +kernel
theorem dX0_handlerPlace_6 : decode cX0_handlerPlace 6 = .ok (.aload_n 0, 1) := by decide +kernel
theorem dX0_handlerPlace_7 : decode cX0_handlerPlace 7 = .ok (.getfield 41, 3) := by decide +kernel
theorem dX0_handlerPlace_10 : decode cX0_handlerPlace 10 = .ok (.if_icmp .ge 19, 3) := by decide +kernel
theorem dX0_handlerPlace_13 : decode cX0_handlerPlace 13 = .ok (.aload_n 0, 1) := by decide +kernel
theorem dX0_handlerPlace_14 : decode cX0_handlerPlace 14 = .ok (.getfield 35, 3) := by decide +kernel
theorem dX0_handlerPlace_17 : decode cX0_handlerPlace 17 = .ok (.iload_n 1, 1) := by decide +kernel
theorem dX0_handlerPlace_18 : decode cX0_handlerPlace 18 = .ok (.iaload, 1) := by decide +kernel
theorem dX0_handlerPlace_19 : decode cX0_handlerPlace 19 = .ok (.aload_n 0, 1) := by decide +kernel
theorem dX0_handlerPlace_20 : decode cX0_handlerPlace 20 = .ok (.getfield 25, 3) := by decide +kernel
theorem dX0_handlerPlace_23 : decode cX0_handlerPlace 23 = .ok (.invokestatic 69, 3) := by decide +kernel
theorem dX0_handlerPlace_26 : decode cX0_handlerPlace 26 = .ok (.goto 7, 3) := by decide +kernel
theorem dX0_handlerPlace_29 : decode cX0_handlerPlace 29 = .ok (.aload_n 0, 1) := by decide +kernel
theorem dX0_handlerPlace_30 : decode cX0_handlerPlace 30 = .ok (.getfield 25, 3) := by decide +kernel
theorem dX0_handlerPlace_33 : decode cX0_handlerPlace 33 = .ok (.ireturn, 1) := by decide +kernel
theorem dX0_handlerFor_0 : decode cX0_handlerFor 0 = .ok (.iconst 0, 1) := by decide +kernel
theorem dX0_handlerFor_1 : decode cX0_handlerFor 1 = .ok (.istore_n 3, 1) := by decide +kernel
theorem dX0_handlerFor_2 : decode cX0_handlerFor 2 = .ok (.iload_n 3, 1) := by decide +kernel
theorem dX0_handlerFor_3 : decode cX0_handlerFor 3 = .ok (.aload_n 0, 1) := by decide +kernel
theorem dX0_handlerFor_4 : decode cX0_handlerFor 4 = .ok (.getfield 41, 3) := by decide +kernel
theorem dX0_handlerFor_7 : decode cX0_handlerFor 7 = .ok (.if_icmp .ge 44, 3) := by decide +kernel
theorem dX0_handlerFor_10 : decode cX0_handlerFor 10 = .ok (.aload_n 0, 1) := by decide +kernel
theorem dX0_handlerFor_11 : decode cX0_handlerFor 11 = .ok (.getfield 29, 3) := by decide +kernel
theorem dX0_handlerFor_14 : decode cX0_handlerFor 14 = .ok (.iload_n 3, 1) := by decide +kernel
theorem dX0_handlerFor_15 : decode cX0_handlerFor 15 = .ok (.iaload, 1) := by decide +kernel
theorem dX0_handlerFor_16 : decode cX0_handlerFor 16 = .ok (.iload_n 1, 1) := by decide +kernel
theorem dX0_handlerFor_17 : decode cX0_handlerFor 17 = .ok (.if_icmp .gt 28, 3) := by decide +kernel
theorem dX0_handlerFor_20 : decode cX0_handlerFor 20 = .ok (.iload_n 1, 1) := by decide +kernel
theorem dX0_handlerFor_21 : decode cX0_handlerFor 21 = .ok (.aload_n 0, 1) := by decide +kernel
theorem dX0_handlerFor_22 : decode cX0_handlerFor 22 = .ok (.getfield 32, 3) := by decide +kernel
theorem dX0_handlerFor_25 : decode cX0_handlerFor 25 = .ok (.iload_n 3, 1) := by decide +kernel
theorem dX0_handlerFor_26 : decode cX0_handlerFor 26 = .ok (.iaload, 1) := by decide +kernel
theorem dX0_handlerFor_27 : decode cX0_handlerFor 27 = .ok (.if_icmp .ge 18, 3) := by decide +kernel
theorem dX0_handlerFor_30 : decode cX0_handlerFor 30 = .ok (.aload_n 0, 1) := by decide +kernel
theorem dX0_handlerFor_31 : decode cX0_handlerFor 31 = .ok (.getfield 38, 3) := by decide +kernel
theorem dX0_handlerFor_34 : decode cX0_handlerFor 34 = .ok (.iload_n 3, 1) := by decide +kernel
theorem dX0_handlerFor_35 : decode cX0_handlerFor 35 = .ok (.iaload, 1) := by decide +kernel
theorem dX0_handlerFor_36 : decode cX0_handlerFor 36 = .ok (.iload_n 2, 1) := by decide +kernel
theorem dX0_handlerFor_37 : decode cX0_handlerFor 37 = .ok (.ishr, 1) := by decide +kernel
theorem dX0_handlerFor_38 : decode cX0_handlerFor 38 = .ok (.iconst 1, 1) := by decide +kernel
theorem dX0_handlerFor_39 : decode cX0_handlerFor 39 = .ok (.iand, 1) := by decide +kernel
theorem dX0_handlerFor_40 : decode cX0_handlerFor 40 = .ok (.ifCond .eq 5, 3) := by decide +kernel
theorem dX0_handlerFor_43 : decode cX0_handlerFor 43 = .ok (.iload_n 3, 1) := by decide +kernel
theorem dX0_handlerFor_44 : decode cX0_handlerFor 44 = .ok (.ireturn, 1) := by decide +kernel
theorem dX0_handlerFor_45 : decode cX0_handlerFor 45 = .ok (.iinc 3 1, 3) := by decide +kernel
theorem dX0_handlerFor_48 : decode cX0_handlerFor 48 = .ok (.goto (-46), 3) := by decide +kernel
theorem dX0_handlerFor_51 : decode cX0_handlerFor 51 = .ok (.iconst (-1), 1) := by decide +kernel
theorem dX0_handlerFor_52 : decode cX0_handlerFor 52 = .ok (.ireturn, 1) := by decide +kernel
theorem dX0_entriesNeeded_0 : decode cX0_entriesNeeded 0 = .ok (.iconst 2, 1) := by decide +kernel
theorem dX0_entriesNeeded_1 : decode cX0_entriesNeeded 1 = .ok (.aload_n 0, 1) := by decide +kernel
theorem dX0_entriesNeeded_2 : decode cX0_entriesNeeded 2 = .ok (.getfield 25, 3) := by decide +kernel
theorem dX0_entriesNeeded_5 : decode cX0_entriesNeeded 5 = .ok (.iadd, 1) := by decide +kernel
theorem dX0_entriesNeeded_6 : decode cX0_entriesNeeded 6 = .ok (.iconst 2, 1) := by decide +kernel
theorem dX0_entriesNeeded_7 : decode cX0_entriesNeeded 7 = .ok (.aload_n 0, 1) := by decide +kernel
theorem dX0_entriesNeeded_8 : decode cX0_entriesNeeded 8 = .ok (.getfield 41, 3) := by decide +kernel
theorem dX0_entriesNeeded_11 : decode cX0_entriesNeeded 11 = .ok (.imul, 1) := by decide +kernel
theorem dX0_entriesNeeded_12 : decode cX0_entriesNeeded 12 = .ok (.iadd, 1) := by decide +kernel
theorem dX0_entriesNeeded_13 : decode cX0_entriesNeeded 13 = .ok (.istore_n 1, 1) := by decide +kernel
theorem dX0_entriesNeeded_14 : decode cX0_entriesNeeded 14 = .ok (.iconst 0, 1) := by decide +kernel
theorem dX0_entriesNeeded_15 : decode cX0_entriesNeeded 15 = .ok (.istore_n 2, 1) := by decide +kernel
theorem dX0_entriesNeeded_16 : decode cX0_entriesNeeded 16 = .ok (.iload_n 2, 1) := by decide +kernel
theorem dX0_entriesNeeded_17 : decode cX0_entriesNeeded 17 = .ok (.aload_n 0, 1) := by decide +kernel
theorem dX0_entriesNeeded_18 : decode cX0_entriesNeeded 18 = .ok (.getfield 25, 3) := by decide +kernel
theorem dX0_entriesNeeded_21 : decode cX0_entriesNeeded 21 = .ok (.if_icmp .ge 34, 3) := by decide +kernel
theorem dX0_entriesNeeded_24 : decode cX0_entriesNeeded 24 = .ok (.aload_n 0, 1) := by decide +kernel
theorem dX0_entriesNeeded_25 : decode cX0_entriesNeeded 25 = .ok (.getfield 9, 3) := by decide +kernel
theorem dX0_entriesNeeded_28 : decode cX0_entriesNeeded 28 = .ok (.iload_n 2, 1) := by decide +kernel
theorem dX0_entriesNeeded_29 : decode cX0_entriesNeeded 29 = .ok (.iaload, 1) := by decide +kernel
theorem dX0_entriesNeeded_30 : decode cX0_entriesNeeded 30 = .ok (.bipush 8, 2) := by decide +kernel
theorem dX0_entriesNeeded_32 : decode cX0_entriesNeeded 32 = .ok (.if_icmp .ne 6, 3) := by decide +kernel
theorem dX0_entriesNeeded_35 : decode cX0_entriesNeeded 35 = .ok (.iinc 1 1, 3) := by decide +kernel
theorem dX0_entriesNeeded_38 : decode cX0_entriesNeeded 38 = .ok (.aload_n 0, 1) := by decide +kernel
theorem dX0_entriesNeeded_39 : decode cX0_entriesNeeded 39 = .ok (.iload_n 2, 1) := by decide +kernel
theorem dX0_entriesNeeded_40 : decode cX0_entriesNeeded 40 = .ok (.invokevirtual 72, 3) := by decide +kernel
theorem dX0_entriesNeeded_43 : decode cX0_entriesNeeded 43 = .ok (.ifCond .eq 6, 3) := by decide +kernel
theorem dX0_entriesNeeded_46 : decode cX0_entriesNeeded 46 = .ok (.iinc 1 2, 3) := by decide +kernel
theorem dX0_entriesNeeded_49 : decode cX0_entriesNeeded 49 = .ok (.iinc 2 1, 3) := by decide +kernel
theorem dX0_entriesNeeded_52 : decode cX0_entriesNeeded 52 = .ok (.goto (-36), 3) := by decide +kernel
theorem dX0_entriesNeeded_55 : decode cX0_entriesNeeded 55 = .ok (.iload_n 1, 1) := by decide +kernel
theorem dX0_entriesNeeded_56 : decode cX0_entriesNeeded 56 = .ok (.ireturn, 1) := by decide +kernel
theorem dX1_init_0 : decode cX1_init 0 = .ok (.aload_n 0, 1) := by decide +kernel
theorem dX1_init_1 : decode cX1_init 1 = .ok (.invokespecial 3, 3) := by decide +kernel
theorem dX1_init_4 : decode cX1_init 4 = .ok (.aload_n 0, 1) := by decide +kernel
theorem dX1_init_5 : decode cX1_init 5 = .ok (.iconst 4, 1) := by decide +kernel
theorem dX1_init_6 : decode cX1_init 6 = .ok (.newarray .long, 2) := by decide +kernel
theorem dX1_init_8 : decode cX1_init 8 = .ok (.putfield 9, 3) := by decide +kernel
theorem dX1_init_11 : decode cX1_init 11 = .ok (.aload_n 0, 1) := by decide +kernel
theorem dX1_init_12 : decode cX1_init 12 = .ok (.iconst 3, 1) := by decide +kernel
theorem dX1_init_13 : decode cX1_init 13 = .ok (.newarray .int, 2) := by decide +kernel
theorem dX1_init_15 : decode cX1_init 15 = .ok (.putfield 15, 3) := by decide +kernel
theorem dX1_init_18 : decode cX1_init 18 = .ok (.aload_n 0, 1) := by decide +kernel
theorem dX1_init_19 : decode cX1_init 19 = .ok (.new 19, 3) := by decide +kernel
theorem dX1_init_22 : decode cX1_init 22 = .ok (.dup, 1) := by decide +kernel
theorem dX1_init_23 : decode cX1_init 23 = .ok (.invokespecial 21, 3) := by decide +kernel
theorem dX1_init_26 : decode cX1_init 26 = .ok (.putfield 22, 3) := by decide +kernel
theorem dX1_init_29 : decode cX1_init 29 = .ok (.aload_n 0, 1) := by decide +kernel
theorem dX1_init_30 : decode cX1_init 30 = .ok (.iconst 0, 1) := by decide +kernel
theorem dX1_init_31 : decode cX1_init 31 = .ok (.putfield 26, 3) := by decide +kernel
theorem dX1_init_34 : decode cX1_init 34 = .ok (.aload_n 0, 1) := by decide +kernel
theorem dX1_init_35 : decode cX1_init 35 = .ok (.iconst 0, 1) := by decide +kernel
theorem dX1_init_36 : decode cX1_init 36 = .ok (.putfield 30, 3) := by decide +kernel
theorem dX1_init_39 : decode cX1_init 39 = .ok (.aload_n 0, 1) := by decide +kernel
theorem dX1_init_40 : decode cX1_init 40 = .ok (.iconst 0, 1) := by decide +kernel
theorem dX1_init_41 : decode cX1_init 41 = .ok (.putfield 33, 3) := by decide +kernel
theorem dX1_init_44 : decode cX1_init 44 = .ok (.aload_n 0, 1) := by decide +kernel
theorem dX1_init_45 : decode cX1_init 45 = .ok (.iconst 0, 1) := by decide +kernel
theorem dX1_init_46 : decode cX1_init 46 = .ok (.putfield 36, 3) := by decide +kernel
theorem dX1_init_49 : decode cX1_init 49 = .ok (.aload_n 0, 1) := by decide +kernel
theorem dX1_init_50 : decode cX1_init 50 = .ok (.iconst 0, 1) := by decide +kernel
theorem dX1_init_51 : decode cX1_init 51 = .ok (.putfield 39, 3) := by decide +kernel
theorem dX1_init_54 : decode cX1_init 54 = .ok (.aload_n 0, 1) := by decide +kernel
theorem dX1_init_55 : decode cX1_init 55 = .ok (.aload_n 1, 1) := by decide +kernel
theorem dX1_init_56 : decode cX1_init 56 = .ok (.putfield 42, 3) := by decide +kernel
theorem dX1_init_59 : decode cX1_init 59 = .ok (.return_, 1) := by decide +kernel
theorem dX1_begin_0 : decode cX1_begin 0 = .ok (.aload_n 0, 1) := by decide +kernel
theorem dX1_begin_1 : decode cX1_begin 1 = .ok (.aload_n 1, 1) := by decide +kernel
theorem dX1_begin_2 : decode cX1_begin 2 = .ok (.putfield 42, 3) := by decide +kernel
theorem dX1_begin_5 : decode cX1_begin 5 = .ok (.iconst 0, 1) := by decide +kernel
theorem dX1_begin_6 : decode cX1_begin 6 = .ok (.istore 4, 2) := by decide +kernel
theorem dX1_begin_8 : decode cX1_begin 8 = .ok (.iload 4, 2) := by decide +kernel
theorem dX1_begin_10 : decode cX1_begin 10 = .ok (.iconst 4, 1) := by decide +kernel
theorem dX1_begin_11 : decode cX1_begin 11 = .ok (.if_icmp .ge 17, 3) := by decide +kernel
theorem dX1_begin_14 : decode cX1_begin 14 = .ok (.aload_n 0, 1) := by decide +kernel
theorem dX1_begin_15 : decode cX1_begin 15 = .ok (.getfield 9, 3) := by decide +kernel
theorem dX1_begin_18 : decode cX1_begin 18 = .ok (.iload 4, 2) := by decide +kernel
theorem dX1_begin_20 : decode cX1_begin 20 = .ok (.lconst 0, 1) := by decide +kernel
theorem dX1_begin_21 : decode cX1_begin 21 = .ok (.lastore, 1) := by decide +kernel
theorem dX1_begin_22 : decode cX1_begin 22 = .ok (.iinc 4 1, 3) := by decide +kernel
theorem dX1_begin_25 : decode cX1_begin 25 = .ok (.goto (-17), 3) := by decide +kernel
theorem dX1_begin_28 : decode cX1_begin 28 = .ok (.aload_n 0, 1) := by decide +kernel
theorem dX1_begin_29 : decode cX1_begin 29 = .ok (.getfield 9, 3) := by decide +kernel
theorem dX1_begin_32 : decode cX1_begin 32 = .ok (.iconst 0, 1) := by decide +kernel
theorem dX1_begin_33 : decode cX1_begin 33 = .ok (.lload_n 2, 1) := by decide +kernel
theorem dX1_begin_34 : decode cX1_begin 34 = .ok (.lastore, 1) := by decide +kernel
theorem dX1_begin_35 : decode cX1_begin 35 = .ok (.iconst 0, 1) := by decide +kernel
theorem dX1_begin_36 : decode cX1_begin 36 = .ok (.istore 4, 2) := by decide +kernel
theorem dX1_begin_38 : decode cX1_begin 38 = .ok (.iload 4, 2) := by decide +kernel
theorem dX1_begin_40 : decode cX1_begin 40 = .ok (.iconst 3, 1) := by decide +kernel
theorem dX1_begin_41 : decode cX1_begin 41 = .ok (.if_icmp .ge 17, 3) := by decide +kernel
theorem dX1_begin_44 : decode cX1_begin 44 = .ok (.aload_n 0, 1) := by decide +kernel
theorem dX1_begin_45 : decode cX1_begin 45 = .ok (.getfield 15, 3) := by decide +kernel
theorem dX1_begin_48 : decode cX1_begin 48 = .ok (.iload 4, 2) := by decide +kernel
theorem dX1_begin_50 : decode cX1_begin 50 = .ok (.iconst 0, 1) := by decide +kernel
theorem dX1_begin_51 : decode cX1_begin 51 = .ok (.iastore, 1) := by decide +kernel
theorem dX1_begin_52 : decode cX1_begin 52 = .ok (.iinc 4 1, 3) := by decide +kernel
theorem dX1_begin_55 : decode cX1_begin 55 = .ok (.goto (-17), 3) := by decide +kernel
theorem dX1_begin_58 : decode cX1_begin 58 = .ok (.aload_n 0, 1) := by decide +kernel
theorem dX1_begin_59 : decode cX1_begin 59 = .ok (.getfield 22, 3) := by decide +kernel
theorem dX1_begin_62 : decode cX1_begin 62 = .ok (.invokevirtual 46, 3) := by decide +kernel
theorem dX1_begin_65 : decode cX1_begin 65 = .ok (.aload_n 0, 1) := by decide +kernel
theorem dX1_begin_66 : decode cX1_begin 66 = .ok (.iconst 0, 1) := by decide +kernel
theorem dX1_begin_67 : decode cX1_begin 67 = .ok (.putfield 26, 3) := by decide +kernel
theorem dX1_begin_70 : decode cX1_begin 70 = .ok (.aload_n 0, 1) := by decide +kernel
theorem dX1_begin_71 : decode cX1_begin 71 = .ok (.iconst 0, 1) := by decide +kernel
theorem dX1_begin_72 : decode cX1_begin 72 = .ok (.putfield 30, 3) := by decide +kernel
theorem dX1_begin_75 : decode cX1_begin 75 = .ok (.aload_n 0, 1) := by decide +kernel
theorem dX1_begin_76 : decode cX1_begin 76 = .ok (.iconst 0, 1) := by decide +kernel
theorem dX1_begin_77 : decode cX1_begin 77 = .ok (.putfield 33, 3) := by decide +kernel
theorem dX1_begin_80 : decode cX1_begin 80 = .ok (.aload_n 0, 1) := by decide +kernel
theorem dX1_begin_81 : decode cX1_begin 81 = .ok (.iconst 0, 1) := by decide +kernel
theorem dX1_begin_82 : decode cX1_begin 82 = .ok (.putfield 36, 3) := by decide +kernel
theorem dX1_begin_85 : decode cX1_begin 85 = .ok (.aload_n 0, 1) := by decide +kernel
theorem dX1_begin_86 : decode cX1_begin 86 = .ok (.iconst 0, 1) := by decide +kernel
theorem dX1_begin_87 : decode cX1_begin 87 = .ok (.putfield 39, 3) := by decide +kernel
theorem dX1_begin_90 : decode cX1_begin 90 = .ok (.return_, 1) := by decide +kernel
theorem dX1_register_0 : decode cX1_register 0 = .ok (.iconst 0, 1) := by decide +kernel
theorem dX1_register_1 : decode cX1_register 1 = .ok (.iload_n 1, 1) := by decide +kernel
theorem dX1_register_2 : decode cX1_register 2 = .ok (.if_icmp .gt 17, 3) := by decide +kernel
theorem dX1_register_5 : decode cX1_register 5 = .ok (.iload_n 1, 1) := by decide +kernel
theorem dX1_register_6 : decode cX1_register 6 = .ok (.iconst 4, 1) := by decide +kernel
theorem dX1_register_7 : decode cX1_register 7 = .ok (.if_icmp .ge 12, 3) := by decide +kernel
theorem dX1_register_10 : decode cX1_register 10 = .ok (.aload_n 0, 1) := by decide +kernel
theorem dX1_register_11 : decode cX1_register 11 = .ok (.getfield 9, 3) := by decide +kernel
theorem dX1_register_14 : decode cX1_register 14 = .ok (.iload_n 1, 1) := by decide +kernel
theorem dX1_register_15 : decode cX1_register 15 = .ok (.laload, 1) := by decide +kernel
theorem dX1_register_16 : decode cX1_register 16 = .ok (.goto 4, 3) := by decide +kernel
theorem dX1_register_19 : decode cX1_register 19 = .ok (.lconst 0, 1) := by decide +kernel
theorem dX1_register_20 : decode cX1_register 20 = .ok (.lreturn, 1) := by decide +kernel
theorem dX1_become_0 : decode cX1_become 0 = .ok (.iconst 0, 1) := by decide +kernel
theorem dX1_become_1 : decode cX1_become 1 = .ok (.iload_n 1, 1) := by decide +kernel
theorem dX1_become_2 : decode cX1_become 2 = .ok (.if_icmp .gt 15, 3) := by decide +kernel
theorem dX1_become_5 : decode cX1_become 5 = .ok (.iload_n 1, 1) := by decide +kernel
theorem dX1_become_6 : decode cX1_become 6 = .ok (.iconst 4, 1) := by decide +kernel
theorem dX1_become_7 : decode cX1_become 7 = .ok (.if_icmp .ge 10, 3) := by decide +kernel
theorem dX1_become_10 : decode cX1_become 10 = .ok (.aload_n 0, 1) := by decide +kernel
theorem dX1_become_11 : decode cX1_become 11 = .ok (.getfield 9, 3) := by decide +kernel
theorem dX1_become_14 : decode cX1_become 14 = .ok (.iload_n 1, 1) := by decide +kernel
theorem dX1_become_15 : decode cX1_become 15 = .ok (.lload_n 2, 1) := by decide +kernel
theorem dX1_become_16 : decode cX1_become 16 = .ok (.lastore, 1) := by decide +kernel
theorem dX1_become_17 : decode cX1_become 17 = .ok (.return_, 1) := by decide +kernel
theorem dX1_hold_0 : decode cX1_hold 0 = .ok (.lload_n 1, 1) := by decide +kernel
theorem dX1_hold_1 : decode cX1_hold 1 = .ok (.lconst 0, 1) := by decide +kernel
theorem dX1_hold_2 : decode cX1_hold 2 = .ok (.ldc2_w 49, 3) := by decide +kernel
theorem dX1_hold_5 : decode cX1_hold 5 = .ok (.invokestatic 51, 3) := by decide +kernel
theorem dX1_hold_8 : decode cX1_hold 8 = .ok (.ifCond .ne 5, 3) := by decide +kernel
theorem dX1_hold_11 : decode cX1_hold 11 = .ok (.iconst 0, 1) := by decide +kernel
theorem dX1_hold_12 : decode cX1_hold 12 = .ok (.ireturn, 1) := by decide +kernel
theorem dX1_hold_13 : decode cX1_hold 13 = .ok (.aload_n 0, 1) := by decide +kernel
theorem dX1_hold_14 : decode cX1_hold 14 = .ok (.getfield 15, 3) := by decide +kernel
theorem dX1_hold_17 : decode cX1_hold 17 = .ok (.lload_n 1, 1) := by decide +kernel
theorem dX1_hold_18 : decode cX1_hold 18 = .ok (.l2i, 1) := by decide +kernel
theorem dX1_hold_19 : decode cX1_hold 19 = .ok (.dup2, 1) := by decide +kernel
theorem dX1_hold_20 : decode cX1_hold 20 = .ok (.iaload, 1) := by decide +kernel
theorem dX1_hold_21 : decode cX1_hold 21 = .ok (.iconst 1, 1) := by decide +kernel
theorem dX1_hold_22 : decode cX1_hold 22 = .ok (.iadd, 1) := by decide +kernel
theorem dX1_hold_23 : decode cX1_hold 23 = .ok (.iastore, 1) := by decide +kernel
theorem dX1_hold_24 : decode cX1_hold 24 = .ok (.iconst 1, 1) := by decide +kernel
theorem dX1_hold_25 : decode cX1_hold 25 = .ok (.ireturn, 1) := by decide +kernel
theorem dX1_let_0 : decode cX1_let 0 = .ok (.lload_n 1, 1) := by decide +kernel
theorem dX1_let_1 : decode cX1_let 1 = .ok (.lconst 0, 1) := by decide +kernel
theorem dX1_let_2 : decode cX1_let 2 = .ok (.ldc2_w 49, 3) := by decide +kernel
theorem dX1_let_5 : decode cX1_let 5 = .ok (.invokestatic 51, 3) := by decide +kernel
theorem dX1_let_8 : decode cX1_let 8 = .ok (.ifCond .eq 13, 3) := by decide +kernel
theorem dX1_let_11 : decode cX1_let 11 = .ok (.aload_n 0, 1) := by decide +kernel
theorem dX1_let_12 : decode cX1_let 12 = .ok (.getfield 15, 3) := by decide +kernel
theorem dX1_let_15 : decode cX1_let 15 = .ok (.lload_n 1, 1) := by decide +kernel
theorem dX1_let_16 : decode cX1_let 16 = .ok (.l2i, 1) := by decide +kernel
theorem dX1_let_17 : decode cX1_let 17 = .ok (.iaload, 1) := by decide +kernel
theorem dX1_let_18 : decode cX1_let 18 = .ok (.ifCond .gt 5, 3) := by decide +kernel
theorem dX1_let_21 : decode cX1_let 21 = .ok (.iconst 0, 1) := by decide +kernel
theorem dX1_let_22 : decode cX1_let 22 = .ok (.ireturn, 1) := by decide +kernel
theorem dX1_let_23 : decode cX1_let 23 = .ok (.aload_n 0, 1) := by decide +kernel
theorem dX1_let_24 : decode cX1_let 24 = .ok (.getfield 15, 3) := by decide +kernel
theorem dX1_let_27 : decode cX1_let 27 = .ok (.lload_n 1, 1) := by decide +kernel
theorem dX1_let_28 : decode cX1_let 28 = .ok (.l2i, 1) := by decide +kernel
theorem dX1_let_29 : decode cX1_let 29 = .ok (.dup2, 1) := by decide +kernel
theorem dX1_let_30 : decode cX1_let 30 = .ok (.iaload, 1) := by decide +kernel
theorem dX1_let_31 : decode cX1_let 31 = .ok (.iconst 1, 1) := by decide +kernel
theorem dX1_let_32 : decode cX1_let 32 = .ok (.isub, 1) := by decide +kernel
theorem dX1_let_33 : decode cX1_let 33 = .ok (.iastore, 1) := by decide +kernel
theorem dX1_let_34 : decode cX1_let 34 = .ok (.iconst 1, 1) := by decide +kernel
theorem dX1_let_35 : decode cX1_let 35 = .ok (.ireturn, 1) := by decide +kernel
theorem dX1_held_0 : decode cX1_held 0 = .ok (.iconst 0, 1) := by decide +kernel
theorem dX1_held_1 : decode cX1_held 1 = .ok (.istore_n 1, 1) := by decide +kernel
theorem dX1_held_2 : decode cX1_held 2 = .ok (.iconst 0, 1) := by decide +kernel
theorem dX1_held_3 : decode cX1_held 3 = .ok (.istore_n 2, 1) := by decide +kernel
theorem dX1_held_4 : decode cX1_held 4 = .ok (.iload_n 2, 1) := by decide +kernel
theorem dX1_held_5 : decode cX1_held 5 = .ok (.iconst 3, 1) := by decide +kernel
theorem dX1_held_6 : decode cX1_held 6 = .ok (.if_icmp .ge 18, 3) := by decide +kernel
theorem dX1_held_9 : decode cX1_held 9 = .ok (.iload_n 1, 1) := by decide +kernel
theorem dX1_held_10 : decode cX1_held 10 = .ok (.aload_n 0, 1) := by decide +kernel
theorem dX1_held_11 : decode cX1_held 11 = .ok (.getfield 15, 3) := by decide +kernel
theorem dX1_held_14 : decode cX1_held 14 = .ok (.iload_n 2, 1) := by decide +kernel
theorem dX1_held_15 : decode cX1_held 15 = .ok (.iaload, 1) := by decide +kernel
theorem dX1_held_16 : decode cX1_held 16 = .ok (.iadd, 1) := by decide +kernel
theorem dX1_held_17 : decode cX1_held 17 = .ok (.istore_n 1, 1) := by decide +kernel
theorem dX1_held_18 : decode cX1_held 18 = .ok (.iinc 2 1, 3) := by decide +kernel
theorem dX1_held_21 : decode cX1_held 21 = .ok (.goto (-17), 3) := by decide +kernel
theorem dX1_held_24 : decode cX1_held 24 = .ok (.iload_n 1, 1) := by decide +kernel
theorem dX1_held_25 : decode cX1_held 25 = .ok (.ireturn, 1) := by decide +kernel
theorem dX2_init_0 : decode cX2_init 0 = .ok (.aload_n 0, 1) := by decide +kernel
theorem dX2_init_1 : decode cX2_init 1 = .ok (.invokespecial 3, 3) := by decide +kernel
theorem dX2_init_4 : decode cX2_init 4 = .ok (.aload_n 0, 1) := by decide +kernel
theorem dX2_init_5 : decode cX2_init 5 = .ok (.bipush 12, 2) := by decide +kernel
theorem dX2_init_7 : decode cX2_init 7 = .ok (.anewarray 9, 3) := by decide +kernel
theorem dX2_init_10 : decode cX2_init 10 = .ok (.putfield 11, 3) := by decide +kernel
theorem dX2_init_13 : decode cX2_init 13 = .ok (.aload_n 0, 1) := by decide +kernel
theorem dX2_init_14 : decode cX2_init 14 = .ok (.new 17, 3) := by decide +kernel
theorem dX2_init_17 : decode cX2_init 17 = .ok (.dup, 1) := by decide +kernel
theorem dX2_init_18 : decode cX2_init 18 = .ok (.invokespecial 19, 3) := by decide +kernel
theorem dX2_init_21 : decode cX2_init 21 = .ok (.putfield 20, 3) := by decide +kernel
theorem dX2_init_24 : decode cX2_init 24 = .ok (.aload_n 0, 1) := by decide +kernel
theorem dX2_init_25 : decode cX2_init 25 = .ok (.iconst 0, 1) := by decide +kernel
theorem dX2_init_26 : decode cX2_init 26 = .ok (.putfield 24, 3) := by decide +kernel
theorem dX2_init_29 : decode cX2_init 29 = .ok (.aload_n 0, 1) := by decide +kernel
theorem dX2_init_30 : decode cX2_init 30 = .ok (.iconst 0, 1) := by decide +kernel
theorem dX2_init_31 : decode cX2_init 31 = .ok (.putfield 28, 3) := by decide +kernel
theorem dX2_init_34 : decode cX2_init 34 = .ok (.aload_n 0, 1) := by decide +kernel
theorem dX2_init_35 : decode cX2_init 35 = .ok (.iconst 0, 1) := by decide +kernel
theorem dX2_init_36 : decode cX2_init 36 = .ok (.putfield 31, 3) := by decide +kernel
theorem dX2_init_39 : decode cX2_init 39 = .ok (.aload_n 0, 1) := by decide +kernel
theorem dX2_init_40 : decode cX2_init 40 = .ok (.iconst 0, 1) := by decide +kernel
theorem dX2_init_41 : decode cX2_init 41 = .ok (.putfield 34, 3) := by decide +kernel
theorem dX2_init_44 : decode cX2_init 44 = .ok (.aload_n 0, 1) := by decide +kernel
theorem dX2_init_45 : decode cX2_init 45 = .ok (.aload_n 1, 1) := by decide +kernel
theorem dX2_init_46 : decode cX2_init 46 = .ok (.putfield 37, 3) := by decide +kernel
theorem dX2_init_49 : decode cX2_init 49 = .ok (.iconst 0, 1) := by decide +kernel
theorem dX2_init_50 : decode cX2_init 50 = .ok (.istore_n 2, 1) := by decide +kernel
theorem dX2_init_51 : decode cX2_init 51 = .ok (.iload_n 2, 1) := by decide +kernel
theorem dX2_init_52 : decode cX2_init 52 = .ok (.bipush 12, 2) := by decide +kernel
theorem dX2_init_54 : decode cX2_init 54 = .ok (.if_icmp .ge 28, 3) := by decide +kernel
theorem dX2_init_57 : decode cX2_init 57 = .ok (.aload_n 0, 1) := by decide +kernel
theorem dX2_init_58 : decode cX2_init 58 = .ok (.getfield 11, 3) := by decide +kernel
theorem dX2_init_61 : decode cX2_init 61 = .ok (.iload_n 2, 1) := by decide +kernel
theorem dX2_init_62 : decode cX2_init 62 = .ok (.new 9, 3) := by decide +kernel
theorem dX2_init_65 : decode cX2_init 65 = .ok (.dup, 1) := by decide +kernel
theorem dX2_init_66 : decode cX2_init 66 = .ok (.aload_n 1, 1) := by decide +kernel
theorem dX2_init_67 : decode cX2_init 67 = .ok (.getfield 41, 3) := by decide +kernel
theorem dX2_init_70 : decode cX2_init 70 = .ok (.iconst 0, 1) := by decide +kernel
theorem dX2_init_71 : decode cX2_init 71 = .ok (.aaload, 1) := by decide +kernel
theorem dX2_init_72 : decode cX2_init 72 = .ok (.invokespecial 47, 3) := by decide +kernel
theorem dX2_init_75 : decode cX2_init 75 = .ok (.aastore, 1) := by decide +kernel
theorem dX2_init_76 : decode cX2_init 76 = .ok (.iinc 2 1, 3) := by decide +kernel
theorem dX2_init_79 : decode cX2_init 79 = .ok (.goto (-28), 3) := by decide +kernel
theorem dX2_init_82 : decode cX2_init 82 = .ok (.return_, 1) := by decide +kernel
theorem dX2_go_0 : decode cX2_go 0 = .ok (.aload_n 1, 1) := by decide +kernel
theorem dX2_go_1 : decode cX2_go 1 = .ok (.ifnull 16, 3) := by decide +kernel
theorem dX2_go_4 : decode cX2_go 4 = .ok (.iload 4, 2) := by decide +kernel
theorem dX2_go_6 : decode cX2_go 6 = .ok (.i2l, 1) := by decide +kernel
theorem dX2_go_7 : decode cX2_go 7 = .ok (.lconst 0, 1) := by decide +kernel
theorem dX2_go_8 : decode cX2_go 8 = .ok (.ldc2_w 50, 3) := by decide +kernel
theorem dX2_go_11 : decode cX2_go 11 = .ok (.invokestatic 52, 3) := by decide +kernel
theorem dX2_go_14 : decode cX2_go 14 = .ok (.ifCond .ne 6, 3) := by decide +kernel
theorem dX2_go_17 : decode cX2_go 17 = .ok (.bipush (-2), 2) := by decide +kernel
theorem dX2_go_19 : decode cX2_go 19 = .ok (.ireturn, 1) := by decide +kernel
theorem dX2_go_20 : decode cX2_go 20 = .ok (.aload_n 1, 1) := by decide +kernel
theorem dX2_go_21 : decode cX2_go 21 = .ok (.getfield 56, 3) := by decide +kernel
theorem dX2_go_24 : decode cX2_go 24 = .ok (.getfield 62, 3) := by decide +kernel
theorem dX2_go_27 : decode cX2_go 27 = .ok (.ifCond .eq 6, 3) := by decide +kernel
theorem dX2_go_30 : decode cX2_go 30 = .ok (.bipush (-4), 2) := by decide +kernel
theorem dX2_go_32 : decode cX2_go 32 = .ok (.ireturn, 1) := by decide +kernel
theorem dX2_go_33 : decode cX2_go 33 = .ok (.aload_n 0, 1) := by decide +kernel
theorem dX2_go_34 : decode cX2_go 34 = .ok (.getfield 20, 3) := by decide +kernel
theorem dX2_go_37 : decode cX2_go 37 = .ok (.iload 4, 2) := by decide +kernel
theorem dX2_go_39 : decode cX2_go 39 = .ok (.invokevirtual 68, 3) := by decide +kernel
theorem dX2_go_42 : decode cX2_go 42 = .ok (.aload_n 0, 1) := by decide +kernel
theorem dX2_go_43 : decode cX2_go 43 = .ok (.iconst 0, 1) := by decide +kernel
theorem dX2_go_44 : decode cX2_go 44 = .ok (.putfield 24, 3) := by decide +kernel
theorem dX2_go_47 : decode cX2_go 47 = .ok (.aload_n 0, 1) := by decide +kernel
theorem dX2_go_48 : decode cX2_go 48 = .ok (.iconst 0, 1) := by decide +kernel
theorem dX2_go_49 : decode cX2_go 49 = .ok (.putfield 28, 3) := by decide +kernel
theorem dX2_go_52 : decode cX2_go 52 = .ok (.aload_n 0, 1) := by decide +kernel
theorem dX2_go_53 : decode cX2_go 53 = .ok (.iconst (-1), 1) := by decide +kernel
theorem dX2_go_54 : decode cX2_go 54 = .ok (.putfield 34, 3) := by decide +kernel
theorem dX2_go_57 : decode cX2_go 57 = .ok (.aload_n 0, 1) := by decide +kernel
theorem dX2_go_58 : decode cX2_go 58 = .ok (.aload_n 1, 1) := by decide +kernel
theorem dX2_go_59 : decode cX2_go 59 = .ok (.lload_n 2, 1) := by decide +kernel
theorem dX2_go_60 : decode cX2_go 60 = .ok (.aload 5, 2) := by decide +kernel
theorem dX2_go_62 : decode cX2_go 62 = .ok (.invokevirtual 72, 3) := by decide +kernel
theorem dX2_go_65 : decode cX2_go 65 = .ok (.iconst 0, 1) := by decide +kernel
theorem dX2_go_66 : decode cX2_go 66 = .ok (.istore 6, 2) := by decide +kernel
theorem dX2_go_68 : decode cX2_go 68 = .ok (.iload 6, 2) := by decide +kernel
theorem dX2_go_70 : decode cX2_go 70 = .ok (.sipush 2000, 3) := by decide +kernel
theorem dX2_go_73 : decode cX2_go 73 = .ok (.if_icmp .gt 84, 3) := by decide +kernel
theorem dX2_go_76 : decode cX2_go 76 = .ok (.aload_n 0, 1) := by decide +kernel
theorem dX2_go_77 : decode cX2_go 77 = .ok (.getfield 34, 3) := by decide +kernel
theorem dX2_go_80 : decode cX2_go 80 = .ok (.iconst (-1), 1) := by decide +kernel
theorem dX2_go_81 : decode cX2_go 81 = .ok (.if_icmp .ne 76, 3) := by decide +kernel
theorem dX2_go_84 : decode cX2_go 84 = .ok (.aload_n 0, 1) := by decide +kernel
theorem dX2_go_85 : decode cX2_go 85 = .ok (.invokevirtual 76, 3) := by decide +kernel
theorem dX2_go_88 : decode cX2_go 88 = .ok (.astore 7, 2) := by decide +kernel
theorem dX2_go_90 : decode cX2_go 90 = .ok (.aload 7, 2) := by decide +kernel
theorem dX2_go_92 : decode cX2_go 92 = .ok (.ifnull 29, 3) := by decide +kernel
theorem dX2_go_95 : decode cX2_go 95 = .ok (.aload 5, 2) := by decide +kernel
theorem dX2_go_97 : decode cX2_go 97 = .ok (.aload 7, 2) := by decide +kernel
theorem dX2_go_99 : decode cX2_go 99 = .ok (.aload_n 0, 1) := by decide +kernel
theorem dX2_go_100 : decode cX2_go 100 = .ok (.getfield 20, 3) := by decide +kernel
theorem dX2_go_103 : decode cX2_go 103 = .ok (.invokeinterface 80 3, 5) := by decide +kernel
theorem dX2_go_108 : decode cX2_go 108 = .ok (.ifCond .eq 13, 3) := by decide +kernel
theorem dX2_go_111 : decode cX2_go 111 = .ok (.aload_n 0, 1) := by decide +kernel
theorem dX2_go_112 : decode cX2_go 112 = .ok (.getfield 20, 3) := by decide +kernel
theorem dX2_go_115 : decode cX2_go 115 = .ok (.invokevirtual 86, 3) := by decide +kernel
theorem dX2_go_118 : decode cX2_go 118 = .ok (.ifCond .ne 10, 3) := by decide +kernel
theorem dX2_go_121 : decode cX2_go 121 = .ok (.aload_n 0, 1) := by decide +kernel
theorem dX2_go_122 : decode cX2_go 122 = .ok (.invokevirtual 90, 3) := by decide +kernel
theorem dX2_go_125 : decode cX2_go 125 = .ok (.goto 26, 3) := by decide +kernel
theorem dX2_go_128 : decode cX2_go 128 = .ok (.aload_n 0, 1) := by decide +kernel
theorem dX2_go_129 : decode cX2_go 129 = .ok (.aload 7, 2) := by decide +kernel
theorem dX2_go_131 : decode cX2_go 131 = .ok (.aload 5, 2) := by decide +kernel
theorem dX2_go_133 : decode cX2_go 133 = .ok (.invokevirtual 93, 3) := by decide +kernel
theorem dX2_go_136 : decode cX2_go 136 = .ok (.istore 8, 2) := by decide +kernel
theorem dX2_go_138 : decode cX2_go 138 = .ok (.iload 8, 2) := by decide +kernel
theorem dX2_go_140 : decode cX2_go 140 = .ok (.ifCond .eq 11, 3) := by decide +kernel
theorem dX2_go_143 : decode cX2_go 143 = .ok (.aload_n 0, 1) := by decide +kernel
theorem dX2_go_144 : decode cX2_go 144 = .ok (.iload 8, 2) := by decide +kernel
theorem dX2_go_146 : decode cX2_go 146 = .ok (.aload 5, 2) := by decide +kernel
theorem dX2_go_148 : decode cX2_go 148 = .ok (.invokevirtual 97, 3) := by decide +kernel
theorem dX2_go_151 : decode cX2_go 151 = .ok (.iinc 6 1, 3) := by decide +kernel
theorem dX2_go_154 : decode cX2_go 154 = .ok (.goto (-86), 3) := by decide +kernel
theorem dX2_go_157 : decode cX2_go 157 = .ok (.aload_n 0, 1) := by decide +kernel
theorem dX2_go_158 : decode cX2_go 158 = .ok (.getfield 34, 3) := by decide +kernel
theorem dX2_go_161 : decode cX2_go 161 = .ok (.ireturn, 1) := by decide +kernel
theorem dX2_top_0 : decode cX2_top 0 = .ok (.aload_n 0, 1) := by decide +kernel
theorem dX2_top_1 : decode cX2_top 1 = .ok (.getfield 24, 3) := by decide +kernel
theorem dX2_top_4 : decode cX2_top 4 = .ok (.i2l, 1) := by decide +kernel
theorem dX2_top_5 : decode cX2_top 5 = .ok (.lconst 1, 1) := by decide +kernel
theorem dX2_top_6 : decode cX2_top 6 = .ok (.ldc2_w 101, 3) := by decide +kernel
theorem dX2_top_9 : decode cX2_top 9 = .ok (.invokestatic 52, 3) := by decide +kernel
theorem dX2_top_12 : decode cX2_top 12 = .ok (.ifCond .eq 17, 3) := by decide +kernel
theorem dX2_top_15 : decode cX2_top 15 = .ok (.aload_n 0, 1) := by decide +kernel
theorem dX2_top_16 : decode cX2_top 16 = .ok (.getfield 11, 3) := by decide +kernel
theorem dX2_top_19 : decode cX2_top 19 = .ok (.aload_n 0, 1) := by decide +kernel
theorem dX2_top_20 : decode cX2_top 20 = .ok (.getfield 24, 3) := by decide +kernel
theorem dX2_top_23 : decode cX2_top 23 = .ok (.iconst 1, 1) := by decide +kernel
theorem dX2_top_24 : decode cX2_top 24 = .ok (.isub, 1) := by decide +kernel
theorem dX2_top_25 : decode cX2_top 25 = .ok (.aaload, 1) := by decide +kernel
theorem dX2_top_26 : decode cX2_top 26 = .ok (.goto 4, 3) := by decide +kernel
theorem dX2_top_29 : decode cX2_top 29 = .ok (.aconst_null, 1) := by decide +kernel
theorem dX2_top_30 : decode cX2_top 30 = .ok (.areturn, 1) := by decide +kernel
theorem dX2_stop_0 : decode cX2_stop 0 = .ok (.aload_n 0, 1) := by decide +kernel
theorem dX2_stop_1 : decode cX2_stop 1 = .ok (.iconst 1, 1) := by decide +kernel
theorem dX2_stop_2 : decode cX2_stop 2 = .ok (.putfield 34, 3) := by decide +kernel
theorem dX2_stop_5 : decode cX2_stop 5 = .ok (.return_, 1) := by decide +kernel
theorem dX2_beginFrame_0 : decode cX2_beginFrame 0 = .ok (.aload_n 1, 1) := by decide +kernel
theorem dX2_beginFrame_1 : decode cX2_beginFrame 1 = .ok (.ifnull 22, 3) := by decide +kernel
theorem dX2_beginFrame_4 : decode cX2_beginFrame 4 = .ok (.aload_n 1, 1) := by decide +kernel
theorem dX2_beginFrame_5 : decode cX2_beginFrame 5 = .ok (.getfield 56, 3) := by decide +kernel
theorem dX2_beginFrame_8 : decode cX2_beginFrame 8 = .ok (.getfield 62, 3) := by decide +kernel
theorem dX2_beginFrame_11 : decode cX2_beginFrame 11 = .ok (.ifCond .ne 12, 3) := by decide +kernel
theorem dX2_beginFrame_14 : decode cX2_beginFrame 14 = .ok (.aload_n 0, 1) := by decide +kernel
theorem dX2_beginFrame_15 : decode cX2_beginFrame 15 = .ok (.getfield 24, 3) := by decide +kernel
theorem dX2_beginFrame_18 : decode cX2_beginFrame 18 = .ok (.bipush 12, 2) := by decide +kernel
theorem dX2_beginFrame_20 : decode cX2_beginFrame 20 = .ok (.if_icmp .lt 8, 3) := by decide +kernel
theorem dX2_beginFrame_23 : decode cX2_beginFrame 23 = .ok (.aload_n 0, 1) := by decide +kernel
theorem dX2_beginFrame_24 : decode cX2_beginFrame 24 = .ok (.invokevirtual 90, 3) := by decide +kernel
theorem dX2_beginFrame_27 : decode cX2_beginFrame 27 = .ok (.return_, 1) := by decide +kernel
theorem dX2_beginFrame_28 : decode cX2_beginFrame 28 = .ok (.aload_n 0, 1) := by decide +kernel
theorem dX2_beginFrame_29 : decode cX2_beginFrame 29 = .ok (.getfield 11, 3) := by decide +kernel
theorem dX2_beginFrame_32 : decode cX2_beginFrame 32 = .ok (.aload_n 0, 1) := by decide +kernel
theorem dX2_beginFrame_33 : decode cX2_beginFrame 33 = .ok (.getfield 24, 3) := by decide +kernel
theorem dX2_beginFrame_36 : decode cX2_beginFrame 36 = .ok (.aaload, 1) := by decide +kernel
theorem dX2_beginFrame_37 : decode cX2_beginFrame 37 = .ok (.astore 5, 2) := by decide +kernel
theorem dX2_beginFrame_39 : decode cX2_beginFrame 39 = .ok (.aload 5, 2) := by decide +kernel
theorem dX2_beginFrame_41 : decode cX2_beginFrame 41 = .ok (.aload_n 1, 1) := by decide +kernel
theorem dX2_beginFrame_42 : decode cX2_beginFrame 42 = .ok (.lload_n 2, 1) := by decide +kernel
theorem dX2_beginFrame_43 : decode cX2_beginFrame 43 = .ok (.invokevirtual 103, 3) := by decide +kernel
theorem dX2_beginFrame_46 : decode cX2_beginFrame 46 = .ok (.aload 4, 2) := by decide +kernel
theorem dX2_beginFrame_48 : decode cX2_beginFrame 48 = .ok (.aload 5, 2) := by decide +kernel
theorem dX2_beginFrame_50 : decode cX2_beginFrame 50 = .ok (.aload_n 0, 1) := by decide +kernel
theorem dX2_beginFrame_51 : decode cX2_beginFrame 51 = .ok (.getfield 20, 3) := by decide +kernel
theorem dX2_beginFrame_54 : decode cX2_beginFrame 54 = .ok (.invokeinterface 107 3, 5) := by decide +kernel
theorem dX2_beginFrame_59 : decode cX2_beginFrame 59 = .ok (.ifCond .ne 8, 3) := by decide +kernel
theorem dX2_beginFrame_62 : decode cX2_beginFrame 62 = .ok (.aload_n 0, 1) := by decide +kernel
theorem dX2_beginFrame_63 : decode cX2_beginFrame 63 = .ok (.invokevirtual 90, 3) := by decide +kernel
theorem dX2_beginFrame_66 : decode cX2_beginFrame 66 = .ok (.return_, 1) := by decide +kernel
theorem dX2_beginFrame_67 : decode cX2_beginFrame 67 = .ok (.aload_n 0, 1) := by decide +kernel
theorem dX2_beginFrame_68 : decode cX2_beginFrame 68 = .ok (.dup, 1) := by decide +kernel
theorem dX2_beginFrame_69 : decode cX2_beginFrame 69 = .ok (.getfield 24, 3) := by decide +kernel
theorem dX2_beginFrame_72 : decode cX2_beginFrame 72 = .ok (.iconst 1, 1) := by decide +kernel
theorem dX2_beginFrame_73 : decode cX2_beginFrame 73 = .ok (.iadd, 1) := by decide +kernel
theorem dX2_beginFrame_74 : decode cX2_beginFrame 74 = .ok (.putfield 24, 3) := by decide +kernel
theorem dX2_beginFrame_77 : decode cX2_beginFrame 77 = .ok (.aload_n 0, 1) := by decide +kernel
theorem dX2_beginFrame_78 : decode cX2_beginFrame 78 = .ok (.getfield 20, 3) := by decide +kernel
theorem dX2_beginFrame_81 : decode cX2_beginFrame 81 = .ok (.aload_n 0, 1) := by decide +kernel
theorem dX2_beginFrame_82 : decode cX2_beginFrame 82 = .ok (.getfield 20, 3) := by decide +kernel
theorem dX2_beginFrame_85 : decode cX2_beginFrame 85 = .ok (.getfield 110, 3) := by decide +kernel
theorem dX2_beginFrame_88 : decode cX2_beginFrame 88 = .ok (.aload_n 0, 1) := by decide +kernel
theorem dX2_beginFrame_89 : decode cX2_beginFrame 89 = .ok (.getfield 24, 3) := by decide +kernel
theorem dX2_beginFrame_92 : decode cX2_beginFrame 92 = .ok (.invokestatic 113, 3) := by decide +kernel
theorem dX2_beginFrame_95 : decode cX2_beginFrame 95 = .ok (.putfield 110, 3) := by decide +kernel
theorem dX2_beginFrame_98 : decode cX2_beginFrame 98 = .ok (.return_, 1) := by decide +kernel
theorem dX2_endFrame_0 : decode cX2_endFrame 0 = .ok (.aload_n 0, 1) := by decide +kernel
theorem dX2_endFrame_1 : decode cX2_endFrame 1 = .ok (.dup, 1) := by decide +kernel
theorem dX2_endFrame_2 : decode cX2_endFrame 2 = .ok (.getfield 28, 3) := by decide +kernel
theorem dX2_endFrame_5 : decode cX2_endFrame 5 = .ok (.aload_n 1, 1) := by decide +kernel
theorem dX2_endFrame_6 : decode cX2_endFrame 6 = .ok (.invokevirtual 119, 3) := by decide +kernel
theorem dX2_endFrame_9 : decode cX2_endFrame 9 = .ok (.isub, 1) := by decide +kernel
theorem dX2_endFrame_10 : decode cX2_endFrame 10 = .ok (.putfield 28, 3) := by decide +kernel
theorem dX2_endFrame_13 : decode cX2_endFrame 13 = .ok (.aload_n 0, 1) := by decide +kernel
theorem dX2_endFrame_14 : decode cX2_endFrame 14 = .ok (.dup, 1) := by decide +kernel
theorem dX2_endFrame_15 : decode cX2_endFrame 15 = .ok (.getfield 24, 3) := by decide +kernel
theorem dX2_endFrame_18 : decode cX2_endFrame 18 = .ok (.iconst 1, 1) := by decide +kernel
theorem dX2_endFrame_19 : decode cX2_endFrame 19 = .ok (.isub, 1) := by decide +kernel
theorem dX2_endFrame_20 : decode cX2_endFrame 20 = .ok (.putfield 24, 3) := by decide +kernel
theorem dX2_endFrame_23 : decode cX2_endFrame 23 = .ok (.return_, 1) := by decide +kernel
theorem dX2_perform_0 : decode cX2_perform 0 = .ok (.aload_n 1, 1) := by decide +kernel
theorem dX2_perform_1 : decode cX2_perform 1 = .ok (.getfield 122, 3) := by decide +kernel
theorem dX2_perform_4 : decode cX2_perform 4 = .ok (.astore_n 3, 1) := by decide +kernel
theorem dX2_perform_5 : decode cX2_perform 5 = .ok (.aload_n 3, 1) := by decide +kernel
theorem dX2_perform_6 : decode cX2_perform 6 = .ok (.aload_n 1, 1) := by decide +kernel
theorem dX2_perform_7 : decode cX2_perform 7 = .ok (.getfield 126, 3) := by decide +kernel
theorem dX2_perform_10 : decode cX2_perform 10 = .ok (.invokevirtual 129, 3) := by decide +kernel
theorem dX2_perform_13 : decode cX2_perform 13 = .ok (.istore 4, 2) := by decide +kernel
theorem dX2_perform_15 : decode cX2_perform 15 = .ok (.aload_n 3, 1) := by decide +kernel
theorem dX2_perform_16 : decode cX2_perform 16 = .ok (.aload_n 1, 1) := by decide +kernel
theorem dX2_perform_17 : decode cX2_perform 17 = .ok (.getfield 126, 3) := by decide +kernel
theorem dX2_perform_20 : decode cX2_perform 20 = .ok (.invokevirtual 133, 3) := by decide +kernel
theorem dX2_perform_23 : decode cX2_perform 23 = .ok (.istore 5, 2) := by decide +kernel
theorem dX2_perform_25 : decode cX2_perform 25 = .ok (.aload_n 3, 1) := by decide +kernel
theorem dX2_perform_26 : decode cX2_perform 26 = .ok (.aload_n 1, 1) := by decide +kernel
theorem dX2_perform_27 : decode cX2_perform 27 = .ok (.getfield 126, 3) := by decide +kernel
theorem dX2_perform_30 : decode cX2_perform 30 = .ok (.invokevirtual 136, 3) := by decide +kernel
theorem dX2_perform_33 : decode cX2_perform 33 = .ok (.lstore 6, 2) := by decide +kernel
theorem dX2_perform_35 : decode cX2_perform 35 = .ok (.aload_n 0, 1) := by decide +kernel
theorem dX2_perform_36 : decode cX2_perform 36 = .ok (.iconst 0, 1) := by decide +kernel
theorem dX2_perform_37 : decode cX2_perform 37 = .ok (.putfield 31, 3) := by decide +kernel
theorem dX2_perform_40 : decode cX2_perform 40 = .ok (.iload 4, 2) := by decide +kernel
theorem dX2_perform_42 : decode cX2_perform 42 = .ok (.tableswitch 256 0 18 #[90, 256, 256, 256, 256, 256, 100, 108, 127, 142, 142, 142, 142, 150, 173, 201, 215, 240, 248], 90) := by decide +kernel
theorem dX2_perform_132 : decode cX2_perform 132 = .ok (.aload_n 1, 1) := by decide +kernel
theorem dX2_perform_133 : decode cX2_perform 133 = .ok (.iload 5, 2) := by decide +kernel
theorem dX2_perform_135 : decode cX2_perform 135 = .ok (.lload 6, 2) := by decide +kernel
theorem dX2_perform_137 : decode cX2_perform 137 = .ok (.invokevirtual 139, 3) := by decide +kernel
theorem dX2_perform_140 : decode cX2_perform 140 = .ok (.iconst 0, 1) := by decide +kernel
theorem dX2_perform_141 : decode cX2_perform 141 = .ok (.ireturn, 1) := by decide +kernel
theorem dX2_perform_142 : decode cX2_perform 142 = .ok (.aload_n 0, 1) := by decide +kernel
theorem dX2_perform_143 : decode cX2_perform 143 = .ok (.aload_n 1, 1) := by decide +kernel
theorem dX2_perform_144 : decode cX2_perform 144 = .ok (.aload_n 2, 1) := by decide +kernel
theorem dX2_perform_145 : decode cX2_perform 145 = .ok (.invokevirtual 143, 3) := by decide +kernel
theorem dX2_perform_148 : decode cX2_perform 148 = .ok (.iconst 0, 1) := by decide +kernel
theorem dX2_perform_149 : decode cX2_perform 149 = .ok (.ireturn, 1) := by decide +kernel
theorem dX2_perform_150 : decode cX2_perform 150 = .ok (.aload_n 1, 1) := by decide +kernel
theorem dX2_perform_151 : decode cX2_perform 151 = .ok (.iload 5, 2) := by decide +kernel
theorem dX2_perform_153 : decode cX2_perform 153 = .ok (.invokevirtual 147, 3) := by decide +kernel
theorem dX2_perform_156 : decode cX2_perform 156 = .ok (.lconst 0, 1) := by decide +kernel
theorem dX2_perform_157 : decode cX2_perform 157 = .ok (.lcmp, 1) := by decide +kernel
theorem dX2_perform_158 : decode cX2_perform 158 = .ok (.ifCond .le 9, 3) := by decide +kernel
theorem dX2_perform_161 : decode cX2_perform 161 = .ok (.aload_n 0, 1) := by decide +kernel
theorem dX2_perform_162 : decode cX2_perform 162 = .ok (.aload_n 1, 1) := by decide +kernel
theorem dX2_perform_163 : decode cX2_perform 163 = .ok (.aload_n 2, 1) := by decide +kernel
theorem dX2_perform_164 : decode cX2_perform 164 = .ok (.invokevirtual 143, 3) := by decide +kernel
theorem dX2_perform_167 : decode cX2_perform 167 = .ok (.iconst 0, 1) := by decide +kernel
theorem dX2_perform_168 : decode cX2_perform 168 = .ok (.ireturn, 1) := by decide +kernel
theorem dX2_perform_169 : decode cX2_perform 169 = .ok (.aload_n 0, 1) := by decide +kernel
theorem dX2_perform_170 : decode cX2_perform 170 = .ok (.aload_n 1, 1) := by decide +kernel
theorem dX2_perform_171 : decode cX2_perform 171 = .ok (.lload 6, 2) := by decide +kernel
theorem dX2_perform_173 : decode cX2_perform 173 = .ok (.l2i, 1) := by decide +kernel
theorem dX2_perform_174 : decode cX2_perform 174 = .ok (.aload_n 1, 1) := by decide +kernel
theorem dX2_perform_175 : decode cX2_perform 175 = .ok (.iload 5, 2) := by decide +kernel
theorem dX2_perform_177 : decode cX2_perform 177 = .ok (.invokevirtual 147, 3) := by decide +kernel
theorem dX2_perform_180 : decode cX2_perform 180 = .ok (.invokevirtual 150, 3) := by decide +kernel
theorem dX2_perform_183 : decode cX2_perform 183 = .ok (.ireturn, 1) := by decide +kernel
theorem dX2_perform_184 : decode cX2_perform 184 = .ok (.aload_n 0, 1) := by decide +kernel
theorem dX2_perform_185 : decode cX2_perform 185 = .ok (.aload_n 1, 1) := by decide +kernel
theorem dX2_perform_186 : decode cX2_perform 186 = .ok (.iload 4, 2) := by decide +kernel
theorem dX2_perform_188 : decode cX2_perform 188 = .ok (.invokevirtual 154, 3) := by decide +kernel
theorem dX2_perform_191 : decode cX2_perform 191 = .ok (.ireturn, 1) := by decide +kernel
theorem dX2_perform_192 : decode cX2_perform 192 = .ok (.aload_n 0, 1) := by decide +kernel
theorem dX2_perform_193 : decode cX2_perform 193 = .ok (.aload_n 0, 1) := by decide +kernel
theorem dX2_perform_194 : decode cX2_perform 194 = .ok (.getfield 37, 3) := by decide +kernel
theorem dX2_perform_197 : decode cX2_perform 197 = .ok (.lload 6, 2) := by decide +kernel
theorem dX2_perform_199 : decode cX2_perform 199 = .ok (.l2i, 1) := by decide +kernel
theorem dX2_perform_200 : decode cX2_perform 200 = .ok (.invokevirtual 158, 3) := by decide +kernel
theorem dX2_perform_203 : decode cX2_perform 203 = .ok (.aload_n 1, 1) := by decide +kernel
theorem dX2_perform_204 : decode cX2_perform 204 = .ok (.iload 5, 2) := by decide +kernel
theorem dX2_perform_206 : decode cX2_perform 206 = .ok (.invokevirtual 147, 3) := by decide +kernel
theorem dX2_perform_209 : decode cX2_perform 209 = .ok (.aload_n 2, 1) := by decide +kernel
theorem dX2_perform_210 : decode cX2_perform 210 = .ok (.invokevirtual 72, 3) := by decide +kernel
theorem dX2_perform_213 : decode cX2_perform 213 = .ok (.iconst 0, 1) := by decide +kernel
theorem dX2_perform_214 : decode cX2_perform 214 = .ok (.ireturn, 1) := by decide +kernel
theorem dX2_perform_215 : decode cX2_perform 215 = .ok (.aload_n 0, 1) := by decide +kernel
theorem dX2_perform_216 : decode cX2_perform 216 = .ok (.aload_n 1, 1) := by decide +kernel
theorem dX2_perform_217 : decode cX2_perform 217 = .ok (.aload_n 1, 1) := by decide +kernel
theorem dX2_perform_218 : decode cX2_perform 218 = .ok (.getfield 126, 3) := by decide +kernel
theorem dX2_perform_221 : decode cX2_perform 221 = .ok (.aload_n 3, 1) := by decide +kernel
theorem dX2_perform_222 : decode cX2_perform 222 = .ok (.getfield 162, 3) := by decide +kernel
theorem dX2_perform_225 : decode cX2_perform 225 = .ok (.if_icmp .ge 12, 3) := by decide +kernel
theorem dX2_perform_228 : decode cX2_perform 228 = .ok (.aload_n 1, 1) := by decide +kernel
theorem dX2_perform_229 : decode cX2_perform 229 = .ok (.iload 5, 2) := by decide +kernel
theorem dX2_perform_231 : decode cX2_perform 231 = .ok (.invokevirtual 147, 3) := by decide +kernel
theorem dX2_perform_234 : decode cX2_perform 234 = .ok (.goto 4, 3) := by decide +kernel
theorem dX2_perform_237 : decode cX2_perform 237 = .ok (.lconst 0, 1) := by decide +kernel
theorem dX2_perform_238 : decode cX2_perform 238 = .ok (.invokevirtual 165, 3) := by decide +kernel
theorem dX2_perform_241 : decode cX2_perform 241 = .ok (.iconst 0, 1) := by decide +kernel
theorem dX2_perform_242 : decode cX2_perform 242 = .ok (.ireturn, 1) := by decide +kernel
theorem dX2_perform_243 : decode cX2_perform 243 = .ok (.aload_n 0, 1) := by decide +kernel
theorem dX2_perform_244 : decode cX2_perform 244 = .ok (.aload_n 1, 1) := by decide +kernel
theorem dX2_perform_245 : decode cX2_perform 245 = .ok (.iload 5, 2) := by decide +kernel
theorem dX2_perform_247 : decode cX2_perform 247 = .ok (.invokevirtual 147, 3) := by decide +kernel
theorem dX2_perform_250 : decode cX2_perform 250 = .ok (.l2i, 1) := by decide +kernel
theorem dX2_perform_251 : decode cX2_perform 251 = .ok (.putfield 31, 3) := by decide +kernel
theorem dX2_perform_254 : decode cX2_perform 254 = .ok (.bipush 8, 2) := by decide +kernel
theorem dX2_perform_256 : decode cX2_perform 256 = .ok (.ireturn, 1) := by decide +kernel
theorem dX2_perform_257 : decode cX2_perform 257 = .ok (.aload_n 0, 1) := by decide +kernel
theorem dX2_perform_258 : decode cX2_perform 258 = .ok (.aload_n 1, 1) := by decide +kernel
theorem dX2_perform_259 : decode cX2_perform 259 = .ok (.getfield 169, 3) := by decide +kernel
theorem dX2_perform_262 : decode cX2_perform 262 = .ok (.putfield 31, 3) := by decide +kernel
theorem dX2_perform_265 : decode cX2_perform 265 = .ok (.aload_n 1, 1) := by decide +kernel
theorem dX2_perform_266 : decode cX2_perform 266 = .ok (.getfield 172, 3) := by decide +kernel
theorem dX2_perform_269 : decode cX2_perform 269 = .ok (.ifCond .ne 8, 3) := by decide +kernel
theorem dX2_perform_272 : decode cX2_perform 272 = .ok (.bipush 7, 2) := by decide +kernel
theorem dX2_perform_274 : decode cX2_perform 274 = .ok (.goto 7, 3) := by decide +kernel
theorem dX2_perform_277 : decode cX2_perform 277 = .ok (.aload_n 1, 1) := by decide +kernel
theorem dX2_perform_278 : decode cX2_perform 278 = .ok (.getfield 172, 3) := by decide +kernel
theorem dX2_perform_281 : decode cX2_perform 281 = .ok (.ireturn, 1) := by decide +kernel
theorem dX2_perform_282 : decode cX2_perform 282 = .ok (.aload_n 0, 1) := by decide +kernel
theorem dX2_perform_283 : decode cX2_perform 283 = .ok (.aload_n 1, 1) := by decide +kernel
theorem dX2_perform_284 : decode cX2_perform 284 = .ok (.lload 6, 2) := by decide +kernel
theorem dX2_perform_286 : decode cX2_perform 286 = .ok (.invokevirtual 175, 3) := by decide +kernel
theorem dX2_perform_289 : decode cX2_perform 289 = .ok (.ireturn, 1) := by decide +kernel
theorem dX2_perform_290 : decode cX2_perform 290 = .ok (.aload_n 0, 1) := by decide +kernel
theorem dX2_perform_291 : decode cX2_perform 291 = .ok (.aload_n 1, 1) := by decide +kernel
theorem dX2_perform_292 : decode cX2_perform 292 = .ok (.lload 6, 2) := by decide +kernel
theorem dX2_perform_294 : decode cX2_perform 294 = .ok (.invokevirtual 179, 3) := by decide +kernel
theorem dX2_perform_297 : decode cX2_perform 297 = .ok (.ireturn, 1) := by decide +kernel
theorem dX2_perform_298 : decode cX2_perform 298 = .ok (.aload_n 0, 1) := by decide +kernel
theorem dX2_perform_299 : decode cX2_perform 299 = .ok (.aload_n 1, 1) := by decide +kernel
theorem dX2_perform_300 : decode cX2_perform 300 = .ok (.iload 4, 2) := by decide +kernel
theorem dX2_perform_302 : decode cX2_perform 302 = .ok (.invokevirtual 182, 3) := by decide +kernel
theorem dX2_perform_305 : decode cX2_perform 305 = .ok (.ireturn, 1) := by decide +kernel
theorem dX2_reckon_0 : decode cX2_reckon 0 = .ok (.aload_n 1, 1) := by decide +kernel
theorem dX2_reckon_1 : decode cX2_reckon 1 = .ok (.getfield 122, 3) := by decide +kernel
theorem dX2_reckon_4 : decode cX2_reckon 4 = .ok (.aload_n 1, 1) := by decide +kernel
theorem dX2_reckon_5 : decode cX2_reckon 5 = .ok (.getfield 126, 3) := by decide +kernel
theorem dX2_reckon_8 : decode cX2_reckon 8 = .ok (.invokevirtual 133, 3) := by decide +kernel
theorem dX2_reckon_11 : decode cX2_reckon 11 = .ok (.istore_n 3, 1) := by decide +kernel
theorem dX2_reckon_12 : decode cX2_reckon 12 = .ok (.aload_n 1, 1) := by decide +kernel
theorem dX2_reckon_13 : decode cX2_reckon 13 = .ok (.iload_n 3, 1) := by decide +kernel
theorem dX2_reckon_14 : decode cX2_reckon 14 = .ok (.invokevirtual 147, 3) := by decide +kernel
theorem dX2_reckon_17 : decode cX2_reckon 17 = .ok (.lstore 4, 2) := by decide +kernel
theorem dX2_reckon_19 : decode cX2_reckon 19 = .ok (.aload_n 1, 1) := by decide +kernel
theorem dX2_reckon_20 : decode cX2_reckon 20 = .ok (.aload_n 1, 1) := by decide +kernel
theorem dX2_reckon_21 : decode cX2_reckon 21 = .ok (.getfield 122, 3) := by decide +kernel
theorem dX2_reckon_24 : decode cX2_reckon 24 = .ok (.aload_n 1, 1) := by decide +kernel
theorem dX2_reckon_25 : decode cX2_reckon 25 = .ok (.getfield 126, 3) := by decide +kernel
theorem dX2_reckon_28 : decode cX2_reckon 28 = .ok (.invokevirtual 185, 3) := by decide +kernel
theorem dX2_reckon_31 : decode cX2_reckon 31 = .ok (.invokevirtual 147, 3) := by decide +kernel
theorem dX2_reckon_34 : decode cX2_reckon 34 = .ok (.lstore 6, 2) := by decide +kernel
theorem dX2_reckon_36 : decode cX2_reckon 36 = .ok (.iload_n 2, 1) := by decide +kernel
theorem dX2_reckon_37 : decode cX2_reckon 37 = .ok (.tableswitch 63 1 3 #[27, 39, 51], 27) := by decide +kernel
theorem dX2_reckon_64 : decode cX2_reckon 64 = .ok (.aload_n 1, 1) := by decide +kernel
theorem dX2_reckon_65 : decode cX2_reckon 65 = .ok (.iload_n 3, 1) := by decide +kernel
theorem dX2_reckon_66 : decode cX2_reckon 66 = .ok (.lload 4, 2) := by decide +kernel
theorem dX2_reckon_68 : decode cX2_reckon 68 = .ok (.lload 6, 2) := by decide +kernel
theorem dX2_reckon_70 : decode cX2_reckon 70 = .ok (.ladd, 1) := by decide +kernel
theorem dX2_reckon_71 : decode cX2_reckon 71 = .ok (.invokevirtual 139, 3) := by decide +kernel
theorem dX2_reckon_74 : decode cX2_reckon 74 = .ok (.iconst 0, 1) := by decide +kernel
theorem dX2_reckon_75 : decode cX2_reckon 75 = .ok (.ireturn, 1) := by decide +kernel
theorem dX2_reckon_76 : decode cX2_reckon 76 = .ok (.aload_n 1, 1) := by decide +kernel
theorem dX2_reckon_77 : decode cX2_reckon 77 = .ok (.iload_n 3, 1) := by decide +kernel
theorem dX2_reckon_78 : decode cX2_reckon 78 = .ok (.lload 4, 2) := by decide +kernel
theorem dX2_reckon_80 : decode cX2_reckon 80 = .ok (.lload 6, 2) := by decide +kernel
theorem dX2_reckon_82 : decode cX2_reckon 82 = .ok (.lsub, 1) := by decide +kernel
theorem dX2_reckon_83 : decode cX2_reckon 83 = .ok (.invokevirtual 139, 3) := by decide +kernel
theorem dX2_reckon_86 : decode cX2_reckon 86 = .ok (.iconst 0, 1) := by decide +kernel
theorem dX2_reckon_87 : decode cX2_reckon 87 = .ok (.ireturn, 1) := by decide +kernel
theorem dX2_reckon_88 : decode cX2_reckon 88 = .ok (.aload_n 1, 1) := by decide +kernel
theorem dX2_reckon_89 : decode cX2_reckon 89 = .ok (.iload_n 3, 1) := by decide +kernel
theorem dX2_reckon_90 : decode cX2_reckon 90 = .ok (.lload 4, 2) := by decide +kernel
theorem dX2_reckon_92 : decode cX2_reckon 92 = .ok (.lload 6, 2) := by decide +kernel
theorem dX2_reckon_94 : decode cX2_reckon 94 = .ok (.lmul, 1) := by decide +kernel
theorem dX2_reckon_95 : decode cX2_reckon 95 = .ok (.invokevirtual 139, 3) := by decide +kernel
theorem dX2_reckon_98 : decode cX2_reckon 98 = .ok (.iconst 0, 1) := by decide +kernel
theorem dX2_reckon_99 : decode cX2_reckon 99 = .ok (.ireturn, 1) := by decide +kernel
theorem dX2_reckon_100 : decode cX2_reckon 100 = .ok (.lload 6, 2) := by decide +kernel
theorem dX2_reckon_102 : decode cX2_reckon 102 = .ok (.lconst 0, 1) := by decide +kernel
theorem dX2_reckon_103 : decode cX2_reckon 103 = .ok (.lcmp, 1) := by decide +kernel
theorem dX2_reckon_104 : decode cX2_reckon 104 = .ok (.ifCond .ne 6, 3) := by decide +kernel
theorem dX2_reckon_107 : decode cX2_reckon 107 = .ok (.bipush 6, 2) := by decide +kernel
theorem dX2_reckon_109 : decode cX2_reckon 109 = .ok (.ireturn, 1) := by decide +kernel
theorem dX2_reckon_110 : decode cX2_reckon 110 = .ok (.aload_n 1, 1) := by decide +kernel
theorem dX2_reckon_111 : decode cX2_reckon 111 = .ok (.iload_n 3, 1) := by decide +kernel
theorem dX2_reckon_112 : decode cX2_reckon 112 = .ok (.iload_n 2, 1) := by decide +kernel
theorem dX2_reckon_113 : decode cX2_reckon 113 = .ok (.iconst 4, 1) := by decide +kernel
theorem dX2_reckon_114 : decode cX2_reckon 114 = .ok (.if_icmp .ne 11, 3) := by decide +kernel
theorem dX2_reckon_117 : decode cX2_reckon 117 = .ok (.lload 4, 2) := by decide +kernel
theorem dX2_reckon_119 : decode cX2_reckon 119 = .ok (.lload 6, 2) := by decide +kernel
theorem dX2_reckon_121 : decode cX2_reckon 121 = .ok (.ldiv, 1) := by decide +kernel
theorem dX2_reckon_122 : decode cX2_reckon 122 = .ok (.goto 8, 3) := by decide +kernel
theorem dX2_reckon_125 : decode cX2_reckon 125 = .ok (.lload 4, 2) := by decide +kernel
theorem dX2_reckon_127 : decode cX2_reckon 127 = .ok (.lload 6, 2) := by decide +kernel
theorem dX2_reckon_129 : decode cX2_reckon 129 = .ok (.lrem, 1) := by decide +kernel
theorem dX2_reckon_130 : decode cX2_reckon 130 = .ok (.invokevirtual 139, 3) := by decide +kernel
theorem dX2_reckon_133 : decode cX2_reckon 133 = .ok (.iconst 0, 1) := by decide +kernel
theorem dX2_reckon_134 : decode cX2_reckon 134 = .ok (.ireturn, 1) := by decide +kernel
theorem dX2_leap_0 : decode cX2_leap 0 = .ok (.aload_n 2, 1) := by decide +kernel
theorem dX2_leap_1 : decode cX2_leap 1 = .ok (.aload_n 1, 1) := by decide +kernel
theorem dX2_leap_2 : decode cX2_leap 2 = .ok (.aload_n 0, 1) := by decide +kernel
theorem dX2_leap_3 : decode cX2_leap 3 = .ok (.getfield 20, 3) := by decide +kernel
theorem dX2_leap_6 : decode cX2_leap 6 = .ok (.invokeinterface 188 3, 5) := by decide +kernel
theorem dX2_leap_11 : decode cX2_leap 11 = .ok (.ifCond .ne 7, 3) := by decide +kernel
theorem dX2_leap_14 : decode cX2_leap 14 = .ok (.aload_n 0, 1) := by decide +kernel
theorem dX2_leap_15 : decode cX2_leap 15 = .ok (.invokevirtual 90, 3) := by decide +kernel
theorem dX2_leap_18 : decode cX2_leap 18 = .ok (.return_, 1) := by decide +kernel
theorem dX2_make_0 : decode cX2_make 0 = .ok (.aload_n 1, 1) := by decide +kernel
theorem dX2_make_1 : decode cX2_make 1 = .ok (.getfield 191, 3) := by decide +kernel
theorem dX2_make_4 : decode cX2_make 4 = .ok (.iload_n 2, 1) := by decide +kernel
theorem dX2_make_5 : decode cX2_make 5 = .ok (.lload_n 3, 1) := by decide +kernel
theorem dX2_make_6 : decode cX2_make 6 = .ok (.invokevirtual 195, 3) := by decide +kernel
theorem dX2_make_9 : decode cX2_make 9 = .ok (.istore 5, 2) := by decide +kernel
theorem dX2_make_11 : decode cX2_make 11 = .ok (.iload 5, 2) := by decide +kernel
theorem dX2_make_13 : decode cX2_make 13 = .ok (.ifCond .ne 16, 3) := by decide +kernel
theorem dX2_make_16 : decode cX2_make 16 = .ok (.aload_n 0, 1) := by decide +kernel
theorem dX2_make_17 : decode cX2_make 17 = .ok (.getfield 20, 3) := by decide +kernel
theorem dX2_make_20 : decode cX2_make 20 = .ok (.dup, 1) := by decide +kernel
theorem dX2_make_21 : decode cX2_make 21 = .ok (.getfield 200, 3) := by decide +kernel
theorem dX2_make_24 : decode cX2_make 24 = .ok (.iconst 1, 1) := by decide +kernel
theorem dX2_make_25 : decode cX2_make 25 = .ok (.iadd, 1) := by decide +kernel
theorem dX2_make_26 : decode cX2_make 26 = .ok (.putfield 200, 3) := by decide +kernel
theorem dX2_make_29 : decode cX2_make 29 = .ok (.iload 5, 2) := by decide +kernel
theorem dX2_make_31 : decode cX2_make 31 = .ok (.ireturn, 1) := by decide +kernel
theorem dX2_look_0 : decode cX2_look 0 = .ok (.aload_n 1, 1) := by decide +kernel
theorem dX2_look_1 : decode cX2_look 1 = .ok (.getfield 191, 3) := by decide +kernel
theorem dX2_look_4 : decode cX2_look 4 = .ok (.astore_n 3, 1) := by decide +kernel
theorem dX2_look_5 : decode cX2_look 5 = .ok (.aload_n 1, 1) := by decide +kernel
theorem dX2_look_6 : decode cX2_look 6 = .ok (.getfield 122, 3) := by decide +kernel
theorem dX2_look_9 : decode cX2_look 9 = .ok (.aload_n 1, 1) := by decide +kernel
theorem dX2_look_10 : decode cX2_look 10 = .ok (.getfield 126, 3) := by decide +kernel
theorem dX2_look_13 : decode cX2_look 13 = .ok (.invokevirtual 133, 3) := by decide +kernel
theorem dX2_look_16 : decode cX2_look 16 = .ok (.istore 4, 2) := by decide +kernel
theorem dX2_look_18 : decode cX2_look 18 = .ok (.aload_n 1, 1) := by decide +kernel
theorem dX2_look_19 : decode cX2_look 19 = .ok (.aload_n 1, 1) := by decide +kernel
theorem dX2_look_20 : decode cX2_look 20 = .ok (.getfield 122, 3) := by decide +kernel
theorem dX2_look_23 : decode cX2_look 23 = .ok (.aload_n 1, 1) := by decide +kernel
theorem dX2_look_24 : decode cX2_look 24 = .ok (.getfield 126, 3) := by decide +kernel
theorem dX2_look_27 : decode cX2_look 27 = .ok (.invokevirtual 185, 3) := by decide +kernel
theorem dX2_look_30 : decode cX2_look 30 = .ok (.invokevirtual 147, 3) := by decide +kernel
theorem dX2_look_33 : decode cX2_look 33 = .ok (.lstore 5, 2) := by decide +kernel
theorem dX2_look_35 : decode cX2_look 35 = .ok (.iload_n 2, 1) := by decide +kernel
theorem dX2_look_36 : decode cX2_look 36 = .ok (.bipush 10, 2) := by decide +kernel
theorem dX2_look_38 : decode cX2_look 38 = .ok (.if_icmp .ne 16, 3) := by decide +kernel
theorem dX2_look_41 : decode cX2_look 41 = .ok (.aload_n 3, 1) := by decide +kernel
theorem dX2_look_42 : decode cX2_look 42 = .ok (.lload 5, 2) := by decide +kernel
theorem dX2_look_44 : decode cX2_look 44 = .ok (.aload_n 1, 1) := by decide +kernel
theorem dX2_look_45 : decode cX2_look 45 = .ok (.iload 4, 2) := by decide +kernel
theorem dX2_look_47 : decode cX2_look 47 = .ok (.invokevirtual 147, 3) := by decide +kernel
theorem dX2_look_50 : decode cX2_look 50 = .ok (.invokevirtual 203, 3) := by decide +kernel
theorem dX2_look_53 : decode cX2_look 53 = .ok (.ireturn, 1) := by decide +kernel
theorem dX2_look_54 : decode cX2_look 54 = .ok (.iload_n 2, 1) := by decide +kernel
theorem dX2_look_55 : decode cX2_look 55 = .ok (.bipush 11, 2) := by decide +kernel
theorem dX2_look_57 : decode cX2_look 57 = .ok (.if_icmp .ne 27, 3) := by decide +kernel
theorem dX2_look_60 : decode cX2_look 60 = .ok (.aload_n 3, 1) := by decide +kernel
theorem dX2_look_61 : decode cX2_look 61 = .ok (.aload_n 1, 1) := by decide +kernel
theorem dX2_look_62 : decode cX2_look 62 = .ok (.getfield 122, 3) := by decide +kernel
theorem dX2_look_65 : decode cX2_look 65 = .ok (.aload_n 1, 1) := by decide +kernel
theorem dX2_look_66 : decode cX2_look 66 = .ok (.getfield 126, 3) := by decide +kernel
theorem dX2_look_69 : decode cX2_look 69 = .ok (.invokevirtual 136, 3) := by decide +kernel
theorem dX2_look_72 : decode cX2_look 72 = .ok (.invokevirtual 207, 3) := by decide +kernel
theorem dX2_look_75 : decode cX2_look 75 = .ok (.ifCond .eq 7, 3) := by decide +kernel
theorem dX2_look_78 : decode cX2_look 78 = .ok (.iconst 0, 1) := by decide +kernel
theorem dX2_look_79 : decode cX2_look 79 = .ok (.goto 4, 3) := by decide +kernel
theorem dX2_look_82 : decode cX2_look 82 = .ok (.iconst 5, 1) := by decide +kernel
theorem dX2_look_83 : decode cX2_look 83 = .ok (.ireturn, 1) := by decide +kernel
theorem dX2_look_84 : decode cX2_look 84 = .ok (.iload_n 2, 1) := by decide +kernel
theorem dX2_look_85 : decode cX2_look 85 = .ok (.bipush 12, 2) := by decide +kernel
theorem dX2_look_87 : decode cX2_look 87 = .ok (.if_icmp .ne 26, 3) := by decide +kernel
theorem dX2_look_90 : decode cX2_look 90 = .ok (.aload_n 3, 1) := by decide +kernel
theorem dX2_look_91 : decode cX2_look 91 = .ok (.getfield 211, 3) := by decide +kernel
theorem dX2_look_94 : decode cX2_look 94 = .ok (.iconst (-1), 1) := by decide +kernel
theorem dX2_look_95 : decode cX2_look 95 = .ok (.if_icmp .ne 5, 3) := by decide +kernel
theorem dX2_look_98 : decode cX2_look 98 = .ok (.iconst 1, 1) := by decide +kernel
theorem dX2_look_99 : decode cX2_look 99 = .ok (.ireturn, 1) := by decide +kernel
theorem dX2_look_100 : decode cX2_look 100 = .ok (.aload_n 1, 1) := by decide +kernel
theorem dX2_look_101 : decode cX2_look 101 = .ok (.iload 4, 2) := by decide +kernel
theorem dX2_look_103 : decode cX2_look 103 = .ok (.aload_n 3, 1) := by decide +kernel
theorem dX2_look_104 : decode cX2_look 104 = .ok (.getfield 214, 3) := by decide +kernel
theorem dX2_look_107 : decode cX2_look 107 = .ok (.i2l, 1) := by decide +kernel
theorem dX2_look_108 : decode cX2_look 108 = .ok (.invokevirtual 139, 3) := by decide +kernel
theorem dX2_look_111 : decode cX2_look 111 = .ok (.iconst 0, 1) := by decide +kernel
theorem dX2_look_112 : decode cX2_look 112 = .ok (.ireturn, 1) := by decide +kernel
theorem dX2_look_113 : decode cX2_look 113 = .ok (.aload_n 3, 1) := by decide +kernel
theorem dX2_look_114 : decode cX2_look 114 = .ok (.lload 5, 2) := by decide +kernel
theorem dX2_look_116 : decode cX2_look 116 = .ok (.invokevirtual 217, 3) := by decide +kernel
theorem dX2_look_119 : decode cX2_look 119 = .ok (.istore 7, 2) := by decide +kernel
theorem dX2_look_121 : decode cX2_look 121 = .ok (.iload 7, 2) := by decide +kernel
theorem dX2_look_123 : decode cX2_look 123 = .ok (.ifCond .ne 15, 3) := by decide +kernel
theorem dX2_look_126 : decode cX2_look 126 = .ok (.aload_n 1, 1) := by decide +kernel
theorem dX2_look_127 : decode cX2_look 127 = .ok (.iload 4, 2) := by decide +kernel
theorem dX2_look_129 : decode cX2_look 129 = .ok (.aload_n 3, 1) := by decide +kernel
theorem dX2_look_130 : decode cX2_look 130 = .ok (.lload 5, 2) := by decide +kernel
theorem dX2_look_132 : decode cX2_look 132 = .ok (.invokevirtual 221, 3) := by decide +kernel
theorem dX2_look_135 : decode cX2_look 135 = .ok (.invokevirtual 139, 3) := by decide +kernel
theorem dX2_look_138 : decode cX2_look 138 = .ok (.iload 7, 2) := by decide +kernel
theorem dX2_look_140 : decode cX2_look 140 = .ok (.ireturn, 1) := by decide +kernel
theorem dX2_giveBack_0 : decode cX2_giveBack 0 = .ok (.aload_n 0, 1) := by decide +kernel
theorem dX2_giveBack_1 : decode cX2_giveBack 1 = .ok (.aload_n 1, 1) := by decide +kernel
theorem dX2_giveBack_2 : decode cX2_giveBack 2 = .ok (.invokevirtual 225, 3) := by decide +kernel
theorem dX2_giveBack_5 : decode cX2_giveBack 5 = .ok (.aload_n 0, 1) := by decide +kernel
