theorem dX2_giveBack_6 : decode cX2_giveBack 6 = .ok (.invokevirtual 76, 3) := by decide +kernel
theorem dX2_giveBack_9 : decode cX2_giveBack 9 = .ok (.astore 4, 2) := by decide +kernel
theorem dX2_giveBack_11 : decode cX2_giveBack 11 = .ok (.aload 4, 2) := by decide +kernel
theorem dX2_giveBack_13 : decode cX2_giveBack 13 = .ok (.ifnonnull 19, 3) := by decide +kernel
theorem dX2_giveBack_16 : decode cX2_giveBack 16 = .ok (.aload_n 0, 1) := by decide +kernel
theorem dX2_giveBack_17 : decode cX2_giveBack 17 = .ok (.getfield 20, 3) := by decide +kernel
theorem dX2_giveBack_20 : decode cX2_giveBack 20 = .ok (.lload_n 2, 1) := by decide +kernel
theorem dX2_giveBack_21 : decode cX2_giveBack 21 = .ok (.putfield 229, 3) := by decide +kernel
theorem dX2_giveBack_24 : decode cX2_giveBack 24 = .ok (.aload_n 0, 1) := by decide +kernel
theorem dX2_giveBack_25 : decode cX2_giveBack 25 = .ok (.iconst 0, 1) := by decide +kernel
theorem dX2_giveBack_26 : decode cX2_giveBack 26 = .ok (.putfield 34, 3) := by decide +kernel
theorem dX2_giveBack_29 : decode cX2_giveBack 29 = .ok (.goto 22, 3) := by decide +kernel
theorem dX2_giveBack_32 : decode cX2_giveBack 32 = .ok (.aload 4, 2) := by decide +kernel
theorem dX2_giveBack_34 : decode cX2_giveBack 34 = .ok (.aload 4, 2) := by decide +kernel
theorem dX2_giveBack_36 : decode cX2_giveBack 36 = .ok (.getfield 122, 3) := by decide +kernel
theorem dX2_giveBack_39 : decode cX2_giveBack 39 = .ok (.aload 4, 2) := by decide +kernel
theorem dX2_giveBack_41 : decode cX2_giveBack 41 = .ok (.getfield 126, 3) := by decide +kernel
theorem dX2_giveBack_44 : decode cX2_giveBack 44 = .ok (.invokevirtual 133, 3) := by decide +kernel
theorem dX2_giveBack_47 : decode cX2_giveBack 47 = .ok (.lload_n 2, 1) := by decide +kernel
theorem dX2_giveBack_48 : decode cX2_giveBack 48 = .ok (.invokevirtual 139, 3) := by decide +kernel
theorem dX2_giveBack_51 : decode cX2_giveBack 51 = .ok (.return_, 1) := by decide +kernel
theorem dX2_hold_0 : decode cX2_hold 0 = .ok (.aload_n 1, 1) := by decide +kernel
theorem dX2_hold_1 : decode cX2_hold 1 = .ok (.lload_n 2, 1) := by decide +kernel
theorem dX2_hold_2 : decode cX2_hold 2 = .ok (.invokevirtual 233, 3) := by decide +kernel
theorem dX2_hold_5 : decode cX2_hold 5 = .ok (.ifCond .eq 34, 3) := by decide +kernel
theorem dX2_hold_8 : decode cX2_hold 8 = .ok (.aload_n 0, 1) := by decide +kernel
theorem dX2_hold_9 : decode cX2_hold 9 = .ok (.dup, 1) := by decide +kernel
theorem dX2_hold_10 : decode cX2_hold 10 = .ok (.getfield 28, 3) := by decide +kernel
theorem dX2_hold_13 : decode cX2_hold 13 = .ok (.iconst 1, 1) := by decide +kernel
theorem dX2_hold_14 : decode cX2_hold 14 = .ok (.iadd, 1) := by decide +kernel
theorem dX2_hold_15 : decode cX2_hold 15 = .ok (.putfield 28, 3) := by decide +kernel
theorem dX2_hold_18 : decode cX2_hold 18 = .ok (.aload_n 0, 1) := by decide +kernel
theorem dX2_hold_19 : decode cX2_hold 19 = .ok (.getfield 20, 3) := by decide +kernel
theorem dX2_hold_22 : decode cX2_hold 22 = .ok (.aload_n 0, 1) := by decide +kernel
theorem dX2_hold_23 : decode cX2_hold 23 = .ok (.getfield 20, 3) := by decide +kernel
theorem dX2_hold_26 : decode cX2_hold 26 = .ok (.getfield 235, 3) := by decide +kernel
theorem dX2_hold_29 : decode cX2_hold 29 = .ok (.aload_n 0, 1) := by decide +kernel
theorem dX2_hold_30 : decode cX2_hold 30 = .ok (.getfield 28, 3) := by decide +kernel
theorem dX2_hold_33 : decode cX2_hold 33 = .ok (.invokestatic 113, 3) := by decide +kernel
theorem dX2_hold_36 : decode cX2_hold 36 = .ok (.putfield 235, 3) := by decide +kernel
theorem dX2_hold_39 : decode cX2_hold 39 = .ok (.iconst 0, 1) := by decide +kernel
theorem dX2_hold_40 : decode cX2_hold 40 = .ok (.ireturn, 1) := by decide +kernel
theorem dX2_let_0 : decode cX2_let 0 = .ok (.aload_n 1, 1) := by decide +kernel
theorem dX2_let_1 : decode cX2_let 1 = .ok (.lload_n 2, 1) := by decide +kernel
theorem dX2_let_2 : decode cX2_let 2 = .ok (.invokevirtual 238, 3) := by decide +kernel
theorem dX2_let_5 : decode cX2_let 5 = .ok (.ifCond .ne 6, 3) := by decide +kernel
theorem dX2_let_8 : decode cX2_let 8 = .ok (.bipush 7, 2) := by decide +kernel
theorem dX2_let_10 : decode cX2_let 10 = .ok (.ireturn, 1) := by decide +kernel
theorem dX2_let_11 : decode cX2_let 11 = .ok (.aload_n 0, 1) := by decide +kernel
theorem dX2_let_12 : decode cX2_let 12 = .ok (.dup, 1) := by decide +kernel
theorem dX2_let_13 : decode cX2_let 13 = .ok (.getfield 28, 3) := by decide +kernel
theorem dX2_let_16 : decode cX2_let 16 = .ok (.iconst 1, 1) := by decide +kernel
theorem dX2_let_17 : decode cX2_let 17 = .ok (.isub, 1) := by decide +kernel
theorem dX2_let_18 : decode cX2_let 18 = .ok (.putfield 28, 3) := by decide +kernel
theorem dX2_let_21 : decode cX2_let 21 = .ok (.iconst 0, 1) := by decide +kernel
theorem dX2_let_22 : decode cX2_let 22 = .ok (.ireturn, 1) := by decide +kernel
theorem dX2_raise_0 : decode cX2_raise 0 = .ok (.iconst 0, 1) := by decide +kernel
theorem dX2_raise_1 : decode cX2_raise 1 = .ok (.istore_n 3, 1) := by decide +kernel
theorem dX2_raise_2 : decode cX2_raise 2 = .ok (.iload_n 3, 1) := by decide +kernel
theorem dX2_raise_3 : decode cX2_raise 3 = .ok (.bipush 12, 2) := by decide +kernel
theorem dX2_raise_5 : decode cX2_raise 5 = .ok (.if_icmp .ge 62, 3) := by decide +kernel
theorem dX2_raise_8 : decode cX2_raise 8 = .ok (.aload_n 0, 1) := by decide +kernel
theorem dX2_raise_9 : decode cX2_raise 9 = .ok (.invokevirtual 76, 3) := by decide +kernel
theorem dX2_raise_12 : decode cX2_raise 12 = .ok (.astore 4, 2) := by decide +kernel
theorem dX2_raise_14 : decode cX2_raise 14 = .ok (.aload 4, 2) := by decide +kernel
theorem dX2_raise_16 : decode cX2_raise 16 = .ok (.ifnonnull 6, 3) := by decide +kernel
theorem dX2_raise_19 : decode cX2_raise 19 = .ok (.goto 48, 3) := by decide +kernel
theorem dX2_raise_22 : decode cX2_raise 22 = .ok (.aload 4, 2) := by decide +kernel
theorem dX2_raise_24 : decode cX2_raise 24 = .ok (.getfield 122, 3) := by decide +kernel
theorem dX2_raise_27 : decode cX2_raise 27 = .ok (.aload 4, 2) := by decide +kernel
theorem dX2_raise_29 : decode cX2_raise 29 = .ok (.getfield 126, 3) := by decide +kernel
theorem dX2_raise_32 : decode cX2_raise 32 = .ok (.iload_n 1, 1) := by decide +kernel
theorem dX2_raise_33 : decode cX2_raise 33 = .ok (.invokevirtual 240, 3) := by decide +kernel
theorem dX2_raise_36 : decode cX2_raise 36 = .ok (.istore 5, 2) := by decide +kernel
theorem dX2_raise_38 : decode cX2_raise 38 = .ok (.iload 5, 2) := by decide +kernel
theorem dX2_raise_40 : decode cX2_raise 40 = .ok (.iconst (-1), 1) := by decide +kernel
theorem dX2_raise_41 : decode cX2_raise 41 = .ok (.if_icmp .eq 14, 3) := by decide +kernel
theorem dX2_raise_44 : decode cX2_raise 44 = .ok (.aload_n 0, 1) := by decide +kernel
theorem dX2_raise_45 : decode cX2_raise 45 = .ok (.aload 4, 2) := by decide +kernel
theorem dX2_raise_47 : decode cX2_raise 47 = .ok (.iload 5, 2) := by decide +kernel
theorem dX2_raise_49 : decode cX2_raise 49 = .ok (.iload_n 1, 1) := by decide +kernel
theorem dX2_raise_50 : decode cX2_raise 50 = .ok (.aload_n 2, 1) := by decide +kernel
theorem dX2_raise_51 : decode cX2_raise 51 = .ok (.invokevirtual 243, 3) := by decide +kernel
theorem dX2_raise_54 : decode cX2_raise 54 = .ok (.return_, 1) := by decide +kernel
theorem dX2_raise_55 : decode cX2_raise 55 = .ok (.aload_n 0, 1) := by decide +kernel
theorem dX2_raise_56 : decode cX2_raise 56 = .ok (.aload 4, 2) := by decide +kernel
theorem dX2_raise_58 : decode cX2_raise 58 = .ok (.invokevirtual 225, 3) := by decide +kernel
theorem dX2_raise_61 : decode cX2_raise 61 = .ok (.iinc 3 1, 3) := by decide +kernel
theorem dX2_raise_64 : decode cX2_raise 64 = .ok (.goto (-62), 3) := by decide +kernel
theorem dX2_raise_67 : decode cX2_raise 67 = .ok (.aload_n 0, 1) := by decide +kernel
theorem dX2_raise_68 : decode cX2_raise 68 = .ok (.getfield 20, 3) := by decide +kernel
theorem dX2_raise_71 : decode cX2_raise 71 = .ok (.iload_n 1, 1) := by decide +kernel
theorem dX2_raise_72 : decode cX2_raise 72 = .ok (.putfield 247, 3) := by decide +kernel
theorem dX2_raise_75 : decode cX2_raise 75 = .ok (.aload_n 0, 1) := by decide +kernel
theorem dX2_raise_76 : decode cX2_raise 76 = .ok (.getfield 20, 3) := by decide +kernel
theorem dX2_raise_79 : decode cX2_raise 79 = .ok (.aload_n 0, 1) := by decide +kernel
theorem dX2_raise_80 : decode cX2_raise 80 = .ok (.getfield 31, 3) := by decide +kernel
theorem dX2_raise_83 : decode cX2_raise 83 = .ok (.putfield 250, 3) := by decide +kernel
theorem dX2_raise_86 : decode cX2_raise 86 = .ok (.aload_n 0, 1) := by decide +kernel
theorem dX2_raise_87 : decode cX2_raise 87 = .ok (.iconst 2, 1) := by decide +kernel
theorem dX2_raise_88 : decode cX2_raise 88 = .ok (.putfield 34, 3) := by decide +kernel
theorem dX2_raise_91 : decode cX2_raise 91 = .ok (.return_, 1) := by decide +kernel
theorem dX2_handOver_0 : decode cX2_handOver 0 = .ok (.aload_n 0, 1) := by decide +kernel
theorem dX2_handOver_1 : decode cX2_handOver 1 = .ok (.getfield 20, 3) := by decide +kernel
theorem dX2_handOver_4 : decode cX2_handOver 4 = .ok (.getfield 253, 3) := by decide +kernel
theorem dX2_handOver_7 : decode cX2_handOver 7 = .ok (.bipush 30, 2) := by decide +kernel
theorem dX2_handOver_9 : decode cX2_handOver 9 = .ok (.if_icmp .ge 19, 3) := by decide +kernel
theorem dX2_handOver_12 : decode cX2_handOver 12 = .ok (.aload 4, 2) := by decide +kernel
theorem dX2_handOver_14 : decode cX2_handOver 14 = .ok (.aload_n 1, 1) := by decide +kernel
theorem dX2_handOver_15 : decode cX2_handOver 15 = .ok (.iload_n 2, 1) := by decide +kernel
theorem dX2_handOver_16 : decode cX2_handOver 16 = .ok (.aload_n 0, 1) := by decide +kernel
theorem dX2_handOver_17 : decode cX2_handOver 17 = .ok (.getfield 20, 3) := by decide +kernel
theorem dX2_handOver_20 : decode cX2_handOver 20 = .ok (.invokeinterface 256 4, 5) := by decide +kernel
theorem dX2_handOver_25 : decode cX2_handOver 25 = .ok (.ifCond .ne 8, 3) := by decide +kernel
theorem dX2_handOver_28 : decode cX2_handOver 28 = .ok (.aload_n 0, 1) := by decide +kernel
theorem dX2_handOver_29 : decode cX2_handOver 29 = .ok (.invokevirtual 90, 3) := by decide +kernel
theorem dX2_handOver_32 : decode cX2_handOver 32 = .ok (.return_, 1) := by decide +kernel
theorem dX2_handOver_33 : decode cX2_handOver 33 = .ok (.aload_n 0, 1) := by decide +kernel
theorem dX2_handOver_34 : decode cX2_handOver 34 = .ok (.getfield 20, 3) := by decide +kernel
theorem dX2_handOver_37 : decode cX2_handOver 37 = .ok (.dup, 1) := by decide +kernel
theorem dX2_handOver_38 : decode cX2_handOver 38 = .ok (.getfield 253, 3) := by decide +kernel
theorem dX2_handOver_41 : decode cX2_handOver 41 = .ok (.iconst 1, 1) := by decide +kernel
theorem dX2_handOver_42 : decode cX2_handOver 42 = .ok (.iadd, 1) := by decide +kernel
theorem dX2_handOver_43 : decode cX2_handOver 43 = .ok (.putfield 253, 3) := by decide +kernel
theorem dX2_handOver_46 : decode cX2_handOver 46 = .ok (.aload_n 1, 1) := by decide +kernel
theorem dX2_handOver_47 : decode cX2_handOver 47 = .ok (.iload_n 3, 1) := by decide +kernel
theorem dX2_handOver_48 : decode cX2_handOver 48 = .ok (.putfield 172, 3) := by decide +kernel
theorem dX2_handOver_51 : decode cX2_handOver 51 = .ok (.aload_n 1, 1) := by decide +kernel
theorem dX2_handOver_52 : decode cX2_handOver 52 = .ok (.aload_n 0, 1) := by decide +kernel
theorem dX2_handOver_53 : decode cX2_handOver 53 = .ok (.getfield 31, 3) := by decide +kernel
theorem dX2_handOver_56 : decode cX2_handOver 56 = .ok (.putfield 169, 3) := by decide +kernel
theorem dX2_handOver_59 : decode cX2_handOver 59 = .ok (.return_, 1) := by decide +kernel
theorem dX3_init_0 : decode cX3_init 0 = .ok (.aload_n 0, 1) := by decide +kernel
theorem dX3_init_1 : decode cX3_init 1 = .ok (.invokespecial 3, 3) := by decide +kernel
theorem dX3_init_4 : decode cX3_init 4 = .ok (.return_, 1) := by decide +kernel
theorem dX3_enter_0 : decode cX3_enter 0 = .ok (.aload_n 1, 1) := by decide +kernel
theorem dX3_enter_1 : decode cX3_enter 1 = .ok (.iconst 0, 1) := by decide +kernel
theorem dX3_enter_2 : decode cX3_enter 2 = .ok (.putfield 9, 3) := by decide +kernel
theorem dX3_enter_5 : decode cX3_enter 5 = .ok (.aload_n 1, 1) := by decide +kernel
theorem dX3_enter_6 : decode cX3_enter 6 = .ok (.aload_n 2, 1) := by decide +kernel
theorem dX3_enter_7 : decode cX3_enter 7 = .ok (.invokestatic 15, 3) := by decide +kernel
theorem dX3_enter_10 : decode cX3_enter 10 = .ok (.ireturn, 1) := by decide +kernel
theorem dX3_fetch_0 : decode cX3_fetch 0 = .ok (.aload_n 1, 1) := by decide +kernel
theorem dX3_fetch_1 : decode cX3_fetch 1 = .ok (.getfield 21, 3) := by decide +kernel
theorem dX3_fetch_4 : decode cX3_fetch 4 = .ok (.getfield 25, 3) := by decide +kernel
theorem dX3_fetch_7 : decode cX3_fetch 7 = .ok (.astore_n 3, 1) := by decide +kernel
theorem dX3_fetch_8 : decode cX3_fetch 8 = .ok (.iconst 0, 1) := by decide +kernel
theorem dX3_fetch_9 : decode cX3_fetch 9 = .ok (.istore 4, 2) := by decide +kernel
theorem dX3_fetch_11 : decode cX3_fetch 11 = .ok (.iload 4, 2) := by decide +kernel
theorem dX3_fetch_13 : decode cX3_fetch 13 = .ok (.bipush 70, 2) := by decide +kernel
theorem dX3_fetch_15 : decode cX3_fetch 15 = .ok (.if_icmp .ge 62, 3) := by decide +kernel
theorem dX3_fetch_18 : decode cX3_fetch 18 = .ok (.aload_n 3, 1) := by decide +kernel
theorem dX3_fetch_19 : decode cX3_fetch 19 = .ok (.aload_n 1, 1) := by decide +kernel
theorem dX3_fetch_20 : decode cX3_fetch 20 = .ok (.getfield 9, 3) := by decide +kernel
theorem dX3_fetch_23 : decode cX3_fetch 23 = .ok (.invokevirtual 31, 3) := by decide +kernel
theorem dX3_fetch_26 : decode cX3_fetch 26 = .ok (.ifCond .ne 35, 3) := by decide +kernel
theorem dX3_fetch_29 : decode cX3_fetch 29 = .ok (.aload_n 1, 1) := by decide +kernel
theorem dX3_fetch_30 : decode cX3_fetch 30 = .ok (.aload_n 1, 1) := by decide +kernel
theorem dX3_fetch_31 : decode cX3_fetch 31 = .ok (.getfield 9, 3) := by decide +kernel
theorem dX3_fetch_34 : decode cX3_fetch 34 = .ok (.putfield 37, 3) := by decide +kernel
theorem dX3_fetch_37 : decode cX3_fetch 37 = .ok (.aload_n 1, 1) := by decide +kernel
theorem dX3_fetch_38 : decode cX3_fetch 38 = .ok (.aload_n 3, 1) := by decide +kernel
theorem dX3_fetch_39 : decode cX3_fetch 39 = .ok (.aload_n 1, 1) := by decide +kernel
theorem dX3_fetch_40 : decode cX3_fetch 40 = .ok (.getfield 37, 3) := by decide +kernel
theorem dX3_fetch_43 : decode cX3_fetch 43 = .ok (.invokevirtual 40, 3) := by decide +kernel
theorem dX3_fetch_46 : decode cX3_fetch 46 = .ok (.putfield 43, 3) := by decide +kernel
theorem dX3_fetch_49 : decode cX3_fetch 49 = .ok (.aload_n 1, 1) := by decide +kernel
theorem dX3_fetch_50 : decode cX3_fetch 50 = .ok (.aload_n 1, 1) := by decide +kernel
theorem dX3_fetch_51 : decode cX3_fetch 51 = .ok (.getfield 37, 3) := by decide +kernel
theorem dX3_fetch_54 : decode cX3_fetch 54 = .ok (.iconst 1, 1) := by decide +kernel
theorem dX3_fetch_55 : decode cX3_fetch 55 = .ok (.iadd, 1) := by decide +kernel
theorem dX3_fetch_56 : decode cX3_fetch 56 = .ok (.putfield 9, 3) := by decide +kernel
theorem dX3_fetch_59 : decode cX3_fetch 59 = .ok (.iconst 1, 1) := by decide +kernel
theorem dX3_fetch_60 : decode cX3_fetch 60 = .ok (.ireturn, 1) := by decide +kernel
theorem dX3_fetch_61 : decode cX3_fetch 61 = .ok (.aload_n 1, 1) := by decide +kernel
theorem dX3_fetch_62 : decode cX3_fetch 62 = .ok (.aload_n 2, 1) := by decide +kernel
theorem dX3_fetch_63 : decode cX3_fetch 63 = .ok (.invokestatic 15, 3) := by decide +kernel
theorem dX3_fetch_66 : decode cX3_fetch 66 = .ok (.ifCond .ne 5, 3) := by decide +kernel
theorem dX3_fetch_69 : decode cX3_fetch 69 = .ok (.iconst 0, 1) := by decide +kernel
theorem dX3_fetch_70 : decode cX3_fetch 70 = .ok (.ireturn, 1) := by decide +kernel
theorem dX3_fetch_71 : decode cX3_fetch 71 = .ok (.iinc 4 1, 3) := by decide +kernel
theorem dX3_fetch_74 : decode cX3_fetch 74 = .ok (.goto (-63), 3) := by decide +kernel
theorem dX3_fetch_77 : decode cX3_fetch 77 = .ok (.iconst 0, 1) := by decide +kernel
theorem dX3_fetch_78 : decode cX3_fetch 78 = .ok (.ireturn, 1) := by decide +kernel
theorem dX3_jump_0 : decode cX3_jump 0 = .ok (.aload_n 1, 1) := by decide +kernel
theorem dX3_jump_1 : decode cX3_jump 1 = .ok (.aload_n 1, 1) := by decide +kernel
theorem dX3_jump_2 : decode cX3_jump 2 = .ok (.getfield 21, 3) := by decide +kernel
theorem dX3_jump_5 : decode cX3_jump 5 = .ok (.getfield 25, 3) := by decide +kernel
theorem dX3_jump_8 : decode cX3_jump 8 = .ok (.aload_n 1, 1) := by decide +kernel
theorem dX3_jump_9 : decode cX3_jump 9 = .ok (.getfield 37, 3) := by decide +kernel
theorem dX3_jump_12 : decode cX3_jump 12 = .ok (.invokevirtual 46, 3) := by decide +kernel
theorem dX3_jump_15 : decode cX3_jump 15 = .ok (.putfield 9, 3) := by decide +kernel
theorem dX3_jump_18 : decode cX3_jump 18 = .ok (.iconst 1, 1) := by decide +kernel
theorem dX3_jump_19 : decode cX3_jump 19 = .ok (.ireturn, 1) := by decide +kernel
theorem dX3_take_0 : decode cX3_take 0 = .ok (.aload_n 1, 1) := by decide +kernel
theorem dX3_take_1 : decode cX3_take 1 = .ok (.aload_n 1, 1) := by decide +kernel
theorem dX3_take_2 : decode cX3_take 2 = .ok (.getfield 21, 3) := by decide +kernel
theorem dX3_take_5 : decode cX3_take 5 = .ok (.getfield 25, 3) := by decide +kernel
theorem dX3_take_8 : decode cX3_take 8 = .ok (.iload_n 2, 1) := by decide +kernel
theorem dX3_take_9 : decode cX3_take 9 = .ok (.invokevirtual 49, 3) := by decide +kernel
theorem dX3_take_12 : decode cX3_take 12 = .ok (.putfield 9, 3) := by decide +kernel
theorem dX3_take_15 : decode cX3_take 15 = .ok (.aload_n 1, 1) := by decide +kernel
theorem dX3_take_16 : decode cX3_take 16 = .ok (.aload_n 3, 1) := by decide +kernel
theorem dX3_take_17 : decode cX3_take 17 = .ok (.invokestatic 15, 3) := by decide +kernel
theorem dX3_take_20 : decode cX3_take 20 = .ok (.ireturn, 1) := by decide +kernel
theorem dX3_pass_0 : decode cX3_pass 0 = .ok (.aload_n 0, 1) := by decide +kernel
theorem dX3_pass_1 : decode cX3_pass 1 = .ok (.getfield 21, 3) := by decide +kernel
theorem dX3_pass_4 : decode cX3_pass 4 = .ok (.getfield 25, 3) := by decide +kernel
theorem dX3_pass_7 : decode cX3_pass 7 = .ok (.astore_n 2, 1) := by decide +kernel
theorem dX3_pass_8 : decode cX3_pass 8 = .ok (.aload_n 0, 1) := by decide +kernel
theorem dX3_pass_9 : decode cX3_pass 9 = .ok (.getfield 9, 3) := by decide +kernel
theorem dX3_pass_12 : decode cX3_pass 12 = .ok (.istore_n 3, 1) := by decide +kernel
theorem dX3_pass_13 : decode cX3_pass 13 = .ok (.aload_n 0, 1) := by decide +kernel
theorem dX3_pass_14 : decode cX3_pass 14 = .ok (.iload_n 3, 1) := by decide +kernel
theorem dX3_pass_15 : decode cX3_pass 15 = .ok (.iconst 1, 1) := by decide +kernel
theorem dX3_pass_16 : decode cX3_pass 16 = .ok (.iadd, 1) := by decide +kernel
theorem dX3_pass_17 : decode cX3_pass 17 = .ok (.putfield 9, 3) := by decide +kernel
theorem dX3_pass_20 : decode cX3_pass 20 = .ok (.aload_n 2, 1) := by decide +kernel
theorem dX3_pass_21 : decode cX3_pass 21 = .ok (.iload_n 3, 1) := by decide +kernel
theorem dX3_pass_22 : decode cX3_pass 22 = .ok (.invokevirtual 31, 3) := by decide +kernel
theorem dX3_pass_25 : decode cX3_pass 25 = .ok (.tableswitch 57 1 3 #[27, 32, 46], 27) := by decide +kernel
theorem dX3_pass_52 : decode cX3_pass 52 = .ok (.aload_n 1, 1) := by decide +kernel
theorem dX3_pass_53 : decode cX3_pass 53 = .ok (.invokevirtual 52, 3) := by decide +kernel
theorem dX3_pass_56 : decode cX3_pass 56 = .ok (.ireturn, 1) := by decide +kernel
theorem dX3_pass_57 : decode cX3_pass 57 = .ok (.aload_n 1, 1) := by decide +kernel
theorem dX3_pass_58 : decode cX3_pass 58 = .ok (.aload_n 0, 1) := by decide +kernel
theorem dX3_pass_59 : decode cX3_pass 59 = .ok (.aload_n 2, 1) := by decide +kernel
theorem dX3_pass_60 : decode cX3_pass 60 = .ok (.iload_n 3, 1) := by decide +kernel
theorem dX3_pass_61 : decode cX3_pass 61 = .ok (.invokevirtual 40, 3) := by decide +kernel
theorem dX3_pass_64 : decode cX3_pass 64 = .ok (.invokevirtual 58, 3) := by decide +kernel
theorem dX3_pass_67 : decode cX3_pass 67 = .ok (.invokevirtual 62, 3) := by decide +kernel
theorem dX3_pass_70 : decode cX3_pass 70 = .ok (.ireturn, 1) := by decide +kernel
theorem dX3_pass_71 : decode cX3_pass 71 = .ok (.aload_n 0, 1) := by decide +kernel
theorem dX3_pass_72 : decode cX3_pass 72 = .ok (.aload_n 2, 1) := by decide +kernel
theorem dX3_pass_73 : decode cX3_pass 73 = .ok (.iload_n 3, 1) := by decide +kernel
theorem dX3_pass_74 : decode cX3_pass 74 = .ok (.invokevirtual 46, 3) := by decide +kernel
theorem dX3_pass_77 : decode cX3_pass 77 = .ok (.putfield 9, 3) := by decide +kernel
theorem dX3_pass_80 : decode cX3_pass 80 = .ok (.iconst 1, 1) := by decide +kernel
theorem dX3_pass_81 : decode cX3_pass 81 = .ok (.ireturn, 1) := by decide +kernel
theorem dX3_pass_82 : decode cX3_pass 82 = .ok (.iconst 0, 1) := by decide +kernel
theorem dX3_pass_83 : decode cX3_pass 83 = .ok (.ireturn, 1) := by decide +kernel
theorem dX4_init_0 : decode cX4_init 0 = .ok (.aload_n 0, 1) := by decide +kernel
theorem dX4_init_1 : decode cX4_init 1 = .ok (.invokespecial 3, 3) := by decide +kernel
theorem dX4_init_4 : decode cX4_init 4 = .ok (.aload_n 0, 1) := by decide +kernel
theorem dX4_init_5 : decode cX4_init 5 = .ok (.bipush 70, 2) := by decide +kernel
theorem dX4_init_7 : decode cX4_init 7 = .ok (.newarray .int, 2) := by decide +kernel
theorem dX4_init_9 : decode cX4_init 9 = .ok (.putfield 9, 3) := by decide +kernel
theorem dX4_init_12 : decode cX4_init 12 = .ok (.aload_n 0, 1) := by decide +kernel
theorem dX4_init_13 : decode cX4_init 13 = .ok (.bipush 70, 2) := by decide +kernel
theorem dX4_init_15 : decode cX4_init 15 = .ok (.newarray .int, 2) := by decide +kernel
theorem dX4_init_17 : decode cX4_init 17 = .ok (.putfield 15, 3) := by decide +kernel
theorem dX4_init_20 : decode cX4_init 20 = .ok (.aload_n 0, 1) := by decide +kernel
theorem dX4_init_21 : decode cX4_init 21 = .ok (.bipush 70, 2) := by decide +kernel
theorem dX4_init_23 : decode cX4_init 23 = .ok (.newarray .int, 2) := by decide +kernel
theorem dX4_init_25 : decode cX4_init 25 = .ok (.putfield 18, 3) := by decide +kernel
theorem dX4_init_28 : decode cX4_init 28 = .ok (.aload_n 0, 1) := by decide +kernel
theorem dX4_init_29 : decode cX4_init 29 = .ok (.bipush 41, 2) := by decide +kernel
theorem dX4_init_31 : decode cX4_init 31 = .ok (.newarray .int, 2) := by decide +kernel
theorem dX4_init_33 : decode cX4_init 33 = .ok (.putfield 21, 3) := by decide +kernel
theorem dX4_init_36 : decode cX4_init 36 = .ok (.aload_n 0, 1) := by decide +kernel
theorem dX4_init_37 : decode cX4_init 37 = .ok (.iconst 4, 1) := by decide +kernel
theorem dX4_init_38 : decode cX4_init 38 = .ok (.newarray .int, 2) := by decide +kernel
theorem dX4_init_40 : decode cX4_init 40 = .ok (.putfield 24, 3) := by decide +kernel
theorem dX4_init_43 : decode cX4_init 43 = .ok (.aload_n 0, 1) := by decide +kernel
theorem dX4_init_44 : decode cX4_init 44 = .ok (.iconst 0, 1) := by decide +kernel
theorem dX4_init_45 : decode cX4_init 45 = .ok (.putfield 27, 3) := by decide +kernel
theorem dX4_init_48 : decode cX4_init 48 = .ok (.aload_n 0, 1) := by decide +kernel
theorem dX4_init_49 : decode cX4_init 49 = .ok (.iconst 0, 1) := by decide +kernel
theorem dX4_init_50 : decode cX4_init 50 = .ok (.putfield 31, 3) := by decide +kernel
theorem dX4_init_53 : decode cX4_init 53 = .ok (.aload_n 0, 1) := by decide +kernel
theorem dX4_init_54 : decode cX4_init 54 = .ok (.iconst 0, 1) := by decide +kernel
theorem dX4_init_55 : decode cX4_init 55 = .ok (.putfield 34, 3) := by decide +kernel
theorem dX4_init_58 : decode cX4_init 58 = .ok (.return_, 1) := by decide +kernel
theorem dX4_build_0 : decode cX4_build 0 = .ok (.aload_n 0, 1) := by decide +kernel
theorem dX4_build_1 : decode cX4_build 1 = .ok (.iconst 0, 1) := by decide +kernel
theorem dX4_build_2 : decode cX4_build 2 = .ok (.putfield 27, 3) := by decide +kernel
theorem dX4_build_5 : decode cX4_build 5 = .ok (.aload_n 0, 1) := by decide +kernel
theorem dX4_build_6 : decode cX4_build 6 = .ok (.iconst 0, 1) := by decide +kernel
theorem dX4_build_7 : decode cX4_build 7 = .ok (.putfield 31, 3) := by decide +kernel
theorem dX4_build_10 : decode cX4_build 10 = .ok (.aload_n 0, 1) := by decide +kernel
theorem dX4_build_11 : decode cX4_build 11 = .ok (.aload_n 1, 1) := by decide +kernel
theorem dX4_build_12 : decode cX4_build 12 = .ok (.invokevirtual 38, 3) := by decide +kernel
theorem dX4_build_15 : decode cX4_build 15 = .ok (.bipush 70, 2) := by decide +kernel
theorem dX4_build_17 : decode cX4_build 17 = .ok (.if_icmp .le 7, 3) := by decide +kernel
theorem dX4_build_20 : decode cX4_build 20 = .ok (.iconst 1, 1) := by decide +kernel
theorem dX4_build_21 : decode cX4_build 21 = .ok (.goto 4, 3) := by decide +kernel
theorem dX4_build_24 : decode cX4_build 24 = .ok (.iconst 0, 1) := by decide +kernel
theorem dX4_build_25 : decode cX4_build 25 = .ok (.putfield 34, 3) := by decide +kernel
theorem dX4_build_28 : decode cX4_build 28 = .ok (.aload_n 0, 1) := by decide +kernel
theorem dX4_build_29 : decode cX4_build 29 = .ok (.getfield 34, 3) := by decide +kernel
theorem dX4_build_32 : decode cX4_build 32 = .ok (.ifCond .eq 4, 3) := by decide +kernel
theorem dX4_build_35 : decode cX4_build 35 = .ok (.return_, 1) := by decide +kernel
theorem dX4_build_36 : decode cX4_build 36 = .ok (.aload_n 0, 1) := by decide +kernel
theorem dX4_build_37 : decode cX4_build 37 = .ok (.iconst 1, 1) := by decide +kernel
theorem dX4_build_38 : decode cX4_build 38 = .ok (.iconst 0, 1) := by decide +kernel
theorem dX4_build_39 : decode cX4_build 39 = .ok (.iconst (-1), 1) := by decide +kernel
theorem dX4_build_40 : decode cX4_build 40 = .ok (.invokevirtual 44, 3) := by decide +kernel
theorem dX4_build_43 : decode cX4_build 43 = .ok (.aload_n 0, 1) := by decide +kernel
theorem dX4_build_44 : decode cX4_build 44 = .ok (.aload_n 1, 1) := by decide +kernel
theorem dX4_build_45 : decode cX4_build 45 = .ok (.invokevirtual 48, 3) := by decide +kernel
theorem dX4_build_48 : decode cX4_build 48 = .ok (.aload_n 0, 1) := by decide +kernel
theorem dX4_build_49 : decode cX4_build 49 = .ok (.aload_n 1, 1) := by decide +kernel
theorem dX4_build_50 : decode cX4_build 50 = .ok (.invokevirtual 52, 3) := by decide +kernel
theorem dX4_build_53 : decode cX4_build 53 = .ok (.aload_n 0, 1) := by decide +kernel
theorem dX4_build_54 : decode cX4_build 54 = .ok (.aload_n 1, 1) := by decide +kernel
theorem dX4_build_55 : decode cX4_build 55 = .ok (.invokevirtual 55, 3) := by decide +kernel
theorem dX4_build_58 : decode cX4_build 58 = .ok (.return_, 1) := by decide +kernel
theorem dX4_addPlaces_0 : decode cX4_addPlaces 0 = .ok (.iconst 0, 1) := by decide +kernel
theorem dX4_addPlaces_1 : decode cX4_addPlaces 1 = .ok (.istore_n 2, 1) := by decide +kernel
theorem dX4_addPlaces_2 : decode cX4_addPlaces 2 = .ok (.iload_n 2, 1) := by decide +kernel
theorem dX4_addPlaces_3 : decode cX4_addPlaces 3 = .ok (.aload_n 1, 1) := by decide +kernel
theorem dX4_addPlaces_4 : decode cX4_addPlaces 4 = .ok (.getfield 58, 3) := by decide +kernel
theorem dX4_addPlaces_7 : decode cX4_addPlaces 7 = .ok (.if_icmp .ge 47, 3) := by decide +kernel
theorem dX4_addPlaces_10 : decode cX4_addPlaces 10 = .ok (.aload_n 0, 1) := by decide +kernel
theorem dX4_addPlaces_11 : decode cX4_addPlaces 11 = .ok (.getfield 21, 3) := by decide +kernel
theorem dX4_addPlaces_14 : decode cX4_addPlaces 14 = .ok (.iload_n 2, 1) := by decide +kernel
theorem dX4_addPlaces_15 : decode cX4_addPlaces 15 = .ok (.aload_n 0, 1) := by decide +kernel
theorem dX4_addPlaces_16 : decode cX4_addPlaces 16 = .ok (.getfield 27, 3) := by decide +kernel
theorem dX4_addPlaces_19 : decode cX4_addPlaces 19 = .ok (.iastore, 1) := by decide +kernel
theorem dX4_addPlaces_20 : decode cX4_addPlaces 20 = .ok (.aload_n 1, 1) := by decide +kernel
theorem dX4_addPlaces_21 : decode cX4_addPlaces 21 = .ok (.iload_n 2, 1) := by decide +kernel
theorem dX4_addPlaces_22 : decode cX4_addPlaces 22 = .ok (.invokevirtual 59, 3) := by decide +kernel
theorem dX4_addPlaces_25 : decode cX4_addPlaces 25 = .ok (.bipush 8, 2) := by decide +kernel
theorem dX4_addPlaces_27 : decode cX4_addPlaces 27 = .ok (.if_icmp .ne 14, 3) := by decide +kernel
theorem dX4_addPlaces_30 : decode cX4_addPlaces 30 = .ok (.aload_n 0, 1) := by decide +kernel
theorem dX4_addPlaces_31 : decode cX4_addPlaces 31 = .ok (.iconst 2, 1) := by decide +kernel
theorem dX4_addPlaces_32 : decode cX4_addPlaces 32 = .ok (.aload_n 1, 1) := by decide +kernel
theorem dX4_addPlaces_33 : decode cX4_addPlaces 33 = .ok (.iload_n 2, 1) := by decide +kernel
theorem dX4_addPlaces_34 : decode cX4_addPlaces 34 = .ok (.invokevirtual 63, 3) := by decide +kernel
theorem dX4_addPlaces_37 : decode cX4_addPlaces 37 = .ok (.iconst (-1), 1) := by decide +kernel
theorem dX4_addPlaces_38 : decode cX4_addPlaces 38 = .ok (.invokevirtual 44, 3) := by decide +kernel
theorem dX4_addPlaces_41 : decode cX4_addPlaces 41 = .ok (.aload_n 0, 1) := by decide +kernel
theorem dX4_addPlaces_42 : decode cX4_addPlaces 42 = .ok (.iconst 0, 1) := by decide +kernel
theorem dX4_addPlaces_43 : decode cX4_addPlaces 43 = .ok (.iload_n 2, 1) := by decide +kernel
theorem dX4_addPlaces_44 : decode cX4_addPlaces 44 = .ok (.iconst (-1), 1) := by decide +kernel
theorem dX4_addPlaces_45 : decode cX4_addPlaces 45 = .ok (.invokevirtual 44, 3) := by decide +kernel
theorem dX4_addPlaces_48 : decode cX4_addPlaces 48 = .ok (.iinc 2 1, 3) := by decide +kernel
theorem dX4_addPlaces_51 : decode cX4_addPlaces 51 = .ok (.goto (-49), 3) := by decide +kernel
theorem dX4_addPlaces_54 : decode cX4_addPlaces 54 = .ok (.aload_n 0, 1) := by decide +kernel
theorem dX4_addPlaces_55 : decode cX4_addPlaces 55 = .ok (.getfield 21, 3) := by decide +kernel
theorem dX4_addPlaces_58 : decode cX4_addPlaces 58 = .ok (.aload_n 1, 1) := by decide +kernel
theorem dX4_addPlaces_59 : decode cX4_addPlaces 59 = .ok (.getfield 58, 3) := by decide +kernel
theorem dX4_addPlaces_62 : decode cX4_addPlaces 62 = .ok (.aload_n 0, 1) := by decide +kernel
theorem dX4_addPlaces_63 : decode cX4_addPlaces 63 = .ok (.getfield 27, 3) := by decide +kernel
theorem dX4_addPlaces_66 : decode cX4_addPlaces 66 = .ok (.iastore, 1) := by decide +kernel
theorem dX4_addPlaces_67 : decode cX4_addPlaces 67 = .ok (.aload_n 0, 1) := by decide +kernel
theorem dX4_addPlaces_68 : decode cX4_addPlaces 68 = .ok (.iconst 0, 1) := by decide +kernel
theorem dX4_addPlaces_69 : decode cX4_addPlaces 69 = .ok (.aload_n 1, 1) := by decide +kernel
theorem dX4_addPlaces_70 : decode cX4_addPlaces 70 = .ok (.getfield 58, 3) := by decide +kernel
theorem dX4_addPlaces_73 : decode cX4_addPlaces 73 = .ok (.iconst (-1), 1) := by decide +kernel
theorem dX4_addPlaces_74 : decode cX4_addPlaces 74 = .ok (.invokevirtual 44, 3) := by decide +kernel
theorem dX4_addPlaces_77 : decode cX4_addPlaces 77 = .ok (.return_, 1) := by decide +kernel
theorem dX4_addJumps_0 : decode cX4_addJumps 0 = .ok (.iconst 0, 1) := by decide +kernel
theorem dX4_addJumps_1 : decode cX4_addJumps 1 = .ok (.istore_n 2, 1) := by decide +kernel
theorem dX4_addJumps_2 : decode cX4_addJumps 2 = .ok (.iload_n 2, 1) := by decide +kernel
theorem dX4_addJumps_3 : decode cX4_addJumps 3 = .ok (.aload_n 1, 1) := by decide +kernel
theorem dX4_addJumps_4 : decode cX4_addJumps 4 = .ok (.getfield 58, 3) := by decide +kernel
theorem dX4_addJumps_7 : decode cX4_addJumps 7 = .ok (.if_icmp .ge 56, 3) := by decide +kernel
theorem dX4_addJumps_10 : decode cX4_addJumps 10 = .ok (.aload_n 1, 1) := by decide +kernel
theorem dX4_addJumps_11 : decode cX4_addJumps 11 = .ok (.iload_n 2, 1) := by decide +kernel
theorem dX4_addJumps_12 : decode cX4_addJumps 12 = .ok (.invokevirtual 66, 3) := by decide +kernel
theorem dX4_addJumps_15 : decode cX4_addJumps 15 = .ok (.ifCond .eq 42, 3) := by decide +kernel
theorem dX4_addJumps_18 : decode cX4_addJumps 18 = .ok (.aload_n 0, 1) := by decide +kernel
theorem dX4_addJumps_19 : decode cX4_addJumps 19 = .ok (.getfield 21, 3) := by decide +kernel
theorem dX4_addJumps_22 : decode cX4_addJumps 22 = .ok (.aload_n 1, 1) := by decide +kernel
theorem dX4_addJumps_23 : decode cX4_addJumps 23 = .ok (.iload_n 2, 1) := by decide +kernel
theorem dX4_addJumps_24 : decode cX4_addJumps 24 = .ok (.invokevirtual 70, 3) := by decide +kernel
theorem dX4_addJumps_27 : decode cX4_addJumps 27 = .ok (.iaload, 1) := by decide +kernel
theorem dX4_addJumps_28 : decode cX4_addJumps 28 = .ok (.istore_n 3, 1) := by decide +kernel
theorem dX4_addJumps_29 : decode cX4_addJumps 29 = .ok (.aload_n 0, 1) := by decide +kernel
theorem dX4_addJumps_30 : decode cX4_addJumps 30 = .ok (.getfield 18, 3) := by decide +kernel
theorem dX4_addJumps_33 : decode cX4_addJumps 33 = .ok (.aload_n 0, 1) := by decide +kernel
theorem dX4_addJumps_34 : decode cX4_addJumps 34 = .ok (.getfield 21, 3) := by decide +kernel
theorem dX4_addJumps_37 : decode cX4_addJumps 37 = .ok (.iload_n 2, 1) := by decide +kernel
theorem dX4_addJumps_38 : decode cX4_addJumps 38 = .ok (.iaload, 1) := by decide +kernel
theorem dX4_addJumps_39 : decode cX4_addJumps 39 = .ok (.aload_n 1, 1) := by decide +kernel
theorem dX4_addJumps_40 : decode cX4_addJumps 40 = .ok (.iload_n 2, 1) := by decide +kernel
theorem dX4_addJumps_41 : decode cX4_addJumps 41 = .ok (.invokevirtual 73, 3) := by decide +kernel
theorem dX4_addJumps_44 : decode cX4_addJumps 44 = .ok (.ifCond .eq 11, 3) := by decide +kernel
theorem dX4_addJumps_47 : decode cX4_addJumps 47 = .ok (.aload_n 0, 1) := by decide +kernel
theorem dX4_addJumps_48 : decode cX4_addJumps 48 = .ok (.iload_n 3, 1) := by decide +kernel
theorem dX4_addJumps_49 : decode cX4_addJumps 49 = .ok (.invokevirtual 76, 3) := by decide +kernel
theorem dX4_addJumps_52 : decode cX4_addJumps 52 = .ok (.goto 4, 3) := by decide +kernel
theorem dX4_addJumps_55 : decode cX4_addJumps 55 = .ok (.iload_n 3, 1) := by decide +kernel
theorem dX4_addJumps_56 : decode cX4_addJumps 56 = .ok (.iastore, 1) := by decide +kernel
theorem dX4_addJumps_57 : decode cX4_addJumps 57 = .ok (.iinc 2 1, 3) := by decide +kernel
theorem dX4_addJumps_60 : decode cX4_addJumps 60 = .ok (.goto (-58), 3) := by decide +kernel
theorem dX4_addJumps_63 : decode cX4_addJumps 63 = .ok (.return_, 1) := by decide +kernel
theorem dX4_addHandlers_0 : decode cX4_addHandlers 0 = .ok (.iconst 0, 1) := by decide +kernel
theorem dX4_addHandlers_1 : decode cX4_addHandlers 1 = .ok (.istore_n 2, 1) := by decide +kernel
theorem dX4_addHandlers_2 : decode cX4_addHandlers 2 = .ok (.iload_n 2, 1) := by decide +kernel
theorem dX4_addHandlers_3 : decode cX4_addHandlers 3 = .ok (.aload_n 1, 1) := by decide +kernel
theorem dX4_addHandlers_4 : decode cX4_addHandlers 4 = .ok (.getfield 79, 3) := by decide +kernel
theorem dX4_addHandlers_7 : decode cX4_addHandlers 7 = .ok (.if_icmp .ge 29, 3) := by decide +kernel
theorem dX4_addHandlers_10 : decode cX4_addHandlers 10 = .ok (.aload_n 0, 1) := by decide +kernel
theorem dX4_addHandlers_11 : decode cX4_addHandlers 11 = .ok (.getfield 24, 3) := by decide +kernel
theorem dX4_addHandlers_14 : decode cX4_addHandlers 14 = .ok (.iload_n 2, 1) := by decide +kernel
theorem dX4_addHandlers_15 : decode cX4_addHandlers 15 = .ok (.aload_n 0, 1) := by decide +kernel
theorem dX4_addHandlers_16 : decode cX4_addHandlers 16 = .ok (.aload_n 0, 1) := by decide +kernel
theorem dX4_addHandlers_17 : decode cX4_addHandlers 17 = .ok (.getfield 21, 3) := by decide +kernel
theorem dX4_addHandlers_20 : decode cX4_addHandlers 20 = .ok (.aload_n 1, 1) := by decide +kernel
theorem dX4_addHandlers_21 : decode cX4_addHandlers 21 = .ok (.iload_n 2, 1) := by decide +kernel
theorem dX4_addHandlers_22 : decode cX4_addHandlers 22 = .ok (.invokevirtual 82, 3) := by decide +kernel
theorem dX4_addHandlers_25 : decode cX4_addHandlers 25 = .ok (.iaload, 1) := by decide +kernel
theorem dX4_addHandlers_26 : decode cX4_addHandlers 26 = .ok (.invokevirtual 76, 3) := by decide +kernel
theorem dX4_addHandlers_29 : decode cX4_addHandlers 29 = .ok (.iastore, 1) := by decide +kernel
theorem dX4_addHandlers_30 : decode cX4_addHandlers 30 = .ok (.iinc 2 1, 3) := by decide +kernel
theorem dX4_addHandlers_33 : decode cX4_addHandlers 33 = .ok (.goto (-31), 3) := by decide +kernel
theorem dX4_addHandlers_36 : decode cX4_addHandlers 36 = .ok (.return_, 1) := by decide +kernel
theorem dX4_addLead_0 : decode cX4_addLead 0 = .ok (.aload_n 0, 1) := by decide +kernel
theorem dX4_addLead_1 : decode cX4_addLead 1 = .ok (.getfield 27, 3) := by decide +kernel
theorem dX4_addLead_4 : decode cX4_addLead 4 = .ok (.istore_n 2, 1) := by decide +kernel
theorem dX4_addLead_5 : decode cX4_addLead 5 = .ok (.aload_n 0, 1) := by decide +kernel
theorem dX4_addLead_6 : decode cX4_addLead 6 = .ok (.iconst 1, 1) := by decide +kernel
theorem dX4_addLead_7 : decode cX4_addLead 7 = .ok (.iconst 0, 1) := by decide +kernel
theorem dX4_addLead_8 : decode cX4_addLead 8 = .ok (.iconst (-1), 1) := by decide +kernel
theorem dX4_addLead_9 : decode cX4_addLead 9 = .ok (.invokevirtual 44, 3) := by decide +kernel
theorem dX4_addLead_12 : decode cX4_addLead 12 = .ok (.aload_n 0, 1) := by decide +kernel
theorem dX4_addLead_13 : decode cX4_addLead 13 = .ok (.iconst 3, 1) := by decide +kernel
theorem dX4_addLead_14 : decode cX4_addLead 14 = .ok (.iload_n 1, 1) := by decide +kernel
theorem dX4_addLead_15 : decode cX4_addLead 15 = .ok (.iload_n 1, 1) := by decide +kernel
theorem dX4_addLead_16 : decode cX4_addLead 16 = .ok (.invokevirtual 44, 3) := by decide +kernel
theorem dX4_addLead_19 : decode cX4_addLead 19 = .ok (.iload_n 2, 1) := by decide +kernel
theorem dX4_addLead_20 : decode cX4_addLead 20 = .ok (.ireturn, 1) := by decide +kernel
theorem dX4_add_0 : decode cX4_add 0 = .ok (.aload_n 0, 1) := by decide +kernel
theorem dX4_add_1 : decode cX4_add 1 = .ok (.getfield 27, 3) := by decide +kernel
theorem dX4_add_4 : decode cX4_add 4 = .ok (.bipush 70, 2) := by decide +kernel
theorem dX4_add_6 : decode cX4_add 6 = .ok (.if_icmp .lt 4, 3) := by decide +kernel
theorem dX4_add_9 : decode cX4_add 9 = .ok (.return_, 1) := by decide +kernel
theorem dX4_add_10 : decode cX4_add 10 = .ok (.aload_n 0, 1) := by decide +kernel
theorem dX4_add_11 : decode cX4_add 11 = .ok (.getfield 9, 3) := by decide +kernel
theorem dX4_add_14 : decode cX4_add 14 = .ok (.aload_n 0, 1) := by decide +kernel
theorem dX4_add_15 : decode cX4_add 15 = .ok (.getfield 27, 3) := by decide +kernel
theorem dX4_add_18 : decode cX4_add 18 = .ok (.iload_n 1, 1) := by decide +kernel
theorem dX4_add_19 : decode cX4_add 19 = .ok (.iastore, 1) := by decide +kernel
theorem dX4_add_20 : decode cX4_add 20 = .ok (.aload_n 0, 1) := by decide +kernel
theorem dX4_add_21 : decode cX4_add 21 = .ok (.getfield 15, 3) := by decide +kernel
theorem dX4_add_24 : decode cX4_add 24 = .ok (.aload_n 0, 1) := by decide +kernel
theorem dX4_add_25 : decode cX4_add 25 = .ok (.getfield 27, 3) := by decide +kernel
theorem dX4_add_28 : decode cX4_add 28 = .ok (.iload_n 2, 1) := by decide +kernel
theorem dX4_add_29 : decode cX4_add 29 = .ok (.iastore, 1) := by decide +kernel
theorem dX4_add_30 : decode cX4_add 30 = .ok (.aload_n 0, 1) := by decide +kernel
theorem dX4_add_31 : decode cX4_add 31 = .ok (.getfield 18, 3) := by decide +kernel
theorem dX4_add_34 : decode cX4_add 34 = .ok (.aload_n 0, 1) := by decide +kernel
theorem dX4_add_35 : decode cX4_add 35 = .ok (.getfield 27, 3) := by decide +kernel
theorem dX4_add_38 : decode cX4_add 38 = .ok (.iload_n 3, 1) := by decide +kernel
theorem dX4_add_39 : decode cX4_add 39 = .ok (.iastore, 1) := by decide +kernel
theorem dX4_add_40 : decode cX4_add 40 = .ok (.aload_n 0, 1) := by decide +kernel
theorem dX4_add_41 : decode cX4_add 41 = .ok (.dup, 1) := by decide +kernel
theorem dX4_add_42 : decode cX4_add 42 = .ok (.getfield 27, 3) := by decide +kernel
theorem dX4_add_45 : decode cX4_add 45 = .ok (.iconst 1, 1) := by decide +kernel
theorem dX4_add_46 : decode cX4_add 46 = .ok (.iadd, 1) := by decide +kernel
theorem dX4_add_47 : decode cX4_add 47 = .ok (.putfield 27, 3) := by decide +kernel
theorem dX4_add_50 : decode cX4_add 50 = .ok (.iload_n 1, 1) := by decide +kernel
theorem dX4_add_51 : decode cX4_add 51 = .ok (.iconst 1, 1) := by decide +kernel
theorem dX4_add_52 : decode cX4_add 52 = .ok (.if_icmp .eq 8, 3) := by decide +kernel
theorem dX4_add_55 : decode cX4_add 55 = .ok (.iload_n 1, 1) := by decide +kernel
theorem dX4_add_56 : decode cX4_add 56 = .ok (.iconst 2, 1) := by decide +kernel
theorem dX4_add_57 : decode cX4_add 57 = .ok (.if_icmp .ne 13, 3) := by decide +kernel
theorem dX4_add_60 : decode cX4_add 60 = .ok (.aload_n 0, 1) := by decide +kernel
theorem dX4_add_61 : decode cX4_add 61 = .ok (.dup, 1) := by decide +kernel
theorem dX4_add_62 : decode cX4_add 62 = .ok (.getfield 31, 3) := by decide +kernel
theorem dX4_add_65 : decode cX4_add 65 = .ok (.iconst 1, 1) := by decide +kernel
theorem dX4_add_66 : decode cX4_add 66 = .ok (.iadd, 1) := by decide +kernel
theorem dX4_add_67 : decode cX4_add 67 = .ok (.putfield 31, 3) := by decide +kernel
theorem dX4_add_70 : decode cX4_add 70 = .ok (.return_, 1) := by decide +kernel
theorem dX4_sort_0 : decode cX4_sort 0 = .ok (.iconst 0, 1) := by decide +kernel
theorem dX4_sort_1 : decode cX4_sort 1 = .ok (.iload_n 1, 1) := by decide +kernel
theorem dX4_sort_2 : decode cX4_sort 2 = .ok (.if_icmp .gt 20, 3) := by decide +kernel
theorem dX4_sort_5 : decode cX4_sort 5 = .ok (.iload_n 1, 1) := by decide +kernel
theorem dX4_sort_6 : decode cX4_sort 6 = .ok (.aload_n 0, 1) := by decide +kernel
theorem dX4_sort_7 : decode cX4_sort 7 = .ok (.getfield 27, 3) := by decide +kernel
theorem dX4_sort_10 : decode cX4_sort 10 = .ok (.if_icmp .ge 12, 3) := by decide +kernel
theorem dX4_sort_13 : decode cX4_sort 13 = .ok (.aload_n 0, 1) := by decide +kernel
theorem dX4_sort_14 : decode cX4_sort 14 = .ok (.getfield 9, 3) := by decide +kernel
theorem dX4_sort_17 : decode cX4_sort 17 = .ok (.iload_n 1, 1) := by decide +kernel
theorem dX4_sort_18 : decode cX4_sort 18 = .ok (.iaload, 1) := by decide +kernel
theorem dX4_sort_19 : decode cX4_sort 19 = .ok (.goto 4, 3) := by decide +kernel
theorem dX4_sort_22 : decode cX4_sort 22 = .ok (.iconst (-1), 1) := by decide +kernel
theorem dX4_sort_23 : decode cX4_sort 23 = .ok (.ireturn, 1) := by decide +kernel
theorem dX4_number_0 : decode cX4_number 0 = .ok (.iconst 0, 1) := by decide +kernel
theorem dX4_number_1 : decode cX4_number 1 = .ok (.iload_n 1, 1) := by decide +kernel
theorem dX4_number_2 : decode cX4_number 2 = .ok (.if_icmp .gt 20, 3) := by decide +kernel
theorem dX4_number_5 : decode cX4_number 5 = .ok (.iload_n 1, 1) := by decide +kernel
theorem dX4_number_6 : decode cX4_number 6 = .ok (.aload_n 0, 1) := by decide +kernel
theorem dX4_number_7 : decode cX4_number 7 = .ok (.getfield 27, 3) := by decide +kernel
theorem dX4_number_10 : decode cX4_number 10 = .ok (.if_icmp .ge 12, 3) := by decide +kernel
theorem dX4_number_13 : decode cX4_number 13 = .ok (.aload_n 0, 1) := by decide +kernel
theorem dX4_number_14 : decode cX4_number 14 = .ok (.getfield 15, 3) := by decide +kernel
theorem dX4_number_17 : decode cX4_number 17 = .ok (.iload_n 1, 1) := by decide +kernel
theorem dX4_number_18 : decode cX4_number 18 = .ok (.iaload, 1) := by decide +kernel
theorem dX4_number_19 : decode cX4_number 19 = .ok (.goto 4, 3) := by decide +kernel
theorem dX4_number_22 : decode cX4_number 22 = .ok (.iconst (-1), 1) := by decide +kernel
theorem dX4_number_23 : decode cX4_number 23 = .ok (.ireturn, 1) := by decide +kernel
theorem dX4_goal_0 : decode cX4_goal 0 = .ok (.iconst 0, 1) := by decide +kernel
theorem dX4_goal_1 : decode cX4_goal 1 = .ok (.iload_n 1, 1) := by decide +kernel
theorem dX4_goal_2 : decode cX4_goal 2 = .ok (.if_icmp .gt 20, 3) := by decide +kernel
theorem dX4_goal_5 : decode cX4_goal 5 = .ok (.iload_n 1, 1) := by decide +kernel
theorem dX4_goal_6 : decode cX4_goal 6 = .ok (.aload_n 0, 1) := by decide +kernel
theorem dX4_goal_7 : decode cX4_goal 7 = .ok (.getfield 27, 3) := by decide +kernel
theorem dX4_goal_10 : decode cX4_goal 10 = .ok (.if_icmp .ge 12, 3) := by decide +kernel
theorem dX4_goal_13 : decode cX4_goal 13 = .ok (.aload_n 0, 1) := by decide +kernel
theorem dX4_goal_14 : decode cX4_goal 14 = .ok (.getfield 18, 3) := by decide +kernel
theorem dX4_goal_17 : decode cX4_goal 17 = .ok (.iload_n 1, 1) := by decide +kernel
theorem dX4_goal_18 : decode cX4_goal 18 = .ok (.iaload, 1) := by decide +kernel
theorem dX4_goal_19 : decode cX4_goal 19 = .ok (.goto 4, 3) := by decide +kernel
theorem dX4_goal_22 : decode cX4_goal 22 = .ok (.iconst (-1), 1) := by decide +kernel
theorem dX4_goal_23 : decode cX4_goal 23 = .ok (.ireturn, 1) := by decide +kernel
theorem dX4_handlerMark_0 : decode cX4_handlerMark 0 = .ok (.iconst 0, 1) := by decide +kernel
theorem dX4_handlerMark_1 : decode cX4_handlerMark 1 = .ok (.iload_n 1, 1) := by decide +kernel
theorem dX4_handlerMark_2 : decode cX4_handlerMark 2 = .ok (.if_icmp .gt 17, 3) := by decide +kernel
theorem dX4_handlerMark_5 : decode cX4_handlerMark 5 = .ok (.iload_n 1, 1) := by decide +kernel
theorem dX4_handlerMark_6 : decode cX4_handlerMark 6 = .ok (.iconst 4, 1) := by decide +kernel
theorem dX4_handlerMark_7 : decode cX4_handlerMark 7 = .ok (.if_icmp .ge 12, 3) := by decide +kernel
theorem dX4_handlerMark_10 : decode cX4_handlerMark 10 = .ok (.aload_n 0, 1) := by decide +kernel
theorem dX4_handlerMark_11 : decode cX4_handlerMark 11 = .ok (.getfield 24, 3) := by decide +kernel
theorem dX4_handlerMark_14 : decode cX4_handlerMark 14 = .ok (.iload_n 1, 1) := by decide +kernel
theorem dX4_handlerMark_15 : decode cX4_handlerMark 15 = .ok (.iaload, 1) := by decide +kernel
theorem dX4_handlerMark_16 : decode cX4_handlerMark 16 = .ok (.goto 4, 3) := by decide +kernel
theorem dX4_handlerMark_19 : decode cX4_handlerMark 19 = .ok (.iconst (-1), 1) := by decide +kernel
theorem dX4_handlerMark_20 : decode cX4_handlerMark 20 = .ok (.ireturn, 1) := by decide +kernel
theorem dX4_tell_0 : decode cX4_tell 0 = .ok (.iload_n 2, 1) := by decide +kernel
theorem dX4_tell_1 : decode cX4_tell 1 = .ok (.ifCond .ne 9, 3) := by decide +kernel
theorem dX4_tell_4 : decode cX4_tell 4 = .ok (.aload_n 0, 1) := by decide +kernel
theorem dX4_tell_5 : decode cX4_tell 5 = .ok (.iload_n 1, 1) := by decide +kernel
theorem dX4_tell_6 : decode cX4_tell 6 = .ok (.invokevirtual 85, 3) := by decide +kernel
theorem dX4_tell_9 : decode cX4_tell 9 = .ok (.ireturn, 1) := by decide +kernel
theorem dX4_tell_10 : decode cX4_tell 10 = .ok (.iload_n 2, 1) := by decide +kernel
theorem dX4_tell_11 : decode cX4_tell 11 = .ok (.iconst 1, 1) := by decide +kernel
theorem dX4_tell_12 : decode cX4_tell 12 = .ok (.if_icmp .ne 11, 3) := by decide +kernel
theorem dX4_tell_15 : decode cX4_tell 15 = .ok (.aload_n 0, 1) := by decide +kernel
theorem dX4_tell_16 : decode cX4_tell 16 = .ok (.iload_n 1, 1) := by decide +kernel
theorem dX4_tell_17 : decode cX4_tell 17 = .ok (.invokevirtual 88, 3) := by decide +kernel
theorem dX4_tell_20 : decode cX4_tell 20 = .ok (.goto 8, 3) := by decide +kernel
theorem dX4_tell_23 : decode cX4_tell 23 = .ok (.aload_n 0, 1) := by decide +kernel
theorem dX4_tell_24 : decode cX4_tell 24 = .ok (.iload_n 1, 1) := by decide +kernel
theorem dX4_tell_25 : decode cX4_tell 25 = .ok (.invokevirtual 91, 3) := by decide +kernel
theorem dX4_tell_28 : decode cX4_tell 28 = .ok (.ireturn, 1) := by decide +kernel
theorem dX5_init_0 : decode cX5_init 0 = .ok (.aload_n 0, 1) := by decide +kernel
theorem dX5_init_1 : decode cX5_init 1 = .ok (.invokespecial 3, 3) := by decide +kernel
theorem dX5_init_4 : decode cX5_init 4 = .ok (.aload_n 0, 1) := by decide +kernel
theorem dX5_init_5 : decode cX5_init 5 = .ok (.bipush 6, 2) := by decide +kernel
theorem dX5_init_7 : decode cX5_init 7 = .ok (.anewarray 9, 3) := by decide +kernel
theorem dX5_init_10 : decode cX5_init 10 = .ok (.putfield 11, 3) := by decide +kernel
theorem dX5_init_13 : decode cX5_init 13 = .ok (.aload_n 0, 1) := by decide +kernel
theorem dX5_init_14 : decode cX5_init 14 = .ok (.iconst 0, 1) := by decide +kernel
theorem dX5_init_15 : decode cX5_init 15 = .ok (.putfield 17, 3) := by decide +kernel
theorem dX5_init_18 : decode cX5_init 18 = .ok (.iconst 0, 1) := by decide +kernel
theorem dX5_init_19 : decode cX5_init 19 = .ok (.istore_n 1, 1) := by decide +kernel
theorem dX5_init_20 : decode cX5_init 20 = .ok (.iload_n 1, 1) := by decide +kernel
theorem dX5_init_21 : decode cX5_init 21 = .ok (.bipush 6, 2) := by decide +kernel
theorem dX5_init_23 : decode cX5_init 23 = .ok (.if_icmp .ge 22, 3) := by decide +kernel
theorem dX5_init_26 : decode cX5_init 26 = .ok (.aload_n 0, 1) := by decide +kernel
theorem dX5_init_27 : decode cX5_init 27 = .ok (.getfield 11, 3) := by decide +kernel
theorem dX5_init_30 : decode cX5_init 30 = .ok (.iload_n 1, 1) := by decide +kernel
theorem dX5_init_31 : decode cX5_init 31 = .ok (.new 9, 3) := by decide +kernel
theorem dX5_init_34 : decode cX5_init 34 = .ok (.dup, 1) := by decide +kernel
theorem dX5_init_35 : decode cX5_init 35 = .ok (.invokespecial 21, 3) := by decide +kernel
theorem dX5_init_38 : decode cX5_init 38 = .ok (.aastore, 1) := by decide +kernel
theorem dX5_init_39 : decode cX5_init 39 = .ok (.iinc 1 1, 3) := by decide +kernel
theorem dX5_init_42 : decode cX5_init 42 = .ok (.goto (-22), 3) := by decide +kernel
theorem dX5_init_45 : decode cX5_init 45 = .ok (.return_, 1) := by decide +kernel
theorem dX5_add_0 : decode cX5_add 0 = .ok (.aload_n 0, 1) := by decide +kernel
theorem dX5_add_1 : decode cX5_add 1 = .ok (.getfield 17, 3) := by decide +kernel
theorem dX5_add_4 : decode cX5_add 4 = .ok (.bipush 6, 2) := by decide +kernel
theorem dX5_add_6 : decode cX5_add 6 = .ok (.if_icmp .lt 6, 3) := by decide +kernel
theorem dX5_add_9 : decode cX5_add 9 = .ok (.bipush (-3), 2) := by decide +kernel
theorem dX5_add_11 : decode cX5_add 11 = .ok (.ireturn, 1) := by decide +kernel
theorem dX5_add_12 : decode cX5_add 12 = .ok (.aload_n 0, 1) := by decide +kernel
theorem dX5_add_13 : decode cX5_add 13 = .ok (.getfield 11, 3) := by decide +kernel
theorem dX5_add_16 : decode cX5_add 16 = .ok (.aload_n 0, 1) := by decide +kernel
theorem dX5_add_17 : decode cX5_add 17 = .ok (.getfield 17, 3) := by decide +kernel
theorem dX5_add_20 : decode cX5_add 20 = .ok (.aaload, 1) := by decide +kernel
theorem dX5_add_21 : decode cX5_add 21 = .ok (.invokevirtual 22, 3) := by decide +kernel
theorem dX5_add_24 : decode cX5_add 24 = .ok (.aload_n 0, 1) := by decide +kernel
theorem dX5_add_25 : decode cX5_add 25 = .ok (.dup, 1) := by decide +kernel
theorem dX5_add_26 : decode cX5_add 26 = .ok (.getfield 17, 3) := by decide +kernel
theorem dX5_add_29 : decode cX5_add 29 = .ok (.iconst 1, 1) := by decide +kernel
theorem dX5_add_30 : decode cX5_add 30 = .ok (.iadd, 1) := by decide +kernel
theorem dX5_add_31 : decode cX5_add 31 = .ok (.putfield 17, 3) := by decide +kernel
theorem dX5_add_34 : decode cX5_add 34 = .ok (.aload_n 0, 1) := by decide +kernel
theorem dX5_add_35 : decode cX5_add 35 = .ok (.getfield 17, 3) := by decide +kernel
theorem dX5_add_38 : decode cX5_add 38 = .ok (.iconst 1, 1) := by decide +kernel
theorem dX5_add_39 : decode cX5_add 39 = .ok (.isub, 1) := by decide +kernel
theorem dX5_add_40 : decode cX5_add 40 = .ok (.ireturn, 1) := by decide +kernel
theorem dX5_at_0 : decode cX5_at 0 = .ok (.iload_n 1, 1) := by decide +kernel
theorem dX5_at_1 : decode cX5_at 1 = .ok (.i2l, 1) := by decide +kernel
theorem dX5_at_2 : decode cX5_at 2 = .ok (.lconst 0, 1) := by decide +kernel
theorem dX5_at_3 : decode cX5_at 3 = .ok (.aload_n 0, 1) := by decide +kernel
theorem dX5_at_4 : decode cX5_at 4 = .ok (.getfield 17, 3) := by decide +kernel
theorem dX5_at_7 : decode cX5_at 7 = .ok (.iconst 1, 1) := by decide +kernel
theorem dX5_at_8 : decode cX5_at 8 = .ok (.isub, 1) := by decide +kernel
theorem dX5_at_9 : decode cX5_at 9 = .ok (.i2l, 1) := by decide +kernel
theorem dX5_at_10 : decode cX5_at 10 = .ok (.invokestatic 25, 3) := by decide +kernel
theorem dX5_at_13 : decode cX5_at 13 = .ok (.ifCond .eq 12, 3) := by decide +kernel
theorem dX5_at_16 : decode cX5_at 16 = .ok (.aload_n 0, 1) := by decide +kernel
theorem dX5_at_17 : decode cX5_at 17 = .ok (.getfield 11, 3) := by decide +kernel
theorem dX5_at_20 : decode cX5_at 20 = .ok (.iload_n 1, 1) := by decide +kernel
theorem dX5_at_21 : decode cX5_at 21 = .ok (.aaload, 1) := by decide +kernel
theorem dX5_at_22 : decode cX5_at 22 = .ok (.goto 4, 3) := by decide +kernel
theorem dX5_at_25 : decode cX5_at 25 = .ok (.aconst_null, 1) := by decide +kernel
theorem dX5_at_26 : decode cX5_at 26 = .ok (.areturn, 1) := by decide +kernel
theorem dX5_drop_0 : decode cX5_drop 0 = .ok (.aload_n 0, 1) := by decide +kernel
theorem dX5_drop_1 : decode cX5_drop 1 = .ok (.getfield 17, 3) := by decide +kernel
theorem dX5_drop_4 : decode cX5_drop 4 = .ok (.istore_n 1, 1) := by decide +kernel
theorem dX5_drop_5 : decode cX5_drop 5 = .ok (.aload_n 0, 1) := by decide +kernel
theorem dX5_drop_6 : decode cX5_drop 6 = .ok (.iconst 0, 1) := by decide +kernel
theorem dX5_drop_7 : decode cX5_drop 7 = .ok (.putfield 17, 3) := by decide +kernel
theorem dX5_drop_10 : decode cX5_drop 10 = .ok (.iload_n 1, 1) := by decide +kernel
theorem dX5_drop_11 : decode cX5_drop 11 = .ok (.ireturn, 1) := by decide +kernel
theorem dX7_init_0 : decode cX7_init 0 = .ok (.aload_n 0, 1) := by decide +kernel
theorem dX7_init_1 : decode cX7_init 1 = .ok (.invokespecial 3, 3) := by decide +kernel
theorem dX7_init_4 : decode cX7_init 4 = .ok (.return_, 1) := by decide +kernel
theorem dX7_enter_0 : decode cX7_enter 0 = .ok (.aload_n 1, 1) := by decide +kernel
theorem dX7_enter_1 : decode cX7_enter 1 = .ok (.iconst 0, 1) := by decide +kernel
theorem dX7_enter_2 : decode cX7_enter 2 = .ok (.putfield 9, 3) := by decide +kernel
theorem dX7_enter_5 : decode cX7_enter 5 = .ok (.aload_n 2, 1) := by decide +kernel
theorem dX7_enter_6 : decode cX7_enter 6 = .ok (.invokevirtual 15, 3) := by decide +kernel
theorem dX7_enter_9 : decode cX7_enter 9 = .ok (.ireturn, 1) := by decide +kernel
theorem dX7_fetch_0 : decode cX7_fetch 0 = .ok (.aload_n 1, 1) := by decide +kernel
theorem dX7_fetch_1 : decode cX7_fetch 1 = .ok (.getfield 21, 3) := by decide +kernel
theorem dX7_fetch_4 : decode cX7_fetch 4 = .ok (.astore_n 3, 1) := by decide +kernel
theorem dX7_fetch_5 : decode cX7_fetch 5 = .ok (.aload_n 1, 1) := by decide +kernel
theorem dX7_fetch_6 : decode cX7_fetch 6 = .ok (.aload_n 1, 1) := by decide +kernel
theorem dX7_fetch_7 : decode cX7_fetch 7 = .ok (.getfield 9, 3) := by decide +kernel
theorem dX7_fetch_10 : decode cX7_fetch 10 = .ok (.putfield 25, 3) := by decide +kernel
theorem dX7_fetch_13 : decode cX7_fetch 13 = .ok (.aload_n 1, 1) := by decide +kernel
theorem dX7_fetch_14 : decode cX7_fetch 14 = .ok (.aload_n 1, 1) := by decide +kernel
theorem dX7_fetch_15 : decode cX7_fetch 15 = .ok (.getfield 25, 3) := by decide +kernel
theorem dX7_fetch_18 : decode cX7_fetch 18 = .ok (.iconst 1, 1) := by decide +kernel
theorem dX7_fetch_19 : decode cX7_fetch 19 = .ok (.iadd, 1) := by decide +kernel
theorem dX7_fetch_20 : decode cX7_fetch 20 = .ok (.putfield 9, 3) := by decide +kernel
theorem dX7_fetch_23 : decode cX7_fetch 23 = .ok (.aload_n 3, 1) := by decide +kernel
theorem dX7_fetch_24 : decode cX7_fetch 24 = .ok (.aload_n 1, 1) := by decide +kernel
theorem dX7_fetch_25 : decode cX7_fetch 25 = .ok (.getfield 25, 3) := by decide +kernel
theorem dX7_fetch_28 : decode cX7_fetch 28 = .ok (.invokevirtual 28, 3) := by decide +kernel
theorem dX7_fetch_31 : decode cX7_fetch 31 = .ok (.bipush 8, 2) := by decide +kernel
theorem dX7_fetch_33 : decode cX7_fetch 33 = .ok (.if_icmp .ne 22, 3) := by decide +kernel
theorem dX7_fetch_36 : decode cX7_fetch 36 = .ok (.aload_n 2, 1) := by decide +kernel
theorem dX7_fetch_37 : decode cX7_fetch 37 = .ok (.aload_n 1, 1) := by decide +kernel
theorem dX7_fetch_38 : decode cX7_fetch 38 = .ok (.aload_n 3, 1) := by decide +kernel
theorem dX7_fetch_39 : decode cX7_fetch 39 = .ok (.aload_n 1, 1) := by decide +kernel
theorem dX7_fetch_40 : decode cX7_fetch 40 = .ok (.getfield 25, 3) := by decide +kernel
theorem dX7_fetch_43 : decode cX7_fetch 43 = .ok (.invokevirtual 34, 3) := by decide +kernel
theorem dX7_fetch_46 : decode cX7_fetch 46 = .ok (.invokevirtual 37, 3) := by decide +kernel
theorem dX7_fetch_49 : decode cX7_fetch 49 = .ok (.invokevirtual 41, 3) := by decide +kernel
theorem dX7_fetch_52 : decode cX7_fetch 52 = .ok (.ifCond .eq 7, 3) := by decide +kernel
theorem dX7_fetch_55 : decode cX7_fetch 55 = .ok (.iconst 1, 1) := by decide +kernel
theorem dX7_fetch_56 : decode cX7_fetch 56 = .ok (.goto 4, 3) := by decide +kernel
theorem dX7_fetch_59 : decode cX7_fetch 59 = .ok (.iconst 0, 1) := by decide +kernel
theorem dX7_fetch_60 : decode cX7_fetch 60 = .ok (.ireturn, 1) := by decide +kernel
theorem dX7_jump_0 : decode cX7_jump 0 = .ok (.aload_n 1, 1) := by decide +kernel
theorem dX7_jump_1 : decode cX7_jump 1 = .ok (.aload_n 1, 1) := by decide +kernel
theorem dX7_jump_2 : decode cX7_jump 2 = .ok (.getfield 21, 3) := by decide +kernel
theorem dX7_jump_5 : decode cX7_jump 5 = .ok (.aload_n 1, 1) := by decide +kernel
theorem dX7_jump_6 : decode cX7_jump 6 = .ok (.getfield 25, 3) := by decide +kernel
theorem dX7_jump_9 : decode cX7_jump 9 = .ok (.invokevirtual 45, 3) := by decide +kernel
theorem dX7_jump_12 : decode cX7_jump 12 = .ok (.putfield 9, 3) := by decide +kernel
theorem dX7_jump_15 : decode cX7_jump 15 = .ok (.aload_n 1, 1) := by decide +kernel
theorem dX7_jump_16 : decode cX7_jump 16 = .ok (.getfield 21, 3) := by decide +kernel
theorem dX7_jump_19 : decode cX7_jump 19 = .ok (.aload_n 1, 1) := by decide +kernel
theorem dX7_jump_20 : decode cX7_jump 20 = .ok (.getfield 25, 3) := by decide +kernel
theorem dX7_jump_23 : decode cX7_jump 23 = .ok (.invokevirtual 48, 3) := by decide +kernel
theorem dX7_jump_26 : decode cX7_jump 26 = .ok (.ifCond .eq 10, 3) := by decide +kernel
theorem dX7_jump_29 : decode cX7_jump 29 = .ok (.aload_n 2, 1) := by decide +kernel
theorem dX7_jump_30 : decode cX7_jump 30 = .ok (.invokevirtual 15, 3) := by decide +kernel
theorem dX7_jump_33 : decode cX7_jump 33 = .ok (.ifCond .eq 7, 3) := by decide +kernel
theorem dX7_jump_36 : decode cX7_jump 36 = .ok (.iconst 1, 1) := by decide +kernel
theorem dX7_jump_37 : decode cX7_jump 37 = .ok (.goto 4, 3) := by decide +kernel
theorem dX7_jump_40 : decode cX7_jump 40 = .ok (.iconst 0, 1) := by decide +kernel
theorem dX7_jump_41 : decode cX7_jump 41 = .ok (.ireturn, 1) := by decide +kernel
theorem dX7_take_0 : decode cX7_take 0 = .ok (.aload_n 1, 1) := by decide +kernel
theorem dX7_take_1 : decode cX7_take 1 = .ok (.aload_n 1, 1) := by decide +kernel
theorem dX7_take_2 : decode cX7_take 2 = .ok (.getfield 21, 3) := by decide +kernel
theorem dX7_take_5 : decode cX7_take 5 = .ok (.iload_n 2, 1) := by decide +kernel
theorem dX7_take_6 : decode cX7_take 6 = .ok (.invokevirtual 52, 3) := by decide +kernel
theorem dX7_take_9 : decode cX7_take 9 = .ok (.putfield 9, 3) := by decide +kernel
theorem dX7_take_12 : decode cX7_take 12 = .ok (.aload_n 3, 1) := by decide +kernel
theorem dX7_take_13 : decode cX7_take 13 = .ok (.invokevirtual 15, 3) := by decide +kernel
theorem dX7_take_16 : decode cX7_take 16 = .ok (.ireturn, 1) := by decide +kernel
theorem dX8_init_0 : decode cX8_init 0 = .ok (.aload_n 0, 1) := by decide +kernel
theorem dX8_init_1 : decode cX8_init 1 = .ok (.invokespecial 3, 3) := by decide +kernel
theorem dX8_init_4 : decode cX8_init 4 = .ok (.aload_n 0, 1) := by decide +kernel
theorem dX8_init_5 : decode cX8_init 5 = .ok (.sipush 200, 3) := by decide +kernel
theorem dX8_init_8 : decode cX8_init 8 = .ok (.newarray .long, 2) := by decide +kernel
theorem dX8_init_10 : decode cX8_init 10 = .ok (.putfield 9, 3) := by decide +kernel
theorem dX8_init_13 : decode cX8_init 13 = .ok (.aload_n 0, 1) := by decide +kernel
theorem dX8_init_14 : decode cX8_init 14 = .ok (.iconst (-1), 1) := by decide +kernel
theorem dX8_init_15 : decode cX8_init 15 = .ok (.putfield 15, 3) := by decide +kernel
theorem dX8_init_18 : decode cX8_init 18 = .ok (.aload_n 0, 1) := by decide +kernel
theorem dX8_init_19 : decode cX8_init 19 = .ok (.iconst 0, 1) := by decide +kernel
theorem dX8_init_20 : decode cX8_init 20 = .ok (.putfield 19, 3) := by decide +kernel
theorem dX8_init_23 : decode cX8_init 23 = .ok (.return_, 1) := by decide +kernel
theorem dX8_drop_0 : decode cX8_drop 0 = .ok (.aload_n 0, 1) := by decide +kernel
theorem dX8_drop_1 : decode cX8_drop 1 = .ok (.iconst (-1), 1) := by decide +kernel
theorem dX8_drop_2 : decode cX8_drop 2 = .ok (.putfield 15, 3) := by decide +kernel
theorem dX8_drop_5 : decode cX8_drop 5 = .ok (.aload_n 0, 1) := by decide +kernel
theorem dX8_drop_6 : decode cX8_drop 6 = .ok (.iconst 0, 1) := by decide +kernel
theorem dX8_drop_7 : decode cX8_drop 7 = .ok (.putfield 19, 3) := by decide +kernel
theorem dX8_drop_10 : decode cX8_drop 10 = .ok (.return_, 1) := by decide +kernel
theorem dX8_make_0 : decode cX8_make 0 = .ok (.lload_n 2, 1) := by decide +kernel
theorem dX8_make_1 : decode cX8_make 1 = .ok (.lconst 0, 1) := by decide +kernel
theorem dX8_make_2 : decode cX8_make 2 = .ok (.lcmp, 1) := by decide +kernel
theorem dX8_make_3 : decode cX8_make 3 = .ok (.ifCond .ge 5, 3) := by decide +kernel
theorem dX8_make_6 : decode cX8_make 6 = .ok (.iconst 3, 1) := by decide +kernel
theorem dX8_make_7 : decode cX8_make 7 = .ok (.ireturn, 1) := by decide +kernel
theorem dX8_make_8 : decode cX8_make 8 = .ok (.aload_n 0, 1) := by decide +kernel
theorem dX8_make_9 : decode cX8_make 9 = .ok (.lload_n 2, 1) := by decide +kernel
theorem dX8_make_10 : decode cX8_make 10 = .ok (.ldc2_w 22, 3) := by decide +kernel
theorem dX8_make_13 : decode cX8_make 13 = .ok (.invokestatic 24, 3) := by decide +kernel
theorem dX8_make_16 : decode cX8_make 16 = .ok (.l2i, 1) := by decide +kernel
theorem dX8_make_17 : decode cX8_make 17 = .ok (.putfield 19, 3) := by decide +kernel
theorem dX8_make_20 : decode cX8_make 20 = .ok (.aload_n 0, 1) := by decide +kernel
theorem dX8_make_21 : decode cX8_make 21 = .ok (.iload_n 1, 1) := by decide +kernel
theorem dX8_make_22 : decode cX8_make 22 = .ok (.putfield 15, 3) := by decide +kernel
theorem dX8_make_25 : decode cX8_make 25 = .ok (.aload_n 0, 1) := by decide +kernel
theorem dX8_make_26 : decode cX8_make 26 = .ok (.invokevirtual 30, 3) := by decide +kernel
theorem dX8_make_29 : decode cX8_make 29 = .ok (.ifCond .eq 9, 3) := by decide +kernel
theorem dX8_make_32 : decode cX8_make 32 = .ok (.ldc2_w 34, 3) := by decide +kernel
theorem dX8_make_35 : decode cX8_make 35 = .ok (.goto 4, 3) := by decide +kernel
theorem dX8_make_38 : decode cX8_make 38 = .ok (.lconst 0, 1) := by decide +kernel
theorem dX8_make_39 : decode cX8_make 39 = .ok (.lstore 4, 2) := by decide +kernel
theorem dX8_make_41 : decode cX8_make 41 = .ok (.iconst 0, 1) := by decide +kernel
theorem dX8_make_42 : decode cX8_make 42 = .ok (.istore 6, 2) := by decide +kernel
theorem dX8_make_44 : decode cX8_make 44 = .ok (.iload 6, 2) := by decide +kernel
theorem dX8_make_46 : decode cX8_make 46 = .ok (.aload_n 0, 1) := by decide +kernel
theorem dX8_make_47 : decode cX8_make 47 = .ok (.getfield 19, 3) := by decide +kernel
theorem dX8_make_50 : decode cX8_make 50 = .ok (.if_icmp .ge 18, 3) := by decide +kernel
theorem dX8_make_53 : decode cX8_make 53 = .ok (.aload_n 0, 1) := by decide +kernel
theorem dX8_make_54 : decode cX8_make 54 = .ok (.getfield 9, 3) := by decide +kernel
theorem dX8_make_57 : decode cX8_make 57 = .ok (.iload 6, 2) := by decide +kernel
theorem dX8_make_59 : decode cX8_make 59 = .ok (.lload 4, 2) := by decide +kernel
theorem dX8_make_61 : decode cX8_make 61 = .ok (.lastore, 1) := by decide +kernel
theorem dX8_make_62 : decode cX8_make 62 = .ok (.iinc 6 1, 3) := by decide +kernel
theorem dX8_make_65 : decode cX8_make 65 = .ok (.goto (-21), 3) := by decide +kernel
theorem dX8_make_68 : decode cX8_make 68 = .ok (.iconst 0, 1) := by decide +kernel
theorem dX8_make_69 : decode cX8_make 69 = .ok (.ireturn, 1) := by decide +kernel
theorem dX8_fault_0 : decode cX8_fault 0 = .ok (.aload_n 0, 1) := by decide +kernel
theorem dX8_fault_1 : decode cX8_fault 1 = .ok (.getfield 15, 3) := by decide +kernel
theorem dX8_fault_4 : decode cX8_fault 4 = .ok (.iconst (-1), 1) := by decide +kernel
theorem dX8_fault_5 : decode cX8_fault 5 = .ok (.if_icmp .ne 5, 3) := by decide +kernel
theorem dX8_fault_8 : decode cX8_fault 8 = .ok (.iconst 1, 1) := by decide +kernel
theorem dX8_fault_9 : decode cX8_fault 9 = .ok (.ireturn, 1) := by decide +kernel
theorem dX8_fault_10 : decode cX8_fault 10 = .ok (.lload_n 1, 1) := by decide +kernel
theorem dX8_fault_11 : decode cX8_fault 11 = .ok (.lconst 0, 1) := by decide +kernel
theorem dX8_fault_12 : decode cX8_fault 12 = .ok (.aload_n 0, 1) := by decide +kernel
theorem dX8_fault_13 : decode cX8_fault 13 = .ok (.getfield 19, 3) := by decide +kernel
theorem dX8_fault_16 : decode cX8_fault 16 = .ok (.iconst 1, 1) := by decide +kernel
theorem dX8_fault_17 : decode cX8_fault 17 = .ok (.isub, 1) := by decide +kernel
theorem dX8_fault_18 : decode cX8_fault 18 = .ok (.i2l, 1) := by decide +kernel
theorem dX8_fault_19 : decode cX8_fault 19 = .ok (.invokestatic 36, 3) := by decide +kernel
theorem dX8_fault_22 : decode cX8_fault 22 = .ok (.ifCond .eq 7, 3) := by decide +kernel
theorem dX8_fault_25 : decode cX8_fault 25 = .ok (.iconst 0, 1) := by decide +kernel
theorem dX8_fault_26 : decode cX8_fault 26 = .ok (.goto 4, 3) := by decide +kernel
theorem dX8_fault_29 : decode cX8_fault 29 = .ok (.iconst 2, 1) := by decide +kernel
theorem dX8_fault_30 : decode cX8_fault 30 = .ok (.ireturn, 1) := by decide +kernel
theorem dX8_cell_0 : decode cX8_cell 0 = .ok (.aload_n 0, 1) := by decide +kernel
theorem dX8_cell_1 : decode cX8_cell 1 = .ok (.lload_n 1, 1) := by decide +kernel
theorem dX8_cell_2 : decode cX8_cell 2 = .ok (.invokevirtual 40, 3) := by decide +kernel
theorem dX8_cell_5 : decode cX8_cell 5 = .ok (.ifCond .ne 13, 3) := by decide +kernel
theorem dX8_cell_8 : decode cX8_cell 8 = .ok (.aload_n 0, 1) := by decide +kernel
theorem dX8_cell_9 : decode cX8_cell 9 = .ok (.getfield 9, 3) := by decide +kernel
theorem dX8_cell_12 : decode cX8_cell 12 = .ok (.lload_n 1, 1) := by decide +kernel
theorem dX8_cell_13 : decode cX8_cell 13 = .ok (.l2i, 1) := by decide +kernel
theorem dX8_cell_14 : decode cX8_cell 14 = .ok (.laload, 1) := by decide +kernel
theorem dX8_cell_15 : decode cX8_cell 15 = .ok (.goto 4, 3) := by decide +kernel
theorem dX8_cell_18 : decode cX8_cell 18 = .ok (.lconst 0, 1) := by decide +kernel
theorem dX8_cell_19 : decode cX8_cell 19 = .ok (.lreturn, 1) := by decide +kernel
theorem dX8_put_0 : decode cX8_put 0 = .ok (.aload_n 0, 1) := by decide +kernel
theorem dX8_put_1 : decode cX8_put 1 = .ok (.lload_n 1, 1) := by decide +kernel
theorem dX8_put_2 : decode cX8_put 2 = .ok (.invokevirtual 40, 3) := by decide +kernel
theorem dX8_put_5 : decode cX8_put 5 = .ok (.istore 5, 2) := by decide +kernel
theorem dX8_put_7 : decode cX8_put 7 = .ok (.iload 5, 2) := by decide +kernel
theorem dX8_put_9 : decode cX8_put 9 = .ok (.ifCond .eq 6, 3) := by decide +kernel
theorem dX8_put_12 : decode cX8_put 12 = .ok (.iload 5, 2) := by decide +kernel
theorem dX8_put_14 : decode cX8_put 14 = .ok (.ireturn, 1) := by decide +kernel
theorem dX8_put_15 : decode cX8_put 15 = .ok (.aload_n 0, 1) := by decide +kernel
theorem dX8_put_16 : decode cX8_put 16 = .ok (.lload_n 3, 1) := by decide +kernel
theorem dX8_put_17 : decode cX8_put 17 = .ok (.invokevirtual 44, 3) := by decide +kernel
theorem dX8_put_20 : decode cX8_put 20 = .ok (.lstore 6, 2) := by decide +kernel
theorem dX8_put_22 : decode cX8_put 22 = .ok (.aload_n 0, 1) := by decide +kernel
theorem dX8_put_23 : decode cX8_put 23 = .ok (.getfield 15, 3) := by decide +kernel
theorem dX8_put_26 : decode cX8_put 26 = .ok (.bipush 6, 2) := by decide +kernel
theorem dX8_put_28 : decode cX8_put 28 = .ok (.if_icmp .ne 14, 3) := by decide +kernel
theorem dX8_put_31 : decode cX8_put 31 = .ok (.lload 6, 2) := by decide +kernel
theorem dX8_put_33 : decode cX8_put 33 = .ok (.lconst 1, 1) := by decide +kernel
theorem dX8_put_34 : decode cX8_put 34 = .ok (.land, 1) := by decide +kernel
theorem dX8_put_35 : decode cX8_put 35 = .ok (.lconst 0, 1) := by decide +kernel
theorem dX8_put_36 : decode cX8_put 36 = .ok (.lcmp, 1) := by decide +kernel
theorem dX8_put_37 : decode cX8_put 37 = .ok (.ifCond .ne 5, 3) := by decide +kernel
theorem dX8_put_40 : decode cX8_put 40 = .ok (.iconst 4, 1) := by decide +kernel
theorem dX8_put_41 : decode cX8_put 41 = .ok (.ireturn, 1) := by decide +kernel
theorem dX8_put_42 : decode cX8_put 42 = .ok (.aload_n 0, 1) := by decide +kernel
theorem dX8_put_43 : decode cX8_put 43 = .ok (.getfield 9, 3) := by decide +kernel
theorem dX8_put_46 : decode cX8_put 46 = .ok (.lload_n 1, 1) := by decide +kernel
theorem dX8_put_47 : decode cX8_put 47 = .ok (.l2i, 1) := by decide +kernel
theorem dX8_put_48 : decode cX8_put 48 = .ok (.lload 6, 2) := by decide +kernel
theorem dX8_put_50 : decode cX8_put 50 = .ok (.lastore, 1) := by decide +kernel
theorem dX8_put_51 : decode cX8_put 51 = .ok (.iconst 0, 1) := by decide +kernel
theorem dX8_put_52 : decode cX8_put 52 = .ok (.ireturn, 1) := by decide +kernel
theorem dX8_isOf_0 : decode cX8_isOf 0 = .ok (.aload_n 0, 1) := by decide +kernel
theorem dX8_isOf_1 : decode cX8_isOf 1 = .ok (.getfield 15, 3) := by decide +kernel
theorem dX8_isOf_4 : decode cX8_isOf 4 = .ok (.iconst (-1), 1) := by decide +kernel
theorem dX8_isOf_5 : decode cX8_isOf 5 = .ok (.if_icmp .eq 30, 3) := by decide +kernel
theorem dX8_isOf_8 : decode cX8_isOf 8 = .ok (.aload_n 0, 1) := by decide +kernel
theorem dX8_isOf_9 : decode cX8_isOf 9 = .ok (.getfield 15, 3) := by decide +kernel
theorem dX8_isOf_12 : decode cX8_isOf 12 = .ok (.i2l, 1) := by decide +kernel
theorem dX8_isOf_13 : decode cX8_isOf 13 = .ok (.lload_n 1, 1) := by decide +kernel
theorem dX8_isOf_14 : decode cX8_isOf 14 = .ok (.lcmp, 1) := by decide +kernel
theorem dX8_isOf_15 : decode cX8_isOf 15 = .ok (.ifCond .eq 20, 3) := by decide +kernel
theorem dX8_isOf_18 : decode cX8_isOf 18 = .ok (.aload_n 0, 1) := by decide +kernel
theorem dX8_isOf_19 : decode cX8_isOf 19 = .ok (.getfield 15, 3) := by decide +kernel
theorem dX8_isOf_22 : decode cX8_isOf 22 = .ok (.bipush 6, 2) := by decide +kernel
theorem dX8_isOf_24 : decode cX8_isOf 24 = .ok (.if_icmp .ne 15, 3) := by decide +kernel
theorem dX8_isOf_27 : decode cX8_isOf 27 = .ok (.lload_n 1, 1) := by decide +kernel
theorem dX8_isOf_28 : decode cX8_isOf 28 = .ok (.ldc2_w 48, 3) := by decide +kernel
theorem dX8_isOf_31 : decode cX8_isOf 31 = .ok (.lcmp, 1) := by decide +kernel
theorem dX8_isOf_32 : decode cX8_isOf 32 = .ok (.ifCond .ne 7, 3) := by decide +kernel
theorem dX8_isOf_35 : decode cX8_isOf 35 = .ok (.iconst 1, 1) := by decide +kernel
theorem dX8_isOf_36 : decode cX8_isOf 36 = .ok (.goto 4, 3) := by decide +kernel
theorem dX8_isOf_39 : decode cX8_isOf 39 = .ok (.iconst 0, 1) := by decide +kernel
theorem dX8_isOf_40 : decode cX8_isOf 40 = .ok (.ireturn, 1) := by decide +kernel
theorem dX8_holdsThings_0 : decode cX8_holdsThings 0 = .ok (.aload_n 0, 1) := by decide +kernel
theorem dX8_holdsThings_1 : decode cX8_holdsThings 1 = .ok (.getfield 15, 3) := by decide +kernel
theorem dX8_holdsThings_4 : decode cX8_holdsThings 4 = .ok (.iconst 5, 1) := by decide +kernel
theorem dX8_holdsThings_5 : decode cX8_holdsThings 5 = .ok (.if_icmp .eq 12, 3) := by decide +kernel
theorem dX8_holdsThings_8 : decode cX8_holdsThings 8 = .ok (.aload_n 0, 1) := by decide +kernel
theorem dX8_holdsThings_9 : decode cX8_holdsThings 9 = .ok (.getfield 15, 3) := by decide +kernel
theorem dX8_holdsThings_12 : decode cX8_holdsThings 12 = .ok (.bipush 6, 2) := by decide +kernel
theorem dX8_holdsThings_14 : decode cX8_holdsThings 14 = .ok (.if_icmp .ne 7, 3) := by decide +kernel
theorem dX8_holdsThings_17 : decode cX8_holdsThings 17 = .ok (.iconst 1, 1) := by decide +kernel
theorem dX8_holdsThings_18 : decode cX8_holdsThings 18 = .ok (.goto 4, 3) := by decide +kernel
theorem dX8_holdsThings_21 : decode cX8_holdsThings 21 = .ok (.iconst 0, 1) := by decide +kernel
theorem dX8_holdsThings_22 : decode cX8_holdsThings 22 = .ok (.ireturn, 1) := by decide +kernel
theorem dX8_fitted_0 : decode cX8_fitted 0 = .ok (.aload_n 0, 1) := by decide +kernel
theorem dX8_fitted_1 : decode cX8_fitted 1 = .ok (.getfield 15, 3) := by decide +kernel
theorem dX8_fitted_4 : decode cX8_fitted 4 = .ok (.tableswitch 56 0 4 #[36, 41, 46, 50, 52], 36) := by decide +kernel
theorem dX8_fitted_40 : decode cX8_fitted 40 = .ok (.lload_n 1, 1) := by decide +kernel
theorem dX8_fitted_41 : decode cX8_fitted 41 = .ok (.l2i, 1) := by decide +kernel
theorem dX8_fitted_42 : decode cX8_fitted 42 = .ok (.i2b, 1) := by decide +kernel
theorem dX8_fitted_43 : decode cX8_fitted 43 = .ok (.i2l, 1) := by decide +kernel
theorem dX8_fitted_44 : decode cX8_fitted 44 = .ok (.lreturn, 1) := by decide +kernel
theorem dX8_fitted_45 : decode cX8_fitted 45 = .ok (.lload_n 1, 1) := by decide +kernel
theorem dX8_fitted_46 : decode cX8_fitted 46 = .ok (.l2i, 1) := by decide +kernel
theorem dX8_fitted_47 : decode cX8_fitted 47 = .ok (.i2s, 1) := by decide +kernel
theorem dX8_fitted_48 : decode cX8_fitted 48 = .ok (.i2l, 1) := by decide +kernel
theorem dX8_fitted_49 : decode cX8_fitted 49 = .ok (.lreturn, 1) := by decide +kernel
theorem dX8_fitted_50 : decode cX8_fitted 50 = .ok (.lload_n 1, 1) := by decide +kernel
theorem dX8_fitted_51 : decode cX8_fitted 51 = .ok (.l2i, 1) := by decide +kernel
theorem dX8_fitted_52 : decode cX8_fitted 52 = .ok (.i2l, 1) := by decide +kernel
theorem dX8_fitted_53 : decode cX8_fitted 53 = .ok (.lreturn, 1) := by decide +kernel
theorem dX8_fitted_54 : decode cX8_fitted 54 = .ok (.lload_n 1, 1) := by decide +kernel
theorem dX8_fitted_55 : decode cX8_fitted 55 = .ok (.lreturn, 1) := by decide +kernel
theorem dX8_fitted_56 : decode cX8_fitted 56 = .ok (.lload_n 1, 1) := by decide +kernel
theorem dX8_fitted_57 : decode cX8_fitted 57 = .ok (.l2d, 1) := by decide +kernel
theorem dX8_fitted_58 : decode cX8_fitted 58 = .ok (.d2l, 1) := by decide +kernel
theorem dX8_fitted_59 : decode cX8_fitted 59 = .ok (.lreturn, 1) := by decide +kernel
theorem dX8_fitted_60 : decode cX8_fitted 60 = .ok (.lload_n 1, 1) := by decide +kernel
theorem dX8_fitted_61 : decode cX8_fitted 61 = .ok (.ldc2_w 50, 3) := by decide +kernel
theorem dX8_fitted_64 : decode cX8_fitted 64 = .ok (.land, 1) := by decide +kernel
theorem dX8_fitted_65 : decode cX8_fitted 65 = .ok (.lreturn, 1) := by decide +kernel
theorem dX9_init_0 : decode cX9_init 0 = .ok (.aload_n 0, 1) := by decide +kernel
theorem dX9_init_1 : decode cX9_init 1 = .ok (.invokespecial 3, 3) := by decide +kernel
theorem dX9_init_4 : decode cX9_init 4 = .ok (.aload_n 0, 1) := by decide +kernel
theorem dX9_init_5 : decode cX9_init 5 = .ok (.iconst 0, 1) := by decide +kernel
theorem dX9_init_6 : decode cX9_init 6 = .ok (.putfield 9, 3) := by decide +kernel
theorem dX9_init_9 : decode cX9_init 9 = .ok (.aload_n 0, 1) := by decide +kernel
theorem dX9_init_10 : decode cX9_init 10 = .ok (.iconst 0, 1) := by decide +kernel
theorem dX9_init_11 : decode cX9_init 11 = .ok (.putfield 15, 3) := by decide +kernel
theorem dX9_init_14 : decode cX9_init 14 = .ok (.aload_n 0, 1) := by decide +kernel
theorem dX9_init_15 : decode cX9_init 15 = .ok (.iconst 0, 1) := by decide +kernel
theorem dX9_init_16 : decode cX9_init 16 = .ok (.putfield 18, 3) := by decide +kernel
theorem dX9_init_19 : decode cX9_init 19 = .ok (.aload_n 0, 1) := by decide +kernel
theorem dX9_init_20 : decode cX9_init 20 = .ok (.iconst 0, 1) := by decide +kernel
theorem dX9_init_21 : decode cX9_init 21 = .ok (.putfield 21, 3) := by decide +kernel
theorem dX9_init_24 : decode cX9_init 24 = .ok (.aload_n 0, 1) := by decide +kernel
theorem dX9_init_25 : decode cX9_init 25 = .ok (.iconst 0, 1) := by decide +kernel
theorem dX9_init_26 : decode cX9_init 26 = .ok (.putfield 24, 3) := by decide +kernel
theorem dX9_init_29 : decode cX9_init 29 = .ok (.aload_n 0, 1) := by decide +kernel
theorem dX9_init_30 : decode cX9_init 30 = .ok (.iconst 0, 1) := by decide +kernel
theorem dX9_init_31 : decode cX9_init 31 = .ok (.putfield 27, 3) := by decide +kernel
theorem dX9_init_34 : decode cX9_init 34 = .ok (.aload_n 0, 1) := by decide +kernel
theorem dX9_init_35 : decode cX9_init 35 = .ok (.iconst 0, 1) := by decide +kernel
theorem dX9_init_36 : decode cX9_init 36 = .ok (.putfield 30, 3) := by decide +kernel
theorem dX9_init_39 : decode cX9_init 39 = .ok (.aload_n 0, 1) := by decide +kernel
theorem dX9_init_40 : decode cX9_init 40 = .ok (.iconst 0, 1) := by decide +kernel
theorem dX9_init_41 : decode cX9_init 41 = .ok (.putfield 33, 3) := by decide +kernel
theorem dX9_init_44 : decode cX9_init 44 = .ok (.aload_n 0, 1) := by decide +kernel
theorem dX9_init_45 : decode cX9_init 45 = .ok (.iconst 0, 1) := by decide +kernel
theorem dX9_init_46 : decode cX9_init 46 = .ok (.putfield 36, 3) := by decide +kernel
theorem dX9_init_49 : decode cX9_init 49 = .ok (.aload_n 0, 1) := by decide +kernel
theorem dX9_init_50 : decode cX9_init 50 = .ok (.lconst 0, 1) := by decide +kernel
theorem dX9_init_51 : decode cX9_init 51 = .ok (.putfield 39, 3) := by decide +kernel
theorem dX9_init_54 : decode cX9_init 54 = .ok (.return_, 1) := by decide +kernel
theorem dX9_reset_0 : decode cX9_reset 0 = .ok (.aload_n 0, 1) := by decide +kernel
theorem dX9_reset_1 : decode cX9_reset 1 = .ok (.iload_n 1, 1) := by decide +kernel
theorem dX9_reset_2 : decode cX9_reset 2 = .ok (.putfield 9, 3) := by decide +kernel
theorem dX9_reset_5 : decode cX9_reset 5 = .ok (.aload_n 0, 1) := by decide +kernel
theorem dX9_reset_6 : decode cX9_reset 6 = .ok (.iconst 0, 1) := by decide +kernel
theorem dX9_reset_7 : decode cX9_reset 7 = .ok (.putfield 15, 3) := by decide +kernel
theorem dX9_reset_10 : decode cX9_reset 10 = .ok (.aload_n 0, 1) := by decide +kernel
theorem dX9_reset_11 : decode cX9_reset 11 = .ok (.iconst 0, 1) := by decide +kernel
theorem dX9_reset_12 : decode cX9_reset 12 = .ok (.putfield 18, 3) := by decide +kernel
theorem dX9_reset_15 : decode cX9_reset 15 = .ok (.aload_n 0, 1) := by decide +kernel
theorem dX9_reset_16 : decode cX9_reset 16 = .ok (.iconst 0, 1) := by decide +kernel
theorem dX9_reset_17 : decode cX9_reset 17 = .ok (.putfield 21, 3) := by decide +kernel
theorem dX9_reset_20 : decode cX9_reset 20 = .ok (.aload_n 0, 1) := by decide +kernel
theorem dX9_reset_21 : decode cX9_reset 21 = .ok (.iconst 0, 1) := by decide +kernel
theorem dX9_reset_22 : decode cX9_reset 22 = .ok (.putfield 24, 3) := by decide +kernel
theorem dX9_reset_25 : decode cX9_reset 25 = .ok (.aload_n 0, 1) := by decide +kernel
theorem dX9_reset_26 : decode cX9_reset 26 = .ok (.iconst 0, 1) := by decide +kernel
theorem dX9_reset_27 : decode cX9_reset 27 = .ok (.putfield 27, 3) := by decide +kernel
theorem dX9_reset_30 : decode cX9_reset 30 = .ok (.aload_n 0, 1) := by decide +kernel
theorem dX9_reset_31 : decode cX9_reset 31 = .ok (.iconst 0, 1) := by decide +kernel
theorem dX9_reset_32 : decode cX9_reset 32 = .ok (.putfield 30, 3) := by decide +kernel
theorem dX9_reset_35 : decode cX9_reset 35 = .ok (.aload_n 0, 1) := by decide +kernel
theorem dX9_reset_36 : decode cX9_reset 36 = .ok (.iconst 0, 1) := by decide +kernel
theorem dX9_reset_37 : decode cX9_reset 37 = .ok (.putfield 33, 3) := by decide +kernel
theorem dX9_reset_40 : decode cX9_reset 40 = .ok (.aload_n 0, 1) := by decide +kernel
theorem dX9_reset_41 : decode cX9_reset 41 = .ok (.iconst 0, 1) := by decide +kernel
theorem dX9_reset_42 : decode cX9_reset 42 = .ok (.putfield 36, 3) := by decide +kernel
theorem dX9_reset_45 : decode cX9_reset 45 = .ok (.aload_n 0, 1) := by decide +kernel
theorem dX9_reset_46 : decode cX9_reset 46 = .ok (.lconst 0, 1) := by decide +kernel
theorem dX9_reset_47 : decode cX9_reset 47 = .ok (.putfield 39, 3) := by decide +kernel
theorem dX9_reset_50 : decode cX9_reset 50 = .ok (.return_, 1) := by decide +kernel
theorem dX9_countOne_0 : decode cX9_countOne 0 = .ok (.aload_n 0, 1) := by decide +kernel
theorem dX9_countOne_1 : decode cX9_countOne 1 = .ok (.getfield 15, 3) := by decide +kernel
theorem dX9_countOne_4 : decode cX9_countOne 4 = .ok (.aload_n 0, 1) := by decide +kernel
theorem dX9_countOne_5 : decode cX9_countOne 5 = .ok (.getfield 9, 3) := by decide +kernel
theorem dX9_countOne_8 : decode cX9_countOne 8 = .ok (.if_icmp .lt 5, 3) := by decide +kernel
theorem dX9_countOne_11 : decode cX9_countOne 11 = .ok (.iconst 0, 1) := by decide +kernel
theorem dX9_countOne_12 : decode cX9_countOne 12 = .ok (.ireturn, 1) := by decide +kernel
theorem dX9_countOne_13 : decode cX9_countOne 13 = .ok (.aload_n 0, 1) := by decide +kernel
theorem dX9_countOne_14 : decode cX9_countOne 14 = .ok (.dup, 1) := by decide +kernel
theorem dX9_countOne_15 : decode cX9_countOne 15 = .ok (.getfield 15, 3) := by decide +kernel
theorem dX9_countOne_18 : decode cX9_countOne 18 = .ok (.iconst 1, 1) := by decide +kernel
theorem dX9_countOne_19 : decode cX9_countOne 19 = .ok (.iadd, 1) := by decide +kernel
theorem dX9_countOne_20 : decode cX9_countOne 20 = .ok (.putfield 15, 3) := by decide +kernel
theorem dX9_countOne_23 : decode cX9_countOne 23 = .ok (.iconst 1, 1) := by decide +kernel
theorem dX9_countOne_24 : decode cX9_countOne 24 = .ok (.ireturn, 1) := by decide +kernel
theorem dX9_countMake_0 : decode cX9_countMake 0 = .ok (.aload_n 0, 1) := by decide +kernel
theorem dX9_countMake_1 : decode cX9_countMake 1 = .ok (.getfield 9, 3) := by decide +kernel
theorem dX9_countMake_4 : decode cX9_countMake 4 = .ok (.aload_n 0, 1) := by decide +kernel
theorem dX9_countMake_5 : decode cX9_countMake 5 = .ok (.getfield 15, 3) := by decide +kernel
theorem dX9_countMake_8 : decode cX9_countMake 8 = .ok (.isub, 1) := by decide +kernel
theorem dX9_countMake_9 : decode cX9_countMake 9 = .ok (.iconst 1, 1) := by decide +kernel
theorem dX9_countMake_10 : decode cX9_countMake 10 = .ok (.isub, 1) := by decide +kernel
theorem dX9_countMake_11 : decode cX9_countMake 11 = .ok (.istore_n 3, 1) := by decide +kernel
theorem dX9_countMake_12 : decode cX9_countMake 12 = .ok (.iload_n 3, 1) := by decide +kernel
theorem dX9_countMake_13 : decode cX9_countMake 13 = .ok (.ifCond .lt 10, 3) := by decide +kernel
theorem dX9_countMake_16 : decode cX9_countMake 16 = .ok (.lload_n 1, 1) := by decide +kernel
theorem dX9_countMake_17 : decode cX9_countMake 17 = .ok (.iload_n 3, 1) := by decide +kernel
theorem dX9_countMake_18 : decode cX9_countMake 18 = .ok (.i2l, 1) := by decide +kernel
theorem dX9_countMake_19 : decode cX9_countMake 19 = .ok (.lcmp, 1) := by decide +kernel
theorem dX9_countMake_20 : decode cX9_countMake 20 = .ok (.ifCond .le 5, 3) := by decide +kernel
theorem dX9_countMake_23 : decode cX9_countMake 23 = .ok (.iconst 0, 1) := by decide +kernel
theorem dX9_countMake_24 : decode cX9_countMake 24 = .ok (.ireturn, 1) := by decide +kernel
theorem dX9_countMake_25 : decode cX9_countMake 25 = .ok (.aload_n 0, 1) := by decide +kernel
theorem dX9_countMake_26 : decode cX9_countMake 26 = .ok (.dup, 1) := by decide +kernel
theorem dX9_countMake_27 : decode cX9_countMake 27 = .ok (.getfield 15, 3) := by decide +kernel
theorem dX9_countMake_30 : decode cX9_countMake 30 = .ok (.iconst 1, 1) := by decide +kernel
theorem dX9_countMake_31 : decode cX9_countMake 31 = .ok (.lload_n 1, 1) := by decide +kernel
theorem dX9_countMake_32 : decode cX9_countMake 32 = .ok (.lconst 0, 1) := by decide +kernel
theorem dX9_countMake_33 : decode cX9_countMake 33 = .ok (.invokestatic 43, 3) := by decide +kernel
theorem dX9_countMake_36 : decode cX9_countMake 36 = .ok (.l2i, 1) := by decide +kernel
theorem dX9_countMake_37 : decode cX9_countMake 37 = .ok (.iadd, 1) := by decide +kernel
theorem dX9_countMake_38 : decode cX9_countMake 38 = .ok (.iadd, 1) := by decide +kernel
theorem dX9_countMake_39 : decode cX9_countMake 39 = .ok (.putfield 15, 3) := by decide +kernel
theorem dX9_countMake_42 : decode cX9_countMake 42 = .ok (.iconst 1, 1) := by decide +kernel
theorem dX9_countMake_43 : decode cX9_countMake 43 = .ok (.ireturn, 1) := by decide +kernel
theorem dX9_beginInstruction_0 : decode cX9_beginInstruction 0 = .ok (.aload_n 0, 1) := by decide +kernel
theorem dX9_beginInstruction_1 : decode cX9_beginInstruction 1 = .ok (.getfield 36, 3) := by decide +kernel
theorem dX9_beginInstruction_4 : decode cX9_beginInstruction 4 = .ok (.sipush 2000, 3) := by decide +kernel
theorem dX9_beginInstruction_7 : decode cX9_beginInstruction 7 = .ok (.if_icmp .lt 5, 3) := by decide +kernel
theorem dX9_beginInstruction_10 : decode cX9_beginInstruction 10 = .ok (.iconst 0, 1) := by decide +kernel
theorem dX9_beginInstruction_11 : decode cX9_beginInstruction 11 = .ok (.ireturn, 1) := by decide +kernel
theorem dX9_beginInstruction_12 : decode cX9_beginInstruction 12 = .ok (.aload_n 0, 1) := by decide +kernel
theorem dX9_beginInstruction_13 : decode cX9_beginInstruction 13 = .ok (.dup, 1) := by decide +kernel
theorem dX9_beginInstruction_14 : decode cX9_beginInstruction 14 = .ok (.getfield 36, 3) := by decide +kernel
theorem dX9_beginInstruction_17 : decode cX9_beginInstruction 17 = .ok (.iconst 1, 1) := by decide +kernel
theorem dX9_beginInstruction_18 : decode cX9_beginInstruction 18 = .ok (.iadd, 1) := by decide +kernel
theorem dX9_beginInstruction_19 : decode cX9_beginInstruction 19 = .ok (.putfield 36, 3) := by decide +kernel
theorem dX9_beginInstruction_22 : decode cX9_beginInstruction 22 = .ok (.iconst 1, 1) := by decide +kernel
theorem dX9_beginInstruction_23 : decode cX9_beginInstruction 23 = .ok (.ireturn, 1) := by decide +kernel
theorem dX9_tell_0 : decode cX9_tell 0 = .ok (.iload_n 1, 1) := by decide +kernel
theorem dX9_tell_1 : decode cX9_tell 1 = .ok (.tableswitch 87 0 7 #[47, 52, 57, 62, 67, 72, 77, 82], 47) := by decide +kernel
theorem dX9_tell_48 : decode cX9_tell 48 = .ok (.aload_n 0, 1) := by decide +kernel
theorem dX9_tell_49 : decode cX9_tell 49 = .ok (.getfield 15, 3) := by decide +kernel
theorem dX9_tell_52 : decode cX9_tell 52 = .ok (.ireturn, 1) := by decide +kernel
theorem dX9_tell_53 : decode cX9_tell 53 = .ok (.aload_n 0, 1) := by decide +kernel
theorem dX9_tell_54 : decode cX9_tell 54 = .ok (.getfield 18, 3) := by decide +kernel
theorem dX9_tell_57 : decode cX9_tell 57 = .ok (.ireturn, 1) := by decide +kernel
theorem dX9_tell_58 : decode cX9_tell 58 = .ok (.aload_n 0, 1) := by decide +kernel
theorem dX9_tell_59 : decode cX9_tell 59 = .ok (.getfield 21, 3) := by decide +kernel
theorem dX9_tell_62 : decode cX9_tell 62 = .ok (.ireturn, 1) := by decide +kernel
theorem dX9_tell_63 : decode cX9_tell 63 = .ok (.aload_n 0, 1) := by decide +kernel
theorem dX9_tell_64 : decode cX9_tell 64 = .ok (.getfield 24, 3) := by decide +kernel
theorem dX9_tell_67 : decode cX9_tell 67 = .ok (.ireturn, 1) := by decide +kernel
theorem dX9_tell_68 : decode cX9_tell 68 = .ok (.aload_n 0, 1) := by decide +kernel
theorem dX9_tell_69 : decode cX9_tell 69 = .ok (.getfield 27, 3) := by decide +kernel
