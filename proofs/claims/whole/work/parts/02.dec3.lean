theorem dX11_entry_49 : decode cX11_entry 49 = .ok (.invokestatic 84, 3) := by decide +kernel
theorem dX11_entry_52 : decode cX11_entry 52 = .ok (.ifCond .ne 5, 3) := by decide +kernel
theorem dX11_entry_55 : decode cX11_entry 55 = .ok (.iconst (-1), 1) := by decide +kernel
theorem dX11_entry_56 : decode cX11_entry 56 = .ok (.ireturn, 1) := by decide +kernel
theorem dX11_entry_57 : decode cX11_entry 57 = .ok (.iload_n 3, 1) := by decide +kernel
theorem dX11_entry_58 : decode cX11_entry 58 = .ok (.ifCond .ne 12, 3) := by decide +kernel
theorem dX11_entry_61 : decode cX11_entry 61 = .ok (.aload_n 0, 1) := by decide +kernel
theorem dX11_entry_62 : decode cX11_entry 62 = .ok (.getfield 71, 3) := by decide +kernel
theorem dX11_entry_65 : decode cX11_entry 65 = .ok (.iload_n 2, 1) := by decide +kernel
theorem dX11_entry_66 : decode cX11_entry 66 = .ok (.iaload, 1) := by decide +kernel
theorem dX11_entry_67 : decode cX11_entry 67 = .ok (.goto 23, 3) := by decide +kernel
theorem dX11_entry_70 : decode cX11_entry 70 = .ok (.iload_n 3, 1) := by decide +kernel
theorem dX11_entry_71 : decode cX11_entry 71 = .ok (.iconst 1, 1) := by decide +kernel
theorem dX11_entry_72 : decode cX11_entry 72 = .ok (.if_icmp .ne 12, 3) := by decide +kernel
theorem dX11_entry_75 : decode cX11_entry 75 = .ok (.aload_n 0, 1) := by decide +kernel
theorem dX11_entry_76 : decode cX11_entry 76 = .ok (.getfield 74, 3) := by decide +kernel
theorem dX11_entry_79 : decode cX11_entry 79 = .ok (.iload_n 2, 1) := by decide +kernel
theorem dX11_entry_80 : decode cX11_entry 80 = .ok (.iaload, 1) := by decide +kernel
theorem dX11_entry_81 : decode cX11_entry 81 = .ok (.goto 9, 3) := by decide +kernel
theorem dX11_entry_84 : decode cX11_entry 84 = .ok (.aload_n 0, 1) := by decide +kernel
theorem dX11_entry_85 : decode cX11_entry 85 = .ok (.getfield 77, 3) := by decide +kernel
theorem dX11_entry_88 : decode cX11_entry 88 = .ok (.iload_n 2, 1) := by decide +kernel
theorem dX11_entry_89 : decode cX11_entry 89 = .ok (.iaload, 1) := by decide +kernel
theorem dX11_entry_90 : decode cX11_entry 90 = .ok (.ireturn, 1) := by decide +kernel
theorem dX11_about_0 : decode cX11_about 0 = .ok (.aload_n 0, 1) := by decide +kernel
theorem dX11_about_1 : decode cX11_about 1 = .ok (.iload_n 1, 1) := by decide +kernel
theorem dX11_about_2 : decode cX11_about 2 = .ok (.invokevirtual 96, 3) := by decide +kernel
theorem dX11_about_5 : decode cX11_about 5 = .ok (.ifCond .eq 15, 3) := by decide +kernel
theorem dX11_about_8 : decode cX11_about 8 = .ok (.iload_n 2, 1) := by decide +kernel
theorem dX11_about_9 : decode cX11_about 9 = .ok (.i2l, 1) := by decide +kernel
theorem dX11_about_10 : decode cX11_about 10 = .ok (.lconst 0, 1) := by decide +kernel
theorem dX11_about_11 : decode cX11_about 11 = .ok (.ldc2_w 94, 3) := by decide +kernel
theorem dX11_about_14 : decode cX11_about 14 = .ok (.invokestatic 84, 3) := by decide +kernel
theorem dX11_about_17 : decode cX11_about 17 = .ok (.ifCond .ne 6, 3) := by decide +kernel
theorem dX11_about_20 : decode cX11_about 20 = .ok (.bipush (-2), 2) := by decide +kernel
theorem dX11_about_22 : decode cX11_about 22 = .ok (.ireturn, 1) := by decide +kernel
theorem dX11_about_23 : decode cX11_about 23 = .ok (.iload_n 2, 1) := by decide +kernel
theorem dX11_about_24 : decode cX11_about 24 = .ok (.iconst 2, 1) := by decide +kernel
theorem dX11_about_25 : decode cX11_about 25 = .ok (.if_icmp .ge 23, 3) := by decide +kernel
theorem dX11_about_28 : decode cX11_about 28 = .ok (.iload_n 2, 1) := by decide +kernel
theorem dX11_about_29 : decode cX11_about 29 = .ok (.ifCond .ne 12, 3) := by decide +kernel
theorem dX11_about_32 : decode cX11_about 32 = .ok (.aload_n 0, 1) := by decide +kernel
theorem dX11_about_33 : decode cX11_about 33 = .ok (.getfield 7, 3) := by decide +kernel
theorem dX11_about_36 : decode cX11_about 36 = .ok (.iload_n 1, 1) := by decide +kernel
theorem dX11_about_37 : decode cX11_about 37 = .ok (.iaload, 1) := by decide +kernel
theorem dX11_about_38 : decode cX11_about 38 = .ok (.goto 9, 3) := by decide +kernel
theorem dX11_about_41 : decode cX11_about 41 = .ok (.aload_n 0, 1) := by decide +kernel
theorem dX11_about_42 : decode cX11_about 42 = .ok (.getfield 26, 3) := by decide +kernel
theorem dX11_about_45 : decode cX11_about 45 = .ok (.iload_n 1, 1) := by decide +kernel
theorem dX11_about_46 : decode cX11_about 46 = .ok (.iaload, 1) := by decide +kernel
theorem dX11_about_47 : decode cX11_about 47 = .ok (.ireturn, 1) := by decide +kernel
theorem dX11_about_48 : decode cX11_about 48 = .ok (.aload_n 0, 1) := by decide +kernel
theorem dX11_about_49 : decode cX11_about 49 = .ok (.iload_n 1, 1) := by decide +kernel
theorem dX11_about_50 : decode cX11_about 50 = .ok (.invokevirtual 130, 3) := by decide +kernel
theorem dX11_about_53 : decode cX11_about 53 = .ok (.ifCond .eq 6, 3) := by decide +kernel
theorem dX11_about_56 : decode cX11_about 56 = .ok (.bipush (-4), 2) := by decide +kernel
theorem dX11_about_58 : decode cX11_about 58 = .ok (.ireturn, 1) := by decide +kernel
theorem dX11_about_59 : decode cX11_about 59 = .ok (.iconst 1, 1) := by decide +kernel
theorem dX11_about_60 : decode cX11_about 60 = .ok (.aload_n 0, 1) := by decide +kernel
theorem dX11_about_61 : decode cX11_about 61 = .ok (.getfield 26, 3) := by decide +kernel
theorem dX11_about_64 : decode cX11_about 64 = .ok (.iload_n 1, 1) := by decide +kernel
theorem dX11_about_65 : decode cX11_about 65 = .ok (.iaload, 1) := by decide +kernel
theorem dX11_about_66 : decode cX11_about 66 = .ok (.iadd, 1) := by decide +kernel
theorem dX11_about_67 : decode cX11_about 67 = .ok (.istore_n 3, 1) := by decide +kernel
theorem dX11_about_68 : decode cX11_about 68 = .ok (.iconst 0, 1) := by decide +kernel
theorem dX11_about_69 : decode cX11_about 69 = .ok (.istore 4, 2) := by decide +kernel
theorem dX11_about_71 : decode cX11_about 71 = .ok (.iload 4, 2) := by decide +kernel
theorem dX11_about_73 : decode cX11_about 73 = .ok (.aload_n 0, 1) := by decide +kernel
theorem dX11_about_74 : decode cX11_about 74 = .ok (.getfield 7, 3) := by decide +kernel
theorem dX11_about_77 : decode cX11_about 77 = .ok (.iload_n 1, 1) := by decide +kernel
theorem dX11_about_78 : decode cX11_about 78 = .ok (.iaload, 1) := by decide +kernel
theorem dX11_about_79 : decode cX11_about 79 = .ok (.if_icmp .ge 44, 3) := by decide +kernel
theorem dX11_about_82 : decode cX11_about 82 = .ok (.iload_n 3, 1) := by decide +kernel
theorem dX11_about_83 : decode cX11_about 83 = .ok (.aload_n 0, 1) := by decide +kernel
theorem dX11_about_84 : decode cX11_about 84 = .ok (.getfield 13, 3) := by decide +kernel
theorem dX11_about_87 : decode cX11_about 87 = .ok (.bipush 40, 2) := by decide +kernel
theorem dX11_about_89 : decode cX11_about 89 = .ok (.iload_n 1, 1) := by decide +kernel
theorem dX11_about_90 : decode cX11_about 90 = .ok (.imul, 1) := by decide +kernel
theorem dX11_about_91 : decode cX11_about 91 = .ok (.iload 4, 2) := by decide +kernel
theorem dX11_about_93 : decode cX11_about 93 = .ok (.iadd, 1) := by decide +kernel
theorem dX11_about_94 : decode cX11_about 94 = .ok (.iaload, 1) := by decide +kernel
theorem dX11_about_95 : decode cX11_about 95 = .ok (.bipush 8, 2) := by decide +kernel
theorem dX11_about_97 : decode cX11_about 97 = .ok (.if_icmp .eq 13, 3) := by decide +kernel
theorem dX11_about_100 : decode cX11_about 100 = .ok (.aload_n 0, 1) := by decide +kernel
theorem dX11_about_101 : decode cX11_about 101 = .ok (.iload_n 1, 1) := by decide +kernel
theorem dX11_about_102 : decode cX11_about 102 = .ok (.iload 4, 2) := by decide +kernel
theorem dX11_about_104 : decode cX11_about 104 = .ok (.invokevirtual 108, 3) := by decide +kernel
theorem dX11_about_107 : decode cX11_about 107 = .ok (.ifCond .eq 7, 3) := by decide +kernel
theorem dX11_about_110 : decode cX11_about 110 = .ok (.iconst 1, 1) := by decide +kernel
theorem dX11_about_111 : decode cX11_about 111 = .ok (.goto 4, 3) := by decide +kernel
theorem dX11_about_114 : decode cX11_about 114 = .ok (.iconst 0, 1) := by decide +kernel
theorem dX11_about_115 : decode cX11_about 115 = .ok (.iadd, 1) := by decide +kernel
theorem dX11_about_116 : decode cX11_about 116 = .ok (.istore_n 3, 1) := by decide +kernel
theorem dX11_about_117 : decode cX11_about 117 = .ok (.iinc 4 1, 3) := by decide +kernel
theorem dX11_about_120 : decode cX11_about 120 = .ok (.goto (-49), 3) := by decide +kernel
theorem dX11_about_123 : decode cX11_about 123 = .ok (.iload_n 3, 1) := by decide +kernel
theorem dX11_about_124 : decode cX11_about 124 = .ok (.ireturn, 1) := by decide +kernel
theorem dX11_counts_0 : decode cX11_counts 0 = .ok (.lload_n 1, 1) := by decide +kernel
theorem dX11_counts_1 : decode cX11_counts 1 = .ok (.aload_n 0, 1) := by decide +kernel
theorem dX11_counts_2 : decode cX11_counts 2 = .ok (.getfield 137, 3) := by decide +kernel
theorem dX11_counts_5 : decode cX11_counts 5 = .ok (.aload_n 0, 1) := by decide +kernel
theorem dX11_counts_6 : decode cX11_counts 6 = .ok (.getfield 140, 3) := by decide +kernel
theorem dX11_counts_9 : decode cX11_counts 9 = .ok (.isub, 1) := by decide +kernel
theorem dX11_counts_10 : decode cX11_counts 10 = .ok (.i2l, 1) := by decide +kernel
theorem dX11_counts_11 : decode cX11_counts 11 = .ok (.lcmp, 1) := by decide +kernel
theorem dX11_counts_12 : decode cX11_counts 12 = .ok (.ifCond .le 10, 3) := by decide +kernel
theorem dX11_counts_15 : decode cX11_counts 15 = .ok (.aload_n 0, 1) := by decide +kernel
theorem dX11_counts_16 : decode cX11_counts 16 = .ok (.iconst 1, 1) := by decide +kernel
theorem dX11_counts_17 : decode cX11_counts 17 = .ok (.putfield 143, 3) := by decide +kernel
theorem dX11_counts_20 : decode cX11_counts 20 = .ok (.iconst 0, 1) := by decide +kernel
theorem dX11_counts_21 : decode cX11_counts 21 = .ok (.ireturn, 1) := by decide +kernel
theorem dX11_counts_22 : decode cX11_counts 22 = .ok (.aload_n 0, 1) := by decide +kernel
theorem dX11_counts_23 : decode cX11_counts 23 = .ok (.dup, 1) := by decide +kernel
theorem dX11_counts_24 : decode cX11_counts 24 = .ok (.getfield 140, 3) := by decide +kernel
theorem dX11_counts_27 : decode cX11_counts 27 = .ok (.lload_n 1, 1) := by decide +kernel
theorem dX11_counts_28 : decode cX11_counts 28 = .ok (.l2i, 1) := by decide +kernel
theorem dX11_counts_29 : decode cX11_counts 29 = .ok (.iadd, 1) := by decide +kernel
theorem dX11_counts_30 : decode cX11_counts 30 = .ok (.putfield 140, 3) := by decide +kernel
theorem dX11_counts_33 : decode cX11_counts 33 = .ok (.iconst 1, 1) := by decide +kernel
theorem dX11_counts_34 : decode cX11_counts 34 = .ok (.ireturn, 1) := by decide +kernel
theorem dX11_enter_0 : decode cX11_enter 0 = .ok (.aload_n 0, 1) := by decide +kernel
theorem dX11_enter_1 : decode cX11_enter 1 = .ok (.iload_n 1, 1) := by decide +kernel
theorem dX11_enter_2 : decode cX11_enter 2 = .ok (.invokevirtual 96, 3) := by decide +kernel
theorem dX11_enter_5 : decode cX11_enter 5 = .ok (.ifCond .eq 20, 3) := by decide +kernel
theorem dX11_enter_8 : decode cX11_enter 8 = .ok (.aload_n 0, 1) := by decide +kernel
theorem dX11_enter_9 : decode cX11_enter 9 = .ok (.iload_n 1, 1) := by decide +kernel
theorem dX11_enter_10 : decode cX11_enter 10 = .ok (.invokevirtual 130, 3) := by decide +kernel
theorem dX11_enter_13 : decode cX11_enter 13 = .ok (.ifCond .ne 12, 3) := by decide +kernel
theorem dX11_enter_16 : decode cX11_enter 16 = .ok (.aload_n 0, 1) := by decide +kernel
theorem dX11_enter_17 : decode cX11_enter 17 = .ok (.getfield 147, 3) := by decide +kernel
theorem dX11_enter_20 : decode cX11_enter 20 = .ok (.bipush 12, 2) := by decide +kernel
theorem dX11_enter_22 : decode cX11_enter 22 = .ok (.if_icmp .ne 9, 3) := by decide +kernel
theorem dX11_enter_25 : decode cX11_enter 25 = .ok (.aload_n 0, 1) := by decide +kernel
theorem dX11_enter_26 : decode cX11_enter 26 = .ok (.iconst 1, 1) := by decide +kernel
theorem dX11_enter_27 : decode cX11_enter 27 = .ok (.putfield 143, 3) := by decide +kernel
theorem dX11_enter_30 : decode cX11_enter 30 = .ok (.return_, 1) := by decide +kernel
theorem dX11_enter_31 : decode cX11_enter 31 = .ok (.aload_n 0, 1) := by decide +kernel
theorem dX11_enter_32 : decode cX11_enter 32 = .ok (.lconst 1, 1) := by decide +kernel
theorem dX11_enter_33 : decode cX11_enter 33 = .ok (.invokevirtual 150, 3) := by decide +kernel
theorem dX11_enter_36 : decode cX11_enter 36 = .ok (.ifCond .ne 4, 3) := by decide +kernel
theorem dX11_enter_39 : decode cX11_enter 39 = .ok (.return_, 1) := by decide +kernel
theorem dX11_enter_40 : decode cX11_enter 40 = .ok (.aload_n 0, 1) := by decide +kernel
theorem dX11_enter_41 : decode cX11_enter 41 = .ok (.getfield 147, 3) := by decide +kernel
theorem dX11_enter_44 : decode cX11_enter 44 = .ok (.istore 4, 2) := by decide +kernel
theorem dX11_enter_46 : decode cX11_enter 46 = .ok (.aload_n 0, 1) := by decide +kernel
theorem dX11_enter_47 : decode cX11_enter 47 = .ok (.dup, 1) := by decide +kernel
theorem dX11_enter_48 : decode cX11_enter 48 = .ok (.getfield 147, 3) := by decide +kernel
theorem dX11_enter_51 : decode cX11_enter 51 = .ok (.iconst 1, 1) := by decide +kernel
theorem dX11_enter_52 : decode cX11_enter 52 = .ok (.iadd, 1) := by decide +kernel
theorem dX11_enter_53 : decode cX11_enter 53 = .ok (.putfield 147, 3) := by decide +kernel
theorem dX11_enter_56 : decode cX11_enter 56 = .ok (.aload_n 0, 1) := by decide +kernel
theorem dX11_enter_57 : decode cX11_enter 57 = .ok (.aload_n 0, 1) := by decide +kernel
theorem dX11_enter_58 : decode cX11_enter 58 = .ok (.getfield 147, 3) := by decide +kernel
theorem dX11_enter_61 : decode cX11_enter 61 = .ok (.aload_n 0, 1) := by decide +kernel
theorem dX11_enter_62 : decode cX11_enter 62 = .ok (.getfield 154, 3) := by decide +kernel
theorem dX11_enter_65 : decode cX11_enter 65 = .ok (.if_icmp .le 10, 3) := by decide +kernel
theorem dX11_enter_68 : decode cX11_enter 68 = .ok (.aload_n 0, 1) := by decide +kernel
theorem dX11_enter_69 : decode cX11_enter 69 = .ok (.getfield 147, 3) := by decide +kernel
theorem dX11_enter_72 : decode cX11_enter 72 = .ok (.goto 7, 3) := by decide +kernel
theorem dX11_enter_75 : decode cX11_enter 75 = .ok (.aload_n 0, 1) := by decide +kernel
theorem dX11_enter_76 : decode cX11_enter 76 = .ok (.getfield 154, 3) := by decide +kernel
theorem dX11_enter_79 : decode cX11_enter 79 = .ok (.putfield 154, 3) := by decide +kernel
theorem dX11_enter_82 : decode cX11_enter 82 = .ok (.aload_n 0, 1) := by decide +kernel
theorem dX11_enter_83 : decode cX11_enter 83 = .ok (.getfield 41, 3) := by decide +kernel
theorem dX11_enter_86 : decode cX11_enter 86 = .ok (.iload 4, 2) := by decide +kernel
theorem dX11_enter_88 : decode cX11_enter 88 = .ok (.iload_n 1, 1) := by decide +kernel
theorem dX11_enter_89 : decode cX11_enter 89 = .ok (.iastore, 1) := by decide +kernel
theorem dX11_enter_90 : decode cX11_enter 90 = .ok (.aload_n 0, 1) := by decide +kernel
theorem dX11_enter_91 : decode cX11_enter 91 = .ok (.getfield 44, 3) := by decide +kernel
theorem dX11_enter_94 : decode cX11_enter 94 = .ok (.iload 4, 2) := by decide +kernel
theorem dX11_enter_96 : decode cX11_enter 96 = .ok (.iconst 0, 1) := by decide +kernel
theorem dX11_enter_97 : decode cX11_enter 97 = .ok (.iastore, 1) := by decide +kernel
theorem dX11_enter_98 : decode cX11_enter 98 = .ok (.aload_n 0, 1) := by decide +kernel
theorem dX11_enter_99 : decode cX11_enter 99 = .ok (.getfield 47, 3) := by decide +kernel
theorem dX11_enter_102 : decode cX11_enter 102 = .ok (.iconst 4, 1) := by decide +kernel
theorem dX11_enter_103 : decode cX11_enter 103 = .ok (.iload 4, 2) := by decide +kernel
theorem dX11_enter_105 : decode cX11_enter 105 = .ok (.imul, 1) := by decide +kernel
theorem dX11_enter_106 : decode cX11_enter 106 = .ok (.lload_n 2, 1) := by decide +kernel
theorem dX11_enter_107 : decode cX11_enter 107 = .ok (.lastore, 1) := by decide +kernel
theorem dX11_enter_108 : decode cX11_enter 108 = .ok (.iconst 1, 1) := by decide +kernel
theorem dX11_enter_109 : decode cX11_enter 109 = .ok (.istore 5, 2) := by decide +kernel
theorem dX11_enter_111 : decode cX11_enter 111 = .ok (.iload 5, 2) := by decide +kernel
theorem dX11_enter_113 : decode cX11_enter 113 = .ok (.iconst 4, 1) := by decide +kernel
theorem dX11_enter_114 : decode cX11_enter 114 = .ok (.if_icmp .ge 22, 3) := by decide +kernel
theorem dX11_enter_117 : decode cX11_enter 117 = .ok (.aload_n 0, 1) := by decide +kernel
theorem dX11_enter_118 : decode cX11_enter 118 = .ok (.getfield 47, 3) := by decide +kernel
theorem dX11_enter_121 : decode cX11_enter 121 = .ok (.iconst 4, 1) := by decide +kernel
theorem dX11_enter_122 : decode cX11_enter 122 = .ok (.iload 4, 2) := by decide +kernel
theorem dX11_enter_124 : decode cX11_enter 124 = .ok (.imul, 1) := by decide +kernel
theorem dX11_enter_125 : decode cX11_enter 125 = .ok (.iload 5, 2) := by decide +kernel
theorem dX11_enter_127 : decode cX11_enter 127 = .ok (.iadd, 1) := by decide +kernel
theorem dX11_enter_128 : decode cX11_enter 128 = .ok (.lconst 0, 1) := by decide +kernel
theorem dX11_enter_129 : decode cX11_enter 129 = .ok (.lastore, 1) := by decide +kernel
theorem dX11_enter_130 : decode cX11_enter 130 = .ok (.iinc 5 1, 3) := by decide +kernel
theorem dX11_enter_133 : decode cX11_enter 133 = .ok (.goto (-22), 3) := by decide +kernel
theorem dX11_enter_136 : decode cX11_enter 136 = .ok (.aload_n 0, 1) := by decide +kernel
theorem dX11_enter_137 : decode cX11_enter 137 = .ok (.getfield 50, 3) := by decide +kernel
theorem dX11_enter_140 : decode cX11_enter 140 = .ok (.iload 4, 2) := by decide +kernel
theorem dX11_enter_142 : decode cX11_enter 142 = .ok (.iconst (-1), 1) := by decide +kernel
theorem dX11_enter_143 : decode cX11_enter 143 = .ok (.iastore, 1) := by decide +kernel
theorem dX11_enter_144 : decode cX11_enter 144 = .ok (.aload_n 0, 1) := by decide +kernel
theorem dX11_enter_145 : decode cX11_enter 145 = .ok (.getfield 59, 3) := by decide +kernel
theorem dX11_enter_148 : decode cX11_enter 148 = .ok (.iload 4, 2) := by decide +kernel
theorem dX11_enter_150 : decode cX11_enter 150 = .ok (.iconst 0, 1) := by decide +kernel
theorem dX11_enter_151 : decode cX11_enter 151 = .ok (.iastore, 1) := by decide +kernel
theorem dX11_enter_152 : decode cX11_enter 152 = .ok (.aload_n 0, 1) := by decide +kernel
theorem dX11_enter_153 : decode cX11_enter 153 = .ok (.getfield 62, 3) := by decide +kernel
theorem dX11_enter_156 : decode cX11_enter 156 = .ok (.iload 4, 2) := by decide +kernel
theorem dX11_enter_158 : decode cX11_enter 158 = .ok (.iconst 0, 1) := by decide +kernel
theorem dX11_enter_159 : decode cX11_enter 159 = .ok (.iastore, 1) := by decide +kernel
theorem dX11_enter_160 : decode cX11_enter 160 = .ok (.iconst 0, 1) := by decide +kernel
theorem dX11_enter_161 : decode cX11_enter 161 = .ok (.istore 5, 2) := by decide +kernel
theorem dX11_enter_163 : decode cX11_enter 163 = .ok (.iload 5, 2) := by decide +kernel
theorem dX11_enter_165 : decode cX11_enter 165 = .ok (.iconst 3, 1) := by decide +kernel
theorem dX11_enter_166 : decode cX11_enter 166 = .ok (.if_icmp .ge 22, 3) := by decide +kernel
theorem dX11_enter_169 : decode cX11_enter 169 = .ok (.aload_n 0, 1) := by decide +kernel
theorem dX11_enter_170 : decode cX11_enter 170 = .ok (.getfield 65, 3) := by decide +kernel
theorem dX11_enter_173 : decode cX11_enter 173 = .ok (.iconst 3, 1) := by decide +kernel
theorem dX11_enter_174 : decode cX11_enter 174 = .ok (.iload 4, 2) := by decide +kernel
theorem dX11_enter_176 : decode cX11_enter 176 = .ok (.imul, 1) := by decide +kernel
theorem dX11_enter_177 : decode cX11_enter 177 = .ok (.iload 5, 2) := by decide +kernel
theorem dX11_enter_179 : decode cX11_enter 179 = .ok (.iadd, 1) := by decide +kernel
theorem dX11_enter_180 : decode cX11_enter 180 = .ok (.iconst 0, 1) := by decide +kernel
theorem dX11_enter_181 : decode cX11_enter 181 = .ok (.iastore, 1) := by decide +kernel
theorem dX11_enter_182 : decode cX11_enter 182 = .ok (.iinc 5 1, 3) := by decide +kernel
theorem dX11_enter_185 : decode cX11_enter 185 = .ok (.goto (-22), 3) := by decide +kernel
theorem dX11_enter_188 : decode cX11_enter 188 = .ok (.return_, 1) := by decide +kernel
theorem dX11_leave_0 : decode cX11_leave 0 = .ok (.aload_n 0, 1) := by decide +kernel
theorem dX11_leave_1 : decode cX11_leave 1 = .ok (.dup, 1) := by decide +kernel
theorem dX11_leave_2 : decode cX11_leave 2 = .ok (.getfield 147, 3) := by decide +kernel
theorem dX11_leave_5 : decode cX11_leave 5 = .ok (.iconst 1, 1) := by decide +kernel
theorem dX11_leave_6 : decode cX11_leave 6 = .ok (.isub, 1) := by decide +kernel
theorem dX11_leave_7 : decode cX11_leave 7 = .ok (.putfield 147, 3) := by decide +kernel
theorem dX11_leave_10 : decode cX11_leave 10 = .ok (.iconst 0, 1) := by decide +kernel
theorem dX11_leave_11 : decode cX11_leave 11 = .ok (.istore_n 1, 1) := by decide +kernel
theorem dX11_leave_12 : decode cX11_leave 12 = .ok (.iload_n 1, 1) := by decide +kernel
theorem dX11_leave_13 : decode cX11_leave 13 = .ok (.iconst 3, 1) := by decide +kernel
theorem dX11_leave_14 : decode cX11_leave 14 = .ok (.if_icmp .ge 31, 3) := by decide +kernel
theorem dX11_leave_17 : decode cX11_leave 17 = .ok (.aload_n 0, 1) := by decide +kernel
theorem dX11_leave_18 : decode cX11_leave 18 = .ok (.dup, 1) := by decide +kernel
theorem dX11_leave_19 : decode cX11_leave 19 = .ok (.getfield 157, 3) := by decide +kernel
theorem dX11_leave_22 : decode cX11_leave 22 = .ok (.aload_n 0, 1) := by decide +kernel
theorem dX11_leave_23 : decode cX11_leave 23 = .ok (.getfield 65, 3) := by decide +kernel
theorem dX11_leave_26 : decode cX11_leave 26 = .ok (.iconst 3, 1) := by decide +kernel
theorem dX11_leave_27 : decode cX11_leave 27 = .ok (.aload_n 0, 1) := by decide +kernel
theorem dX11_leave_28 : decode cX11_leave 28 = .ok (.getfield 147, 3) := by decide +kernel
theorem dX11_leave_31 : decode cX11_leave 31 = .ok (.imul, 1) := by decide +kernel
theorem dX11_leave_32 : decode cX11_leave 32 = .ok (.iload_n 1, 1) := by decide +kernel
theorem dX11_leave_33 : decode cX11_leave 33 = .ok (.iadd, 1) := by decide +kernel
theorem dX11_leave_34 : decode cX11_leave 34 = .ok (.iaload, 1) := by decide +kernel
theorem dX11_leave_35 : decode cX11_leave 35 = .ok (.isub, 1) := by decide +kernel
theorem dX11_leave_36 : decode cX11_leave 36 = .ok (.putfield 157, 3) := by decide +kernel
theorem dX11_leave_39 : decode cX11_leave 39 = .ok (.iinc 1 1, 3) := by decide +kernel
theorem dX11_leave_42 : decode cX11_leave 42 = .ok (.goto (-30), 3) := by decide +kernel
theorem dX11_leave_45 : decode cX11_leave 45 = .ok (.return_, 1) := by decide +kernel
theorem dX11_returns_0 : decode cX11_returns 0 = .ok (.aload_n 0, 1) := by decide +kernel
theorem dX11_returns_1 : decode cX11_returns 1 = .ok (.invokevirtual 160, 3) := by decide +kernel
theorem dX11_returns_4 : decode cX11_returns 4 = .ok (.aload_n 0, 1) := by decide +kernel
theorem dX11_returns_5 : decode cX11_returns 5 = .ok (.getfield 147, 3) := by decide +kernel
theorem dX11_returns_8 : decode cX11_returns 8 = .ok (.ifCond .ne 14, 3) := by decide +kernel
theorem dX11_returns_11 : decode cX11_returns 11 = .ok (.aload_n 0, 1) := by decide +kernel
theorem dX11_returns_12 : decode cX11_returns 12 = .ok (.iconst 1, 1) := by decide +kernel
theorem dX11_returns_13 : decode cX11_returns 13 = .ok (.putfield 163, 3) := by decide +kernel
theorem dX11_returns_16 : decode cX11_returns 16 = .ok (.aload_n 0, 1) := by decide +kernel
theorem dX11_returns_17 : decode cX11_returns 17 = .ok (.lload_n 1, 1) := by decide +kernel
theorem dX11_returns_18 : decode cX11_returns 18 = .ok (.putfield 166, 3) := by decide +kernel
theorem dX11_returns_21 : decode cX11_returns 21 = .ok (.return_, 1) := by decide +kernel
theorem dX11_returns_22 : decode cX11_returns 22 = .ok (.aload_n 0, 1) := by decide +kernel
theorem dX11_returns_23 : decode cX11_returns 23 = .ok (.getfield 147, 3) := by decide +kernel
theorem dX11_returns_26 : decode cX11_returns 26 = .ok (.iconst 1, 1) := by decide +kernel
theorem dX11_returns_27 : decode cX11_returns 27 = .ok (.isub, 1) := by decide +kernel
theorem dX11_returns_28 : decode cX11_returns 28 = .ok (.istore_n 3, 1) := by decide +kernel
theorem dX11_returns_29 : decode cX11_returns 29 = .ok (.bipush 40, 2) := by decide +kernel
theorem dX11_returns_31 : decode cX11_returns 31 = .ok (.aload_n 0, 1) := by decide +kernel
theorem dX11_returns_32 : decode cX11_returns 32 = .ok (.getfield 41, 3) := by decide +kernel
theorem dX11_returns_35 : decode cX11_returns 35 = .ok (.iload_n 3, 1) := by decide +kernel
theorem dX11_returns_36 : decode cX11_returns 36 = .ok (.iaload, 1) := by decide +kernel
theorem dX11_returns_37 : decode cX11_returns 37 = .ok (.imul, 1) := by decide +kernel
theorem dX11_returns_38 : decode cX11_returns 38 = .ok (.aload_n 0, 1) := by decide +kernel
theorem dX11_returns_39 : decode cX11_returns 39 = .ok (.getfield 44, 3) := by decide +kernel
theorem dX11_returns_42 : decode cX11_returns 42 = .ok (.iload_n 3, 1) := by decide +kernel
theorem dX11_returns_43 : decode cX11_returns 43 = .ok (.iaload, 1) := by decide +kernel
theorem dX11_returns_44 : decode cX11_returns 44 = .ok (.iadd, 1) := by decide +kernel
theorem dX11_returns_45 : decode cX11_returns 45 = .ok (.istore 4, 2) := by decide +kernel
theorem dX11_returns_47 : decode cX11_returns 47 = .ok (.aload_n 0, 1) := by decide +kernel
theorem dX11_returns_48 : decode cX11_returns 48 = .ok (.getfield 47, 3) := by decide +kernel
theorem dX11_returns_51 : decode cX11_returns 51 = .ok (.iconst 4, 1) := by decide +kernel
theorem dX11_returns_52 : decode cX11_returns 52 = .ok (.iload_n 3, 1) := by decide +kernel
theorem dX11_returns_53 : decode cX11_returns 53 = .ok (.imul, 1) := by decide +kernel
theorem dX11_returns_54 : decode cX11_returns 54 = .ok (.aload_n 0, 1) := by decide +kernel
theorem dX11_returns_55 : decode cX11_returns 55 = .ok (.getfield 16, 3) := by decide +kernel
theorem dX11_returns_58 : decode cX11_returns 58 = .ok (.iload 4, 2) := by decide +kernel
theorem dX11_returns_60 : decode cX11_returns 60 = .ok (.iaload, 1) := by decide +kernel
theorem dX11_returns_61 : decode cX11_returns 61 = .ok (.iadd, 1) := by decide +kernel
theorem dX11_returns_62 : decode cX11_returns 62 = .ok (.lload_n 1, 1) := by decide +kernel
theorem dX11_returns_63 : decode cX11_returns 63 = .ok (.lastore, 1) := by decide +kernel
theorem dX11_returns_64 : decode cX11_returns 64 = .ok (.aload_n 0, 1) := by decide +kernel
theorem dX11_returns_65 : decode cX11_returns 65 = .ok (.getfield 44, 3) := by decide +kernel
theorem dX11_returns_68 : decode cX11_returns 68 = .ok (.iload_n 3, 1) := by decide +kernel
theorem dX11_returns_69 : decode cX11_returns 69 = .ok (.dup2, 1) := by decide +kernel
theorem dX11_returns_70 : decode cX11_returns 70 = .ok (.iaload, 1) := by decide +kernel
theorem dX11_returns_71 : decode cX11_returns 71 = .ok (.iconst 1, 1) := by decide +kernel
theorem dX11_returns_72 : decode cX11_returns 72 = .ok (.iadd, 1) := by decide +kernel
theorem dX11_returns_73 : decode cX11_returns 73 = .ok (.iastore, 1) := by decide +kernel
theorem dX11_returns_74 : decode cX11_returns 74 = .ok (.return_, 1) := by decide +kernel
theorem dX11_fails_0 : decode cX11_fails 0 = .ok (.aload_n 0, 1) := by decide +kernel
theorem dX11_fails_1 : decode cX11_fails 1 = .ok (.iload_n 1, 1) := by decide +kernel
theorem dX11_fails_2 : decode cX11_fails 2 = .ok (.putfield 170, 3) := by decide +kernel
theorem dX11_fails_5 : decode cX11_fails 5 = .ok (.aload_n 0, 1) := by decide +kernel
theorem dX11_fails_6 : decode cX11_fails 6 = .ok (.iload_n 2, 1) := by decide +kernel
theorem dX11_fails_7 : decode cX11_fails 7 = .ok (.putfield 173, 3) := by decide +kernel
theorem dX11_fails_10 : decode cX11_fails 10 = .ok (.aload_n 0, 1) := by decide +kernel
theorem dX11_fails_11 : decode cX11_fails 11 = .ok (.getfield 147, 3) := by decide +kernel
theorem dX11_fails_14 : decode cX11_fails 14 = .ok (.ifCond .le 109, 3) := by decide +kernel
theorem dX11_fails_17 : decode cX11_fails 17 = .ok (.aload_n 0, 1) := by decide +kernel
theorem dX11_fails_18 : decode cX11_fails 18 = .ok (.getfield 147, 3) := by decide +kernel
theorem dX11_fails_21 : decode cX11_fails 21 = .ok (.iconst 1, 1) := by decide +kernel
theorem dX11_fails_22 : decode cX11_fails 22 = .ok (.isub, 1) := by decide +kernel
theorem dX11_fails_23 : decode cX11_fails 23 = .ok (.istore_n 3, 1) := by decide +kernel
theorem dX11_fails_24 : decode cX11_fails 24 = .ok (.aload_n 0, 1) := by decide +kernel
theorem dX11_fails_25 : decode cX11_fails 25 = .ok (.getfield 41, 3) := by decide +kernel
theorem dX11_fails_28 : decode cX11_fails 28 = .ok (.iload_n 3, 1) := by decide +kernel
theorem dX11_fails_29 : decode cX11_fails 29 = .ok (.iaload, 1) := by decide +kernel
theorem dX11_fails_30 : decode cX11_fails 30 = .ok (.istore 4, 2) := by decide +kernel
theorem dX11_fails_32 : decode cX11_fails 32 = .ok (.iconst 4, 1) := by decide +kernel
theorem dX11_fails_33 : decode cX11_fails 33 = .ok (.iload 4, 2) := by decide +kernel
theorem dX11_fails_35 : decode cX11_fails 35 = .ok (.imul, 1) := by decide +kernel
theorem dX11_fails_36 : decode cX11_fails 36 = .ok (.istore 5, 2) := by decide +kernel
theorem dX11_fails_38 : decode cX11_fails 38 = .ok (.iload 5, 2) := by decide +kernel
theorem dX11_fails_40 : decode cX11_fails 40 = .ok (.iconst 4, 1) := by decide +kernel
theorem dX11_fails_41 : decode cX11_fails 41 = .ok (.iload 4, 2) := by decide +kernel
theorem dX11_fails_43 : decode cX11_fails 43 = .ok (.imul, 1) := by decide +kernel
theorem dX11_fails_44 : decode cX11_fails 44 = .ok (.aload_n 0, 1) := by decide +kernel
theorem dX11_fails_45 : decode cX11_fails 45 = .ok (.getfield 26, 3) := by decide +kernel
theorem dX11_fails_48 : decode cX11_fails 48 = .ok (.iload 4, 2) := by decide +kernel
theorem dX11_fails_50 : decode cX11_fails 50 = .ok (.iaload, 1) := by decide +kernel
theorem dX11_fails_51 : decode cX11_fails 51 = .ok (.iadd, 1) := by decide +kernel
theorem dX11_fails_52 : decode cX11_fails 52 = .ok (.if_icmp .ge 64, 3) := by decide +kernel
theorem dX11_fails_55 : decode cX11_fails 55 = .ok (.aload_n 0, 1) := by decide +kernel
theorem dX11_fails_56 : decode cX11_fails 56 = .ok (.getfield 44, 3) := by decide +kernel
theorem dX11_fails_59 : decode cX11_fails 59 = .ok (.iload_n 3, 1) := by decide +kernel
theorem dX11_fails_60 : decode cX11_fails 60 = .ok (.iaload, 1) := by decide +kernel
theorem dX11_fails_61 : decode cX11_fails 61 = .ok (.aload_n 0, 1) := by decide +kernel
theorem dX11_fails_62 : decode cX11_fails 62 = .ok (.getfield 29, 3) := by decide +kernel
theorem dX11_fails_65 : decode cX11_fails 65 = .ok (.iload 5, 2) := by decide +kernel
theorem dX11_fails_67 : decode cX11_fails 67 = .ok (.iaload, 1) := by decide +kernel
theorem dX11_fails_68 : decode cX11_fails 68 = .ok (.if_icmp .lt 42, 3) := by decide +kernel
theorem dX11_fails_71 : decode cX11_fails 71 = .ok (.aload_n 0, 1) := by decide +kernel
theorem dX11_fails_72 : decode cX11_fails 72 = .ok (.getfield 44, 3) := by decide +kernel
theorem dX11_fails_75 : decode cX11_fails 75 = .ok (.iload_n 3, 1) := by decide +kernel
theorem dX11_fails_76 : decode cX11_fails 76 = .ok (.iaload, 1) := by decide +kernel
theorem dX11_fails_77 : decode cX11_fails 77 = .ok (.aload_n 0, 1) := by decide +kernel
theorem dX11_fails_78 : decode cX11_fails 78 = .ok (.getfield 32, 3) := by decide +kernel
theorem dX11_fails_81 : decode cX11_fails 81 = .ok (.iload 5, 2) := by decide +kernel
theorem dX11_fails_83 : decode cX11_fails 83 = .ok (.iaload, 1) := by decide +kernel
theorem dX11_fails_84 : decode cX11_fails 84 = .ok (.if_icmp .ge 26, 3) := by decide +kernel
theorem dX11_fails_87 : decode cX11_fails 87 = .ok (.aload_n 0, 1) := by decide +kernel
theorem dX11_fails_88 : decode cX11_fails 88 = .ok (.getfield 38, 3) := by decide +kernel
theorem dX11_fails_91 : decode cX11_fails 91 = .ok (.iload 5, 2) := by decide +kernel
theorem dX11_fails_93 : decode cX11_fails 93 = .ok (.iaload, 1) := by decide +kernel
theorem dX11_fails_94 : decode cX11_fails 94 = .ok (.iload_n 1, 1) := by decide +kernel
theorem dX11_fails_95 : decode cX11_fails 95 = .ok (.ishr, 1) := by decide +kernel
theorem dX11_fails_96 : decode cX11_fails 96 = .ok (.iconst 1, 1) := by decide +kernel
theorem dX11_fails_97 : decode cX11_fails 97 = .ok (.iand, 1) := by decide +kernel
theorem dX11_fails_98 : decode cX11_fails 98 = .ok (.iconst 1, 1) := by decide +kernel
theorem dX11_fails_99 : decode cX11_fails 99 = .ok (.if_icmp .ne 11, 3) := by decide +kernel
theorem dX11_fails_102 : decode cX11_fails 102 = .ok (.aload_n 0, 1) := by decide +kernel
theorem dX11_fails_103 : decode cX11_fails 103 = .ok (.iload_n 3, 1) := by decide +kernel
theorem dX11_fails_104 : decode cX11_fails 104 = .ok (.iload 5, 2) := by decide +kernel
theorem dX11_fails_106 : decode cX11_fails 106 = .ok (.invokevirtual 176, 3) := by decide +kernel
theorem dX11_fails_109 : decode cX11_fails 109 = .ok (.return_, 1) := by decide +kernel
theorem dX11_fails_110 : decode cX11_fails 110 = .ok (.iinc 5 1, 3) := by decide +kernel
theorem dX11_fails_113 : decode cX11_fails 113 = .ok (.goto (-75), 3) := by decide +kernel
theorem dX11_fails_116 : decode cX11_fails 116 = .ok (.aload_n 0, 1) := by decide +kernel
theorem dX11_fails_117 : decode cX11_fails 117 = .ok (.invokevirtual 160, 3) := by decide +kernel
theorem dX11_fails_120 : decode cX11_fails 120 = .ok (.goto (-110), 3) := by decide +kernel
theorem dX11_fails_123 : decode cX11_fails 123 = .ok (.aload_n 0, 1) := by decide +kernel
theorem dX11_fails_124 : decode cX11_fails 124 = .ok (.iconst 1, 1) := by decide +kernel
theorem dX11_fails_125 : decode cX11_fails 125 = .ok (.putfield 163, 3) := by decide +kernel
theorem dX11_fails_128 : decode cX11_fails 128 = .ok (.return_, 1) := by decide +kernel
theorem dX11_takes_0 : decode cX11_takes 0 = .ok (.aload_n 0, 1) := by decide +kernel
theorem dX11_takes_1 : decode cX11_takes 1 = .ok (.getfield 180, 3) := by decide +kernel
theorem dX11_takes_4 : decode cX11_takes 4 = .ok (.bipush 30, 2) := by decide +kernel
theorem dX11_takes_6 : decode cX11_takes 6 = .ok (.if_icmp .ne 9, 3) := by decide +kernel
theorem dX11_takes_9 : decode cX11_takes 9 = .ok (.aload_n 0, 1) := by decide +kernel
theorem dX11_takes_10 : decode cX11_takes 10 = .ok (.iconst 1, 1) := by decide +kernel
theorem dX11_takes_11 : decode cX11_takes 11 = .ok (.putfield 143, 3) := by decide +kernel
theorem dX11_takes_14 : decode cX11_takes 14 = .ok (.return_, 1) := by decide +kernel
theorem dX11_takes_15 : decode cX11_takes 15 = .ok (.aload_n 0, 1) := by decide +kernel
theorem dX11_takes_16 : decode cX11_takes 16 = .ok (.lconst 1, 1) := by decide +kernel
theorem dX11_takes_17 : decode cX11_takes 17 = .ok (.invokevirtual 150, 3) := by decide +kernel
theorem dX11_takes_20 : decode cX11_takes 20 = .ok (.ifCond .ne 4, 3) := by decide +kernel
theorem dX11_takes_23 : decode cX11_takes 23 = .ok (.return_, 1) := by decide +kernel
theorem dX11_takes_24 : decode cX11_takes 24 = .ok (.aload_n 0, 1) := by decide +kernel
theorem dX11_takes_25 : decode cX11_takes 25 = .ok (.dup, 1) := by decide +kernel
theorem dX11_takes_26 : decode cX11_takes 26 = .ok (.getfield 180, 3) := by decide +kernel
theorem dX11_takes_29 : decode cX11_takes 29 = .ok (.iconst 1, 1) := by decide +kernel
theorem dX11_takes_30 : decode cX11_takes 30 = .ok (.iadd, 1) := by decide +kernel
theorem dX11_takes_31 : decode cX11_takes 31 = .ok (.putfield 180, 3) := by decide +kernel
theorem dX11_takes_34 : decode cX11_takes 34 = .ok (.aload_n 0, 1) := by decide +kernel
theorem dX11_takes_35 : decode cX11_takes 35 = .ok (.getfield 59, 3) := by decide +kernel
theorem dX11_takes_38 : decode cX11_takes 38 = .ok (.iload_n 1, 1) := by decide +kernel
theorem dX11_takes_39 : decode cX11_takes 39 = .ok (.aload_n 0, 1) := by decide +kernel
theorem dX11_takes_40 : decode cX11_takes 40 = .ok (.getfield 170, 3) := by decide +kernel
theorem dX11_takes_43 : decode cX11_takes 43 = .ok (.iastore, 1) := by decide +kernel
theorem dX11_takes_44 : decode cX11_takes 44 = .ok (.aload_n 0, 1) := by decide +kernel
theorem dX11_takes_45 : decode cX11_takes 45 = .ok (.getfield 62, 3) := by decide +kernel
theorem dX11_takes_48 : decode cX11_takes 48 = .ok (.iload_n 1, 1) := by decide +kernel
theorem dX11_takes_49 : decode cX11_takes 49 = .ok (.aload_n 0, 1) := by decide +kernel
theorem dX11_takes_50 : decode cX11_takes 50 = .ok (.getfield 173, 3) := by decide +kernel
theorem dX11_takes_53 : decode cX11_takes 53 = .ok (.iastore, 1) := by decide +kernel
theorem dX11_takes_54 : decode cX11_takes 54 = .ok (.aload_n 0, 1) := by decide +kernel
theorem dX11_takes_55 : decode cX11_takes 55 = .ok (.iconst 0, 1) := by decide +kernel
theorem dX11_takes_56 : decode cX11_takes 56 = .ok (.putfield 170, 3) := by decide +kernel
theorem dX11_takes_59 : decode cX11_takes 59 = .ok (.aload_n 0, 1) := by decide +kernel
theorem dX11_takes_60 : decode cX11_takes 60 = .ok (.iconst 0, 1) := by decide +kernel
theorem dX11_takes_61 : decode cX11_takes 61 = .ok (.putfield 173, 3) := by decide +kernel
theorem dX11_takes_64 : decode cX11_takes 64 = .ok (.aload_n 0, 1) := by decide +kernel
theorem dX11_takes_65 : decode cX11_takes 65 = .ok (.getfield 44, 3) := by decide +kernel
theorem dX11_takes_68 : decode cX11_takes 68 = .ok (.iload_n 1, 1) := by decide +kernel
theorem dX11_takes_69 : decode cX11_takes 69 = .ok (.aload_n 0, 1) := by decide +kernel
theorem dX11_takes_70 : decode cX11_takes 70 = .ok (.getfield 35, 3) := by decide +kernel
theorem dX11_takes_73 : decode cX11_takes 73 = .ok (.iload_n 2, 1) := by decide +kernel
theorem dX11_takes_74 : decode cX11_takes 74 = .ok (.iaload, 1) := by decide +kernel
theorem dX11_takes_75 : decode cX11_takes 75 = .ok (.aload_n 0, 1) := by decide +kernel
theorem dX11_takes_76 : decode cX11_takes 76 = .ok (.getfield 7, 3) := by decide +kernel
theorem dX11_takes_79 : decode cX11_takes 79 = .ok (.aload_n 0, 1) := by decide +kernel
theorem dX11_takes_80 : decode cX11_takes 80 = .ok (.getfield 41, 3) := by decide +kernel
theorem dX11_takes_83 : decode cX11_takes 83 = .ok (.iload_n 1, 1) := by decide +kernel
theorem dX11_takes_84 : decode cX11_takes 84 = .ok (.iaload, 1) := by decide +kernel
theorem dX11_takes_85 : decode cX11_takes 85 = .ok (.iaload, 1) := by decide +kernel
theorem dX11_takes_86 : decode cX11_takes 86 = .ok (.invokestatic 116, 3) := by decide +kernel
theorem dX11_takes_89 : decode cX11_takes 89 = .ok (.iastore, 1) := by decide +kernel
theorem dX11_takes_90 : decode cX11_takes 90 = .ok (.return_, 1) := by decide +kernel
theorem dX11_runs_0 : decode cX11_runs 0 = .ok (.aload_n 0, 1) := by decide +kernel
theorem dX11_runs_1 : decode cX11_runs 1 = .ok (.iload_n 1, 1) := by decide +kernel
theorem dX11_runs_2 : decode cX11_runs 2 = .ok (.invokevirtual 96, 3) := by decide +kernel
theorem dX11_runs_5 : decode cX11_runs 5 = .ok (.ifCond .eq 16, 3) := by decide +kernel
theorem dX11_runs_8 : decode cX11_runs 8 = .ok (.iload 4, 2) := by decide +kernel
theorem dX11_runs_10 : decode cX11_runs 10 = .ok (.i2l, 1) := by decide +kernel
theorem dX11_runs_11 : decode cX11_runs 11 = .ok (.lconst 0, 1) := by decide +kernel
theorem dX11_runs_12 : decode cX11_runs 12 = .ok (.ldc2_w 183, 3) := by decide +kernel
theorem dX11_runs_15 : decode cX11_runs 15 = .ok (.invokestatic 84, 3) := by decide +kernel
theorem dX11_runs_18 : decode cX11_runs 18 = .ok (.ifCond .ne 6, 3) := by decide +kernel
theorem dX11_runs_21 : decode cX11_runs 21 = .ok (.bipush (-2), 2) := by decide +kernel
theorem dX11_runs_23 : decode cX11_runs 23 = .ok (.ireturn, 1) := by decide +kernel
theorem dX11_runs_24 : decode cX11_runs 24 = .ok (.aload_n 0, 1) := by decide +kernel
theorem dX11_runs_25 : decode cX11_runs 25 = .ok (.iload_n 1, 1) := by decide +kernel
theorem dX11_runs_26 : decode cX11_runs 26 = .ok (.invokevirtual 130, 3) := by decide +kernel
theorem dX11_runs_29 : decode cX11_runs 29 = .ok (.ifCond .eq 6, 3) := by decide +kernel
theorem dX11_runs_32 : decode cX11_runs 32 = .ok (.bipush (-4), 2) := by decide +kernel
theorem dX11_runs_34 : decode cX11_runs 34 = .ok (.ireturn, 1) := by decide +kernel
theorem dX11_runs_35 : decode cX11_runs 35 = .ok (.aload_n 0, 1) := by decide +kernel
theorem dX11_runs_36 : decode cX11_runs 36 = .ok (.iload 4, 2) := by decide +kernel
theorem dX11_runs_38 : decode cX11_runs 38 = .ok (.putfield 137, 3) := by decide +kernel
theorem dX11_runs_41 : decode cX11_runs 41 = .ok (.aload_n 0, 1) := by decide +kernel
theorem dX11_runs_42 : decode cX11_runs 42 = .ok (.iconst 0, 1) := by decide +kernel
theorem dX11_runs_43 : decode cX11_runs 43 = .ok (.putfield 147, 3) := by decide +kernel
theorem dX11_runs_46 : decode cX11_runs 46 = .ok (.aload_n 0, 1) := by decide +kernel
theorem dX11_runs_47 : decode cX11_runs 47 = .ok (.iconst 0, 1) := by decide +kernel
theorem dX11_runs_48 : decode cX11_runs 48 = .ok (.putfield 185, 3) := by decide +kernel
theorem dX11_runs_51 : decode cX11_runs 51 = .ok (.aload_n 0, 1) := by decide +kernel
theorem dX11_runs_52 : decode cX11_runs 52 = .ok (.iconst 0, 1) := by decide +kernel
theorem dX11_runs_53 : decode cX11_runs 53 = .ok (.putfield 143, 3) := by decide +kernel
theorem dX11_runs_56 : decode cX11_runs 56 = .ok (.aload_n 0, 1) := by decide +kernel
theorem dX11_runs_57 : decode cX11_runs 57 = .ok (.iconst 0, 1) := by decide +kernel
theorem dX11_runs_58 : decode cX11_runs 58 = .ok (.putfield 163, 3) := by decide +kernel
theorem dX11_runs_61 : decode cX11_runs 61 = .ok (.aload_n 0, 1) := by decide +kernel
theorem dX11_runs_62 : decode cX11_runs 62 = .ok (.iconst 0, 1) := by decide +kernel
theorem dX11_runs_63 : decode cX11_runs 63 = .ok (.putfield 170, 3) := by decide +kernel
theorem dX11_runs_66 : decode cX11_runs 66 = .ok (.aload_n 0, 1) := by decide +kernel
theorem dX11_runs_67 : decode cX11_runs 67 = .ok (.iconst 0, 1) := by decide +kernel
theorem dX11_runs_68 : decode cX11_runs 68 = .ok (.putfield 173, 3) := by decide +kernel
theorem dX11_runs_71 : decode cX11_runs 71 = .ok (.aload_n 0, 1) := by decide +kernel
theorem dX11_runs_72 : decode cX11_runs 72 = .ok (.lconst 0, 1) := by decide +kernel
theorem dX11_runs_73 : decode cX11_runs 73 = .ok (.putfield 166, 3) := by decide +kernel
theorem dX11_runs_76 : decode cX11_runs 76 = .ok (.aload_n 0, 1) := by decide +kernel
theorem dX11_runs_77 : decode cX11_runs 77 = .ok (.iconst 0, 1) := by decide +kernel
theorem dX11_runs_78 : decode cX11_runs 78 = .ok (.putfield 140, 3) := by decide +kernel
theorem dX11_runs_81 : decode cX11_runs 81 = .ok (.aload_n 0, 1) := by decide +kernel
theorem dX11_runs_82 : decode cX11_runs 82 = .ok (.iconst 0, 1) := by decide +kernel
theorem dX11_runs_83 : decode cX11_runs 83 = .ok (.putfield 154, 3) := by decide +kernel
theorem dX11_runs_86 : decode cX11_runs 86 = .ok (.aload_n 0, 1) := by decide +kernel
theorem dX11_runs_87 : decode cX11_runs 87 = .ok (.iconst 0, 1) := by decide +kernel
theorem dX11_runs_88 : decode cX11_runs 88 = .ok (.putfield 180, 3) := by decide +kernel
theorem dX11_runs_91 : decode cX11_runs 91 = .ok (.aload_n 0, 1) := by decide +kernel
theorem dX11_runs_92 : decode cX11_runs 92 = .ok (.iconst 0, 1) := by decide +kernel
theorem dX11_runs_93 : decode cX11_runs 93 = .ok (.putfield 188, 3) := by decide +kernel
theorem dX11_runs_96 : decode cX11_runs 96 = .ok (.aload_n 0, 1) := by decide +kernel
theorem dX11_runs_97 : decode cX11_runs 97 = .ok (.iconst 0, 1) := by decide +kernel
theorem dX11_runs_98 : decode cX11_runs 98 = .ok (.putfield 157, 3) := by decide +kernel
theorem dX11_runs_101 : decode cX11_runs 101 = .ok (.aload_n 0, 1) := by decide +kernel
theorem dX11_runs_102 : decode cX11_runs 102 = .ok (.iconst 0, 1) := by decide +kernel
theorem dX11_runs_103 : decode cX11_runs 103 = .ok (.putfield 191, 3) := by decide +kernel
theorem dX11_runs_106 : decode cX11_runs 106 = .ok (.aload_n 0, 1) := by decide +kernel
theorem dX11_runs_107 : decode cX11_runs 107 = .ok (.iconst 0, 1) := by decide +kernel
theorem dX11_runs_108 : decode cX11_runs 108 = .ok (.putfield 194, 3) := by decide +kernel
theorem dX11_runs_111 : decode cX11_runs 111 = .ok (.aload_n 0, 1) := by decide +kernel
theorem dX11_runs_112 : decode cX11_runs 112 = .ok (.iload_n 1, 1) := by decide +kernel
theorem dX11_runs_113 : decode cX11_runs 113 = .ok (.lload_n 2, 1) := by decide +kernel
theorem dX11_runs_114 : decode cX11_runs 114 = .ok (.invokevirtual 197, 3) := by decide +kernel
theorem dX11_runs_117 : decode cX11_runs 117 = .ok (.aload_n 0, 1) := by decide +kernel
theorem dX11_runs_118 : decode cX11_runs 118 = .ok (.getfield 143, 3) := by decide +kernel
theorem dX11_runs_121 : decode cX11_runs 121 = .ok (.ifCond .ne 30, 3) := by decide +kernel
theorem dX11_runs_124 : decode cX11_runs 124 = .ok (.aload_n 0, 1) := by decide +kernel
theorem dX11_runs_125 : decode cX11_runs 125 = .ok (.getfield 163, 3) := by decide +kernel
theorem dX11_runs_128 : decode cX11_runs 128 = .ok (.ifCond .ne 23, 3) := by decide +kernel
theorem dX11_runs_131 : decode cX11_runs 131 = .ok (.aload_n 0, 1) := by decide +kernel
theorem dX11_runs_132 : decode cX11_runs 132 = .ok (.aload_n 0, 1) := by decide +kernel
theorem dX11_runs_133 : decode cX11_runs 133 = .ok (.getfield 147, 3) := by decide +kernel
theorem dX11_runs_136 : decode cX11_runs 136 = .ok (.iconst 1, 1) := by decide +kernel
theorem dX11_runs_137 : decode cX11_runs 137 = .ok (.isub, 1) := by decide +kernel
theorem dX11_runs_138 : decode cX11_runs 138 = .ok (.invokevirtual 201, 3) := by decide +kernel
theorem dX11_runs_141 : decode cX11_runs 141 = .ok (.ifCond .eq (-24), 3) := by decide +kernel
theorem dX11_runs_144 : decode cX11_runs 144 = .ok (.aload_n 0, 1) := by decide +kernel
theorem dX11_runs_145 : decode cX11_runs 145 = .ok (.invokevirtual 204, 3) := by decide +kernel
theorem dX11_runs_148 : decode cX11_runs 148 = .ok (.goto (-31), 3) := by decide +kernel
theorem dX11_runs_151 : decode cX11_runs 151 = .ok (.aload_n 0, 1) := by decide +kernel
theorem dX11_runs_152 : decode cX11_runs 152 = .ok (.getfield 143, 3) := by decide +kernel
theorem dX11_runs_155 : decode cX11_runs 155 = .ok (.ifCond .eq 15, 3) := by decide +kernel
theorem dX11_runs_158 : decode cX11_runs 158 = .ok (.aload_n 0, 1) := by decide +kernel
theorem dX11_runs_159 : decode cX11_runs 159 = .ok (.iconst 0, 1) := by decide +kernel
theorem dX11_runs_160 : decode cX11_runs 160 = .ok (.putfield 170, 3) := by decide +kernel
theorem dX11_runs_163 : decode cX11_runs 163 = .ok (.aload_n 0, 1) := by decide +kernel
theorem dX11_runs_164 : decode cX11_runs 164 = .ok (.iconst 0, 1) := by decide +kernel
theorem dX11_runs_165 : decode cX11_runs 165 = .ok (.putfield 173, 3) := by decide +kernel
theorem dX11_runs_168 : decode cX11_runs 168 = .ok (.iconst 1, 1) := by decide +kernel
theorem dX11_runs_169 : decode cX11_runs 169 = .ok (.ireturn, 1) := by decide +kernel
theorem dX11_runs_170 : decode cX11_runs 170 = .ok (.aload_n 0, 1) := by decide +kernel
theorem dX11_runs_171 : decode cX11_runs 171 = .ok (.getfield 170, 3) := by decide +kernel
theorem dX11_runs_174 : decode cX11_runs 174 = .ok (.ifCond .eq 7, 3) := by decide +kernel
theorem dX11_runs_177 : decode cX11_runs 177 = .ok (.iconst 2, 1) := by decide +kernel
theorem dX11_runs_178 : decode cX11_runs 178 = .ok (.goto 4, 3) := by decide +kernel
theorem dX11_runs_181 : decode cX11_runs 181 = .ok (.iconst 0, 1) := by decide +kernel
theorem dX11_runs_182 : decode cX11_runs 182 = .ok (.ireturn, 1) := by decide +kernel
theorem dX11_isPaid_0 : decode cX11_isPaid 0 = .ok (.aload_n 0, 1) := by decide +kernel
theorem dX11_isPaid_1 : decode cX11_isPaid 1 = .ok (.getfield 41, 3) := by decide +kernel
theorem dX11_isPaid_4 : decode cX11_isPaid 4 = .ok (.iload_n 1, 1) := by decide +kernel
theorem dX11_isPaid_5 : decode cX11_isPaid 5 = .ok (.iaload, 1) := by decide +kernel
theorem dX11_isPaid_6 : decode cX11_isPaid 6 = .ok (.istore_n 2, 1) := by decide +kernel
theorem dX11_isPaid_7 : decode cX11_isPaid 7 = .ok (.bipush 40, 2) := by decide +kernel
theorem dX11_isPaid_9 : decode cX11_isPaid 9 = .ok (.iload_n 2, 1) := by decide +kernel
theorem dX11_isPaid_10 : decode cX11_isPaid 10 = .ok (.imul, 1) := by decide +kernel
theorem dX11_isPaid_11 : decode cX11_isPaid 11 = .ok (.aload_n 0, 1) := by decide +kernel
theorem dX11_isPaid_12 : decode cX11_isPaid 12 = .ok (.getfield 44, 3) := by decide +kernel
theorem dX11_isPaid_15 : decode cX11_isPaid 15 = .ok (.iload_n 1, 1) := by decide +kernel
theorem dX11_isPaid_16 : decode cX11_isPaid 16 = .ok (.iaload, 1) := by decide +kernel
theorem dX11_isPaid_17 : decode cX11_isPaid 17 = .ok (.iadd, 1) := by decide +kernel
theorem dX11_isPaid_18 : decode cX11_isPaid 18 = .ok (.istore_n 3, 1) := by decide +kernel
theorem dX11_isPaid_19 : decode cX11_isPaid 19 = .ok (.aload_n 0, 1) := by decide +kernel
theorem dX11_isPaid_20 : decode cX11_isPaid 20 = .ok (.getfield 44, 3) := by decide +kernel
theorem dX11_isPaid_23 : decode cX11_isPaid 23 = .ok (.iload_n 1, 1) := by decide +kernel
theorem dX11_isPaid_24 : decode cX11_isPaid 24 = .ok (.iaload, 1) := by decide +kernel
theorem dX11_isPaid_25 : decode cX11_isPaid 25 = .ok (.aload_n 0, 1) := by decide +kernel
theorem dX11_isPaid_26 : decode cX11_isPaid 26 = .ok (.getfield 7, 3) := by decide +kernel
theorem dX11_isPaid_29 : decode cX11_isPaid 29 = .ok (.iload_n 2, 1) := by decide +kernel
theorem dX11_isPaid_30 : decode cX11_isPaid 30 = .ok (.iaload, 1) := by decide +kernel
theorem dX11_isPaid_31 : decode cX11_isPaid 31 = .ok (.if_icmp .eq 14, 3) := by decide +kernel
theorem dX11_isPaid_34 : decode cX11_isPaid 34 = .ok (.aload_n 0, 1) := by decide +kernel
theorem dX11_isPaid_35 : decode cX11_isPaid 35 = .ok (.getfield 13, 3) := by decide +kernel
theorem dX11_isPaid_38 : decode cX11_isPaid 38 = .ok (.iload_n 3, 1) := by decide +kernel
theorem dX11_isPaid_39 : decode cX11_isPaid 39 = .ok (.iaload, 1) := by decide +kernel
theorem dX11_isPaid_40 : decode cX11_isPaid 40 = .ok (.bipush 8, 2) := by decide +kernel
theorem dX11_isPaid_42 : decode cX11_isPaid 42 = .ok (.if_icmp .eq 5, 3) := by decide +kernel
theorem dX11_isPaid_45 : decode cX11_isPaid 45 = .ok (.iconst 1, 1) := by decide +kernel
theorem dX11_isPaid_46 : decode cX11_isPaid 46 = .ok (.ireturn, 1) := by decide +kernel
theorem dX11_isPaid_47 : decode cX11_isPaid 47 = .ok (.aload_n 0, 1) := by decide +kernel
theorem dX11_isPaid_48 : decode cX11_isPaid 48 = .ok (.getfield 47, 3) := by decide +kernel
theorem dX11_isPaid_51 : decode cX11_isPaid 51 = .ok (.iconst 4, 1) := by decide +kernel
theorem dX11_isPaid_52 : decode cX11_isPaid 52 = .ok (.iload_n 1, 1) := by decide +kernel
theorem dX11_isPaid_53 : decode cX11_isPaid 53 = .ok (.imul, 1) := by decide +kernel
theorem dX11_isPaid_54 : decode cX11_isPaid 54 = .ok (.aload_n 0, 1) := by decide +kernel
theorem dX11_isPaid_55 : decode cX11_isPaid 55 = .ok (.getfield 16, 3) := by decide +kernel
theorem dX11_isPaid_58 : decode cX11_isPaid 58 = .ok (.iload_n 3, 1) := by decide +kernel
theorem dX11_isPaid_59 : decode cX11_isPaid 59 = .ok (.iaload, 1) := by decide +kernel
theorem dX11_isPaid_60 : decode cX11_isPaid 60 = .ok (.iadd, 1) := by decide +kernel
theorem dX11_isPaid_61 : decode cX11_isPaid 61 = .ok (.laload, 1) := by decide +kernel
theorem dX11_isPaid_62 : decode cX11_isPaid 62 = .ok (.lstore 4, 2) := by decide +kernel
theorem dX11_isPaid_64 : decode cX11_isPaid 64 = .ok (.aload_n 0, 1) := by decide +kernel
theorem dX11_isPaid_65 : decode cX11_isPaid 65 = .ok (.lload 4, 2) := by decide +kernel
theorem dX11_isPaid_67 : decode cX11_isPaid 67 = .ok (.lconst 0, 1) := by decide +kernel
theorem dX11_isPaid_68 : decode cX11_isPaid 68 = .ok (.lcmp, 1) := by decide +kernel
theorem dX11_isPaid_69 : decode cX11_isPaid 69 = .ok (.ifCond .ge 7, 3) := by decide +kernel
theorem dX11_isPaid_72 : decode cX11_isPaid 72 = .ok (.lconst 1, 1) := by decide +kernel
theorem dX11_isPaid_73 : decode cX11_isPaid 73 = .ok (.goto 22, 3) := by decide +kernel
theorem dX11_isPaid_76 : decode cX11_isPaid 76 = .ok (.lload 4, 2) := by decide +kernel
theorem dX11_isPaid_78 : decode cX11_isPaid 78 = .ok (.ldc2_w 207, 3) := by decide +kernel
theorem dX11_isPaid_81 : decode cX11_isPaid 81 = .ok (.lcmp, 1) := by decide +kernel
theorem dX11_isPaid_82 : decode cX11_isPaid 82 = .ok (.ifCond .le 9, 3) := by decide +kernel
theorem dX11_isPaid_85 : decode cX11_isPaid 85 = .ok (.ldc2_w 207, 3) := by decide +kernel
theorem dX11_isPaid_88 : decode cX11_isPaid 88 = .ok (.goto 7, 3) := by decide +kernel
theorem dX11_isPaid_91 : decode cX11_isPaid 91 = .ok (.lload 4, 2) := by decide +kernel
theorem dX11_isPaid_93 : decode cX11_isPaid 93 = .ok (.lconst 1, 1) := by decide +kernel
theorem dX11_isPaid_94 : decode cX11_isPaid 94 = .ok (.ladd, 1) := by decide +kernel
theorem dX11_isPaid_95 : decode cX11_isPaid 95 = .ok (.invokevirtual 150, 3) := by decide +kernel
theorem dX11_isPaid_98 : decode cX11_isPaid 98 = .ok (.ireturn, 1) := by decide +kernel
theorem dX11_begins_0 : decode cX11_begins 0 = .ok (.aload_n 0, 1) := by decide +kernel
theorem dX11_begins_1 : decode cX11_begins 1 = .ok (.getfield 194, 3) := by decide +kernel
theorem dX11_begins_4 : decode cX11_begins 4 = .ok (.sipush 2000, 3) := by decide +kernel
theorem dX11_begins_7 : decode cX11_begins 7 = .ok (.if_icmp .ne 9, 3) := by decide +kernel
theorem dX11_begins_10 : decode cX11_begins 10 = .ok (.aload_n 0, 1) := by decide +kernel
theorem dX11_begins_11 : decode cX11_begins 11 = .ok (.iconst 1, 1) := by decide +kernel
theorem dX11_begins_12 : decode cX11_begins 12 = .ok (.putfield 143, 3) := by decide +kernel
theorem dX11_begins_15 : decode cX11_begins 15 = .ok (.return_, 1) := by decide +kernel
theorem dX11_begins_16 : decode cX11_begins 16 = .ok (.aload_n 0, 1) := by decide +kernel
theorem dX11_begins_17 : decode cX11_begins 17 = .ok (.dup, 1) := by decide +kernel
theorem dX11_begins_18 : decode cX11_begins 18 = .ok (.getfield 194, 3) := by decide +kernel
theorem dX11_begins_21 : decode cX11_begins 21 = .ok (.iconst 1, 1) := by decide +kernel
theorem dX11_begins_22 : decode cX11_begins 22 = .ok (.iadd, 1) := by decide +kernel
theorem dX11_begins_23 : decode cX11_begins 23 = .ok (.putfield 194, 3) := by decide +kernel
theorem dX11_begins_26 : decode cX11_begins 26 = .ok (.aload_n 0, 1) := by decide +kernel
theorem dX11_begins_27 : decode cX11_begins 27 = .ok (.aload_n 0, 1) := by decide +kernel
theorem dX11_begins_28 : decode cX11_begins 28 = .ok (.getfield 147, 3) := by decide +kernel
theorem dX11_begins_31 : decode cX11_begins 31 = .ok (.iconst 1, 1) := by decide +kernel
theorem dX11_begins_32 : decode cX11_begins 32 = .ok (.isub, 1) := by decide +kernel
theorem dX11_begins_33 : decode cX11_begins 33 = .ok (.invokevirtual 209, 3) := by decide +kernel
theorem dX11_begins_36 : decode cX11_begins 36 = .ok (.return_, 1) := by decide +kernel
theorem dX11_work_0 : decode cX11_work 0 = .ok (.aload_n 0, 1) := by decide +kernel
theorem dX11_work_1 : decode cX11_work 1 = .ok (.getfield 41, 3) := by decide +kernel
theorem dX11_work_4 : decode cX11_work 4 = .ok (.iload_n 1, 1) := by decide +kernel
theorem dX11_work_5 : decode cX11_work 5 = .ok (.iaload, 1) := by decide +kernel
theorem dX11_work_6 : decode cX11_work 6 = .ok (.istore_n 2, 1) := by decide +kernel
theorem dX11_work_7 : decode cX11_work 7 = .ok (.aload_n 0, 1) := by decide +kernel
theorem dX11_work_8 : decode cX11_work 8 = .ok (.getfield 44, 3) := by decide +kernel
theorem dX11_work_11 : decode cX11_work 11 = .ok (.iload_n 1, 1) := by decide +kernel
theorem dX11_work_12 : decode cX11_work 12 = .ok (.iaload, 1) := by decide +kernel
theorem dX11_work_13 : decode cX11_work 13 = .ok (.aload_n 0, 1) := by decide +kernel
theorem dX11_work_14 : decode cX11_work 14 = .ok (.getfield 7, 3) := by decide +kernel
theorem dX11_work_17 : decode cX11_work 17 = .ok (.iload_n 2, 1) := by decide +kernel
theorem dX11_work_18 : decode cX11_work 18 = .ok (.iaload, 1) := by decide +kernel
theorem dX11_work_19 : decode cX11_work 19 = .ok (.if_icmp .ne 9, 3) := by decide +kernel
theorem dX11_work_22 : decode cX11_work 22 = .ok (.aload_n 0, 1) := by decide +kernel
theorem dX11_work_23 : decode cX11_work 23 = .ok (.lconst 0, 1) := by decide +kernel
theorem dX11_work_24 : decode cX11_work 24 = .ok (.invokevirtual 212, 3) := by decide +kernel
theorem dX11_work_27 : decode cX11_work 27 = .ok (.return_, 1) := by decide +kernel
theorem dX11_work_28 : decode cX11_work 28 = .ok (.bipush 40, 2) := by decide +kernel
theorem dX11_work_30 : decode cX11_work 30 = .ok (.iload_n 2, 1) := by decide +kernel
theorem dX11_work_31 : decode cX11_work 31 = .ok (.imul, 1) := by decide +kernel
theorem dX11_work_32 : decode cX11_work 32 = .ok (.aload_n 0, 1) := by decide +kernel
theorem dX11_work_33 : decode cX11_work 33 = .ok (.getfield 44, 3) := by decide +kernel
theorem dX11_work_36 : decode cX11_work 36 = .ok (.iload_n 1, 1) := by decide +kernel
theorem dX11_work_37 : decode cX11_work 37 = .ok (.iaload, 1) := by decide +kernel
theorem dX11_work_38 : decode cX11_work 38 = .ok (.iadd, 1) := by decide +kernel
theorem dX11_work_39 : decode cX11_work 39 = .ok (.istore_n 3, 1) := by decide +kernel
theorem dX11_work_40 : decode cX11_work 40 = .ok (.iconst 4, 1) := by decide +kernel
theorem dX11_work_41 : decode cX11_work 41 = .ok (.iload_n 1, 1) := by decide +kernel
theorem dX11_work_42 : decode cX11_work 42 = .ok (.imul, 1) := by decide +kernel
theorem dX11_work_43 : decode cX11_work 43 = .ok (.aload_n 0, 1) := by decide +kernel
theorem dX11_work_44 : decode cX11_work 44 = .ok (.getfield 16, 3) := by decide +kernel
theorem dX11_work_47 : decode cX11_work 47 = .ok (.iload_n 3, 1) := by decide +kernel
theorem dX11_work_48 : decode cX11_work 48 = .ok (.iaload, 1) := by decide +kernel
theorem dX11_work_49 : decode cX11_work 49 = .ok (.iadd, 1) := by decide +kernel
theorem dX11_work_50 : decode cX11_work 50 = .ok (.istore 4, 2) := by decide +kernel
theorem dX11_work_52 : decode cX11_work 52 = .ok (.iconst 4, 1) := by decide +kernel
theorem dX11_work_53 : decode cX11_work 53 = .ok (.iload_n 1, 1) := by decide +kernel
theorem dX11_work_54 : decode cX11_work 54 = .ok (.imul, 1) := by decide +kernel
theorem dX11_work_55 : decode cX11_work 55 = .ok (.aload_n 0, 1) := by decide +kernel
theorem dX11_work_56 : decode cX11_work 56 = .ok (.getfield 19, 3) := by decide +kernel
theorem dX11_work_59 : decode cX11_work 59 = .ok (.iload_n 3, 1) := by decide +kernel
theorem dX11_work_60 : decode cX11_work 60 = .ok (.iaload, 1) := by decide +kernel
theorem dX11_work_61 : decode cX11_work 61 = .ok (.iadd, 1) := by decide +kernel
theorem dX11_work_62 : decode cX11_work 62 = .ok (.istore 5, 2) := by decide +kernel
theorem dX11_work_64 : decode cX11_work 64 = .ok (.aload_n 0, 1) := by decide +kernel
theorem dX11_work_65 : decode cX11_work 65 = .ok (.getfield 22, 3) := by decide +kernel
theorem dX11_work_68 : decode cX11_work 68 = .ok (.iload_n 3, 1) := by decide +kernel
theorem dX11_work_69 : decode cX11_work 69 = .ok (.laload, 1) := by decide +kernel
theorem dX11_work_70 : decode cX11_work 70 = .ok (.lstore 6, 2) := by decide +kernel
theorem dX11_work_72 : decode cX11_work 72 = .ok (.aload_n 0, 1) := by decide +kernel
theorem dX11_work_73 : decode cX11_work 73 = .ok (.getfield 13, 3) := by decide +kernel
theorem dX11_work_76 : decode cX11_work 76 = .ok (.iload_n 3, 1) := by decide +kernel
theorem dX11_work_77 : decode cX11_work 77 = .ok (.iaload, 1) := by decide +kernel
theorem dX11_work_78 : decode cX11_work 78 = .ok (.tableswitch 408 0 18 #[90, 112, 147, 182, 217, 217, 244, 255, 408, 408, 408, 408, 408, 291, 308, 322, 339, 377, 377], 90) := by decide +kernel
theorem dX11_work_168 : decode cX11_work 168 = .ok (.aload_n 0, 1) := by decide +kernel
theorem dX11_work_169 : decode cX11_work 169 = .ok (.getfield 47, 3) := by decide +kernel
theorem dX11_work_172 : decode cX11_work 172 = .ok (.iload 4, 2) := by decide +kernel
theorem dX11_work_174 : decode cX11_work 174 = .ok (.lload 6, 2) := by decide +kernel
theorem dX11_work_176 : decode cX11_work 176 = .ok (.lastore, 1) := by decide +kernel
theorem dX11_work_177 : decode cX11_work 177 = .ok (.aload_n 0, 1) := by decide +kernel
theorem dX11_work_178 : decode cX11_work 178 = .ok (.getfield 44, 3) := by decide +kernel
theorem dX11_work_181 : decode cX11_work 181 = .ok (.iload_n 1, 1) := by decide +kernel
theorem dX11_work_182 : decode cX11_work 182 = .ok (.dup2, 1) := by decide +kernel
theorem dX11_work_183 : decode cX11_work 183 = .ok (.iaload, 1) := by decide +kernel
theorem dX11_work_184 : decode cX11_work 184 = .ok (.iconst 1, 1) := by decide +kernel
theorem dX11_work_185 : decode cX11_work 185 = .ok (.iadd, 1) := by decide +kernel
theorem dX11_work_186 : decode cX11_work 186 = .ok (.iastore, 1) := by decide +kernel
theorem dX11_work_187 : decode cX11_work 187 = .ok (.goto 317, 3) := by decide +kernel
theorem dX11_work_190 : decode cX11_work 190 = .ok (.aload_n 0, 1) := by decide +kernel
theorem dX11_work_191 : decode cX11_work 191 = .ok (.getfield 47, 3) := by decide +kernel
theorem dX11_work_194 : decode cX11_work 194 = .ok (.iload 4, 2) := by decide +kernel
theorem dX11_work_196 : decode cX11_work 196 = .ok (.aload_n 0, 1) := by decide +kernel
theorem dX11_work_197 : decode cX11_work 197 = .ok (.getfield 47, 3) := by decide +kernel
theorem dX11_work_200 : decode cX11_work 200 = .ok (.iload 4, 2) := by decide +kernel
theorem dX11_work_202 : decode cX11_work 202 = .ok (.laload, 1) := by decide +kernel
theorem dX11_work_203 : decode cX11_work 203 = .ok (.aload_n 0, 1) := by decide +kernel
theorem dX11_work_204 : decode cX11_work 204 = .ok (.getfield 47, 3) := by decide +kernel
theorem dX11_work_207 : decode cX11_work 207 = .ok (.iload 5, 2) := by decide +kernel
theorem dX11_work_209 : decode cX11_work 209 = .ok (.laload, 1) := by decide +kernel
theorem dX11_work_210 : decode cX11_work 210 = .ok (.ladd, 1) := by decide +kernel
theorem dX11_work_211 : decode cX11_work 211 = .ok (.lastore, 1) := by decide +kernel
theorem dX11_work_212 : decode cX11_work 212 = .ok (.aload_n 0, 1) := by decide +kernel
theorem dX11_work_213 : decode cX11_work 213 = .ok (.getfield 44, 3) := by decide +kernel
theorem dX11_work_216 : decode cX11_work 216 = .ok (.iload_n 1, 1) := by decide +kernel
theorem dX11_work_217 : decode cX11_work 217 = .ok (.dup2, 1) := by decide +kernel
theorem dX11_work_218 : decode cX11_work 218 = .ok (.iaload, 1) := by decide +kernel
theorem dX11_work_219 : decode cX11_work 219 = .ok (.iconst 1, 1) := by decide +kernel
theorem dX11_work_220 : decode cX11_work 220 = .ok (.iadd, 1) := by decide +kernel
theorem dX11_work_221 : decode cX11_work 221 = .ok (.iastore, 1) := by decide +kernel
theorem dX11_work_222 : decode cX11_work 222 = .ok (.goto 282, 3) := by decide +kernel
theorem dX11_work_225 : decode cX11_work 225 = .ok (.aload_n 0, 1) := by decide +kernel
theorem dX11_work_226 : decode cX11_work 226 = .ok (.getfield 47, 3) := by decide +kernel
theorem dX11_work_229 : decode cX11_work 229 = .ok (.iload 4, 2) := by decide +kernel
theorem dX11_work_231 : decode cX11_work 231 = .ok (.aload_n 0, 1) := by decide +kernel
theorem dX11_work_232 : decode cX11_work 232 = .ok (.getfield 47, 3) := by decide +kernel
theorem dX11_work_235 : decode cX11_work 235 = .ok (.iload 4, 2) := by decide +kernel
theorem dX11_work_237 : decode cX11_work 237 = .ok (.laload, 1) := by decide +kernel
theorem dX11_work_238 : decode cX11_work 238 = .ok (.aload_n 0, 1) := by decide +kernel
theorem dX11_work_239 : decode cX11_work 239 = .ok (.getfield 47, 3) := by decide +kernel
theorem dX11_work_242 : decode cX11_work 242 = .ok (.iload 5, 2) := by decide +kernel
theorem dX11_work_244 : decode cX11_work 244 = .ok (.laload, 1) := by decide +kernel
theorem dX11_work_245 : decode cX11_work 245 = .ok (.lsub, 1) := by decide +kernel
theorem dX11_work_246 : decode cX11_work 246 = .ok (.lastore, 1) := by decide +kernel
theorem dX11_work_247 : decode cX11_work 247 = .ok (.aload_n 0, 1) := by decide +kernel
theorem dX11_work_248 : decode cX11_work 248 = .ok (.getfield 44, 3) := by decide +kernel
theorem dX11_work_251 : decode cX11_work 251 = .ok (.iload_n 1, 1) := by decide +kernel
theorem dX11_work_252 : decode cX11_work 252 = .ok (.dup2, 1) := by decide +kernel
theorem dX11_work_253 : decode cX11_work 253 = .ok (.iaload, 1) := by decide +kernel
theorem dX11_work_254 : decode cX11_work 254 = .ok (.iconst 1, 1) := by decide +kernel
theorem dX11_work_255 : decode cX11_work 255 = .ok (.iadd, 1) := by decide +kernel
theorem dX11_work_256 : decode cX11_work 256 = .ok (.iastore, 1) := by decide +kernel
theorem dX11_work_257 : decode cX11_work 257 = .ok (.goto 247, 3) := by decide +kernel
theorem dX11_work_260 : decode cX11_work 260 = .ok (.aload_n 0, 1) := by decide +kernel
theorem dX11_work_261 : decode cX11_work 261 = .ok (.getfield 47, 3) := by decide +kernel
theorem dX11_work_264 : decode cX11_work 264 = .ok (.iload 4, 2) := by decide +kernel
theorem dX11_work_266 : decode cX11_work 266 = .ok (.aload_n 0, 1) := by decide +kernel
theorem dX11_work_267 : decode cX11_work 267 = .ok (.getfield 47, 3) := by decide +kernel
theorem dX11_work_270 : decode cX11_work 270 = .ok (.iload 4, 2) := by decide +kernel
theorem dX11_work_272 : decode cX11_work 272 = .ok (.laload, 1) := by decide +kernel
theorem dX11_work_273 : decode cX11_work 273 = .ok (.aload_n 0, 1) := by decide +kernel
theorem dX11_work_274 : decode cX11_work 274 = .ok (.getfield 47, 3) := by decide +kernel
theorem dX11_work_277 : decode cX11_work 277 = .ok (.iload 5, 2) := by decide +kernel
theorem dX11_work_279 : decode cX11_work 279 = .ok (.laload, 1) := by decide +kernel
theorem dX11_work_280 : decode cX11_work 280 = .ok (.lmul, 1) := by decide +kernel
theorem dX11_work_281 : decode cX11_work 281 = .ok (.lastore, 1) := by decide +kernel
theorem dX11_work_282 : decode cX11_work 282 = .ok (.aload_n 0, 1) := by decide +kernel
theorem dX11_work_283 : decode cX11_work 283 = .ok (.getfield 44, 3) := by decide +kernel
theorem dX11_work_286 : decode cX11_work 286 = .ok (.iload_n 1, 1) := by decide +kernel
theorem dX11_work_287 : decode cX11_work 287 = .ok (.dup2, 1) := by decide +kernel
theorem dX11_work_288 : decode cX11_work 288 = .ok (.iaload, 1) := by decide +kernel
theorem dX11_work_289 : decode cX11_work 289 = .ok (.iconst 1, 1) := by decide +kernel
theorem dX11_work_290 : decode cX11_work 290 = .ok (.iadd, 1) := by decide +kernel
theorem dX11_work_291 : decode cX11_work 291 = .ok (.iastore, 1) := by decide +kernel
theorem dX11_work_292 : decode cX11_work 292 = .ok (.goto 212, 3) := by decide +kernel
theorem dX11_work_295 : decode cX11_work 295 = .ok (.aload_n 0, 1) := by decide +kernel
theorem dX11_work_296 : decode cX11_work 296 = .ok (.iload_n 1, 1) := by decide +kernel
theorem dX11_work_297 : decode cX11_work 297 = .ok (.iload 4, 2) := by decide +kernel
theorem dX11_work_299 : decode cX11_work 299 = .ok (.iload 5, 2) := by decide +kernel
theorem dX11_work_301 : decode cX11_work 301 = .ok (.aload_n 0, 1) := by decide +kernel
theorem dX11_work_302 : decode cX11_work 302 = .ok (.getfield 13, 3) := by decide +kernel
theorem dX11_work_305 : decode cX11_work 305 = .ok (.iload_n 3, 1) := by decide +kernel
theorem dX11_work_306 : decode cX11_work 306 = .ok (.iaload, 1) := by decide +kernel
theorem dX11_work_307 : decode cX11_work 307 = .ok (.iconst 4, 1) := by decide +kernel
theorem dX11_work_308 : decode cX11_work 308 = .ok (.if_icmp .ne 7, 3) := by decide +kernel
theorem dX11_work_311 : decode cX11_work 311 = .ok (.iconst 1, 1) := by decide +kernel
theorem dX11_work_312 : decode cX11_work 312 = .ok (.goto 4, 3) := by decide +kernel
theorem dX11_work_315 : decode cX11_work 315 = .ok (.iconst 0, 1) := by decide +kernel
theorem dX11_work_316 : decode cX11_work 316 = .ok (.invokevirtual 216, 3) := by decide +kernel
theorem dX11_work_319 : decode cX11_work 319 = .ok (.goto 185, 3) := by decide +kernel
theorem dX11_work_322 : decode cX11_work 322 = .ok (.aload_n 0, 1) := by decide +kernel
theorem dX11_work_323 : decode cX11_work 323 = .ok (.iload_n 1, 1) := by decide +kernel
theorem dX11_work_324 : decode cX11_work 324 = .ok (.lload 6, 2) := by decide +kernel
theorem dX11_work_326 : decode cX11_work 326 = .ok (.l2i, 1) := by decide +kernel
theorem dX11_work_327 : decode cX11_work 327 = .ok (.invokevirtual 220, 3) := by decide +kernel
theorem dX11_work_330 : decode cX11_work 330 = .ok (.goto 174, 3) := by decide +kernel
theorem dX11_work_333 : decode cX11_work 333 = .ok (.aload_n 0, 1) := by decide +kernel
theorem dX11_work_334 : decode cX11_work 334 = .ok (.getfield 47, 3) := by decide +kernel
theorem dX11_work_337 : decode cX11_work 337 = .ok (.iload 4, 2) := by decide +kernel
theorem dX11_work_339 : decode cX11_work 339 = .ok (.laload, 1) := by decide +kernel
theorem dX11_work_340 : decode cX11_work 340 = .ok (.lconst 0, 1) := by decide +kernel
theorem dX11_work_341 : decode cX11_work 341 = .ok (.lcmp, 1) := by decide +kernel
theorem dX11_work_342 : decode cX11_work 342 = .ok (.ifCond .le 14, 3) := by decide +kernel
theorem dX11_work_345 : decode cX11_work 345 = .ok (.aload_n 0, 1) := by decide +kernel
theorem dX11_work_346 : decode cX11_work 346 = .ok (.iload_n 1, 1) := by decide +kernel
theorem dX11_work_347 : decode cX11_work 347 = .ok (.lload 6, 2) := by decide +kernel
theorem dX11_work_349 : decode cX11_work 349 = .ok (.l2i, 1) := by decide +kernel
theorem dX11_work_350 : decode cX11_work 350 = .ok (.invokevirtual 220, 3) := by decide +kernel
theorem dX11_work_353 : decode cX11_work 353 = .ok (.goto 151, 3) := by decide +kernel
theorem dX11_work_356 : decode cX11_work 356 = .ok (.aload_n 0, 1) := by decide +kernel
theorem dX11_work_357 : decode cX11_work 357 = .ok (.getfield 44, 3) := by decide +kernel
theorem dX11_work_360 : decode cX11_work 360 = .ok (.iload_n 1, 1) := by decide +kernel
theorem dX11_work_361 : decode cX11_work 361 = .ok (.dup2, 1) := by decide +kernel
theorem dX11_work_362 : decode cX11_work 362 = .ok (.iaload, 1) := by decide +kernel
theorem dX11_work_363 : decode cX11_work 363 = .ok (.iconst 1, 1) := by decide +kernel
theorem dX11_work_364 : decode cX11_work 364 = .ok (.iadd, 1) := by decide +kernel
theorem dX11_work_365 : decode cX11_work 365 = .ok (.iastore, 1) := by decide +kernel
theorem dX11_work_366 : decode cX11_work 366 = .ok (.goto 138, 3) := by decide +kernel
theorem dX11_work_369 : decode cX11_work 369 = .ok (.aload_n 0, 1) := by decide +kernel
theorem dX11_work_370 : decode cX11_work 370 = .ok (.lload 6, 2) := by decide +kernel
theorem dX11_work_372 : decode cX11_work 372 = .ok (.l2i, 1) := by decide +kernel
theorem dX11_work_373 : decode cX11_work 373 = .ok (.aload_n 0, 1) := by decide +kernel
theorem dX11_work_374 : decode cX11_work 374 = .ok (.getfield 47, 3) := by decide +kernel
theorem dX11_work_377 : decode cX11_work 377 = .ok (.iload 4, 2) := by decide +kernel
theorem dX11_work_379 : decode cX11_work 379 = .ok (.laload, 1) := by decide +kernel
theorem dX11_work_380 : decode cX11_work 380 = .ok (.invokevirtual 197, 3) := by decide +kernel
theorem dX11_work_383 : decode cX11_work 383 = .ok (.goto 121, 3) := by decide +kernel
theorem dX11_work_386 : decode cX11_work 386 = .ok (.aload_n 0, 1) := by decide +kernel
theorem dX11_work_387 : decode cX11_work 387 = .ok (.aload_n 0, 1) := by decide +kernel
theorem dX11_work_388 : decode cX11_work 388 = .ok (.getfield 47, 3) := by decide +kernel
theorem dX11_work_391 : decode cX11_work 391 = .ok (.iload 4, 2) := by decide +kernel
theorem dX11_work_393 : decode cX11_work 393 = .ok (.laload, 1) := by decide +kernel
theorem dX11_work_394 : decode cX11_work 394 = .ok (.invokevirtual 212, 3) := by decide +kernel
theorem dX11_work_397 : decode cX11_work 397 = .ok (.goto 107, 3) := by decide +kernel
theorem dX11_work_400 : decode cX11_work 400 = .ok (.aload_n 0, 1) := by decide +kernel
theorem dX11_work_401 : decode cX11_work 401 = .ok (.bipush 8, 2) := by decide +kernel
theorem dX11_work_403 : decode cX11_work 403 = .ok (.aload_n 0, 1) := by decide +kernel
theorem dX11_work_404 : decode cX11_work 404 = .ok (.getfield 47, 3) := by decide +kernel
theorem dX11_work_407 : decode cX11_work 407 = .ok (.iload 4, 2) := by decide +kernel
theorem dX11_work_409 : decode cX11_work 409 = .ok (.laload, 1) := by decide +kernel
theorem dX11_work_410 : decode cX11_work 410 = .ok (.l2i, 1) := by decide +kernel
theorem dX11_work_411 : decode cX11_work 411 = .ok (.invokevirtual 223, 3) := by decide +kernel
theorem dX11_work_414 : decode cX11_work 414 = .ok (.goto 90, 3) := by decide +kernel
theorem dX11_work_417 : decode cX11_work 417 = .ok (.aload_n 0, 1) := by decide +kernel
theorem dX11_work_418 : decode cX11_work 418 = .ok (.getfield 59, 3) := by decide +kernel
theorem dX11_work_421 : decode cX11_work 421 = .ok (.iload_n 1, 1) := by decide +kernel
theorem dX11_work_422 : decode cX11_work 422 = .ok (.iaload, 1) := by decide +kernel
theorem dX11_work_423 : decode cX11_work 423 = .ok (.ifCond .ne 13, 3) := by decide +kernel
theorem dX11_work_426 : decode cX11_work 426 = .ok (.aload_n 0, 1) := by decide +kernel
theorem dX11_work_427 : decode cX11_work 427 = .ok (.bipush 7, 2) := by decide +kernel
theorem dX11_work_429 : decode cX11_work 429 = .ok (.iconst 0, 1) := by decide +kernel
theorem dX11_work_430 : decode cX11_work 430 = .ok (.invokevirtual 223, 3) := by decide +kernel
theorem dX11_work_433 : decode cX11_work 433 = .ok (.goto 71, 3) := by decide +kernel
theorem dX11_work_436 : decode cX11_work 436 = .ok (.aload_n 0, 1) := by decide +kernel
theorem dX11_work_437 : decode cX11_work 437 = .ok (.aload_n 0, 1) := by decide +kernel
theorem dX11_work_438 : decode cX11_work 438 = .ok (.getfield 59, 3) := by decide +kernel
theorem dX11_work_441 : decode cX11_work 441 = .ok (.iload_n 1, 1) := by decide +kernel
theorem dX11_work_442 : decode cX11_work 442 = .ok (.iaload, 1) := by decide +kernel
theorem dX11_work_443 : decode cX11_work 443 = .ok (.aload_n 0, 1) := by decide +kernel
theorem dX11_work_444 : decode cX11_work 444 = .ok (.getfield 62, 3) := by decide +kernel
theorem dX11_work_447 : decode cX11_work 447 = .ok (.iload_n 1, 1) := by decide +kernel
theorem dX11_work_448 : decode cX11_work 448 = .ok (.iaload, 1) := by decide +kernel
theorem dX11_work_449 : decode cX11_work 449 = .ok (.invokevirtual 223, 3) := by decide +kernel
theorem dX11_work_452 : decode cX11_work 452 = .ok (.goto 52, 3) := by decide +kernel
theorem dX11_work_455 : decode cX11_work 455 = .ok (.aload_n 0, 1) := by decide +kernel
theorem dX11_work_456 : decode cX11_work 456 = .ok (.iload_n 1, 1) := by decide +kernel
theorem dX11_work_457 : decode cX11_work 457 = .ok (.iconst 3, 1) := by decide +kernel
theorem dX11_work_458 : decode cX11_work 458 = .ok (.iload_n 1, 1) := by decide +kernel
theorem dX11_work_459 : decode cX11_work 459 = .ok (.imul, 1) := by decide +kernel
theorem dX11_work_460 : decode cX11_work 460 = .ok (.lload 6, 2) := by decide +kernel
theorem dX11_work_462 : decode cX11_work 462 = .ok (.l2i, 1) := by decide +kernel
theorem dX11_work_463 : decode cX11_work 463 = .ok (.iadd, 1) := by decide +kernel
theorem dX11_work_464 : decode cX11_work 464 = .ok (.aload_n 0, 1) := by decide +kernel
theorem dX11_work_465 : decode cX11_work 465 = .ok (.getfield 13, 3) := by decide +kernel
theorem dX11_work_468 : decode cX11_work 468 = .ok (.iload_n 3, 1) := by decide +kernel
theorem dX11_work_469 : decode cX11_work 469 = .ok (.iaload, 1) := by decide +kernel
theorem dX11_work_470 : decode cX11_work 470 = .ok (.bipush 17, 2) := by decide +kernel
theorem dX11_work_472 : decode cX11_work 472 = .ok (.if_icmp .ne 7, 3) := by decide +kernel
theorem dX11_work_475 : decode cX11_work 475 = .ok (.iconst 1, 1) := by decide +kernel
theorem dX11_work_476 : decode cX11_work 476 = .ok (.goto 4, 3) := by decide +kernel
theorem dX11_work_479 : decode cX11_work 479 = .ok (.iconst 0, 1) := by decide +kernel
theorem dX11_work_480 : decode cX11_work 480 = .ok (.invokevirtual 226, 3) := by decide +kernel
theorem dX11_work_483 : decode cX11_work 483 = .ok (.goto 21, 3) := by decide +kernel
theorem dX11_work_486 : decode cX11_work 486 = .ok (.aload_n 0, 1) := by decide +kernel
theorem dX11_work_487 : decode cX11_work 487 = .ok (.iload_n 1, 1) := by decide +kernel
theorem dX11_work_488 : decode cX11_work 488 = .ok (.aload_n 0, 1) := by decide +kernel
theorem dX11_work_489 : decode cX11_work 489 = .ok (.getfield 13, 3) := by decide +kernel
theorem dX11_work_492 : decode cX11_work 492 = .ok (.iload_n 3, 1) := by decide +kernel
theorem dX11_work_493 : decode cX11_work 493 = .ok (.iaload, 1) := by decide +kernel
theorem dX11_work_494 : decode cX11_work 494 = .ok (.iload 4, 2) := by decide +kernel
theorem dX11_work_496 : decode cX11_work 496 = .ok (.iload 5, 2) := by decide +kernel
theorem dX11_work_498 : decode cX11_work 498 = .ok (.lload 6, 2) := by decide +kernel
theorem dX11_work_500 : decode cX11_work 500 = .ok (.l2i, 1) := by decide +kernel
theorem dX11_work_501 : decode cX11_work 501 = .ok (.invokevirtual 230, 3) := by decide +kernel
theorem dX11_work_504 : decode cX11_work 504 = .ok (.return_, 1) := by decide +kernel
theorem dX11_divides_0 : decode cX11_divides 0 = .ok (.aload_n 0, 1) := by decide +kernel
theorem dX11_divides_1 : decode cX11_divides 1 = .ok (.getfield 47, 3) := by decide +kernel
theorem dX11_divides_4 : decode cX11_divides 4 = .ok (.iload_n 3, 1) := by decide +kernel
theorem dX11_divides_5 : decode cX11_divides 5 = .ok (.laload, 1) := by decide +kernel
theorem dX11_divides_6 : decode cX11_divides 6 = .ok (.lstore 5, 2) := by decide +kernel
theorem dX11_divides_8 : decode cX11_divides 8 = .ok (.lload 5, 2) := by decide +kernel
theorem dX11_divides_10 : decode cX11_divides 10 = .ok (.lconst 0, 1) := by decide +kernel
theorem dX11_divides_11 : decode cX11_divides 11 = .ok (.lcmp, 1) := by decide +kernel
theorem dX11_divides_12 : decode cX11_divides 12 = .ok (.ifCond .ne 11, 3) := by decide +kernel
theorem dX11_divides_15 : decode cX11_divides 15 = .ok (.aload_n 0, 1) := by decide +kernel
theorem dX11_divides_16 : decode cX11_divides 16 = .ok (.bipush 6, 2) := by decide +kernel
theorem dX11_divides_18 : decode cX11_divides 18 = .ok (.iconst 0, 1) := by decide +kernel
theorem dX11_divides_19 : decode cX11_divides 19 = .ok (.invokevirtual 223, 3) := by decide +kernel
theorem dX11_divides_22 : decode cX11_divides 22 = .ok (.return_, 1) := by decide +kernel
theorem dX11_divides_23 : decode cX11_divides 23 = .ok (.aload_n 0, 1) := by decide +kernel
theorem dX11_divides_24 : decode cX11_divides 24 = .ok (.getfield 47, 3) := by decide +kernel
theorem dX11_divides_27 : decode cX11_divides 27 = .ok (.iload_n 2, 1) := by decide +kernel
theorem dX11_divides_28 : decode cX11_divides 28 = .ok (.iload 4, 2) := by decide +kernel
theorem dX11_divides_30 : decode cX11_divides 30 = .ok (.ifCond .eq 15, 3) := by decide +kernel
theorem dX11_divides_33 : decode cX11_divides 33 = .ok (.aload_n 0, 1) := by decide +kernel
theorem dX11_divides_34 : decode cX11_divides 34 = .ok (.getfield 47, 3) := by decide +kernel
theorem dX11_divides_37 : decode cX11_divides 37 = .ok (.iload_n 2, 1) := by decide +kernel
theorem dX11_divides_38 : decode cX11_divides 38 = .ok (.laload, 1) := by decide +kernel
theorem dX11_divides_39 : decode cX11_divides 39 = .ok (.lload 5, 2) := by decide +kernel
theorem dX11_divides_41 : decode cX11_divides 41 = .ok (.ldiv, 1) := by decide +kernel
theorem dX11_divides_42 : decode cX11_divides 42 = .ok (.goto 12, 3) := by decide +kernel
theorem dX11_divides_45 : decode cX11_divides 45 = .ok (.aload_n 0, 1) := by decide +kernel
theorem dX11_divides_46 : decode cX11_divides 46 = .ok (.getfield 47, 3) := by decide +kernel
theorem dX11_divides_49 : decode cX11_divides 49 = .ok (.iload_n 2, 1) := by decide +kernel
theorem dX11_divides_50 : decode cX11_divides 50 = .ok (.laload, 1) := by decide +kernel
theorem dX11_divides_51 : decode cX11_divides 51 = .ok (.lload 5, 2) := by decide +kernel
theorem dX11_divides_53 : decode cX11_divides 53 = .ok (.lrem, 1) := by decide +kernel
theorem dX11_divides_54 : decode cX11_divides 54 = .ok (.lastore, 1) := by decide +kernel
theorem dX11_divides_55 : decode cX11_divides 55 = .ok (.aload_n 0, 1) := by decide +kernel
theorem dX11_divides_56 : decode cX11_divides 56 = .ok (.getfield 44, 3) := by decide +kernel
theorem dX11_divides_59 : decode cX11_divides 59 = .ok (.iload_n 1, 1) := by decide +kernel
theorem dX11_divides_60 : decode cX11_divides 60 = .ok (.dup2, 1) := by decide +kernel
theorem dX11_divides_61 : decode cX11_divides 61 = .ok (.iaload, 1) := by decide +kernel
theorem dX11_divides_62 : decode cX11_divides 62 = .ok (.iconst 1, 1) := by decide +kernel
theorem dX11_divides_63 : decode cX11_divides 63 = .ok (.iadd, 1) := by decide +kernel
theorem dX11_divides_64 : decode cX11_divides 64 = .ok (.iastore, 1) := by decide +kernel
theorem dX11_divides_65 : decode cX11_divides 65 = .ok (.return_, 1) := by decide +kernel
theorem dX11_jumps_0 : decode cX11_jumps 0 = .ok (.iload_n 2, 1) := by decide +kernel
theorem dX11_jumps_1 : decode cX11_jumps 1 = .ok (.aload_n 0, 1) := by decide +kernel
theorem dX11_jumps_2 : decode cX11_jumps 2 = .ok (.getfield 44, 3) := by decide +kernel
theorem dX11_jumps_5 : decode cX11_jumps 5 = .ok (.iload_n 1, 1) := by decide +kernel
theorem dX11_jumps_6 : decode cX11_jumps 6 = .ok (.iaload, 1) := by decide +kernel
theorem dX11_jumps_7 : decode cX11_jumps 7 = .ok (.if_icmp .gt 12, 3) := by decide +kernel
theorem dX11_jumps_10 : decode cX11_jumps 10 = .ok (.aload_n 0, 1) := by decide +kernel
theorem dX11_jumps_11 : decode cX11_jumps 11 = .ok (.lconst 1, 1) := by decide +kernel
theorem dX11_jumps_12 : decode cX11_jumps 12 = .ok (.invokevirtual 150, 3) := by decide +kernel
theorem dX11_jumps_15 : decode cX11_jumps 15 = .ok (.ifCond .ne 4, 3) := by decide +kernel
theorem dX11_jumps_18 : decode cX11_jumps 18 = .ok (.return_, 1) := by decide +kernel
theorem dX11_jumps_19 : decode cX11_jumps 19 = .ok (.aload_n 0, 1) := by decide +kernel
theorem dX11_jumps_20 : decode cX11_jumps 20 = .ok (.getfield 44, 3) := by decide +kernel
theorem dX11_jumps_23 : decode cX11_jumps 23 = .ok (.iload_n 1, 1) := by decide +kernel
theorem dX11_jumps_24 : decode cX11_jumps 24 = .ok (.iload_n 2, 1) := by decide +kernel
theorem dX11_jumps_25 : decode cX11_jumps 25 = .ok (.aload_n 0, 1) := by decide +kernel
theorem dX11_jumps_26 : decode cX11_jumps 26 = .ok (.getfield 7, 3) := by decide +kernel
theorem dX11_jumps_29 : decode cX11_jumps 29 = .ok (.aload_n 0, 1) := by decide +kernel
theorem dX11_jumps_30 : decode cX11_jumps 30 = .ok (.getfield 41, 3) := by decide +kernel
theorem dX11_jumps_33 : decode cX11_jumps 33 = .ok (.iload_n 1, 1) := by decide +kernel
theorem dX11_jumps_34 : decode cX11_jumps 34 = .ok (.iaload, 1) := by decide +kernel
theorem dX11_jumps_35 : decode cX11_jumps 35 = .ok (.iaload, 1) := by decide +kernel
theorem dX11_jumps_36 : decode cX11_jumps 36 = .ok (.invokestatic 116, 3) := by decide +kernel
theorem dX11_jumps_39 : decode cX11_jumps 39 = .ok (.iastore, 1) := by decide +kernel
theorem dX11_jumps_40 : decode cX11_jumps 40 = .ok (.return_, 1) := by decide +kernel
theorem dX11_guards_0 : decode cX11_guards 0 = .ok (.iload_n 3, 1) := by decide +kernel
theorem dX11_guards_1 : decode cX11_guards 1 = .ok (.ifCond .ne 20, 3) := by decide +kernel
theorem dX11_guards_4 : decode cX11_guards 4 = .ok (.aload_n 0, 1) := by decide +kernel
theorem dX11_guards_5 : decode cX11_guards 5 = .ok (.getfield 65, 3) := by decide +kernel
theorem dX11_guards_8 : decode cX11_guards 8 = .ok (.iload_n 2, 1) := by decide +kernel
theorem dX11_guards_9 : decode cX11_guards 9 = .ok (.iaload, 1) := by decide +kernel
theorem dX11_guards_10 : decode cX11_guards 10 = .ok (.ifCond .ne 11, 3) := by decide +kernel
theorem dX11_guards_13 : decode cX11_guards 13 = .ok (.aload_n 0, 1) := by decide +kernel
theorem dX11_guards_14 : decode cX11_guards 14 = .ok (.bipush 7, 2) := by decide +kernel
theorem dX11_guards_16 : decode cX11_guards 16 = .ok (.iconst 0, 1) := by decide +kernel
theorem dX11_guards_17 : decode cX11_guards 17 = .ok (.invokevirtual 223, 3) := by decide +kernel
theorem dX11_guards_20 : decode cX11_guards 20 = .ok (.return_, 1) := by decide +kernel
theorem dX11_guards_21 : decode cX11_guards 21 = .ok (.aload_n 0, 1) := by decide +kernel
theorem dX11_guards_22 : decode cX11_guards 22 = .ok (.getfield 65, 3) := by decide +kernel
theorem dX11_guards_25 : decode cX11_guards 25 = .ok (.iload_n 2, 1) := by decide +kernel
theorem dX11_guards_26 : decode cX11_guards 26 = .ok (.dup2, 1) := by decide +kernel
theorem dX11_guards_27 : decode cX11_guards 27 = .ok (.iaload, 1) := by decide +kernel
theorem dX11_guards_28 : decode cX11_guards 28 = .ok (.iload_n 3, 1) := by decide +kernel
theorem dX11_guards_29 : decode cX11_guards 29 = .ok (.ifCond .eq 7, 3) := by decide +kernel
theorem dX11_guards_32 : decode cX11_guards 32 = .ok (.iconst 1, 1) := by decide +kernel
theorem dX11_guards_33 : decode cX11_guards 33 = .ok (.goto 4, 3) := by decide +kernel
theorem dX11_guards_36 : decode cX11_guards 36 = .ok (.iconst (-1), 1) := by decide +kernel
theorem dX11_guards_37 : decode cX11_guards 37 = .ok (.iadd, 1) := by decide +kernel
theorem dX11_guards_38 : decode cX11_guards 38 = .ok (.iastore, 1) := by decide +kernel
theorem dX11_guards_39 : decode cX11_guards 39 = .ok (.aload_n 0, 1) := by decide +kernel
theorem dX11_guards_40 : decode cX11_guards 40 = .ok (.dup, 1) := by decide +kernel
theorem dX11_guards_41 : decode cX11_guards 41 = .ok (.getfield 157, 3) := by decide +kernel
theorem dX11_guards_44 : decode cX11_guards 44 = .ok (.iload_n 3, 1) := by decide +kernel
theorem dX11_guards_45 : decode cX11_guards 45 = .ok (.ifCond .eq 7, 3) := by decide +kernel
theorem dX11_guards_48 : decode cX11_guards 48 = .ok (.iconst 1, 1) := by decide +kernel
theorem dX11_guards_49 : decode cX11_guards 49 = .ok (.goto 4, 3) := by decide +kernel
theorem dX11_guards_52 : decode cX11_guards 52 = .ok (.iconst (-1), 1) := by decide +kernel
theorem dX11_guards_53 : decode cX11_guards 53 = .ok (.iadd, 1) := by decide +kernel
theorem dX11_guards_54 : decode cX11_guards 54 = .ok (.putfield 157, 3) := by decide +kernel
theorem dX11_guards_57 : decode cX11_guards 57 = .ok (.aload_n 0, 1) := by decide +kernel
theorem dX11_guards_58 : decode cX11_guards 58 = .ok (.aload_n 0, 1) := by decide +kernel
theorem dX11_guards_59 : decode cX11_guards 59 = .ok (.getfield 157, 3) := by decide +kernel
theorem dX11_guards_62 : decode cX11_guards 62 = .ok (.aload_n 0, 1) := by decide +kernel
theorem dX11_guards_63 : decode cX11_guards 63 = .ok (.getfield 191, 3) := by decide +kernel
theorem dX11_guards_66 : decode cX11_guards 66 = .ok (.if_icmp .le 10, 3) := by decide +kernel
theorem dX11_guards_69 : decode cX11_guards 69 = .ok (.aload_n 0, 1) := by decide +kernel
theorem dX11_guards_70 : decode cX11_guards 70 = .ok (.getfield 157, 3) := by decide +kernel
theorem dX11_guards_73 : decode cX11_guards 73 = .ok (.goto 7, 3) := by decide +kernel
theorem dX11_guards_76 : decode cX11_guards 76 = .ok (.aload_n 0, 1) := by decide +kernel
theorem dX11_guards_77 : decode cX11_guards 77 = .ok (.getfield 191, 3) := by decide +kernel
theorem dX11_guards_80 : decode cX11_guards 80 = .ok (.putfield 191, 3) := by decide +kernel
theorem dX11_guards_83 : decode cX11_guards 83 = .ok (.aload_n 0, 1) := by decide +kernel
theorem dX11_guards_84 : decode cX11_guards 84 = .ok (.getfield 44, 3) := by decide +kernel
theorem dX11_guards_87 : decode cX11_guards 87 = .ok (.iload_n 1, 1) := by decide +kernel
theorem dX11_guards_88 : decode cX11_guards 88 = .ok (.dup2, 1) := by decide +kernel
theorem dX11_guards_89 : decode cX11_guards 89 = .ok (.iaload, 1) := by decide +kernel
theorem dX11_guards_90 : decode cX11_guards 90 = .ok (.iconst 1, 1) := by decide +kernel
theorem dX11_guards_91 : decode cX11_guards 91 = .ok (.iadd, 1) := by decide +kernel
theorem dX11_guards_92 : decode cX11_guards 92 = .ok (.iastore, 1) := by decide +kernel
theorem dX11_guards_93 : decode cX11_guards 93 = .ok (.return_, 1) := by decide +kernel
theorem dX11_cast_0 : decode cX11_cast 0 = .ok (.iload_n 2, 1) := by decide +kernel
theorem dX11_cast_1 : decode cX11_cast 1 = .ok (.tableswitch 67 0 6 #[43, 48, 53, 67, 57, 61, 61], 43) := by decide +kernel
theorem dX11_cast_44 : decode cX11_cast 44 = .ok (.lload_n 0, 1) := by decide +kernel
theorem dX11_cast_45 : decode cX11_cast 45 = .ok (.l2i, 1) := by decide +kernel
theorem dX11_cast_46 : decode cX11_cast 46 = .ok (.i2b, 1) := by decide +kernel
theorem dX11_cast_47 : decode cX11_cast 47 = .ok (.i2l, 1) := by decide +kernel
