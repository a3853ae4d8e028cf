theorem dX11_cast_48 : decode cX11_cast 48 = .ok (.lreturn, 1) := by decide +kernel
theorem dX11_cast_49 : decode cX11_cast 49 = .ok (.lload_n 0, 1) := by decide +kernel
theorem dX11_cast_50 : decode cX11_cast 50 = .ok (.l2i, 1) := by decide +kernel
theorem dX11_cast_51 : decode cX11_cast 51 = .ok (.i2s, 1) := by decide +kernel
theorem dX11_cast_52 : decode cX11_cast 52 = .ok (.i2l, 1) := by decide +kernel
theorem dX11_cast_53 : decode cX11_cast 53 = .ok (.lreturn, 1) := by decide +kernel
theorem dX11_cast_54 : decode cX11_cast 54 = .ok (.lload_n 0, 1) := by decide +kernel
theorem dX11_cast_55 : decode cX11_cast 55 = .ok (.l2i, 1) := by decide +kernel
theorem dX11_cast_56 : decode cX11_cast 56 = .ok (.i2l, 1) := by decide +kernel
theorem dX11_cast_57 : decode cX11_cast 57 = .ok (.lreturn, 1) := by decide +kernel
theorem dX11_cast_58 : decode cX11_cast 58 = .ok (.lload_n 0, 1) := by decide +kernel
theorem dX11_cast_59 : decode cX11_cast 59 = .ok (.l2d, 1) := by decide +kernel
theorem dX11_cast_60 : decode cX11_cast 60 = .ok (.d2l, 1) := by decide +kernel
theorem dX11_cast_61 : decode cX11_cast 61 = .ok (.lreturn, 1) := by decide +kernel
theorem dX11_cast_62 : decode cX11_cast 62 = .ok (.lload_n 0, 1) := by decide +kernel
theorem dX11_cast_63 : decode cX11_cast 63 = .ok (.ldc2_w 234, 3) := by decide +kernel
theorem dX11_cast_66 : decode cX11_cast 66 = .ok (.land, 1) := by decide +kernel
theorem dX11_cast_67 : decode cX11_cast 67 = .ok (.lreturn, 1) := by decide +kernel
theorem dX11_cast_68 : decode cX11_cast 68 = .ok (.lload_n 0, 1) := by decide +kernel
theorem dX11_cast_69 : decode cX11_cast 69 = .ok (.lreturn, 1) := by decide +kernel
theorem dX11_makes_0 : decode cX11_makes 0 = .ok (.lload_n 2, 1) := by decide +kernel
theorem dX11_makes_1 : decode cX11_makes 1 = .ok (.lconst 0, 1) := by decide +kernel
theorem dX11_makes_2 : decode cX11_makes 2 = .ok (.lcmp, 1) := by decide +kernel
theorem dX11_makes_3 : decode cX11_makes 3 = .ok (.ifCond .ge 10, 3) := by decide +kernel
theorem dX11_makes_6 : decode cX11_makes 6 = .ok (.aload_n 0, 1) := by decide +kernel
theorem dX11_makes_7 : decode cX11_makes 7 = .ok (.iconst 3, 1) := by decide +kernel
theorem dX11_makes_8 : decode cX11_makes 8 = .ok (.iconst 0, 1) := by decide +kernel
theorem dX11_makes_9 : decode cX11_makes 9 = .ok (.invokevirtual 223, 3) := by decide +kernel
theorem dX11_makes_12 : decode cX11_makes 12 = .ok (.return_, 1) := by decide +kernel
theorem dX11_makes_13 : decode cX11_makes 13 = .ok (.aload_n 0, 1) := by decide +kernel
theorem dX11_makes_14 : decode cX11_makes 14 = .ok (.dup, 1) := by decide +kernel
theorem dX11_makes_15 : decode cX11_makes 15 = .ok (.getfield 188, 3) := by decide +kernel
theorem dX11_makes_18 : decode cX11_makes 18 = .ok (.iconst 1, 1) := by decide +kernel
theorem dX11_makes_19 : decode cX11_makes 19 = .ok (.iadd, 1) := by decide +kernel
theorem dX11_makes_20 : decode cX11_makes 20 = .ok (.putfield 188, 3) := by decide +kernel
theorem dX11_makes_23 : decode cX11_makes 23 = .ok (.aload_n 0, 1) := by decide +kernel
theorem dX11_makes_24 : decode cX11_makes 24 = .ok (.getfield 50, 3) := by decide +kernel
theorem dX11_makes_27 : decode cX11_makes 27 = .ok (.iload_n 1, 1) := by decide +kernel
theorem dX11_makes_28 : decode cX11_makes 28 = .ok (.iload 4, 2) := by decide +kernel
theorem dX11_makes_30 : decode cX11_makes 30 = .ok (.iastore, 1) := by decide +kernel
theorem dX11_makes_31 : decode cX11_makes 31 = .ok (.aload_n 0, 1) := by decide +kernel
theorem dX11_makes_32 : decode cX11_makes 32 = .ok (.getfield 53, 3) := by decide +kernel
theorem dX11_makes_35 : decode cX11_makes 35 = .ok (.iload_n 1, 1) := by decide +kernel
theorem dX11_makes_36 : decode cX11_makes 36 = .ok (.aload_n 0, 1) := by decide +kernel
theorem dX11_makes_37 : decode cX11_makes 37 = .ok (.getfield 185, 3) := by decide +kernel
theorem dX11_makes_40 : decode cX11_makes 40 = .ok (.iastore, 1) := by decide +kernel
theorem dX11_makes_41 : decode cX11_makes 41 = .ok (.aload_n 0, 1) := by decide +kernel
theorem dX11_makes_42 : decode cX11_makes 42 = .ok (.getfield 56, 3) := by decide +kernel
theorem dX11_makes_45 : decode cX11_makes 45 = .ok (.iload_n 1, 1) := by decide +kernel
theorem dX11_makes_46 : decode cX11_makes 46 = .ok (.lload_n 2, 1) := by decide +kernel
theorem dX11_makes_47 : decode cX11_makes 47 = .ok (.l2i, 1) := by decide +kernel
theorem dX11_makes_48 : decode cX11_makes 48 = .ok (.iastore, 1) := by decide +kernel
theorem dX11_makes_49 : decode cX11_makes 49 = .ok (.iconst 0, 1) := by decide +kernel
theorem dX11_makes_50 : decode cX11_makes 50 = .ok (.istore 5, 2) := by decide +kernel
theorem dX11_makes_52 : decode cX11_makes 52 = .ok (.iload 5, 2) := by decide +kernel
theorem dX11_makes_54 : decode cX11_makes 54 = .ok (.i2l, 1) := by decide +kernel
theorem dX11_makes_55 : decode cX11_makes 55 = .ok (.lload_n 2, 1) := by decide +kernel
theorem dX11_makes_56 : decode cX11_makes 56 = .ok (.lcmp, 1) := by decide +kernel
theorem dX11_makes_57 : decode cX11_makes 57 = .ok (.ifCond .ge 41, 3) := by decide +kernel
theorem dX11_makes_60 : decode cX11_makes 60 = .ok (.aload_n 0, 1) := by decide +kernel
theorem dX11_makes_61 : decode cX11_makes 61 = .ok (.getfield 68, 3) := by decide +kernel
theorem dX11_makes_64 : decode cX11_makes 64 = .ok (.aload_n 0, 1) := by decide +kernel
theorem dX11_makes_65 : decode cX11_makes 65 = .ok (.getfield 185, 3) := by decide +kernel
theorem dX11_makes_68 : decode cX11_makes 68 = .ok (.iload 4, 2) := by decide +kernel
theorem dX11_makes_70 : decode cX11_makes 70 = .ok (.iconst 4, 1) := by decide +kernel
theorem dX11_makes_71 : decode cX11_makes 71 = .ok (.if_icmp .le 9, 3) := by decide +kernel
theorem dX11_makes_74 : decode cX11_makes 74 = .ok (.ldc2_w 236, 3) := by decide +kernel
theorem dX11_makes_77 : decode cX11_makes 77 = .ok (.goto 4, 3) := by decide +kernel
theorem dX11_makes_80 : decode cX11_makes 80 = .ok (.lconst 0, 1) := by decide +kernel
theorem dX11_makes_81 : decode cX11_makes 81 = .ok (.lastore, 1) := by decide +kernel
theorem dX11_makes_82 : decode cX11_makes 82 = .ok (.aload_n 0, 1) := by decide +kernel
theorem dX11_makes_83 : decode cX11_makes 83 = .ok (.dup, 1) := by decide +kernel
theorem dX11_makes_84 : decode cX11_makes 84 = .ok (.getfield 185, 3) := by decide +kernel
theorem dX11_makes_87 : decode cX11_makes 87 = .ok (.iconst 1, 1) := by decide +kernel
theorem dX11_makes_88 : decode cX11_makes 88 = .ok (.iadd, 1) := by decide +kernel
theorem dX11_makes_89 : decode cX11_makes 89 = .ok (.putfield 185, 3) := by decide +kernel
theorem dX11_makes_92 : decode cX11_makes 92 = .ok (.iinc 5 1, 3) := by decide +kernel
theorem dX11_makes_95 : decode cX11_makes 95 = .ok (.goto (-43), 3) := by decide +kernel
theorem dX11_makes_98 : decode cX11_makes 98 = .ok (.aload_n 0, 1) := by decide +kernel
theorem dX11_makes_99 : decode cX11_makes 99 = .ok (.getfield 44, 3) := by decide +kernel
theorem dX11_makes_102 : decode cX11_makes 102 = .ok (.iload_n 1, 1) := by decide +kernel
theorem dX11_makes_103 : decode cX11_makes 103 = .ok (.dup2, 1) := by decide +kernel
theorem dX11_makes_104 : decode cX11_makes 104 = .ok (.iaload, 1) := by decide +kernel
theorem dX11_makes_105 : decode cX11_makes 105 = .ok (.iconst 1, 1) := by decide +kernel
theorem dX11_makes_106 : decode cX11_makes 106 = .ok (.iadd, 1) := by decide +kernel
theorem dX11_makes_107 : decode cX11_makes 107 = .ok (.iastore, 1) := by decide +kernel
theorem dX11_makes_108 : decode cX11_makes 108 = .ok (.return_, 1) := by decide +kernel
theorem dX11_rows_0 : decode cX11_rows 0 = .ok (.iload_n 2, 1) := by decide +kernel
theorem dX11_rows_1 : decode cX11_rows 1 = .ok (.bipush 8, 2) := by decide +kernel
theorem dX11_rows_3 : decode cX11_rows 3 = .ok (.if_icmp .ne 17, 3) := by decide +kernel
theorem dX11_rows_6 : decode cX11_rows 6 = .ok (.aload_n 0, 1) := by decide +kernel
theorem dX11_rows_7 : decode cX11_rows 7 = .ok (.iload_n 1, 1) := by decide +kernel
theorem dX11_rows_8 : decode cX11_rows 8 = .ok (.aload_n 0, 1) := by decide +kernel
theorem dX11_rows_9 : decode cX11_rows 9 = .ok (.getfield 47, 3) := by decide +kernel
theorem dX11_rows_12 : decode cX11_rows 12 = .ok (.iload_n 3, 1) := by decide +kernel
theorem dX11_rows_13 : decode cX11_rows 13 = .ok (.laload, 1) := by decide +kernel
theorem dX11_rows_14 : decode cX11_rows 14 = .ok (.iload 5, 2) := by decide +kernel
theorem dX11_rows_16 : decode cX11_rows 16 = .ok (.invokevirtual 238, 3) := by decide +kernel
theorem dX11_rows_19 : decode cX11_rows 19 = .ok (.return_, 1) := by decide +kernel
theorem dX11_rows_20 : decode cX11_rows 20 = .ok (.iload_n 2, 1) := by decide +kernel
theorem dX11_rows_21 : decode cX11_rows 21 = .ok (.bipush 11, 2) := by decide +kernel
theorem dX11_rows_23 : decode cX11_rows 23 = .ok (.if_icmp .ne 73, 3) := by decide +kernel
theorem dX11_rows_26 : decode cX11_rows 26 = .ok (.aload_n 0, 1) := by decide +kernel
theorem dX11_rows_27 : decode cX11_rows 27 = .ok (.getfield 50, 3) := by decide +kernel
theorem dX11_rows_30 : decode cX11_rows 30 = .ok (.iload_n 1, 1) := by decide +kernel
theorem dX11_rows_31 : decode cX11_rows 31 = .ok (.iaload, 1) := by decide +kernel
theorem dX11_rows_32 : decode cX11_rows 32 = .ok (.iconst (-1), 1) := by decide +kernel
theorem dX11_rows_33 : decode cX11_rows 33 = .ok (.if_icmp .eq 31, 3) := by decide +kernel
theorem dX11_rows_36 : decode cX11_rows 36 = .ok (.aload_n 0, 1) := by decide +kernel
theorem dX11_rows_37 : decode cX11_rows 37 = .ok (.getfield 50, 3) := by decide +kernel
theorem dX11_rows_40 : decode cX11_rows 40 = .ok (.iload_n 1, 1) := by decide +kernel
theorem dX11_rows_41 : decode cX11_rows 41 = .ok (.iaload, 1) := by decide +kernel
theorem dX11_rows_42 : decode cX11_rows 42 = .ok (.iload 5, 2) := by decide +kernel
theorem dX11_rows_44 : decode cX11_rows 44 = .ok (.if_icmp .eq 20, 3) := by decide +kernel
theorem dX11_rows_47 : decode cX11_rows 47 = .ok (.aload_n 0, 1) := by decide +kernel
theorem dX11_rows_48 : decode cX11_rows 48 = .ok (.getfield 50, 3) := by decide +kernel
theorem dX11_rows_51 : decode cX11_rows 51 = .ok (.iload_n 1, 1) := by decide +kernel
theorem dX11_rows_52 : decode cX11_rows 52 = .ok (.iaload, 1) := by decide +kernel
theorem dX11_rows_53 : decode cX11_rows 53 = .ok (.bipush 6, 2) := by decide +kernel
theorem dX11_rows_55 : decode cX11_rows 55 = .ok (.if_icmp .ne 13, 3) := by decide +kernel
theorem dX11_rows_58 : decode cX11_rows 58 = .ok (.iload 5, 2) := by decide +kernel
theorem dX11_rows_60 : decode cX11_rows 60 = .ok (.iconst 5, 1) := by decide +kernel
theorem dX11_rows_61 : decode cX11_rows 61 = .ok (.if_icmp .ne 7, 3) := by decide +kernel
theorem dX11_rows_64 : decode cX11_rows 64 = .ok (.iconst 1, 1) := by decide +kernel
theorem dX11_rows_65 : decode cX11_rows 65 = .ok (.goto 4, 3) := by decide +kernel
theorem dX11_rows_68 : decode cX11_rows 68 = .ok (.iconst 0, 1) := by decide +kernel
theorem dX11_rows_69 : decode cX11_rows 69 = .ok (.istore 6, 2) := by decide +kernel
theorem dX11_rows_71 : decode cX11_rows 71 = .ok (.iload 6, 2) := by decide +kernel
theorem dX11_rows_73 : decode cX11_rows 73 = .ok (.ifCond .eq 16, 3) := by decide +kernel
theorem dX11_rows_76 : decode cX11_rows 76 = .ok (.aload_n 0, 1) := by decide +kernel
theorem dX11_rows_77 : decode cX11_rows 77 = .ok (.getfield 44, 3) := by decide +kernel
theorem dX11_rows_80 : decode cX11_rows 80 = .ok (.iload_n 1, 1) := by decide +kernel
theorem dX11_rows_81 : decode cX11_rows 81 = .ok (.dup2, 1) := by decide +kernel
theorem dX11_rows_82 : decode cX11_rows 82 = .ok (.iaload, 1) := by decide +kernel
theorem dX11_rows_83 : decode cX11_rows 83 = .ok (.iconst 1, 1) := by decide +kernel
theorem dX11_rows_84 : decode cX11_rows 84 = .ok (.iadd, 1) := by decide +kernel
theorem dX11_rows_85 : decode cX11_rows 85 = .ok (.iastore, 1) := by decide +kernel
theorem dX11_rows_86 : decode cX11_rows 86 = .ok (.goto 9, 3) := by decide +kernel
theorem dX11_rows_89 : decode cX11_rows 89 = .ok (.aload_n 0, 1) := by decide +kernel
theorem dX11_rows_90 : decode cX11_rows 90 = .ok (.iconst 5, 1) := by decide +kernel
theorem dX11_rows_91 : decode cX11_rows 91 = .ok (.iconst 0, 1) := by decide +kernel
theorem dX11_rows_92 : decode cX11_rows 92 = .ok (.invokevirtual 223, 3) := by decide +kernel
theorem dX11_rows_95 : decode cX11_rows 95 = .ok (.return_, 1) := by decide +kernel
theorem dX11_rows_96 : decode cX11_rows 96 = .ok (.aload_n 0, 1) := by decide +kernel
theorem dX11_rows_97 : decode cX11_rows 97 = .ok (.getfield 50, 3) := by decide +kernel
theorem dX11_rows_100 : decode cX11_rows 100 = .ok (.iload_n 1, 1) := by decide +kernel
theorem dX11_rows_101 : decode cX11_rows 101 = .ok (.iaload, 1) := by decide +kernel
theorem dX11_rows_102 : decode cX11_rows 102 = .ok (.iconst (-1), 1) := by decide +kernel
theorem dX11_rows_103 : decode cX11_rows 103 = .ok (.if_icmp .ne 10, 3) := by decide +kernel
theorem dX11_rows_106 : decode cX11_rows 106 = .ok (.aload_n 0, 1) := by decide +kernel
theorem dX11_rows_107 : decode cX11_rows 107 = .ok (.iconst 1, 1) := by decide +kernel
theorem dX11_rows_108 : decode cX11_rows 108 = .ok (.iconst 0, 1) := by decide +kernel
theorem dX11_rows_109 : decode cX11_rows 109 = .ok (.invokevirtual 223, 3) := by decide +kernel
theorem dX11_rows_112 : decode cX11_rows 112 = .ok (.return_, 1) := by decide +kernel
theorem dX11_rows_113 : decode cX11_rows 113 = .ok (.iload_n 2, 1) := by decide +kernel
theorem dX11_rows_114 : decode cX11_rows 114 = .ok (.bipush 12, 2) := by decide +kernel
theorem dX11_rows_116 : decode cX11_rows 116 = .ok (.if_icmp .ne 27, 3) := by decide +kernel
theorem dX11_rows_119 : decode cX11_rows 119 = .ok (.aload_n 0, 1) := by decide +kernel
theorem dX11_rows_120 : decode cX11_rows 120 = .ok (.getfield 47, 3) := by decide +kernel
theorem dX11_rows_123 : decode cX11_rows 123 = .ok (.iload_n 3, 1) := by decide +kernel
theorem dX11_rows_124 : decode cX11_rows 124 = .ok (.aload_n 0, 1) := by decide +kernel
theorem dX11_rows_125 : decode cX11_rows 125 = .ok (.getfield 56, 3) := by decide +kernel
theorem dX11_rows_128 : decode cX11_rows 128 = .ok (.iload_n 1, 1) := by decide +kernel
theorem dX11_rows_129 : decode cX11_rows 129 = .ok (.iaload, 1) := by decide +kernel
theorem dX11_rows_130 : decode cX11_rows 130 = .ok (.i2l, 1) := by decide +kernel
theorem dX11_rows_131 : decode cX11_rows 131 = .ok (.lastore, 1) := by decide +kernel
theorem dX11_rows_132 : decode cX11_rows 132 = .ok (.aload_n 0, 1) := by decide +kernel
theorem dX11_rows_133 : decode cX11_rows 133 = .ok (.getfield 44, 3) := by decide +kernel
theorem dX11_rows_136 : decode cX11_rows 136 = .ok (.iload_n 1, 1) := by decide +kernel
theorem dX11_rows_137 : decode cX11_rows 137 = .ok (.dup2, 1) := by decide +kernel
theorem dX11_rows_138 : decode cX11_rows 138 = .ok (.iaload, 1) := by decide +kernel
theorem dX11_rows_139 : decode cX11_rows 139 = .ok (.iconst 1, 1) := by decide +kernel
theorem dX11_rows_140 : decode cX11_rows 140 = .ok (.iadd, 1) := by decide +kernel
theorem dX11_rows_141 : decode cX11_rows 141 = .ok (.iastore, 1) := by decide +kernel
theorem dX11_rows_142 : decode cX11_rows 142 = .ok (.return_, 1) := by decide +kernel
theorem dX11_rows_143 : decode cX11_rows 143 = .ok (.aload_n 0, 1) := by decide +kernel
theorem dX11_rows_144 : decode cX11_rows 144 = .ok (.getfield 47, 3) := by decide +kernel
theorem dX11_rows_147 : decode cX11_rows 147 = .ok (.iload 4, 2) := by decide +kernel
theorem dX11_rows_149 : decode cX11_rows 149 = .ok (.laload, 1) := by decide +kernel
theorem dX11_rows_150 : decode cX11_rows 150 = .ok (.lstore 6, 2) := by decide +kernel
theorem dX11_rows_152 : decode cX11_rows 152 = .ok (.lload 6, 2) := by decide +kernel
theorem dX11_rows_154 : decode cX11_rows 154 = .ok (.lconst 0, 1) := by decide +kernel
theorem dX11_rows_155 : decode cX11_rows 155 = .ok (.aload_n 0, 1) := by decide +kernel
theorem dX11_rows_156 : decode cX11_rows 156 = .ok (.getfield 56, 3) := by decide +kernel
theorem dX11_rows_159 : decode cX11_rows 159 = .ok (.iload_n 1, 1) := by decide +kernel
theorem dX11_rows_160 : decode cX11_rows 160 = .ok (.iaload, 1) := by decide +kernel
theorem dX11_rows_161 : decode cX11_rows 161 = .ok (.iconst 1, 1) := by decide +kernel
theorem dX11_rows_162 : decode cX11_rows 162 = .ok (.isub, 1) := by decide +kernel
theorem dX11_rows_163 : decode cX11_rows 163 = .ok (.i2l, 1) := by decide +kernel
theorem dX11_rows_164 : decode cX11_rows 164 = .ok (.invokestatic 84, 3) := by decide +kernel
theorem dX11_rows_167 : decode cX11_rows 167 = .ok (.ifCond .ne 10, 3) := by decide +kernel
theorem dX11_rows_170 : decode cX11_rows 170 = .ok (.aload_n 0, 1) := by decide +kernel
theorem dX11_rows_171 : decode cX11_rows 171 = .ok (.iconst 2, 1) := by decide +kernel
theorem dX11_rows_172 : decode cX11_rows 172 = .ok (.iconst 0, 1) := by decide +kernel
theorem dX11_rows_173 : decode cX11_rows 173 = .ok (.invokevirtual 223, 3) := by decide +kernel
theorem dX11_rows_176 : decode cX11_rows 176 = .ok (.return_, 1) := by decide +kernel
theorem dX11_rows_177 : decode cX11_rows 177 = .ok (.aload_n 0, 1) := by decide +kernel
theorem dX11_rows_178 : decode cX11_rows 178 = .ok (.getfield 53, 3) := by decide +kernel
theorem dX11_rows_181 : decode cX11_rows 181 = .ok (.iload_n 1, 1) := by decide +kernel
theorem dX11_rows_182 : decode cX11_rows 182 = .ok (.iaload, 1) := by decide +kernel
theorem dX11_rows_183 : decode cX11_rows 183 = .ok (.lload 6, 2) := by decide +kernel
theorem dX11_rows_185 : decode cX11_rows 185 = .ok (.l2i, 1) := by decide +kernel
theorem dX11_rows_186 : decode cX11_rows 186 = .ok (.iadd, 1) := by decide +kernel
theorem dX11_rows_187 : decode cX11_rows 187 = .ok (.istore 8, 2) := by decide +kernel
theorem dX11_rows_189 : decode cX11_rows 189 = .ok (.iload_n 2, 1) := by decide +kernel
theorem dX11_rows_190 : decode cX11_rows 190 = .ok (.bipush 9, 2) := by decide +kernel
theorem dX11_rows_192 : decode cX11_rows 192 = .ok (.if_icmp .ne 19, 3) := by decide +kernel
theorem dX11_rows_195 : decode cX11_rows 195 = .ok (.aload_n 0, 1) := by decide +kernel
theorem dX11_rows_196 : decode cX11_rows 196 = .ok (.getfield 47, 3) := by decide +kernel
theorem dX11_rows_199 : decode cX11_rows 199 = .ok (.iload_n 3, 1) := by decide +kernel
theorem dX11_rows_200 : decode cX11_rows 200 = .ok (.aload_n 0, 1) := by decide +kernel
theorem dX11_rows_201 : decode cX11_rows 201 = .ok (.getfield 68, 3) := by decide +kernel
theorem dX11_rows_204 : decode cX11_rows 204 = .ok (.iload 8, 2) := by decide +kernel
theorem dX11_rows_206 : decode cX11_rows 206 = .ok (.laload, 1) := by decide +kernel
theorem dX11_rows_207 : decode cX11_rows 207 = .ok (.lastore, 1) := by decide +kernel
theorem dX11_rows_208 : decode cX11_rows 208 = .ok (.goto 56, 3) := by decide +kernel
theorem dX11_rows_211 : decode cX11_rows 211 = .ok (.aload_n 0, 1) := by decide +kernel
theorem dX11_rows_212 : decode cX11_rows 212 = .ok (.getfield 50, 3) := by decide +kernel
theorem dX11_rows_215 : decode cX11_rows 215 = .ok (.iload_n 1, 1) := by decide +kernel
theorem dX11_rows_216 : decode cX11_rows 216 = .ok (.iaload, 1) := by decide +kernel
theorem dX11_rows_217 : decode cX11_rows 217 = .ok (.bipush 6, 2) := by decide +kernel
theorem dX11_rows_219 : decode cX11_rows 219 = .ok (.if_icmp .ne 23, 3) := by decide +kernel
theorem dX11_rows_222 : decode cX11_rows 222 = .ok (.aload_n 0, 1) := by decide +kernel
theorem dX11_rows_223 : decode cX11_rows 223 = .ok (.getfield 47, 3) := by decide +kernel
theorem dX11_rows_226 : decode cX11_rows 226 = .ok (.iload_n 3, 1) := by decide +kernel
theorem dX11_rows_227 : decode cX11_rows 227 = .ok (.laload, 1) := by decide +kernel
theorem dX11_rows_228 : decode cX11_rows 228 = .ok (.lconst 1, 1) := by decide +kernel
theorem dX11_rows_229 : decode cX11_rows 229 = .ok (.land, 1) := by decide +kernel
theorem dX11_rows_230 : decode cX11_rows 230 = .ok (.lconst 0, 1) := by decide +kernel
theorem dX11_rows_231 : decode cX11_rows 231 = .ok (.lcmp, 1) := by decide +kernel
theorem dX11_rows_232 : decode cX11_rows 232 = .ok (.ifCond .ne 10, 3) := by decide +kernel
theorem dX11_rows_235 : decode cX11_rows 235 = .ok (.aload_n 0, 1) := by decide +kernel
theorem dX11_rows_236 : decode cX11_rows 236 = .ok (.iconst 4, 1) := by decide +kernel
theorem dX11_rows_237 : decode cX11_rows 237 = .ok (.iconst 0, 1) := by decide +kernel
theorem dX11_rows_238 : decode cX11_rows 238 = .ok (.invokevirtual 223, 3) := by decide +kernel
theorem dX11_rows_241 : decode cX11_rows 241 = .ok (.return_, 1) := by decide +kernel
theorem dX11_rows_242 : decode cX11_rows 242 = .ok (.aload_n 0, 1) := by decide +kernel
theorem dX11_rows_243 : decode cX11_rows 243 = .ok (.getfield 68, 3) := by decide +kernel
theorem dX11_rows_246 : decode cX11_rows 246 = .ok (.iload 8, 2) := by decide +kernel
theorem dX11_rows_248 : decode cX11_rows 248 = .ok (.aload_n 0, 1) := by decide +kernel
theorem dX11_rows_249 : decode cX11_rows 249 = .ok (.getfield 47, 3) := by decide +kernel
theorem dX11_rows_252 : decode cX11_rows 252 = .ok (.iload_n 3, 1) := by decide +kernel
theorem dX11_rows_253 : decode cX11_rows 253 = .ok (.laload, 1) := by decide +kernel
theorem dX11_rows_254 : decode cX11_rows 254 = .ok (.aload_n 0, 1) := by decide +kernel
theorem dX11_rows_255 : decode cX11_rows 255 = .ok (.getfield 50, 3) := by decide +kernel
theorem dX11_rows_258 : decode cX11_rows 258 = .ok (.iload_n 1, 1) := by decide +kernel
theorem dX11_rows_259 : decode cX11_rows 259 = .ok (.iaload, 1) := by decide +kernel
theorem dX11_rows_260 : decode cX11_rows 260 = .ok (.invokestatic 242, 3) := by decide +kernel
theorem dX11_rows_263 : decode cX11_rows 263 = .ok (.lastore, 1) := by decide +kernel
theorem dX11_rows_264 : decode cX11_rows 264 = .ok (.aload_n 0, 1) := by decide +kernel
theorem dX11_rows_265 : decode cX11_rows 265 = .ok (.getfield 44, 3) := by decide +kernel
theorem dX11_rows_268 : decode cX11_rows 268 = .ok (.iload_n 1, 1) := by decide +kernel
theorem dX11_rows_269 : decode cX11_rows 269 = .ok (.dup2, 1) := by decide +kernel
theorem dX11_rows_270 : decode cX11_rows 270 = .ok (.iaload, 1) := by decide +kernel
theorem dX11_rows_271 : decode cX11_rows 271 = .ok (.iconst 1, 1) := by decide +kernel
theorem dX11_rows_272 : decode cX11_rows 272 = .ok (.iadd, 1) := by decide +kernel
theorem dX11_rows_273 : decode cX11_rows 273 = .ok (.iastore, 1) := by decide +kernel
theorem dX11_rows_274 : decode cX11_rows 274 = .ok (.return_, 1) := by decide +kernel
theorem dX11_run_0 : decode cX11_run 0 = .ok (.aload_n 0, 1) := by decide +kernel
theorem dX11_run_1 : decode cX11_run 1 = .ok (.iload_n 1, 1) := by decide +kernel
theorem dX11_run_2 : decode cX11_run 2 = .ok (.lload_n 2, 1) := by decide +kernel
theorem dX11_run_3 : decode cX11_run 3 = .ok (.iload 4, 2) := by decide +kernel
theorem dX11_run_5 : decode cX11_run 5 = .ok (.invokevirtual 246, 3) := by decide +kernel
theorem dX11_run_8 : decode cX11_run 8 = .ok (.ireturn, 1) := by decide +kernel
theorem dX11_step_0 : decode cX11_step 0 = .ok (.aload_n 0, 1) := by decide +kernel
theorem dX11_step_1 : decode cX11_step 1 = .ok (.iload_n 1, 1) := by decide +kernel
theorem dX11_step_2 : decode cX11_step 2 = .ok (.lload_n 2, 1) := by decide +kernel
theorem dX11_step_3 : decode cX11_step 3 = .ok (.iload 4, 2) := by decide +kernel
theorem dX11_step_5 : decode cX11_step 5 = .ok (.invokevirtual 246, 3) := by decide +kernel
theorem dX11_step_8 : decode cX11_step 8 = .ok (.ireturn, 1) := by decide +kernel
theorem dX11_answer_0 : decode cX11_answer 0 = .ok (.aload_n 0, 1) := by decide +kernel
theorem dX11_answer_1 : decode cX11_answer 1 = .ok (.getfield 166, 3) := by decide +kernel
theorem dX11_answer_4 : decode cX11_answer 4 = .ok (.lreturn, 1) := by decide +kernel
theorem dX11_told_0 : decode cX11_told 0 = .ok (.iload_n 1, 1) := by decide +kernel
theorem dX11_told_1 : decode cX11_told 1 = .ok (.tableswitch 87 0 7 #[47, 52, 57, 62, 67, 72, 77, 82], 47) := by decide +kernel
theorem dX11_told_48 : decode cX11_told 48 = .ok (.aload_n 0, 1) := by decide +kernel
theorem dX11_told_49 : decode cX11_told 49 = .ok (.getfield 140, 3) := by decide +kernel
theorem dX11_told_52 : decode cX11_told 52 = .ok (.ireturn, 1) := by decide +kernel
theorem dX11_told_53 : decode cX11_told 53 = .ok (.aload_n 0, 1) := by decide +kernel
theorem dX11_told_54 : decode cX11_told 54 = .ok (.getfield 170, 3) := by decide +kernel
theorem dX11_told_57 : decode cX11_told 57 = .ok (.ireturn, 1) := by decide +kernel
theorem dX11_told_58 : decode cX11_told 58 = .ok (.aload_n 0, 1) := by decide +kernel
theorem dX11_told_59 : decode cX11_told 59 = .ok (.getfield 173, 3) := by decide +kernel
theorem dX11_told_62 : decode cX11_told 62 = .ok (.ireturn, 1) := by decide +kernel
theorem dX11_told_63 : decode cX11_told 63 = .ok (.aload_n 0, 1) := by decide +kernel
theorem dX11_told_64 : decode cX11_told 64 = .ok (.getfield 154, 3) := by decide +kernel
theorem dX11_told_67 : decode cX11_told 67 = .ok (.ireturn, 1) := by decide +kernel
theorem dX11_told_68 : decode cX11_told 68 = .ok (.aload_n 0, 1) := by decide +kernel
theorem dX11_told_69 : decode cX11_told 69 = .ok (.getfield 180, 3) := by decide +kernel
theorem dX11_told_72 : decode cX11_told 72 = .ok (.ireturn, 1) := by decide +kernel
theorem dX11_told_73 : decode cX11_told 73 = .ok (.aload_n 0, 1) := by decide +kernel
theorem dX11_told_74 : decode cX11_told 74 = .ok (.getfield 188, 3) := by decide +kernel
theorem dX11_told_77 : decode cX11_told 77 = .ok (.ireturn, 1) := by decide +kernel
theorem dX11_told_78 : decode cX11_told 78 = .ok (.aload_n 0, 1) := by decide +kernel
theorem dX11_told_79 : decode cX11_told 79 = .ok (.getfield 191, 3) := by decide +kernel
theorem dX11_told_82 : decode cX11_told 82 = .ok (.ireturn, 1) := by decide +kernel
theorem dX11_told_83 : decode cX11_told 83 = .ok (.aload_n 0, 1) := by decide +kernel
theorem dX11_told_84 : decode cX11_told 84 = .ok (.getfield 194, 3) := by decide +kernel
theorem dX11_told_87 : decode cX11_told 87 = .ok (.ireturn, 1) := by decide +kernel
theorem dX11_told_88 : decode cX11_told 88 = .ok (.bipush (-2), 2) := by decide +kernel
theorem dX11_told_90 : decode cX11_told 90 = .ok (.ireturn, 1) := by decide +kernel
theorem dL_law_0 : decode cL_law 0 = .ok (.new 7, 3) := by decide +kernel
theorem dL_law_3 : decode cL_law 3 = .ok (.dup, 1) := by decide +kernel
theorem dL_law_4 : decode cL_law 4 = .ok (.invokespecial 9, 3) := by decide +kernel
theorem dL_law_7 : decode cL_law 7 = .ok (.astore_n 1, 1) := by decide +kernel
theorem dL_law_8 : decode cL_law 8 = .ok (.new 10, 3) := by decide +kernel
theorem dL_law_11 : decode cL_law 11 = .ok (.dup, 1) := by decide +kernel
theorem dL_law_12 : decode cL_law 12 = .ok (.invokespecial 12, 3) := by decide +kernel
theorem dL_law_15 : decode cL_law 15 = .ok (.astore_n 2, 1) := by decide +kernel
theorem dL_law_16 : decode cL_law 16 = .ok (.iconst 0, 1) := by decide +kernel
theorem dL_law_17 : decode cL_law 17 = .ok (.istore_n 3, 1) := by decide +kernel
theorem dL_law_18 : decode cL_law 18 = .ok (.iload_n 3, 1) := by decide +kernel
theorem dL_law_19 : decode cL_law 19 = .ok (.aload_n 0, 1) := by decide +kernel
theorem dL_law_20 : decode cL_law 20 = .ok (.arraylength, 1) := by decide +kernel
theorem dL_law_21 : decode cL_law 21 = .ok (.bipush 7, 2) := by decide +kernel
theorem dL_law_23 : decode cL_law 23 = .ok (.isub, 1) := by decide +kernel
theorem dL_law_24 : decode cL_law 24 = .ok (.if_icmp .gt 540, 3) := by decide +kernel
theorem dL_law_27 : decode cL_law 27 = .ok (.aload_n 0, 1) := by decide +kernel
theorem dL_law_28 : decode cL_law 28 = .ok (.iload_n 3, 1) := by decide +kernel
theorem dL_law_29 : decode cL_law 29 = .ok (.iaload, 1) := by decide +kernel
theorem dL_law_30 : decode cL_law 30 = .ok (.bipush 15, 2) := by decide +kernel
theorem dL_law_32 : decode cL_law 32 = .ok (.iand, 1) := by decide +kernel
theorem dL_law_33 : decode cL_law 33 = .ok (.tableswitch 525 0 10 #[59, 72, 167, 230, 303, 376, 390, 413, 436, 479, 512], 59) := by decide +kernel
theorem dL_law_92 : decode cL_law 92 = .ok (.aload_n 1, 1) := by decide +kernel
theorem dL_law_93 : decode cL_law 93 = .ok (.invokevirtual 13, 3) := by decide +kernel
theorem dL_law_96 : decode cL_law 96 = .ok (.aload_n 2, 1) := by decide +kernel
theorem dL_law_97 : decode cL_law 97 = .ok (.invokevirtual 17, 3) := by decide +kernel
theorem dL_law_100 : decode cL_law 100 = .ok (.if_icmp .eq 458, 3) := by decide +kernel
theorem dL_law_103 : decode cL_law 103 = .ok (.iconst 0, 1) := by decide +kernel
theorem dL_law_104 : decode cL_law 104 = .ok (.ireturn, 1) := by decide +kernel
theorem dL_law_105 : decode cL_law 105 = .ok (.aload_n 1, 1) := by decide +kernel
theorem dL_law_106 : decode cL_law 106 = .ok (.aload_n 0, 1) := by decide +kernel
theorem dL_law_107 : decode cL_law 107 = .ok (.iload_n 3, 1) := by decide +kernel
theorem dL_law_108 : decode cL_law 108 = .ok (.iconst 1, 1) := by decide +kernel
theorem dL_law_109 : decode cL_law 109 = .ok (.iadd, 1) := by decide +kernel
theorem dL_law_110 : decode cL_law 110 = .ok (.iaload, 1) := by decide +kernel
theorem dL_law_111 : decode cL_law 111 = .ok (.aload_n 0, 1) := by decide +kernel
theorem dL_law_112 : decode cL_law 112 = .ok (.iload_n 3, 1) := by decide +kernel
theorem dL_law_113 : decode cL_law 113 = .ok (.iconst 2, 1) := by decide +kernel
theorem dL_law_114 : decode cL_law 114 = .ok (.iadd, 1) := by decide +kernel
theorem dL_law_115 : decode cL_law 115 = .ok (.iaload, 1) := by decide +kernel
theorem dL_law_116 : decode cL_law 116 = .ok (.aload_n 0, 1) := by decide +kernel
theorem dL_law_117 : decode cL_law 117 = .ok (.iload_n 3, 1) := by decide +kernel
theorem dL_law_118 : decode cL_law 118 = .ok (.iconst 3, 1) := by decide +kernel
theorem dL_law_119 : decode cL_law 119 = .ok (.iadd, 1) := by decide +kernel
theorem dL_law_120 : decode cL_law 120 = .ok (.iaload, 1) := by decide +kernel
theorem dL_law_121 : decode cL_law 121 = .ok (.aload_n 0, 1) := by decide +kernel
theorem dL_law_122 : decode cL_law 122 = .ok (.iload_n 3, 1) := by decide +kernel
theorem dL_law_123 : decode cL_law 123 = .ok (.iconst 4, 1) := by decide +kernel
theorem dL_law_124 : decode cL_law 124 = .ok (.iadd, 1) := by decide +kernel
theorem dL_law_125 : decode cL_law 125 = .ok (.iaload, 1) := by decide +kernel
theorem dL_law_126 : decode cL_law 126 = .ok (.aload_n 0, 1) := by decide +kernel
theorem dL_law_127 : decode cL_law 127 = .ok (.iload_n 3, 1) := by decide +kernel
theorem dL_law_128 : decode cL_law 128 = .ok (.iconst 5, 1) := by decide +kernel
theorem dL_law_129 : decode cL_law 129 = .ok (.iadd, 1) := by decide +kernel
theorem dL_law_130 : decode cL_law 130 = .ok (.iaload, 1) := by decide +kernel
theorem dL_law_131 : decode cL_law 131 = .ok (.i2l, 1) := by decide +kernel
theorem dL_law_132 : decode cL_law 132 = .ok (.bipush 32, 2) := by decide +kernel
theorem dL_law_134 : decode cL_law 134 = .ok (.lshl, 1) := by decide +kernel
theorem dL_law_135 : decode cL_law 135 = .ok (.aload_n 0, 1) := by decide +kernel
theorem dL_law_136 : decode cL_law 136 = .ok (.iload_n 3, 1) := by decide +kernel
theorem dL_law_137 : decode cL_law 137 = .ok (.bipush 6, 2) := by decide +kernel
theorem dL_law_139 : decode cL_law 139 = .ok (.iadd, 1) := by decide +kernel
theorem dL_law_140 : decode cL_law 140 = .ok (.iaload, 1) := by decide +kernel
theorem dL_law_141 : decode cL_law 141 = .ok (.i2l, 1) := by decide +kernel
theorem dL_law_142 : decode cL_law 142 = .ok (.ldc2_w 18, 3) := by decide +kernel
theorem dL_law_145 : decode cL_law 145 = .ok (.land, 1) := by decide +kernel
theorem dL_law_146 : decode cL_law 146 = .ok (.lor, 1) := by decide +kernel
theorem dL_law_147 : decode cL_law 147 = .ok (.invokevirtual 20, 3) := by decide +kernel
theorem dL_law_150 : decode cL_law 150 = .ok (.aload_n 2, 1) := by decide +kernel
theorem dL_law_151 : decode cL_law 151 = .ok (.aload_n 0, 1) := by decide +kernel
theorem dL_law_152 : decode cL_law 152 = .ok (.iload_n 3, 1) := by decide +kernel
theorem dL_law_153 : decode cL_law 153 = .ok (.iconst 1, 1) := by decide +kernel
theorem dL_law_154 : decode cL_law 154 = .ok (.iadd, 1) := by decide +kernel
theorem dL_law_155 : decode cL_law 155 = .ok (.iaload, 1) := by decide +kernel
theorem dL_law_156 : decode cL_law 156 = .ok (.aload_n 0, 1) := by decide +kernel
theorem dL_law_157 : decode cL_law 157 = .ok (.iload_n 3, 1) := by decide +kernel
theorem dL_law_158 : decode cL_law 158 = .ok (.iconst 2, 1) := by decide +kernel
theorem dL_law_159 : decode cL_law 159 = .ok (.iadd, 1) := by decide +kernel
theorem dL_law_160 : decode cL_law 160 = .ok (.iaload, 1) := by decide +kernel
theorem dL_law_161 : decode cL_law 161 = .ok (.aload_n 0, 1) := by decide +kernel
theorem dL_law_162 : decode cL_law 162 = .ok (.iload_n 3, 1) := by decide +kernel
theorem dL_law_163 : decode cL_law 163 = .ok (.iconst 3, 1) := by decide +kernel
theorem dL_law_164 : decode cL_law 164 = .ok (.iadd, 1) := by decide +kernel
theorem dL_law_165 : decode cL_law 165 = .ok (.iaload, 1) := by decide +kernel
theorem dL_law_166 : decode cL_law 166 = .ok (.aload_n 0, 1) := by decide +kernel
theorem dL_law_167 : decode cL_law 167 = .ok (.iload_n 3, 1) := by decide +kernel
theorem dL_law_168 : decode cL_law 168 = .ok (.iconst 4, 1) := by decide +kernel
theorem dL_law_169 : decode cL_law 169 = .ok (.iadd, 1) := by decide +kernel
theorem dL_law_170 : decode cL_law 170 = .ok (.iaload, 1) := by decide +kernel
theorem dL_law_171 : decode cL_law 171 = .ok (.aload_n 0, 1) := by decide +kernel
theorem dL_law_172 : decode cL_law 172 = .ok (.iload_n 3, 1) := by decide +kernel
theorem dL_law_173 : decode cL_law 173 = .ok (.iconst 5, 1) := by decide +kernel
theorem dL_law_174 : decode cL_law 174 = .ok (.iadd, 1) := by decide +kernel
theorem dL_law_175 : decode cL_law 175 = .ok (.iaload, 1) := by decide +kernel
theorem dL_law_176 : decode cL_law 176 = .ok (.i2l, 1) := by decide +kernel
theorem dL_law_177 : decode cL_law 177 = .ok (.bipush 32, 2) := by decide +kernel
theorem dL_law_179 : decode cL_law 179 = .ok (.lshl, 1) := by decide +kernel
theorem dL_law_180 : decode cL_law 180 = .ok (.aload_n 0, 1) := by decide +kernel
theorem dL_law_181 : decode cL_law 181 = .ok (.iload_n 3, 1) := by decide +kernel
theorem dL_law_182 : decode cL_law 182 = .ok (.bipush 6, 2) := by decide +kernel
theorem dL_law_184 : decode cL_law 184 = .ok (.iadd, 1) := by decide +kernel
theorem dL_law_185 : decode cL_law 185 = .ok (.iaload, 1) := by decide +kernel
theorem dL_law_186 : decode cL_law 186 = .ok (.i2l, 1) := by decide +kernel
theorem dL_law_187 : decode cL_law 187 = .ok (.ldc2_w 18, 3) := by decide +kernel
theorem dL_law_190 : decode cL_law 190 = .ok (.land, 1) := by decide +kernel
theorem dL_law_191 : decode cL_law 191 = .ok (.lor, 1) := by decide +kernel
theorem dL_law_192 : decode cL_law 192 = .ok (.invokevirtual 24, 3) := by decide +kernel
theorem dL_law_195 : decode cL_law 195 = .ok (.if_icmp .eq 363, 3) := by decide +kernel
theorem dL_law_198 : decode cL_law 198 = .ok (.iconst 0, 1) := by decide +kernel
theorem dL_law_199 : decode cL_law 199 = .ok (.ireturn, 1) := by decide +kernel
theorem dL_law_200 : decode cL_law 200 = .ok (.aload_n 1, 1) := by decide +kernel
theorem dL_law_201 : decode cL_law 201 = .ok (.aload_n 0, 1) := by decide +kernel
theorem dL_law_202 : decode cL_law 202 = .ok (.iload_n 3, 1) := by decide +kernel
theorem dL_law_203 : decode cL_law 203 = .ok (.iconst 1, 1) := by decide +kernel
theorem dL_law_204 : decode cL_law 204 = .ok (.iadd, 1) := by decide +kernel
theorem dL_law_205 : decode cL_law 205 = .ok (.iaload, 1) := by decide +kernel
theorem dL_law_206 : decode cL_law 206 = .ok (.aload_n 0, 1) := by decide +kernel
theorem dL_law_207 : decode cL_law 207 = .ok (.iload_n 3, 1) := by decide +kernel
theorem dL_law_208 : decode cL_law 208 = .ok (.iconst 2, 1) := by decide +kernel
theorem dL_law_209 : decode cL_law 209 = .ok (.iadd, 1) := by decide +kernel
theorem dL_law_210 : decode cL_law 210 = .ok (.iaload, 1) := by decide +kernel
theorem dL_law_211 : decode cL_law 211 = .ok (.aload_n 0, 1) := by decide +kernel
theorem dL_law_212 : decode cL_law 212 = .ok (.iload_n 3, 1) := by decide +kernel
theorem dL_law_213 : decode cL_law 213 = .ok (.iconst 3, 1) := by decide +kernel
theorem dL_law_214 : decode cL_law 214 = .ok (.iadd, 1) := by decide +kernel
theorem dL_law_215 : decode cL_law 215 = .ok (.iaload, 1) := by decide +kernel
theorem dL_law_216 : decode cL_law 216 = .ok (.aload_n 0, 1) := by decide +kernel
theorem dL_law_217 : decode cL_law 217 = .ok (.iload_n 3, 1) := by decide +kernel
theorem dL_law_218 : decode cL_law 218 = .ok (.iconst 4, 1) := by decide +kernel
theorem dL_law_219 : decode cL_law 219 = .ok (.iadd, 1) := by decide +kernel
theorem dL_law_220 : decode cL_law 220 = .ok (.iaload, 1) := by decide +kernel
theorem dL_law_221 : decode cL_law 221 = .ok (.aload_n 0, 1) := by decide +kernel
theorem dL_law_222 : decode cL_law 222 = .ok (.iload_n 3, 1) := by decide +kernel
theorem dL_law_223 : decode cL_law 223 = .ok (.iconst 5, 1) := by decide +kernel
theorem dL_law_224 : decode cL_law 224 = .ok (.iadd, 1) := by decide +kernel
theorem dL_law_225 : decode cL_law 225 = .ok (.iaload, 1) := by decide +kernel
theorem dL_law_226 : decode cL_law 226 = .ok (.invokevirtual 25, 3) := by decide +kernel
theorem dL_law_229 : decode cL_law 229 = .ok (.aload_n 2, 1) := by decide +kernel
theorem dL_law_230 : decode cL_law 230 = .ok (.aload_n 0, 1) := by decide +kernel
theorem dL_law_231 : decode cL_law 231 = .ok (.iload_n 3, 1) := by decide +kernel
theorem dL_law_232 : decode cL_law 232 = .ok (.iconst 1, 1) := by decide +kernel
theorem dL_law_233 : decode cL_law 233 = .ok (.iadd, 1) := by decide +kernel
theorem dL_law_234 : decode cL_law 234 = .ok (.iaload, 1) := by decide +kernel
theorem dL_law_235 : decode cL_law 235 = .ok (.aload_n 0, 1) := by decide +kernel
theorem dL_law_236 : decode cL_law 236 = .ok (.iload_n 3, 1) := by decide +kernel
theorem dL_law_237 : decode cL_law 237 = .ok (.iconst 2, 1) := by decide +kernel
theorem dL_law_238 : decode cL_law 238 = .ok (.iadd, 1) := by decide +kernel
theorem dL_law_239 : decode cL_law 239 = .ok (.iaload, 1) := by decide +kernel
theorem dL_law_240 : decode cL_law 240 = .ok (.aload_n 0, 1) := by decide +kernel
theorem dL_law_241 : decode cL_law 241 = .ok (.iload_n 3, 1) := by decide +kernel
theorem dL_law_242 : decode cL_law 242 = .ok (.iconst 3, 1) := by decide +kernel
theorem dL_law_243 : decode cL_law 243 = .ok (.iadd, 1) := by decide +kernel
theorem dL_law_244 : decode cL_law 244 = .ok (.iaload, 1) := by decide +kernel
theorem dL_law_245 : decode cL_law 245 = .ok (.aload_n 0, 1) := by decide +kernel
theorem dL_law_246 : decode cL_law 246 = .ok (.iload_n 3, 1) := by decide +kernel
theorem dL_law_247 : decode cL_law 247 = .ok (.iconst 4, 1) := by decide +kernel
theorem dL_law_248 : decode cL_law 248 = .ok (.iadd, 1) := by decide +kernel
theorem dL_law_249 : decode cL_law 249 = .ok (.iaload, 1) := by decide +kernel
theorem dL_law_250 : decode cL_law 250 = .ok (.aload_n 0, 1) := by decide +kernel
theorem dL_law_251 : decode cL_law 251 = .ok (.iload_n 3, 1) := by decide +kernel
theorem dL_law_252 : decode cL_law 252 = .ok (.iconst 5, 1) := by decide +kernel
theorem dL_law_253 : decode cL_law 253 = .ok (.iadd, 1) := by decide +kernel
theorem dL_law_254 : decode cL_law 254 = .ok (.iaload, 1) := by decide +kernel
theorem dL_law_255 : decode cL_law 255 = .ok (.invokevirtual 29, 3) := by decide +kernel
theorem dL_law_258 : decode cL_law 258 = .ok (.if_icmp .eq 300, 3) := by decide +kernel
theorem dL_law_261 : decode cL_law 261 = .ok (.iconst 0, 1) := by decide +kernel
theorem dL_law_262 : decode cL_law 262 = .ok (.ireturn, 1) := by decide +kernel
theorem dL_law_263 : decode cL_law 263 = .ok (.aload_n 1, 1) := by decide +kernel
theorem dL_law_264 : decode cL_law 264 = .ok (.aload_n 0, 1) := by decide +kernel
theorem dL_law_265 : decode cL_law 265 = .ok (.iload_n 3, 1) := by decide +kernel
theorem dL_law_266 : decode cL_law 266 = .ok (.iconst 1, 1) := by decide +kernel
theorem dL_law_267 : decode cL_law 267 = .ok (.iadd, 1) := by decide +kernel
theorem dL_law_268 : decode cL_law 268 = .ok (.iaload, 1) := by decide +kernel
theorem dL_law_269 : decode cL_law 269 = .ok (.aload_n 0, 1) := by decide +kernel
theorem dL_law_270 : decode cL_law 270 = .ok (.iload_n 3, 1) := by decide +kernel
theorem dL_law_271 : decode cL_law 271 = .ok (.iconst 2, 1) := by decide +kernel
theorem dL_law_272 : decode cL_law 272 = .ok (.iadd, 1) := by decide +kernel
theorem dL_law_273 : decode cL_law 273 = .ok (.iaload, 1) := by decide +kernel
theorem dL_law_274 : decode cL_law 274 = .ok (.i2l, 1) := by decide +kernel
theorem dL_law_275 : decode cL_law 275 = .ok (.bipush 32, 2) := by decide +kernel
theorem dL_law_277 : decode cL_law 277 = .ok (.lshl, 1) := by decide +kernel
theorem dL_law_278 : decode cL_law 278 = .ok (.aload_n 0, 1) := by decide +kernel
theorem dL_law_279 : decode cL_law 279 = .ok (.iload_n 3, 1) := by decide +kernel
theorem dL_law_280 : decode cL_law 280 = .ok (.iconst 3, 1) := by decide +kernel
theorem dL_law_281 : decode cL_law 281 = .ok (.iadd, 1) := by decide +kernel
theorem dL_law_282 : decode cL_law 282 = .ok (.iaload, 1) := by decide +kernel
theorem dL_law_283 : decode cL_law 283 = .ok (.i2l, 1) := by decide +kernel
theorem dL_law_284 : decode cL_law 284 = .ok (.ldc2_w 18, 3) := by decide +kernel
theorem dL_law_287 : decode cL_law 287 = .ok (.land, 1) := by decide +kernel
theorem dL_law_288 : decode cL_law 288 = .ok (.lor, 1) := by decide +kernel
theorem dL_law_289 : decode cL_law 289 = .ok (.aload_n 0, 1) := by decide +kernel
theorem dL_law_290 : decode cL_law 290 = .ok (.iload_n 3, 1) := by decide +kernel
theorem dL_law_291 : decode cL_law 291 = .ok (.iconst 4, 1) := by decide +kernel
theorem dL_law_292 : decode cL_law 292 = .ok (.iadd, 1) := by decide +kernel
theorem dL_law_293 : decode cL_law 293 = .ok (.iaload, 1) := by decide +kernel
theorem dL_law_294 : decode cL_law 294 = .ok (.invokevirtual 30, 3) := by decide +kernel
theorem dL_law_297 : decode cL_law 297 = .ok (.aload_n 2, 1) := by decide +kernel
theorem dL_law_298 : decode cL_law 298 = .ok (.aload_n 0, 1) := by decide +kernel
theorem dL_law_299 : decode cL_law 299 = .ok (.iload_n 3, 1) := by decide +kernel
theorem dL_law_300 : decode cL_law 300 = .ok (.iconst 1, 1) := by decide +kernel
theorem dL_law_301 : decode cL_law 301 = .ok (.iadd, 1) := by decide +kernel
theorem dL_law_302 : decode cL_law 302 = .ok (.iaload, 1) := by decide +kernel
theorem dL_law_303 : decode cL_law 303 = .ok (.aload_n 0, 1) := by decide +kernel
theorem dL_law_304 : decode cL_law 304 = .ok (.iload_n 3, 1) := by decide +kernel
theorem dL_law_305 : decode cL_law 305 = .ok (.iconst 2, 1) := by decide +kernel
theorem dL_law_306 : decode cL_law 306 = .ok (.iadd, 1) := by decide +kernel
theorem dL_law_307 : decode cL_law 307 = .ok (.iaload, 1) := by decide +kernel
theorem dL_law_308 : decode cL_law 308 = .ok (.i2l, 1) := by decide +kernel
theorem dL_law_309 : decode cL_law 309 = .ok (.bipush 32, 2) := by decide +kernel
theorem dL_law_311 : decode cL_law 311 = .ok (.lshl, 1) := by decide +kernel
theorem dL_law_312 : decode cL_law 312 = .ok (.aload_n 0, 1) := by decide +kernel
theorem dL_law_313 : decode cL_law 313 = .ok (.iload_n 3, 1) := by decide +kernel
theorem dL_law_314 : decode cL_law 314 = .ok (.iconst 3, 1) := by decide +kernel
theorem dL_law_315 : decode cL_law 315 = .ok (.iadd, 1) := by decide +kernel
theorem dL_law_316 : decode cL_law 316 = .ok (.iaload, 1) := by decide +kernel
theorem dL_law_317 : decode cL_law 317 = .ok (.i2l, 1) := by decide +kernel
theorem dL_law_318 : decode cL_law 318 = .ok (.ldc2_w 18, 3) := by decide +kernel
theorem dL_law_321 : decode cL_law 321 = .ok (.land, 1) := by decide +kernel
theorem dL_law_322 : decode cL_law 322 = .ok (.lor, 1) := by decide +kernel
theorem dL_law_323 : decode cL_law 323 = .ok (.aload_n 0, 1) := by decide +kernel
theorem dL_law_324 : decode cL_law 324 = .ok (.iload_n 3, 1) := by decide +kernel
theorem dL_law_325 : decode cL_law 325 = .ok (.iconst 4, 1) := by decide +kernel
theorem dL_law_326 : decode cL_law 326 = .ok (.iadd, 1) := by decide +kernel
theorem dL_law_327 : decode cL_law 327 = .ok (.iaload, 1) := by decide +kernel
theorem dL_law_328 : decode cL_law 328 = .ok (.invokevirtual 34, 3) := by decide +kernel
theorem dL_law_331 : decode cL_law 331 = .ok (.if_icmp .eq 227, 3) := by decide +kernel
theorem dL_law_334 : decode cL_law 334 = .ok (.iconst 0, 1) := by decide +kernel
theorem dL_law_335 : decode cL_law 335 = .ok (.ireturn, 1) := by decide +kernel
theorem dL_law_336 : decode cL_law 336 = .ok (.aload_n 1, 1) := by decide +kernel
theorem dL_law_337 : decode cL_law 337 = .ok (.aload_n 0, 1) := by decide +kernel
theorem dL_law_338 : decode cL_law 338 = .ok (.iload_n 3, 1) := by decide +kernel
theorem dL_law_339 : decode cL_law 339 = .ok (.iconst 1, 1) := by decide +kernel
theorem dL_law_340 : decode cL_law 340 = .ok (.iadd, 1) := by decide +kernel
theorem dL_law_341 : decode cL_law 341 = .ok (.iaload, 1) := by decide +kernel
theorem dL_law_342 : decode cL_law 342 = .ok (.aload_n 0, 1) := by decide +kernel
theorem dL_law_343 : decode cL_law 343 = .ok (.iload_n 3, 1) := by decide +kernel
theorem dL_law_344 : decode cL_law 344 = .ok (.iconst 2, 1) := by decide +kernel
theorem dL_law_345 : decode cL_law 345 = .ok (.iadd, 1) := by decide +kernel
theorem dL_law_346 : decode cL_law 346 = .ok (.iaload, 1) := by decide +kernel
theorem dL_law_347 : decode cL_law 347 = .ok (.i2l, 1) := by decide +kernel
theorem dL_law_348 : decode cL_law 348 = .ok (.bipush 32, 2) := by decide +kernel
theorem dL_law_350 : decode cL_law 350 = .ok (.lshl, 1) := by decide +kernel
theorem dL_law_351 : decode cL_law 351 = .ok (.aload_n 0, 1) := by decide +kernel
theorem dL_law_352 : decode cL_law 352 = .ok (.iload_n 3, 1) := by decide +kernel
theorem dL_law_353 : decode cL_law 353 = .ok (.iconst 3, 1) := by decide +kernel
theorem dL_law_354 : decode cL_law 354 = .ok (.iadd, 1) := by decide +kernel
theorem dL_law_355 : decode cL_law 355 = .ok (.iaload, 1) := by decide +kernel
theorem dL_law_356 : decode cL_law 356 = .ok (.i2l, 1) := by decide +kernel
theorem dL_law_357 : decode cL_law 357 = .ok (.ldc2_w 18, 3) := by decide +kernel
theorem dL_law_360 : decode cL_law 360 = .ok (.land, 1) := by decide +kernel
theorem dL_law_361 : decode cL_law 361 = .ok (.lor, 1) := by decide +kernel
theorem dL_law_362 : decode cL_law 362 = .ok (.aload_n 0, 1) := by decide +kernel
theorem dL_law_363 : decode cL_law 363 = .ok (.iload_n 3, 1) := by decide +kernel
theorem dL_law_364 : decode cL_law 364 = .ok (.iconst 4, 1) := by decide +kernel
theorem dL_law_365 : decode cL_law 365 = .ok (.iadd, 1) := by decide +kernel
theorem dL_law_366 : decode cL_law 366 = .ok (.iaload, 1) := by decide +kernel
theorem dL_law_367 : decode cL_law 367 = .ok (.invokevirtual 35, 3) := by decide +kernel
theorem dL_law_370 : decode cL_law 370 = .ok (.aload_n 2, 1) := by decide +kernel
theorem dL_law_371 : decode cL_law 371 = .ok (.aload_n 0, 1) := by decide +kernel
theorem dL_law_372 : decode cL_law 372 = .ok (.iload_n 3, 1) := by decide +kernel
theorem dL_law_373 : decode cL_law 373 = .ok (.iconst 1, 1) := by decide +kernel
theorem dL_law_374 : decode cL_law 374 = .ok (.iadd, 1) := by decide +kernel
theorem dL_law_375 : decode cL_law 375 = .ok (.iaload, 1) := by decide +kernel
theorem dL_law_376 : decode cL_law 376 = .ok (.aload_n 0, 1) := by decide +kernel
theorem dL_law_377 : decode cL_law 377 = .ok (.iload_n 3, 1) := by decide +kernel
theorem dL_law_378 : decode cL_law 378 = .ok (.iconst 2, 1) := by decide +kernel
theorem dL_law_379 : decode cL_law 379 = .ok (.iadd, 1) := by decide +kernel
theorem dL_law_380 : decode cL_law 380 = .ok (.iaload, 1) := by decide +kernel
theorem dL_law_381 : decode cL_law 381 = .ok (.i2l, 1) := by decide +kernel
theorem dL_law_382 : decode cL_law 382 = .ok (.bipush 32, 2) := by decide +kernel
theorem dL_law_384 : decode cL_law 384 = .ok (.lshl, 1) := by decide +kernel
theorem dL_law_385 : decode cL_law 385 = .ok (.aload_n 0, 1) := by decide +kernel
theorem dL_law_386 : decode cL_law 386 = .ok (.iload_n 3, 1) := by decide +kernel
theorem dL_law_387 : decode cL_law 387 = .ok (.iconst 3, 1) := by decide +kernel
theorem dL_law_388 : decode cL_law 388 = .ok (.iadd, 1) := by decide +kernel
theorem dL_law_389 : decode cL_law 389 = .ok (.iaload, 1) := by decide +kernel
theorem dL_law_390 : decode cL_law 390 = .ok (.i2l, 1) := by decide +kernel
theorem dL_law_391 : decode cL_law 391 = .ok (.ldc2_w 18, 3) := by decide +kernel
theorem dL_law_394 : decode cL_law 394 = .ok (.land, 1) := by decide +kernel
theorem dL_law_395 : decode cL_law 395 = .ok (.lor, 1) := by decide +kernel
theorem dL_law_396 : decode cL_law 396 = .ok (.aload_n 0, 1) := by decide +kernel
theorem dL_law_397 : decode cL_law 397 = .ok (.iload_n 3, 1) := by decide +kernel
theorem dL_law_398 : decode cL_law 398 = .ok (.iconst 4, 1) := by decide +kernel
theorem dL_law_399 : decode cL_law 399 = .ok (.iadd, 1) := by decide +kernel
theorem dL_law_400 : decode cL_law 400 = .ok (.iaload, 1) := by decide +kernel
theorem dL_law_401 : decode cL_law 401 = .ok (.invokevirtual 38, 3) := by decide +kernel
theorem dL_law_404 : decode cL_law 404 = .ok (.if_icmp .eq 154, 3) := by decide +kernel
theorem dL_law_407 : decode cL_law 407 = .ok (.iconst 0, 1) := by decide +kernel
theorem dL_law_408 : decode cL_law 408 = .ok (.ireturn, 1) := by decide +kernel
theorem dL_law_409 : decode cL_law 409 = .ok (.aload_n 1, 1) := by decide +kernel
theorem dL_law_410 : decode cL_law 410 = .ok (.invokevirtual 39, 3) := by decide +kernel
theorem dL_law_413 : decode cL_law 413 = .ok (.aload_n 2, 1) := by decide +kernel
theorem dL_law_414 : decode cL_law 414 = .ok (.invokevirtual 43, 3) := by decide +kernel
theorem dL_law_417 : decode cL_law 417 = .ok (.lcmp, 1) := by decide +kernel
theorem dL_law_418 : decode cL_law 418 = .ok (.ifCond .eq 140, 3) := by decide +kernel
theorem dL_law_421 : decode cL_law 421 = .ok (.iconst 0, 1) := by decide +kernel
theorem dL_law_422 : decode cL_law 422 = .ok (.ireturn, 1) := by decide +kernel
theorem dL_law_423 : decode cL_law 423 = .ok (.aload_n 1, 1) := by decide +kernel
theorem dL_law_424 : decode cL_law 424 = .ok (.aload_n 0, 1) := by decide +kernel
theorem dL_law_425 : decode cL_law 425 = .ok (.iload_n 3, 1) := by decide +kernel
theorem dL_law_426 : decode cL_law 426 = .ok (.iconst 1, 1) := by decide +kernel
theorem dL_law_427 : decode cL_law 427 = .ok (.iadd, 1) := by decide +kernel
theorem dL_law_428 : decode cL_law 428 = .ok (.iaload, 1) := by decide +kernel
theorem dL_law_429 : decode cL_law 429 = .ok (.invokevirtual 44, 3) := by decide +kernel
theorem dL_law_432 : decode cL_law 432 = .ok (.aload_n 2, 1) := by decide +kernel
theorem dL_law_433 : decode cL_law 433 = .ok (.aload_n 0, 1) := by decide +kernel
theorem dL_law_434 : decode cL_law 434 = .ok (.iload_n 3, 1) := by decide +kernel
theorem dL_law_435 : decode cL_law 435 = .ok (.iconst 1, 1) := by decide +kernel
theorem dL_law_436 : decode cL_law 436 = .ok (.iadd, 1) := by decide +kernel
theorem dL_law_437 : decode cL_law 437 = .ok (.iaload, 1) := by decide +kernel
theorem dL_law_438 : decode cL_law 438 = .ok (.invokevirtual 48, 3) := by decide +kernel
theorem dL_law_441 : decode cL_law 441 = .ok (.if_icmp .eq 117, 3) := by decide +kernel
theorem dL_law_444 : decode cL_law 444 = .ok (.iconst 0, 1) := by decide +kernel
theorem dL_law_445 : decode cL_law 445 = .ok (.ireturn, 1) := by decide +kernel
theorem dL_law_446 : decode cL_law 446 = .ok (.aload_n 1, 1) := by decide +kernel
theorem dL_law_447 : decode cL_law 447 = .ok (.aload_n 0, 1) := by decide +kernel
theorem dL_law_448 : decode cL_law 448 = .ok (.iload_n 3, 1) := by decide +kernel
theorem dL_law_449 : decode cL_law 449 = .ok (.iconst 1, 1) := by decide +kernel
theorem dL_law_450 : decode cL_law 450 = .ok (.iadd, 1) := by decide +kernel
theorem dL_law_451 : decode cL_law 451 = .ok (.iaload, 1) := by decide +kernel
theorem dL_law_452 : decode cL_law 452 = .ok (.invokevirtual 49, 3) := by decide +kernel
theorem dL_law_455 : decode cL_law 455 = .ok (.aload_n 2, 1) := by decide +kernel
theorem dL_law_456 : decode cL_law 456 = .ok (.aload_n 0, 1) := by decide +kernel
theorem dL_law_457 : decode cL_law 457 = .ok (.iload_n 3, 1) := by decide +kernel
theorem dL_law_458 : decode cL_law 458 = .ok (.iconst 1, 1) := by decide +kernel
theorem dL_law_459 : decode cL_law 459 = .ok (.iadd, 1) := by decide +kernel
theorem dL_law_460 : decode cL_law 460 = .ok (.iaload, 1) := by decide +kernel
theorem dL_law_461 : decode cL_law 461 = .ok (.invokevirtual 52, 3) := by decide +kernel
theorem dL_law_464 : decode cL_law 464 = .ok (.if_icmp .eq 94, 3) := by decide +kernel
theorem dL_law_467 : decode cL_law 467 = .ok (.iconst 0, 1) := by decide +kernel
theorem dL_law_468 : decode cL_law 468 = .ok (.ireturn, 1) := by decide +kernel
theorem dL_law_469 : decode cL_law 469 = .ok (.aload_n 1, 1) := by decide +kernel
theorem dL_law_470 : decode cL_law 470 = .ok (.aload_n 0, 1) := by decide +kernel
theorem dL_law_471 : decode cL_law 471 = .ok (.iload_n 3, 1) := by decide +kernel
theorem dL_law_472 : decode cL_law 472 = .ok (.iconst 1, 1) := by decide +kernel
theorem dL_law_473 : decode cL_law 473 = .ok (.iadd, 1) := by decide +kernel
theorem dL_law_474 : decode cL_law 474 = .ok (.iaload, 1) := by decide +kernel
theorem dL_law_475 : decode cL_law 475 = .ok (.aload_n 0, 1) := by decide +kernel
theorem dL_law_476 : decode cL_law 476 = .ok (.iload_n 3, 1) := by decide +kernel
theorem dL_law_477 : decode cL_law 477 = .ok (.iconst 2, 1) := by decide +kernel
theorem dL_law_478 : decode cL_law 478 = .ok (.iadd, 1) := by decide +kernel
theorem dL_law_479 : decode cL_law 479 = .ok (.iaload, 1) := by decide +kernel
theorem dL_law_480 : decode cL_law 480 = .ok (.aload_n 0, 1) := by decide +kernel
theorem dL_law_481 : decode cL_law 481 = .ok (.iload_n 3, 1) := by decide +kernel
theorem dL_law_482 : decode cL_law 482 = .ok (.iconst 3, 1) := by decide +kernel
theorem dL_law_483 : decode cL_law 483 = .ok (.iadd, 1) := by decide +kernel
theorem dL_law_484 : decode cL_law 484 = .ok (.iaload, 1) := by decide +kernel
theorem dL_law_485 : decode cL_law 485 = .ok (.invokevirtual 53, 3) := by decide +kernel
theorem dL_law_488 : decode cL_law 488 = .ok (.aload_n 2, 1) := by decide +kernel
theorem dL_law_489 : decode cL_law 489 = .ok (.aload_n 0, 1) := by decide +kernel
theorem dL_law_490 : decode cL_law 490 = .ok (.iload_n 3, 1) := by decide +kernel
theorem dL_law_491 : decode cL_law 491 = .ok (.iconst 1, 1) := by decide +kernel
theorem dL_law_492 : decode cL_law 492 = .ok (.iadd, 1) := by decide +kernel
theorem dL_law_493 : decode cL_law 493 = .ok (.iaload, 1) := by decide +kernel
theorem dL_law_494 : decode cL_law 494 = .ok (.aload_n 0, 1) := by decide +kernel
theorem dL_law_495 : decode cL_law 495 = .ok (.iload_n 3, 1) := by decide +kernel
theorem dL_law_496 : decode cL_law 496 = .ok (.iconst 2, 1) := by decide +kernel
theorem dL_law_497 : decode cL_law 497 = .ok (.iadd, 1) := by decide +kernel
theorem dL_law_498 : decode cL_law 498 = .ok (.iaload, 1) := by decide +kernel
theorem dL_law_499 : decode cL_law 499 = .ok (.aload_n 0, 1) := by decide +kernel
theorem dL_law_500 : decode cL_law 500 = .ok (.iload_n 3, 1) := by decide +kernel
theorem dL_law_501 : decode cL_law 501 = .ok (.iconst 3, 1) := by decide +kernel
theorem dL_law_502 : decode cL_law 502 = .ok (.iadd, 1) := by decide +kernel
theorem dL_law_503 : decode cL_law 503 = .ok (.iaload, 1) := by decide +kernel
theorem dL_law_504 : decode cL_law 504 = .ok (.invokevirtual 57, 3) := by decide +kernel
theorem dL_law_507 : decode cL_law 507 = .ok (.if_icmp .eq 51, 3) := by decide +kernel
theorem dL_law_510 : decode cL_law 510 = .ok (.iconst 0, 1) := by decide +kernel
theorem dL_law_511 : decode cL_law 511 = .ok (.ireturn, 1) := by decide +kernel
theorem dL_law_512 : decode cL_law 512 = .ok (.aload_n 1, 1) := by decide +kernel
theorem dL_law_513 : decode cL_law 513 = .ok (.aload_n 0, 1) := by decide +kernel
theorem dL_law_514 : decode cL_law 514 = .ok (.iload_n 3, 1) := by decide +kernel
theorem dL_law_515 : decode cL_law 515 = .ok (.iconst 1, 1) := by decide +kernel
theorem dL_law_516 : decode cL_law 516 = .ok (.iadd, 1) := by decide +kernel
theorem dL_law_517 : decode cL_law 517 = .ok (.iaload, 1) := by decide +kernel
theorem dL_law_518 : decode cL_law 518 = .ok (.aload_n 0, 1) := by decide +kernel
theorem dL_law_519 : decode cL_law 519 = .ok (.iload_n 3, 1) := by decide +kernel
theorem dL_law_520 : decode cL_law 520 = .ok (.iconst 2, 1) := by decide +kernel
theorem dL_law_521 : decode cL_law 521 = .ok (.iadd, 1) := by decide +kernel
theorem dL_law_522 : decode cL_law 522 = .ok (.iaload, 1) := by decide +kernel
theorem dL_law_523 : decode cL_law 523 = .ok (.invokevirtual 58, 3) := by decide +kernel
theorem dL_law_526 : decode cL_law 526 = .ok (.aload_n 2, 1) := by decide +kernel
theorem dL_law_527 : decode cL_law 527 = .ok (.aload_n 0, 1) := by decide +kernel
theorem dL_law_528 : decode cL_law 528 = .ok (.iload_n 3, 1) := by decide +kernel
theorem dL_law_529 : decode cL_law 529 = .ok (.iconst 1, 1) := by decide +kernel
theorem dL_law_530 : decode cL_law 530 = .ok (.iadd, 1) := by decide +kernel
theorem dL_law_531 : decode cL_law 531 = .ok (.iaload, 1) := by decide +kernel
theorem dL_law_532 : decode cL_law 532 = .ok (.aload_n 0, 1) := by decide +kernel
theorem dL_law_533 : decode cL_law 533 = .ok (.iload_n 3, 1) := by decide +kernel
theorem dL_law_534 : decode cL_law 534 = .ok (.iconst 2, 1) := by decide +kernel
theorem dL_law_535 : decode cL_law 535 = .ok (.iadd, 1) := by decide +kernel
theorem dL_law_536 : decode cL_law 536 = .ok (.iaload, 1) := by decide +kernel
theorem dL_law_537 : decode cL_law 537 = .ok (.invokevirtual 62, 3) := by decide +kernel
theorem dL_law_540 : decode cL_law 540 = .ok (.if_icmp .eq 18, 3) := by decide +kernel
theorem dL_law_543 : decode cL_law 543 = .ok (.iconst 0, 1) := by decide +kernel
theorem dL_law_544 : decode cL_law 544 = .ok (.ireturn, 1) := by decide +kernel
theorem dL_law_545 : decode cL_law 545 = .ok (.aload_n 1, 1) := by decide +kernel
theorem dL_law_546 : decode cL_law 546 = .ok (.invokevirtual 63, 3) := by decide +kernel
theorem dL_law_549 : decode cL_law 549 = .ok (.aload_n 2, 1) := by decide +kernel
theorem dL_law_550 : decode cL_law 550 = .ok (.invokevirtual 66, 3) := by decide +kernel
theorem dL_law_553 : decode cL_law 553 = .ok (.if_icmp .eq 5, 3) := by decide +kernel
theorem dL_law_556 : decode cL_law 556 = .ok (.iconst 0, 1) := by decide +kernel
theorem dL_law_557 : decode cL_law 557 = .ok (.ireturn, 1) := by decide +kernel
theorem dL_law_558 : decode cL_law 558 = .ok (.iinc 3 7, 3) := by decide +kernel
theorem dL_law_561 : decode cL_law 561 = .ok (.goto (-543), 3) := by decide +kernel
theorem dL_law_564 : decode cL_law 564 = .ok (.iconst 1, 1) := by decide +kernel
theorem dL_law_565 : decode cL_law 565 = .ok (.ireturn, 1) := by decide +kernel
