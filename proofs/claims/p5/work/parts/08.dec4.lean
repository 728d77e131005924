/-! decode rows (printed) -/
theorem dX12_hears_131 : decode cX12_hears 131 = .ok (.iload 5, 2) := by decide +kernel
theorem dX12_hears_133 : decode cX12_hears 133 = .ok (.aload_n 0, 1) := by decide +kernel
theorem dX12_hears_134 : decode cX12_hears 134 = .ok (.iload_n 1, 1) := by decide +kernel
theorem dX12_hears_135 : decode cX12_hears 135 = .ok (.iconst 2, 1) := by decide +kernel
theorem dX12_hears_136 : decode cX12_hears 136 = .ok (.invokevirtual 99, 3) := by decide +kernel
theorem dX12_hears_139 : decode cX12_hears 139 = .ok (.invokestatic 146, 3) := by decide +kernel
theorem dX12_hears_142 : decode cX12_hears 142 = .ok (.if_icmp .ge 26, 3) := by decide +kernel
theorem dX12_hears_145 : decode cX12_hears 145 = .ok (.aload_n 0, 1) := by decide +kernel
theorem dX12_hears_146 : decode cX12_hears 146 = .ok (.iload_n 1, 1) := by decide +kernel
theorem dX12_hears_147 : decode cX12_hears 147 = .ok (.bipush 96, 2) := by decide +kernel
theorem dX12_hears_149 : decode cX12_hears 149 = .ok (.iload 6, 2) := by decide +kernel
theorem dX12_hears_151 : decode cX12_hears 151 = .ok (.bipush 64, 2) := by decide +kernel
theorem dX12_hears_153 : decode cX12_hears 153 = .ok (.irem, 1) := by decide +kernel
theorem dX12_hears_154 : decode cX12_hears 154 = .ok (.iadd, 1) := by decide +kernel
theorem dX12_hears_155 : decode cX12_hears 155 = .ok (.iload 6, 2) := by decide +kernel
theorem dX12_hears_157 : decode cX12_hears 157 = .ok (.iconst 1, 1) := by decide +kernel
theorem dX12_hears_158 : decode cX12_hears 158 = .ok (.iadd, 1) := by decide +kernel
theorem dX12_hears_159 : decode cX12_hears 159 = .ok (.invokevirtual 95, 3) := by decide +kernel
theorem dX12_hears_162 : decode cX12_hears 162 = .ok (.iinc 6 1, 3) := by decide +kernel
theorem dX12_hears_165 : decode cX12_hears 165 = .ok (.goto (-36), 3) := by decide +kernel
theorem dX12_hears_168 : decode cX12_hears 168 = .ok (.iinc 3 1, 3) := by decide +kernel
theorem dX12_hears_171 : decode cX12_hears 171 = .ok (.goto (-116), 3) := by decide +kernel
theorem dX12_hears_174 : decode cX12_hears 174 = .ok (.aload_n 0, 1) := by decide +kernel
theorem dX12_hears_175 : decode cX12_hears 175 = .ok (.iload_n 1, 1) := by decide +kernel
theorem dX12_hears_176 : decode cX12_hears 176 = .ok (.iconst 3, 1) := by decide +kernel
theorem dX12_hears_177 : decode cX12_hears 177 = .ok (.aload_n 0, 1) := by decide +kernel
theorem dX12_hears_178 : decode cX12_hears 178 = .ok (.iload_n 1, 1) := by decide +kernel
theorem dX12_hears_179 : decode cX12_hears 179 = .ok (.iconst 3, 1) := by decide +kernel
theorem dX12_hears_180 : decode cX12_hears 180 = .ok (.invokevirtual 99, 3) := by decide +kernel
theorem dX12_hears_183 : decode cX12_hears 183 = .ok (.iload_n 2, 1) := by decide +kernel
theorem dX12_hears_184 : decode cX12_hears 184 = .ok (.aload_n 0, 1) := by decide +kernel
theorem dX12_hears_185 : decode cX12_hears 185 = .ok (.getfield 19, 3) := by decide +kernel
theorem dX12_hears_188 : decode cX12_hears 188 = .ok (.iconst 4, 1) := by decide +kernel
theorem dX12_hears_189 : decode cX12_hears 189 = .ok (.iaload, 1) := by decide +kernel
theorem dX12_hears_190 : decode cX12_hears 190 = .ok (.iadd, 1) := by decide +kernel
theorem dX12_hears_191 : decode cX12_hears 191 = .ok (.invokestatic 103, 3) := by decide +kernel
theorem dX12_hears_194 : decode cX12_hears 194 = .ok (.invokevirtual 95, 3) := by decide +kernel
theorem dX12_hears_197 : decode cX12_hears 197 = .ok (.return_, 1) := by decide +kernel
theorem dX12_isWanted_0 : decode cX12_isWanted 0 = .ok (.iload_n 2, 1) := by decide +kernel
theorem dX12_isWanted_1 : decode cX12_isWanted 1 = .ok (.i2l, 1) := by decide +kernel
theorem dX12_isWanted_2 : decode cX12_isWanted 2 = .ok (.aload_n 0, 1) := by decide +kernel
theorem dX12_isWanted_3 : decode cX12_isWanted 3 = .ok (.iload_n 1, 1) := by decide +kernel
theorem dX12_isWanted_4 : decode cX12_isWanted 4 = .ok (.iconst 5, 1) := by decide +kernel
theorem dX12_isWanted_5 : decode cX12_isWanted 5 = .ok (.invokevirtual 99, 3) := by decide +kernel
theorem dX12_isWanted_8 : decode cX12_isWanted 8 = .ok (.i2l, 1) := by decide +kernel
theorem dX12_isWanted_9 : decode cX12_isWanted 9 = .ok (.aload_n 0, 1) := by decide +kernel
theorem dX12_isWanted_10 : decode cX12_isWanted 10 = .ok (.iload_n 1, 1) := by decide +kernel
theorem dX12_isWanted_11 : decode cX12_isWanted 11 = .ok (.bipush 7, 2) := by decide +kernel
theorem dX12_isWanted_13 : decode cX12_isWanted 13 = .ok (.invokevirtual 99, 3) := by decide +kernel
theorem dX12_isWanted_16 : decode cX12_isWanted 16 = .ok (.iconst 1, 1) := by decide +kernel
theorem dX12_isWanted_17 : decode cX12_isWanted 17 = .ok (.isub, 1) := by decide +kernel
theorem dX12_isWanted_18 : decode cX12_isWanted 18 = .ok (.i2l, 1) := by decide +kernel
theorem dX12_isWanted_19 : decode cX12_isWanted 19 = .ok (.invokestatic 54, 3) := by decide +kernel
theorem dX12_isWanted_22 : decode cX12_isWanted 22 = .ok (.ireturn, 1) := by decide +kernel
theorem dX12_fits_0 : decode cX12_fits 0 = .ok (.aload_n 0, 1) := by decide +kernel
theorem dX12_fits_1 : decode cX12_fits 1 = .ok (.invokevirtual 136, 3) := by decide +kernel
theorem dX12_fits_4 : decode cX12_fits 4 = .ok (.istore_n 3, 1) := by decide +kernel
theorem dX12_fits_5 : decode cX12_fits 5 = .ok (.iload_n 3, 1) := by decide +kernel
theorem dX12_fits_6 : decode cX12_fits 6 = .ok (.ifCond .ne 26, 3) := by decide +kernel
theorem dX12_fits_9 : decode cX12_fits 9 = .ok (.iload_n 2, 1) := by decide +kernel
theorem dX12_fits_10 : decode cX12_fits 10 = .ok (.aload_n 0, 1) := by decide +kernel
theorem dX12_fits_11 : decode cX12_fits 11 = .ok (.iload_n 1, 1) := by decide +kernel
theorem dX12_fits_12 : decode cX12_fits 12 = .ok (.iconst 5, 1) := by decide +kernel
theorem dX12_fits_13 : decode cX12_fits 13 = .ok (.invokevirtual 99, 3) := by decide +kernel
theorem dX12_fits_16 : decode cX12_fits 16 = .ok (.if_icmp .eq 12, 3) := by decide +kernel
theorem dX12_fits_19 : decode cX12_fits 19 = .ok (.aload_n 0, 1) := by decide +kernel
theorem dX12_fits_20 : decode cX12_fits 20 = .ok (.iload_n 1, 1) := by decide +kernel
theorem dX12_fits_21 : decode cX12_fits 21 = .ok (.iload_n 2, 1) := by decide +kernel
theorem dX12_fits_22 : decode cX12_fits 22 = .ok (.invokevirtual 218, 3) := by decide +kernel
theorem dX12_fits_25 : decode cX12_fits 25 = .ok (.ifCond .eq 7, 3) := by decide +kernel
theorem dX12_fits_28 : decode cX12_fits 28 = .ok (.iconst 1, 1) := by decide +kernel
theorem dX12_fits_29 : decode cX12_fits 29 = .ok (.goto 4, 3) := by decide +kernel
theorem dX12_fits_32 : decode cX12_fits 32 = .ok (.iconst 0, 1) := by decide +kernel
theorem dX12_fits_33 : decode cX12_fits 33 = .ok (.istore 4, 2) := by decide +kernel
theorem dX12_fits_35 : decode cX12_fits 35 = .ok (.iconst 0, 1) := by decide +kernel
theorem dX12_fits_36 : decode cX12_fits 36 = .ok (.istore 5, 2) := by decide +kernel
theorem dX12_fits_38 : decode cX12_fits 38 = .ok (.iload 5, 2) := by decide +kernel
theorem dX12_fits_40 : decode cX12_fits 40 = .ok (.iload_n 3, 1) := by decide +kernel
theorem dX12_fits_41 : decode cX12_fits 41 = .ok (.if_icmp .ge 33, 3) := by decide +kernel
theorem dX12_fits_44 : decode cX12_fits 44 = .ok (.iload 4, 2) := by decide +kernel
theorem dX12_fits_46 : decode cX12_fits 46 = .ok (.ifCond .ne 15, 3) := by decide +kernel
theorem dX12_fits_49 : decode cX12_fits 49 = .ok (.aload_n 0, 1) := by decide +kernel
theorem dX12_fits_50 : decode cX12_fits 50 = .ok (.iload_n 1, 1) := by decide +kernel
theorem dX12_fits_51 : decode cX12_fits 51 = .ok (.iload_n 2, 1) := by decide +kernel
theorem dX12_fits_52 : decode cX12_fits 52 = .ok (.iload 5, 2) := by decide +kernel
theorem dX12_fits_54 : decode cX12_fits 54 = .ok (.iadd, 1) := by decide +kernel
theorem dX12_fits_55 : decode cX12_fits 55 = .ok (.invokevirtual 218, 3) := by decide +kernel
theorem dX12_fits_58 : decode cX12_fits 58 = .ok (.ifCond .eq 7, 3) := by decide +kernel
theorem dX12_fits_61 : decode cX12_fits 61 = .ok (.iconst 1, 1) := by decide +kernel
theorem dX12_fits_62 : decode cX12_fits 62 = .ok (.goto 4, 3) := by decide +kernel
theorem dX12_fits_65 : decode cX12_fits 65 = .ok (.iconst 0, 1) := by decide +kernel
theorem dX12_fits_66 : decode cX12_fits 66 = .ok (.istore 4, 2) := by decide +kernel
theorem dX12_fits_68 : decode cX12_fits 68 = .ok (.iinc 5 1, 3) := by decide +kernel
theorem dX12_fits_71 : decode cX12_fits 71 = .ok (.goto (-33), 3) := by decide +kernel
theorem dX12_fits_74 : decode cX12_fits 74 = .ok (.iload 4, 2) := by decide +kernel
theorem dX12_fits_76 : decode cX12_fits 76 = .ok (.ireturn, 1) := by decide +kernel
theorem dX12_keeps_0 : decode cX12_keeps 0 = .ok (.iconst 0, 1) := by decide +kernel
theorem dX12_keeps_1 : decode cX12_keeps 1 = .ok (.istore_n 3, 1) := by decide +kernel
theorem dX12_keeps_2 : decode cX12_keeps 2 = .ok (.iload_n 3, 1) := by decide +kernel
theorem dX12_keeps_3 : decode cX12_keeps 3 = .ok (.aload_n 0, 1) := by decide +kernel
theorem dX12_keeps_4 : decode cX12_keeps 4 = .ok (.getfield 19, 3) := by decide +kernel
theorem dX12_keeps_7 : decode cX12_keeps 7 = .ok (.iconst 5, 1) := by decide +kernel
theorem dX12_keeps_8 : decode cX12_keeps 8 = .ok (.iaload, 1) := by decide +kernel
theorem dX12_keeps_9 : decode cX12_keeps 9 = .ok (.if_icmp .ge 75, 3) := by decide +kernel
theorem dX12_keeps_12 : decode cX12_keeps 12 = .ok (.iload_n 2, 1) := by decide +kernel
theorem dX12_keeps_13 : decode cX12_keeps 13 = .ok (.iload_n 3, 1) := by decide +kernel
theorem dX12_keeps_14 : decode cX12_keeps 14 = .ok (.iadd, 1) := by decide +kernel
theorem dX12_keeps_15 : decode cX12_keeps 15 = .ok (.istore 4, 2) := by decide +kernel
theorem dX12_keeps_17 : decode cX12_keeps 17 = .ok (.aload_n 0, 1) := by decide +kernel
theorem dX12_keeps_18 : decode cX12_keeps 18 = .ok (.iload_n 1, 1) := by decide +kernel
theorem dX12_keeps_19 : decode cX12_keeps 19 = .ok (.iload 4, 2) := by decide +kernel
theorem dX12_keeps_21 : decode cX12_keeps 21 = .ok (.invokevirtual 218, 3) := by decide +kernel
theorem dX12_keeps_24 : decode cX12_keeps 24 = .ok (.ifCond .eq 54, 3) := by decide +kernel
theorem dX12_keeps_27 : decode cX12_keeps 27 = .ok (.aload_n 0, 1) := by decide +kernel
theorem dX12_keeps_28 : decode cX12_keeps 28 = .ok (.iload_n 1, 1) := by decide +kernel
theorem dX12_keeps_29 : decode cX12_keeps 29 = .ok (.iload 4, 2) := by decide +kernel
theorem dX12_keeps_31 : decode cX12_keeps 31 = .ok (.invokevirtual 118, 3) := by decide +kernel
theorem dX12_keeps_34 : decode cX12_keeps 34 = .ok (.ifCond .ne 44, 3) := by decide +kernel
theorem dX12_keeps_37 : decode cX12_keeps 37 = .ok (.aload_n 0, 1) := by decide +kernel
theorem dX12_keeps_38 : decode cX12_keeps 38 = .ok (.iload_n 1, 1) := by decide +kernel
theorem dX12_keeps_39 : decode cX12_keeps 39 = .ok (.sipush 160, 3) := by decide +kernel
theorem dX12_keeps_42 : decode cX12_keeps 42 = .ok (.iload 4, 2) := by decide +kernel
theorem dX12_keeps_44 : decode cX12_keeps 44 = .ok (.bipush 64, 2) := by decide +kernel
theorem dX12_keeps_46 : decode cX12_keeps 46 = .ok (.irem, 1) := by decide +kernel
theorem dX12_keeps_47 : decode cX12_keeps 47 = .ok (.iadd, 1) := by decide +kernel
theorem dX12_keeps_48 : decode cX12_keeps 48 = .ok (.iload 4, 2) := by decide +kernel
theorem dX12_keeps_50 : decode cX12_keeps 50 = .ok (.iconst 1, 1) := by decide +kernel
theorem dX12_keeps_51 : decode cX12_keeps 51 = .ok (.iadd, 1) := by decide +kernel
theorem dX12_keeps_52 : decode cX12_keeps 52 = .ok (.invokevirtual 95, 3) := by decide +kernel
theorem dX12_keeps_55 : decode cX12_keeps 55 = .ok (.aload_n 0, 1) := by decide +kernel
theorem dX12_keeps_56 : decode cX12_keeps 56 = .ok (.iload_n 1, 1) := by decide +kernel
theorem dX12_keeps_57 : decode cX12_keeps 57 = .ok (.sipush 224, 3) := by decide +kernel
theorem dX12_keeps_60 : decode cX12_keeps 60 = .ok (.iload 4, 2) := by decide +kernel
theorem dX12_keeps_62 : decode cX12_keeps 62 = .ok (.bipush 64, 2) := by decide +kernel
theorem dX12_keeps_64 : decode cX12_keeps 64 = .ok (.irem, 1) := by decide +kernel
theorem dX12_keeps_65 : decode cX12_keeps 65 = .ok (.iadd, 1) := by decide +kernel
theorem dX12_keeps_66 : decode cX12_keeps 66 = .ok (.aload_n 0, 1) := by decide +kernel
theorem dX12_keeps_67 : decode cX12_keeps 67 = .ok (.getfield 19, 3) := by decide +kernel
theorem dX12_keeps_70 : decode cX12_keeps 70 = .ok (.bipush 12, 2) := by decide +kernel
theorem dX12_keeps_72 : decode cX12_keeps 72 = .ok (.iload_n 3, 1) := by decide +kernel
theorem dX12_keeps_73 : decode cX12_keeps 73 = .ok (.iadd, 1) := by decide +kernel
theorem dX12_keeps_74 : decode cX12_keeps 74 = .ok (.iaload, 1) := by decide +kernel
theorem dX12_keeps_75 : decode cX12_keeps 75 = .ok (.invokevirtual 95, 3) := by decide +kernel
theorem dX12_keeps_78 : decode cX12_keeps 78 = .ok (.iinc 3 1, 3) := by decide +kernel
theorem dX12_keeps_81 : decode cX12_keeps 81 = .ok (.goto (-79), 3) := by decide +kernel
theorem dX12_keeps_84 : decode cX12_keeps 84 = .ok (.aload_n 0, 1) := by decide +kernel
theorem dX12_keeps_85 : decode cX12_keeps 85 = .ok (.iconst 2, 1) := by decide +kernel
theorem dX12_keeps_86 : decode cX12_keeps 86 = .ok (.invokevirtual 202, 3) := by decide +kernel
theorem dX12_keeps_89 : decode cX12_keeps 89 = .ok (.ifCond .eq 46, 3) := by decide +kernel
theorem dX12_keeps_92 : decode cX12_keeps 92 = .ok (.aload_n 0, 1) := by decide +kernel
theorem dX12_keeps_93 : decode cX12_keeps 93 = .ok (.iload_n 1, 1) := by decide +kernel
theorem dX12_keeps_94 : decode cX12_keeps 94 = .ok (.bipush 17, 2) := by decide +kernel
theorem dX12_keeps_96 : decode cX12_keeps 96 = .ok (.invokevirtual 99, 3) := by decide +kernel
theorem dX12_keeps_99 : decode cX12_keeps 99 = .ok (.bipush (-4), 2) := by decide +kernel
theorem dX12_keeps_101 : decode cX12_keeps 101 = .ok (.if_icmp .ne 34, 3) := by decide +kernel
theorem dX12_keeps_104 : decode cX12_keeps 104 = .ok (.aload_n 0, 1) := by decide +kernel
theorem dX12_keeps_105 : decode cX12_keeps 105 = .ok (.iload_n 1, 1) := by decide +kernel
theorem dX12_keeps_106 : decode cX12_keeps 106 = .ok (.iload_n 2, 1) := by decide +kernel
theorem dX12_keeps_107 : decode cX12_keeps 107 = .ok (.aload_n 0, 1) := by decide +kernel
theorem dX12_keeps_108 : decode cX12_keeps 108 = .ok (.getfield 19, 3) := by decide +kernel
theorem dX12_keeps_111 : decode cX12_keeps 111 = .ok (.iconst 5, 1) := by decide +kernel
theorem dX12_keeps_112 : decode cX12_keeps 112 = .ok (.iaload, 1) := by decide +kernel
theorem dX12_keeps_113 : decode cX12_keeps 113 = .ok (.iadd, 1) := by decide +kernel
theorem dX12_keeps_114 : decode cX12_keeps 114 = .ok (.invokevirtual 218, 3) := by decide +kernel
theorem dX12_keeps_117 : decode cX12_keeps 117 = .ok (.ifCond .eq 18, 3) := by decide +kernel
theorem dX12_keeps_120 : decode cX12_keeps 120 = .ok (.aload_n 0, 1) := by decide +kernel
theorem dX12_keeps_121 : decode cX12_keeps 121 = .ok (.iload_n 1, 1) := by decide +kernel
theorem dX12_keeps_122 : decode cX12_keeps 122 = .ok (.bipush 17, 2) := by decide +kernel
theorem dX12_keeps_124 : decode cX12_keeps 124 = .ok (.iload_n 2, 1) := by decide +kernel
theorem dX12_keeps_125 : decode cX12_keeps 125 = .ok (.aload_n 0, 1) := by decide +kernel
theorem dX12_keeps_126 : decode cX12_keeps 126 = .ok (.getfield 19, 3) := by decide +kernel
theorem dX12_keeps_129 : decode cX12_keeps 129 = .ok (.iconst 5, 1) := by decide +kernel
theorem dX12_keeps_130 : decode cX12_keeps 130 = .ok (.iaload, 1) := by decide +kernel
theorem dX12_keeps_131 : decode cX12_keeps 131 = .ok (.iadd, 1) := by decide +kernel
theorem dX12_keeps_132 : decode cX12_keeps 132 = .ok (.invokevirtual 95, 3) := by decide +kernel
theorem dX12_keeps_135 : decode cX12_keeps 135 = .ok (.aload_n 0, 1) := by decide +kernel
theorem dX12_keeps_136 : decode cX12_keeps 136 = .ok (.iload_n 1, 1) := by decide +kernel
theorem dX12_keeps_137 : decode cX12_keeps 137 = .ok (.aload_n 0, 1) := by decide +kernel
theorem dX12_keeps_138 : decode cX12_keeps 138 = .ok (.iload_n 1, 1) := by decide +kernel
theorem dX12_keeps_139 : decode cX12_keeps 139 = .ok (.iconst 5, 1) := by decide +kernel
theorem dX12_keeps_140 : decode cX12_keeps 140 = .ok (.invokevirtual 99, 3) := by decide +kernel
theorem dX12_keeps_143 : decode cX12_keeps 143 = .ok (.invokevirtual 118, 3) := by decide +kernel
theorem dX12_keeps_146 : decode cX12_keeps 146 = .ok (.ifCond .eq 20, 3) := by decide +kernel
theorem dX12_keeps_149 : decode cX12_keeps 149 = .ok (.aload_n 0, 1) := by decide +kernel
theorem dX12_keeps_150 : decode cX12_keeps 150 = .ok (.iload_n 1, 1) := by decide +kernel
theorem dX12_keeps_151 : decode cX12_keeps 151 = .ok (.iconst 5, 1) := by decide +kernel
theorem dX12_keeps_152 : decode cX12_keeps 152 = .ok (.aload_n 0, 1) := by decide +kernel
theorem dX12_keeps_153 : decode cX12_keeps 153 = .ok (.iload_n 1, 1) := by decide +kernel
theorem dX12_keeps_154 : decode cX12_keeps 154 = .ok (.iconst 5, 1) := by decide +kernel
theorem dX12_keeps_155 : decode cX12_keeps 155 = .ok (.invokevirtual 99, 3) := by decide +kernel
theorem dX12_keeps_158 : decode cX12_keeps 158 = .ok (.iconst 1, 1) := by decide +kernel
theorem dX12_keeps_159 : decode cX12_keeps 159 = .ok (.iadd, 1) := by decide +kernel
theorem dX12_keeps_160 : decode cX12_keeps 160 = .ok (.invokevirtual 95, 3) := by decide +kernel
theorem dX12_keeps_163 : decode cX12_keeps 163 = .ok (.goto (-28), 3) := by decide +kernel
theorem dX12_keeps_166 : decode cX12_keeps 166 = .ok (.aload_n 0, 1) := by decide +kernel
theorem dX12_keeps_167 : decode cX12_keeps 167 = .ok (.iload_n 1, 1) := by decide +kernel
theorem dX12_keeps_168 : decode cX12_keeps 168 = .ok (.iconst 5, 1) := by decide +kernel
theorem dX12_keeps_169 : decode cX12_keeps 169 = .ok (.invokevirtual 99, 3) := by decide +kernel
theorem dX12_keeps_172 : decode cX12_keeps 172 = .ok (.aload_n 0, 1) := by decide +kernel
theorem dX12_keeps_173 : decode cX12_keeps 173 = .ok (.iload_n 1, 1) := by decide +kernel
theorem dX12_keeps_174 : decode cX12_keeps 174 = .ok (.bipush 17, 2) := by decide +kernel
theorem dX12_keeps_176 : decode cX12_keeps 176 = .ok (.invokevirtual 99, 3) := by decide +kernel
theorem dX12_keeps_179 : decode cX12_keeps 179 = .ok (.if_icmp .ne 52, 3) := by decide +kernel
theorem dX12_keeps_182 : decode cX12_keeps 182 = .ok (.aload_n 0, 1) := by decide +kernel
theorem dX12_keeps_183 : decode cX12_keeps 183 = .ok (.iload_n 1, 1) := by decide +kernel
theorem dX12_keeps_184 : decode cX12_keeps 184 = .ok (.iconst 5, 1) := by decide +kernel
theorem dX12_keeps_185 : decode cX12_keeps 185 = .ok (.aload_n 0, 1) := by decide +kernel
theorem dX12_keeps_186 : decode cX12_keeps 186 = .ok (.iload_n 1, 1) := by decide +kernel
theorem dX12_keeps_187 : decode cX12_keeps 187 = .ok (.iconst 5, 1) := by decide +kernel
theorem dX12_keeps_188 : decode cX12_keeps 188 = .ok (.invokevirtual 99, 3) := by decide +kernel
theorem dX12_keeps_191 : decode cX12_keeps 191 = .ok (.iconst 1, 1) := by decide +kernel
theorem dX12_keeps_192 : decode cX12_keeps 192 = .ok (.iadd, 1) := by decide +kernel
theorem dX12_keeps_193 : decode cX12_keeps 193 = .ok (.invokevirtual 95, 3) := by decide +kernel
theorem dX12_keeps_196 : decode cX12_keeps 196 = .ok (.aload_n 0, 1) := by decide +kernel
theorem dX12_keeps_197 : decode cX12_keeps 197 = .ok (.iload_n 1, 1) := by decide +kernel
theorem dX12_keeps_198 : decode cX12_keeps 198 = .ok (.iconst 0, 1) := by decide +kernel
theorem dX12_keeps_199 : decode cX12_keeps 199 = .ok (.invokevirtual 99, 3) := by decide +kernel
theorem dX12_keeps_202 : decode cX12_keeps 202 = .ok (.istore_n 3, 1) := by decide +kernel
theorem dX12_keeps_203 : decode cX12_keeps 203 = .ok (.aload_n 0, 1) := by decide +kernel
theorem dX12_keeps_204 : decode cX12_keeps 204 = .ok (.iload_n 1, 1) := by decide +kernel
theorem dX12_keeps_205 : decode cX12_keeps 205 = .ok (.iconst 0, 1) := by decide +kernel
theorem dX12_keeps_206 : decode cX12_keeps 206 = .ok (.iload_n 3, 1) := by decide +kernel
theorem dX12_keeps_207 : decode cX12_keeps 207 = .ok (.iconst 4, 1) := by decide +kernel
theorem dX12_keeps_208 : decode cX12_keeps 208 = .ok (.if_icmp .ne 8, 3) := by decide +kernel
theorem dX12_keeps_211 : decode cX12_keeps 211 = .ok (.bipush 7, 2) := by decide +kernel
theorem dX12_keeps_213 : decode cX12_keeps 213 = .ok (.goto 15, 3) := by decide +kernel
theorem dX12_keeps_216 : decode cX12_keeps 216 = .ok (.iload_n 3, 1) := by decide +kernel
theorem dX12_keeps_217 : decode cX12_keeps 217 = .ok (.iconst 5, 1) := by decide +kernel
theorem dX12_keeps_218 : decode cX12_keeps 218 = .ok (.if_icmp .ne 8, 3) := by decide +kernel
theorem dX12_keeps_221 : decode cX12_keeps 221 = .ok (.bipush 8, 2) := by decide +kernel
theorem dX12_keeps_223 : decode cX12_keeps 223 = .ok (.goto 5, 3) := by decide +kernel
theorem dX12_keeps_226 : decode cX12_keeps 226 = .ok (.bipush 10, 2) := by decide +kernel
theorem dX12_keeps_228 : decode cX12_keeps 228 = .ok (.invokevirtual 95, 3) := by decide +kernel
theorem dX12_keeps_231 : decode cX12_keeps 231 = .ok (.return_, 1) := by decide +kernel
theorem dX12_takesIn_0 : decode cX12_takesIn 0 = .ok (.aload_n 0, 1) := by decide +kernel
theorem dX12_takesIn_1 : decode cX12_takesIn 1 = .ok (.iload_n 1, 1) := by decide +kernel
theorem dX12_takesIn_2 : decode cX12_takesIn 2 = .ok (.iconst 0, 1) := by decide +kernel
theorem dX12_takesIn_3 : decode cX12_takesIn 3 = .ok (.aload_n 0, 1) := by decide +kernel
theorem dX12_takesIn_4 : decode cX12_takesIn 4 = .ok (.iload_n 1, 1) := by decide +kernel
theorem dX12_takesIn_5 : decode cX12_takesIn 5 = .ok (.iconst 0, 1) := by decide +kernel
theorem dX12_takesIn_6 : decode cX12_takesIn 6 = .ok (.invokevirtual 99, 3) := by decide +kernel
theorem dX12_takesIn_9 : decode cX12_takesIn 9 = .ok (.iconst 3, 1) := by decide +kernel
theorem dX12_takesIn_10 : decode cX12_takesIn 10 = .ok (.if_icmp .ne 7, 3) := by decide +kernel
theorem dX12_takesIn_13 : decode cX12_takesIn 13 = .ok (.iconst 4, 1) := by decide +kernel
theorem dX12_takesIn_14 : decode cX12_takesIn 14 = .ok (.goto 9, 3) := by decide +kernel
theorem dX12_takesIn_17 : decode cX12_takesIn 17 = .ok (.aload_n 0, 1) := by decide +kernel
theorem dX12_takesIn_18 : decode cX12_takesIn 18 = .ok (.iload_n 1, 1) := by decide +kernel
theorem dX12_takesIn_19 : decode cX12_takesIn 19 = .ok (.iconst 0, 1) := by decide +kernel
theorem dX12_takesIn_20 : decode cX12_takesIn 20 = .ok (.invokevirtual 99, 3) := by decide +kernel
theorem dX12_takesIn_23 : decode cX12_takesIn 23 = .ok (.invokevirtual 95, 3) := by decide +kernel
theorem dX12_takesIn_26 : decode cX12_takesIn 26 = .ok (.aload_n 0, 1) := by decide +kernel
theorem dX12_takesIn_27 : decode cX12_takesIn 27 = .ok (.iload_n 1, 1) := by decide +kernel
theorem dX12_takesIn_28 : decode cX12_takesIn 28 = .ok (.iconst 0, 1) := by decide +kernel
theorem dX12_takesIn_29 : decode cX12_takesIn 29 = .ok (.invokevirtual 99, 3) := by decide +kernel
theorem dX12_takesIn_32 : decode cX12_takesIn 32 = .ok (.bipush 10, 2) := by decide +kernel
theorem dX12_takesIn_34 : decode cX12_takesIn 34 = .ok (.if_icmp .ne 7, 3) := by decide +kernel
theorem dX12_takesIn_37 : decode cX12_takesIn 37 = .ok (.iconst 1, 1) := by decide +kernel
theorem dX12_takesIn_38 : decode cX12_takesIn 38 = .ok (.goto 4, 3) := by decide +kernel
theorem dX12_takesIn_41 : decode cX12_takesIn 41 = .ok (.iconst 0, 1) := by decide +kernel
theorem dX12_takesIn_42 : decode cX12_takesIn 42 = .ok (.istore 4, 2) := by decide +kernel
theorem dX12_takesIn_44 : decode cX12_takesIn 44 = .ok (.aload_n 0, 1) := by decide +kernel
theorem dX12_takesIn_45 : decode cX12_takesIn 45 = .ok (.iload_n 1, 1) := by decide +kernel
theorem dX12_takesIn_46 : decode cX12_takesIn 46 = .ok (.iload_n 3, 1) := by decide +kernel
theorem dX12_takesIn_47 : decode cX12_takesIn 47 = .ok (.invokevirtual 212, 3) := by decide +kernel
theorem dX12_takesIn_50 : decode cX12_takesIn 50 = .ok (.aload_n 0, 1) := by decide +kernel
theorem dX12_takesIn_51 : decode cX12_takesIn 51 = .ok (.iload_n 1, 1) := by decide +kernel
theorem dX12_takesIn_52 : decode cX12_takesIn 52 = .ok (.invokevirtual 221, 3) := by decide +kernel
theorem dX12_takesIn_55 : decode cX12_takesIn 55 = .ok (.ifCond .eq 73, 3) := by decide +kernel
theorem dX12_takesIn_58 : decode cX12_takesIn 58 = .ok (.aload_n 0, 1) := by decide +kernel
theorem dX12_takesIn_59 : decode cX12_takesIn 59 = .ok (.iload_n 1, 1) := by decide +kernel
theorem dX12_takesIn_60 : decode cX12_takesIn 60 = .ok (.iconst 1, 1) := by decide +kernel
theorem dX12_takesIn_61 : decode cX12_takesIn 61 = .ok (.invokevirtual 99, 3) := by decide +kernel
theorem dX12_takesIn_64 : decode cX12_takesIn 64 = .ok (.aload_n 0, 1) := by decide +kernel
theorem dX12_takesIn_65 : decode cX12_takesIn 65 = .ok (.iload_n 1, 1) := by decide +kernel
theorem dX12_takesIn_66 : decode cX12_takesIn 66 = .ok (.iconst 4, 1) := by decide +kernel
theorem dX12_takesIn_67 : decode cX12_takesIn 67 = .ok (.invokevirtual 99, 3) := by decide +kernel
theorem dX12_takesIn_70 : decode cX12_takesIn 70 = .ok (.iconst 1, 1) := by decide +kernel
theorem dX12_takesIn_71 : decode cX12_takesIn 71 = .ok (.iadd, 1) := by decide +kernel
theorem dX12_takesIn_72 : decode cX12_takesIn 72 = .ok (.if_icmp .le 56, 3) := by decide +kernel
theorem dX12_takesIn_75 : decode cX12_takesIn 75 = .ok (.aload_n 0, 1) := by decide +kernel
theorem dX12_takesIn_76 : decode cX12_takesIn 76 = .ok (.iload_n 1, 1) := by decide +kernel
theorem dX12_takesIn_77 : decode cX12_takesIn 77 = .ok (.iconst 0, 1) := by decide +kernel
theorem dX12_takesIn_78 : decode cX12_takesIn 78 = .ok (.invokevirtual 99, 3) := by decide +kernel
theorem dX12_takesIn_81 : decode cX12_takesIn 81 = .ok (.istore 5, 2) := by decide +kernel
theorem dX12_takesIn_83 : decode cX12_takesIn 83 = .ok (.iload 5, 2) := by decide +kernel
theorem dX12_takesIn_85 : decode cX12_takesIn 85 = .ok (.bipush 9, 2) := by decide +kernel
theorem dX12_takesIn_87 : decode cX12_takesIn 87 = .ok (.if_icmp .ne 10, 3) := by decide +kernel
theorem dX12_takesIn_90 : decode cX12_takesIn 90 = .ok (.aload_n 0, 1) := by decide +kernel
theorem dX12_takesIn_91 : decode cX12_takesIn 91 = .ok (.iload_n 1, 1) := by decide +kernel
theorem dX12_takesIn_92 : decode cX12_takesIn 92 = .ok (.invokevirtual 180, 3) := by decide +kernel
theorem dX12_takesIn_95 : decode cX12_takesIn 95 = .ok (.iconst 1, 1) := by decide +kernel
theorem dX12_takesIn_96 : decode cX12_takesIn 96 = .ok (.ireturn, 1) := by decide +kernel
theorem dX12_takesIn_97 : decode cX12_takesIn 97 = .ok (.aload_n 0, 1) := by decide +kernel
theorem dX12_takesIn_98 : decode cX12_takesIn 98 = .ok (.iload_n 1, 1) := by decide +kernel
theorem dX12_takesIn_99 : decode cX12_takesIn 99 = .ok (.iconst 0, 1) := by decide +kernel
theorem dX12_takesIn_100 : decode cX12_takesIn 100 = .ok (.iload 5, 2) := by decide +kernel
theorem dX12_takesIn_102 : decode cX12_takesIn 102 = .ok (.iconst 5, 1) := by decide +kernel
theorem dX12_takesIn_103 : decode cX12_takesIn 103 = .ok (.if_icmp .ne 8, 3) := by decide +kernel
theorem dX12_takesIn_106 : decode cX12_takesIn 106 = .ok (.bipush 6, 2) := by decide +kernel
theorem dX12_takesIn_108 : decode cX12_takesIn 108 = .ok (.goto 17, 3) := by decide +kernel
theorem dX12_takesIn_111 : decode cX12_takesIn 111 = .ok (.iload 5, 2) := by decide +kernel
theorem dX12_takesIn_113 : decode cX12_takesIn 113 = .ok (.bipush 8, 2) := by decide +kernel
theorem dX12_takesIn_115 : decode cX12_takesIn 115 = .ok (.if_icmp .ne 8, 3) := by decide +kernel
theorem dX12_takesIn_118 : decode cX12_takesIn 118 = .ok (.bipush 10, 2) := by decide +kernel
theorem dX12_takesIn_120 : decode cX12_takesIn 120 = .ok (.goto 5, 3) := by decide +kernel
theorem dX12_takesIn_123 : decode cX12_takesIn 123 = .ok (.iload 5, 2) := by decide +kernel
theorem dX12_takesIn_125 : decode cX12_takesIn 125 = .ok (.invokevirtual 95, 3) := by decide +kernel
theorem dX12_takesIn_128 : decode cX12_takesIn 128 = .ok (.aload_n 0, 1) := by decide +kernel
theorem dX12_takesIn_129 : decode cX12_takesIn 129 = .ok (.getfield 19, 3) := by decide +kernel
theorem dX12_takesIn_132 : decode cX12_takesIn 132 = .ok (.bipush 7, 2) := by decide +kernel
theorem dX12_takesIn_134 : decode cX12_takesIn 134 = .ok (.iaload, 1) := by decide +kernel
theorem dX12_takesIn_135 : decode cX12_takesIn 135 = .ok (.bipush (-4), 2) := by decide +kernel
theorem dX12_takesIn_137 : decode cX12_takesIn 137 = .ok (.if_icmp .eq 40, 3) := by decide +kernel
theorem dX12_takesIn_140 : decode cX12_takesIn 140 = .ok (.aload_n 0, 1) := by decide +kernel
theorem dX12_takesIn_141 : decode cX12_takesIn 141 = .ok (.iload_n 1, 1) := by decide +kernel
theorem dX12_takesIn_142 : decode cX12_takesIn 142 = .ok (.bipush 15, 2) := by decide +kernel
theorem dX12_takesIn_144 : decode cX12_takesIn 144 = .ok (.aload_n 0, 1) := by decide +kernel
theorem dX12_takesIn_145 : decode cX12_takesIn 145 = .ok (.iload_n 1, 1) := by decide +kernel
theorem dX12_takesIn_146 : decode cX12_takesIn 146 = .ok (.bipush 15, 2) := by decide +kernel
theorem dX12_takesIn_148 : decode cX12_takesIn 148 = .ok (.invokevirtual 99, 3) := by decide +kernel
theorem dX12_takesIn_151 : decode cX12_takesIn 151 = .ok (.aload_n 0, 1) := by decide +kernel
theorem dX12_takesIn_152 : decode cX12_takesIn 152 = .ok (.iconst 1, 1) := by decide +kernel
theorem dX12_takesIn_153 : decode cX12_takesIn 153 = .ok (.iload_n 1, 1) := by decide +kernel
theorem dX12_takesIn_154 : decode cX12_takesIn 154 = .ok (.isub, 1) := by decide +kernel
theorem dX12_takesIn_155 : decode cX12_takesIn 155 = .ok (.aload_n 0, 1) := by decide +kernel
theorem dX12_takesIn_156 : decode cX12_takesIn 156 = .ok (.getfield 19, 3) := by decide +kernel
theorem dX12_takesIn_159 : decode cX12_takesIn 159 = .ok (.bipush 7, 2) := by decide +kernel
theorem dX12_takesIn_161 : decode cX12_takesIn 161 = .ok (.iaload, 1) := by decide +kernel
theorem dX12_takesIn_162 : decode cX12_takesIn 162 = .ok (.aload_n 0, 1) := by decide +kernel
theorem dX12_takesIn_163 : decode cX12_takesIn 163 = .ok (.iload_n 1, 1) := by decide +kernel
theorem dX12_takesIn_164 : decode cX12_takesIn 164 = .ok (.iconst 5, 1) := by decide +kernel
theorem dX12_takesIn_165 : decode cX12_takesIn 165 = .ok (.invokevirtual 99, 3) := by decide +kernel
theorem dX12_takesIn_168 : decode cX12_takesIn 168 = .ok (.invokevirtual 208, 3) := by decide +kernel
theorem dX12_takesIn_171 : decode cX12_takesIn 171 = .ok (.invokestatic 103, 3) := by decide +kernel
theorem dX12_takesIn_174 : decode cX12_takesIn 174 = .ok (.invokevirtual 95, 3) := by decide +kernel
theorem dX12_takesIn_177 : decode cX12_takesIn 177 = .ok (.aload_n 0, 1) := by decide +kernel
theorem dX12_takesIn_178 : decode cX12_takesIn 178 = .ok (.iload_n 1, 1) := by decide +kernel
theorem dX12_takesIn_179 : decode cX12_takesIn 179 = .ok (.iconst 0, 1) := by decide +kernel
theorem dX12_takesIn_180 : decode cX12_takesIn 180 = .ok (.invokevirtual 99, 3) := by decide +kernel
theorem dX12_takesIn_183 : decode cX12_takesIn 183 = .ok (.i2l, 1) := by decide +kernel
theorem dX12_takesIn_184 : decode cX12_takesIn 184 = .ok (.ldc2_w 189, 3) := by decide +kernel
theorem dX12_takesIn_187 : decode cX12_takesIn 187 = .ok (.ldc2_w 191, 3) := by decide +kernel
theorem dX12_takesIn_190 : decode cX12_takesIn 190 = .ok (.invokestatic 54, 3) := by decide +kernel
theorem dX12_takesIn_193 : decode cX12_takesIn 193 = .ok (.ifCond .eq 9, 3) := by decide +kernel
theorem dX12_takesIn_196 : decode cX12_takesIn 196 = .ok (.aload_n 0, 1) := by decide +kernel
theorem dX12_takesIn_197 : decode cX12_takesIn 197 = .ok (.iload_n 1, 1) := by decide +kernel
theorem dX12_takesIn_198 : decode cX12_takesIn 198 = .ok (.iload_n 2, 1) := by decide +kernel
theorem dX12_takesIn_199 : decode cX12_takesIn 199 = .ok (.invokevirtual 224, 3) := by decide +kernel
theorem dX12_takesIn_202 : decode cX12_takesIn 202 = .ok (.aload_n 0, 1) := by decide +kernel
theorem dX12_takesIn_203 : decode cX12_takesIn 203 = .ok (.iload_n 1, 1) := by decide +kernel
theorem dX12_takesIn_204 : decode cX12_takesIn 204 = .ok (.iconst 0, 1) := by decide +kernel
theorem dX12_takesIn_205 : decode cX12_takesIn 205 = .ok (.invokevirtual 99, 3) := by decide +kernel
theorem dX12_takesIn_208 : decode cX12_takesIn 208 = .ok (.bipush 10, 2) := by decide +kernel
theorem dX12_takesIn_210 : decode cX12_takesIn 210 = .ok (.if_icmp .ne 21, 3) := by decide +kernel
theorem dX12_takesIn_213 : decode cX12_takesIn 213 = .ok (.iload 4, 2) := by decide +kernel
theorem dX12_takesIn_215 : decode cX12_takesIn 215 = .ok (.ifCond .ne 16, 3) := by decide +kernel
theorem dX12_takesIn_218 : decode cX12_takesIn 218 = .ok (.aload_n 0, 1) := by decide +kernel
theorem dX12_takesIn_219 : decode cX12_takesIn 219 = .ok (.iload_n 1, 1) := by decide +kernel
theorem dX12_takesIn_220 : decode cX12_takesIn 220 = .ok (.bipush 12, 2) := by decide +kernel
theorem dX12_takesIn_222 : decode cX12_takesIn 222 = .ok (.iconst 2, 1) := by decide +kernel
theorem dX12_takesIn_223 : decode cX12_takesIn 223 = .ok (.aload_n 0, 1) := by decide +kernel
theorem dX12_takesIn_224 : decode cX12_takesIn 224 = .ok (.getfield 32, 3) := by decide +kernel
theorem dX12_takesIn_227 : decode cX12_takesIn 227 = .ok (.imul, 1) := by decide +kernel
theorem dX12_takesIn_228 : decode cX12_takesIn 228 = .ok (.invokevirtual 95, 3) := by decide +kernel
theorem dX12_takesIn_231 : decode cX12_takesIn 231 = .ok (.aload_n 0, 1) := by decide +kernel
theorem dX12_takesIn_232 : decode cX12_takesIn 232 = .ok (.invokevirtual 136, 3) := by decide +kernel
theorem dX12_takesIn_235 : decode cX12_takesIn 235 = .ok (.ifCond .le 8, 3) := by decide +kernel
theorem dX12_takesIn_238 : decode cX12_takesIn 238 = .ok (.aload_n 0, 1) := by decide +kernel
theorem dX12_takesIn_239 : decode cX12_takesIn 239 = .ok (.iload_n 1, 1) := by decide +kernel
theorem dX12_takesIn_240 : decode cX12_takesIn 240 = .ok (.invokevirtual 193, 3) := by decide +kernel
theorem dX12_takesIn_243 : decode cX12_takesIn 243 = .ok (.aload_n 0, 1) := by decide +kernel
theorem dX12_takesIn_244 : decode cX12_takesIn 244 = .ok (.iload_n 1, 1) := by decide +kernel
theorem dX12_takesIn_245 : decode cX12_takesIn 245 = .ok (.invokevirtual 177, 3) := by decide +kernel
theorem dX12_takesIn_248 : decode cX12_takesIn 248 = .ok (.iconst 1, 1) := by decide +kernel
theorem dX12_takesIn_249 : decode cX12_takesIn 249 = .ok (.ireturn, 1) := by decide +kernel
theorem dX12_inOthers_0 : decode cX12_inOthers 0 = .ok (.aload_n 0, 1) := by decide +kernel
theorem dX12_inOthers_1 : decode cX12_inOthers 1 = .ok (.iconst 1, 1) := by decide +kernel
theorem dX12_inOthers_2 : decode cX12_inOthers 2 = .ok (.iload_n 1, 1) := by decide +kernel
theorem dX12_inOthers_3 : decode cX12_inOthers 3 = .ok (.isub, 1) := by decide +kernel
theorem dX12_inOthers_4 : decode cX12_inOthers 4 = .ok (.aload_n 0, 1) := by decide +kernel
theorem dX12_inOthers_5 : decode cX12_inOthers 5 = .ok (.getfield 19, 3) := by decide +kernel
theorem dX12_inOthers_8 : decode cX12_inOthers 8 = .ok (.iconst 2, 1) := by decide +kernel
theorem dX12_inOthers_9 : decode cX12_inOthers 9 = .ok (.iaload, 1) := by decide +kernel
theorem dX12_inOthers_10 : decode cX12_inOthers 10 = .ok (.aload_n 0, 1) := by decide +kernel
theorem dX12_inOthers_11 : decode cX12_inOthers 11 = .ok (.iload_n 1, 1) := by decide +kernel
theorem dX12_inOthers_12 : decode cX12_inOthers 12 = .ok (.iconst 5, 1) := by decide +kernel
theorem dX12_inOthers_13 : decode cX12_inOthers 13 = .ok (.invokevirtual 99, 3) := by decide +kernel
theorem dX12_inOthers_16 : decode cX12_inOthers 16 = .ok (.invokevirtual 208, 3) := by decide +kernel
theorem dX12_inOthers_19 : decode cX12_inOthers 19 = .ok (.istore_n 2, 1) := by decide +kernel
theorem dX12_inOthers_20 : decode cX12_inOthers 20 = .ok (.aload_n 0, 1) := by decide +kernel
theorem dX12_inOthers_21 : decode cX12_inOthers 21 = .ok (.iload_n 1, 1) := by decide +kernel
theorem dX12_inOthers_22 : decode cX12_inOthers 22 = .ok (.iconst 0, 1) := by decide +kernel
theorem dX12_inOthers_23 : decode cX12_inOthers 23 = .ok (.invokevirtual 99, 3) := by decide +kernel
theorem dX12_inOthers_26 : decode cX12_inOthers 26 = .ok (.istore_n 3, 1) := by decide +kernel
theorem dX12_inOthers_27 : decode cX12_inOthers 27 = .ok (.aload_n 0, 1) := by decide +kernel
theorem dX12_inOthers_28 : decode cX12_inOthers 28 = .ok (.iload_n 1, 1) := by decide +kernel
theorem dX12_inOthers_29 : decode cX12_inOthers 29 = .ok (.iload_n 2, 1) := by decide +kernel
theorem dX12_inOthers_30 : decode cX12_inOthers 30 = .ok (.invokevirtual 227, 3) := by decide +kernel
theorem dX12_inOthers_33 : decode cX12_inOthers 33 = .ok (.ifCond .ne 73, 3) := by decide +kernel
theorem dX12_inOthers_36 : decode cX12_inOthers 36 = .ok (.aload_n 0, 1) := by decide +kernel
theorem dX12_inOthers_37 : decode cX12_inOthers 37 = .ok (.iload_n 1, 1) := by decide +kernel
theorem dX12_inOthers_38 : decode cX12_inOthers 38 = .ok (.bipush 6, 2) := by decide +kernel
theorem dX12_inOthers_40 : decode cX12_inOthers 40 = .ok (.aload_n 0, 1) := by decide +kernel
theorem dX12_inOthers_41 : decode cX12_inOthers 41 = .ok (.iload_n 1, 1) := by decide +kernel
theorem dX12_inOthers_42 : decode cX12_inOthers 42 = .ok (.bipush 7, 2) := by decide +kernel
theorem dX12_inOthers_44 : decode cX12_inOthers 44 = .ok (.invokevirtual 99, 3) := by decide +kernel
theorem dX12_inOthers_47 : decode cX12_inOthers 47 = .ok (.aload_n 0, 1) := by decide +kernel
theorem dX12_inOthers_48 : decode cX12_inOthers 48 = .ok (.iload_n 1, 1) := by decide +kernel
theorem dX12_inOthers_49 : decode cX12_inOthers 49 = .ok (.iconst 5, 1) := by decide +kernel
theorem dX12_inOthers_50 : decode cX12_inOthers 50 = .ok (.invokevirtual 99, 3) := by decide +kernel
theorem dX12_inOthers_53 : decode cX12_inOthers 53 = .ok (.if_icmp .ne 8, 3) := by decide +kernel
theorem dX12_inOthers_56 : decode cX12_inOthers 56 = .ok (.bipush 7, 2) := by decide +kernel
theorem dX12_inOthers_58 : decode cX12_inOthers 58 = .ok (.goto 21, 3) := by decide +kernel
theorem dX12_inOthers_61 : decode cX12_inOthers 61 = .ok (.iload_n 2, 1) := by decide +kernel
theorem dX12_inOthers_62 : decode cX12_inOthers 62 = .ok (.aload_n 0, 1) := by decide +kernel
theorem dX12_inOthers_63 : decode cX12_inOthers 63 = .ok (.iload_n 1, 1) := by decide +kernel
theorem dX12_inOthers_64 : decode cX12_inOthers 64 = .ok (.bipush 7, 2) := by decide +kernel
theorem dX12_inOthers_66 : decode cX12_inOthers 66 = .ok (.invokevirtual 99, 3) := by decide +kernel
theorem dX12_inOthers_69 : decode cX12_inOthers 69 = .ok (.if_icmp .lt 8, 3) := by decide +kernel
theorem dX12_inOthers_72 : decode cX12_inOthers 72 = .ok (.bipush 8, 2) := by decide +kernel
theorem dX12_inOthers_74 : decode cX12_inOthers 74 = .ok (.goto 5, 3) := by decide +kernel
theorem dX12_inOthers_77 : decode cX12_inOthers 77 = .ok (.bipush 9, 2) := by decide +kernel
theorem dX12_inOthers_79 : decode cX12_inOthers 79 = .ok (.invokevirtual 230, 3) := by decide +kernel
theorem dX12_inOthers_82 : decode cX12_inOthers 82 = .ok (.istore 4, 2) := by decide +kernel
theorem dX12_inOthers_84 : decode cX12_inOthers 84 = .ok (.iload_n 3, 1) := by decide +kernel
theorem dX12_inOthers_85 : decode cX12_inOthers 85 = .ok (.bipush 10, 2) := by decide +kernel
theorem dX12_inOthers_87 : decode cX12_inOthers 87 = .ok (.if_icmp .ne 16, 3) := by decide +kernel
theorem dX12_inOthers_90 : decode cX12_inOthers 90 = .ok (.aload_n 0, 1) := by decide +kernel
theorem dX12_inOthers_91 : decode cX12_inOthers 91 = .ok (.iload_n 1, 1) := by decide +kernel
theorem dX12_inOthers_92 : decode cX12_inOthers 92 = .ok (.bipush 12, 2) := by decide +kernel
theorem dX12_inOthers_94 : decode cX12_inOthers 94 = .ok (.iconst 2, 1) := by decide +kernel
theorem dX12_inOthers_95 : decode cX12_inOthers 95 = .ok (.aload_n 0, 1) := by decide +kernel
theorem dX12_inOthers_96 : decode cX12_inOthers 96 = .ok (.getfield 32, 3) := by decide +kernel
theorem dX12_inOthers_99 : decode cX12_inOthers 99 = .ok (.imul, 1) := by decide +kernel
theorem dX12_inOthers_100 : decode cX12_inOthers 100 = .ok (.invokevirtual 95, 3) := by decide +kernel
theorem dX12_inOthers_103 : decode cX12_inOthers 103 = .ok (.iload 4, 2) := by decide +kernel
theorem dX12_inOthers_105 : decode cX12_inOthers 105 = .ok (.ireturn, 1) := by decide +kernel
theorem dX12_inOthers_106 : decode cX12_inOthers 106 = .ok (.aload_n 0, 1) := by decide +kernel
theorem dX12_inOthers_107 : decode cX12_inOthers 107 = .ok (.bipush 8, 2) := by decide +kernel
theorem dX12_inOthers_109 : decode cX12_inOthers 109 = .ok (.invokevirtual 202, 3) := by decide +kernel
theorem dX12_inOthers_112 : decode cX12_inOthers 112 = .ok (.ifCond .eq 10, 3) := by decide +kernel
theorem dX12_inOthers_115 : decode cX12_inOthers 115 = .ok (.aload_n 0, 1) := by decide +kernel
theorem dX12_inOthers_116 : decode cX12_inOthers 116 = .ok (.iload_n 1, 1) := by decide +kernel
theorem dX12_inOthers_117 : decode cX12_inOthers 117 = .ok (.invokevirtual 180, 3) := by decide +kernel
theorem dX12_inOthers_120 : decode cX12_inOthers 120 = .ok (.iconst 1, 1) := by decide +kernel
theorem dX12_inOthers_121 : decode cX12_inOthers 121 = .ok (.ireturn, 1) := by decide +kernel
theorem dX12_inOthers_122 : decode cX12_inOthers 122 = .ok (.aload_n 0, 1) := by decide +kernel
theorem dX12_inOthers_123 : decode cX12_inOthers 123 = .ok (.iconst 4, 1) := by decide +kernel
theorem dX12_inOthers_124 : decode cX12_inOthers 124 = .ok (.invokevirtual 202, 3) := by decide +kernel
theorem dX12_inOthers_127 : decode cX12_inOthers 127 = .ok (.ifCond .ne 11, 3) := by decide +kernel
theorem dX12_inOthers_130 : decode cX12_inOthers 130 = .ok (.aload_n 0, 1) := by decide +kernel
theorem dX12_inOthers_131 : decode cX12_inOthers 131 = .ok (.bipush 10, 2) := by decide +kernel
theorem dX12_inOthers_133 : decode cX12_inOthers 133 = .ok (.iconst 0, 1) := by decide +kernel
theorem dX12_inOthers_134 : decode cX12_inOthers 134 = .ok (.invokevirtual 199, 3) := by decide +kernel
theorem dX12_inOthers_137 : decode cX12_inOthers 137 = .ok (.ireturn, 1) := by decide +kernel
theorem dX12_inOthers_138 : decode cX12_inOthers 138 = .ok (.aload_n 0, 1) := by decide +kernel
theorem dX12_inOthers_139 : decode cX12_inOthers 139 = .ok (.iload_n 1, 1) := by decide +kernel
theorem dX12_inOthers_140 : decode cX12_inOthers 140 = .ok (.aload_n 0, 1) := by decide +kernel
theorem dX12_inOthers_141 : decode cX12_inOthers 141 = .ok (.getfield 19, 3) := by decide +kernel
theorem dX12_inOthers_144 : decode cX12_inOthers 144 = .ok (.iconst 3, 1) := by decide +kernel
theorem dX12_inOthers_145 : decode cX12_inOthers 145 = .ok (.iaload, 1) := by decide +kernel
theorem dX12_inOthers_146 : decode cX12_inOthers 146 = .ok (.aload_n 0, 1) := by decide +kernel
theorem dX12_inOthers_147 : decode cX12_inOthers 147 = .ok (.iload_n 1, 1) := by decide +kernel
theorem dX12_inOthers_148 : decode cX12_inOthers 148 = .ok (.iconst 1, 1) := by decide +kernel
theorem dX12_inOthers_149 : decode cX12_inOthers 149 = .ok (.invokevirtual 99, 3) := by decide +kernel
theorem dX12_inOthers_152 : decode cX12_inOthers 152 = .ok (.invokevirtual 208, 3) := by decide +kernel
theorem dX12_inOthers_155 : decode cX12_inOthers 155 = .ok (.istore 4, 2) := by decide +kernel
theorem dX12_inOthers_157 : decode cX12_inOthers 157 = .ok (.iload_n 3, 1) := by decide +kernel
theorem dX12_inOthers_158 : decode cX12_inOthers 158 = .ok (.iconst 3, 1) := by decide +kernel
theorem dX12_inOthers_159 : decode cX12_inOthers 159 = .ok (.if_icmp .ne 27, 3) := by decide +kernel
theorem dX12_inOthers_162 : decode cX12_inOthers 162 = .ok (.iload 4, 2) := by decide +kernel
theorem dX12_inOthers_164 : decode cX12_inOthers 164 = .ok (.i2l, 1) := by decide +kernel
theorem dX12_inOthers_165 : decode cX12_inOthers 165 = .ok (.lconst 1, 1) := by decide +kernel
theorem dX12_inOthers_166 : decode cX12_inOthers 166 = .ok (.aload_n 0, 1) := by decide +kernel
theorem dX12_inOthers_167 : decode cX12_inOthers 167 = .ok (.iload_n 1, 1) := by decide +kernel
theorem dX12_inOthers_168 : decode cX12_inOthers 168 = .ok (.iconst 2, 1) := by decide +kernel
theorem dX12_inOthers_169 : decode cX12_inOthers 169 = .ok (.invokevirtual 99, 3) := by decide +kernel
theorem dX12_inOthers_172 : decode cX12_inOthers 172 = .ok (.i2l, 1) := by decide +kernel
theorem dX12_inOthers_173 : decode cX12_inOthers 173 = .ok (.invokestatic 54, 3) := by decide +kernel
theorem dX12_inOthers_176 : decode cX12_inOthers 176 = .ok (.ifCond .ne 10, 3) := by decide +kernel
theorem dX12_inOthers_179 : decode cX12_inOthers 179 = .ok (.aload_n 0, 1) := by decide +kernel
theorem dX12_inOthers_180 : decode cX12_inOthers 180 = .ok (.iload_n 1, 1) := by decide +kernel
theorem dX12_inOthers_181 : decode cX12_inOthers 181 = .ok (.iconst 5, 1) := by decide +kernel
theorem dX12_inOthers_182 : decode cX12_inOthers 182 = .ok (.invokevirtual 205, 3) := by decide +kernel
theorem dX12_inOthers_185 : decode cX12_inOthers 185 = .ok (.ireturn, 1) := by decide +kernel
theorem dX12_inOthers_186 : decode cX12_inOthers 186 = .ok (.iload 4, 2) := by decide +kernel
theorem dX12_inOthers_188 : decode cX12_inOthers 188 = .ok (.aload_n 0, 1) := by decide +kernel
theorem dX12_inOthers_189 : decode cX12_inOthers 189 = .ok (.iload_n 1, 1) := by decide +kernel
theorem dX12_inOthers_190 : decode cX12_inOthers 190 = .ok (.iconst 2, 1) := by decide +kernel
theorem dX12_inOthers_191 : decode cX12_inOthers 191 = .ok (.invokevirtual 99, 3) := by decide +kernel
theorem dX12_inOthers_194 : decode cX12_inOthers 194 = .ok (.if_icmp .le 11, 3) := by decide +kernel
theorem dX12_inOthers_197 : decode cX12_inOthers 197 = .ok (.aload_n 0, 1) := by decide +kernel
theorem dX12_inOthers_198 : decode cX12_inOthers 198 = .ok (.iload_n 1, 1) := by decide +kernel
theorem dX12_inOthers_199 : decode cX12_inOthers 199 = .ok (.iconst 5, 1) := by decide +kernel
theorem dX12_inOthers_200 : decode cX12_inOthers 200 = .ok (.iconst 0, 1) := by decide +kernel
theorem dX12_inOthers_201 : decode cX12_inOthers 201 = .ok (.invokevirtual 230, 3) := by decide +kernel
theorem dX12_inOthers_204 : decode cX12_inOthers 204 = .ok (.ireturn, 1) := by decide +kernel
theorem dX12_inOthers_205 : decode cX12_inOthers 205 = .ok (.aload_n 0, 1) := by decide +kernel
theorem dX12_inOthers_206 : decode cX12_inOthers 206 = .ok (.iload_n 1, 1) := by decide +kernel
theorem dX12_inOthers_207 : decode cX12_inOthers 207 = .ok (.iload_n 2, 1) := by decide +kernel
theorem dX12_inOthers_208 : decode cX12_inOthers 208 = .ok (.iload 4, 2) := by decide +kernel
theorem dX12_inOthers_210 : decode cX12_inOthers 210 = .ok (.invokevirtual 233, 3) := by decide +kernel
theorem dX12_inOthers_213 : decode cX12_inOthers 213 = .ok (.ireturn, 1) := by decide +kernel
theorem dX12_removes_0 : decode cX12_removes 0 = .ok (.aload_n 0, 1) := by decide +kernel
theorem dX12_removes_1 : decode cX12_removes 1 = .ok (.getfield 7, 3) := by decide +kernel
theorem dX12_removes_4 : decode cX12_removes 4 = .ok (.sipush 976, 3) := by decide +kernel
theorem dX12_removes_7 : decode cX12_removes 7 = .ok (.dup2, 1) := by decide +kernel
theorem dX12_removes_8 : decode cX12_removes 8 = .ok (.iaload, 1) := by decide +kernel
theorem dX12_removes_9 : decode cX12_removes 9 = .ok (.iconst 1, 1) := by decide +kernel
theorem dX12_removes_10 : decode cX12_removes 10 = .ok (.isub, 1) := by decide +kernel
theorem dX12_removes_11 : decode cX12_removes 11 = .ok (.iastore, 1) := by decide +kernel
theorem dX12_removes_12 : decode cX12_removes 12 = .ok (.sipush 576, 3) := by decide +kernel
theorem dX12_removes_15 : decode cX12_removes 15 = .ok (.bipush 20, 2) := by decide +kernel
theorem dX12_removes_17 : decode cX12_removes 17 = .ok (.iload_n 1, 1) := by decide +kernel
theorem dX12_removes_18 : decode cX12_removes 18 = .ok (.imul, 1) := by decide +kernel
theorem dX12_removes_19 : decode cX12_removes 19 = .ok (.iadd, 1) := by decide +kernel
theorem dX12_removes_20 : decode cX12_removes 20 = .ok (.istore_n 2, 1) := by decide +kernel
theorem dX12_removes_21 : decode cX12_removes 21 = .ok (.iload_n 2, 1) := by decide +kernel
theorem dX12_removes_22 : decode cX12_removes 22 = .ok (.sipush 576, 3) := by decide +kernel
theorem dX12_removes_25 : decode cX12_removes 25 = .ok (.bipush 20, 2) := by decide +kernel
theorem dX12_removes_27 : decode cX12_removes 27 = .ok (.aload_n 0, 1) := by decide +kernel
theorem dX12_removes_28 : decode cX12_removes 28 = .ok (.getfield 7, 3) := by decide +kernel
theorem dX12_removes_31 : decode cX12_removes 31 = .ok (.sipush 976, 3) := by decide +kernel
theorem dX12_removes_34 : decode cX12_removes 34 = .ok (.iaload, 1) := by decide +kernel
theorem dX12_removes_35 : decode cX12_removes 35 = .ok (.imul, 1) := by decide +kernel
theorem dX12_removes_36 : decode cX12_removes 36 = .ok (.iadd, 1) := by decide +kernel
theorem dX12_removes_37 : decode cX12_removes 37 = .ok (.if_icmp .ge 24, 3) := by decide +kernel
theorem dX12_removes_40 : decode cX12_removes 40 = .ok (.aload_n 0, 1) := by decide +kernel
theorem dX12_removes_41 : decode cX12_removes 41 = .ok (.getfield 7, 3) := by decide +kernel
theorem dX12_removes_44 : decode cX12_removes 44 = .ok (.iload_n 2, 1) := by decide +kernel
theorem dX12_removes_45 : decode cX12_removes 45 = .ok (.aload_n 0, 1) := by decide +kernel
theorem dX12_removes_46 : decode cX12_removes 46 = .ok (.getfield 7, 3) := by decide +kernel
theorem dX12_removes_49 : decode cX12_removes 49 = .ok (.iload_n 2, 1) := by decide +kernel
theorem dX12_removes_50 : decode cX12_removes 50 = .ok (.bipush 20, 2) := by decide +kernel
theorem dX12_removes_52 : decode cX12_removes 52 = .ok (.iadd, 1) := by decide +kernel
theorem dX12_removes_53 : decode cX12_removes 53 = .ok (.iaload, 1) := by decide +kernel
theorem dX12_removes_54 : decode cX12_removes 54 = .ok (.iastore, 1) := by decide +kernel
theorem dX12_removes_55 : decode cX12_removes 55 = .ok (.iinc 2 1, 3) := by decide +kernel
theorem dX12_removes_58 : decode cX12_removes 58 = .ok (.goto (-37), 3) := by decide +kernel
theorem dX12_removes_61 : decode cX12_removes 61 = .ok (.return_, 1) := by decide +kernel
theorem dX12_arrives_0 : decode cX12_arrives 0 = .ok (.iconst 0, 1) := by decide +kernel
theorem dX12_arrives_1 : decode cX12_arrives 1 = .ok (.istore_n 2, 1) := by decide +kernel
theorem dX12_arrives_2 : decode cX12_arrives 2 = .ok (.iload_n 2, 1) := by decide +kernel
theorem dX12_arrives_3 : decode cX12_arrives 3 = .ok (.bipush 20, 2) := by decide +kernel
theorem dX12_arrives_5 : decode cX12_arrives 5 = .ok (.if_icmp .ge 30, 3) := by decide +kernel
theorem dX12_arrives_8 : decode cX12_arrives 8 = .ok (.aload_n 0, 1) := by decide +kernel
theorem dX12_arrives_9 : decode cX12_arrives 9 = .ok (.getfield 19, 3) := by decide +kernel
theorem dX12_arrives_12 : decode cX12_arrives 12 = .ok (.iload_n 2, 1) := by decide +kernel
theorem dX12_arrives_13 : decode cX12_arrives 13 = .ok (.aload_n 0, 1) := by decide +kernel
theorem dX12_arrives_14 : decode cX12_arrives 14 = .ok (.getfield 7, 3) := by decide +kernel
theorem dX12_arrives_17 : decode cX12_arrives 17 = .ok (.sipush 576, 3) := by decide +kernel
theorem dX12_arrives_20 : decode cX12_arrives 20 = .ok (.bipush 20, 2) := by decide +kernel
theorem dX12_arrives_22 : decode cX12_arrives 22 = .ok (.iload_n 1, 1) := by decide +kernel
theorem dX12_arrives_23 : decode cX12_arrives 23 = .ok (.imul, 1) := by decide +kernel
theorem dX12_arrives_24 : decode cX12_arrives 24 = .ok (.iadd, 1) := by decide +kernel
theorem dX12_arrives_25 : decode cX12_arrives 25 = .ok (.iload_n 2, 1) := by decide +kernel
theorem dX12_arrives_26 : decode cX12_arrives 26 = .ok (.iadd, 1) := by decide +kernel
theorem dX12_arrives_27 : decode cX12_arrives 27 = .ok (.iaload, 1) := by decide +kernel
theorem dX12_arrives_28 : decode cX12_arrives 28 = .ok (.iastore, 1) := by decide +kernel
theorem dX12_arrives_29 : decode cX12_arrives 29 = .ok (.iinc 2 1, 3) := by decide +kernel
theorem dX12_arrives_32 : decode cX12_arrives 32 = .ok (.goto (-30), 3) := by decide +kernel
theorem dX12_arrives_35 : decode cX12_arrives 35 = .ok (.aload_n 0, 1) := by decide +kernel
theorem dX12_arrives_36 : decode cX12_arrives 36 = .ok (.iload_n 1, 1) := by decide +kernel
theorem dX12_arrives_37 : decode cX12_arrives 37 = .ok (.invokevirtual 236, 3) := by decide +kernel
theorem dX12_arrives_40 : decode cX12_arrives 40 = .ok (.aload_n 0, 1) := by decide +kernel
theorem dX12_arrives_41 : decode cX12_arrives 41 = .ok (.getfield 7, 3) := by decide +kernel
theorem dX12_arrives_44 : decode cX12_arrives 44 = .ok (.sipush 982, 3) := by decide +kernel
theorem dX12_arrives_47 : decode cX12_arrives 47 = .ok (.iconst 0, 1) := by decide +kernel
theorem dX12_arrives_48 : decode cX12_arrives 48 = .ok (.iastore, 1) := by decide +kernel
theorem dX12_arrives_49 : decode cX12_arrives 49 = .ok (.iconst 1, 1) := by decide +kernel
theorem dX12_arrives_50 : decode cX12_arrives 50 = .ok (.aload_n 0, 1) := by decide +kernel
theorem dX12_arrives_51 : decode cX12_arrives 51 = .ok (.getfield 19, 3) := by decide +kernel
theorem dX12_arrives_54 : decode cX12_arrives 54 = .ok (.iconst 0, 1) := by decide +kernel
theorem dX12_arrives_55 : decode cX12_arrives 55 = .ok (.iaload, 1) := by decide +kernel
theorem dX12_arrives_56 : decode cX12_arrives 56 = .ok (.isub, 1) := by decide +kernel
theorem dX12_arrives_57 : decode cX12_arrives 57 = .ok (.istore_n 2, 1) := by decide +kernel
theorem dX12_arrives_58 : decode cX12_arrives 58 = .ok (.aload_n 0, 1) := by decide +kernel
theorem dX12_arrives_59 : decode cX12_arrives 59 = .ok (.iload_n 2, 1) := by decide +kernel
theorem dX12_arrives_60 : decode cX12_arrives 60 = .ok (.iconst 0, 1) := by decide +kernel
theorem dX12_arrives_61 : decode cX12_arrives 61 = .ok (.invokevirtual 99, 3) := by decide +kernel
theorem dX12_arrives_64 : decode cX12_arrives 64 = .ok (.istore_n 3, 1) := by decide +kernel
theorem dX12_arrives_65 : decode cX12_arrives 65 = .ok (.iload_n 3, 1) := by decide +kernel
theorem dX12_arrives_66 : decode cX12_arrives 66 = .ok (.ifCond .ne 11, 3) := by decide +kernel
theorem dX12_arrives_69 : decode cX12_arrives 69 = .ok (.aload_n 0, 1) := by decide +kernel
theorem dX12_arrives_70 : decode cX12_arrives 70 = .ok (.iload_n 2, 1) := by decide +kernel
theorem dX12_arrives_71 : decode cX12_arrives 71 = .ok (.invokevirtual 239, 3) := by decide +kernel
theorem dX12_arrives_74 : decode cX12_arrives 74 = .ok (.goto 34, 3) := by decide +kernel
theorem dX12_arrives_77 : decode cX12_arrives 77 = .ok (.iload_n 3, 1) := by decide +kernel
theorem dX12_arrives_78 : decode cX12_arrives 78 = .ok (.iconst 1, 1) := by decide +kernel
theorem dX12_arrives_79 : decode cX12_arrives 79 = .ok (.if_icmp .ne 11, 3) := by decide +kernel
theorem dX12_arrives_82 : decode cX12_arrives 82 = .ok (.aload_n 0, 1) := by decide +kernel
theorem dX12_arrives_83 : decode cX12_arrives 83 = .ok (.iload_n 2, 1) := by decide +kernel
theorem dX12_arrives_84 : decode cX12_arrives 84 = .ok (.invokevirtual 242, 3) := by decide +kernel
theorem dX12_arrives_87 : decode cX12_arrives 87 = .ok (.goto 21, 3) := by decide +kernel
theorem dX12_arrives_90 : decode cX12_arrives 90 = .ok (.iload_n 3, 1) := by decide +kernel
theorem dX12_arrives_91 : decode cX12_arrives 91 = .ok (.iconst 2, 1) := by decide +kernel
theorem dX12_arrives_92 : decode cX12_arrives 92 = .ok (.if_icmp .ne 11, 3) := by decide +kernel
theorem dX12_arrives_95 : decode cX12_arrives 95 = .ok (.aload_n 0, 1) := by decide +kernel
theorem dX12_arrives_96 : decode cX12_arrives 96 = .ok (.iload_n 2, 1) := by decide +kernel
theorem dX12_arrives_97 : decode cX12_arrives 97 = .ok (.invokevirtual 245, 3) := by decide +kernel
theorem dX12_arrives_100 : decode cX12_arrives 100 = .ok (.goto 8, 3) := by decide +kernel
theorem dX12_arrives_103 : decode cX12_arrives 103 = .ok (.aload_n 0, 1) := by decide +kernel
theorem dX12_arrives_104 : decode cX12_arrives 104 = .ok (.iload_n 2, 1) := by decide +kernel
theorem dX12_arrives_105 : decode cX12_arrives 105 = .ok (.invokevirtual 248, 3) := by decide +kernel
theorem dX12_arrives_108 : decode cX12_arrives 108 = .ok (.istore 4, 2) := by decide +kernel
theorem dX12_arrives_110 : decode cX12_arrives 110 = .ok (.aload_n 0, 1) := by decide +kernel
theorem dX12_arrives_111 : decode cX12_arrives 111 = .ok (.iload_n 2, 1) := by decide +kernel
theorem dX12_arrives_112 : decode cX12_arrives 112 = .ok (.invokevirtual 166, 3) := by decide +kernel
theorem dX12_arrives_115 : decode cX12_arrives 115 = .ok (.iload 4, 2) := by decide +kernel
theorem dX12_arrives_117 : decode cX12_arrives 117 = .ok (.ireturn, 1) := by decide +kernel
theorem dX12_isLetter_0 : decode cX12_isLetter 0 = .ok (.iload_n 1, 1) := by decide +kernel
theorem dX12_isLetter_1 : decode cX12_isLetter 1 = .ok (.i2l, 1) := by decide +kernel
theorem dX12_isLetter_2 : decode cX12_isLetter 2 = .ok (.lconst 0, 1) := by decide +kernel
theorem dX12_isLetter_3 : decode cX12_isLetter 3 = .ok (.aload_n 0, 1) := by decide +kernel
theorem dX12_isLetter_4 : decode cX12_isLetter 4 = .ok (.getfield 7, 3) := by decide +kernel
theorem dX12_isLetter_7 : decode cX12_isLetter 7 = .ok (.sipush 976, 3) := by decide +kernel
theorem dX12_isLetter_10 : decode cX12_isLetter 10 = .ok (.iaload, 1) := by decide +kernel
theorem dX12_isLetter_11 : decode cX12_isLetter 11 = .ok (.iconst 1, 1) := by decide +kernel
theorem dX12_isLetter_12 : decode cX12_isLetter 12 = .ok (.isub, 1) := by decide +kernel
theorem dX12_isLetter_13 : decode cX12_isLetter 13 = .ok (.i2l, 1) := by decide +kernel
theorem dX12_isLetter_14 : decode cX12_isLetter 14 = .ok (.invokestatic 54, 3) := by decide +kernel
theorem dX12_isLetter_17 : decode cX12_isLetter 17 = .ok (.ireturn, 1) := by decide +kernel
theorem dX12_arrive_0 : decode cX12_arrive 0 = .ok (.aload_n 0, 1) := by decide +kernel
theorem dX12_arrive_1 : decode cX12_arrive 1 = .ok (.iload_n 1, 1) := by decide +kernel
theorem dX12_arrive_2 : decode cX12_arrive 2 = .ok (.invokevirtual 251, 3) := by decide +kernel
theorem dX12_arrive_5 : decode cX12_arrive 5 = .ok (.ifCond .eq 11, 3) := by decide +kernel
theorem dX12_arrive_8 : decode cX12_arrive 8 = .ok (.aload_n 0, 1) := by decide +kernel
theorem dX12_arrive_9 : decode cX12_arrive 9 = .ok (.iload_n 1, 1) := by decide +kernel
theorem dX12_arrive_10 : decode cX12_arrive 10 = .ok (.invokevirtual 254, 3) := by decide +kernel
theorem dX12_arrive_13 : decode cX12_arrive 13 = .ok (.goto 4, 3) := by decide +kernel
theorem dX12_arrive_16 : decode cX12_arrive 16 = .ok (.iconst (-1), 1) := by decide +kernel
theorem dX12_arrive_17 : decode cX12_arrive 17 = .ok (.ireturn, 1) := by decide +kernel
theorem dX12_lose_0 : decode cX12_lose 0 = .ok (.aload_n 0, 1) := by decide +kernel
theorem dX12_lose_1 : decode cX12_lose 1 = .ok (.iload_n 1, 1) := by decide +kernel
theorem dX12_lose_2 : decode cX12_lose 2 = .ok (.invokevirtual 251, 3) := by decide +kernel
theorem dX12_lose_5 : decode cX12_lose 5 = .ok (.ifCond .ne 5, 3) := by decide +kernel
theorem dX12_lose_8 : decode cX12_lose 8 = .ok (.iconst (-1), 1) := by decide +kernel
theorem dX12_lose_9 : decode cX12_lose 9 = .ok (.ireturn, 1) := by decide +kernel
theorem dX12_lose_10 : decode cX12_lose 10 = .ok (.aload_n 0, 1) := by decide +kernel
theorem dX12_lose_11 : decode cX12_lose 11 = .ok (.iload_n 1, 1) := by decide +kernel
theorem dX12_lose_12 : decode cX12_lose 12 = .ok (.invokevirtual 236, 3) := by decide +kernel
theorem dX12_lose_15 : decode cX12_lose 15 = .ok (.aload_n 0, 1) := by decide +kernel
theorem dX12_lose_16 : decode cX12_lose 16 = .ok (.getfield 7, 3) := by decide +kernel
theorem dX12_lose_19 : decode cX12_lose 19 = .ok (.sipush 976, 3) := by decide +kernel
theorem dX12_lose_22 : decode cX12_lose 22 = .ok (.iaload, 1) := by decide +kernel
theorem dX12_lose_23 : decode cX12_lose 23 = .ok (.ireturn, 1) := by decide +kernel
theorem dX12_doubles_0 : decode cX12_doubles 0 = .ok (.aload_n 0, 1) := by decide +kernel
theorem dX12_doubles_1 : decode cX12_doubles 1 = .ok (.getfield 7, 3) := by decide +kernel
theorem dX12_doubles_4 : decode cX12_doubles 4 = .ok (.sipush 976, 3) := by decide +kernel
theorem dX12_doubles_7 : decode cX12_doubles 7 = .ok (.iaload, 1) := by decide +kernel
theorem dX12_doubles_8 : decode cX12_doubles 8 = .ok (.bipush 20, 2) := by decide +kernel
theorem dX12_doubles_10 : decode cX12_doubles 10 = .ok (.if_icmp .ne 6, 3) := by decide +kernel
theorem dX12_doubles_13 : decode cX12_doubles 13 = .ok (.bipush (-3), 2) := by decide +kernel
theorem dX12_doubles_15 : decode cX12_doubles 15 = .ok (.ireturn, 1) := by decide +kernel
theorem dX12_doubles_16 : decode cX12_doubles 16 = .ok (.iconst 0, 1) := by decide +kernel
theorem dX12_doubles_17 : decode cX12_doubles 17 = .ok (.istore_n 2, 1) := by decide +kernel
theorem dX12_doubles_18 : decode cX12_doubles 18 = .ok (.iload_n 2, 1) := by decide +kernel
theorem dX12_doubles_19 : decode cX12_doubles 19 = .ok (.bipush 20, 2) := by decide +kernel
theorem dX12_doubles_21 : decode cX12_doubles 21 = .ok (.if_icmp .ge 46, 3) := by decide +kernel
theorem dX12_doubles_24 : decode cX12_doubles 24 = .ok (.aload_n 0, 1) := by decide +kernel
theorem dX12_doubles_25 : decode cX12_doubles 25 = .ok (.getfield 7, 3) := by decide +kernel
theorem dX12_doubles_28 : decode cX12_doubles 28 = .ok (.sipush 576, 3) := by decide +kernel
theorem dX12_doubles_31 : decode cX12_doubles 31 = .ok (.bipush 20, 2) := by decide +kernel
theorem dX12_doubles_33 : decode cX12_doubles 33 = .ok (.aload_n 0, 1) := by decide +kernel
theorem dX12_doubles_34 : decode cX12_doubles 34 = .ok (.getfield 7, 3) := by decide +kernel
theorem dX12_doubles_37 : decode cX12_doubles 37 = .ok (.sipush 976, 3) := by decide +kernel
theorem dX12_doubles_40 : decode cX12_doubles 40 = .ok (.iaload, 1) := by decide +kernel
theorem dX12_doubles_41 : decode cX12_doubles 41 = .ok (.imul, 1) := by decide +kernel
theorem dX12_doubles_42 : decode cX12_doubles 42 = .ok (.iadd, 1) := by decide +kernel
theorem dX12_doubles_43 : decode cX12_doubles 43 = .ok (.iload_n 2, 1) := by decide +kernel
theorem dX12_doubles_44 : decode cX12_doubles 44 = .ok (.iadd, 1) := by decide +kernel
theorem dX12_doubles_45 : decode cX12_doubles 45 = .ok (.aload_n 0, 1) := by decide +kernel
theorem dX12_doubles_46 : decode cX12_doubles 46 = .ok (.getfield 7, 3) := by decide +kernel
theorem dX12_doubles_49 : decode cX12_doubles 49 = .ok (.sipush 576, 3) := by decide +kernel
theorem dX12_doubles_52 : decode cX12_doubles 52 = .ok (.bipush 20, 2) := by decide +kernel
theorem dX12_doubles_54 : decode cX12_doubles 54 = .ok (.iload_n 1, 1) := by decide +kernel
theorem dX12_doubles_55 : decode cX12_doubles 55 = .ok (.imul, 1) := by decide +kernel
theorem dX12_doubles_56 : decode cX12_doubles 56 = .ok (.iadd, 1) := by decide +kernel
theorem dX12_doubles_57 : decode cX12_doubles 57 = .ok (.iload_n 2, 1) := by decide +kernel
theorem dX12_doubles_58 : decode cX12_doubles 58 = .ok (.iadd, 1) := by decide +kernel
theorem dX12_doubles_59 : decode cX12_doubles 59 = .ok (.iaload, 1) := by decide +kernel
theorem dX12_doubles_60 : decode cX12_doubles 60 = .ok (.iastore, 1) := by decide +kernel
theorem dX12_doubles_61 : decode cX12_doubles 61 = .ok (.iinc 2 1, 3) := by decide +kernel
theorem dX12_doubles_64 : decode cX12_doubles 64 = .ok (.goto (-46), 3) := by decide +kernel
theorem dX12_doubles_67 : decode cX12_doubles 67 = .ok (.aload_n 0, 1) := by decide +kernel
theorem dX12_doubles_68 : decode cX12_doubles 68 = .ok (.getfield 7, 3) := by decide +kernel
theorem dX12_doubles_71 : decode cX12_doubles 71 = .ok (.sipush 976, 3) := by decide +kernel
theorem dX12_doubles_74 : decode cX12_doubles 74 = .ok (.dup2, 1) := by decide +kernel
theorem dX12_doubles_75 : decode cX12_doubles 75 = .ok (.iaload, 1) := by decide +kernel
theorem dX12_doubles_76 : decode cX12_doubles 76 = .ok (.iconst 1, 1) := by decide +kernel
theorem dX12_doubles_77 : decode cX12_doubles 77 = .ok (.iadd, 1) := by decide +kernel
theorem dX12_doubles_78 : decode cX12_doubles 78 = .ok (.iastore, 1) := by decide +kernel
theorem dX12_doubles_79 : decode cX12_doubles 79 = .ok (.aload_n 0, 1) := by decide +kernel
theorem dX12_doubles_80 : decode cX12_doubles 80 = .ok (.getfield 7, 3) := by decide +kernel
theorem dX12_doubles_83 : decode cX12_doubles 83 = .ok (.sipush 976, 3) := by decide +kernel
theorem dX12_doubles_86 : decode cX12_doubles 86 = .ok (.iaload, 1) := by decide +kernel
theorem dX12_doubles_87 : decode cX12_doubles 87 = .ok (.ireturn, 1) := by decide +kernel
theorem dX12_twice_0 : decode cX12_twice 0 = .ok (.aload_n 0, 1) := by decide +kernel
theorem dX12_twice_1 : decode cX12_twice 1 = .ok (.iload_n 1, 1) := by decide +kernel
theorem dX12_twice_2 : decode cX12_twice 2 = .ok (.invokevirtual 251, 3) := by decide +kernel
theorem dX12_twice_5 : decode cX12_twice 5 = .ok (.ifCond .eq 11, 3) := by decide +kernel
theorem dX12_twice_8 : decode cX12_twice 8 = .ok (.aload_n 0, 1) := by decide +kernel
theorem dX12_twice_9 : decode cX12_twice 9 = .ok (.iload_n 1, 1) := by decide +kernel
theorem dX12_twice_10 : decode cX12_twice 10 = .ok (.invokevirtual 257, 3) := by decide +kernel
theorem dX12_twice_13 : decode cX12_twice 13 = .ok (.goto 4, 3) := by decide +kernel
theorem dX12_twice_16 : decode cX12_twice 16 = .ok (.iconst (-1), 1) := by decide +kernel
theorem dX12_twice_17 : decode cX12_twice 17 = .ok (.ireturn, 1) := by decide +kernel
theorem dX12_sendsAgain_0 : decode cX12_sendsAgain 0 = .ok (.aload_n 0, 1) := by decide +kernel
theorem dX12_sendsAgain_1 : decode cX12_sendsAgain 1 = .ok (.iload_n 1, 1) := by decide +kernel
theorem dX12_sendsAgain_2 : decode cX12_sendsAgain 2 = .ok (.iconst 1, 1) := by decide +kernel
theorem dX12_sendsAgain_3 : decode cX12_sendsAgain 3 = .ok (.invokevirtual 99, 3) := by decide +kernel
theorem dX12_sendsAgain_6 : decode cX12_sendsAgain 6 = .ok (.istore_n 2, 1) := by decide +kernel
theorem dX12_sendsAgain_7 : decode cX12_sendsAgain 7 = .ok (.iload_n 2, 1) := by decide +kernel
theorem dX12_sendsAgain_8 : decode cX12_sendsAgain 8 = .ok (.aload_n 0, 1) := by decide +kernel
theorem dX12_sendsAgain_9 : decode cX12_sendsAgain 9 = .ok (.iload_n 1, 1) := by decide +kernel
theorem dX12_sendsAgain_10 : decode cX12_sendsAgain 10 = .ok (.iconst 2, 1) := by decide +kernel
theorem dX12_sendsAgain_11 : decode cX12_sendsAgain 11 = .ok (.invokevirtual 99, 3) := by decide +kernel
theorem dX12_sendsAgain_14 : decode cX12_sendsAgain 14 = .ok (.if_icmp .ge 18, 3) := by decide +kernel
theorem dX12_sendsAgain_17 : decode cX12_sendsAgain 17 = .ok (.aload_n 0, 1) := by decide +kernel
theorem dX12_sendsAgain_18 : decode cX12_sendsAgain 18 = .ok (.iload_n 1, 1) := by decide +kernel
theorem dX12_sendsAgain_19 : decode cX12_sendsAgain 19 = .ok (.iload_n 2, 1) := by decide +kernel
theorem dX12_sendsAgain_20 : decode cX12_sendsAgain 20 = .ok (.invokevirtual 260, 3) := by decide +kernel
theorem dX12_sendsAgain_23 : decode cX12_sendsAgain 23 = .ok (.ifCond .eq 9, 3) := by decide +kernel
theorem dX12_sendsAgain_26 : decode cX12_sendsAgain 26 = .ok (.iinc 2 1, 3) := by decide +kernel
theorem dX12_sendsAgain_29 : decode cX12_sendsAgain 29 = .ok (.goto (-22), 3) := by decide +kernel
theorem dX12_sendsAgain_32 : decode cX12_sendsAgain 32 = .ok (.iload_n 2, 1) := by decide +kernel
theorem dX12_sendsAgain_33 : decode cX12_sendsAgain 33 = .ok (.aload_n 0, 1) := by decide +kernel
theorem dX12_sendsAgain_34 : decode cX12_sendsAgain 34 = .ok (.iload_n 1, 1) := by decide +kernel
theorem dX12_sendsAgain_35 : decode cX12_sendsAgain 35 = .ok (.iconst 2, 1) := by decide +kernel
theorem dX12_sendsAgain_36 : decode cX12_sendsAgain 36 = .ok (.invokevirtual 99, 3) := by decide +kernel
theorem dX12_sendsAgain_39 : decode cX12_sendsAgain 39 = .ok (.if_icmp .ne 4, 3) := by decide +kernel
theorem dX12_sendsAgain_42 : decode cX12_sendsAgain 42 = .ok (.return_, 1) := by decide +kernel
theorem dX12_sendsAgain_43 : decode cX12_sendsAgain 43 = .ok (.iload_n 2, 1) := by decide +kernel
theorem dX12_sendsAgain_44 : decode cX12_sendsAgain 44 = .ok (.ifCond .ne 11, 3) := by decide +kernel
theorem dX12_sendsAgain_47 : decode cX12_sendsAgain 47 = .ok (.aload_n 0, 1) := by decide +kernel
theorem dX12_sendsAgain_48 : decode cX12_sendsAgain 48 = .ok (.iload_n 1, 1) := by decide +kernel
theorem dX12_sendsAgain_49 : decode cX12_sendsAgain 49 = .ok (.invokevirtual 169, 3) := by decide +kernel
theorem dX12_sendsAgain_52 : decode cX12_sendsAgain 52 = .ok (.goto 105, 3) := by decide +kernel
theorem dX12_sendsAgain_55 : decode cX12_sendsAgain 55 = .ok (.iconst 0, 1) := by decide +kernel
theorem dX12_sendsAgain_56 : decode cX12_sendsAgain 56 = .ok (.istore_n 3, 1) := by decide +kernel
theorem dX12_sendsAgain_57 : decode cX12_sendsAgain 57 = .ok (.iload_n 3, 1) := by decide +kernel
theorem dX12_sendsAgain_58 : decode cX12_sendsAgain 58 = .ok (.aload_n 0, 1) := by decide +kernel
theorem dX12_sendsAgain_59 : decode cX12_sendsAgain 59 = .ok (.getfield 25, 3) := by decide +kernel
theorem dX12_sendsAgain_62 : decode cX12_sendsAgain 62 = .ok (.if_icmp .ge 44, 3) := by decide +kernel
theorem dX12_sendsAgain_65 : decode cX12_sendsAgain 65 = .ok (.iload_n 2, 1) := by decide +kernel
theorem dX12_sendsAgain_66 : decode cX12_sendsAgain 66 = .ok (.iload_n 3, 1) := by decide +kernel
theorem dX12_sendsAgain_67 : decode cX12_sendsAgain 67 = .ok (.iadd, 1) := by decide +kernel
theorem dX12_sendsAgain_68 : decode cX12_sendsAgain 68 = .ok (.aload_n 0, 1) := by decide +kernel
theorem dX12_sendsAgain_69 : decode cX12_sendsAgain 69 = .ok (.iload_n 1, 1) := by decide +kernel
theorem dX12_sendsAgain_70 : decode cX12_sendsAgain 70 = .ok (.iconst 2, 1) := by decide +kernel
theorem dX12_sendsAgain_71 : decode cX12_sendsAgain 71 = .ok (.invokevirtual 99, 3) := by decide +kernel
theorem dX12_sendsAgain_74 : decode cX12_sendsAgain 74 = .ok (.if_icmp .ge 32, 3) := by decide +kernel
theorem dX12_sendsAgain_77 : decode cX12_sendsAgain 77 = .ok (.iload_n 2, 1) := by decide +kernel
theorem dX12_sendsAgain_78 : decode cX12_sendsAgain 78 = .ok (.iload_n 3, 1) := by decide +kernel
theorem dX12_sendsAgain_79 : decode cX12_sendsAgain 79 = .ok (.iadd, 1) := by decide +kernel
theorem dX12_sendsAgain_80 : decode cX12_sendsAgain 80 = .ok (.aload_n 0, 1) := by decide +kernel
theorem dX12_sendsAgain_81 : decode cX12_sendsAgain 81 = .ok (.iload_n 1, 1) := by decide +kernel
theorem dX12_sendsAgain_82 : decode cX12_sendsAgain 82 = .ok (.iconst 4, 1) := by decide +kernel
theorem dX12_sendsAgain_83 : decode cX12_sendsAgain 83 = .ok (.invokevirtual 99, 3) := by decide +kernel
theorem dX12_sendsAgain_86 : decode cX12_sendsAgain 86 = .ok (.if_icmp .gt 20, 3) := by decide +kernel
theorem dX12_sendsAgain_89 : decode cX12_sendsAgain 89 = .ok (.aload_n 0, 1) := by decide +kernel
theorem dX12_sendsAgain_90 : decode cX12_sendsAgain 90 = .ok (.iload_n 1, 1) := by decide +kernel
theorem dX12_sendsAgain_91 : decode cX12_sendsAgain 91 = .ok (.iload_n 2, 1) := by decide +kernel
theorem dX12_sendsAgain_92 : decode cX12_sendsAgain 92 = .ok (.iload_n 3, 1) := by decide +kernel
theorem dX12_sendsAgain_93 : decode cX12_sendsAgain 93 = .ok (.iadd, 1) := by decide +kernel
theorem dX12_sendsAgain_94 : decode cX12_sendsAgain 94 = .ok (.invokevirtual 260, 3) := by decide +kernel
theorem dX12_sendsAgain_97 : decode cX12_sendsAgain 97 = .ok (.ifCond .ne 9, 3) := by decide +kernel
theorem dX12_sendsAgain_100 : decode cX12_sendsAgain 100 = .ok (.iinc 3 1, 3) := by decide +kernel
theorem dX12_sendsAgain_103 : decode cX12_sendsAgain 103 = .ok (.goto (-46), 3) := by decide +kernel
theorem dX12_sendsAgain_106 : decode cX12_sendsAgain 106 = .ok (.iload_n 2, 1) := by decide +kernel
theorem dX12_sendsAgain_107 : decode cX12_sendsAgain 107 = .ok (.iload_n 3, 1) := by decide +kernel
theorem dX12_sendsAgain_108 : decode cX12_sendsAgain 108 = .ok (.iadd, 1) := by decide +kernel
theorem dX12_sendsAgain_109 : decode cX12_sendsAgain 109 = .ok (.istore 4, 2) := by decide +kernel
theorem dX12_sendsAgain_111 : decode cX12_sendsAgain 111 = .ok (.aload_n 0, 1) := by decide +kernel
theorem dX12_sendsAgain_112 : decode cX12_sendsAgain 112 = .ok (.iload_n 1, 1) := by decide +kernel
theorem dX12_sendsAgain_113 : decode cX12_sendsAgain 113 = .ok (.iload_n 2, 1) := by decide +kernel
theorem dX12_sendsAgain_114 : decode cX12_sendsAgain 114 = .ok (.iload_n 3, 1) := by decide +kernel
theorem dX12_sendsAgain_115 : decode cX12_sendsAgain 115 = .ok (.iload 4, 2) := by decide +kernel
theorem dX12_sendsAgain_117 : decode cX12_sendsAgain 117 = .ok (.aload_n 0, 1) := by decide +kernel
theorem dX12_sendsAgain_118 : decode cX12_sendsAgain 118 = .ok (.iload_n 1, 1) := by decide +kernel
theorem dX12_sendsAgain_119 : decode cX12_sendsAgain 119 = .ok (.iconst 4, 1) := by decide +kernel
theorem dX12_sendsAgain_120 : decode cX12_sendsAgain 120 = .ok (.invokevirtual 99, 3) := by decide +kernel
theorem dX12_sendsAgain_123 : decode cX12_sendsAgain 123 = .ok (.iconst 1, 1) := by decide +kernel
theorem dX12_sendsAgain_124 : decode cX12_sendsAgain 124 = .ok (.iadd, 1) := by decide +kernel
theorem dX12_sendsAgain_125 : decode cX12_sendsAgain 125 = .ok (.if_icmp .ne 28, 3) := by decide +kernel
theorem dX12_sendsAgain_128 : decode cX12_sendsAgain 128 = .ok (.iload 4, 2) := by decide +kernel
theorem dX12_sendsAgain_130 : decode cX12_sendsAgain 130 = .ok (.aload_n 0, 1) := by decide +kernel
theorem dX12_sendsAgain_131 : decode cX12_sendsAgain 131 = .ok (.iload_n 1, 1) := by decide +kernel
theorem dX12_sendsAgain_132 : decode cX12_sendsAgain 132 = .ok (.iconst 2, 1) := by decide +kernel
theorem dX12_sendsAgain_133 : decode cX12_sendsAgain 133 = .ok (.invokevirtual 99, 3) := by decide +kernel
theorem dX12_sendsAgain_136 : decode cX12_sendsAgain 136 = .ok (.if_icmp .ge 17, 3) := by decide +kernel
theorem dX12_sendsAgain_139 : decode cX12_sendsAgain 139 = .ok (.aload_n 0, 1) := by decide +kernel
theorem dX12_sendsAgain_140 : decode cX12_sendsAgain 140 = .ok (.iload_n 1, 1) := by decide +kernel
theorem dX12_sendsAgain_141 : decode cX12_sendsAgain 141 = .ok (.iload 4, 2) := by decide +kernel
theorem dX12_sendsAgain_143 : decode cX12_sendsAgain 143 = .ok (.invokevirtual 260, 3) := by decide +kernel
theorem dX12_sendsAgain_146 : decode cX12_sendsAgain 146 = .ok (.ifCond .ne 7, 3) := by decide +kernel
theorem dX12_sendsAgain_149 : decode cX12_sendsAgain 149 = .ok (.iconst 1, 1) := by decide +kernel
theorem dX12_sendsAgain_150 : decode cX12_sendsAgain 150 = .ok (.goto 4, 3) := by decide +kernel
theorem dX12_sendsAgain_153 : decode cX12_sendsAgain 153 = .ok (.iconst 0, 1) := by decide +kernel
theorem dX12_sendsAgain_154 : decode cX12_sendsAgain 154 = .ok (.invokevirtual 139, 3) := by decide +kernel
theorem dX12_sendsAgain_157 : decode cX12_sendsAgain 157 = .ok (.aload_n 0, 1) := by decide +kernel
theorem dX12_sendsAgain_158 : decode cX12_sendsAgain 158 = .ok (.getfield 7, 3) := by decide +kernel
theorem dX12_sendsAgain_161 : decode cX12_sendsAgain 161 = .ok (.sipush 980, 3) := by decide +kernel
theorem dX12_sendsAgain_164 : decode cX12_sendsAgain 164 = .ok (.dup2, 1) := by decide +kernel
theorem dX12_sendsAgain_165 : decode cX12_sendsAgain 165 = .ok (.iaload, 1) := by decide +kernel
theorem dX12_sendsAgain_166 : decode cX12_sendsAgain 166 = .ok (.iconst 1, 1) := by decide +kernel
theorem dX12_sendsAgain_167 : decode cX12_sendsAgain 167 = .ok (.iadd, 1) := by decide +kernel
theorem dX12_sendsAgain_168 : decode cX12_sendsAgain 168 = .ok (.iastore, 1) := by decide +kernel
theorem dX12_sendsAgain_169 : decode cX12_sendsAgain 169 = .ok (.aload_n 0, 1) := by decide +kernel
theorem dX12_sendsAgain_170 : decode cX12_sendsAgain 170 = .ok (.iload_n 1, 1) := by decide +kernel
theorem dX12_sendsAgain_171 : decode cX12_sendsAgain 171 = .ok (.bipush 16, 2) := by decide +kernel
theorem dX12_sendsAgain_173 : decode cX12_sendsAgain 173 = .ok (.bipush (-4), 2) := by decide +kernel
theorem dX12_sendsAgain_175 : decode cX12_sendsAgain 175 = .ok (.invokevirtual 95, 3) := by decide +kernel
theorem dX12_sendsAgain_178 : decode cX12_sendsAgain 178 = .ok (.return_, 1) := by decide +kernel
theorem dX12_asks_0 : decode cX12_asks 0 = .ok (.aload_n 0, 1) := by decide +kernel
theorem dX12_asks_1 : decode cX12_asks 1 = .ok (.iload_n 1, 1) := by decide +kernel
theorem dX12_asks_2 : decode cX12_asks 2 = .ok (.iconst 2, 1) := by decide +kernel
theorem dX12_asks_3 : decode cX12_asks 3 = .ok (.invokevirtual 99, 3) := by decide +kernel
theorem dX12_asks_6 : decode cX12_asks 6 = .ok (.istore_n 2, 1) := by decide +kernel
theorem dX12_asks_7 : decode cX12_asks 7 = .ok (.iload_n 2, 1) := by decide +kernel
theorem dX12_asks_8 : decode cX12_asks 8 = .ok (.aload_n 0, 1) := by decide +kernel
theorem dX12_asks_9 : decode cX12_asks 9 = .ok (.iload_n 1, 1) := by decide +kernel
theorem dX12_asks_10 : decode cX12_asks 10 = .ok (.iconst 3, 1) := by decide +kernel
theorem dX12_asks_11 : decode cX12_asks 11 = .ok (.invokevirtual 99, 3) := by decide +kernel
theorem dX12_asks_14 : decode cX12_asks 14 = .ok (.if_icmp .ge 36, 3) := by decide +kernel
theorem dX12_asks_17 : decode cX12_asks 17 = .ok (.aload_n 0, 1) := by decide +kernel
theorem dX12_asks_18 : decode cX12_asks 18 = .ok (.iload_n 1, 1) := by decide +kernel
theorem dX12_asks_19 : decode cX12_asks 19 = .ok (.aload_n 0, 1) := by decide +kernel
theorem dX12_asks_20 : decode cX12_asks 20 = .ok (.getfield 25, 3) := by decide +kernel
theorem dX12_asks_23 : decode cX12_asks 23 = .ok (.aload_n 0, 1) := by decide +kernel
theorem dX12_asks_24 : decode cX12_asks 24 = .ok (.iload_n 1, 1) := by decide +kernel
theorem dX12_asks_25 : decode cX12_asks 25 = .ok (.iload_n 2, 1) := by decide +kernel
theorem dX12_asks_26 : decode cX12_asks 26 = .ok (.invokevirtual 109, 3) := by decide +kernel
theorem dX12_asks_29 : decode cX12_asks 29 = .ok (.aload_n 0, 1) := by decide +kernel
theorem dX12_asks_30 : decode cX12_asks 30 = .ok (.iload_n 1, 1) := by decide +kernel
theorem dX12_asks_31 : decode cX12_asks 31 = .ok (.iconst 3, 1) := by decide +kernel
theorem dX12_asks_32 : decode cX12_asks 32 = .ok (.invokevirtual 99, 3) := by decide +kernel
theorem dX12_asks_35 : decode cX12_asks 35 = .ok (.iload_n 2, 1) := by decide +kernel
theorem dX12_asks_36 : decode cX12_asks 36 = .ok (.isub, 1) := by decide +kernel
theorem dX12_asks_37 : decode cX12_asks 37 = .ok (.invokestatic 146, 3) := by decide +kernel
theorem dX12_asks_40 : decode cX12_asks 40 = .ok (.invokestatic 146, 3) := by decide +kernel
theorem dX12_asks_43 : decode cX12_asks 43 = .ok (.iconst 0, 1) := by decide +kernel
theorem dX12_asks_44 : decode cX12_asks 44 = .ok (.invokevirtual 149, 3) := by decide +kernel
theorem dX12_asks_47 : decode cX12_asks 47 = .ok (.goto 21, 3) := by decide +kernel
theorem dX12_asks_50 : decode cX12_asks 50 = .ok (.aload_n 0, 1) := by decide +kernel
theorem dX12_asks_51 : decode cX12_asks 51 = .ok (.iload_n 1, 1) := by decide +kernel
theorem dX12_asks_52 : decode cX12_asks 52 = .ok (.iconst 4, 1) := by decide +kernel
theorem dX12_asks_53 : decode cX12_asks 53 = .ok (.aload_n 0, 1) := by decide +kernel
theorem dX12_asks_54 : decode cX12_asks 54 = .ok (.iload_n 1, 1) := by decide +kernel
theorem dX12_asks_55 : decode cX12_asks 55 = .ok (.iload_n 2, 1) := by decide +kernel
theorem dX12_asks_56 : decode cX12_asks 56 = .ok (.iconst 1, 1) := by decide +kernel
theorem dX12_asks_57 : decode cX12_asks 57 = .ok (.isub, 1) := by decide +kernel
theorem dX12_asks_58 : decode cX12_asks 58 = .ok (.invokevirtual 112, 3) := by decide +kernel
theorem dX12_asks_61 : decode cX12_asks 61 = .ok (.invokevirtual 126, 3) := by decide +kernel
theorem dX12_asks_64 : decode cX12_asks 64 = .ok (.aload_n 0, 1) := by decide +kernel
theorem dX12_asks_65 : decode cX12_asks 65 = .ok (.invokevirtual 129, 3) := by decide +kernel
theorem dX12_asks_68 : decode cX12_asks 68 = .ok (.return_, 1) := by decide +kernel
theorem dX12_clocks_0 : decode cX12_clocks 0 = .ok (.aload_n 0, 1) := by decide +kernel
theorem dX12_clocks_1 : decode cX12_clocks 1 = .ok (.iload_n 1, 1) := by decide +kernel
theorem dX12_clocks_2 : decode cX12_clocks 2 = .ok (.bipush 11, 2) := by decide +kernel
theorem dX12_clocks_4 : decode cX12_clocks 4 = .ok (.aload_n 0, 1) := by decide +kernel
theorem dX12_clocks_5 : decode cX12_clocks 5 = .ok (.iload_n 1, 1) := by decide +kernel
theorem dX12_clocks_6 : decode cX12_clocks 6 = .ok (.bipush 11, 2) := by decide +kernel
theorem dX12_clocks_8 : decode cX12_clocks 8 = .ok (.invokevirtual 99, 3) := by decide +kernel
theorem dX12_clocks_11 : decode cX12_clocks 11 = .ok (.iconst 1, 1) := by decide +kernel
theorem dX12_clocks_12 : decode cX12_clocks 12 = .ok (.isub, 1) := by decide +kernel
theorem dX12_clocks_13 : decode cX12_clocks 13 = .ok (.invokevirtual 95, 3) := by decide +kernel
theorem dX12_clocks_16 : decode cX12_clocks 16 = .ok (.aload_n 0, 1) := by decide +kernel
theorem dX12_clocks_17 : decode cX12_clocks 17 = .ok (.iload_n 1, 1) := by decide +kernel
theorem dX12_clocks_18 : decode cX12_clocks 18 = .ok (.bipush 11, 2) := by decide +kernel
theorem dX12_clocks_20 : decode cX12_clocks 20 = .ok (.invokevirtual 99, 3) := by decide +kernel
theorem dX12_clocks_23 : decode cX12_clocks 23 = .ok (.ifCond .le 4, 3) := by decide +kernel
theorem dX12_clocks_26 : decode cX12_clocks 26 = .ok (.return_, 1) := by decide +kernel
theorem dX12_clocks_27 : decode cX12_clocks 27 = .ok (.aload_n 0, 1) := by decide +kernel
theorem dX12_clocks_28 : decode cX12_clocks 28 = .ok (.iload_n 1, 1) := by decide +kernel
theorem dX12_clocks_29 : decode cX12_clocks 29 = .ok (.iconst 1, 1) := by decide +kernel
theorem dX12_clocks_30 : decode cX12_clocks 30 = .ok (.invokevirtual 99, 3) := by decide +kernel
theorem dX12_clocks_33 : decode cX12_clocks 33 = .ok (.aload_n 0, 1) := by decide +kernel
theorem dX12_clocks_34 : decode cX12_clocks 34 = .ok (.iload_n 1, 1) := by decide +kernel
theorem dX12_clocks_35 : decode cX12_clocks 35 = .ok (.iconst 2, 1) := by decide +kernel
theorem dX12_clocks_36 : decode cX12_clocks 36 = .ok (.invokevirtual 99, 3) := by decide +kernel
theorem dX12_clocks_39 : decode cX12_clocks 39 = .ok (.if_icmp .ge 11, 3) := by decide +kernel
theorem dX12_clocks_42 : decode cX12_clocks 42 = .ok (.aload_n 0, 1) := by decide +kernel
theorem dX12_clocks_43 : decode cX12_clocks 43 = .ok (.iload_n 1, 1) := by decide +kernel
theorem dX12_clocks_44 : decode cX12_clocks 44 = .ok (.invokevirtual 263, 3) := by decide +kernel
theorem dX12_clocks_47 : decode cX12_clocks 47 = .ok (.goto 16, 3) := by decide +kernel
theorem dX12_clocks_50 : decode cX12_clocks 50 = .ok (.aload_n 0, 1) := by decide +kernel
theorem dX12_clocks_51 : decode cX12_clocks 51 = .ok (.iload_n 1, 1) := by decide +kernel
theorem dX12_clocks_52 : decode cX12_clocks 52 = .ok (.invokevirtual 157, 3) := by decide +kernel
theorem dX12_clocks_55 : decode cX12_clocks 55 = .ok (.ifCond .eq 8, 3) := by decide +kernel
theorem dX12_clocks_58 : decode cX12_clocks 58 = .ok (.aload_n 0, 1) := by decide +kernel
theorem dX12_clocks_59 : decode cX12_clocks 59 = .ok (.iload_n 1, 1) := by decide +kernel
theorem dX12_clocks_60 : decode cX12_clocks 60 = .ok (.invokevirtual 266, 3) := by decide +kernel
theorem dX12_clocks_63 : decode cX12_clocks 63 = .ok (.aload_n 0, 1) := by decide +kernel
theorem dX12_clocks_64 : decode cX12_clocks 64 = .ok (.iload_n 1, 1) := by decide +kernel
theorem dX12_clocks_65 : decode cX12_clocks 65 = .ok (.bipush 8, 2) := by decide +kernel
theorem dX12_clocks_67 : decode cX12_clocks 67 = .ok (.bipush 64, 2) := by decide +kernel
theorem dX12_clocks_69 : decode cX12_clocks 69 = .ok (.iconst 2, 1) := by decide +kernel
theorem dX12_clocks_70 : decode cX12_clocks 70 = .ok (.aload_n 0, 1) := by decide +kernel
theorem dX12_clocks_71 : decode cX12_clocks 71 = .ok (.iload_n 1, 1) := by decide +kernel
theorem dX12_clocks_72 : decode cX12_clocks 72 = .ok (.bipush 8, 2) := by decide +kernel
theorem dX12_clocks_74 : decode cX12_clocks 74 = .ok (.invokevirtual 99, 3) := by decide +kernel
theorem dX12_clocks_77 : decode cX12_clocks 77 = .ok (.imul, 1) := by decide +kernel
theorem dX12_clocks_78 : decode cX12_clocks 78 = .ok (.invokestatic 146, 3) := by decide +kernel
theorem dX12_clocks_81 : decode cX12_clocks 81 = .ok (.invokevirtual 95, 3) := by decide +kernel
theorem dX12_clocks_84 : decode cX12_clocks 84 = .ok (.aload_n 0, 1) := by decide +kernel
theorem dX12_clocks_85 : decode cX12_clocks 85 = .ok (.iload_n 1, 1) := by decide +kernel
theorem dX12_clocks_86 : decode cX12_clocks 86 = .ok (.invokevirtual 166, 3) := by decide +kernel
theorem dX12_clocks_89 : decode cX12_clocks 89 = .ok (.return_, 1) := by decide +kernel
theorem dX12_ticks_0 : decode cX12_ticks 0 = .ok (.aload_n 0, 1) := by decide +kernel
theorem dX12_ticks_1 : decode cX12_ticks 1 = .ok (.getfield 7, 3) := by decide +kernel
theorem dX12_ticks_4 : decode cX12_ticks 4 = .ok (.sipush 977, 3) := by decide +kernel
theorem dX12_ticks_7 : decode cX12_ticks 7 = .ok (.dup2, 1) := by decide +kernel
theorem dX12_ticks_8 : decode cX12_ticks 8 = .ok (.iaload, 1) := by decide +kernel
theorem dX12_ticks_9 : decode cX12_ticks 9 = .ok (.iconst 1, 1) := by decide +kernel
theorem dX12_ticks_10 : decode cX12_ticks 10 = .ok (.iadd, 1) := by decide +kernel
theorem dX12_ticks_11 : decode cX12_ticks 11 = .ok (.iastore, 1) := by decide +kernel
theorem dX12_ticks_12 : decode cX12_ticks 12 = .ok (.iconst 0, 1) := by decide +kernel
theorem dX12_ticks_13 : decode cX12_ticks 13 = .ok (.istore_n 1, 1) := by decide +kernel
theorem dX12_ticks_14 : decode cX12_ticks 14 = .ok (.iload_n 1, 1) := by decide +kernel
theorem dX12_ticks_15 : decode cX12_ticks 15 = .ok (.iconst 2, 1) := by decide +kernel
theorem dX12_ticks_16 : decode cX12_ticks 16 = .ok (.if_icmp .ge 65, 3) := by decide +kernel
theorem dX12_ticks_19 : decode cX12_ticks 19 = .ok (.aload_n 0, 1) := by decide +kernel
theorem dX12_ticks_20 : decode cX12_ticks 20 = .ok (.iload_n 1, 1) := by decide +kernel
theorem dX12_ticks_21 : decode cX12_ticks 21 = .ok (.bipush 12, 2) := by decide +kernel
theorem dX12_ticks_23 : decode cX12_ticks 23 = .ok (.invokevirtual 99, 3) := by decide +kernel
theorem dX12_ticks_26 : decode cX12_ticks 26 = .ok (.ifCond .le 34, 3) := by decide +kernel
theorem dX12_ticks_29 : decode cX12_ticks 29 = .ok (.aload_n 0, 1) := by decide +kernel
theorem dX12_ticks_30 : decode cX12_ticks 30 = .ok (.iload_n 1, 1) := by decide +kernel
theorem dX12_ticks_31 : decode cX12_ticks 31 = .ok (.bipush 12, 2) := by decide +kernel
theorem dX12_ticks_33 : decode cX12_ticks 33 = .ok (.aload_n 0, 1) := by decide +kernel
theorem dX12_ticks_34 : decode cX12_ticks 34 = .ok (.iload_n 1, 1) := by decide +kernel
theorem dX12_ticks_35 : decode cX12_ticks 35 = .ok (.bipush 12, 2) := by decide +kernel
theorem dX12_ticks_37 : decode cX12_ticks 37 = .ok (.invokevirtual 99, 3) := by decide +kernel
theorem dX12_ticks_40 : decode cX12_ticks 40 = .ok (.iconst 1, 1) := by decide +kernel
theorem dX12_ticks_41 : decode cX12_ticks 41 = .ok (.isub, 1) := by decide +kernel
theorem dX12_ticks_42 : decode cX12_ticks 42 = .ok (.invokevirtual 95, 3) := by decide +kernel
theorem dX12_ticks_45 : decode cX12_ticks 45 = .ok (.aload_n 0, 1) := by decide +kernel
theorem dX12_ticks_46 : decode cX12_ticks 46 = .ok (.iload_n 1, 1) := by decide +kernel
theorem dX12_ticks_47 : decode cX12_ticks 47 = .ok (.bipush 12, 2) := by decide +kernel
theorem dX12_ticks_49 : decode cX12_ticks 49 = .ok (.invokevirtual 99, 3) := by decide +kernel
theorem dX12_ticks_52 : decode cX12_ticks 52 = .ok (.ifCond .ne 8, 3) := by decide +kernel
theorem dX12_ticks_55 : decode cX12_ticks 55 = .ok (.aload_n 0, 1) := by decide +kernel
theorem dX12_ticks_56 : decode cX12_ticks 56 = .ok (.iload_n 1, 1) := by decide +kernel
theorem dX12_ticks_57 : decode cX12_ticks 57 = .ok (.invokevirtual 180, 3) := by decide +kernel
theorem dX12_ticks_60 : decode cX12_ticks 60 = .ok (.aload_n 0, 1) := by decide +kernel
theorem dX12_ticks_61 : decode cX12_ticks 61 = .ok (.iload_n 1, 1) := by decide +kernel
theorem dX12_ticks_62 : decode cX12_ticks 62 = .ok (.bipush 11, 2) := by decide +kernel
theorem dX12_ticks_64 : decode cX12_ticks 64 = .ok (.invokevirtual 99, 3) := by decide +kernel
theorem dX12_ticks_67 : decode cX12_ticks 67 = .ok (.ifCond .le 8, 3) := by decide +kernel
theorem dX12_ticks_70 : decode cX12_ticks 70 = .ok (.aload_n 0, 1) := by decide +kernel
theorem dX12_ticks_71 : decode cX12_ticks 71 = .ok (.iload_n 1, 1) := by decide +kernel
theorem dX12_ticks_72 : decode cX12_ticks 72 = .ok (.invokevirtual 269, 3) := by decide +kernel
theorem dX12_ticks_75 : decode cX12_ticks 75 = .ok (.iinc 1 1, 3) := by decide +kernel
theorem dX12_ticks_78 : decode cX12_ticks 78 = .ok (.goto (-64), 3) := by decide +kernel
theorem dX12_ticks_81 : decode cX12_ticks 81 = .ok (.return_, 1) := by decide +kernel
theorem dX12_pass_0 : decode cX12_pass 0 = .ok (.iload_n 1, 1) := by decide +kernel
theorem dX12_pass_1 : decode cX12_pass 1 = .ok (.i2l, 1) := by decide +kernel
theorem dX12_pass_2 : decode cX12_pass 2 = .ok (.lconst 1, 1) := by decide +kernel
theorem dX12_pass_3 : decode cX12_pass 3 = .ok (.ldc2_w 272, 3) := by decide +kernel
theorem dX12_pass_6 : decode cX12_pass 6 = .ok (.invokestatic 54, 3) := by decide +kernel
theorem dX12_pass_9 : decode cX12_pass 9 = .ok (.ifCond .ne 5, 3) := by decide +kernel
theorem dX12_pass_12 : decode cX12_pass 12 = .ok (.iconst (-1), 1) := by decide +kernel
theorem dX12_pass_13 : decode cX12_pass 13 = .ok (.ireturn, 1) := by decide +kernel
theorem dX12_pass_14 : decode cX12_pass 14 = .ok (.iconst 0, 1) := by decide +kernel
theorem dX12_pass_15 : decode cX12_pass 15 = .ok (.istore_n 2, 1) := by decide +kernel
theorem dX12_pass_16 : decode cX12_pass 16 = .ok (.iload_n 2, 1) := by decide +kernel
theorem dX12_pass_17 : decode cX12_pass 17 = .ok (.iload_n 1, 1) := by decide +kernel
theorem dX12_pass_18 : decode cX12_pass 18 = .ok (.if_icmp .ge 13, 3) := by decide +kernel
theorem dX12_pass_21 : decode cX12_pass 21 = .ok (.aload_n 0, 1) := by decide +kernel
theorem dX12_pass_22 : decode cX12_pass 22 = .ok (.invokevirtual 274, 3) := by decide +kernel
theorem dX12_pass_25 : decode cX12_pass 25 = .ok (.iinc 2 1, 3) := by decide +kernel
theorem dX12_pass_28 : decode cX12_pass 28 = .ok (.goto (-12), 3) := by decide +kernel
theorem dX12_pass_31 : decode cX12_pass 31 = .ok (.aload_n 0, 1) := by decide +kernel
theorem dX12_pass_32 : decode cX12_pass 32 = .ok (.getfield 7, 3) := by decide +kernel
theorem dX12_pass_35 : decode cX12_pass 35 = .ok (.sipush 977, 3) := by decide +kernel
theorem dX12_pass_38 : decode cX12_pass 38 = .ok (.iaload, 1) := by decide +kernel
theorem dX12_pass_39 : decode cX12_pass 39 = .ok (.ireturn, 1) := by decide +kernel
theorem dX12_drive_0 : decode cX12_drive 0 = .ok (.iload_n 1, 1) := by decide +kernel
theorem dX12_drive_1 : decode cX12_drive 1 = .ok (.i2l, 1) := by decide +kernel
theorem dX12_drive_2 : decode cX12_drive 2 = .ok (.lconst 0, 1) := by decide +kernel
theorem dX12_drive_3 : decode cX12_drive 3 = .ok (.ldc2_w 277, 3) := by decide +kernel
theorem dX12_drive_6 : decode cX12_drive 6 = .ok (.invokestatic 54, 3) := by decide +kernel
theorem dX12_drive_9 : decode cX12_drive 9 = .ok (.ifCond .eq 15, 3) := by decide +kernel
theorem dX12_drive_12 : decode cX12_drive 12 = .ok (.iload_n 2, 1) := by decide +kernel
theorem dX12_drive_13 : decode cX12_drive 13 = .ok (.i2l, 1) := by decide +kernel
theorem dX12_drive_14 : decode cX12_drive 14 = .ok (.lconst 1, 1) := by decide +kernel
theorem dX12_drive_15 : decode cX12_drive 15 = .ok (.ldc2_w 279, 3) := by decide +kernel
theorem dX12_drive_18 : decode cX12_drive 18 = .ok (.invokestatic 54, 3) := by decide +kernel
theorem dX12_drive_21 : decode cX12_drive 21 = .ok (.ifCond .ne 5, 3) := by decide +kernel
theorem dX12_drive_24 : decode cX12_drive 24 = .ok (.iconst (-1), 1) := by decide +kernel
theorem dX12_drive_25 : decode cX12_drive 25 = .ok (.ireturn, 1) := by decide +kernel
theorem dX12_drive_26 : decode cX12_drive 26 = .ok (.iconst 0, 1) := by decide +kernel
theorem dX12_drive_27 : decode cX12_drive 27 = .ok (.istore_n 3, 1) := by decide +kernel
theorem dX12_drive_28 : decode cX12_drive 28 = .ok (.iload_n 3, 1) := by decide +kernel
theorem dX12_drive_29 : decode cX12_drive 29 = .ok (.iload_n 2, 1) := by decide +kernel
theorem dX12_drive_30 : decode cX12_drive 30 = .ok (.if_icmp .ge 128, 3) := by decide +kernel
theorem dX12_drive_33 : decode cX12_drive 33 = .ok (.ldc2_w 281, 3) := by decide +kernel
theorem dX12_drive_36 : decode cX12_drive 36 = .ok (.iload_n 1, 1) := by decide +kernel
theorem dX12_drive_37 : decode cX12_drive 37 = .ok (.i2l, 1) := by decide +kernel
theorem dX12_drive_38 : decode cX12_drive 38 = .ok (.lmul, 1) := by decide +kernel
theorem dX12_drive_39 : decode cX12_drive 39 = .ok (.ldc2_w 283, 3) := by decide +kernel
theorem dX12_drive_42 : decode cX12_drive 42 = .ok (.iload_n 3, 1) := by decide +kernel
theorem dX12_drive_43 : decode cX12_drive 43 = .ok (.i2l, 1) := by decide +kernel
theorem dX12_drive_44 : decode cX12_drive 44 = .ok (.lmul, 1) := by decide +kernel
theorem dX12_drive_45 : decode cX12_drive 45 = .ok (.ladd, 1) := by decide +kernel
theorem dX12_drive_46 : decode cX12_drive 46 = .ok (.lconst 1, 1) := by decide +kernel
theorem dX12_drive_47 : decode cX12_drive 47 = .ok (.ladd, 1) := by decide +kernel
theorem dX12_drive_48 : decode cX12_drive 48 = .ok (.lstore 4, 2) := by decide +kernel
theorem dX12_drive_50 : decode cX12_drive 50 = .ok (.lload 4, 2) := by decide +kernel
theorem dX12_drive_52 : decode cX12_drive 52 = .ok (.lload 4, 2) := by decide +kernel
theorem dX12_drive_54 : decode cX12_drive 54 = .ok (.lmul, 1) := by decide +kernel
theorem dX12_drive_55 : decode cX12_drive 55 = .ok (.ldc2_w 285, 3) := by decide +kernel
theorem dX12_drive_58 : decode cX12_drive 58 = .ok (.lrem, 1) := by decide +kernel
theorem dX12_drive_59 : decode cX12_drive 59 = .ok (.l2i, 1) := by decide +kernel
theorem dX12_drive_60 : decode cX12_drive 60 = .ok (.istore 6, 2) := by decide +kernel
theorem dX12_drive_62 : decode cX12_drive 62 = .ok (.aload_n 0, 1) := by decide +kernel
theorem dX12_drive_63 : decode cX12_drive 63 = .ok (.getfield 7, 3) := by decide +kernel
theorem dX12_drive_66 : decode cX12_drive 66 = .ok (.sipush 976, 3) := by decide +kernel
theorem dX12_drive_69 : decode cX12_drive 69 = .ok (.iaload, 1) := by decide +kernel
theorem dX12_drive_70 : decode cX12_drive 70 = .ok (.ifCond .eq 11, 3) := by decide +kernel
theorem dX12_drive_73 : decode cX12_drive 73 = .ok (.iload 6, 2) := by decide +kernel
theorem dX12_drive_75 : decode cX12_drive 75 = .ok (.bipush 8, 2) := by decide +kernel
theorem dX12_drive_77 : decode cX12_drive 77 = .ok (.irem, 1) := by decide +kernel
theorem dX12_drive_78 : decode cX12_drive 78 = .ok (.ifCond .ne 10, 3) := by decide +kernel
theorem dX12_drive_81 : decode cX12_drive 81 = .ok (.aload_n 0, 1) := by decide +kernel
theorem dX12_drive_82 : decode cX12_drive 82 = .ok (.invokevirtual 274, 3) := by decide +kernel
theorem dX12_drive_85 : decode cX12_drive 85 = .ok (.goto 67, 3) := by decide +kernel
theorem dX12_drive_88 : decode cX12_drive 88 = .ok (.iload 6, 2) := by decide +kernel
theorem dX12_drive_90 : decode cX12_drive 90 = .ok (.bipush 8, 2) := by decide +kernel
theorem dX12_drive_92 : decode cX12_drive 92 = .ok (.idiv, 1) := by decide +kernel
theorem dX12_drive_93 : decode cX12_drive 93 = .ok (.aload_n 0, 1) := by decide +kernel
theorem dX12_drive_94 : decode cX12_drive 94 = .ok (.getfield 7, 3) := by decide +kernel
theorem dX12_drive_97 : decode cX12_drive 97 = .ok (.sipush 976, 3) := by decide +kernel
theorem dX12_drive_100 : decode cX12_drive 100 = .ok (.iaload, 1) := by decide +kernel
theorem dX12_drive_101 : decode cX12_drive 101 = .ok (.irem, 1) := by decide +kernel
theorem dX12_drive_102 : decode cX12_drive 102 = .ok (.istore 7, 2) := by decide +kernel
theorem dX12_drive_104 : decode cX12_drive 104 = .ok (.iload 6, 2) := by decide +kernel
theorem dX12_drive_106 : decode cX12_drive 106 = .ok (.sipush 256, 3) := by decide +kernel
theorem dX12_drive_109 : decode cX12_drive 109 = .ok (.idiv, 1) := by decide +kernel
theorem dX12_drive_110 : decode cX12_drive 110 = .ok (.bipush 8, 2) := by decide +kernel
theorem dX12_drive_112 : decode cX12_drive 112 = .ok (.irem, 1) := by decide +kernel
theorem dX12_drive_113 : decode cX12_drive 113 = .ok (.istore 8, 2) := by decide +kernel
theorem dX12_drive_115 : decode cX12_drive 115 = .ok (.iload 8, 2) := by decide +kernel
theorem dX12_drive_117 : decode cX12_drive 117 = .ok (.ifCond .ne 12, 3) := by decide +kernel
theorem dX12_drive_120 : decode cX12_drive 120 = .ok (.aload_n 0, 1) := by decide +kernel
theorem dX12_drive_121 : decode cX12_drive 121 = .ok (.iload 7, 2) := by decide +kernel
theorem dX12_drive_123 : decode cX12_drive 123 = .ok (.invokevirtual 236, 3) := by decide +kernel
theorem dX12_drive_126 : decode cX12_drive 126 = .ok (.goto 26, 3) := by decide +kernel
theorem dX12_drive_129 : decode cX12_drive 129 = .ok (.iload 8, 2) := by decide +kernel
theorem dX12_drive_131 : decode cX12_drive 131 = .ok (.iconst 1, 1) := by decide +kernel
theorem dX12_drive_132 : decode cX12_drive 132 = .ok (.if_icmp .ne 13, 3) := by decide +kernel
theorem dX12_drive_135 : decode cX12_drive 135 = .ok (.aload_n 0, 1) := by decide +kernel
theorem dX12_drive_136 : decode cX12_drive 136 = .ok (.iload 7, 2) := by decide +kernel
theorem dX12_drive_138 : decode cX12_drive 138 = .ok (.invokevirtual 257, 3) := by decide +kernel
theorem dX12_drive_141 : decode cX12_drive 141 = .ok (.pop, 1) := by decide +kernel
theorem dX12_drive_142 : decode cX12_drive 142 = .ok (.goto 10, 3) := by decide +kernel
theorem dX12_drive_145 : decode cX12_drive 145 = .ok (.aload_n 0, 1) := by decide +kernel
theorem dX12_drive_146 : decode cX12_drive 146 = .ok (.iload 7, 2) := by decide +kernel
theorem dX12_drive_148 : decode cX12_drive 148 = .ok (.invokevirtual 254, 3) := by decide +kernel
theorem dX12_drive_151 : decode cX12_drive 151 = .ok (.pop, 1) := by decide +kernel
theorem dX12_drive_152 : decode cX12_drive 152 = .ok (.iinc 3 1, 3) := by decide +kernel
theorem dX12_drive_155 : decode cX12_drive 155 = .ok (.goto (-127), 3) := by decide +kernel
theorem dX12_drive_158 : decode cX12_drive 158 = .ok (.aload_n 0, 1) := by decide +kernel
theorem dX12_drive_159 : decode cX12_drive 159 = .ok (.getfield 7, 3) := by decide +kernel
theorem dX12_drive_162 : decode cX12_drive 162 = .ok (.sipush 976, 3) := by decide +kernel
theorem dX12_drive_165 : decode cX12_drive 165 = .ok (.iaload, 1) := by decide +kernel
theorem dX12_drive_166 : decode cX12_drive 166 = .ok (.ireturn, 1) := by decide +kernel
theorem dX12_isCalm_0 : decode cX12_isCalm 0 = .ok (.aload_n 0, 1) := by decide +kernel
theorem dX12_isCalm_1 : decode cX12_isCalm 1 = .ok (.getfield 7, 3) := by decide +kernel
theorem dX12_isCalm_4 : decode cX12_isCalm 4 = .ok (.sipush 976, 3) := by decide +kernel
theorem dX12_isCalm_7 : decode cX12_isCalm 7 = .ok (.iaload, 1) := by decide +kernel
theorem dX12_isCalm_8 : decode cX12_isCalm 8 = .ok (.ifCond .ne 49, 3) := by decide +kernel
theorem dX12_isCalm_11 : decode cX12_isCalm 11 = .ok (.aload_n 0, 1) := by decide +kernel
theorem dX12_isCalm_12 : decode cX12_isCalm 12 = .ok (.iconst 0, 1) := by decide +kernel
theorem dX12_isCalm_13 : decode cX12_isCalm 13 = .ok (.bipush 11, 2) := by decide +kernel
theorem dX12_isCalm_15 : decode cX12_isCalm 15 = .ok (.invokevirtual 99, 3) := by decide +kernel
theorem dX12_isCalm_18 : decode cX12_isCalm 18 = .ok (.ifCond .ne 39, 3) := by decide +kernel
theorem dX12_isCalm_21 : decode cX12_isCalm 21 = .ok (.aload_n 0, 1) := by decide +kernel
theorem dX12_isCalm_22 : decode cX12_isCalm 22 = .ok (.iconst 1, 1) := by decide +kernel
theorem dX12_isCalm_23 : decode cX12_isCalm 23 = .ok (.bipush 11, 2) := by decide +kernel
theorem dX12_isCalm_25 : decode cX12_isCalm 25 = .ok (.invokevirtual 99, 3) := by decide +kernel
theorem dX12_isCalm_28 : decode cX12_isCalm 28 = .ok (.ifCond .ne 29, 3) := by decide +kernel
theorem dX12_isCalm_31 : decode cX12_isCalm 31 = .ok (.aload_n 0, 1) := by decide +kernel
theorem dX12_isCalm_32 : decode cX12_isCalm 32 = .ok (.iconst 0, 1) := by decide +kernel
theorem dX12_isCalm_33 : decode cX12_isCalm 33 = .ok (.iconst 0, 1) := by decide +kernel
theorem dX12_isCalm_34 : decode cX12_isCalm 34 = .ok (.invokevirtual 99, 3) := by decide +kernel
theorem dX12_isCalm_37 : decode cX12_isCalm 37 = .ok (.bipush 10, 2) := by decide +kernel
theorem dX12_isCalm_39 : decode cX12_isCalm 39 = .ok (.if_icmp .eq 18, 3) := by decide +kernel
theorem dX12_isCalm_42 : decode cX12_isCalm 42 = .ok (.aload_n 0, 1) := by decide +kernel
theorem dX12_isCalm_43 : decode cX12_isCalm 43 = .ok (.iconst 1, 1) := by decide +kernel
theorem dX12_isCalm_44 : decode cX12_isCalm 44 = .ok (.iconst 0, 1) := by decide +kernel
theorem dX12_isCalm_45 : decode cX12_isCalm 45 = .ok (.invokevirtual 99, 3) := by decide +kernel
theorem dX12_isCalm_48 : decode cX12_isCalm 48 = .ok (.bipush 10, 2) := by decide +kernel
theorem dX12_isCalm_50 : decode cX12_isCalm 50 = .ok (.if_icmp .eq 7, 3) := by decide +kernel
theorem dX12_isCalm_53 : decode cX12_isCalm 53 = .ok (.iconst 1, 1) := by decide +kernel
theorem dX12_isCalm_54 : decode cX12_isCalm 54 = .ok (.goto 4, 3) := by decide +kernel
theorem dX12_isCalm_57 : decode cX12_isCalm 57 = .ok (.iconst 0, 1) := by decide +kernel
theorem dX12_isCalm_58 : decode cX12_isCalm 58 = .ok (.ireturn, 1) := by decide +kernel
theorem dX12_calm_0 : decode cX12_calm 0 = .ok (.iload_n 1, 1) := by decide +kernel
theorem dX12_calm_1 : decode cX12_calm 1 = .ok (.i2l, 1) := by decide +kernel
theorem dX12_calm_2 : decode cX12_calm 2 = .ok (.lconst 0, 1) := by decide +kernel
theorem dX12_calm_3 : decode cX12_calm 3 = .ok (.ldc2_w 287, 3) := by decide +kernel
theorem dX12_calm_6 : decode cX12_calm 6 = .ok (.invokestatic 54, 3) := by decide +kernel
theorem dX12_calm_9 : decode cX12_calm 9 = .ok (.ifCond .ne 5, 3) := by decide +kernel
theorem dX12_calm_12 : decode cX12_calm 12 = .ok (.iconst (-1), 1) := by decide +kernel
theorem dX12_calm_13 : decode cX12_calm 13 = .ok (.ireturn, 1) := by decide +kernel
theorem dX12_calm_14 : decode cX12_calm 14 = .ok (.iconst 0, 1) := by decide +kernel
theorem dX12_calm_15 : decode cX12_calm 15 = .ok (.istore_n 2, 1) := by decide +kernel
theorem dX12_calm_16 : decode cX12_calm 16 = .ok (.iload_n 2, 1) := by decide +kernel
theorem dX12_calm_17 : decode cX12_calm 17 = .ok (.sipush 985, 3) := by decide +kernel
theorem dX12_calm_20 : decode cX12_calm 20 = .ok (.if_icmp .ge 21, 3) := by decide +kernel
theorem dX12_calm_23 : decode cX12_calm 23 = .ok (.aload_n 0, 1) := by decide +kernel
theorem dX12_calm_24 : decode cX12_calm 24 = .ok (.getfield 13, 3) := by decide +kernel
theorem dX12_calm_27 : decode cX12_calm 27 = .ok (.iload_n 2, 1) := by decide +kernel
theorem dX12_calm_28 : decode cX12_calm 28 = .ok (.aload_n 0, 1) := by decide +kernel
theorem dX12_calm_29 : decode cX12_calm 29 = .ok (.getfield 7, 3) := by decide +kernel
theorem dX12_calm_32 : decode cX12_calm 32 = .ok (.iload_n 2, 1) := by decide +kernel
theorem dX12_calm_33 : decode cX12_calm 33 = .ok (.iaload, 1) := by decide +kernel
theorem dX12_calm_34 : decode cX12_calm 34 = .ok (.iastore, 1) := by decide +kernel
theorem dX12_calm_35 : decode cX12_calm 35 = .ok (.iinc 2 1, 3) := by decide +kernel
theorem dX12_calm_38 : decode cX12_calm 38 = .ok (.goto (-22), 3) := by decide +kernel
theorem dX12_calm_41 : decode cX12_calm 41 = .ok (.iconst 0, 1) := by decide +kernel
theorem dX12_calm_42 : decode cX12_calm 42 = .ok (.istore_n 2, 1) := by decide +kernel
theorem dX12_calm_43 : decode cX12_calm 43 = .ok (.aload_n 0, 1) := by decide +kernel
theorem dX12_calm_44 : decode cX12_calm 44 = .ok (.invokevirtual 289, 3) := by decide +kernel
theorem dX12_calm_47 : decode cX12_calm 47 = .ok (.ifCond .ne 45, 3) := by decide +kernel
theorem dX12_calm_50 : decode cX12_calm 50 = .ok (.iload_n 2, 1) := by decide +kernel
theorem dX12_calm_51 : decode cX12_calm 51 = .ok (.sipush 300, 3) := by decide +kernel
theorem dX12_calm_54 : decode cX12_calm 54 = .ok (.if_icmp .ge 38, 3) := by decide +kernel
theorem dX12_calm_57 : decode cX12_calm 57 = .ok (.aload_n 0, 1) := by decide +kernel
theorem dX12_calm_58 : decode cX12_calm 58 = .ok (.getfield 7, 3) := by decide +kernel
theorem dX12_calm_61 : decode cX12_calm 61 = .ok (.sipush 976, 3) := by decide +kernel
theorem dX12_calm_64 : decode cX12_calm 64 = .ok (.iaload, 1) := by decide +kernel
theorem dX12_calm_65 : decode cX12_calm 65 = .ok (.istore_n 3, 1) := by decide +kernel
theorem dX12_calm_66 : decode cX12_calm 66 = .ok (.iload_n 3, 1) := by decide +kernel
theorem dX12_calm_67 : decode cX12_calm 67 = .ok (.ifCond .le 15, 3) := by decide +kernel
theorem dX12_calm_70 : decode cX12_calm 70 = .ok (.aload_n 0, 1) := by decide +kernel
theorem dX12_calm_71 : decode cX12_calm 71 = .ok (.iconst 0, 1) := by decide +kernel
theorem dX12_calm_72 : decode cX12_calm 72 = .ok (.invokevirtual 254, 3) := by decide +kernel
theorem dX12_calm_75 : decode cX12_calm 75 = .ok (.pop, 1) := by decide +kernel
theorem dX12_calm_76 : decode cX12_calm 76 = .ok (.iinc 3 (-1), 3) := by decide +kernel
theorem dX12_calm_79 : decode cX12_calm 79 = .ok (.goto (-13), 3) := by decide +kernel
theorem dX12_calm_82 : decode cX12_calm 82 = .ok (.aload_n 0, 1) := by decide +kernel
theorem dX12_calm_83 : decode cX12_calm 83 = .ok (.invokevirtual 274, 3) := by decide +kernel
theorem dX12_calm_86 : decode cX12_calm 86 = .ok (.iinc 2 1, 3) := by decide +kernel
theorem dX12_calm_89 : decode cX12_calm 89 = .ok (.goto (-46), 3) := by decide +kernel
theorem dX12_calm_92 : decode cX12_calm 92 = .ok (.iload_n 1, 1) := by decide +kernel
theorem dX12_calm_93 : decode cX12_calm 93 = .ok (.ifCond .ne 7, 3) := by decide +kernel
theorem dX12_calm_96 : decode cX12_calm 96 = .ok (.iload_n 2, 1) := by decide +kernel
theorem dX12_calm_97 : decode cX12_calm 97 = .ok (.goto 51, 3) := by decide +kernel
theorem dX12_calm_100 : decode cX12_calm 100 = .ok (.iload_n 1, 1) := by decide +kernel
theorem dX12_calm_101 : decode cX12_calm 101 = .ok (.iconst 3, 1) := by decide +kernel
theorem dX12_calm_102 : decode cX12_calm 102 = .ok (.if_icmp .ge 14, 3) := by decide +kernel
theorem dX12_calm_105 : decode cX12_calm 105 = .ok (.aload_n 0, 1) := by decide +kernel
theorem dX12_calm_106 : decode cX12_calm 106 = .ok (.iload_n 1, 1) := by decide +kernel
theorem dX12_calm_107 : decode cX12_calm 107 = .ok (.iconst 1, 1) := by decide +kernel
theorem dX12_calm_108 : decode cX12_calm 108 = .ok (.isub, 1) := by decide +kernel
theorem dX12_calm_109 : decode cX12_calm 109 = .ok (.iconst 0, 1) := by decide +kernel
theorem dX12_calm_110 : decode cX12_calm 110 = .ok (.invokevirtual 99, 3) := by decide +kernel
theorem dX12_calm_113 : decode cX12_calm 113 = .ok (.goto 35, 3) := by decide +kernel
theorem dX12_calm_116 : decode cX12_calm 116 = .ok (.iload_n 1, 1) := by decide +kernel
theorem dX12_calm_117 : decode cX12_calm 117 = .ok (.iconst 5, 1) := by decide +kernel
theorem dX12_calm_118 : decode cX12_calm 118 = .ok (.if_icmp .ge 13, 3) := by decide +kernel
theorem dX12_calm_121 : decode cX12_calm 121 = .ok (.aload_n 0, 1) := by decide +kernel
theorem dX12_calm_122 : decode cX12_calm 122 = .ok (.iload_n 1, 1) := by decide +kernel
theorem dX12_calm_123 : decode cX12_calm 123 = .ok (.iconst 3, 1) := by decide +kernel
theorem dX12_calm_124 : decode cX12_calm 124 = .ok (.isub, 1) := by decide +kernel
theorem dX12_calm_125 : decode cX12_calm 125 = .ok (.invokevirtual 185, 3) := by decide +kernel
theorem dX12_calm_128 : decode cX12_calm 128 = .ok (.goto 20, 3) := by decide +kernel
theorem dX12_calm_131 : decode cX12_calm 131 = .ok (.aload_n 0, 1) := by decide +kernel
theorem dX12_calm_132 : decode cX12_calm 132 = .ok (.getfield 7, 3) := by decide +kernel
theorem dX12_calm_135 : decode cX12_calm 135 = .ok (.sipush 978, 3) := by decide +kernel
theorem dX12_calm_138 : decode cX12_calm 138 = .ok (.iaload, 1) := by decide +kernel
theorem dX12_calm_139 : decode cX12_calm 139 = .ok (.aload_n 0, 1) := by decide +kernel
theorem dX12_calm_140 : decode cX12_calm 140 = .ok (.getfield 13, 3) := by decide +kernel
theorem dX12_calm_143 : decode cX12_calm 143 = .ok (.sipush 978, 3) := by decide +kernel
theorem dX12_calm_146 : decode cX12_calm 146 = .ok (.iaload, 1) := by decide +kernel
theorem dX12_calm_147 : decode cX12_calm 147 = .ok (.isub, 1) := by decide +kernel
theorem dX12_calm_148 : decode cX12_calm 148 = .ok (.istore_n 3, 1) := by decide +kernel
theorem dX12_calm_149 : decode cX12_calm 149 = .ok (.iconst 0, 1) := by decide +kernel
theorem dX12_calm_150 : decode cX12_calm 150 = .ok (.istore 4, 2) := by decide +kernel
theorem dX12_calm_152 : decode cX12_calm 152 = .ok (.iload 4, 2) := by decide +kernel
theorem dX12_calm_154 : decode cX12_calm 154 = .ok (.sipush 985, 3) := by decide +kernel
theorem dX12_calm_157 : decode cX12_calm 157 = .ok (.if_icmp .ge 23, 3) := by decide +kernel
theorem dX12_calm_160 : decode cX12_calm 160 = .ok (.aload_n 0, 1) := by decide +kernel
theorem dX12_calm_161 : decode cX12_calm 161 = .ok (.getfield 7, 3) := by decide +kernel
theorem dX12_calm_164 : decode cX12_calm 164 = .ok (.iload 4, 2) := by decide +kernel
theorem dX12_calm_166 : decode cX12_calm 166 = .ok (.aload_n 0, 1) := by decide +kernel
theorem dX12_calm_167 : decode cX12_calm 167 = .ok (.getfield 13, 3) := by decide +kernel
theorem dX12_calm_170 : decode cX12_calm 170 = .ok (.iload 4, 2) := by decide +kernel
theorem dX12_calm_172 : decode cX12_calm 172 = .ok (.iaload, 1) := by decide +kernel
theorem dX12_calm_173 : decode cX12_calm 173 = .ok (.iastore, 1) := by decide +kernel
theorem dX12_calm_174 : decode cX12_calm 174 = .ok (.iinc 4 1, 3) := by decide +kernel
theorem dX12_calm_177 : decode cX12_calm 177 = .ok (.goto (-25), 3) := by decide +kernel
theorem dX12_calm_180 : decode cX12_calm 180 = .ok (.iload_n 3, 1) := by decide +kernel
theorem dX12_calm_181 : decode cX12_calm 181 = .ok (.ireturn, 1) := by decide +kernel
theorem dX12_end_0 : decode cX12_end 0 = .ok (.iload_n 1, 1) := by decide +kernel
theorem dX12_end_1 : decode cX12_end 1 = .ok (.invokestatic 160, 3) := by decide +kernel
theorem dX12_end_4 : decode cX12_end 4 = .ok (.ifCond .eq 15, 3) := by decide +kernel
theorem dX12_end_7 : decode cX12_end 7 = .ok (.iload_n 2, 1) := by decide +kernel
theorem dX12_end_8 : decode cX12_end 8 = .ok (.i2l, 1) := by decide +kernel
theorem dX12_end_9 : decode cX12_end 9 = .ok (.lconst 0, 1) := by decide +kernel
theorem dX12_end_10 : decode cX12_end 10 = .ok (.ldc2_w 292, 3) := by decide +kernel
theorem dX12_end_13 : decode cX12_end 13 = .ok (.invokestatic 54, 3) := by decide +kernel
theorem dX12_end_16 : decode cX12_end 16 = .ok (.ifCond .ne 5, 3) := by decide +kernel
theorem dX12_end_19 : decode cX12_end 19 = .ok (.iconst (-1), 1) := by decide +kernel
theorem dX12_end_20 : decode cX12_end 20 = .ok (.ireturn, 1) := by decide +kernel
theorem dX12_end_21 : decode cX12_end 21 = .ok (.iload_n 2, 1) := by decide +kernel
theorem dX12_end_22 : decode cX12_end 22 = .ok (.lookupswitch 30 #[(4, 18)], 18) := by decide +kernel
theorem dX12_end_40 : decode cX12_end 40 = .ok (.aload_n 0, 1) := by decide +kernel
theorem dX12_end_41 : decode cX12_end 41 = .ok (.iload_n 1, 1) := by decide +kernel
theorem dX12_end_42 : decode cX12_end 42 = .ok (.aload_n 0, 1) := by decide +kernel
theorem dX12_end_43 : decode cX12_end 43 = .ok (.iload_n 1, 1) := by decide +kernel
theorem dX12_end_44 : decode cX12_end 44 = .ok (.iconst 1, 1) := by decide +kernel
theorem dX12_end_45 : decode cX12_end 45 = .ok (.invokevirtual 99, 3) := by decide +kernel
theorem dX12_end_48 : decode cX12_end 48 = .ok (.invokevirtual 109, 3) := by decide +kernel
theorem dX12_end_51 : decode cX12_end 51 = .ok (.ireturn, 1) := by decide +kernel
theorem dX12_end_52 : decode cX12_end 52 = .ok (.aload_n 0, 1) := by decide +kernel
theorem dX12_end_53 : decode cX12_end 53 = .ok (.iload_n 1, 1) := by decide +kernel
theorem dX12_end_54 : decode cX12_end 54 = .ok (.iload_n 2, 1) := by decide +kernel
theorem dX12_end_55 : decode cX12_end 55 = .ok (.invokevirtual 99, 3) := by decide +kernel
theorem dX12_end_58 : decode cX12_end 58 = .ok (.ireturn, 1) := by decide +kernel
theorem dX12_sample_0 : decode cX12_sample 0 = .ok (.iload_n 1, 1) := by decide +kernel
theorem dX12_sample_1 : decode cX12_sample 1 = .ok (.invokestatic 160, 3) := by decide +kernel
theorem dX12_sample_4 : decode cX12_sample 4 = .ok (.ifCond .eq 7, 3) := by decide +kernel
theorem dX12_sample_7 : decode cX12_sample 7 = .ok (.iload_n 2, 1) := by decide +kernel
theorem dX12_sample_8 : decode cX12_sample 8 = .ok (.ifCond .ge 5, 3) := by decide +kernel
theorem dX12_sample_11 : decode cX12_sample 11 = .ok (.iconst (-1), 1) := by decide +kernel
theorem dX12_sample_12 : decode cX12_sample 12 = .ok (.ireturn, 1) := by decide +kernel
theorem dX12_sample_13 : decode cX12_sample 13 = .ok (.iload_n 2, 1) := by decide +kernel
theorem dX12_sample_14 : decode cX12_sample 14 = .ok (.bipush 6, 2) := by decide +kernel
theorem dX12_sample_16 : decode cX12_sample 16 = .ok (.aload_n 0, 1) := by decide +kernel
theorem dX12_sample_17 : decode cX12_sample 17 = .ok (.iload_n 1, 1) := by decide +kernel
theorem dX12_sample_18 : decode cX12_sample 18 = .ok (.bipush 19, 2) := by decide +kernel
theorem dX12_sample_20 : decode cX12_sample 20 = .ok (.invokevirtual 99, 3) := by decide +kernel
theorem dX12_sample_23 : decode cX12_sample 23 = .ok (.invokestatic 146, 3) := by decide +kernel
theorem dX12_sample_26 : decode cX12_sample 26 = .ok (.if_icmp .ge 15, 3) := by decide +kernel
theorem dX12_sample_29 : decode cX12_sample 29 = .ok (.aload_n 0, 1) := by decide +kernel
theorem dX12_sample_30 : decode cX12_sample 30 = .ok (.iload_n 1, 1) := by decide +kernel
theorem dX12_sample_31 : decode cX12_sample 31 = .ok (.bipush 20, 2) := by decide +kernel
theorem dX12_sample_33 : decode cX12_sample 33 = .ok (.iload_n 2, 1) := by decide +kernel
theorem dX12_sample_34 : decode cX12_sample 34 = .ok (.iadd, 1) := by decide +kernel
theorem dX12_sample_35 : decode cX12_sample 35 = .ok (.invokevirtual 99, 3) := by decide +kernel
theorem dX12_sample_38 : decode cX12_sample 38 = .ok (.goto 5, 3) := by decide +kernel
theorem dX12_sample_41 : decode cX12_sample 41 = .ok (.bipush (-4), 2) := by decide +kernel
theorem dX12_sample_43 : decode cX12_sample 43 = .ok (.ireturn, 1) := by decide +kernel
theorem dX12_span_0 : decode cX12_span 0 = .ok (.iload_n 1, 1) := by decide +kernel
theorem dX12_span_1 : decode cX12_span 1 = .ok (.invokestatic 160, 3) := by decide +kernel
theorem dX12_span_4 : decode cX12_span 4 = .ok (.ifCond .eq 18, 3) := by decide +kernel
theorem dX12_span_7 : decode cX12_span 7 = .ok (.iload_n 2, 1) := by decide +kernel
theorem dX12_span_8 : decode cX12_span 8 = .ok (.iconst (-1), 1) := by decide +kernel
theorem dX12_span_9 : decode cX12_span 9 = .ok (.if_icmp .lt 13, 3) := by decide +kernel
theorem dX12_span_12 : decode cX12_span 12 = .ok (.iload_n 3, 1) := by decide +kernel
theorem dX12_span_13 : decode cX12_span 13 = .ok (.i2l, 1) := by decide +kernel
theorem dX12_span_14 : decode cX12_span 14 = .ok (.lconst 0, 1) := by decide +kernel
theorem dX12_span_15 : decode cX12_span 15 = .ok (.lconst 1, 1) := by decide +kernel
theorem dX12_span_16 : decode cX12_span 16 = .ok (.invokestatic 54, 3) := by decide +kernel
theorem dX12_span_19 : decode cX12_span 19 = .ok (.ifCond .ne 5, 3) := by decide +kernel
theorem dX12_span_22 : decode cX12_span 22 = .ok (.iconst (-1), 1) := by decide +kernel
theorem dX12_span_23 : decode cX12_span 23 = .ok (.ireturn, 1) := by decide +kernel
theorem dX12_span_24 : decode cX12_span 24 = .ok (.iconst 0, 1) := by decide +kernel
theorem dX12_span_25 : decode cX12_span 25 = .ok (.istore 4, 2) := by decide +kernel
theorem dX12_span_27 : decode cX12_span 27 = .ok (.aload_n 0, 1) := by decide +kernel
theorem dX12_span_28 : decode cX12_span 28 = .ok (.iload_n 1, 1) := by decide +kernel
theorem dX12_span_29 : decode cX12_span 29 = .ok (.aload_n 0, 1) := by decide +kernel
theorem dX12_span_30 : decode cX12_span 30 = .ok (.iload_n 1, 1) := by decide +kernel
theorem dX12_span_31 : decode cX12_span 31 = .ok (.iconst 5, 1) := by decide +kernel
theorem dX12_span_32 : decode cX12_span 32 = .ok (.invokevirtual 99, 3) := by decide +kernel
theorem dX12_span_35 : decode cX12_span 35 = .ok (.iconst 1, 1) := by decide +kernel
theorem dX12_span_36 : decode cX12_span 36 = .ok (.invokevirtual 122, 3) := by decide +kernel
theorem dX12_span_39 : decode cX12_span 39 = .ok (.istore 5, 2) := by decide +kernel
theorem dX12_span_41 : decode cX12_span 41 = .ok (.iload 5, 2) := by decide +kernel
theorem dX12_span_43 : decode cX12_span 43 = .ok (.bipush (-4), 2) := by decide +kernel
theorem dX12_span_45 : decode cX12_span 45 = .ok (.if_icmp .eq 47, 3) := by decide +kernel
theorem dX12_span_48 : decode cX12_span 48 = .ok (.aload_n 0, 1) := by decide +kernel
theorem dX12_span_49 : decode cX12_span 49 = .ok (.iload_n 1, 1) := by decide +kernel
theorem dX12_span_50 : decode cX12_span 50 = .ok (.iload 5, 2) := by decide +kernel
theorem dX12_span_52 : decode cX12_span 52 = .ok (.iconst 0, 1) := by decide +kernel
theorem dX12_span_53 : decode cX12_span 53 = .ok (.invokevirtual 122, 3) := by decide +kernel
theorem dX12_span_56 : decode cX12_span 56 = .ok (.istore 6, 2) := by decide +kernel
theorem dX12_span_58 : decode cX12_span 58 = .ok (.iload 4, 2) := by decide +kernel
theorem dX12_span_60 : decode cX12_span 60 = .ok (.iload_n 2, 1) := by decide +kernel
theorem dX12_span_61 : decode cX12_span 61 = .ok (.if_icmp .ne 15, 3) := by decide +kernel
theorem dX12_span_64 : decode cX12_span 64 = .ok (.iload_n 3, 1) := by decide +kernel
theorem dX12_span_65 : decode cX12_span 65 = .ok (.ifCond .ne 8, 3) := by decide +kernel
theorem dX12_span_68 : decode cX12_span 68 = .ok (.iload 5, 2) := by decide +kernel
theorem dX12_span_70 : decode cX12_span 70 = .ok (.goto 5, 3) := by decide +kernel
theorem dX12_span_73 : decode cX12_span 73 = .ok (.iload 6, 2) := by decide +kernel
theorem dX12_span_75 : decode cX12_span 75 = .ok (.ireturn, 1) := by decide +kernel
theorem dX12_span_76 : decode cX12_span 76 = .ok (.iinc 4 1, 3) := by decide +kernel
theorem dX12_span_79 : decode cX12_span 79 = .ok (.aload_n 0, 1) := by decide +kernel
theorem dX12_span_80 : decode cX12_span 80 = .ok (.iload_n 1, 1) := by decide +kernel
theorem dX12_span_81 : decode cX12_span 81 = .ok (.iload 6, 2) := by decide +kernel
theorem dX12_span_83 : decode cX12_span 83 = .ok (.iconst 1, 1) := by decide +kernel
theorem dX12_span_84 : decode cX12_span 84 = .ok (.invokevirtual 122, 3) := by decide +kernel
theorem dX12_span_87 : decode cX12_span 87 = .ok (.istore 5, 2) := by decide +kernel
theorem dX12_span_89 : decode cX12_span 89 = .ok (.goto (-48), 3) := by decide +kernel
theorem dX12_span_92 : decode cX12_span 92 = .ok (.iload_n 2, 1) := by decide +kernel
theorem dX12_span_93 : decode cX12_span 93 = .ok (.ifCond .ge 8, 3) := by decide +kernel
theorem dX12_span_96 : decode cX12_span 96 = .ok (.iload 4, 2) := by decide +kernel
theorem dX12_span_98 : decode cX12_span 98 = .ok (.goto 5, 3) := by decide +kernel
theorem dX12_span_101 : decode cX12_span 101 = .ok (.bipush (-4), 2) := by decide +kernel
theorem dX12_span_103 : decode cX12_span 103 = .ok (.ireturn, 1) := by decide +kernel
theorem dX12_known_0 : decode cX12_known 0 = .ok (.iload_n 1, 1) := by decide +kernel
theorem dX12_known_1 : decode cX12_known 1 = .ok (.invokestatic 160, 3) := by decide +kernel
theorem dX12_known_4 : decode cX12_known 4 = .ok (.ifCond .eq 7, 3) := by decide +kernel
theorem dX12_known_7 : decode cX12_known 7 = .ok (.iload_n 2, 1) := by decide +kernel
theorem dX12_known_8 : decode cX12_known 8 = .ok (.ifCond .ge 5, 3) := by decide +kernel
theorem dX12_known_11 : decode cX12_known 11 = .ok (.iconst (-1), 1) := by decide +kernel
theorem dX12_known_12 : decode cX12_known 12 = .ok (.ireturn, 1) := by decide +kernel
theorem dX12_known_13 : decode cX12_known 13 = .ok (.iload_n 2, 1) := by decide +kernel
theorem dX12_known_14 : decode cX12_known 14 = .ok (.aload_n 0, 1) := by decide +kernel
theorem dX12_known_15 : decode cX12_known 15 = .ok (.iload_n 1, 1) := by decide +kernel
theorem dX12_known_16 : decode cX12_known 16 = .ok (.iconst 1, 1) := by decide +kernel
theorem dX12_known_17 : decode cX12_known 17 = .ok (.invokevirtual 99, 3) := by decide +kernel
theorem dX12_known_20 : decode cX12_known 20 = .ok (.if_icmp .lt 16, 3) := by decide +kernel
theorem dX12_known_23 : decode cX12_known 23 = .ok (.aload_n 0, 1) := by decide +kernel
theorem dX12_known_24 : decode cX12_known 24 = .ok (.iload_n 1, 1) := by decide +kernel
theorem dX12_known_25 : decode cX12_known 25 = .ok (.iload_n 2, 1) := by decide +kernel
theorem dX12_known_26 : decode cX12_known 26 = .ok (.invokevirtual 260, 3) := by decide +kernel
theorem dX12_known_29 : decode cX12_known 29 = .ok (.ifCond .eq 7, 3) := by decide +kernel
theorem dX12_known_32 : decode cX12_known 32 = .ok (.iconst 1, 1) := by decide +kernel
theorem dX12_known_33 : decode cX12_known 33 = .ok (.goto 4, 3) := by decide +kernel
theorem dX12_known_36 : decode cX12_known 36 = .ok (.iconst 0, 1) := by decide +kernel
theorem dX12_known_37 : decode cX12_known 37 = .ok (.ireturn, 1) := by decide +kernel
theorem dX12_letter_0 : decode cX12_letter 0 = .ok (.aload_n 0, 1) := by decide +kernel
theorem dX12_letter_1 : decode cX12_letter 1 = .ok (.iload_n 1, 1) := by decide +kernel
theorem dX12_letter_2 : decode cX12_letter 2 = .ok (.invokevirtual 251, 3) := by decide +kernel
theorem dX12_letter_5 : decode cX12_letter 5 = .ok (.ifCond .eq 33, 3) := by decide +kernel
theorem dX12_letter_8 : decode cX12_letter 8 = .ok (.iload_n 2, 1) := by decide +kernel
theorem dX12_letter_9 : decode cX12_letter 9 = .ok (.i2l, 1) := by decide +kernel
theorem dX12_letter_10 : decode cX12_letter 10 = .ok (.lconst 0, 1) := by decide +kernel
theorem dX12_letter_11 : decode cX12_letter 11 = .ok (.ldc2_w 294, 3) := by decide +kernel
theorem dX12_letter_14 : decode cX12_letter 14 = .ok (.invokestatic 54, 3) := by decide +kernel
theorem dX12_letter_17 : decode cX12_letter 17 = .ok (.ifCond .eq 21, 3) := by decide +kernel
theorem dX12_letter_20 : decode cX12_letter 20 = .ok (.aload_n 0, 1) := by decide +kernel
theorem dX12_letter_21 : decode cX12_letter 21 = .ok (.getfield 7, 3) := by decide +kernel
theorem dX12_letter_24 : decode cX12_letter 24 = .ok (.sipush 576, 3) := by decide +kernel
theorem dX12_letter_27 : decode cX12_letter 27 = .ok (.bipush 20, 2) := by decide +kernel
theorem dX12_letter_29 : decode cX12_letter 29 = .ok (.iload_n 1, 1) := by decide +kernel
theorem dX12_letter_30 : decode cX12_letter 30 = .ok (.imul, 1) := by decide +kernel
theorem dX12_letter_31 : decode cX12_letter 31 = .ok (.iadd, 1) := by decide +kernel
theorem dX12_letter_32 : decode cX12_letter 32 = .ok (.iload_n 2, 1) := by decide +kernel
theorem dX12_letter_33 : decode cX12_letter 33 = .ok (.iadd, 1) := by decide +kernel
theorem dX12_letter_34 : decode cX12_letter 34 = .ok (.iaload, 1) := by decide +kernel
theorem dX12_letter_35 : decode cX12_letter 35 = .ok (.goto 4, 3) := by decide +kernel
theorem dX12_letter_38 : decode cX12_letter 38 = .ok (.iconst (-1), 1) := by decide +kernel
theorem dX12_letter_39 : decode cX12_letter 39 = .ok (.ireturn, 1) := by decide +kernel
theorem dX12_byteOf_0 : decode cX12_byteOf 0 = .ok (.aload_n 0, 1) := by decide +kernel
theorem dX12_byteOf_1 : decode cX12_byteOf 1 = .ok (.iload_n 1, 1) := by decide +kernel
theorem dX12_byteOf_2 : decode cX12_byteOf 2 = .ok (.invokevirtual 251, 3) := by decide +kernel
theorem dX12_byteOf_5 : decode cX12_byteOf 5 = .ok (.ifCond .eq 7, 3) := by decide +kernel
theorem dX12_byteOf_8 : decode cX12_byteOf 8 = .ok (.iload_n 2, 1) := by decide +kernel
theorem dX12_byteOf_9 : decode cX12_byteOf 9 = .ok (.ifCond .ge 5, 3) := by decide +kernel
theorem dX12_byteOf_12 : decode cX12_byteOf 12 = .ok (.iconst (-1), 1) := by decide +kernel
theorem dX12_byteOf_13 : decode cX12_byteOf 13 = .ok (.ireturn, 1) := by decide +kernel
theorem dX12_byteOf_14 : decode cX12_byteOf 14 = .ok (.iload_n 2, 1) := by decide +kernel
theorem dX12_byteOf_15 : decode cX12_byteOf 15 = .ok (.aload_n 0, 1) := by decide +kernel
theorem dX12_byteOf_16 : decode cX12_byteOf 16 = .ok (.getfield 7, 3) := by decide +kernel
theorem dX12_byteOf_19 : decode cX12_byteOf 19 = .ok (.sipush 576, 3) := by decide +kernel
theorem dX12_byteOf_22 : decode cX12_byteOf 22 = .ok (.bipush 20, 2) := by decide +kernel
theorem dX12_byteOf_24 : decode cX12_byteOf 24 = .ok (.iload_n 1, 1) := by decide +kernel
theorem dX12_byteOf_25 : decode cX12_byteOf 25 = .ok (.imul, 1) := by decide +kernel
theorem dX12_byteOf_26 : decode cX12_byteOf 26 = .ok (.iadd, 1) := by decide +kernel
theorem dX12_byteOf_27 : decode cX12_byteOf 27 = .ok (.iconst 5, 1) := by decide +kernel
theorem dX12_byteOf_28 : decode cX12_byteOf 28 = .ok (.iadd, 1) := by decide +kernel
theorem dX12_byteOf_29 : decode cX12_byteOf 29 = .ok (.iaload, 1) := by decide +kernel
theorem dX12_byteOf_30 : decode cX12_byteOf 30 = .ok (.if_icmp .ge 24, 3) := by decide +kernel
theorem dX12_byteOf_33 : decode cX12_byteOf 33 = .ok (.aload_n 0, 1) := by decide +kernel
theorem dX12_byteOf_34 : decode cX12_byteOf 34 = .ok (.getfield 7, 3) := by decide +kernel
theorem dX12_byteOf_37 : decode cX12_byteOf 37 = .ok (.sipush 576, 3) := by decide +kernel
theorem dX12_byteOf_40 : decode cX12_byteOf 40 = .ok (.bipush 20, 2) := by decide +kernel
theorem dX12_byteOf_42 : decode cX12_byteOf 42 = .ok (.iload_n 1, 1) := by decide +kernel
theorem dX12_byteOf_43 : decode cX12_byteOf 43 = .ok (.imul, 1) := by decide +kernel
theorem dX12_byteOf_44 : decode cX12_byteOf 44 = .ok (.iadd, 1) := by decide +kernel
theorem dX12_byteOf_45 : decode cX12_byteOf 45 = .ok (.bipush 12, 2) := by decide +kernel
theorem dX12_byteOf_47 : decode cX12_byteOf 47 = .ok (.iadd, 1) := by decide +kernel
theorem dX12_byteOf_48 : decode cX12_byteOf 48 = .ok (.iload_n 2, 1) := by decide +kernel
theorem dX12_byteOf_49 : decode cX12_byteOf 49 = .ok (.iadd, 1) := by decide +kernel
theorem dX12_byteOf_50 : decode cX12_byteOf 50 = .ok (.iaload, 1) := by decide +kernel
theorem dX12_byteOf_51 : decode cX12_byteOf 51 = .ok (.goto 5, 3) := by decide +kernel
theorem dX12_byteOf_54 : decode cX12_byteOf 54 = .ok (.bipush (-4), 2) := by decide +kernel
theorem dX12_byteOf_56 : decode cX12_byteOf 56 = .ok (.ireturn, 1) := by decide +kernel
theorem dX12_cause_0 : decode cX12_cause 0 = .ok (.iload_n 1, 1) := by decide +kernel
theorem dX12_cause_1 : decode cX12_cause 1 = .ok (.ifCond .ge 7, 3) := by decide +kernel
theorem dX12_cause_4 : decode cX12_cause 4 = .ok (.iconst (-1), 1) := by decide +kernel
theorem dX12_cause_5 : decode cX12_cause 5 = .ok (.goto 30, 3) := by decide +kernel
theorem dX12_cause_8 : decode cX12_cause 8 = .ok (.iload_n 1, 1) := by decide +kernel
theorem dX12_cause_9 : decode cX12_cause 9 = .ok (.aload_n 0, 1) := by decide +kernel
theorem dX12_cause_10 : decode cX12_cause 10 = .ok (.getfield 7, 3) := by decide +kernel
theorem dX12_cause_13 : decode cX12_cause 13 = .ok (.sipush 982, 3) := by decide +kernel
theorem dX12_cause_16 : decode cX12_cause 16 = .ok (.iaload, 1) := by decide +kernel
theorem dX12_cause_17 : decode cX12_cause 17 = .ok (.if_icmp .ge 16, 3) := by decide +kernel
theorem dX12_cause_20 : decode cX12_cause 20 = .ok (.aload_n 0, 1) := by decide +kernel
theorem dX12_cause_21 : decode cX12_cause 21 = .ok (.getfield 7, 3) := by decide +kernel
theorem dX12_cause_24 : decode cX12_cause 24 = .ok (.sipush 983, 3) := by decide +kernel
theorem dX12_cause_27 : decode cX12_cause 27 = .ok (.iload_n 1, 1) := by decide +kernel
theorem dX12_cause_28 : decode cX12_cause 28 = .ok (.iadd, 1) := by decide +kernel
theorem dX12_cause_29 : decode cX12_cause 29 = .ok (.iaload, 1) := by decide +kernel
theorem dX12_cause_30 : decode cX12_cause 30 = .ok (.goto 5, 3) := by decide +kernel
theorem dX12_cause_33 : decode cX12_cause 33 = .ok (.bipush (-4), 2) := by decide +kernel
theorem dX12_cause_35 : decode cX12_cause 35 = .ok (.ireturn, 1) := by decide +kernel
theorem dX12_count_0 : decode cX12_count 0 = .ok (.iload_n 1, 1) := by decide +kernel
theorem dX12_count_1 : decode cX12_count 1 = .ok (.tableswitch 146 0 11 #[63, 68, 73, 73, 82, 87, 96, 105, 114, 123, 132, 141], 63) := by decide +kernel
theorem dX12_count_64 : decode cX12_count 64 = .ok (.aload_n 0, 1) := by decide +kernel
theorem dX12_count_65 : decode cX12_count 65 = .ok (.getfield 25, 3) := by decide +kernel
theorem dX12_count_68 : decode cX12_count 68 = .ok (.ireturn, 1) := by decide +kernel
theorem dX12_count_69 : decode cX12_count 69 = .ok (.aload_n 0, 1) := by decide +kernel
theorem dX12_count_70 : decode cX12_count 70 = .ok (.getfield 29, 3) := by decide +kernel
theorem dX12_count_73 : decode cX12_count 73 = .ok (.ireturn, 1) := by decide +kernel
theorem dX12_count_74 : decode cX12_count 74 = .ok (.aload_n 0, 1) := by decide +kernel
theorem dX12_count_75 : decode cX12_count 75 = .ok (.getfield 35, 3) := by decide +kernel
theorem dX12_count_78 : decode cX12_count 78 = .ok (.iload_n 1, 1) := by decide +kernel
theorem dX12_count_79 : decode cX12_count 79 = .ok (.iconst 2, 1) := by decide +kernel
theorem dX12_count_80 : decode cX12_count 80 = .ok (.isub, 1) := by decide +kernel
theorem dX12_count_81 : decode cX12_count 81 = .ok (.iaload, 1) := by decide +kernel
theorem dX12_count_82 : decode cX12_count 82 = .ok (.ireturn, 1) := by decide +kernel
theorem dX12_count_83 : decode cX12_count 83 = .ok (.aload_n 0, 1) := by decide +kernel
theorem dX12_count_84 : decode cX12_count 84 = .ok (.getfield 32, 3) := by decide +kernel
theorem dX12_count_87 : decode cX12_count 87 = .ok (.ireturn, 1) := by decide +kernel
theorem dX12_count_88 : decode cX12_count 88 = .ok (.aload_n 0, 1) := by decide +kernel
theorem dX12_count_89 : decode cX12_count 89 = .ok (.getfield 7, 3) := by decide +kernel
theorem dX12_count_92 : decode cX12_count 92 = .ok (.sipush 976, 3) := by decide +kernel
theorem dX12_count_95 : decode cX12_count 95 = .ok (.iaload, 1) := by decide +kernel
theorem dX12_count_96 : decode cX12_count 96 = .ok (.ireturn, 1) := by decide +kernel
theorem dX12_count_97 : decode cX12_count 97 = .ok (.aload_n 0, 1) := by decide +kernel
theorem dX12_count_98 : decode cX12_count 98 = .ok (.getfield 7, 3) := by decide +kernel
theorem dX12_count_101 : decode cX12_count 101 = .ok (.sipush 977, 3) := by decide +kernel
theorem dX12_count_104 : decode cX12_count 104 = .ok (.iaload, 1) := by decide +kernel
theorem dX12_count_105 : decode cX12_count 105 = .ok (.ireturn, 1) := by decide +kernel
theorem dX12_count_106 : decode cX12_count 106 = .ok (.aload_n 0, 1) := by decide +kernel
theorem dX12_count_107 : decode cX12_count 107 = .ok (.getfield 7, 3) := by decide +kernel
theorem dX12_count_110 : decode cX12_count 110 = .ok (.sipush 978, 3) := by decide +kernel
theorem dX12_count_113 : decode cX12_count 113 = .ok (.iaload, 1) := by decide +kernel
theorem dX12_count_114 : decode cX12_count 114 = .ok (.ireturn, 1) := by decide +kernel
theorem dX12_count_115 : decode cX12_count 115 = .ok (.aload_n 0, 1) := by decide +kernel
theorem dX12_count_116 : decode cX12_count 116 = .ok (.getfield 7, 3) := by decide +kernel
theorem dX12_count_119 : decode cX12_count 119 = .ok (.sipush 979, 3) := by decide +kernel
theorem dX12_count_122 : decode cX12_count 122 = .ok (.iaload, 1) := by decide +kernel
theorem dX12_count_123 : decode cX12_count 123 = .ok (.ireturn, 1) := by decide +kernel
theorem dX12_count_124 : decode cX12_count 124 = .ok (.aload_n 0, 1) := by decide +kernel
theorem dX12_count_125 : decode cX12_count 125 = .ok (.getfield 7, 3) := by decide +kernel
theorem dX12_count_128 : decode cX12_count 128 = .ok (.sipush 980, 3) := by decide +kernel
theorem dX12_count_131 : decode cX12_count 131 = .ok (.iaload, 1) := by decide +kernel
theorem dX12_count_132 : decode cX12_count 132 = .ok (.ireturn, 1) := by decide +kernel
theorem dX12_count_133 : decode cX12_count 133 = .ok (.aload_n 0, 1) := by decide +kernel
theorem dX12_count_134 : decode cX12_count 134 = .ok (.getfield 7, 3) := by decide +kernel
theorem dX12_count_137 : decode cX12_count 137 = .ok (.sipush 981, 3) := by decide +kernel
theorem dX12_count_140 : decode cX12_count 140 = .ok (.iaload, 1) := by decide +kernel
theorem dX12_count_141 : decode cX12_count 141 = .ok (.ireturn, 1) := by decide +kernel
theorem dX12_count_142 : decode cX12_count 142 = .ok (.aload_n 0, 1) := by decide +kernel
theorem dX12_count_143 : decode cX12_count 143 = .ok (.getfield 47, 3) := by decide +kernel
theorem dX12_count_146 : decode cX12_count 146 = .ok (.ireturn, 1) := by decide +kernel
theorem dX12_count_147 : decode cX12_count 147 = .ok (.iconst (-1), 1) := by decide +kernel
theorem dX12_count_148 : decode cX12_count 148 = .ok (.ireturn, 1) := by decide +kernel
theorem dJ9_abs_0f7a4_0 : decode cJ9_abs_0f7a4 0 = .ok (.iload_n 0, 1) := by decide +kernel
theorem dJ9_abs_0f7a4_1 : decode cJ9_abs_0f7a4 1 = .ok (.ifCond .ge 8, 3) := by decide +kernel
theorem dJ9_abs_0f7a4_4 : decode cJ9_abs_0f7a4 4 = .ok (.iload_n 0, 1) := by decide +kernel
theorem dJ9_abs_0f7a4_5 : decode cJ9_abs_0f7a4 5 = .ok (.ineg, 1) := by decide +kernel
theorem dJ9_abs_0f7a4_6 : decode cJ9_abs_0f7a4 6 = .ok (.goto 4, 3) := by decide +kernel
theorem dJ9_abs_0f7a4_9 : decode cJ9_abs_0f7a4 9 = .ok (.iload_n 0, 1) := by decide +kernel
theorem dJ9_abs_0f7a4_10 : decode cJ9_abs_0f7a4 10 = .ok (.ireturn, 1) := by decide +kernel
theorem dJ9_max_7cf53_0 : decode cJ9_max_7cf53 0 = .ok (.iload_n 0, 1) := by decide +kernel
theorem dJ9_max_7cf53_1 : decode cJ9_max_7cf53 1 = .ok (.iload_n 1, 1) := by decide +kernel
theorem dJ9_max_7cf53_2 : decode cJ9_max_7cf53 2 = .ok (.if_icmp .lt 7, 3) := by decide +kernel
theorem dJ9_max_7cf53_5 : decode cJ9_max_7cf53 5 = .ok (.iload_n 0, 1) := by decide +kernel
theorem dJ9_max_7cf53_6 : decode cJ9_max_7cf53 6 = .ok (.goto 4, 3) := by decide +kernel
theorem dJ9_max_7cf53_9 : decode cJ9_max_7cf53 9 = .ok (.iload_n 1, 1) := by decide +kernel
theorem dJ9_max_7cf53_10 : decode cJ9_max_7cf53 10 = .ok (.ireturn, 1) := by decide +kernel
theorem dJ9_min_7cf53_0 : decode cJ9_min_7cf53 0 = .ok (.iload_n 0, 1) := by decide +kernel
theorem dJ9_min_7cf53_1 : decode cJ9_min_7cf53 1 = .ok (.iload_n 1, 1) := by decide +kernel
theorem dJ9_min_7cf53_2 : decode cJ9_min_7cf53 2 = .ok (.if_icmp .gt 7, 3) := by decide +kernel
theorem dJ9_min_7cf53_5 : decode cJ9_min_7cf53 5 = .ok (.iload_n 0, 1) := by decide +kernel
theorem dJ9_min_7cf53_6 : decode cJ9_min_7cf53 6 = .ok (.goto 4, 3) := by decide +kernel
theorem dJ9_min_7cf53_9 : decode cJ9_min_7cf53 9 = .ok (.iload_n 1, 1) := by decide +kernel
theorem dJ9_min_7cf53_10 : decode cJ9_min_7cf53 10 = .ok (.ireturn, 1) := by decide +kernel
theorem dL_law_0 : decode cL_law 0 = .ok (.new 7, 3) := by decide +kernel
theorem dL_law_3 : decode cL_law 3 = .ok (.dup, 1) := by decide +kernel
theorem dL_law_4 : decode cL_law 4 = .ok (.invokespecial 9, 3) := by decide +kernel
theorem dL_law_7 : decode cL_law 7 = .ok (.astore_n 1, 1) := by decide +kernel
theorem dL_law_8 : decode cL_law 8 = .ok (.new 10, 3) := by decide +kernel
theorem dL_law_11 : decode cL_law 11 = .ok (.dup, 1) := by decide +kernel
theorem dL_law_12 : decode cL_law 12 = .ok (.invokespecial 12, 3) := by decide +kernel
theorem dL_law_15 : decode cL_law 15 = .ok (.astore_n 2, 1) := by decide +kernel
theorem dL_law_16 : decode cL_law 16 = .ok (.iconst 0, 1) := by decide +kernel
theorem dL_law_17 : decode cL_law 17 = .ok (.istore_n 3, 1) := by decide +kernel
theorem dL_law_18 : decode cL_law 18 = .ok (.iload_n 3, 1) := by decide +kernel
theorem dL_law_19 : decode cL_law 19 = .ok (.aload_n 0, 1) := by decide +kernel
theorem dL_law_20 : decode cL_law 20 = .ok (.arraylength, 1) := by decide +kernel
theorem dL_law_21 : decode cL_law 21 = .ok (.iconst 4, 1) := by decide +kernel
theorem dL_law_22 : decode cL_law 22 = .ok (.isub, 1) := by decide +kernel
theorem dL_law_23 : decode cL_law 23 = .ok (.if_icmp .gt 749, 3) := by decide +kernel
theorem dL_law_26 : decode cL_law 26 = .ok (.aload_n 0, 1) := by decide +kernel
theorem dL_law_27 : decode cL_law 27 = .ok (.iload_n 3, 1) := by decide +kernel
theorem dL_law_28 : decode cL_law 28 = .ok (.iaload, 1) := by decide +kernel
theorem dL_law_29 : decode cL_law 29 = .ok (.bipush 31, 2) := by decide +kernel
theorem dL_law_31 : decode cL_law 31 = .ok (.iand, 1) := by decide +kernel
theorem dL_law_32 : decode cL_law 32 = .ok (.tableswitch 734 0 23 #[112, 135, 148, 161, 174, 207, 240, 263, 286, 309, 332, 355, 378, 401, 424, 457, 480, 513, 546, 589, 622, 655, 688, 711], 112) := by decide +kernel
theorem dL_law_144 : decode cL_law 144 = .ok (.aload_n 1, 1) := by decide +kernel
theorem dL_law_145 : decode cL_law 145 = .ok (.aload_n 0, 1) := by decide +kernel
theorem dL_law_146 : decode cL_law 146 = .ok (.iload_n 3, 1) := by decide +kernel
theorem dL_law_147 : decode cL_law 147 = .ok (.iconst 1, 1) := by decide +kernel
theorem dL_law_148 : decode cL_law 148 = .ok (.iadd, 1) := by decide +kernel
theorem dL_law_149 : decode cL_law 149 = .ok (.iaload, 1) := by decide +kernel
theorem dL_law_150 : decode cL_law 150 = .ok (.invokevirtual 13, 3) := by decide +kernel
theorem dL_law_153 : decode cL_law 153 = .ok (.pop, 1) := by decide +kernel
theorem dL_law_154 : decode cL_law 154 = .ok (.aload_n 2, 1) := by decide +kernel
theorem dL_law_155 : decode cL_law 155 = .ok (.aload_n 0, 1) := by decide +kernel
theorem dL_law_156 : decode cL_law 156 = .ok (.iload_n 3, 1) := by decide +kernel
theorem dL_law_157 : decode cL_law 157 = .ok (.iconst 1, 1) := by decide +kernel
theorem dL_law_158 : decode cL_law 158 = .ok (.iadd, 1) := by decide +kernel
theorem dL_law_159 : decode cL_law 159 = .ok (.iaload, 1) := by decide +kernel
theorem dL_law_160 : decode cL_law 160 = .ok (.invokevirtual 17, 3) := by decide +kernel
theorem dL_law_163 : decode cL_law 163 = .ok (.pop, 1) := by decide +kernel
theorem dL_law_164 : decode cL_law 164 = .ok (.goto 602, 3) := by decide +kernel
theorem dL_law_167 : decode cL_law 167 = .ok (.aload_n 1, 1) := by decide +kernel
theorem dL_law_168 : decode cL_law 168 = .ok (.invokevirtual 18, 3) := by decide +kernel
theorem dL_law_171 : decode cL_law 171 = .ok (.pop, 1) := by decide +kernel
theorem dL_law_172 : decode cL_law 172 = .ok (.aload_n 2, 1) := by decide +kernel
theorem dL_law_173 : decode cL_law 173 = .ok (.invokevirtual 22, 3) := by decide +kernel
theorem dL_law_176 : decode cL_law 176 = .ok (.pop, 1) := by decide +kernel
theorem dL_law_177 : decode cL_law 177 = .ok (.goto 589, 3) := by decide +kernel
theorem dL_law_180 : decode cL_law 180 = .ok (.aload_n 1, 1) := by decide +kernel
theorem dL_law_181 : decode cL_law 181 = .ok (.invokevirtual 23, 3) := by decide +kernel
theorem dL_law_184 : decode cL_law 184 = .ok (.pop, 1) := by decide +kernel
theorem dL_law_185 : decode cL_law 185 = .ok (.aload_n 2, 1) := by decide +kernel
theorem dL_law_186 : decode cL_law 186 = .ok (.invokevirtual 26, 3) := by decide +kernel
theorem dL_law_189 : decode cL_law 189 = .ok (.pop, 1) := by decide +kernel
theorem dL_law_190 : decode cL_law 190 = .ok (.goto 576, 3) := by decide +kernel
theorem dL_law_193 : decode cL_law 193 = .ok (.aload_n 1, 1) := by decide +kernel
theorem dL_law_194 : decode cL_law 194 = .ok (.invokevirtual 27, 3) := by decide +kernel
theorem dL_law_197 : decode cL_law 197 = .ok (.aload_n 2, 1) := by decide +kernel
theorem dL_law_198 : decode cL_law 198 = .ok (.invokevirtual 30, 3) := by decide +kernel
theorem dL_law_201 : decode cL_law 201 = .ok (.if_icmp .eq 565, 3) := by decide +kernel
theorem dL_law_204 : decode cL_law 204 = .ok (.iconst 0, 1) := by decide +kernel
theorem dL_law_205 : decode cL_law 205 = .ok (.ireturn, 1) := by decide +kernel
theorem dL_law_206 : decode cL_law 206 = .ok (.aload_n 1, 1) := by decide +kernel
theorem dL_law_207 : decode cL_law 207 = .ok (.aload_n 0, 1) := by decide +kernel
theorem dL_law_208 : decode cL_law 208 = .ok (.iload_n 3, 1) := by decide +kernel
theorem dL_law_209 : decode cL_law 209 = .ok (.iconst 1, 1) := by decide +kernel
theorem dL_law_210 : decode cL_law 210 = .ok (.iadd, 1) := by decide +kernel
theorem dL_law_211 : decode cL_law 211 = .ok (.iaload, 1) := by decide +kernel
theorem dL_law_212 : decode cL_law 212 = .ok (.aload_n 0, 1) := by decide +kernel
theorem dL_law_213 : decode cL_law 213 = .ok (.iload_n 3, 1) := by decide +kernel
theorem dL_law_214 : decode cL_law 214 = .ok (.iconst 2, 1) := by decide +kernel
theorem dL_law_215 : decode cL_law 215 = .ok (.iadd, 1) := by decide +kernel
theorem dL_law_216 : decode cL_law 216 = .ok (.iaload, 1) := by decide +kernel
theorem dL_law_217 : decode cL_law 217 = .ok (.invokevirtual 31, 3) := by decide +kernel
theorem dL_law_220 : decode cL_law 220 = .ok (.pop, 1) := by decide +kernel
theorem dL_law_221 : decode cL_law 221 = .ok (.aload_n 2, 1) := by decide +kernel
theorem dL_law_222 : decode cL_law 222 = .ok (.aload_n 0, 1) := by decide +kernel
theorem dL_law_223 : decode cL_law 223 = .ok (.iload_n 3, 1) := by decide +kernel
theorem dL_law_224 : decode cL_law 224 = .ok (.iconst 1, 1) := by decide +kernel
theorem dL_law_225 : decode cL_law 225 = .ok (.iadd, 1) := by decide +kernel
theorem dL_law_226 : decode cL_law 226 = .ok (.iaload, 1) := by decide +kernel
theorem dL_law_227 : decode cL_law 227 = .ok (.aload_n 0, 1) := by decide +kernel
theorem dL_law_228 : decode cL_law 228 = .ok (.iload_n 3, 1) := by decide +kernel
theorem dL_law_229 : decode cL_law 229 = .ok (.iconst 2, 1) := by decide +kernel
theorem dL_law_230 : decode cL_law 230 = .ok (.iadd, 1) := by decide +kernel
theorem dL_law_231 : decode cL_law 231 = .ok (.iaload, 1) := by decide +kernel
theorem dL_law_232 : decode cL_law 232 = .ok (.invokevirtual 35, 3) := by decide +kernel
theorem dL_law_235 : decode cL_law 235 = .ok (.pop, 1) := by decide +kernel
theorem dL_law_236 : decode cL_law 236 = .ok (.goto 530, 3) := by decide +kernel
theorem dL_law_239 : decode cL_law 239 = .ok (.aload_n 1, 1) := by decide +kernel
theorem dL_law_240 : decode cL_law 240 = .ok (.aload_n 0, 1) := by decide +kernel
theorem dL_law_241 : decode cL_law 241 = .ok (.iload_n 3, 1) := by decide +kernel
theorem dL_law_242 : decode cL_law 242 = .ok (.iconst 1, 1) := by decide +kernel
theorem dL_law_243 : decode cL_law 243 = .ok (.iadd, 1) := by decide +kernel
theorem dL_law_244 : decode cL_law 244 = .ok (.iaload, 1) := by decide +kernel
theorem dL_law_245 : decode cL_law 245 = .ok (.aload_n 0, 1) := by decide +kernel
theorem dL_law_246 : decode cL_law 246 = .ok (.iload_n 3, 1) := by decide +kernel
theorem dL_law_247 : decode cL_law 247 = .ok (.iconst 2, 1) := by decide +kernel
theorem dL_law_248 : decode cL_law 248 = .ok (.iadd, 1) := by decide +kernel
theorem dL_law_249 : decode cL_law 249 = .ok (.iaload, 1) := by decide +kernel
theorem dL_law_250 : decode cL_law 250 = .ok (.invokevirtual 36, 3) := by decide +kernel
theorem dL_law_253 : decode cL_law 253 = .ok (.pop, 1) := by decide +kernel
theorem dL_law_254 : decode cL_law 254 = .ok (.aload_n 2, 1) := by decide +kernel
theorem dL_law_255 : decode cL_law 255 = .ok (.aload_n 0, 1) := by decide +kernel
theorem dL_law_256 : decode cL_law 256 = .ok (.iload_n 3, 1) := by decide +kernel
theorem dL_law_257 : decode cL_law 257 = .ok (.iconst 1, 1) := by decide +kernel
theorem dL_law_258 : decode cL_law 258 = .ok (.iadd, 1) := by decide +kernel
theorem dL_law_259 : decode cL_law 259 = .ok (.iaload, 1) := by decide +kernel
theorem dL_law_260 : decode cL_law 260 = .ok (.aload_n 0, 1) := by decide +kernel
theorem dL_law_261 : decode cL_law 261 = .ok (.iload_n 3, 1) := by decide +kernel
theorem dL_law_262 : decode cL_law 262 = .ok (.iconst 2, 1) := by decide +kernel
theorem dL_law_263 : decode cL_law 263 = .ok (.iadd, 1) := by decide +kernel
theorem dL_law_264 : decode cL_law 264 = .ok (.iaload, 1) := by decide +kernel
theorem dL_law_265 : decode cL_law 265 = .ok (.invokevirtual 39, 3) := by decide +kernel
theorem dL_law_268 : decode cL_law 268 = .ok (.pop, 1) := by decide +kernel
theorem dL_law_269 : decode cL_law 269 = .ok (.goto 497, 3) := by decide +kernel
theorem dL_law_272 : decode cL_law 272 = .ok (.aload_n 1, 1) := by decide +kernel
theorem dL_law_273 : decode cL_law 273 = .ok (.aload_n 0, 1) := by decide +kernel
theorem dL_law_274 : decode cL_law 274 = .ok (.iload_n 3, 1) := by decide +kernel
theorem dL_law_275 : decode cL_law 275 = .ok (.iconst 1, 1) := by decide +kernel
theorem dL_law_276 : decode cL_law 276 = .ok (.iadd, 1) := by decide +kernel
theorem dL_law_277 : decode cL_law 277 = .ok (.iaload, 1) := by decide +kernel
theorem dL_law_278 : decode cL_law 278 = .ok (.invokevirtual 40, 3) := by decide +kernel
theorem dL_law_281 : decode cL_law 281 = .ok (.pop, 1) := by decide +kernel
theorem dL_law_282 : decode cL_law 282 = .ok (.aload_n 2, 1) := by decide +kernel
theorem dL_law_283 : decode cL_law 283 = .ok (.aload_n 0, 1) := by decide +kernel
theorem dL_law_284 : decode cL_law 284 = .ok (.iload_n 3, 1) := by decide +kernel
theorem dL_law_285 : decode cL_law 285 = .ok (.iconst 1, 1) := by decide +kernel
theorem dL_law_286 : decode cL_law 286 = .ok (.iadd, 1) := by decide +kernel
theorem dL_law_287 : decode cL_law 287 = .ok (.iaload, 1) := by decide +kernel
theorem dL_law_288 : decode cL_law 288 = .ok (.invokevirtual 43, 3) := by decide +kernel
theorem dL_law_291 : decode cL_law 291 = .ok (.pop, 1) := by decide +kernel
theorem dL_law_292 : decode cL_law 292 = .ok (.goto 474, 3) := by decide +kernel
theorem dL_law_295 : decode cL_law 295 = .ok (.aload_n 1, 1) := by decide +kernel
theorem dL_law_296 : decode cL_law 296 = .ok (.aload_n 0, 1) := by decide +kernel
theorem dL_law_297 : decode cL_law 297 = .ok (.iload_n 3, 1) := by decide +kernel
theorem dL_law_298 : decode cL_law 298 = .ok (.iconst 1, 1) := by decide +kernel
theorem dL_law_299 : decode cL_law 299 = .ok (.iadd, 1) := by decide +kernel
theorem dL_law_300 : decode cL_law 300 = .ok (.iaload, 1) := by decide +kernel
theorem dL_law_301 : decode cL_law 301 = .ok (.invokevirtual 44, 3) := by decide +kernel
theorem dL_law_304 : decode cL_law 304 = .ok (.pop, 1) := by decide +kernel
theorem dL_law_305 : decode cL_law 305 = .ok (.aload_n 2, 1) := by decide +kernel
theorem dL_law_306 : decode cL_law 306 = .ok (.aload_n 0, 1) := by decide +kernel
theorem dL_law_307 : decode cL_law 307 = .ok (.iload_n 3, 1) := by decide +kernel
theorem dL_law_308 : decode cL_law 308 = .ok (.iconst 1, 1) := by decide +kernel
theorem dL_law_309 : decode cL_law 309 = .ok (.iadd, 1) := by decide +kernel
theorem dL_law_310 : decode cL_law 310 = .ok (.iaload, 1) := by decide +kernel
theorem dL_law_311 : decode cL_law 311 = .ok (.invokevirtual 47, 3) := by decide +kernel
theorem dL_law_314 : decode cL_law 314 = .ok (.pop, 1) := by decide +kernel
theorem dL_law_315 : decode cL_law 315 = .ok (.goto 451, 3) := by decide +kernel
theorem dL_law_318 : decode cL_law 318 = .ok (.aload_n 1, 1) := by decide +kernel
theorem dL_law_319 : decode cL_law 319 = .ok (.aload_n 0, 1) := by decide +kernel
theorem dL_law_320 : decode cL_law 320 = .ok (.iload_n 3, 1) := by decide +kernel
theorem dL_law_321 : decode cL_law 321 = .ok (.iconst 1, 1) := by decide +kernel
theorem dL_law_322 : decode cL_law 322 = .ok (.iadd, 1) := by decide +kernel
theorem dL_law_323 : decode cL_law 323 = .ok (.iaload, 1) := by decide +kernel
theorem dL_law_324 : decode cL_law 324 = .ok (.invokevirtual 48, 3) := by decide +kernel
theorem dL_law_327 : decode cL_law 327 = .ok (.pop, 1) := by decide +kernel
theorem dL_law_328 : decode cL_law 328 = .ok (.aload_n 2, 1) := by decide +kernel
theorem dL_law_329 : decode cL_law 329 = .ok (.aload_n 0, 1) := by decide +kernel
theorem dL_law_330 : decode cL_law 330 = .ok (.iload_n 3, 1) := by decide +kernel
theorem dL_law_331 : decode cL_law 331 = .ok (.iconst 1, 1) := by decide +kernel
theorem dL_law_332 : decode cL_law 332 = .ok (.iadd, 1) := by decide +kernel
theorem dL_law_333 : decode cL_law 333 = .ok (.iaload, 1) := by decide +kernel
theorem dL_law_334 : decode cL_law 334 = .ok (.invokevirtual 51, 3) := by decide +kernel
theorem dL_law_337 : decode cL_law 337 = .ok (.pop, 1) := by decide +kernel
theorem dL_law_338 : decode cL_law 338 = .ok (.goto 428, 3) := by decide +kernel
theorem dL_law_341 : decode cL_law 341 = .ok (.aload_n 1, 1) := by decide +kernel
theorem dL_law_342 : decode cL_law 342 = .ok (.aload_n 0, 1) := by decide +kernel
theorem dL_law_343 : decode cL_law 343 = .ok (.iload_n 3, 1) := by decide +kernel
theorem dL_law_344 : decode cL_law 344 = .ok (.iconst 1, 1) := by decide +kernel
theorem dL_law_345 : decode cL_law 345 = .ok (.iadd, 1) := by decide +kernel
theorem dL_law_346 : decode cL_law 346 = .ok (.iaload, 1) := by decide +kernel
theorem dL_law_347 : decode cL_law 347 = .ok (.invokevirtual 52, 3) := by decide +kernel
theorem dL_law_350 : decode cL_law 350 = .ok (.pop, 1) := by decide +kernel
theorem dL_law_351 : decode cL_law 351 = .ok (.aload_n 2, 1) := by decide +kernel
theorem dL_law_352 : decode cL_law 352 = .ok (.aload_n 0, 1) := by decide +kernel
theorem dL_law_353 : decode cL_law 353 = .ok (.iload_n 3, 1) := by decide +kernel
theorem dL_law_354 : decode cL_law 354 = .ok (.iconst 1, 1) := by decide +kernel
theorem dL_law_355 : decode cL_law 355 = .ok (.iadd, 1) := by decide +kernel
theorem dL_law_356 : decode cL_law 356 = .ok (.iaload, 1) := by decide +kernel
theorem dL_law_357 : decode cL_law 357 = .ok (.invokevirtual 55, 3) := by decide +kernel
theorem dL_law_360 : decode cL_law 360 = .ok (.pop, 1) := by decide +kernel
theorem dL_law_361 : decode cL_law 361 = .ok (.goto 405, 3) := by decide +kernel
theorem dL_law_364 : decode cL_law 364 = .ok (.aload_n 1, 1) := by decide +kernel
theorem dL_law_365 : decode cL_law 365 = .ok (.aload_n 0, 1) := by decide +kernel
theorem dL_law_366 : decode cL_law 366 = .ok (.iload_n 3, 1) := by decide +kernel
theorem dL_law_367 : decode cL_law 367 = .ok (.iconst 1, 1) := by decide +kernel
theorem dL_law_368 : decode cL_law 368 = .ok (.iadd, 1) := by decide +kernel
theorem dL_law_369 : decode cL_law 369 = .ok (.iaload, 1) := by decide +kernel
theorem dL_law_370 : decode cL_law 370 = .ok (.invokevirtual 56, 3) := by decide +kernel
theorem dL_law_373 : decode cL_law 373 = .ok (.pop, 1) := by decide +kernel
theorem dL_law_374 : decode cL_law 374 = .ok (.aload_n 2, 1) := by decide +kernel
theorem dL_law_375 : decode cL_law 375 = .ok (.aload_n 0, 1) := by decide +kernel
theorem dL_law_376 : decode cL_law 376 = .ok (.iload_n 3, 1) := by decide +kernel
theorem dL_law_377 : decode cL_law 377 = .ok (.iconst 1, 1) := by decide +kernel
theorem dL_law_378 : decode cL_law 378 = .ok (.iadd, 1) := by decide +kernel
theorem dL_law_379 : decode cL_law 379 = .ok (.iaload, 1) := by decide +kernel
theorem dL_law_380 : decode cL_law 380 = .ok (.invokevirtual 59, 3) := by decide +kernel
theorem dL_law_383 : decode cL_law 383 = .ok (.pop, 1) := by decide +kernel
theorem dL_law_384 : decode cL_law 384 = .ok (.goto 382, 3) := by decide +kernel
theorem dL_law_387 : decode cL_law 387 = .ok (.aload_n 1, 1) := by decide +kernel
theorem dL_law_388 : decode cL_law 388 = .ok (.aload_n 0, 1) := by decide +kernel
theorem dL_law_389 : decode cL_law 389 = .ok (.iload_n 3, 1) := by decide +kernel
theorem dL_law_390 : decode cL_law 390 = .ok (.iconst 1, 1) := by decide +kernel
theorem dL_law_391 : decode cL_law 391 = .ok (.iadd, 1) := by decide +kernel
theorem dL_law_392 : decode cL_law 392 = .ok (.iaload, 1) := by decide +kernel
theorem dL_law_393 : decode cL_law 393 = .ok (.invokevirtual 60, 3) := by decide +kernel
theorem dL_law_396 : decode cL_law 396 = .ok (.pop, 1) := by decide +kernel
theorem dL_law_397 : decode cL_law 397 = .ok (.aload_n 2, 1) := by decide +kernel
theorem dL_law_398 : decode cL_law 398 = .ok (.aload_n 0, 1) := by decide +kernel
theorem dL_law_399 : decode cL_law 399 = .ok (.iload_n 3, 1) := by decide +kernel
theorem dL_law_400 : decode cL_law 400 = .ok (.iconst 1, 1) := by decide +kernel
theorem dL_law_401 : decode cL_law 401 = .ok (.iadd, 1) := by decide +kernel
theorem dL_law_402 : decode cL_law 402 = .ok (.iaload, 1) := by decide +kernel
theorem dL_law_403 : decode cL_law 403 = .ok (.invokevirtual 63, 3) := by decide +kernel
theorem dL_law_406 : decode cL_law 406 = .ok (.pop, 1) := by decide +kernel
theorem dL_law_407 : decode cL_law 407 = .ok (.goto 359, 3) := by decide +kernel
theorem dL_law_410 : decode cL_law 410 = .ok (.aload_n 1, 1) := by decide +kernel
theorem dL_law_411 : decode cL_law 411 = .ok (.aload_n 0, 1) := by decide +kernel
theorem dL_law_412 : decode cL_law 412 = .ok (.iload_n 3, 1) := by decide +kernel
theorem dL_law_413 : decode cL_law 413 = .ok (.iconst 1, 1) := by decide +kernel
theorem dL_law_414 : decode cL_law 414 = .ok (.iadd, 1) := by decide +kernel
theorem dL_law_415 : decode cL_law 415 = .ok (.iaload, 1) := by decide +kernel
theorem dL_law_416 : decode cL_law 416 = .ok (.invokevirtual 64, 3) := by decide +kernel
theorem dL_law_419 : decode cL_law 419 = .ok (.pop, 1) := by decide +kernel
theorem dL_law_420 : decode cL_law 420 = .ok (.aload_n 2, 1) := by decide +kernel
theorem dL_law_421 : decode cL_law 421 = .ok (.aload_n 0, 1) := by decide +kernel
theorem dL_law_422 : decode cL_law 422 = .ok (.iload_n 3, 1) := by decide +kernel
theorem dL_law_423 : decode cL_law 423 = .ok (.iconst 1, 1) := by decide +kernel
theorem dL_law_424 : decode cL_law 424 = .ok (.iadd, 1) := by decide +kernel
theorem dL_law_425 : decode cL_law 425 = .ok (.iaload, 1) := by decide +kernel
theorem dL_law_426 : decode cL_law 426 = .ok (.invokevirtual 67, 3) := by decide +kernel
theorem dL_law_429 : decode cL_law 429 = .ok (.pop, 1) := by decide +kernel
theorem dL_law_430 : decode cL_law 430 = .ok (.goto 336, 3) := by decide +kernel
theorem dL_law_433 : decode cL_law 433 = .ok (.aload_n 1, 1) := by decide +kernel
theorem dL_law_434 : decode cL_law 434 = .ok (.aload_n 0, 1) := by decide +kernel
theorem dL_law_435 : decode cL_law 435 = .ok (.iload_n 3, 1) := by decide +kernel
theorem dL_law_436 : decode cL_law 436 = .ok (.iconst 1, 1) := by decide +kernel
theorem dL_law_437 : decode cL_law 437 = .ok (.iadd, 1) := by decide +kernel
theorem dL_law_438 : decode cL_law 438 = .ok (.iaload, 1) := by decide +kernel
theorem dL_law_439 : decode cL_law 439 = .ok (.invokevirtual 68, 3) := by decide +kernel
theorem dL_law_442 : decode cL_law 442 = .ok (.pop, 1) := by decide +kernel
theorem dL_law_443 : decode cL_law 443 = .ok (.aload_n 2, 1) := by decide +kernel
theorem dL_law_444 : decode cL_law 444 = .ok (.aload_n 0, 1) := by decide +kernel
theorem dL_law_445 : decode cL_law 445 = .ok (.iload_n 3, 1) := by decide +kernel
theorem dL_law_446 : decode cL_law 446 = .ok (.iconst 1, 1) := by decide +kernel
theorem dL_law_447 : decode cL_law 447 = .ok (.iadd, 1) := by decide +kernel
theorem dL_law_448 : decode cL_law 448 = .ok (.iaload, 1) := by decide +kernel
theorem dL_law_449 : decode cL_law 449 = .ok (.invokevirtual 71, 3) := by decide +kernel
theorem dL_law_452 : decode cL_law 452 = .ok (.pop, 1) := by decide +kernel
theorem dL_law_453 : decode cL_law 453 = .ok (.goto 313, 3) := by decide +kernel
theorem dL_law_456 : decode cL_law 456 = .ok (.aload_n 1, 1) := by decide +kernel
theorem dL_law_457 : decode cL_law 457 = .ok (.aload_n 0, 1) := by decide +kernel
theorem dL_law_458 : decode cL_law 458 = .ok (.iload_n 3, 1) := by decide +kernel
theorem dL_law_459 : decode cL_law 459 = .ok (.iconst 1, 1) := by decide +kernel
theorem dL_law_460 : decode cL_law 460 = .ok (.iadd, 1) := by decide +kernel
theorem dL_law_461 : decode cL_law 461 = .ok (.iaload, 1) := by decide +kernel
theorem dL_law_462 : decode cL_law 462 = .ok (.aload_n 0, 1) := by decide +kernel
theorem dL_law_463 : decode cL_law 463 = .ok (.iload_n 3, 1) := by decide +kernel
theorem dL_law_464 : decode cL_law 464 = .ok (.iconst 2, 1) := by decide +kernel
theorem dL_law_465 : decode cL_law 465 = .ok (.iadd, 1) := by decide +kernel
theorem dL_law_466 : decode cL_law 466 = .ok (.iaload, 1) := by decide +kernel
theorem dL_law_467 : decode cL_law 467 = .ok (.invokevirtual 72, 3) := by decide +kernel
theorem dL_law_470 : decode cL_law 470 = .ok (.pop, 1) := by decide +kernel
theorem dL_law_471 : decode cL_law 471 = .ok (.aload_n 2, 1) := by decide +kernel
theorem dL_law_472 : decode cL_law 472 = .ok (.aload_n 0, 1) := by decide +kernel
theorem dL_law_473 : decode cL_law 473 = .ok (.iload_n 3, 1) := by decide +kernel
theorem dL_law_474 : decode cL_law 474 = .ok (.iconst 1, 1) := by decide +kernel
theorem dL_law_475 : decode cL_law 475 = .ok (.iadd, 1) := by decide +kernel
theorem dL_law_476 : decode cL_law 476 = .ok (.iaload, 1) := by decide +kernel
theorem dL_law_477 : decode cL_law 477 = .ok (.aload_n 0, 1) := by decide +kernel
theorem dL_law_478 : decode cL_law 478 = .ok (.iload_n 3, 1) := by decide +kernel
theorem dL_law_479 : decode cL_law 479 = .ok (.iconst 2, 1) := by decide +kernel
theorem dL_law_480 : decode cL_law 480 = .ok (.iadd, 1) := by decide +kernel
theorem dL_law_481 : decode cL_law 481 = .ok (.iaload, 1) := by decide +kernel
theorem dL_law_482 : decode cL_law 482 = .ok (.invokevirtual 75, 3) := by decide +kernel
theorem dL_law_485 : decode cL_law 485 = .ok (.pop, 1) := by decide +kernel
theorem dL_law_486 : decode cL_law 486 = .ok (.goto 280, 3) := by decide +kernel
theorem dL_law_489 : decode cL_law 489 = .ok (.aload_n 1, 1) := by decide +kernel
theorem dL_law_490 : decode cL_law 490 = .ok (.aload_n 0, 1) := by decide +kernel
theorem dL_law_491 : decode cL_law 491 = .ok (.iload_n 3, 1) := by decide +kernel
theorem dL_law_492 : decode cL_law 492 = .ok (.iconst 1, 1) := by decide +kernel
theorem dL_law_493 : decode cL_law 493 = .ok (.iadd, 1) := by decide +kernel
theorem dL_law_494 : decode cL_law 494 = .ok (.iaload, 1) := by decide +kernel
theorem dL_law_495 : decode cL_law 495 = .ok (.invokevirtual 76, 3) := by decide +kernel
theorem dL_law_498 : decode cL_law 498 = .ok (.pop, 1) := by decide +kernel
theorem dL_law_499 : decode cL_law 499 = .ok (.aload_n 2, 1) := by decide +kernel
theorem dL_law_500 : decode cL_law 500 = .ok (.aload_n 0, 1) := by decide +kernel
theorem dL_law_501 : decode cL_law 501 = .ok (.iload_n 3, 1) := by decide +kernel
theorem dL_law_502 : decode cL_law 502 = .ok (.iconst 1, 1) := by decide +kernel
theorem dL_law_503 : decode cL_law 503 = .ok (.iadd, 1) := by decide +kernel
theorem dL_law_504 : decode cL_law 504 = .ok (.iaload, 1) := by decide +kernel
theorem dL_law_505 : decode cL_law 505 = .ok (.invokevirtual 79, 3) := by decide +kernel
theorem dL_law_508 : decode cL_law 508 = .ok (.pop, 1) := by decide +kernel
theorem dL_law_509 : decode cL_law 509 = .ok (.goto 257, 3) := by decide +kernel
theorem dL_law_512 : decode cL_law 512 = .ok (.aload_n 1, 1) := by decide +kernel
theorem dL_law_513 : decode cL_law 513 = .ok (.aload_n 0, 1) := by decide +kernel
theorem dL_law_514 : decode cL_law 514 = .ok (.iload_n 3, 1) := by decide +kernel
theorem dL_law_515 : decode cL_law 515 = .ok (.iconst 1, 1) := by decide +kernel
theorem dL_law_516 : decode cL_law 516 = .ok (.iadd, 1) := by decide +kernel
theorem dL_law_517 : decode cL_law 517 = .ok (.iaload, 1) := by decide +kernel
theorem dL_law_518 : decode cL_law 518 = .ok (.aload_n 0, 1) := by decide +kernel
theorem dL_law_519 : decode cL_law 519 = .ok (.iload_n 3, 1) := by decide +kernel
theorem dL_law_520 : decode cL_law 520 = .ok (.iconst 2, 1) := by decide +kernel
theorem dL_law_521 : decode cL_law 521 = .ok (.iadd, 1) := by decide +kernel
theorem dL_law_522 : decode cL_law 522 = .ok (.iaload, 1) := by decide +kernel
theorem dL_law_523 : decode cL_law 523 = .ok (.invokevirtual 80, 3) := by decide +kernel
theorem dL_law_526 : decode cL_law 526 = .ok (.pop, 1) := by decide +kernel
theorem dL_law_527 : decode cL_law 527 = .ok (.aload_n 2, 1) := by decide +kernel
theorem dL_law_528 : decode cL_law 528 = .ok (.aload_n 0, 1) := by decide +kernel
theorem dL_law_529 : decode cL_law 529 = .ok (.iload_n 3, 1) := by decide +kernel
theorem dL_law_530 : decode cL_law 530 = .ok (.iconst 1, 1) := by decide +kernel
theorem dL_law_531 : decode cL_law 531 = .ok (.iadd, 1) := by decide +kernel
theorem dL_law_532 : decode cL_law 532 = .ok (.iaload, 1) := by decide +kernel
theorem dL_law_533 : decode cL_law 533 = .ok (.aload_n 0, 1) := by decide +kernel
theorem dL_law_534 : decode cL_law 534 = .ok (.iload_n 3, 1) := by decide +kernel
theorem dL_law_535 : decode cL_law 535 = .ok (.iconst 2, 1) := by decide +kernel
theorem dL_law_536 : decode cL_law 536 = .ok (.iadd, 1) := by decide +kernel
theorem dL_law_537 : decode cL_law 537 = .ok (.iaload, 1) := by decide +kernel
theorem dL_law_538 : decode cL_law 538 = .ok (.invokevirtual 83, 3) := by decide +kernel
theorem dL_law_541 : decode cL_law 541 = .ok (.pop, 1) := by decide +kernel
theorem dL_law_542 : decode cL_law 542 = .ok (.goto 224, 3) := by decide +kernel
theorem dL_law_545 : decode cL_law 545 = .ok (.aload_n 1, 1) := by decide +kernel
theorem dL_law_546 : decode cL_law 546 = .ok (.aload_n 0, 1) := by decide +kernel
theorem dL_law_547 : decode cL_law 547 = .ok (.iload_n 3, 1) := by decide +kernel
theorem dL_law_548 : decode cL_law 548 = .ok (.iconst 1, 1) := by decide +kernel
theorem dL_law_549 : decode cL_law 549 = .ok (.iadd, 1) := by decide +kernel
theorem dL_law_550 : decode cL_law 550 = .ok (.iaload, 1) := by decide +kernel
theorem dL_law_551 : decode cL_law 551 = .ok (.aload_n 0, 1) := by decide +kernel
theorem dL_law_552 : decode cL_law 552 = .ok (.iload_n 3, 1) := by decide +kernel
theorem dL_law_553 : decode cL_law 553 = .ok (.iconst 2, 1) := by decide +kernel
theorem dL_law_554 : decode cL_law 554 = .ok (.iadd, 1) := by decide +kernel
theorem dL_law_555 : decode cL_law 555 = .ok (.iaload, 1) := by decide +kernel
theorem dL_law_556 : decode cL_law 556 = .ok (.invokevirtual 84, 3) := by decide +kernel
theorem dL_law_559 : decode cL_law 559 = .ok (.pop, 1) := by decide +kernel
theorem dL_law_560 : decode cL_law 560 = .ok (.aload_n 2, 1) := by decide +kernel
theorem dL_law_561 : decode cL_law 561 = .ok (.aload_n 0, 1) := by decide +kernel
theorem dL_law_562 : decode cL_law 562 = .ok (.iload_n 3, 1) := by decide +kernel
theorem dL_law_563 : decode cL_law 563 = .ok (.iconst 1, 1) := by decide +kernel
theorem dL_law_564 : decode cL_law 564 = .ok (.iadd, 1) := by decide +kernel
theorem dL_law_565 : decode cL_law 565 = .ok (.iaload, 1) := by decide +kernel
theorem dL_law_566 : decode cL_law 566 = .ok (.aload_n 0, 1) := by decide +kernel
theorem dL_law_567 : decode cL_law 567 = .ok (.iload_n 3, 1) := by decide +kernel
theorem dL_law_568 : decode cL_law 568 = .ok (.iconst 2, 1) := by decide +kernel
theorem dL_law_569 : decode cL_law 569 = .ok (.iadd, 1) := by decide +kernel
theorem dL_law_570 : decode cL_law 570 = .ok (.iaload, 1) := by decide +kernel
theorem dL_law_571 : decode cL_law 571 = .ok (.invokevirtual 87, 3) := by decide +kernel
theorem dL_law_574 : decode cL_law 574 = .ok (.pop, 1) := by decide +kernel
theorem dL_law_575 : decode cL_law 575 = .ok (.goto 191, 3) := by decide +kernel
theorem dL_law_578 : decode cL_law 578 = .ok (.aload_n 1, 1) := by decide +kernel
theorem dL_law_579 : decode cL_law 579 = .ok (.aload_n 0, 1) := by decide +kernel
theorem dL_law_580 : decode cL_law 580 = .ok (.iload_n 3, 1) := by decide +kernel
theorem dL_law_581 : decode cL_law 581 = .ok (.iconst 1, 1) := by decide +kernel
theorem dL_law_582 : decode cL_law 582 = .ok (.iadd, 1) := by decide +kernel
theorem dL_law_583 : decode cL_law 583 = .ok (.iaload, 1) := by decide +kernel
theorem dL_law_584 : decode cL_law 584 = .ok (.aload_n 0, 1) := by decide +kernel
theorem dL_law_585 : decode cL_law 585 = .ok (.iload_n 3, 1) := by decide +kernel
theorem dL_law_586 : decode cL_law 586 = .ok (.iconst 2, 1) := by decide +kernel
theorem dL_law_587 : decode cL_law 587 = .ok (.iadd, 1) := by decide +kernel
theorem dL_law_588 : decode cL_law 588 = .ok (.iaload, 1) := by decide +kernel
theorem dL_law_589 : decode cL_law 589 = .ok (.aload_n 0, 1) := by decide +kernel
theorem dL_law_590 : decode cL_law 590 = .ok (.iload_n 3, 1) := by decide +kernel
theorem dL_law_591 : decode cL_law 591 = .ok (.iconst 3, 1) := by decide +kernel
theorem dL_law_592 : decode cL_law 592 = .ok (.iadd, 1) := by decide +kernel
theorem dL_law_593 : decode cL_law 593 = .ok (.iaload, 1) := by decide +kernel
theorem dL_law_594 : decode cL_law 594 = .ok (.invokevirtual 88, 3) := by decide +kernel
theorem dL_law_597 : decode cL_law 597 = .ok (.pop, 1) := by decide +kernel
theorem dL_law_598 : decode cL_law 598 = .ok (.aload_n 2, 1) := by decide +kernel
theorem dL_law_599 : decode cL_law 599 = .ok (.aload_n 0, 1) := by decide +kernel
theorem dL_law_600 : decode cL_law 600 = .ok (.iload_n 3, 1) := by decide +kernel
theorem dL_law_601 : decode cL_law 601 = .ok (.iconst 1, 1) := by decide +kernel
theorem dL_law_602 : decode cL_law 602 = .ok (.iadd, 1) := by decide +kernel
theorem dL_law_603 : decode cL_law 603 = .ok (.iaload, 1) := by decide +kernel
theorem dL_law_604 : decode cL_law 604 = .ok (.aload_n 0, 1) := by decide +kernel
theorem dL_law_605 : decode cL_law 605 = .ok (.iload_n 3, 1) := by decide +kernel
theorem dL_law_606 : decode cL_law 606 = .ok (.iconst 2, 1) := by decide +kernel
theorem dL_law_607 : decode cL_law 607 = .ok (.iadd, 1) := by decide +kernel
theorem dL_law_608 : decode cL_law 608 = .ok (.iaload, 1) := by decide +kernel
theorem dL_law_609 : decode cL_law 609 = .ok (.aload_n 0, 1) := by decide +kernel
theorem dL_law_610 : decode cL_law 610 = .ok (.iload_n 3, 1) := by decide +kernel
theorem dL_law_611 : decode cL_law 611 = .ok (.iconst 3, 1) := by decide +kernel
theorem dL_law_612 : decode cL_law 612 = .ok (.iadd, 1) := by decide +kernel
theorem dL_law_613 : decode cL_law 613 = .ok (.iaload, 1) := by decide +kernel
theorem dL_law_614 : decode cL_law 614 = .ok (.invokevirtual 92, 3) := by decide +kernel
theorem dL_law_617 : decode cL_law 617 = .ok (.pop, 1) := by decide +kernel
theorem dL_law_618 : decode cL_law 618 = .ok (.goto 148, 3) := by decide +kernel
theorem dL_law_621 : decode cL_law 621 = .ok (.aload_n 1, 1) := by decide +kernel
theorem dL_law_622 : decode cL_law 622 = .ok (.aload_n 0, 1) := by decide +kernel
theorem dL_law_623 : decode cL_law 623 = .ok (.iload_n 3, 1) := by decide +kernel
theorem dL_law_624 : decode cL_law 624 = .ok (.iconst 1, 1) := by decide +kernel
theorem dL_law_625 : decode cL_law 625 = .ok (.iadd, 1) := by decide +kernel
theorem dL_law_626 : decode cL_law 626 = .ok (.iaload, 1) := by decide +kernel
theorem dL_law_627 : decode cL_law 627 = .ok (.aload_n 0, 1) := by decide +kernel
theorem dL_law_628 : decode cL_law 628 = .ok (.iload_n 3, 1) := by decide +kernel
theorem dL_law_629 : decode cL_law 629 = .ok (.iconst 2, 1) := by decide +kernel
theorem dL_law_630 : decode cL_law 630 = .ok (.iadd, 1) := by decide +kernel
theorem dL_law_631 : decode cL_law 631 = .ok (.iaload, 1) := by decide +kernel
theorem dL_law_632 : decode cL_law 632 = .ok (.invokevirtual 93, 3) := by decide +kernel
theorem dL_law_635 : decode cL_law 635 = .ok (.pop, 1) := by decide +kernel
theorem dL_law_636 : decode cL_law 636 = .ok (.aload_n 2, 1) := by decide +kernel
theorem dL_law_637 : decode cL_law 637 = .ok (.aload_n 0, 1) := by decide +kernel
theorem dL_law_638 : decode cL_law 638 = .ok (.iload_n 3, 1) := by decide +kernel
theorem dL_law_639 : decode cL_law 639 = .ok (.iconst 1, 1) := by decide +kernel
theorem dL_law_640 : decode cL_law 640 = .ok (.iadd, 1) := by decide +kernel
theorem dL_law_641 : decode cL_law 641 = .ok (.iaload, 1) := by decide +kernel
theorem dL_law_642 : decode cL_law 642 = .ok (.aload_n 0, 1) := by decide +kernel
theorem dL_law_643 : decode cL_law 643 = .ok (.iload_n 3, 1) := by decide +kernel
theorem dL_law_644 : decode cL_law 644 = .ok (.iconst 2, 1) := by decide +kernel
theorem dL_law_645 : decode cL_law 645 = .ok (.iadd, 1) := by decide +kernel
theorem dL_law_646 : decode cL_law 646 = .ok (.iaload, 1) := by decide +kernel
theorem dL_law_647 : decode cL_law 647 = .ok (.invokevirtual 96, 3) := by decide +kernel
theorem dL_law_650 : decode cL_law 650 = .ok (.pop, 1) := by decide +kernel
theorem dL_law_651 : decode cL_law 651 = .ok (.goto 115, 3) := by decide +kernel
theorem dL_law_654 : decode cL_law 654 = .ok (.aload_n 1, 1) := by decide +kernel
theorem dL_law_655 : decode cL_law 655 = .ok (.aload_n 0, 1) := by decide +kernel
theorem dL_law_656 : decode cL_law 656 = .ok (.iload_n 3, 1) := by decide +kernel
theorem dL_law_657 : decode cL_law 657 = .ok (.iconst 1, 1) := by decide +kernel
theorem dL_law_658 : decode cL_law 658 = .ok (.iadd, 1) := by decide +kernel
theorem dL_law_659 : decode cL_law 659 = .ok (.iaload, 1) := by decide +kernel
theorem dL_law_660 : decode cL_law 660 = .ok (.aload_n 0, 1) := by decide +kernel
theorem dL_law_661 : decode cL_law 661 = .ok (.iload_n 3, 1) := by decide +kernel
theorem dL_law_662 : decode cL_law 662 = .ok (.iconst 2, 1) := by decide +kernel
theorem dL_law_663 : decode cL_law 663 = .ok (.iadd, 1) := by decide +kernel
theorem dL_law_664 : decode cL_law 664 = .ok (.iaload, 1) := by decide +kernel
theorem dL_law_665 : decode cL_law 665 = .ok (.invokevirtual 97, 3) := by decide +kernel
theorem dL_law_668 : decode cL_law 668 = .ok (.pop, 1) := by decide +kernel
theorem dL_law_669 : decode cL_law 669 = .ok (.aload_n 2, 1) := by decide +kernel
theorem dL_law_670 : decode cL_law 670 = .ok (.aload_n 0, 1) := by decide +kernel
theorem dL_law_671 : decode cL_law 671 = .ok (.iload_n 3, 1) := by decide +kernel
theorem dL_law_672 : decode cL_law 672 = .ok (.iconst 1, 1) := by decide +kernel
theorem dL_law_673 : decode cL_law 673 = .ok (.iadd, 1) := by decide +kernel
theorem dL_law_674 : decode cL_law 674 = .ok (.iaload, 1) := by decide +kernel
theorem dL_law_675 : decode cL_law 675 = .ok (.aload_n 0, 1) := by decide +kernel
theorem dL_law_676 : decode cL_law 676 = .ok (.iload_n 3, 1) := by decide +kernel
theorem dL_law_677 : decode cL_law 677 = .ok (.iconst 2, 1) := by decide +kernel
theorem dL_law_678 : decode cL_law 678 = .ok (.iadd, 1) := by decide +kernel
theorem dL_law_679 : decode cL_law 679 = .ok (.iaload, 1) := by decide +kernel
theorem dL_law_680 : decode cL_law 680 = .ok (.invokevirtual 100, 3) := by decide +kernel
theorem dL_law_683 : decode cL_law 683 = .ok (.pop, 1) := by decide +kernel
theorem dL_law_684 : decode cL_law 684 = .ok (.goto 82, 3) := by decide +kernel
theorem dL_law_687 : decode cL_law 687 = .ok (.aload_n 1, 1) := by decide +kernel
theorem dL_law_688 : decode cL_law 688 = .ok (.aload_n 0, 1) := by decide +kernel
theorem dL_law_689 : decode cL_law 689 = .ok (.iload_n 3, 1) := by decide +kernel
theorem dL_law_690 : decode cL_law 690 = .ok (.iconst 1, 1) := by decide +kernel
theorem dL_law_691 : decode cL_law 691 = .ok (.iadd, 1) := by decide +kernel
theorem dL_law_692 : decode cL_law 692 = .ok (.iaload, 1) := by decide +kernel
theorem dL_law_693 : decode cL_law 693 = .ok (.aload_n 0, 1) := by decide +kernel
theorem dL_law_694 : decode cL_law 694 = .ok (.iload_n 3, 1) := by decide +kernel
theorem dL_law_695 : decode cL_law 695 = .ok (.iconst 2, 1) := by decide +kernel
theorem dL_law_696 : decode cL_law 696 = .ok (.iadd, 1) := by decide +kernel
theorem dL_law_697 : decode cL_law 697 = .ok (.iaload, 1) := by decide +kernel
theorem dL_law_698 : decode cL_law 698 = .ok (.invokevirtual 101, 3) := by decide +kernel
theorem dL_law_701 : decode cL_law 701 = .ok (.pop, 1) := by decide +kernel
theorem dL_law_702 : decode cL_law 702 = .ok (.aload_n 2, 1) := by decide +kernel
theorem dL_law_703 : decode cL_law 703 = .ok (.aload_n 0, 1) := by decide +kernel
theorem dL_law_704 : decode cL_law 704 = .ok (.iload_n 3, 1) := by decide +kernel
theorem dL_law_705 : decode cL_law 705 = .ok (.iconst 1, 1) := by decide +kernel
theorem dL_law_706 : decode cL_law 706 = .ok (.iadd, 1) := by decide +kernel
theorem dL_law_707 : decode cL_law 707 = .ok (.iaload, 1) := by decide +kernel
theorem dL_law_708 : decode cL_law 708 = .ok (.aload_n 0, 1) := by decide +kernel
theorem dL_law_709 : decode cL_law 709 = .ok (.iload_n 3, 1) := by decide +kernel
theorem dL_law_710 : decode cL_law 710 = .ok (.iconst 2, 1) := by decide +kernel
theorem dL_law_711 : decode cL_law 711 = .ok (.iadd, 1) := by decide +kernel
theorem dL_law_712 : decode cL_law 712 = .ok (.iaload, 1) := by decide +kernel
theorem dL_law_713 : decode cL_law 713 = .ok (.invokevirtual 104, 3) := by decide +kernel
theorem dL_law_716 : decode cL_law 716 = .ok (.pop, 1) := by decide +kernel
theorem dL_law_717 : decode cL_law 717 = .ok (.goto 49, 3) := by decide +kernel
theorem dL_law_720 : decode cL_law 720 = .ok (.aload_n 1, 1) := by decide +kernel
theorem dL_law_721 : decode cL_law 721 = .ok (.aload_n 0, 1) := by decide +kernel
theorem dL_law_722 : decode cL_law 722 = .ok (.iload_n 3, 1) := by decide +kernel
theorem dL_law_723 : decode cL_law 723 = .ok (.iconst 1, 1) := by decide +kernel
theorem dL_law_724 : decode cL_law 724 = .ok (.iadd, 1) := by decide +kernel
theorem dL_law_725 : decode cL_law 725 = .ok (.iaload, 1) := by decide +kernel
theorem dL_law_726 : decode cL_law 726 = .ok (.invokevirtual 105, 3) := by decide +kernel
theorem dL_law_729 : decode cL_law 729 = .ok (.pop, 1) := by decide +kernel
theorem dL_law_730 : decode cL_law 730 = .ok (.aload_n 2, 1) := by decide +kernel
theorem dL_law_731 : decode cL_law 731 = .ok (.aload_n 0, 1) := by decide +kernel
theorem dL_law_732 : decode cL_law 732 = .ok (.iload_n 3, 1) := by decide +kernel
theorem dL_law_733 : decode cL_law 733 = .ok (.iconst 1, 1) := by decide +kernel
theorem dL_law_734 : decode cL_law 734 = .ok (.iadd, 1) := by decide +kernel
theorem dL_law_735 : decode cL_law 735 = .ok (.iaload, 1) := by decide +kernel
theorem dL_law_736 : decode cL_law 736 = .ok (.invokevirtual 108, 3) := by decide +kernel
theorem dL_law_739 : decode cL_law 739 = .ok (.pop, 1) := by decide +kernel
theorem dL_law_740 : decode cL_law 740 = .ok (.goto 26, 3) := by decide +kernel
theorem dL_law_743 : decode cL_law 743 = .ok (.aload_n 1, 1) := by decide +kernel
theorem dL_law_744 : decode cL_law 744 = .ok (.aload_n 0, 1) := by decide +kernel
theorem dL_law_745 : decode cL_law 745 = .ok (.iload_n 3, 1) := by decide +kernel
theorem dL_law_746 : decode cL_law 746 = .ok (.iconst 1, 1) := by decide +kernel
theorem dL_law_747 : decode cL_law 747 = .ok (.iadd, 1) := by decide +kernel
theorem dL_law_748 : decode cL_law 748 = .ok (.iaload, 1) := by decide +kernel
theorem dL_law_749 : decode cL_law 749 = .ok (.invokevirtual 109, 3) := by decide +kernel
theorem dL_law_752 : decode cL_law 752 = .ok (.pop, 1) := by decide +kernel
theorem dL_law_753 : decode cL_law 753 = .ok (.aload_n 2, 1) := by decide +kernel
theorem dL_law_754 : decode cL_law 754 = .ok (.aload_n 0, 1) := by decide +kernel
theorem dL_law_755 : decode cL_law 755 = .ok (.iload_n 3, 1) := by decide +kernel
theorem dL_law_756 : decode cL_law 756 = .ok (.iconst 1, 1) := by decide +kernel
theorem dL_law_757 : decode cL_law 757 = .ok (.iadd, 1) := by decide +kernel
theorem dL_law_758 : decode cL_law 758 = .ok (.iaload, 1) := by decide +kernel
theorem dL_law_759 : decode cL_law 759 = .ok (.invokevirtual 112, 3) := by decide +kernel
theorem dL_law_762 : decode cL_law 762 = .ok (.pop, 1) := by decide +kernel
theorem dL_law_763 : decode cL_law 763 = .ok (.goto 3, 3) := by decide +kernel
theorem dL_law_766 : decode cL_law 766 = .ok (.iinc 3 4, 3) := by decide +kernel
theorem dL_law_769 : decode cL_law 769 = .ok (.goto (-751), 3) := by decide +kernel
theorem dL_law_772 : decode cL_law 772 = .ok (.iconst 1, 1) := by decide +kernel
theorem dL_law_773 : decode cL_law 773 = .ok (.ireturn, 1) := by decide +kernel
