/-! decode rows (printed) -/
theorem dX12_set_9 : decode cX12_set 9 = .ok (.iload_n 2, 1) := by decide +kernel
theorem dX12_set_10 : decode cX12_set 10 = .ok (.iadd, 1) := by decide +kernel
theorem dX12_set_11 : decode cX12_set 11 = .ok (.iload_n 3, 1) := by decide +kernel
theorem dX12_set_12 : decode cX12_set 12 = .ok (.iastore, 1) := by decide +kernel
theorem dX12_set_13 : decode cX12_set 13 = .ok (.return_, 1) := by decide +kernel
theorem dX12_isFigure_0 : decode cX12_isFigure 0 = .ok (.aload_n 0, 1) := by decide +kernel
theorem dX12_isFigure_1 : decode cX12_isFigure 1 = .ok (.getfield 44, 3) := by decide +kernel
theorem dX12_isFigure_4 : decode cX12_isFigure 4 = .ok (.aload_n 0, 1) := by decide +kernel
theorem dX12_isFigure_5 : decode cX12_isFigure 5 = .ok (.getfield 47, 3) := by decide +kernel
theorem dX12_isFigure_8 : decode cX12_isFigure 8 = .ok (.if_icmp .ge 29, 3) := by decide +kernel
theorem dX12_isFigure_11 : decode cX12_isFigure 11 = .ok (.aload_n 0, 1) := by decide +kernel
theorem dX12_isFigure_12 : decode cX12_isFigure 12 = .ok (.getfield 22, 3) := by decide +kernel
theorem dX12_isFigure_15 : decode cX12_isFigure 15 = .ok (.aload_n 0, 1) := by decide +kernel
theorem dX12_isFigure_16 : decode cX12_isFigure 16 = .ok (.getfield 44, 3) := by decide +kernel
theorem dX12_isFigure_19 : decode cX12_isFigure 19 = .ok (.iaload, 1) := by decide +kernel
theorem dX12_isFigure_20 : decode cX12_isFigure 20 = .ok (.i2l, 1) := by decide +kernel
theorem dX12_isFigure_21 : decode cX12_isFigure 21 = .ok (.ldc2_w 50, 3) := by decide +kernel
theorem dX12_isFigure_24 : decode cX12_isFigure 24 = .ok (.ldc2_w 52, 3) := by decide +kernel
theorem dX12_isFigure_27 : decode cX12_isFigure 27 = .ok (.invokestatic 54, 3) := by decide +kernel
theorem dX12_isFigure_30 : decode cX12_isFigure 30 = .ok (.ifCond .eq 7, 3) := by decide +kernel
theorem dX12_isFigure_33 : decode cX12_isFigure 33 = .ok (.iconst 1, 1) := by decide +kernel
theorem dX12_isFigure_34 : decode cX12_isFigure 34 = .ok (.goto 4, 3) := by decide +kernel
theorem dX12_isFigure_37 : decode cX12_isFigure 37 = .ok (.iconst 0, 1) := by decide +kernel
theorem dX12_isFigure_38 : decode cX12_isFigure 38 = .ok (.ireturn, 1) := by decide +kernel
theorem dX12_readsNumber_0 : decode cX12_readsNumber 0 = .ok (.iconst 0, 1) := by decide +kernel
theorem dX12_readsNumber_1 : decode cX12_readsNumber 1 = .ok (.istore 4, 2) := by decide +kernel
theorem dX12_readsNumber_3 : decode cX12_readsNumber 3 = .ok (.aload_n 0, 1) := by decide +kernel
theorem dX12_readsNumber_4 : decode cX12_readsNumber 4 = .ok (.iconst 0, 1) := by decide +kernel
theorem dX12_readsNumber_5 : decode cX12_readsNumber 5 = .ok (.putfield 58, 3) := by decide +kernel
theorem dX12_readsNumber_8 : decode cX12_readsNumber 8 = .ok (.aload_n 0, 1) := by decide +kernel
theorem dX12_readsNumber_9 : decode cX12_readsNumber 9 = .ok (.invokevirtual 61, 3) := by decide +kernel
theorem dX12_readsNumber_12 : decode cX12_readsNumber 12 = .ok (.ifCond .eq 49, 3) := by decide +kernel
theorem dX12_readsNumber_15 : decode cX12_readsNumber 15 = .ok (.iload 4, 2) := by decide +kernel
theorem dX12_readsNumber_17 : decode cX12_readsNumber 17 = .ok (.iconst 4, 1) := by decide +kernel
theorem dX12_readsNumber_18 : decode cX12_readsNumber 18 = .ok (.if_icmp .ge 43, 3) := by decide +kernel
theorem dX12_readsNumber_21 : decode cX12_readsNumber 21 = .ok (.aload_n 0, 1) := by decide +kernel
theorem dX12_readsNumber_22 : decode cX12_readsNumber 22 = .ok (.bipush 10, 2) := by decide +kernel
theorem dX12_readsNumber_24 : decode cX12_readsNumber 24 = .ok (.aload_n 0, 1) := by decide +kernel
theorem dX12_readsNumber_25 : decode cX12_readsNumber 25 = .ok (.getfield 58, 3) := by decide +kernel
theorem dX12_readsNumber_28 : decode cX12_readsNumber 28 = .ok (.imul, 1) := by decide +kernel
theorem dX12_readsNumber_29 : decode cX12_readsNumber 29 = .ok (.aload_n 0, 1) := by decide +kernel
theorem dX12_readsNumber_30 : decode cX12_readsNumber 30 = .ok (.getfield 22, 3) := by decide +kernel
theorem dX12_readsNumber_33 : decode cX12_readsNumber 33 = .ok (.aload_n 0, 1) := by decide +kernel
theorem dX12_readsNumber_34 : decode cX12_readsNumber 34 = .ok (.getfield 44, 3) := by decide +kernel
theorem dX12_readsNumber_37 : decode cX12_readsNumber 37 = .ok (.iaload, 1) := by decide +kernel
theorem dX12_readsNumber_38 : decode cX12_readsNumber 38 = .ok (.iadd, 1) := by decide +kernel
theorem dX12_readsNumber_39 : decode cX12_readsNumber 39 = .ok (.bipush 48, 2) := by decide +kernel
theorem dX12_readsNumber_41 : decode cX12_readsNumber 41 = .ok (.isub, 1) := by decide +kernel
theorem dX12_readsNumber_42 : decode cX12_readsNumber 42 = .ok (.putfield 58, 3) := by decide +kernel
theorem dX12_readsNumber_45 : decode cX12_readsNumber 45 = .ok (.iinc 4 1, 3) := by decide +kernel
theorem dX12_readsNumber_48 : decode cX12_readsNumber 48 = .ok (.aload_n 0, 1) := by decide +kernel
theorem dX12_readsNumber_49 : decode cX12_readsNumber 49 = .ok (.dup, 1) := by decide +kernel
theorem dX12_readsNumber_50 : decode cX12_readsNumber 50 = .ok (.getfield 44, 3) := by decide +kernel
theorem dX12_readsNumber_53 : decode cX12_readsNumber 53 = .ok (.iconst 1, 1) := by decide +kernel
theorem dX12_readsNumber_54 : decode cX12_readsNumber 54 = .ok (.iadd, 1) := by decide +kernel
theorem dX12_readsNumber_55 : decode cX12_readsNumber 55 = .ok (.putfield 44, 3) := by decide +kernel
theorem dX12_readsNumber_58 : decode cX12_readsNumber 58 = .ok (.goto (-50), 3) := by decide +kernel
theorem dX12_readsNumber_61 : decode cX12_readsNumber 61 = .ok (.iload 4, 2) := by decide +kernel
theorem dX12_readsNumber_63 : decode cX12_readsNumber 63 = .ok (.i2l, 1) := by decide +kernel
theorem dX12_readsNumber_64 : decode cX12_readsNumber 64 = .ok (.lconst 1, 1) := by decide +kernel
theorem dX12_readsNumber_65 : decode cX12_readsNumber 65 = .ok (.ldc2_w 65, 3) := by decide +kernel
theorem dX12_readsNumber_68 : decode cX12_readsNumber 68 = .ok (.invokestatic 54, 3) := by decide +kernel
theorem dX12_readsNumber_71 : decode cX12_readsNumber 71 = .ok (.ifCond .eq 46, 3) := by decide +kernel
theorem dX12_readsNumber_74 : decode cX12_readsNumber 74 = .ok (.aload_n 0, 1) := by decide +kernel
theorem dX12_readsNumber_75 : decode cX12_readsNumber 75 = .ok (.getfield 58, 3) := by decide +kernel
theorem dX12_readsNumber_78 : decode cX12_readsNumber 78 = .ok (.i2l, 1) := by decide +kernel
theorem dX12_readsNumber_79 : decode cX12_readsNumber 79 = .ok (.iload_n 1, 1) := by decide +kernel
theorem dX12_readsNumber_80 : decode cX12_readsNumber 80 = .ok (.i2l, 1) := by decide +kernel
theorem dX12_readsNumber_81 : decode cX12_readsNumber 81 = .ok (.iload_n 2, 1) := by decide +kernel
theorem dX12_readsNumber_82 : decode cX12_readsNumber 82 = .ok (.i2l, 1) := by decide +kernel
theorem dX12_readsNumber_83 : decode cX12_readsNumber 83 = .ok (.invokestatic 54, 3) := by decide +kernel
theorem dX12_readsNumber_86 : decode cX12_readsNumber 86 = .ok (.ifCond .eq 31, 3) := by decide +kernel
theorem dX12_readsNumber_89 : decode cX12_readsNumber 89 = .ok (.aload_n 0, 1) := by decide +kernel
theorem dX12_readsNumber_90 : decode cX12_readsNumber 90 = .ok (.getfield 44, 3) := by decide +kernel
theorem dX12_readsNumber_93 : decode cX12_readsNumber 93 = .ok (.aload_n 0, 1) := by decide +kernel
theorem dX12_readsNumber_94 : decode cX12_readsNumber 94 = .ok (.getfield 47, 3) := by decide +kernel
theorem dX12_readsNumber_97 : decode cX12_readsNumber 97 = .ok (.if_icmp .ge 20, 3) := by decide +kernel
theorem dX12_readsNumber_100 : decode cX12_readsNumber 100 = .ok (.aload_n 0, 1) := by decide +kernel
theorem dX12_readsNumber_101 : decode cX12_readsNumber 101 = .ok (.getfield 22, 3) := by decide +kernel
theorem dX12_readsNumber_104 : decode cX12_readsNumber 104 = .ok (.aload_n 0, 1) := by decide +kernel
theorem dX12_readsNumber_105 : decode cX12_readsNumber 105 = .ok (.getfield 44, 3) := by decide +kernel
theorem dX12_readsNumber_108 : decode cX12_readsNumber 108 = .ok (.iaload, 1) := by decide +kernel
theorem dX12_readsNumber_109 : decode cX12_readsNumber 109 = .ok (.iload_n 3, 1) := by decide +kernel
theorem dX12_readsNumber_110 : decode cX12_readsNumber 110 = .ok (.if_icmp .ne 7, 3) := by decide +kernel
theorem dX12_readsNumber_113 : decode cX12_readsNumber 113 = .ok (.iconst 1, 1) := by decide +kernel
theorem dX12_readsNumber_114 : decode cX12_readsNumber 114 = .ok (.goto 4, 3) := by decide +kernel
theorem dX12_readsNumber_117 : decode cX12_readsNumber 117 = .ok (.iconst 0, 1) := by decide +kernel
theorem dX12_readsNumber_118 : decode cX12_readsNumber 118 = .ok (.istore 5, 2) := by decide +kernel
theorem dX12_readsNumber_120 : decode cX12_readsNumber 120 = .ok (.aload_n 0, 1) := by decide +kernel
theorem dX12_readsNumber_121 : decode cX12_readsNumber 121 = .ok (.dup, 1) := by decide +kernel
theorem dX12_readsNumber_122 : decode cX12_readsNumber 122 = .ok (.getfield 44, 3) := by decide +kernel
theorem dX12_readsNumber_125 : decode cX12_readsNumber 125 = .ok (.iconst 1, 1) := by decide +kernel
theorem dX12_readsNumber_126 : decode cX12_readsNumber 126 = .ok (.iadd, 1) := by decide +kernel
theorem dX12_readsNumber_127 : decode cX12_readsNumber 127 = .ok (.putfield 44, 3) := by decide +kernel
theorem dX12_readsNumber_130 : decode cX12_readsNumber 130 = .ok (.iload 5, 2) := by decide +kernel
theorem dX12_readsNumber_132 : decode cX12_readsNumber 132 = .ok (.ireturn, 1) := by decide +kernel
theorem dX12_readsItem_0 : decode cX12_readsItem 0 = .ok (.aload_n 0, 1) := by decide +kernel
theorem dX12_readsItem_1 : decode cX12_readsItem 1 = .ok (.getfield 22, 3) := by decide +kernel
theorem dX12_readsItem_4 : decode cX12_readsItem 4 = .ok (.aload_n 0, 1) := by decide +kernel
theorem dX12_readsItem_5 : decode cX12_readsItem 5 = .ok (.getfield 44, 3) := by decide +kernel
theorem dX12_readsItem_8 : decode cX12_readsItem 8 = .ok (.iaload, 1) := by decide +kernel
theorem dX12_readsItem_9 : decode cX12_readsItem 9 = .ok (.istore_n 1, 1) := by decide +kernel
theorem dX12_readsItem_10 : decode cX12_readsItem 10 = .ok (.aload_n 0, 1) := by decide +kernel
theorem dX12_readsItem_11 : decode cX12_readsItem 11 = .ok (.dup, 1) := by decide +kernel
theorem dX12_readsItem_12 : decode cX12_readsItem 12 = .ok (.getfield 44, 3) := by decide +kernel
theorem dX12_readsItem_15 : decode cX12_readsItem 15 = .ok (.iconst 1, 1) := by decide +kernel
theorem dX12_readsItem_16 : decode cX12_readsItem 16 = .ok (.iadd, 1) := by decide +kernel
theorem dX12_readsItem_17 : decode cX12_readsItem 17 = .ok (.putfield 44, 3) := by decide +kernel
theorem dX12_readsItem_20 : decode cX12_readsItem 20 = .ok (.iload_n 1, 1) := by decide +kernel
theorem dX12_readsItem_21 : decode cX12_readsItem 21 = .ok (.lookupswitch 159 #[(98, 63), (102, 103), (108, 83), (112, 43)], 43) := by decide +kernel
theorem dX12_readsItem_64 : decode cX12_readsItem 64 = .ok (.aload_n 0, 1) := by decide +kernel
theorem dX12_readsItem_65 : decode cX12_readsItem 65 = .ok (.iconst 1, 1) := by decide +kernel
theorem dX12_readsItem_66 : decode cX12_readsItem 66 = .ok (.bipush 8, 2) := by decide +kernel
theorem dX12_readsItem_68 : decode cX12_readsItem 68 = .ok (.bipush 59, 2) := by decide +kernel
theorem dX12_readsItem_70 : decode cX12_readsItem 70 = .ok (.invokevirtual 67, 3) := by decide +kernel
theorem dX12_readsItem_73 : decode cX12_readsItem 73 = .ok (.istore_n 2, 1) := by decide +kernel
theorem dX12_readsItem_74 : decode cX12_readsItem 74 = .ok (.aload_n 0, 1) := by decide +kernel
theorem dX12_readsItem_75 : decode cX12_readsItem 75 = .ok (.aload_n 0, 1) := by decide +kernel
theorem dX12_readsItem_76 : decode cX12_readsItem 76 = .ok (.getfield 58, 3) := by decide +kernel
theorem dX12_readsItem_79 : decode cX12_readsItem 79 = .ok (.putfield 71, 3) := by decide +kernel
theorem dX12_readsItem_82 : decode cX12_readsItem 82 = .ok (.iload_n 2, 1) := by decide +kernel
theorem dX12_readsItem_83 : decode cX12_readsItem 83 = .ok (.ireturn, 1) := by decide +kernel
theorem dX12_readsItem_84 : decode cX12_readsItem 84 = .ok (.aload_n 0, 1) := by decide +kernel
theorem dX12_readsItem_85 : decode cX12_readsItem 85 = .ok (.iconst 2, 1) := by decide +kernel
theorem dX12_readsItem_86 : decode cX12_readsItem 86 = .ok (.bipush 32, 2) := by decide +kernel
theorem dX12_readsItem_88 : decode cX12_readsItem 88 = .ok (.bipush 59, 2) := by decide +kernel
theorem dX12_readsItem_90 : decode cX12_readsItem 90 = .ok (.invokevirtual 67, 3) := by decide +kernel
theorem dX12_readsItem_93 : decode cX12_readsItem 93 = .ok (.istore_n 2, 1) := by decide +kernel
theorem dX12_readsItem_94 : decode cX12_readsItem 94 = .ok (.aload_n 0, 1) := by decide +kernel
theorem dX12_readsItem_95 : decode cX12_readsItem 95 = .ok (.aload_n 0, 1) := by decide +kernel
theorem dX12_readsItem_96 : decode cX12_readsItem 96 = .ok (.getfield 58, 3) := by decide +kernel
theorem dX12_readsItem_99 : decode cX12_readsItem 99 = .ok (.putfield 74, 3) := by decide +kernel
theorem dX12_readsItem_102 : decode cX12_readsItem 102 = .ok (.iload_n 2, 1) := by decide +kernel
theorem dX12_readsItem_103 : decode cX12_readsItem 103 = .ok (.ireturn, 1) := by decide +kernel
theorem dX12_readsItem_104 : decode cX12_readsItem 104 = .ok (.aload_n 0, 1) := by decide +kernel
theorem dX12_readsItem_105 : decode cX12_readsItem 105 = .ok (.iconst 1, 1) := by decide +kernel
theorem dX12_readsItem_106 : decode cX12_readsItem 106 = .ok (.bipush 20, 2) := by decide +kernel
theorem dX12_readsItem_108 : decode cX12_readsItem 108 = .ok (.bipush 59, 2) := by decide +kernel
theorem dX12_readsItem_110 : decode cX12_readsItem 110 = .ok (.invokevirtual 67, 3) := by decide +kernel
theorem dX12_readsItem_113 : decode cX12_readsItem 113 = .ok (.istore_n 2, 1) := by decide +kernel
theorem dX12_readsItem_114 : decode cX12_readsItem 114 = .ok (.aload_n 0, 1) := by decide +kernel
theorem dX12_readsItem_115 : decode cX12_readsItem 115 = .ok (.aload_n 0, 1) := by decide +kernel
theorem dX12_readsItem_116 : decode cX12_readsItem 116 = .ok (.getfield 58, 3) := by decide +kernel
theorem dX12_readsItem_119 : decode cX12_readsItem 119 = .ok (.putfield 77, 3) := by decide +kernel
theorem dX12_readsItem_122 : decode cX12_readsItem 122 = .ok (.iload_n 2, 1) := by decide +kernel
theorem dX12_readsItem_123 : decode cX12_readsItem 123 = .ok (.ireturn, 1) := by decide +kernel
theorem dX12_readsItem_124 : decode cX12_readsItem 124 = .ok (.aload_n 0, 1) := by decide +kernel
theorem dX12_readsItem_125 : decode cX12_readsItem 125 = .ok (.iconst 0, 1) := by decide +kernel
theorem dX12_readsItem_126 : decode cX12_readsItem 126 = .ok (.sipush 255, 3) := by decide +kernel
theorem dX12_readsItem_129 : decode cX12_readsItem 129 = .ok (.bipush 44, 2) := by decide +kernel
theorem dX12_readsItem_131 : decode cX12_readsItem 131 = .ok (.invokevirtual 67, 3) := by decide +kernel
theorem dX12_readsItem_134 : decode cX12_readsItem 134 = .ok (.istore_n 2, 1) := by decide +kernel
theorem dX12_readsItem_135 : decode cX12_readsItem 135 = .ok (.aload_n 0, 1) := by decide +kernel
theorem dX12_readsItem_136 : decode cX12_readsItem 136 = .ok (.getfield 38, 3) := by decide +kernel
theorem dX12_readsItem_139 : decode cX12_readsItem 139 = .ok (.iconst 0, 1) := by decide +kernel
theorem dX12_readsItem_140 : decode cX12_readsItem 140 = .ok (.aload_n 0, 1) := by decide +kernel
theorem dX12_readsItem_141 : decode cX12_readsItem 141 = .ok (.getfield 58, 3) := by decide +kernel
theorem dX12_readsItem_144 : decode cX12_readsItem 144 = .ok (.iastore, 1) := by decide +kernel
theorem dX12_readsItem_145 : decode cX12_readsItem 145 = .ok (.iload_n 2, 1) := by decide +kernel
theorem dX12_readsItem_146 : decode cX12_readsItem 146 = .ok (.ifCond .eq 20, 3) := by decide +kernel
theorem dX12_readsItem_149 : decode cX12_readsItem 149 = .ok (.aload_n 0, 1) := by decide +kernel
theorem dX12_readsItem_150 : decode cX12_readsItem 150 = .ok (.iconst 0, 1) := by decide +kernel
theorem dX12_readsItem_151 : decode cX12_readsItem 151 = .ok (.sipush 255, 3) := by decide +kernel
theorem dX12_readsItem_154 : decode cX12_readsItem 154 = .ok (.bipush 59, 2) := by decide +kernel
theorem dX12_readsItem_156 : decode cX12_readsItem 156 = .ok (.invokevirtual 67, 3) := by decide +kernel
theorem dX12_readsItem_159 : decode cX12_readsItem 159 = .ok (.ifCond .eq 7, 3) := by decide +kernel
theorem dX12_readsItem_162 : decode cX12_readsItem 162 = .ok (.iconst 1, 1) := by decide +kernel
theorem dX12_readsItem_163 : decode cX12_readsItem 163 = .ok (.goto 4, 3) := by decide +kernel
theorem dX12_readsItem_166 : decode cX12_readsItem 166 = .ok (.iconst 0, 1) := by decide +kernel
theorem dX12_readsItem_167 : decode cX12_readsItem 167 = .ok (.istore_n 2, 1) := by decide +kernel
theorem dX12_readsItem_168 : decode cX12_readsItem 168 = .ok (.aload_n 0, 1) := by decide +kernel
theorem dX12_readsItem_169 : decode cX12_readsItem 169 = .ok (.getfield 38, 3) := by decide +kernel
theorem dX12_readsItem_172 : decode cX12_readsItem 172 = .ok (.iconst 1, 1) := by decide +kernel
theorem dX12_readsItem_173 : decode cX12_readsItem 173 = .ok (.aload_n 0, 1) := by decide +kernel
theorem dX12_readsItem_174 : decode cX12_readsItem 174 = .ok (.getfield 58, 3) := by decide +kernel
theorem dX12_readsItem_177 : decode cX12_readsItem 177 = .ok (.iastore, 1) := by decide +kernel
theorem dX12_readsItem_178 : decode cX12_readsItem 178 = .ok (.iload_n 2, 1) := by decide +kernel
theorem dX12_readsItem_179 : decode cX12_readsItem 179 = .ok (.ireturn, 1) := by decide +kernel
theorem dX12_readsItem_180 : decode cX12_readsItem 180 = .ok (.iconst 0, 1) := by decide +kernel
theorem dX12_readsItem_181 : decode cX12_readsItem 181 = .ok (.ireturn, 1) := by decide +kernel
theorem dX12_reads_0 : decode cX12_reads 0 = .ok (.aload_n 0, 1) := by decide +kernel
theorem dX12_reads_1 : decode cX12_reads 1 = .ok (.iconst 4, 1) := by decide +kernel
theorem dX12_reads_2 : decode cX12_reads 2 = .ok (.putfield 71, 3) := by decide +kernel
theorem dX12_reads_5 : decode cX12_reads 5 = .ok (.aload_n 0, 1) := by decide +kernel
theorem dX12_reads_6 : decode cX12_reads 6 = .ok (.bipush 16, 2) := by decide +kernel
theorem dX12_reads_8 : decode cX12_reads 8 = .ok (.putfield 74, 3) := by decide +kernel
theorem dX12_reads_11 : decode cX12_reads 11 = .ok (.aload_n 0, 1) := by decide +kernel
theorem dX12_reads_12 : decode cX12_reads 12 = .ok (.iconst 5, 1) := by decide +kernel
theorem dX12_reads_13 : decode cX12_reads 13 = .ok (.putfield 77, 3) := by decide +kernel
theorem dX12_reads_16 : decode cX12_reads 16 = .ok (.aload_n 0, 1) := by decide +kernel
theorem dX12_reads_17 : decode cX12_reads 17 = .ok (.getfield 38, 3) := by decide +kernel
theorem dX12_reads_20 : decode cX12_reads 20 = .ok (.iconst 0, 1) := by decide +kernel
theorem dX12_reads_21 : decode cX12_reads 21 = .ok (.iconst 0, 1) := by decide +kernel
theorem dX12_reads_22 : decode cX12_reads 22 = .ok (.iastore, 1) := by decide +kernel
theorem dX12_reads_23 : decode cX12_reads 23 = .ok (.aload_n 0, 1) := by decide +kernel
theorem dX12_reads_24 : decode cX12_reads 24 = .ok (.getfield 38, 3) := by decide +kernel
theorem dX12_reads_27 : decode cX12_reads 27 = .ok (.iconst 1, 1) := by decide +kernel
theorem dX12_reads_28 : decode cX12_reads 28 = .ok (.iconst 0, 1) := by decide +kernel
theorem dX12_reads_29 : decode cX12_reads 29 = .ok (.iastore, 1) := by decide +kernel
theorem dX12_reads_30 : decode cX12_reads 30 = .ok (.aload_n 0, 1) := by decide +kernel
theorem dX12_reads_31 : decode cX12_reads 31 = .ok (.iconst 0, 1) := by decide +kernel
theorem dX12_reads_32 : decode cX12_reads 32 = .ok (.putfield 44, 3) := by decide +kernel
theorem dX12_reads_35 : decode cX12_reads 35 = .ok (.aload_n 0, 1) := by decide +kernel
theorem dX12_reads_36 : decode cX12_reads 36 = .ok (.getfield 44, 3) := by decide +kernel
theorem dX12_reads_39 : decode cX12_reads 39 = .ok (.aload_n 0, 1) := by decide +kernel
theorem dX12_reads_40 : decode cX12_reads 40 = .ok (.getfield 47, 3) := by decide +kernel
theorem dX12_reads_43 : decode cX12_reads 43 = .ok (.if_icmp .ge 20, 3) := by decide +kernel
theorem dX12_reads_46 : decode cX12_reads 46 = .ok (.aload_n 0, 1) := by decide +kernel
theorem dX12_reads_47 : decode cX12_reads 47 = .ok (.getfield 44, 3) := by decide +kernel
theorem dX12_reads_50 : decode cX12_reads 50 = .ok (.istore_n 1, 1) := by decide +kernel
theorem dX12_reads_51 : decode cX12_reads 51 = .ok (.aload_n 0, 1) := by decide +kernel
theorem dX12_reads_52 : decode cX12_reads 52 = .ok (.invokevirtual 80, 3) := by decide +kernel
theorem dX12_reads_55 : decode cX12_reads 55 = .ok (.ifCond .ne 5, 3) := by decide +kernel
theorem dX12_reads_58 : decode cX12_reads 58 = .ok (.iload_n 1, 1) := by decide +kernel
theorem dX12_reads_59 : decode cX12_reads 59 = .ok (.ireturn, 1) := by decide +kernel
theorem dX12_reads_60 : decode cX12_reads 60 = .ok (.goto (-25), 3) := by decide +kernel
theorem dX12_reads_63 : decode cX12_reads 63 = .ok (.bipush (-4), 2) := by decide +kernel
theorem dX12_reads_65 : decode cX12_reads 65 = .ok (.ireturn, 1) := by decide +kernel
theorem dX12_write_0 : decode cX12_write 0 = .ok (.iload_n 1, 1) := by decide +kernel
theorem dX12_write_1 : decode cX12_write 1 = .ok (.i2l, 1) := by decide +kernel
theorem dX12_write_2 : decode cX12_write 2 = .ok (.ldc2_w 83, 3) := by decide +kernel
theorem dX12_write_5 : decode cX12_write 5 = .ok (.ldc2_w 85, 3) := by decide +kernel
theorem dX12_write_8 : decode cX12_write 8 = .ok (.invokestatic 54, 3) := by decide +kernel
theorem dX12_write_11 : decode cX12_write 11 = .ok (.ifCond .ne 5, 3) := by decide +kernel
theorem dX12_write_14 : decode cX12_write 14 = .ok (.iconst (-1), 1) := by decide +kernel
theorem dX12_write_15 : decode cX12_write 15 = .ok (.ireturn, 1) := by decide +kernel
theorem dX12_write_16 : decode cX12_write 16 = .ok (.aload_n 0, 1) := by decide +kernel
theorem dX12_write_17 : decode cX12_write 17 = .ok (.getfield 47, 3) := by decide +kernel
theorem dX12_write_20 : decode cX12_write 20 = .ok (.sipush 200, 3) := by decide +kernel
theorem dX12_write_23 : decode cX12_write 23 = .ok (.if_icmp .ne 6, 3) := by decide +kernel
theorem dX12_write_26 : decode cX12_write 26 = .ok (.bipush (-3), 2) := by decide +kernel
theorem dX12_write_28 : decode cX12_write 28 = .ok (.ireturn, 1) := by decide +kernel
theorem dX12_write_29 : decode cX12_write 29 = .ok (.aload_n 0, 1) := by decide +kernel
theorem dX12_write_30 : decode cX12_write 30 = .ok (.getfield 22, 3) := by decide +kernel
theorem dX12_write_33 : decode cX12_write 33 = .ok (.aload_n 0, 1) := by decide +kernel
theorem dX12_write_34 : decode cX12_write 34 = .ok (.getfield 47, 3) := by decide +kernel
theorem dX12_write_37 : decode cX12_write 37 = .ok (.iload_n 1, 1) := by decide +kernel
theorem dX12_write_38 : decode cX12_write 38 = .ok (.iastore, 1) := by decide +kernel
theorem dX12_write_39 : decode cX12_write 39 = .ok (.aload_n 0, 1) := by decide +kernel
theorem dX12_write_40 : decode cX12_write 40 = .ok (.dup, 1) := by decide +kernel
theorem dX12_write_41 : decode cX12_write 41 = .ok (.getfield 47, 3) := by decide +kernel
theorem dX12_write_44 : decode cX12_write 44 = .ok (.iconst 1, 1) := by decide +kernel
theorem dX12_write_45 : decode cX12_write 45 = .ok (.iadd, 1) := by decide +kernel
theorem dX12_write_46 : decode cX12_write 46 = .ok (.putfield 47, 3) := by decide +kernel
theorem dX12_write_49 : decode cX12_write 49 = .ok (.aload_n 0, 1) := by decide +kernel
theorem dX12_write_50 : decode cX12_write 50 = .ok (.getfield 47, 3) := by decide +kernel
theorem dX12_write_53 : decode cX12_write 53 = .ok (.ireturn, 1) := by decide +kernel
theorem dX12_wipe_0 : decode cX12_wipe 0 = .ok (.aload_n 0, 1) := by decide +kernel
theorem dX12_wipe_1 : decode cX12_wipe 1 = .ok (.getfield 47, 3) := by decide +kernel
theorem dX12_wipe_4 : decode cX12_wipe 4 = .ok (.istore_n 1, 1) := by decide +kernel
theorem dX12_wipe_5 : decode cX12_wipe 5 = .ok (.aload_n 0, 1) := by decide +kernel
theorem dX12_wipe_6 : decode cX12_wipe 6 = .ok (.iconst 0, 1) := by decide +kernel
theorem dX12_wipe_7 : decode cX12_wipe 7 = .ok (.putfield 47, 3) := by decide +kernel
theorem dX12_wipe_10 : decode cX12_wipe 10 = .ok (.iload_n 1, 1) := by decide +kernel
theorem dX12_wipe_11 : decode cX12_wipe 11 = .ok (.ireturn, 1) := by decide +kernel
theorem dX12_fault_0 : decode cX12_fault 0 = .ok (.aload_n 0, 1) := by decide +kernel
theorem dX12_fault_1 : decode cX12_fault 1 = .ok (.invokevirtual 87, 3) := by decide +kernel
theorem dX12_fault_4 : decode cX12_fault 4 = .ok (.ireturn, 1) := by decide +kernel
theorem dX12_lay_0 : decode cX12_lay 0 = .ok (.aload_n 0, 1) := by decide +kernel
theorem dX12_lay_1 : decode cX12_lay 1 = .ok (.invokevirtual 87, 3) := by decide +kernel
theorem dX12_lay_4 : decode cX12_lay 4 = .ok (.bipush (-4), 2) := by decide +kernel
theorem dX12_lay_6 : decode cX12_lay 6 = .ok (.if_icmp .ne 16, 3) := by decide +kernel
theorem dX12_lay_9 : decode cX12_lay 9 = .ok (.aload_n 0, 1) := by decide +kernel
theorem dX12_lay_10 : decode cX12_lay 10 = .ok (.getfield 74, 3) := by decide +kernel
theorem dX12_lay_13 : decode cX12_lay 13 = .ok (.iconst 2, 1) := by decide +kernel
theorem dX12_lay_14 : decode cX12_lay 14 = .ok (.aload_n 0, 1) := by decide +kernel
theorem dX12_lay_15 : decode cX12_lay 15 = .ok (.getfield 71, 3) := by decide +kernel
theorem dX12_lay_18 : decode cX12_lay 18 = .ok (.imul, 1) := by decide +kernel
theorem dX12_lay_19 : decode cX12_lay 19 = .ok (.if_icmp .ge 6, 3) := by decide +kernel
theorem dX12_lay_22 : decode cX12_lay 22 = .ok (.bipush (-2), 2) := by decide +kernel
theorem dX12_lay_24 : decode cX12_lay 24 = .ok (.ireturn, 1) := by decide +kernel
theorem dX12_lay_25 : decode cX12_lay 25 = .ok (.aload_n 0, 1) := by decide +kernel
theorem dX12_lay_26 : decode cX12_lay 26 = .ok (.aload_n 0, 1) := by decide +kernel
theorem dX12_lay_27 : decode cX12_lay 27 = .ok (.getfield 71, 3) := by decide +kernel
theorem dX12_lay_30 : decode cX12_lay 30 = .ok (.putfield 25, 3) := by decide +kernel
theorem dX12_lay_33 : decode cX12_lay 33 = .ok (.aload_n 0, 1) := by decide +kernel
theorem dX12_lay_34 : decode cX12_lay 34 = .ok (.aload_n 0, 1) := by decide +kernel
theorem dX12_lay_35 : decode cX12_lay 35 = .ok (.getfield 74, 3) := by decide +kernel
theorem dX12_lay_38 : decode cX12_lay 38 = .ok (.putfield 29, 3) := by decide +kernel
theorem dX12_lay_41 : decode cX12_lay 41 = .ok (.aload_n 0, 1) := by decide +kernel
theorem dX12_lay_42 : decode cX12_lay 42 = .ok (.aload_n 0, 1) := by decide +kernel
theorem dX12_lay_43 : decode cX12_lay 43 = .ok (.getfield 77, 3) := by decide +kernel
theorem dX12_lay_46 : decode cX12_lay 46 = .ok (.putfield 32, 3) := by decide +kernel
theorem dX12_lay_49 : decode cX12_lay 49 = .ok (.aload_n 0, 1) := by decide +kernel
theorem dX12_lay_50 : decode cX12_lay 50 = .ok (.getfield 35, 3) := by decide +kernel
theorem dX12_lay_53 : decode cX12_lay 53 = .ok (.iconst 0, 1) := by decide +kernel
theorem dX12_lay_54 : decode cX12_lay 54 = .ok (.aload_n 0, 1) := by decide +kernel
theorem dX12_lay_55 : decode cX12_lay 55 = .ok (.getfield 38, 3) := by decide +kernel
theorem dX12_lay_58 : decode cX12_lay 58 = .ok (.iconst 0, 1) := by decide +kernel
theorem dX12_lay_59 : decode cX12_lay 59 = .ok (.iaload, 1) := by decide +kernel
theorem dX12_lay_60 : decode cX12_lay 60 = .ok (.iastore, 1) := by decide +kernel
theorem dX12_lay_61 : decode cX12_lay 61 = .ok (.aload_n 0, 1) := by decide +kernel
theorem dX12_lay_62 : decode cX12_lay 62 = .ok (.getfield 35, 3) := by decide +kernel
theorem dX12_lay_65 : decode cX12_lay 65 = .ok (.iconst 1, 1) := by decide +kernel
theorem dX12_lay_66 : decode cX12_lay 66 = .ok (.aload_n 0, 1) := by decide +kernel
theorem dX12_lay_67 : decode cX12_lay 67 = .ok (.getfield 38, 3) := by decide +kernel
theorem dX12_lay_70 : decode cX12_lay 70 = .ok (.iconst 1, 1) := by decide +kernel
theorem dX12_lay_71 : decode cX12_lay 71 = .ok (.iaload, 1) := by decide +kernel
theorem dX12_lay_72 : decode cX12_lay 72 = .ok (.iastore, 1) := by decide +kernel
theorem dX12_lay_73 : decode cX12_lay 73 = .ok (.aload_n 0, 1) := by decide +kernel
theorem dX12_lay_74 : decode cX12_lay 74 = .ok (.invokevirtual 41, 3) := by decide +kernel
theorem dX12_lay_77 : decode cX12_lay 77 = .ok (.aload_n 0, 1) := by decide +kernel
theorem dX12_lay_78 : decode cX12_lay 78 = .ok (.getfield 25, 3) := by decide +kernel
theorem dX12_lay_81 : decode cX12_lay 81 = .ok (.ireturn, 1) := by decide +kernel
theorem dX12_begins_0 : decode cX12_begins 0 = .ok (.iconst 0, 1) := by decide +kernel
theorem dX12_begins_1 : decode cX12_begins 1 = .ok (.istore_n 1, 1) := by decide +kernel
theorem dX12_begins_2 : decode cX12_begins 2 = .ok (.iload_n 1, 1) := by decide +kernel
theorem dX12_begins_3 : decode cX12_begins 3 = .ok (.sipush 985, 3) := by decide +kernel
theorem dX12_begins_6 : decode cX12_begins 6 = .ok (.if_icmp .ge 16, 3) := by decide +kernel
theorem dX12_begins_9 : decode cX12_begins 9 = .ok (.aload_n 0, 1) := by decide +kernel
theorem dX12_begins_10 : decode cX12_begins 10 = .ok (.getfield 7, 3) := by decide +kernel
theorem dX12_begins_13 : decode cX12_begins 13 = .ok (.iload_n 1, 1) := by decide +kernel
theorem dX12_begins_14 : decode cX12_begins 14 = .ok (.iconst 0, 1) := by decide +kernel
theorem dX12_begins_15 : decode cX12_begins 15 = .ok (.iastore, 1) := by decide +kernel
theorem dX12_begins_16 : decode cX12_begins 16 = .ok (.iinc 1 1, 3) := by decide +kernel
theorem dX12_begins_19 : decode cX12_begins 19 = .ok (.goto (-17), 3) := by decide +kernel
theorem dX12_begins_22 : decode cX12_begins 22 = .ok (.aload_n 0, 1) := by decide +kernel
theorem dX12_begins_23 : decode cX12_begins 23 = .ok (.iconst 0, 1) := by decide +kernel
theorem dX12_begins_24 : decode cX12_begins 24 = .ok (.invokevirtual 91, 3) := by decide +kernel
theorem dX12_begins_27 : decode cX12_begins 27 = .ok (.aload_n 0, 1) := by decide +kernel
theorem dX12_begins_28 : decode cX12_begins 28 = .ok (.iconst 1, 1) := by decide +kernel
theorem dX12_begins_29 : decode cX12_begins 29 = .ok (.invokevirtual 91, 3) := by decide +kernel
theorem dX12_begins_32 : decode cX12_begins 32 = .ok (.return_, 1) := by decide +kernel
theorem dX12_starts_0 : decode cX12_starts 0 = .ok (.iconst 0, 1) := by decide +kernel
theorem dX12_starts_1 : decode cX12_starts 1 = .ok (.istore_n 2, 1) := by decide +kernel
theorem dX12_starts_2 : decode cX12_starts 2 = .ok (.iload_n 2, 1) := by decide +kernel
theorem dX12_starts_3 : decode cX12_starts 3 = .ok (.sipush 288, 3) := by decide +kernel
theorem dX12_starts_6 : decode cX12_starts 6 = .ok (.if_icmp .ge 22, 3) := by decide +kernel
theorem dX12_starts_9 : decode cX12_starts 9 = .ok (.aload_n 0, 1) := by decide +kernel
theorem dX12_starts_10 : decode cX12_starts 10 = .ok (.getfield 7, 3) := by decide +kernel
theorem dX12_starts_13 : decode cX12_starts 13 = .ok (.sipush 288, 3) := by decide +kernel
theorem dX12_starts_16 : decode cX12_starts 16 = .ok (.iload_n 1, 1) := by decide +kernel
theorem dX12_starts_17 : decode cX12_starts 17 = .ok (.imul, 1) := by decide +kernel
theorem dX12_starts_18 : decode cX12_starts 18 = .ok (.iload_n 2, 1) := by decide +kernel
theorem dX12_starts_19 : decode cX12_starts 19 = .ok (.iadd, 1) := by decide +kernel
theorem dX12_starts_20 : decode cX12_starts 20 = .ok (.iconst 0, 1) := by decide +kernel
theorem dX12_starts_21 : decode cX12_starts 21 = .ok (.iastore, 1) := by decide +kernel
theorem dX12_starts_22 : decode cX12_starts 22 = .ok (.iinc 2 1, 3) := by decide +kernel
theorem dX12_starts_25 : decode cX12_starts 25 = .ok (.goto (-23), 3) := by decide +kernel
theorem dX12_starts_28 : decode cX12_starts 28 = .ok (.aload_n 0, 1) := by decide +kernel
theorem dX12_starts_29 : decode cX12_starts 29 = .ok (.iload_n 1, 1) := by decide +kernel
theorem dX12_starts_30 : decode cX12_starts 30 = .ok (.iconst 3, 1) := by decide +kernel
theorem dX12_starts_31 : decode cX12_starts 31 = .ok (.iconst 1, 1) := by decide +kernel
theorem dX12_starts_32 : decode cX12_starts 32 = .ok (.invokevirtual 95, 3) := by decide +kernel
theorem dX12_starts_35 : decode cX12_starts 35 = .ok (.aload_n 0, 1) := by decide +kernel
theorem dX12_starts_36 : decode cX12_starts 36 = .ok (.iload_n 1, 1) := by decide +kernel
theorem dX12_starts_37 : decode cX12_starts 37 = .ok (.bipush 6, 2) := by decide +kernel
theorem dX12_starts_39 : decode cX12_starts 39 = .ok (.iconst 1, 1) := by decide +kernel
theorem dX12_starts_40 : decode cX12_starts 40 = .ok (.invokevirtual 95, 3) := by decide +kernel
theorem dX12_starts_43 : decode cX12_starts 43 = .ok (.aload_n 0, 1) := by decide +kernel
theorem dX12_starts_44 : decode cX12_starts 44 = .ok (.iload_n 1, 1) := by decide +kernel
theorem dX12_starts_45 : decode cX12_starts 45 = .ok (.bipush 7, 2) := by decide +kernel
theorem dX12_starts_47 : decode cX12_starts 47 = .ok (.aload_n 0, 1) := by decide +kernel
theorem dX12_starts_48 : decode cX12_starts 48 = .ok (.getfield 29, 3) := by decide +kernel
theorem dX12_starts_51 : decode cX12_starts 51 = .ok (.iconst 1, 1) := by decide +kernel
theorem dX12_starts_52 : decode cX12_starts 52 = .ok (.iadd, 1) := by decide +kernel
theorem dX12_starts_53 : decode cX12_starts 53 = .ok (.invokevirtual 95, 3) := by decide +kernel
theorem dX12_starts_56 : decode cX12_starts 56 = .ok (.aload_n 0, 1) := by decide +kernel
theorem dX12_starts_57 : decode cX12_starts 57 = .ok (.iload_n 1, 1) := by decide +kernel
theorem dX12_starts_58 : decode cX12_starts 58 = .ok (.bipush 8, 2) := by decide +kernel
theorem dX12_starts_60 : decode cX12_starts 60 = .ok (.bipush 6, 2) := by decide +kernel
theorem dX12_starts_62 : decode cX12_starts 62 = .ok (.invokevirtual 95, 3) := by decide +kernel
theorem dX12_starts_65 : decode cX12_starts 65 = .ok (.aload_n 0, 1) := by decide +kernel
theorem dX12_starts_66 : decode cX12_starts 66 = .ok (.iload_n 1, 1) := by decide +kernel
theorem dX12_starts_67 : decode cX12_starts 67 = .ok (.bipush 16, 2) := by decide +kernel
theorem dX12_starts_69 : decode cX12_starts 69 = .ok (.bipush (-4), 2) := by decide +kernel
theorem dX12_starts_71 : decode cX12_starts 71 = .ok (.invokevirtual 95, 3) := by decide +kernel
theorem dX12_starts_74 : decode cX12_starts 74 = .ok (.aload_n 0, 1) := by decide +kernel
theorem dX12_starts_75 : decode cX12_starts 75 = .ok (.iload_n 1, 1) := by decide +kernel
theorem dX12_starts_76 : decode cX12_starts 76 = .ok (.bipush 17, 2) := by decide +kernel
theorem dX12_starts_78 : decode cX12_starts 78 = .ok (.bipush (-4), 2) := by decide +kernel
theorem dX12_starts_80 : decode cX12_starts 80 = .ok (.invokevirtual 95, 3) := by decide +kernel
theorem dX12_starts_83 : decode cX12_starts 83 = .ok (.return_, 1) := by decide +kernel
theorem dX12_number_0 : decode cX12_number 0 = .ok (.aload_n 0, 1) := by decide +kernel
theorem dX12_number_1 : decode cX12_number 1 = .ok (.getfield 35, 3) := by decide +kernel
theorem dX12_number_4 : decode cX12_number 4 = .ok (.iload_n 1, 1) := by decide +kernel
theorem dX12_number_5 : decode cX12_number 5 = .ok (.iaload, 1) := by decide +kernel
theorem dX12_number_6 : decode cX12_number 6 = .ok (.iload_n 2, 1) := by decide +kernel
theorem dX12_number_7 : decode cX12_number 7 = .ok (.iadd, 1) := by decide +kernel
theorem dX12_number_8 : decode cX12_number 8 = .ok (.sipush 256, 3) := by decide +kernel
theorem dX12_number_11 : decode cX12_number 11 = .ok (.irem, 1) := by decide +kernel
theorem dX12_number_12 : decode cX12_number 12 = .ok (.ireturn, 1) := by decide +kernel
theorem dX12_means_0 : decode cX12_means 0 = .ok (.iload_n 2, 1) := by decide +kernel
theorem dX12_means_1 : decode cX12_means 1 = .ok (.aload_n 0, 1) := by decide +kernel
theorem dX12_means_2 : decode cX12_means 2 = .ok (.getfield 35, 3) := by decide +kernel
theorem dX12_means_5 : decode cX12_means 5 = .ok (.iload_n 1, 1) := by decide +kernel
theorem dX12_means_6 : decode cX12_means 6 = .ok (.iaload, 1) := by decide +kernel
theorem dX12_means_7 : decode cX12_means 7 = .ok (.isub, 1) := by decide +kernel
theorem dX12_means_8 : decode cX12_means 8 = .ok (.iload_n 3, 1) := by decide +kernel
theorem dX12_means_9 : decode cX12_means 9 = .ok (.isub, 1) := by decide +kernel
theorem dX12_means_10 : decode cX12_means 10 = .ok (.sipush 128, 3) := by decide +kernel
theorem dX12_means_13 : decode cX12_means 13 = .ok (.iadd, 1) := by decide +kernel
theorem dX12_means_14 : decode cX12_means 14 = .ok (.sipush 256, 3) := by decide +kernel
theorem dX12_means_17 : decode cX12_means 17 = .ok (.irem, 1) := by decide +kernel
theorem dX12_means_18 : decode cX12_means 18 = .ok (.istore 4, 2) := by decide +kernel
theorem dX12_means_20 : decode cX12_means 20 = .ok (.iload_n 3, 1) := by decide +kernel
theorem dX12_means_21 : decode cX12_means 21 = .ok (.sipush 128, 3) := by decide +kernel
theorem dX12_means_24 : decode cX12_means 24 = .ok (.isub, 1) := by decide +kernel
theorem dX12_means_25 : decode cX12_means 25 = .ok (.iload 4, 2) := by decide +kernel
theorem dX12_means_27 : decode cX12_means 27 = .ok (.ifCond .ge 12, 3) := by decide +kernel
theorem dX12_means_30 : decode cX12_means 30 = .ok (.iload 4, 2) := by decide +kernel
theorem dX12_means_32 : decode cX12_means 32 = .ok (.sipush 256, 3) := by decide +kernel
theorem dX12_means_35 : decode cX12_means 35 = .ok (.iadd, 1) := by decide +kernel
theorem dX12_means_36 : decode cX12_means 36 = .ok (.goto 5, 3) := by decide +kernel
theorem dX12_means_39 : decode cX12_means 39 = .ok (.iload 4, 2) := by decide +kernel
theorem dX12_means_41 : decode cX12_means 41 = .ok (.iadd, 1) := by decide +kernel
theorem dX12_means_42 : decode cX12_means 42 = .ok (.ireturn, 1) := by decide +kernel
theorem dX12_isHeld_0 : decode cX12_isHeld 0 = .ok (.aload_n 0, 1) := by decide +kernel
theorem dX12_isHeld_1 : decode cX12_isHeld 1 = .ok (.iload_n 1, 1) := by decide +kernel
theorem dX12_isHeld_2 : decode cX12_isHeld 2 = .ok (.sipush 160, 3) := by decide +kernel
theorem dX12_isHeld_5 : decode cX12_isHeld 5 = .ok (.iload_n 2, 1) := by decide +kernel
theorem dX12_isHeld_6 : decode cX12_isHeld 6 = .ok (.bipush 64, 2) := by decide +kernel
theorem dX12_isHeld_8 : decode cX12_isHeld 8 = .ok (.irem, 1) := by decide +kernel
theorem dX12_isHeld_9 : decode cX12_isHeld 9 = .ok (.iadd, 1) := by decide +kernel
theorem dX12_isHeld_10 : decode cX12_isHeld 10 = .ok (.invokevirtual 99, 3) := by decide +kernel
theorem dX12_isHeld_13 : decode cX12_isHeld 13 = .ok (.iload_n 2, 1) := by decide +kernel
theorem dX12_isHeld_14 : decode cX12_isHeld 14 = .ok (.iconst 1, 1) := by decide +kernel
theorem dX12_isHeld_15 : decode cX12_isHeld 15 = .ok (.iadd, 1) := by decide +kernel
theorem dX12_isHeld_16 : decode cX12_isHeld 16 = .ok (.if_icmp .ne 7, 3) := by decide +kernel
theorem dX12_isHeld_19 : decode cX12_isHeld 19 = .ok (.iconst 1, 1) := by decide +kernel
theorem dX12_isHeld_20 : decode cX12_isHeld 20 = .ok (.goto 4, 3) := by decide +kernel
theorem dX12_isHeld_23 : decode cX12_isHeld 23 = .ok (.iconst 0, 1) := by decide +kernel
theorem dX12_isHeld_24 : decode cX12_isHeld 24 = .ok (.ireturn, 1) := by decide +kernel
theorem dX12_isKnown_0 : decode cX12_isKnown 0 = .ok (.aload_n 0, 1) := by decide +kernel
theorem dX12_isKnown_1 : decode cX12_isKnown 1 = .ok (.iload_n 1, 1) := by decide +kernel
theorem dX12_isKnown_2 : decode cX12_isKnown 2 = .ok (.bipush 96, 2) := by decide +kernel
theorem dX12_isKnown_4 : decode cX12_isKnown 4 = .ok (.iload_n 2, 1) := by decide +kernel
theorem dX12_isKnown_5 : decode cX12_isKnown 5 = .ok (.bipush 64, 2) := by decide +kernel
theorem dX12_isKnown_7 : decode cX12_isKnown 7 = .ok (.irem, 1) := by decide +kernel
theorem dX12_isKnown_8 : decode cX12_isKnown 8 = .ok (.iadd, 1) := by decide +kernel
theorem dX12_isKnown_9 : decode cX12_isKnown 9 = .ok (.invokevirtual 99, 3) := by decide +kernel
theorem dX12_isKnown_12 : decode cX12_isKnown 12 = .ok (.iload_n 2, 1) := by decide +kernel
theorem dX12_isKnown_13 : decode cX12_isKnown 13 = .ok (.iconst 1, 1) := by decide +kernel
theorem dX12_isKnown_14 : decode cX12_isKnown 14 = .ok (.iadd, 1) := by decide +kernel
theorem dX12_isKnown_15 : decode cX12_isKnown 15 = .ok (.if_icmp .ne 7, 3) := by decide +kernel
theorem dX12_isKnown_18 : decode cX12_isKnown 18 = .ok (.iconst 1, 1) := by decide +kernel
theorem dX12_isKnown_19 : decode cX12_isKnown 19 = .ok (.goto 4, 3) := by decide +kernel
theorem dX12_isKnown_22 : decode cX12_isKnown 22 = .ok (.iconst 0, 1) := by decide +kernel
theorem dX12_isKnown_23 : decode cX12_isKnown 23 = .ok (.ireturn, 1) := by decide +kernel
theorem dX12_saidFrom_0 : decode cX12_saidFrom 0 = .ok (.iconst 0, 1) := by decide +kernel
theorem dX12_saidFrom_1 : decode cX12_saidFrom 1 = .ok (.aload_n 0, 1) := by decide +kernel
theorem dX12_saidFrom_2 : decode cX12_saidFrom 2 = .ok (.iload_n 1, 1) := by decide +kernel
theorem dX12_saidFrom_3 : decode cX12_saidFrom 3 = .ok (.iconst 4, 1) := by decide +kernel
theorem dX12_saidFrom_4 : decode cX12_saidFrom 4 = .ok (.invokevirtual 99, 3) := by decide +kernel
theorem dX12_saidFrom_7 : decode cX12_saidFrom 7 = .ok (.iconst 1, 1) := by decide +kernel
theorem dX12_saidFrom_8 : decode cX12_saidFrom 8 = .ok (.iadd, 1) := by decide +kernel
theorem dX12_saidFrom_9 : decode cX12_saidFrom 9 = .ok (.iload_n 2, 1) := by decide +kernel
theorem dX12_saidFrom_10 : decode cX12_saidFrom 10 = .ok (.iconst 1, 1) := by decide +kernel
theorem dX12_saidFrom_11 : decode cX12_saidFrom 11 = .ok (.invokestatic 103, 3) := by decide +kernel
theorem dX12_saidFrom_14 : decode cX12_saidFrom 14 = .ok (.isub, 1) := by decide +kernel
theorem dX12_saidFrom_15 : decode cX12_saidFrom 15 = .ok (.invokestatic 103, 3) := by decide +kernel
theorem dX12_saidFrom_18 : decode cX12_saidFrom 18 = .ok (.ireturn, 1) := by decide +kernel
theorem dX12_isByeSent_0 : decode cX12_isByeSent 0 = .ok (.aload_n 0, 1) := by decide +kernel
theorem dX12_isByeSent_1 : decode cX12_isByeSent 1 = .ok (.iload_n 1, 1) := by decide +kernel
theorem dX12_isByeSent_2 : decode cX12_isByeSent 2 = .ok (.bipush 13, 2) := by decide +kernel
theorem dX12_isByeSent_4 : decode cX12_isByeSent 4 = .ok (.invokevirtual 99, 3) := by decide +kernel
theorem dX12_isByeSent_7 : decode cX12_isByeSent 7 = .ok (.iconst 1, 1) := by decide +kernel
theorem dX12_isByeSent_8 : decode cX12_isByeSent 8 = .ok (.if_icmp .ne 24, 3) := by decide +kernel
theorem dX12_isByeSent_11 : decode cX12_isByeSent 11 = .ok (.aload_n 0, 1) := by decide +kernel
theorem dX12_isByeSent_12 : decode cX12_isByeSent 12 = .ok (.iload_n 1, 1) := by decide +kernel
theorem dX12_isByeSent_13 : decode cX12_isByeSent 13 = .ok (.iconst 2, 1) := by decide +kernel
theorem dX12_isByeSent_14 : decode cX12_isByeSent 14 = .ok (.invokevirtual 99, 3) := by decide +kernel
theorem dX12_isByeSent_17 : decode cX12_isByeSent 17 = .ok (.aload_n 0, 1) := by decide +kernel
theorem dX12_isByeSent_18 : decode cX12_isByeSent 18 = .ok (.iload_n 1, 1) := by decide +kernel
theorem dX12_isByeSent_19 : decode cX12_isByeSent 19 = .ok (.iconst 4, 1) := by decide +kernel
theorem dX12_isByeSent_20 : decode cX12_isByeSent 20 = .ok (.invokevirtual 99, 3) := by decide +kernel
theorem dX12_isByeSent_23 : decode cX12_isByeSent 23 = .ok (.iconst 2, 1) := by decide +kernel
theorem dX12_isByeSent_24 : decode cX12_isByeSent 24 = .ok (.iadd, 1) := by decide +kernel
theorem dX12_isByeSent_25 : decode cX12_isByeSent 25 = .ok (.if_icmp .ne 7, 3) := by decide +kernel
theorem dX12_isByeSent_28 : decode cX12_isByeSent 28 = .ok (.iconst 1, 1) := by decide +kernel
theorem dX12_isByeSent_29 : decode cX12_isByeSent 29 = .ok (.goto 4, 3) := by decide +kernel
theorem dX12_isByeSent_32 : decode cX12_isByeSent 32 = .ok (.iconst 0, 1) := by decide +kernel
theorem dX12_isByeSent_33 : decode cX12_isByeSent 33 = .ok (.ireturn, 1) := by decide +kernel
theorem dX12_isIn_0 : decode cX12_isIn 0 = .ok (.aload_n 0, 1) := by decide +kernel
theorem dX12_isIn_1 : decode cX12_isIn 1 = .ok (.iload_n 1, 1) := by decide +kernel
theorem dX12_isIn_2 : decode cX12_isIn 2 = .ok (.iconst 0, 1) := by decide +kernel
theorem dX12_isIn_3 : decode cX12_isIn 3 = .ok (.invokevirtual 99, 3) := by decide +kernel
theorem dX12_isIn_6 : decode cX12_isIn 6 = .ok (.iload_n 2, 1) := by decide +kernel
theorem dX12_isIn_7 : decode cX12_isIn 7 = .ok (.if_icmp .eq 13, 3) := by decide +kernel
theorem dX12_isIn_10 : decode cX12_isIn 10 = .ok (.aload_n 0, 1) := by decide +kernel
theorem dX12_isIn_11 : decode cX12_isIn 11 = .ok (.iload_n 1, 1) := by decide +kernel
theorem dX12_isIn_12 : decode cX12_isIn 12 = .ok (.iconst 0, 1) := by decide +kernel
theorem dX12_isIn_13 : decode cX12_isIn 13 = .ok (.invokevirtual 99, 3) := by decide +kernel
theorem dX12_isIn_16 : decode cX12_isIn 16 = .ok (.iload_n 3, 1) := by decide +kernel
theorem dX12_isIn_17 : decode cX12_isIn 17 = .ok (.if_icmp .ne 7, 3) := by decide +kernel
theorem dX12_isIn_20 : decode cX12_isIn 20 = .ok (.iconst 1, 1) := by decide +kernel
theorem dX12_isIn_21 : decode cX12_isIn 21 = .ok (.goto 4, 3) := by decide +kernel
theorem dX12_isIn_24 : decode cX12_isIn 24 = .ok (.iconst 0, 1) := by decide +kernel
theorem dX12_isIn_25 : decode cX12_isIn 25 = .ok (.ireturn, 1) := by decide +kernel
theorem dX12_isBlocked_0 : decode cX12_isBlocked 0 = .ok (.aload_n 0, 1) := by decide +kernel
theorem dX12_isBlocked_1 : decode cX12_isBlocked 1 = .ok (.iload_n 1, 1) := by decide +kernel
theorem dX12_isBlocked_2 : decode cX12_isBlocked 2 = .ok (.iconst 4, 1) := by decide +kernel
theorem dX12_isBlocked_3 : decode cX12_isBlocked 3 = .ok (.bipush 7, 2) := by decide +kernel
theorem dX12_isBlocked_5 : decode cX12_isBlocked 5 = .ok (.invokevirtual 106, 3) := by decide +kernel
theorem dX12_isBlocked_8 : decode cX12_isBlocked 8 = .ok (.ifCond .eq 47, 3) := by decide +kernel
theorem dX12_isBlocked_11 : decode cX12_isBlocked 11 = .ok (.aload_n 0, 1) := by decide +kernel
theorem dX12_isBlocked_12 : decode cX12_isBlocked 12 = .ok (.iload_n 1, 1) := by decide +kernel
theorem dX12_isBlocked_13 : decode cX12_isBlocked 13 = .ok (.iconst 1, 1) := by decide +kernel
theorem dX12_isBlocked_14 : decode cX12_isBlocked 14 = .ok (.invokevirtual 99, 3) := by decide +kernel
theorem dX12_isBlocked_17 : decode cX12_isBlocked 17 = .ok (.aload_n 0, 1) := by decide +kernel
theorem dX12_isBlocked_18 : decode cX12_isBlocked 18 = .ok (.iload_n 1, 1) := by decide +kernel
theorem dX12_isBlocked_19 : decode cX12_isBlocked 19 = .ok (.iconst 2, 1) := by decide +kernel
theorem dX12_isBlocked_20 : decode cX12_isBlocked 20 = .ok (.invokevirtual 99, 3) := by decide +kernel
theorem dX12_isBlocked_23 : decode cX12_isBlocked 23 = .ok (.if_icmp .ne 32, 3) := by decide +kernel
theorem dX12_isBlocked_26 : decode cX12_isBlocked 26 = .ok (.aload_n 0, 1) := by decide +kernel
theorem dX12_isBlocked_27 : decode cX12_isBlocked 27 = .ok (.iload_n 1, 1) := by decide +kernel
theorem dX12_isBlocked_28 : decode cX12_isBlocked 28 = .ok (.aload_n 0, 1) := by decide +kernel
theorem dX12_isBlocked_29 : decode cX12_isBlocked 29 = .ok (.iload_n 1, 1) := by decide +kernel
theorem dX12_isBlocked_30 : decode cX12_isBlocked 30 = .ok (.iconst 2, 1) := by decide +kernel
theorem dX12_isBlocked_31 : decode cX12_isBlocked 31 = .ok (.invokevirtual 99, 3) := by decide +kernel
theorem dX12_isBlocked_34 : decode cX12_isBlocked 34 = .ok (.invokevirtual 109, 3) := by decide +kernel
theorem dX12_isBlocked_37 : decode cX12_isBlocked 37 = .ok (.ifCond .gt 14, 3) := by decide +kernel
theorem dX12_isBlocked_40 : decode cX12_isBlocked 40 = .ok (.aload_n 0, 1) := by decide +kernel
theorem dX12_isBlocked_41 : decode cX12_isBlocked 41 = .ok (.iload_n 1, 1) := by decide +kernel
theorem dX12_isBlocked_42 : decode cX12_isBlocked 42 = .ok (.bipush 13, 2) := by decide +kernel
theorem dX12_isBlocked_44 : decode cX12_isBlocked 44 = .ok (.invokevirtual 99, 3) := by decide +kernel
theorem dX12_isBlocked_47 : decode cX12_isBlocked 47 = .ok (.iconst 1, 1) := by decide +kernel
theorem dX12_isBlocked_48 : decode cX12_isBlocked 48 = .ok (.if_icmp .ne 7, 3) := by decide +kernel
theorem dX12_isBlocked_51 : decode cX12_isBlocked 51 = .ok (.iconst 1, 1) := by decide +kernel
theorem dX12_isBlocked_52 : decode cX12_isBlocked 52 = .ok (.goto 4, 3) := by decide +kernel
theorem dX12_isBlocked_55 : decode cX12_isBlocked 55 = .ok (.iconst 0, 1) := by decide +kernel
theorem dX12_isBlocked_56 : decode cX12_isBlocked 56 = .ok (.ireturn, 1) := by decide +kernel
theorem dX12_makes_0 : decode cX12_makes 0 = .ok (.iconst 0, 1) := by decide +kernel
theorem dX12_makes_1 : decode cX12_makes 1 = .ok (.istore 4, 2) := by decide +kernel
theorem dX12_makes_3 : decode cX12_makes 3 = .ok (.iload 4, 2) := by decide +kernel
theorem dX12_makes_5 : decode cX12_makes 5 = .ok (.bipush 20, 2) := by decide +kernel
theorem dX12_makes_7 : decode cX12_makes 7 = .ok (.if_icmp .ge 48, 3) := by decide +kernel
theorem dX12_makes_10 : decode cX12_makes 10 = .ok (.aload_n 0, 1) := by decide +kernel
theorem dX12_makes_11 : decode cX12_makes 11 = .ok (.getfield 16, 3) := by decide +kernel
theorem dX12_makes_14 : decode cX12_makes 14 = .ok (.iload 4, 2) := by decide +kernel
theorem dX12_makes_16 : decode cX12_makes 16 = .ok (.iload 4, 2) := by decide +kernel
theorem dX12_makes_18 : decode cX12_makes 18 = .ok (.iconst 3, 1) := by decide +kernel
theorem dX12_makes_19 : decode cX12_makes 19 = .ok (.if_icmp .lt 23, 3) := by decide +kernel
theorem dX12_makes_22 : decode cX12_makes 22 = .ok (.iload 4, 2) := by decide +kernel
theorem dX12_makes_24 : decode cX12_makes 24 = .ok (.iconst 5, 1) := by decide +kernel
theorem dX12_makes_25 : decode cX12_makes 25 = .ok (.if_icmp .eq 17, 3) := by decide +kernel
theorem dX12_makes_28 : decode cX12_makes 28 = .ok (.iload 4, 2) := by decide +kernel
theorem dX12_makes_30 : decode cX12_makes 30 = .ok (.bipush 6, 2) := by decide +kernel
theorem dX12_makes_32 : decode cX12_makes 32 = .ok (.if_icmp .eq 10, 3) := by decide +kernel
theorem dX12_makes_35 : decode cX12_makes 35 = .ok (.iload 4, 2) := by decide +kernel
theorem dX12_makes_37 : decode cX12_makes 37 = .ok (.bipush 12, 2) := by decide +kernel
theorem dX12_makes_39 : decode cX12_makes 39 = .ok (.if_icmp .lt 7, 3) := by decide +kernel
theorem dX12_makes_42 : decode cX12_makes 42 = .ok (.iconst 0, 1) := by decide +kernel
theorem dX12_makes_43 : decode cX12_makes 43 = .ok (.goto 5, 3) := by decide +kernel
theorem dX12_makes_46 : decode cX12_makes 46 = .ok (.bipush (-4), 2) := by decide +kernel
theorem dX12_makes_48 : decode cX12_makes 48 = .ok (.iastore, 1) := by decide +kernel
theorem dX12_makes_49 : decode cX12_makes 49 = .ok (.iinc 4 1, 3) := by decide +kernel
theorem dX12_makes_52 : decode cX12_makes 52 = .ok (.goto (-49), 3) := by decide +kernel
theorem dX12_makes_55 : decode cX12_makes 55 = .ok (.aload_n 0, 1) := by decide +kernel
theorem dX12_makes_56 : decode cX12_makes 56 = .ok (.getfield 16, 3) := by decide +kernel
theorem dX12_makes_59 : decode cX12_makes 59 = .ok (.iconst 0, 1) := by decide +kernel
theorem dX12_makes_60 : decode cX12_makes 60 = .ok (.iload_n 1, 1) := by decide +kernel
theorem dX12_makes_61 : decode cX12_makes 61 = .ok (.iastore, 1) := by decide +kernel
theorem dX12_makes_62 : decode cX12_makes 62 = .ok (.aload_n 0, 1) := by decide +kernel
theorem dX12_makes_63 : decode cX12_makes 63 = .ok (.getfield 16, 3) := by decide +kernel
theorem dX12_makes_66 : decode cX12_makes 66 = .ok (.iconst 1, 1) := by decide +kernel
theorem dX12_makes_67 : decode cX12_makes 67 = .ok (.iload_n 2, 1) := by decide +kernel
theorem dX12_makes_68 : decode cX12_makes 68 = .ok (.iastore, 1) := by decide +kernel
theorem dX12_makes_69 : decode cX12_makes 69 = .ok (.aload_n 0, 1) := by decide +kernel
theorem dX12_makes_70 : decode cX12_makes 70 = .ok (.getfield 16, 3) := by decide +kernel
theorem dX12_makes_73 : decode cX12_makes 73 = .ok (.iconst 2, 1) := by decide +kernel
theorem dX12_makes_74 : decode cX12_makes 74 = .ok (.iload_n 3, 1) := by decide +kernel
theorem dX12_makes_75 : decode cX12_makes 75 = .ok (.iastore, 1) := by decide +kernel
theorem dX12_makes_76 : decode cX12_makes 76 = .ok (.iload_n 2, 1) := by decide +kernel
theorem dX12_makes_77 : decode cX12_makes 77 = .ok (.iconst 4, 1) := by decide +kernel
theorem dX12_makes_78 : decode cX12_makes 78 = .ok (.iand, 1) := by decide +kernel
theorem dX12_makes_79 : decode cX12_makes 79 = .ok (.ifCond .le 54, 3) := by decide +kernel
theorem dX12_makes_82 : decode cX12_makes 82 = .ok (.iload_n 2, 1) := by decide +kernel
theorem dX12_makes_83 : decode cX12_makes 83 = .ok (.bipush 8, 2) := by decide +kernel
theorem dX12_makes_85 : decode cX12_makes 85 = .ok (.iand, 1) := by decide +kernel
theorem dX12_makes_86 : decode cX12_makes 86 = .ok (.ifCond .ne 47, 3) := by decide +kernel
theorem dX12_makes_89 : decode cX12_makes 89 = .ok (.aload_n 0, 1) := by decide +kernel
theorem dX12_makes_90 : decode cX12_makes 90 = .ok (.getfield 16, 3) := by decide +kernel
theorem dX12_makes_93 : decode cX12_makes 93 = .ok (.iconst 3, 1) := by decide +kernel
theorem dX12_makes_94 : decode cX12_makes 94 = .ok (.aload_n 0, 1) := by decide +kernel
theorem dX12_makes_95 : decode cX12_makes 95 = .ok (.iconst 1, 1) := by decide +kernel
theorem dX12_makes_96 : decode cX12_makes 96 = .ok (.iload_n 1, 1) := by decide +kernel
theorem dX12_makes_97 : decode cX12_makes 97 = .ok (.isub, 1) := by decide +kernel
theorem dX12_makes_98 : decode cX12_makes 98 = .ok (.aload_n 0, 1) := by decide +kernel
theorem dX12_makes_99 : decode cX12_makes 99 = .ok (.iload_n 1, 1) := by decide +kernel
theorem dX12_makes_100 : decode cX12_makes 100 = .ok (.iconst 5, 1) := by decide +kernel
theorem dX12_makes_101 : decode cX12_makes 101 = .ok (.invokevirtual 99, 3) := by decide +kernel
theorem dX12_makes_104 : decode cX12_makes 104 = .ok (.invokevirtual 112, 3) := by decide +kernel
theorem dX12_makes_107 : decode cX12_makes 107 = .ok (.iastore, 1) := by decide +kernel
theorem dX12_makes_108 : decode cX12_makes 108 = .ok (.aload_n 0, 1) := by decide +kernel
theorem dX12_makes_109 : decode cX12_makes 109 = .ok (.getfield 16, 3) := by decide +kernel
theorem dX12_makes_112 : decode cX12_makes 112 = .ok (.iconst 4, 1) := by decide +kernel
theorem dX12_makes_113 : decode cX12_makes 113 = .ok (.aload_n 0, 1) := by decide +kernel
theorem dX12_makes_114 : decode cX12_makes 114 = .ok (.iload_n 1, 1) := by decide +kernel
theorem dX12_makes_115 : decode cX12_makes 115 = .ok (.bipush 7, 2) := by decide +kernel
theorem dX12_makes_117 : decode cX12_makes 117 = .ok (.invokevirtual 99, 3) := by decide +kernel
theorem dX12_makes_120 : decode cX12_makes 120 = .ok (.aload_n 0, 1) := by decide +kernel
theorem dX12_makes_121 : decode cX12_makes 121 = .ok (.iload_n 1, 1) := by decide +kernel
theorem dX12_makes_122 : decode cX12_makes 122 = .ok (.iconst 5, 1) := by decide +kernel
theorem dX12_makes_123 : decode cX12_makes 123 = .ok (.invokevirtual 99, 3) := by decide +kernel
theorem dX12_makes_126 : decode cX12_makes 126 = .ok (.isub, 1) := by decide +kernel
theorem dX12_makes_127 : decode cX12_makes 127 = .ok (.iastore, 1) := by decide +kernel
theorem dX12_makes_128 : decode cX12_makes 128 = .ok (.aload_n 0, 1) := by decide +kernel
theorem dX12_makes_129 : decode cX12_makes 129 = .ok (.iload_n 1, 1) := by decide +kernel
theorem dX12_makes_130 : decode cX12_makes 130 = .ok (.invokevirtual 115, 3) := by decide +kernel
theorem dX12_makes_133 : decode cX12_makes 133 = .ok (.return_, 1) := by decide +kernel
theorem dX12_nextHeld_0 : decode cX12_nextHeld 0 = .ok (.iload_n 2, 1) := by decide +kernel
theorem dX12_nextHeld_1 : decode cX12_nextHeld 1 = .ok (.istore 4, 2) := by decide +kernel
theorem dX12_nextHeld_3 : decode cX12_nextHeld 3 = .ok (.iload 4, 2) := by decide +kernel
theorem dX12_nextHeld_5 : decode cX12_nextHeld 5 = .ok (.aload_n 0, 1) := by decide +kernel
theorem dX12_nextHeld_6 : decode cX12_nextHeld 6 = .ok (.iload_n 1, 1) := by decide +kernel
theorem dX12_nextHeld_7 : decode cX12_nextHeld 7 = .ok (.bipush 7, 2) := by decide +kernel
theorem dX12_nextHeld_9 : decode cX12_nextHeld 9 = .ok (.invokevirtual 99, 3) := by decide +kernel
theorem dX12_nextHeld_12 : decode cX12_nextHeld 12 = .ok (.if_icmp .ge 20, 3) := by decide +kernel
theorem dX12_nextHeld_15 : decode cX12_nextHeld 15 = .ok (.aload_n 0, 1) := by decide +kernel
theorem dX12_nextHeld_16 : decode cX12_nextHeld 16 = .ok (.iload_n 1, 1) := by decide +kernel
theorem dX12_nextHeld_17 : decode cX12_nextHeld 17 = .ok (.iload 4, 2) := by decide +kernel
theorem dX12_nextHeld_19 : decode cX12_nextHeld 19 = .ok (.invokevirtual 118, 3) := by decide +kernel
theorem dX12_nextHeld_22 : decode cX12_nextHeld 22 = .ok (.iload_n 3, 1) := by decide +kernel
theorem dX12_nextHeld_23 : decode cX12_nextHeld 23 = .ok (.if_icmp .eq 9, 3) := by decide +kernel
theorem dX12_nextHeld_26 : decode cX12_nextHeld 26 = .ok (.iinc 4 1, 3) := by decide +kernel
theorem dX12_nextHeld_29 : decode cX12_nextHeld 29 = .ok (.goto (-26), 3) := by decide +kernel
theorem dX12_nextHeld_32 : decode cX12_nextHeld 32 = .ok (.iload_n 3, 1) := by decide +kernel
theorem dX12_nextHeld_33 : decode cX12_nextHeld 33 = .ok (.ifCond .eq 20, 3) := by decide +kernel
theorem dX12_nextHeld_36 : decode cX12_nextHeld 36 = .ok (.iload 4, 2) := by decide +kernel
theorem dX12_nextHeld_38 : decode cX12_nextHeld 38 = .ok (.aload_n 0, 1) := by decide +kernel
theorem dX12_nextHeld_39 : decode cX12_nextHeld 39 = .ok (.iload_n 1, 1) := by decide +kernel
theorem dX12_nextHeld_40 : decode cX12_nextHeld 40 = .ok (.bipush 7, 2) := by decide +kernel
theorem dX12_nextHeld_42 : decode cX12_nextHeld 42 = .ok (.invokevirtual 99, 3) := by decide +kernel
theorem dX12_nextHeld_45 : decode cX12_nextHeld 45 = .ok (.if_icmp .lt 8, 3) := by decide +kernel
theorem dX12_nextHeld_48 : decode cX12_nextHeld 48 = .ok (.bipush (-4), 2) := by decide +kernel
theorem dX12_nextHeld_50 : decode cX12_nextHeld 50 = .ok (.goto 5, 3) := by decide +kernel
theorem dX12_nextHeld_53 : decode cX12_nextHeld 53 = .ok (.iload 4, 2) := by decide +kernel
theorem dX12_nextHeld_55 : decode cX12_nextHeld 55 = .ok (.ireturn, 1) := by decide +kernel
theorem dX12_spans_0 : decode cX12_spans 0 = .ok (.aload_n 0, 1) := by decide +kernel
theorem dX12_spans_1 : decode cX12_spans 1 = .ok (.iload_n 1, 1) := by decide +kernel
theorem dX12_spans_2 : decode cX12_spans 2 = .ok (.aload_n 0, 1) := by decide +kernel
theorem dX12_spans_3 : decode cX12_spans 3 = .ok (.iload_n 1, 1) := by decide +kernel
theorem dX12_spans_4 : decode cX12_spans 4 = .ok (.iconst 5, 1) := by decide +kernel
theorem dX12_spans_5 : decode cX12_spans 5 = .ok (.invokevirtual 99, 3) := by decide +kernel
theorem dX12_spans_8 : decode cX12_spans 8 = .ok (.iconst 1, 1) := by decide +kernel
theorem dX12_spans_9 : decode cX12_spans 9 = .ok (.invokevirtual 122, 3) := by decide +kernel
theorem dX12_spans_12 : decode cX12_spans 12 = .ok (.istore_n 2, 1) := by decide +kernel
theorem dX12_spans_13 : decode cX12_spans 13 = .ok (.iload_n 2, 1) := by decide +kernel
theorem dX12_spans_14 : decode cX12_spans 14 = .ok (.bipush (-4), 2) := by decide +kernel
theorem dX12_spans_16 : decode cX12_spans 16 = .ok (.if_icmp .eq 96, 3) := by decide +kernel
theorem dX12_spans_19 : decode cX12_spans 19 = .ok (.aload_n 0, 1) := by decide +kernel
theorem dX12_spans_20 : decode cX12_spans 20 = .ok (.getfield 16, 3) := by decide +kernel
theorem dX12_spans_23 : decode cX12_spans 23 = .ok (.bipush 6, 2) := by decide +kernel
theorem dX12_spans_25 : decode cX12_spans 25 = .ok (.iaload, 1) := by decide +kernel
theorem dX12_spans_26 : decode cX12_spans 26 = .ok (.iconst 2, 1) := by decide +kernel
theorem dX12_spans_27 : decode cX12_spans 27 = .ok (.if_icmp .ge 85, 3) := by decide +kernel
theorem dX12_spans_30 : decode cX12_spans 30 = .ok (.aload_n 0, 1) := by decide +kernel
theorem dX12_spans_31 : decode cX12_spans 31 = .ok (.iload_n 1, 1) := by decide +kernel
theorem dX12_spans_32 : decode cX12_spans 32 = .ok (.iload_n 2, 1) := by decide +kernel
theorem dX12_spans_33 : decode cX12_spans 33 = .ok (.iconst 0, 1) := by decide +kernel
theorem dX12_spans_34 : decode cX12_spans 34 = .ok (.invokevirtual 122, 3) := by decide +kernel
theorem dX12_spans_37 : decode cX12_spans 37 = .ok (.istore_n 3, 1) := by decide +kernel
theorem dX12_spans_38 : decode cX12_spans 38 = .ok (.aload_n 0, 1) := by decide +kernel
theorem dX12_spans_39 : decode cX12_spans 39 = .ok (.getfield 16, 3) := by decide +kernel
theorem dX12_spans_42 : decode cX12_spans 42 = .ok (.bipush 8, 2) := by decide +kernel
theorem dX12_spans_44 : decode cX12_spans 44 = .ok (.iconst 2, 1) := by decide +kernel
theorem dX12_spans_45 : decode cX12_spans 45 = .ok (.aload_n 0, 1) := by decide +kernel
theorem dX12_spans_46 : decode cX12_spans 46 = .ok (.getfield 16, 3) := by decide +kernel
theorem dX12_spans_49 : decode cX12_spans 49 = .ok (.bipush 6, 2) := by decide +kernel
theorem dX12_spans_51 : decode cX12_spans 51 = .ok (.iaload, 1) := by decide +kernel
theorem dX12_spans_52 : decode cX12_spans 52 = .ok (.imul, 1) := by decide +kernel
theorem dX12_spans_53 : decode cX12_spans 53 = .ok (.iadd, 1) := by decide +kernel
theorem dX12_spans_54 : decode cX12_spans 54 = .ok (.aload_n 0, 1) := by decide +kernel
theorem dX12_spans_55 : decode cX12_spans 55 = .ok (.iconst 1, 1) := by decide +kernel
theorem dX12_spans_56 : decode cX12_spans 56 = .ok (.iload_n 1, 1) := by decide +kernel
theorem dX12_spans_57 : decode cX12_spans 57 = .ok (.isub, 1) := by decide +kernel
theorem dX12_spans_58 : decode cX12_spans 58 = .ok (.iload_n 2, 1) := by decide +kernel
theorem dX12_spans_59 : decode cX12_spans 59 = .ok (.invokevirtual 112, 3) := by decide +kernel
theorem dX12_spans_62 : decode cX12_spans 62 = .ok (.iastore, 1) := by decide +kernel
theorem dX12_spans_63 : decode cX12_spans 63 = .ok (.aload_n 0, 1) := by decide +kernel
theorem dX12_spans_64 : decode cX12_spans 64 = .ok (.getfield 16, 3) := by decide +kernel
theorem dX12_spans_67 : decode cX12_spans 67 = .ok (.bipush 8, 2) := by decide +kernel
theorem dX12_spans_69 : decode cX12_spans 69 = .ok (.iconst 2, 1) := by decide +kernel
theorem dX12_spans_70 : decode cX12_spans 70 = .ok (.aload_n 0, 1) := by decide +kernel
theorem dX12_spans_71 : decode cX12_spans 71 = .ok (.getfield 16, 3) := by decide +kernel
theorem dX12_spans_74 : decode cX12_spans 74 = .ok (.bipush 6, 2) := by decide +kernel
theorem dX12_spans_76 : decode cX12_spans 76 = .ok (.iaload, 1) := by decide +kernel
theorem dX12_spans_77 : decode cX12_spans 77 = .ok (.imul, 1) := by decide +kernel
theorem dX12_spans_78 : decode cX12_spans 78 = .ok (.iadd, 1) := by decide +kernel
theorem dX12_spans_79 : decode cX12_spans 79 = .ok (.iconst 1, 1) := by decide +kernel
theorem dX12_spans_80 : decode cX12_spans 80 = .ok (.iadd, 1) := by decide +kernel
theorem dX12_spans_81 : decode cX12_spans 81 = .ok (.aload_n 0, 1) := by decide +kernel
theorem dX12_spans_82 : decode cX12_spans 82 = .ok (.iconst 1, 1) := by decide +kernel
theorem dX12_spans_83 : decode cX12_spans 83 = .ok (.iload_n 1, 1) := by decide +kernel
theorem dX12_spans_84 : decode cX12_spans 84 = .ok (.isub, 1) := by decide +kernel
theorem dX12_spans_85 : decode cX12_spans 85 = .ok (.iload_n 3, 1) := by decide +kernel
theorem dX12_spans_86 : decode cX12_spans 86 = .ok (.invokevirtual 112, 3) := by decide +kernel
theorem dX12_spans_89 : decode cX12_spans 89 = .ok (.iastore, 1) := by decide +kernel
theorem dX12_spans_90 : decode cX12_spans 90 = .ok (.aload_n 0, 1) := by decide +kernel
theorem dX12_spans_91 : decode cX12_spans 91 = .ok (.getfield 16, 3) := by decide +kernel
theorem dX12_spans_94 : decode cX12_spans 94 = .ok (.bipush 6, 2) := by decide +kernel
theorem dX12_spans_96 : decode cX12_spans 96 = .ok (.dup2, 1) := by decide +kernel
theorem dX12_spans_97 : decode cX12_spans 97 = .ok (.iaload, 1) := by decide +kernel
theorem dX12_spans_98 : decode cX12_spans 98 = .ok (.iconst 1, 1) := by decide +kernel
theorem dX12_spans_99 : decode cX12_spans 99 = .ok (.iadd, 1) := by decide +kernel
theorem dX12_spans_100 : decode cX12_spans 100 = .ok (.iastore, 1) := by decide +kernel
theorem dX12_spans_101 : decode cX12_spans 101 = .ok (.aload_n 0, 1) := by decide +kernel
theorem dX12_spans_102 : decode cX12_spans 102 = .ok (.iload_n 1, 1) := by decide +kernel
theorem dX12_spans_103 : decode cX12_spans 103 = .ok (.iload_n 3, 1) := by decide +kernel
theorem dX12_spans_104 : decode cX12_spans 104 = .ok (.iconst 1, 1) := by decide +kernel
theorem dX12_spans_105 : decode cX12_spans 105 = .ok (.invokevirtual 122, 3) := by decide +kernel
theorem dX12_spans_108 : decode cX12_spans 108 = .ok (.istore_n 2, 1) := by decide +kernel
theorem dX12_spans_109 : decode cX12_spans 109 = .ok (.goto (-96), 3) := by decide +kernel
theorem dX12_spans_112 : decode cX12_spans 112 = .ok (.return_, 1) := by decide +kernel
theorem dX12_posts_0 : decode cX12_posts 0 = .ok (.aload_n 0, 1) := by decide +kernel
theorem dX12_posts_1 : decode cX12_posts 1 = .ok (.getfield 7, 3) := by decide +kernel
theorem dX12_posts_4 : decode cX12_posts 4 = .ok (.sipush 978, 3) := by decide +kernel
theorem dX12_posts_7 : decode cX12_posts 7 = .ok (.dup2, 1) := by decide +kernel
theorem dX12_posts_8 : decode cX12_posts 8 = .ok (.iaload, 1) := by decide +kernel
theorem dX12_posts_9 : decode cX12_posts 9 = .ok (.iconst 1, 1) := by decide +kernel
theorem dX12_posts_10 : decode cX12_posts 10 = .ok (.iadd, 1) := by decide +kernel
theorem dX12_posts_11 : decode cX12_posts 11 = .ok (.iastore, 1) := by decide +kernel
theorem dX12_posts_12 : decode cX12_posts 12 = .ok (.aload_n 0, 1) := by decide +kernel
theorem dX12_posts_13 : decode cX12_posts 13 = .ok (.getfield 7, 3) := by decide +kernel
theorem dX12_posts_16 : decode cX12_posts 16 = .ok (.sipush 976, 3) := by decide +kernel
theorem dX12_posts_19 : decode cX12_posts 19 = .ok (.iaload, 1) := by decide +kernel
theorem dX12_posts_20 : decode cX12_posts 20 = .ok (.bipush 20, 2) := by decide +kernel
theorem dX12_posts_22 : decode cX12_posts 22 = .ok (.if_icmp .ne 16, 3) := by decide +kernel
theorem dX12_posts_25 : decode cX12_posts 25 = .ok (.aload_n 0, 1) := by decide +kernel
theorem dX12_posts_26 : decode cX12_posts 26 = .ok (.getfield 7, 3) := by decide +kernel
theorem dX12_posts_29 : decode cX12_posts 29 = .ok (.sipush 979, 3) := by decide +kernel
theorem dX12_posts_32 : decode cX12_posts 32 = .ok (.dup2, 1) := by decide +kernel
theorem dX12_posts_33 : decode cX12_posts 33 = .ok (.iaload, 1) := by decide +kernel
theorem dX12_posts_34 : decode cX12_posts 34 = .ok (.iconst 1, 1) := by decide +kernel
theorem dX12_posts_35 : decode cX12_posts 35 = .ok (.iadd, 1) := by decide +kernel
theorem dX12_posts_36 : decode cX12_posts 36 = .ok (.iastore, 1) := by decide +kernel
theorem dX12_posts_37 : decode cX12_posts 37 = .ok (.return_, 1) := by decide +kernel
theorem dX12_posts_38 : decode cX12_posts 38 = .ok (.iconst 0, 1) := by decide +kernel
theorem dX12_posts_39 : decode cX12_posts 39 = .ok (.istore_n 1, 1) := by decide +kernel
theorem dX12_posts_40 : decode cX12_posts 40 = .ok (.iload_n 1, 1) := by decide +kernel
theorem dX12_posts_41 : decode cX12_posts 41 = .ok (.bipush 20, 2) := by decide +kernel
theorem dX12_posts_43 : decode cX12_posts 43 = .ok (.if_icmp .ge 37, 3) := by decide +kernel
theorem dX12_posts_46 : decode cX12_posts 46 = .ok (.aload_n 0, 1) := by decide +kernel
theorem dX12_posts_47 : decode cX12_posts 47 = .ok (.getfield 7, 3) := by decide +kernel
theorem dX12_posts_50 : decode cX12_posts 50 = .ok (.sipush 576, 3) := by decide +kernel
theorem dX12_posts_53 : decode cX12_posts 53 = .ok (.bipush 20, 2) := by decide +kernel
theorem dX12_posts_55 : decode cX12_posts 55 = .ok (.aload_n 0, 1) := by decide +kernel
theorem dX12_posts_56 : decode cX12_posts 56 = .ok (.getfield 7, 3) := by decide +kernel
theorem dX12_posts_59 : decode cX12_posts 59 = .ok (.sipush 976, 3) := by decide +kernel
theorem dX12_posts_62 : decode cX12_posts 62 = .ok (.iaload, 1) := by decide +kernel
theorem dX12_posts_63 : decode cX12_posts 63 = .ok (.imul, 1) := by decide +kernel
theorem dX12_posts_64 : decode cX12_posts 64 = .ok (.iadd, 1) := by decide +kernel
theorem dX12_posts_65 : decode cX12_posts 65 = .ok (.iload_n 1, 1) := by decide +kernel
theorem dX12_posts_66 : decode cX12_posts 66 = .ok (.iadd, 1) := by decide +kernel
theorem dX12_posts_67 : decode cX12_posts 67 = .ok (.aload_n 0, 1) := by decide +kernel
theorem dX12_posts_68 : decode cX12_posts 68 = .ok (.getfield 16, 3) := by decide +kernel
theorem dX12_posts_71 : decode cX12_posts 71 = .ok (.iload_n 1, 1) := by decide +kernel
theorem dX12_posts_72 : decode cX12_posts 72 = .ok (.iaload, 1) := by decide +kernel
theorem dX12_posts_73 : decode cX12_posts 73 = .ok (.iastore, 1) := by decide +kernel
theorem dX12_posts_74 : decode cX12_posts 74 = .ok (.iinc 1 1, 3) := by decide +kernel
theorem dX12_posts_77 : decode cX12_posts 77 = .ok (.goto (-37), 3) := by decide +kernel
theorem dX12_posts_80 : decode cX12_posts 80 = .ok (.aload_n 0, 1) := by decide +kernel
theorem dX12_posts_81 : decode cX12_posts 81 = .ok (.getfield 7, 3) := by decide +kernel
theorem dX12_posts_84 : decode cX12_posts 84 = .ok (.sipush 976, 3) := by decide +kernel
theorem dX12_posts_87 : decode cX12_posts 87 = .ok (.dup2, 1) := by decide +kernel
theorem dX12_posts_88 : decode cX12_posts 88 = .ok (.iaload, 1) := by decide +kernel
theorem dX12_posts_89 : decode cX12_posts 89 = .ok (.iconst 1, 1) := by decide +kernel
theorem dX12_posts_90 : decode cX12_posts 90 = .ok (.iadd, 1) := by decide +kernel
theorem dX12_posts_91 : decode cX12_posts 91 = .ok (.iastore, 1) := by decide +kernel
theorem dX12_posts_92 : decode cX12_posts 92 = .ok (.return_, 1) := by decide +kernel
theorem dX12_times_0 : decode cX12_times 0 = .ok (.aload_n 0, 1) := by decide +kernel
theorem dX12_times_1 : decode cX12_times 1 = .ok (.iload_n 1, 1) := by decide +kernel
theorem dX12_times_2 : decode cX12_times 2 = .ok (.bipush 16, 2) := by decide +kernel
theorem dX12_times_4 : decode cX12_times 4 = .ok (.invokevirtual 99, 3) := by decide +kernel
theorem dX12_times_7 : decode cX12_times 7 = .ok (.bipush (-4), 2) := by decide +kernel
theorem dX12_times_9 : decode cX12_times 9 = .ok (.if_icmp .ne 26, 3) := by decide +kernel
theorem dX12_times_12 : decode cX12_times 12 = .ok (.aload_n 0, 1) := by decide +kernel
theorem dX12_times_13 : decode cX12_times 13 = .ok (.iload_n 1, 1) := by decide +kernel
theorem dX12_times_14 : decode cX12_times 14 = .ok (.bipush 16, 2) := by decide +kernel
theorem dX12_times_16 : decode cX12_times 16 = .ok (.iload_n 2, 1) := by decide +kernel
theorem dX12_times_17 : decode cX12_times 17 = .ok (.invokevirtual 95, 3) := by decide +kernel
theorem dX12_times_20 : decode cX12_times 20 = .ok (.aload_n 0, 1) := by decide +kernel
theorem dX12_times_21 : decode cX12_times 21 = .ok (.iload_n 1, 1) := by decide +kernel
theorem dX12_times_22 : decode cX12_times 22 = .ok (.bipush 18, 2) := by decide +kernel
theorem dX12_times_24 : decode cX12_times 24 = .ok (.aload_n 0, 1) := by decide +kernel
theorem dX12_times_25 : decode cX12_times 25 = .ok (.getfield 7, 3) := by decide +kernel
theorem dX12_times_28 : decode cX12_times 28 = .ok (.sipush 977, 3) := by decide +kernel
theorem dX12_times_31 : decode cX12_times 31 = .ok (.iaload, 1) := by decide +kernel
theorem dX12_times_32 : decode cX12_times 32 = .ok (.invokevirtual 95, 3) := by decide +kernel
theorem dX12_times_35 : decode cX12_times 35 = .ok (.return_, 1) := by decide +kernel
theorem dX12_yes_0 : decode cX12_yes 0 = .ok (.aload_n 0, 1) := by decide +kernel
theorem dX12_yes_1 : decode cX12_yes 1 = .ok (.iload_n 1, 1) := by decide +kernel
theorem dX12_yes_2 : decode cX12_yes 2 = .ok (.iconst 4, 1) := by decide +kernel
theorem dX12_yes_3 : decode cX12_yes 3 = .ok (.aload_n 0, 1) := by decide +kernel
theorem dX12_yes_4 : decode cX12_yes 4 = .ok (.iload_n 1, 1) := by decide +kernel
theorem dX12_yes_5 : decode cX12_yes 5 = .ok (.aload_n 0, 1) := by decide +kernel
theorem dX12_yes_6 : decode cX12_yes 6 = .ok (.iload_n 1, 1) := by decide +kernel
theorem dX12_yes_7 : decode cX12_yes 7 = .ok (.iconst 2, 1) := by decide +kernel
theorem dX12_yes_8 : decode cX12_yes 8 = .ok (.invokevirtual 99, 3) := by decide +kernel
theorem dX12_yes_11 : decode cX12_yes 11 = .ok (.invokevirtual 112, 3) := by decide +kernel
theorem dX12_yes_14 : decode cX12_yes 14 = .ok (.invokevirtual 126, 3) := by decide +kernel
theorem dX12_yes_17 : decode cX12_yes 17 = .ok (.aload_n 0, 1) := by decide +kernel
theorem dX12_yes_18 : decode cX12_yes 18 = .ok (.invokevirtual 129, 3) := by decide +kernel
theorem dX12_yes_21 : decode cX12_yes 21 = .ok (.return_, 1) := by decide +kernel
theorem dX12_hello_0 : decode cX12_hello 0 = .ok (.aload_n 0, 1) := by decide +kernel
theorem dX12_hello_1 : decode cX12_hello 1 = .ok (.iload_n 1, 1) := by decide +kernel
theorem dX12_hello_2 : decode cX12_hello 2 = .ok (.aload_n 0, 1) := by decide +kernel
theorem dX12_hello_3 : decode cX12_hello 3 = .ok (.iload_n 1, 1) := by decide +kernel
theorem dX12_hello_4 : decode cX12_hello 4 = .ok (.iconst 0, 1) := by decide +kernel
theorem dX12_hello_5 : decode cX12_hello 5 = .ok (.invokevirtual 99, 3) := by decide +kernel
theorem dX12_hello_8 : decode cX12_hello 8 = .ok (.iconst 2, 1) := by decide +kernel
theorem dX12_hello_9 : decode cX12_hello 9 = .ok (.if_icmp .ne 7, 3) := by decide +kernel
theorem dX12_hello_12 : decode cX12_hello 12 = .ok (.iconst 1, 1) := by decide +kernel
theorem dX12_hello_13 : decode cX12_hello 13 = .ok (.goto 4, 3) := by decide +kernel
theorem dX12_hello_16 : decode cX12_hello 16 = .ok (.iconst 5, 1) := by decide +kernel
theorem dX12_hello_17 : decode cX12_hello 17 = .ok (.aload_n 0, 1) := by decide +kernel
theorem dX12_hello_18 : decode cX12_hello 18 = .ok (.iload_n 1, 1) := by decide +kernel
theorem dX12_hello_19 : decode cX12_hello 19 = .ok (.iconst 0, 1) := by decide +kernel
theorem dX12_hello_20 : decode cX12_hello 20 = .ok (.invokevirtual 112, 3) := by decide +kernel
theorem dX12_hello_23 : decode cX12_hello 23 = .ok (.invokevirtual 126, 3) := by decide +kernel
theorem dX12_hello_26 : decode cX12_hello 26 = .ok (.aload_n 0, 1) := by decide +kernel
theorem dX12_hello_27 : decode cX12_hello 27 = .ok (.invokevirtual 129, 3) := by decide +kernel
theorem dX12_hello_30 : decode cX12_hello 30 = .ok (.return_, 1) := by decide +kernel
theorem dX12_data_0 : decode cX12_data 0 = .ok (.aload_n 0, 1) := by decide +kernel
theorem dX12_data_1 : decode cX12_data 1 = .ok (.iload_n 1, 1) := by decide +kernel
theorem dX12_data_2 : decode cX12_data 2 = .ok (.iload 4, 2) := by decide +kernel
theorem dX12_data_4 : decode cX12_data 4 = .ok (.ifCond .eq 8, 3) := by decide +kernel
theorem dX12_data_7 : decode cX12_data 7 = .ok (.bipush 6, 2) := by decide +kernel
theorem dX12_data_9 : decode cX12_data 9 = .ok (.goto 4, 3) := by decide +kernel
theorem dX12_data_12 : decode cX12_data 12 = .ok (.iconst 4, 1) := by decide +kernel
theorem dX12_data_13 : decode cX12_data 13 = .ok (.aload_n 0, 1) := by decide +kernel
theorem dX12_data_14 : decode cX12_data 14 = .ok (.iload_n 1, 1) := by decide +kernel
theorem dX12_data_15 : decode cX12_data 15 = .ok (.iload_n 2, 1) := by decide +kernel
theorem dX12_data_16 : decode cX12_data 16 = .ok (.invokevirtual 112, 3) := by decide +kernel
theorem dX12_data_19 : decode cX12_data 19 = .ok (.invokevirtual 126, 3) := by decide +kernel
theorem dX12_data_22 : decode cX12_data 22 = .ok (.aload_n 0, 1) := by decide +kernel
theorem dX12_data_23 : decode cX12_data 23 = .ok (.getfield 16, 3) := by decide +kernel
theorem dX12_data_26 : decode cX12_data 26 = .ok (.iconst 5, 1) := by decide +kernel
theorem dX12_data_27 : decode cX12_data 27 = .ok (.iload_n 3, 1) := by decide +kernel
theorem dX12_data_28 : decode cX12_data 28 = .ok (.iastore, 1) := by decide +kernel
theorem dX12_data_29 : decode cX12_data 29 = .ok (.iconst 0, 1) := by decide +kernel
theorem dX12_data_30 : decode cX12_data 30 = .ok (.istore 5, 2) := by decide +kernel
theorem dX12_data_32 : decode cX12_data 32 = .ok (.iload 5, 2) := by decide +kernel
theorem dX12_data_34 : decode cX12_data 34 = .ok (.iload_n 3, 1) := by decide +kernel
theorem dX12_data_35 : decode cX12_data 35 = .ok (.if_icmp .ge 34, 3) := by decide +kernel
theorem dX12_data_38 : decode cX12_data 38 = .ok (.aload_n 0, 1) := by decide +kernel
theorem dX12_data_39 : decode cX12_data 39 = .ok (.getfield 16, 3) := by decide +kernel
theorem dX12_data_42 : decode cX12_data 42 = .ok (.bipush 12, 2) := by decide +kernel
theorem dX12_data_44 : decode cX12_data 44 = .ok (.iload 5, 2) := by decide +kernel
theorem dX12_data_46 : decode cX12_data 46 = .ok (.iadd, 1) := by decide +kernel
theorem dX12_data_47 : decode cX12_data 47 = .ok (.aload_n 0, 1) := by decide +kernel
theorem dX12_data_48 : decode cX12_data 48 = .ok (.iload_n 1, 1) := by decide +kernel
theorem dX12_data_49 : decode cX12_data 49 = .ok (.bipush 32, 2) := by decide +kernel
theorem dX12_data_51 : decode cX12_data 51 = .ok (.iload_n 2, 1) := by decide +kernel
theorem dX12_data_52 : decode cX12_data 52 = .ok (.iload 5, 2) := by decide +kernel
theorem dX12_data_54 : decode cX12_data 54 = .ok (.iadd, 1) := by decide +kernel
theorem dX12_data_55 : decode cX12_data 55 = .ok (.bipush 64, 2) := by decide +kernel
theorem dX12_data_57 : decode cX12_data 57 = .ok (.irem, 1) := by decide +kernel
theorem dX12_data_58 : decode cX12_data 58 = .ok (.iadd, 1) := by decide +kernel
theorem dX12_data_59 : decode cX12_data 59 = .ok (.invokevirtual 99, 3) := by decide +kernel
theorem dX12_data_62 : decode cX12_data 62 = .ok (.iastore, 1) := by decide +kernel
theorem dX12_data_63 : decode cX12_data 63 = .ok (.iinc 5 1, 3) := by decide +kernel
theorem dX12_data_66 : decode cX12_data 66 = .ok (.goto (-34), 3) := by decide +kernel
theorem dX12_data_69 : decode cX12_data 69 = .ok (.aload_n 0, 1) := by decide +kernel
theorem dX12_data_70 : decode cX12_data 70 = .ok (.getfield 16, 3) := by decide +kernel
theorem dX12_data_73 : decode cX12_data 73 = .ok (.bipush 7, 2) := by decide +kernel
theorem dX12_data_75 : decode cX12_data 75 = .ok (.iload_n 2, 1) := by decide +kernel
theorem dX12_data_76 : decode cX12_data 76 = .ok (.aload_n 0, 1) := by decide +kernel
theorem dX12_data_77 : decode cX12_data 77 = .ok (.iload_n 1, 1) := by decide +kernel
theorem dX12_data_78 : decode cX12_data 78 = .ok (.bipush 14, 2) := by decide +kernel
theorem dX12_data_80 : decode cX12_data 80 = .ok (.invokevirtual 99, 3) := by decide +kernel
theorem dX12_data_83 : decode cX12_data 83 = .ok (.if_icmp .ge 18, 3) := by decide +kernel
theorem dX12_data_86 : decode cX12_data 86 = .ok (.aload_n 0, 1) := by decide +kernel
theorem dX12_data_87 : decode cX12_data 87 = .ok (.iload_n 1, 1) := by decide +kernel
theorem dX12_data_88 : decode cX12_data 88 = .ok (.aload_n 0, 1) := by decide +kernel
theorem dX12_data_89 : decode cX12_data 89 = .ok (.iload_n 1, 1) := by decide +kernel
theorem dX12_data_90 : decode cX12_data 90 = .ok (.bipush 14, 2) := by decide +kernel
theorem dX12_data_92 : decode cX12_data 92 = .ok (.invokevirtual 99, 3) := by decide +kernel
theorem dX12_data_95 : decode cX12_data 95 = .ok (.invokevirtual 112, 3) := by decide +kernel
theorem dX12_data_98 : decode cX12_data 98 = .ok (.goto 5, 3) := by decide +kernel
theorem dX12_data_101 : decode cX12_data 101 = .ok (.bipush (-4), 2) := by decide +kernel
theorem dX12_data_103 : decode cX12_data 103 = .ok (.iastore, 1) := by decide +kernel
theorem dX12_data_104 : decode cX12_data 104 = .ok (.aload_n 0, 1) := by decide +kernel
theorem dX12_data_105 : decode cX12_data 105 = .ok (.invokevirtual 129, 3) := by decide +kernel
theorem dX12_data_108 : decode cX12_data 108 = .ok (.return_, 1) := by decide +kernel
theorem dX12_breaks_0 : decode cX12_breaks 0 = .ok (.aload_n 0, 1) := by decide +kernel
theorem dX12_breaks_1 : decode cX12_breaks 1 = .ok (.iload_n 1, 1) := by decide +kernel
theorem dX12_breaks_2 : decode cX12_breaks 2 = .ok (.bipush 8, 2) := by decide +kernel
theorem dX12_breaks_4 : decode cX12_breaks 4 = .ok (.iload_n 2, 1) := by decide +kernel
theorem dX12_breaks_5 : decode cX12_breaks 5 = .ok (.invokevirtual 126, 3) := by decide +kernel
theorem dX12_breaks_8 : decode cX12_breaks 8 = .ok (.aload_n 0, 1) := by decide +kernel
theorem dX12_breaks_9 : decode cX12_breaks 9 = .ok (.invokevirtual 129, 3) := by decide +kernel
theorem dX12_breaks_12 : decode cX12_breaks 12 = .ok (.return_, 1) := by decide +kernel
theorem dX12_lengthOfIt_0 : decode cX12_lengthOfIt 0 = .ok (.aload_n 0, 1) := by decide +kernel
theorem dX12_lengthOfIt_1 : decode cX12_lengthOfIt 1 = .ok (.getfield 19, 3) := by decide +kernel
theorem dX12_lengthOfIt_4 : decode cX12_lengthOfIt 4 = .ok (.iconst 5, 1) := by decide +kernel
theorem dX12_lengthOfIt_5 : decode cX12_lengthOfIt 5 = .ok (.iaload, 1) := by decide +kernel
theorem dX12_lengthOfIt_6 : decode cX12_lengthOfIt 6 = .ok (.aload_n 0, 1) := by decide +kernel
theorem dX12_lengthOfIt_7 : decode cX12_lengthOfIt 7 = .ok (.getfield 19, 3) := by decide +kernel
theorem dX12_lengthOfIt_10 : decode cX12_lengthOfIt 10 = .ok (.iconst 1, 1) := by decide +kernel
theorem dX12_lengthOfIt_11 : decode cX12_lengthOfIt 11 = .ok (.iaload, 1) := by decide +kernel
theorem dX12_lengthOfIt_12 : decode cX12_lengthOfIt 12 = .ok (.iconst 1, 1) := by decide +kernel
theorem dX12_lengthOfIt_13 : decode cX12_lengthOfIt 13 = .ok (.iand, 1) := by decide +kernel
theorem dX12_lengthOfIt_14 : decode cX12_lengthOfIt 14 = .ok (.iadd, 1) := by decide +kernel
theorem dX12_lengthOfIt_15 : decode cX12_lengthOfIt 15 = .ok (.aload_n 0, 1) := by decide +kernel
theorem dX12_lengthOfIt_16 : decode cX12_lengthOfIt 16 = .ok (.getfield 19, 3) := by decide +kernel
theorem dX12_lengthOfIt_19 : decode cX12_lengthOfIt 19 = .ok (.iconst 1, 1) := by decide +kernel
theorem dX12_lengthOfIt_20 : decode cX12_lengthOfIt 20 = .ok (.iaload, 1) := by decide +kernel
theorem dX12_lengthOfIt_21 : decode cX12_lengthOfIt 21 = .ok (.iconst 2, 1) := by decide +kernel
theorem dX12_lengthOfIt_22 : decode cX12_lengthOfIt 22 = .ok (.iand, 1) := by decide +kernel
theorem dX12_lengthOfIt_23 : decode cX12_lengthOfIt 23 = .ok (.iconst 1, 1) := by decide +kernel
theorem dX12_lengthOfIt_24 : decode cX12_lengthOfIt 24 = .ok (.ishr, 1) := by decide +kernel
theorem dX12_lengthOfIt_25 : decode cX12_lengthOfIt 25 = .ok (.iadd, 1) := by decide +kernel
theorem dX12_lengthOfIt_26 : decode cX12_lengthOfIt 26 = .ok (.ireturn, 1) := by decide +kernel
theorem dX12_breaksIt_0 : decode cX12_breaksIt 0 = .ok (.aload_n 0, 1) := by decide +kernel
theorem dX12_breaksIt_1 : decode cX12_breaksIt 1 = .ok (.getfield 19, 3) := by decide +kernel
theorem dX12_breaksIt_4 : decode cX12_breaksIt 4 = .ok (.iconst 1, 1) := by decide +kernel
theorem dX12_breaksIt_5 : decode cX12_breaksIt 5 = .ok (.iaload, 1) := by decide +kernel
theorem dX12_breaksIt_6 : decode cX12_breaksIt 6 = .ok (.iconst 4, 1) := by decide +kernel
theorem dX12_breaksIt_7 : decode cX12_breaksIt 7 = .ok (.iand, 1) := by decide +kernel
theorem dX12_breaksIt_8 : decode cX12_breaksIt 8 = .ok (.ifCond .le 15, 3) := by decide +kernel
theorem dX12_breaksIt_11 : decode cX12_breaksIt 11 = .ok (.aload_n 0, 1) := by decide +kernel
theorem dX12_breaksIt_12 : decode cX12_breaksIt 12 = .ok (.iload_n 1, 1) := by decide +kernel
theorem dX12_breaksIt_13 : decode cX12_breaksIt 13 = .ok (.aload_n 0, 1) := by decide +kernel
theorem dX12_breaksIt_14 : decode cX12_breaksIt 14 = .ok (.getfield 19, 3) := by decide +kernel
theorem dX12_breaksIt_17 : decode cX12_breaksIt 17 = .ok (.iconst 3, 1) := by decide +kernel
theorem dX12_breaksIt_18 : decode cX12_breaksIt 18 = .ok (.iaload, 1) := by decide +kernel
theorem dX12_breaksIt_19 : decode cX12_breaksIt 19 = .ok (.invokevirtual 132, 3) := by decide +kernel
theorem dX12_breaksIt_22 : decode cX12_breaksIt 22 = .ok (.return_, 1) := by decide +kernel
theorem dX12_breaksIt_23 : decode cX12_breaksIt 23 = .ok (.aload_n 0, 1) := by decide +kernel
theorem dX12_breaksIt_24 : decode cX12_breaksIt 24 = .ok (.iload_n 1, 1) := by decide +kernel
theorem dX12_breaksIt_25 : decode cX12_breaksIt 25 = .ok (.bipush 12, 2) := by decide +kernel
theorem dX12_breaksIt_27 : decode cX12_breaksIt 27 = .ok (.iconst 0, 1) := by decide +kernel
theorem dX12_breaksIt_28 : decode cX12_breaksIt 28 = .ok (.invokevirtual 126, 3) := by decide +kernel
theorem dX12_breaksIt_31 : decode cX12_breaksIt 31 = .ok (.aload_n 0, 1) := by decide +kernel
theorem dX12_breaksIt_32 : decode cX12_breaksIt 32 = .ok (.getfield 16, 3) := by decide +kernel
theorem dX12_breaksIt_35 : decode cX12_breaksIt 35 = .ok (.iconst 3, 1) := by decide +kernel
theorem dX12_breaksIt_36 : decode cX12_breaksIt 36 = .ok (.aload_n 0, 1) := by decide +kernel
theorem dX12_breaksIt_37 : decode cX12_breaksIt 37 = .ok (.getfield 19, 3) := by decide +kernel
theorem dX12_breaksIt_40 : decode cX12_breaksIt 40 = .ok (.iconst 2, 1) := by decide +kernel
theorem dX12_breaksIt_41 : decode cX12_breaksIt 41 = .ok (.iaload, 1) := by decide +kernel
theorem dX12_breaksIt_42 : decode cX12_breaksIt 42 = .ok (.aload_n 0, 1) := by decide +kernel
theorem dX12_breaksIt_43 : decode cX12_breaksIt 43 = .ok (.invokevirtual 136, 3) := by decide +kernel
theorem dX12_breaksIt_46 : decode cX12_breaksIt 46 = .ok (.iadd, 1) := by decide +kernel
theorem dX12_breaksIt_47 : decode cX12_breaksIt 47 = .ok (.sipush 256, 3) := by decide +kernel
theorem dX12_breaksIt_50 : decode cX12_breaksIt 50 = .ok (.irem, 1) := by decide +kernel
theorem dX12_breaksIt_51 : decode cX12_breaksIt 51 = .ok (.iastore, 1) := by decide +kernel
theorem dX12_breaksIt_52 : decode cX12_breaksIt 52 = .ok (.aload_n 0, 1) := by decide +kernel
theorem dX12_breaksIt_53 : decode cX12_breaksIt 53 = .ok (.getfield 16, 3) := by decide +kernel
theorem dX12_breaksIt_56 : decode cX12_breaksIt 56 = .ok (.iconst 4, 1) := by decide +kernel
theorem dX12_breaksIt_57 : decode cX12_breaksIt 57 = .ok (.iconst 0, 1) := by decide +kernel
theorem dX12_breaksIt_58 : decode cX12_breaksIt 58 = .ok (.iastore, 1) := by decide +kernel
theorem dX12_breaksIt_59 : decode cX12_breaksIt 59 = .ok (.aload_n 0, 1) := by decide +kernel
theorem dX12_breaksIt_60 : decode cX12_breaksIt 60 = .ok (.invokevirtual 129, 3) := by decide +kernel
theorem dX12_breaksIt_63 : decode cX12_breaksIt 63 = .ok (.return_, 1) := by decide +kernel
theorem dX12_sends_0 : decode cX12_sends 0 = .ok (.aload_n 0, 1) := by decide +kernel
theorem dX12_sends_1 : decode cX12_sends 1 = .ok (.iload_n 1, 1) := by decide +kernel
theorem dX12_sends_2 : decode cX12_sends 2 = .ok (.iconst 2, 1) := by decide +kernel
theorem dX12_sends_3 : decode cX12_sends 3 = .ok (.invokevirtual 99, 3) := by decide +kernel
theorem dX12_sends_6 : decode cX12_sends 6 = .ok (.istore 4, 2) := by decide +kernel
theorem dX12_sends_8 : decode cX12_sends 8 = .ok (.iload_n 2, 1) := by decide +kernel
theorem dX12_sends_9 : decode cX12_sends 9 = .ok (.iload_n 3, 1) := by decide +kernel
theorem dX12_sends_10 : decode cX12_sends 10 = .ok (.ifCond .eq 7, 3) := by decide +kernel
theorem dX12_sends_13 : decode cX12_sends 13 = .ok (.iconst 1, 1) := by decide +kernel
theorem dX12_sends_14 : decode cX12_sends 14 = .ok (.goto 4, 3) := by decide +kernel
theorem dX12_sends_17 : decode cX12_sends 17 = .ok (.iconst 0, 1) := by decide +kernel
theorem dX12_sends_18 : decode cX12_sends 18 = .ok (.iadd, 1) := by decide +kernel
theorem dX12_sends_19 : decode cX12_sends 19 = .ok (.istore 5, 2) := by decide +kernel
theorem dX12_sends_21 : decode cX12_sends 21 = .ok (.aload_n 0, 1) := by decide +kernel
theorem dX12_sends_22 : decode cX12_sends 22 = .ok (.iload_n 1, 1) := by decide +kernel
theorem dX12_sends_23 : decode cX12_sends 23 = .ok (.iload 4, 2) := by decide +kernel
theorem dX12_sends_25 : decode cX12_sends 25 = .ok (.iload_n 2, 1) := by decide +kernel
theorem dX12_sends_26 : decode cX12_sends 26 = .ok (.iload_n 3, 1) := by decide +kernel
theorem dX12_sends_27 : decode cX12_sends 27 = .ok (.invokevirtual 139, 3) := by decide +kernel
theorem dX12_sends_30 : decode cX12_sends 30 = .ok (.aload_n 0, 1) := by decide +kernel
theorem dX12_sends_31 : decode cX12_sends 31 = .ok (.iload_n 1, 1) := by decide +kernel
theorem dX12_sends_32 : decode cX12_sends 32 = .ok (.iload 4, 2) := by decide +kernel
theorem dX12_sends_34 : decode cX12_sends 34 = .ok (.iload 5, 2) := by decide +kernel
theorem dX12_sends_36 : decode cX12_sends 36 = .ok (.iadd, 1) := by decide +kernel
theorem dX12_sends_37 : decode cX12_sends 37 = .ok (.iconst 1, 1) := by decide +kernel
theorem dX12_sends_38 : decode cX12_sends 38 = .ok (.isub, 1) := by decide +kernel
theorem dX12_sends_39 : decode cX12_sends 39 = .ok (.invokevirtual 143, 3) := by decide +kernel
theorem dX12_sends_42 : decode cX12_sends 42 = .ok (.aload_n 0, 1) := by decide +kernel
theorem dX12_sends_43 : decode cX12_sends 43 = .ok (.iload_n 1, 1) := by decide +kernel
theorem dX12_sends_44 : decode cX12_sends 44 = .ok (.iconst 2, 1) := by decide +kernel
theorem dX12_sends_45 : decode cX12_sends 45 = .ok (.iload 4, 2) := by decide +kernel
theorem dX12_sends_47 : decode cX12_sends 47 = .ok (.iload 5, 2) := by decide +kernel
theorem dX12_sends_49 : decode cX12_sends 49 = .ok (.iadd, 1) := by decide +kernel
theorem dX12_sends_50 : decode cX12_sends 50 = .ok (.invokevirtual 95, 3) := by decide +kernel
theorem dX12_sends_53 : decode cX12_sends 53 = .ok (.iload_n 3, 1) := by decide +kernel
theorem dX12_sends_54 : decode cX12_sends 54 = .ok (.ifCond .eq 25, 3) := by decide +kernel
theorem dX12_sends_57 : decode cX12_sends 57 = .ok (.aload_n 0, 1) := by decide +kernel
theorem dX12_sends_58 : decode cX12_sends 58 = .ok (.iload_n 1, 1) := by decide +kernel
theorem dX12_sends_59 : decode cX12_sends 59 = .ok (.iconst 0, 1) := by decide +kernel
theorem dX12_sends_60 : decode cX12_sends 60 = .ok (.aload_n 0, 1) := by decide +kernel
theorem dX12_sends_61 : decode cX12_sends 61 = .ok (.iload_n 1, 1) := by decide +kernel
theorem dX12_sends_62 : decode cX12_sends 62 = .ok (.iconst 0, 1) := by decide +kernel
theorem dX12_sends_63 : decode cX12_sends 63 = .ok (.invokevirtual 99, 3) := by decide +kernel
theorem dX12_sends_66 : decode cX12_sends 66 = .ok (.iconst 4, 1) := by decide +kernel
theorem dX12_sends_67 : decode cX12_sends 67 = .ok (.if_icmp .ne 7, 3) := by decide +kernel
theorem dX12_sends_70 : decode cX12_sends 70 = .ok (.iconst 5, 1) := by decide +kernel
theorem dX12_sends_71 : decode cX12_sends 71 = .ok (.goto 5, 3) := by decide +kernel
theorem dX12_sends_74 : decode cX12_sends 74 = .ok (.bipush 9, 2) := by decide +kernel
theorem dX12_sends_76 : decode cX12_sends 76 = .ok (.invokevirtual 95, 3) := by decide +kernel
theorem dX12_sends_79 : decode cX12_sends 79 = .ok (.return_, 1) := by decide +kernel
theorem dX12_goesOnce_0 : decode cX12_goesOnce 0 = .ok (.aload_n 0, 1) := by decide +kernel
theorem dX12_goesOnce_1 : decode cX12_goesOnce 1 = .ok (.iload_n 1, 1) := by decide +kernel
theorem dX12_goesOnce_2 : decode cX12_goesOnce 2 = .ok (.iconst 2, 1) := by decide +kernel
theorem dX12_goesOnce_3 : decode cX12_goesOnce 3 = .ok (.invokevirtual 99, 3) := by decide +kernel
theorem dX12_goesOnce_6 : decode cX12_goesOnce 6 = .ok (.istore_n 2, 1) := by decide +kernel
theorem dX12_goesOnce_7 : decode cX12_goesOnce 7 = .ok (.aload_n 0, 1) := by decide +kernel
theorem dX12_goesOnce_8 : decode cX12_goesOnce 8 = .ok (.iload_n 1, 1) := by decide +kernel
theorem dX12_goesOnce_9 : decode cX12_goesOnce 9 = .ok (.iload_n 2, 1) := by decide +kernel
theorem dX12_goesOnce_10 : decode cX12_goesOnce 10 = .ok (.invokevirtual 109, 3) := by decide +kernel
theorem dX12_goesOnce_13 : decode cX12_goesOnce 13 = .ok (.istore_n 3, 1) := by decide +kernel
theorem dX12_goesOnce_14 : decode cX12_goesOnce 14 = .ok (.aload_n 0, 1) := by decide +kernel
theorem dX12_goesOnce_15 : decode cX12_goesOnce 15 = .ok (.getfield 25, 3) := by decide +kernel
theorem dX12_goesOnce_18 : decode cX12_goesOnce 18 = .ok (.iload_n 3, 1) := by decide +kernel
theorem dX12_goesOnce_19 : decode cX12_goesOnce 19 = .ok (.aload_n 0, 1) := by decide +kernel
theorem dX12_goesOnce_20 : decode cX12_goesOnce 20 = .ok (.iload_n 1, 1) := by decide +kernel
theorem dX12_goesOnce_21 : decode cX12_goesOnce 21 = .ok (.iconst 3, 1) := by decide +kernel
theorem dX12_goesOnce_22 : decode cX12_goesOnce 22 = .ok (.invokevirtual 99, 3) := by decide +kernel
theorem dX12_goesOnce_25 : decode cX12_goesOnce 25 = .ok (.iload_n 2, 1) := by decide +kernel
theorem dX12_goesOnce_26 : decode cX12_goesOnce 26 = .ok (.isub, 1) := by decide +kernel
theorem dX12_goesOnce_27 : decode cX12_goesOnce 27 = .ok (.invokestatic 146, 3) := by decide +kernel
theorem dX12_goesOnce_30 : decode cX12_goesOnce 30 = .ok (.invokestatic 146, 3) := by decide +kernel
theorem dX12_goesOnce_33 : decode cX12_goesOnce 33 = .ok (.istore 4, 2) := by decide +kernel
theorem dX12_goesOnce_35 : decode cX12_goesOnce 35 = .ok (.aload_n 0, 1) := by decide +kernel
theorem dX12_goesOnce_36 : decode cX12_goesOnce 36 = .ok (.iload_n 1, 1) := by decide +kernel
theorem dX12_goesOnce_37 : decode cX12_goesOnce 37 = .ok (.bipush 13, 2) := by decide +kernel
theorem dX12_goesOnce_39 : decode cX12_goesOnce 39 = .ok (.invokevirtual 99, 3) := by decide +kernel
theorem dX12_goesOnce_42 : decode cX12_goesOnce 42 = .ok (.iconst 1, 1) := by decide +kernel
theorem dX12_goesOnce_43 : decode cX12_goesOnce 43 = .ok (.if_icmp .ne 7, 3) := by decide +kernel
theorem dX12_goesOnce_46 : decode cX12_goesOnce 46 = .ok (.iconst 1, 1) := by decide +kernel
theorem dX12_goesOnce_47 : decode cX12_goesOnce 47 = .ok (.goto 4, 3) := by decide +kernel
theorem dX12_goesOnce_50 : decode cX12_goesOnce 50 = .ok (.iconst 0, 1) := by decide +kernel
theorem dX12_goesOnce_51 : decode cX12_goesOnce 51 = .ok (.istore 5, 2) := by decide +kernel
theorem dX12_goesOnce_53 : decode cX12_goesOnce 53 = .ok (.aload_n 0, 1) := by decide +kernel
theorem dX12_goesOnce_54 : decode cX12_goesOnce 54 = .ok (.iload_n 1, 1) := by decide +kernel
theorem dX12_goesOnce_55 : decode cX12_goesOnce 55 = .ok (.iconst 4, 1) := by decide +kernel
theorem dX12_goesOnce_56 : decode cX12_goesOnce 56 = .ok (.bipush 7, 2) := by decide +kernel
theorem dX12_goesOnce_58 : decode cX12_goesOnce 58 = .ok (.invokevirtual 106, 3) := by decide +kernel
theorem dX12_goesOnce_61 : decode cX12_goesOnce 61 = .ok (.ifCond .ne 5, 3) := by decide +kernel
theorem dX12_goesOnce_64 : decode cX12_goesOnce 64 = .ok (.iconst 0, 1) := by decide +kernel
theorem dX12_goesOnce_65 : decode cX12_goesOnce 65 = .ok (.ireturn, 1) := by decide +kernel
theorem dX12_goesOnce_66 : decode cX12_goesOnce 66 = .ok (.iload 4, 2) := by decide +kernel
theorem dX12_goesOnce_68 : decode cX12_goesOnce 68 = .ok (.aload_n 0, 1) := by decide +kernel
theorem dX12_goesOnce_69 : decode cX12_goesOnce 69 = .ok (.getfield 25, 3) := by decide +kernel
theorem dX12_goesOnce_72 : decode cX12_goesOnce 72 = .ok (.if_icmp .eq 30, 3) := by decide +kernel
theorem dX12_goesOnce_75 : decode cX12_goesOnce 75 = .ok (.iload 4, 2) := by decide +kernel
theorem dX12_goesOnce_77 : decode cX12_goesOnce 77 = .ok (.iconst 1, 1) := by decide +kernel
theorem dX12_goesOnce_78 : decode cX12_goesOnce 78 = .ok (.if_icmp .lt 62, 3) := by decide +kernel
theorem dX12_goesOnce_81 : decode cX12_goesOnce 81 = .ok (.iload 4, 2) := by decide +kernel
theorem dX12_goesOnce_83 : decode cX12_goesOnce 83 = .ok (.iload_n 3, 1) := by decide +kernel
theorem dX12_goesOnce_84 : decode cX12_goesOnce 84 = .ok (.if_icmp .ne 56, 3) := by decide +kernel
theorem dX12_goesOnce_87 : decode cX12_goesOnce 87 = .ok (.aload_n 0, 1) := by decide +kernel
theorem dX12_goesOnce_88 : decode cX12_goesOnce 88 = .ok (.iload_n 1, 1) := by decide +kernel
theorem dX12_goesOnce_89 : decode cX12_goesOnce 89 = .ok (.iconst 1, 1) := by decide +kernel
theorem dX12_goesOnce_90 : decode cX12_goesOnce 90 = .ok (.invokevirtual 99, 3) := by decide +kernel
theorem dX12_goesOnce_93 : decode cX12_goesOnce 93 = .ok (.iload_n 2, 1) := by decide +kernel
theorem dX12_goesOnce_94 : decode cX12_goesOnce 94 = .ok (.if_icmp .eq 8, 3) := by decide +kernel
theorem dX12_goesOnce_97 : decode cX12_goesOnce 97 = .ok (.iload 5, 2) := by decide +kernel
theorem dX12_goesOnce_99 : decode cX12_goesOnce 99 = .ok (.ifCond .eq 41, 3) := by decide +kernel
theorem dX12_goesOnce_102 : decode cX12_goesOnce 102 = .ok (.aload_n 0, 1) := by decide +kernel
theorem dX12_goesOnce_103 : decode cX12_goesOnce 103 = .ok (.iload_n 1, 1) := by decide +kernel
theorem dX12_goesOnce_104 : decode cX12_goesOnce 104 = .ok (.iload 4, 2) := by decide +kernel
theorem dX12_goesOnce_106 : decode cX12_goesOnce 106 = .ok (.iload 5, 2) := by decide +kernel
theorem dX12_goesOnce_108 : decode cX12_goesOnce 108 = .ok (.ifCond .eq 26, 3) := by decide +kernel
theorem dX12_goesOnce_111 : decode cX12_goesOnce 111 = .ok (.iload 4, 2) := by decide +kernel
theorem dX12_goesOnce_113 : decode cX12_goesOnce 113 = .ok (.iload_n 3, 1) := by decide +kernel
theorem dX12_goesOnce_114 : decode cX12_goesOnce 114 = .ok (.if_icmp .ne 20, 3) := by decide +kernel
theorem dX12_goesOnce_117 : decode cX12_goesOnce 117 = .ok (.iload_n 2, 1) := by decide +kernel
theorem dX12_goesOnce_118 : decode cX12_goesOnce 118 = .ok (.iload 4, 2) := by decide +kernel
theorem dX12_goesOnce_120 : decode cX12_goesOnce 120 = .ok (.iadd, 1) := by decide +kernel
theorem dX12_goesOnce_121 : decode cX12_goesOnce 121 = .ok (.aload_n 0, 1) := by decide +kernel
theorem dX12_goesOnce_122 : decode cX12_goesOnce 122 = .ok (.iload_n 1, 1) := by decide +kernel
theorem dX12_goesOnce_123 : decode cX12_goesOnce 123 = .ok (.iconst 3, 1) := by decide +kernel
theorem dX12_goesOnce_124 : decode cX12_goesOnce 124 = .ok (.invokevirtual 99, 3) := by decide +kernel
theorem dX12_goesOnce_127 : decode cX12_goesOnce 127 = .ok (.if_icmp .ge 7, 3) := by decide +kernel
theorem dX12_goesOnce_130 : decode cX12_goesOnce 130 = .ok (.iconst 1, 1) := by decide +kernel
theorem dX12_goesOnce_131 : decode cX12_goesOnce 131 = .ok (.goto 4, 3) := by decide +kernel
theorem dX12_goesOnce_134 : decode cX12_goesOnce 134 = .ok (.iconst 0, 1) := by decide +kernel
theorem dX12_goesOnce_135 : decode cX12_goesOnce 135 = .ok (.invokevirtual 149, 3) := by decide +kernel
theorem dX12_goesOnce_138 : decode cX12_goesOnce 138 = .ok (.iconst 1, 1) := by decide +kernel
theorem dX12_goesOnce_139 : decode cX12_goesOnce 139 = .ok (.ireturn, 1) := by decide +kernel
theorem dX12_goesOnce_140 : decode cX12_goesOnce 140 = .ok (.iload_n 3, 1) := by decide +kernel
theorem dX12_goesOnce_141 : decode cX12_goesOnce 141 = .ok (.ifCond .ne 27, 3) := by decide +kernel
theorem dX12_goesOnce_144 : decode cX12_goesOnce 144 = .ok (.iload 5, 2) := by decide +kernel
theorem dX12_goesOnce_146 : decode cX12_goesOnce 146 = .ok (.ifCond .eq 22, 3) := by decide +kernel
theorem dX12_goesOnce_149 : decode cX12_goesOnce 149 = .ok (.iload_n 2, 1) := by decide +kernel
theorem dX12_goesOnce_150 : decode cX12_goesOnce 150 = .ok (.aload_n 0, 1) := by decide +kernel
theorem dX12_goesOnce_151 : decode cX12_goesOnce 151 = .ok (.iload_n 1, 1) := by decide +kernel
theorem dX12_goesOnce_152 : decode cX12_goesOnce 152 = .ok (.iconst 3, 1) := by decide +kernel
theorem dX12_goesOnce_153 : decode cX12_goesOnce 153 = .ok (.invokevirtual 99, 3) := by decide +kernel
theorem dX12_goesOnce_156 : decode cX12_goesOnce 156 = .ok (.if_icmp .ge 12, 3) := by decide +kernel
theorem dX12_goesOnce_159 : decode cX12_goesOnce 159 = .ok (.aload_n 0, 1) := by decide +kernel
theorem dX12_goesOnce_160 : decode cX12_goesOnce 160 = .ok (.iload_n 1, 1) := by decide +kernel
theorem dX12_goesOnce_161 : decode cX12_goesOnce 161 = .ok (.iconst 0, 1) := by decide +kernel
theorem dX12_goesOnce_162 : decode cX12_goesOnce 162 = .ok (.iconst 1, 1) := by decide +kernel
theorem dX12_goesOnce_163 : decode cX12_goesOnce 163 = .ok (.invokevirtual 149, 3) := by decide +kernel
theorem dX12_goesOnce_166 : decode cX12_goesOnce 166 = .ok (.iconst 1, 1) := by decide +kernel
theorem dX12_goesOnce_167 : decode cX12_goesOnce 167 = .ok (.ireturn, 1) := by decide +kernel
theorem dX12_goesOnce_168 : decode cX12_goesOnce 168 = .ok (.iconst 0, 1) := by decide +kernel
theorem dX12_goesOnce_169 : decode cX12_goesOnce 169 = .ok (.ireturn, 1) := by decide +kernel
theorem dX12_goesOn_0 : decode cX12_goesOn 0 = .ok (.iconst 1, 1) := by decide +kernel
theorem dX12_goesOn_1 : decode cX12_goesOn 1 = .ok (.istore_n 2, 1) := by decide +kernel
theorem dX12_goesOn_2 : decode cX12_goesOn 2 = .ok (.iload_n 2, 1) := by decide +kernel
theorem dX12_goesOn_3 : decode cX12_goesOn 3 = .ok (.ifCond .eq 12, 3) := by decide +kernel
theorem dX12_goesOn_6 : decode cX12_goesOn 6 = .ok (.aload_n 0, 1) := by decide +kernel
theorem dX12_goesOn_7 : decode cX12_goesOn 7 = .ok (.iload_n 1, 1) := by decide +kernel
theorem dX12_goesOn_8 : decode cX12_goesOn 8 = .ok (.invokevirtual 153, 3) := by decide +kernel
theorem dX12_goesOn_11 : decode cX12_goesOn 11 = .ok (.istore_n 2, 1) := by decide +kernel
theorem dX12_goesOn_12 : decode cX12_goesOn 12 = .ok (.goto (-10), 3) := by decide +kernel
theorem dX12_goesOn_15 : decode cX12_goesOn 15 = .ok (.return_, 1) := by decide +kernel
theorem dX12_shuts_0 : decode cX12_shuts 0 = .ok (.aload_n 0, 1) := by decide +kernel
theorem dX12_shuts_1 : decode cX12_shuts 1 = .ok (.iload_n 1, 1) := by decide +kernel
theorem dX12_shuts_2 : decode cX12_shuts 2 = .ok (.iconst 0, 1) := by decide +kernel
theorem dX12_shuts_3 : decode cX12_shuts 3 = .ok (.iconst 0, 1) := by decide +kernel
theorem dX12_shuts_4 : decode cX12_shuts 4 = .ok (.invokevirtual 95, 3) := by decide +kernel
theorem dX12_shuts_7 : decode cX12_shuts 7 = .ok (.aload_n 0, 1) := by decide +kernel
theorem dX12_shuts_8 : decode cX12_shuts 8 = .ok (.iload_n 1, 1) := by decide +kernel
theorem dX12_shuts_9 : decode cX12_shuts 9 = .ok (.bipush 11, 2) := by decide +kernel
theorem dX12_shuts_11 : decode cX12_shuts 11 = .ok (.iconst 0, 1) := by decide +kernel
theorem dX12_shuts_12 : decode cX12_shuts 12 = .ok (.invokevirtual 95, 3) := by decide +kernel
theorem dX12_shuts_15 : decode cX12_shuts 15 = .ok (.aload_n 0, 1) := by decide +kernel
theorem dX12_shuts_16 : decode cX12_shuts 16 = .ok (.iload_n 1, 1) := by decide +kernel
theorem dX12_shuts_17 : decode cX12_shuts 17 = .ok (.bipush 12, 2) := by decide +kernel
theorem dX12_shuts_19 : decode cX12_shuts 19 = .ok (.iconst 0, 1) := by decide +kernel
theorem dX12_shuts_20 : decode cX12_shuts 20 = .ok (.invokevirtual 95, 3) := by decide +kernel
theorem dX12_shuts_23 : decode cX12_shuts 23 = .ok (.return_, 1) := by decide +kernel
theorem dX12_settles_0 : decode cX12_settles 0 = .ok (.aload_n 0, 1) := by decide +kernel
theorem dX12_settles_1 : decode cX12_settles 1 = .ok (.iload_n 1, 1) := by decide +kernel
theorem dX12_settles_2 : decode cX12_settles 2 = .ok (.iconst 0, 1) := by decide +kernel
theorem dX12_settles_3 : decode cX12_settles 3 = .ok (.invokevirtual 99, 3) := by decide +kernel
theorem dX12_settles_6 : decode cX12_settles 6 = .ok (.iconst 1, 1) := by decide +kernel
theorem dX12_settles_7 : decode cX12_settles 7 = .ok (.if_icmp .le 30, 3) := by decide +kernel
theorem dX12_settles_10 : decode cX12_settles 10 = .ok (.aload_n 0, 1) := by decide +kernel
theorem dX12_settles_11 : decode cX12_settles 11 = .ok (.iload_n 1, 1) := by decide +kernel
theorem dX12_settles_12 : decode cX12_settles 12 = .ok (.iconst 1, 1) := by decide +kernel
theorem dX12_settles_13 : decode cX12_settles 13 = .ok (.invokevirtual 99, 3) := by decide +kernel
theorem dX12_settles_16 : decode cX12_settles 16 = .ok (.aload_n 0, 1) := by decide +kernel
theorem dX12_settles_17 : decode cX12_settles 17 = .ok (.iload_n 1, 1) := by decide +kernel
theorem dX12_settles_18 : decode cX12_settles 18 = .ok (.iconst 2, 1) := by decide +kernel
theorem dX12_settles_19 : decode cX12_settles 19 = .ok (.invokevirtual 99, 3) := by decide +kernel
theorem dX12_settles_22 : decode cX12_settles 22 = .ok (.if_icmp .lt 11, 3) := by decide +kernel
theorem dX12_settles_25 : decode cX12_settles 25 = .ok (.aload_n 0, 1) := by decide +kernel
theorem dX12_settles_26 : decode cX12_settles 26 = .ok (.iload_n 1, 1) := by decide +kernel
theorem dX12_settles_27 : decode cX12_settles 27 = .ok (.invokevirtual 157, 3) := by decide +kernel
theorem dX12_settles_30 : decode cX12_settles 30 = .ok (.ifCond .eq 7, 3) := by decide +kernel
theorem dX12_settles_33 : decode cX12_settles 33 = .ok (.iconst 1, 1) := by decide +kernel
theorem dX12_settles_34 : decode cX12_settles 34 = .ok (.goto 4, 3) := by decide +kernel
theorem dX12_settles_37 : decode cX12_settles 37 = .ok (.iconst 0, 1) := by decide +kernel
theorem dX12_settles_38 : decode cX12_settles 38 = .ok (.istore_n 2, 1) := by decide +kernel
theorem dX12_settles_39 : decode cX12_settles 39 = .ok (.iload_n 2, 1) := by decide +kernel
theorem dX12_settles_40 : decode cX12_settles 40 = .ok (.ifCond .ne 14, 3) := by decide +kernel
theorem dX12_settles_43 : decode cX12_settles 43 = .ok (.aload_n 0, 1) := by decide +kernel
theorem dX12_settles_44 : decode cX12_settles 44 = .ok (.iload_n 1, 1) := by decide +kernel
theorem dX12_settles_45 : decode cX12_settles 45 = .ok (.bipush 11, 2) := by decide +kernel
theorem dX12_settles_47 : decode cX12_settles 47 = .ok (.iconst 0, 1) := by decide +kernel
theorem dX12_settles_48 : decode cX12_settles 48 = .ok (.invokevirtual 95, 3) := by decide +kernel
theorem dX12_settles_51 : decode cX12_settles 51 = .ok (.goto 27, 3) := by decide +kernel
theorem dX12_settles_54 : decode cX12_settles 54 = .ok (.aload_n 0, 1) := by decide +kernel
theorem dX12_settles_55 : decode cX12_settles 55 = .ok (.iload_n 1, 1) := by decide +kernel
theorem dX12_settles_56 : decode cX12_settles 56 = .ok (.bipush 11, 2) := by decide +kernel
theorem dX12_settles_58 : decode cX12_settles 58 = .ok (.invokevirtual 99, 3) := by decide +kernel
theorem dX12_settles_61 : decode cX12_settles 61 = .ok (.ifCond .ne 17, 3) := by decide +kernel
theorem dX12_settles_64 : decode cX12_settles 64 = .ok (.aload_n 0, 1) := by decide +kernel
theorem dX12_settles_65 : decode cX12_settles 65 = .ok (.iload_n 1, 1) := by decide +kernel
theorem dX12_settles_66 : decode cX12_settles 66 = .ok (.bipush 11, 2) := by decide +kernel
theorem dX12_settles_68 : decode cX12_settles 68 = .ok (.aload_n 0, 1) := by decide +kernel
theorem dX12_settles_69 : decode cX12_settles 69 = .ok (.iload_n 1, 1) := by decide +kernel
theorem dX12_settles_70 : decode cX12_settles 70 = .ok (.bipush 8, 2) := by decide +kernel
theorem dX12_settles_72 : decode cX12_settles 72 = .ok (.invokevirtual 99, 3) := by decide +kernel
theorem dX12_settles_75 : decode cX12_settles 75 = .ok (.invokevirtual 95, 3) := by decide +kernel
theorem dX12_settles_78 : decode cX12_settles 78 = .ok (.return_, 1) := by decide +kernel
theorem dX12_isEnd_0 : decode cX12_isEnd 0 = .ok (.iload_n 0, 1) := by decide +kernel
theorem dX12_isEnd_1 : decode cX12_isEnd 1 = .ok (.i2l, 1) := by decide +kernel
theorem dX12_isEnd_2 : decode cX12_isEnd 2 = .ok (.lconst 0, 1) := by decide +kernel
theorem dX12_isEnd_3 : decode cX12_isEnd 3 = .ok (.lconst 1, 1) := by decide +kernel
theorem dX12_isEnd_4 : decode cX12_isEnd 4 = .ok (.invokestatic 54, 3) := by decide +kernel
theorem dX12_isEnd_7 : decode cX12_isEnd 7 = .ok (.ireturn, 1) := by decide +kernel
theorem dX12_open_0 : decode cX12_open 0 = .ok (.iload_n 1, 1) := by decide +kernel
theorem dX12_open_1 : decode cX12_open 1 = .ok (.invokestatic 160, 3) := by decide +kernel
theorem dX12_open_4 : decode cX12_open 4 = .ok (.ifCond .eq 13, 3) := by decide +kernel
theorem dX12_open_7 : decode cX12_open 7 = .ok (.iload_n 2, 1) := by decide +kernel
theorem dX12_open_8 : decode cX12_open 8 = .ok (.i2l, 1) := by decide +kernel
theorem dX12_open_9 : decode cX12_open 9 = .ok (.lconst 0, 1) := by decide +kernel
theorem dX12_open_10 : decode cX12_open 10 = .ok (.lconst 1, 1) := by decide +kernel
theorem dX12_open_11 : decode cX12_open 11 = .ok (.invokestatic 54, 3) := by decide +kernel
theorem dX12_open_14 : decode cX12_open 14 = .ok (.ifCond .ne 5, 3) := by decide +kernel
theorem dX12_open_17 : decode cX12_open 17 = .ok (.iconst (-1), 1) := by decide +kernel
theorem dX12_open_18 : decode cX12_open 18 = .ok (.ireturn, 1) := by decide +kernel
theorem dX12_open_19 : decode cX12_open 19 = .ok (.aload_n 0, 1) := by decide +kernel
theorem dX12_open_20 : decode cX12_open 20 = .ok (.iload_n 1, 1) := by decide +kernel
theorem dX12_open_21 : decode cX12_open 21 = .ok (.iconst 0, 1) := by decide +kernel
theorem dX12_open_22 : decode cX12_open 22 = .ok (.invokevirtual 99, 3) := by decide +kernel
theorem dX12_open_25 : decode cX12_open 25 = .ok (.ifCond .eq 6, 3) := by decide +kernel
theorem dX12_open_28 : decode cX12_open 28 = .ok (.bipush (-2), 2) := by decide +kernel
theorem dX12_open_30 : decode cX12_open 30 = .ok (.ireturn, 1) := by decide +kernel
theorem dX12_open_31 : decode cX12_open 31 = .ok (.aload_n 0, 1) := by decide +kernel
theorem dX12_open_32 : decode cX12_open 32 = .ok (.iload_n 1, 1) := by decide +kernel
theorem dX12_open_33 : decode cX12_open 33 = .ok (.invokevirtual 91, 3) := by decide +kernel
theorem dX12_open_36 : decode cX12_open 36 = .ok (.aload_n 0, 1) := by decide +kernel
theorem dX12_open_37 : decode cX12_open 37 = .ok (.iload_n 1, 1) := by decide +kernel
theorem dX12_open_38 : decode cX12_open 38 = .ok (.iconst 0, 1) := by decide +kernel
theorem dX12_open_39 : decode cX12_open 39 = .ok (.iload_n 2, 1) := by decide +kernel
theorem dX12_open_40 : decode cX12_open 40 = .ok (.ifCond .ne 7, 3) := by decide +kernel
theorem dX12_open_43 : decode cX12_open 43 = .ok (.iconst 1, 1) := by decide +kernel
theorem dX12_open_44 : decode cX12_open 44 = .ok (.goto 4, 3) := by decide +kernel
theorem dX12_open_47 : decode cX12_open 47 = .ok (.iconst 2, 1) := by decide +kernel
theorem dX12_open_48 : decode cX12_open 48 = .ok (.invokevirtual 95, 3) := by decide +kernel
theorem dX12_open_51 : decode cX12_open 51 = .ok (.iload_n 2, 1) := by decide +kernel
theorem dX12_open_52 : decode cX12_open 52 = .ok (.iconst 1, 1) := by decide +kernel
theorem dX12_open_53 : decode cX12_open 53 = .ok (.if_icmp .ne 8, 3) := by decide +kernel
theorem dX12_open_56 : decode cX12_open 56 = .ok (.aload_n 0, 1) := by decide +kernel
theorem dX12_open_57 : decode cX12_open 57 = .ok (.iload_n 1, 1) := by decide +kernel
theorem dX12_open_58 : decode cX12_open 58 = .ok (.invokevirtual 163, 3) := by decide +kernel
theorem dX12_open_61 : decode cX12_open 61 = .ok (.aload_n 0, 1) := by decide +kernel
theorem dX12_open_62 : decode cX12_open 62 = .ok (.iload_n 1, 1) := by decide +kernel
theorem dX12_open_63 : decode cX12_open 63 = .ok (.invokevirtual 166, 3) := by decide +kernel
theorem dX12_open_66 : decode cX12_open 66 = .ok (.aload_n 0, 1) := by decide +kernel
theorem dX12_open_67 : decode cX12_open 67 = .ok (.getfield 7, 3) := by decide +kernel
theorem dX12_open_70 : decode cX12_open 70 = .ok (.sipush 976, 3) := by decide +kernel
theorem dX12_open_73 : decode cX12_open 73 = .ok (.iaload, 1) := by decide +kernel
theorem dX12_open_74 : decode cX12_open 74 = .ok (.ireturn, 1) := by decide +kernel
theorem dX12_callsOut_0 : decode cX12_callsOut 0 = .ok (.aload_n 0, 1) := by decide +kernel
theorem dX12_callsOut_1 : decode cX12_callsOut 1 = .ok (.iload_n 1, 1) := by decide +kernel
theorem dX12_callsOut_2 : decode cX12_callsOut 2 = .ok (.invokevirtual 169, 3) := by decide +kernel
theorem dX12_callsOut_5 : decode cX12_callsOut 5 = .ok (.aload_n 0, 1) := by decide +kernel
theorem dX12_callsOut_6 : decode cX12_callsOut 6 = .ok (.iload_n 1, 1) := by decide +kernel
theorem dX12_callsOut_7 : decode cX12_callsOut 7 = .ok (.iconst 0, 1) := by decide +kernel
theorem dX12_callsOut_8 : decode cX12_callsOut 8 = .ok (.invokevirtual 143, 3) := by decide +kernel
theorem dX12_callsOut_11 : decode cX12_callsOut 11 = .ok (.aload_n 0, 1) := by decide +kernel
theorem dX12_callsOut_12 : decode cX12_callsOut 12 = .ok (.iload_n 1, 1) := by decide +kernel
theorem dX12_callsOut_13 : decode cX12_callsOut 13 = .ok (.iconst 2, 1) := by decide +kernel
theorem dX12_callsOut_14 : decode cX12_callsOut 14 = .ok (.iconst 1, 1) := by decide +kernel
theorem dX12_callsOut_15 : decode cX12_callsOut 15 = .ok (.invokevirtual 95, 3) := by decide +kernel
theorem dX12_callsOut_18 : decode cX12_callsOut 18 = .ok (.return_, 1) := by decide +kernel
theorem dX12_maySay_0 : decode cX12_maySay 0 = .ok (.aload_n 0, 1) := by decide +kernel
theorem dX12_maySay_1 : decode cX12_maySay 1 = .ok (.iload_n 1, 1) := by decide +kernel
theorem dX12_maySay_2 : decode cX12_maySay 2 = .ok (.iconst 2, 1) := by decide +kernel
theorem dX12_maySay_3 : decode cX12_maySay 3 = .ok (.iconst 3, 1) := by decide +kernel
theorem dX12_maySay_4 : decode cX12_maySay 4 = .ok (.invokevirtual 106, 3) := by decide +kernel
theorem dX12_maySay_7 : decode cX12_maySay 7 = .ok (.ifCond .ne 14, 3) := by decide +kernel
theorem dX12_maySay_10 : decode cX12_maySay 10 = .ok (.aload_n 0, 1) := by decide +kernel
theorem dX12_maySay_11 : decode cX12_maySay 11 = .ok (.iload_n 1, 1) := by decide +kernel
theorem dX12_maySay_12 : decode cX12_maySay 12 = .ok (.iconst 4, 1) := by decide +kernel
theorem dX12_maySay_13 : decode cX12_maySay 13 = .ok (.bipush 7, 2) := by decide +kernel
theorem dX12_maySay_15 : decode cX12_maySay 15 = .ok (.invokevirtual 106, 3) := by decide +kernel
theorem dX12_maySay_18 : decode cX12_maySay 18 = .ok (.ifCond .eq 17, 3) := by decide +kernel
theorem dX12_maySay_21 : decode cX12_maySay 21 = .ok (.aload_n 0, 1) := by decide +kernel
theorem dX12_maySay_22 : decode cX12_maySay 22 = .ok (.iload_n 1, 1) := by decide +kernel
theorem dX12_maySay_23 : decode cX12_maySay 23 = .ok (.bipush 13, 2) := by decide +kernel
theorem dX12_maySay_25 : decode cX12_maySay 25 = .ok (.invokevirtual 99, 3) := by decide +kernel
theorem dX12_maySay_28 : decode cX12_maySay 28 = .ok (.ifCond .ne 7, 3) := by decide +kernel
theorem dX12_maySay_31 : decode cX12_maySay 31 = .ok (.iconst 1, 1) := by decide +kernel
theorem dX12_maySay_32 : decode cX12_maySay 32 = .ok (.goto 4, 3) := by decide +kernel
theorem dX12_maySay_35 : decode cX12_maySay 35 = .ok (.iconst 0, 1) := by decide +kernel
theorem dX12_maySay_36 : decode cX12_maySay 36 = .ok (.ireturn, 1) := by decide +kernel
theorem dX12_say_0 : decode cX12_say 0 = .ok (.iload_n 1, 1) := by decide +kernel
theorem dX12_say_1 : decode cX12_say 1 = .ok (.invokestatic 160, 3) := by decide +kernel
theorem dX12_say_4 : decode cX12_say 4 = .ok (.ifCond .eq 15, 3) := by decide +kernel
theorem dX12_say_7 : decode cX12_say 7 = .ok (.iload_n 2, 1) := by decide +kernel
theorem dX12_say_8 : decode cX12_say 8 = .ok (.i2l, 1) := by decide +kernel
theorem dX12_say_9 : decode cX12_say 9 = .ok (.lconst 0, 1) := by decide +kernel
theorem dX12_say_10 : decode cX12_say 10 = .ok (.ldc2_w 172, 3) := by decide +kernel
theorem dX12_say_13 : decode cX12_say 13 = .ok (.invokestatic 54, 3) := by decide +kernel
theorem dX12_say_16 : decode cX12_say 16 = .ok (.ifCond .ne 5, 3) := by decide +kernel
theorem dX12_say_19 : decode cX12_say 19 = .ok (.iconst (-1), 1) := by decide +kernel
theorem dX12_say_20 : decode cX12_say 20 = .ok (.ireturn, 1) := by decide +kernel
theorem dX12_say_21 : decode cX12_say 21 = .ok (.aload_n 0, 1) := by decide +kernel
theorem dX12_say_22 : decode cX12_say 22 = .ok (.iload_n 1, 1) := by decide +kernel
theorem dX12_say_23 : decode cX12_say 23 = .ok (.invokevirtual 174, 3) := by decide +kernel
theorem dX12_say_26 : decode cX12_say 26 = .ok (.ifCond .ne 6, 3) := by decide +kernel
theorem dX12_say_29 : decode cX12_say 29 = .ok (.bipush (-2), 2) := by decide +kernel
theorem dX12_say_31 : decode cX12_say 31 = .ok (.ireturn, 1) := by decide +kernel
theorem dX12_say_32 : decode cX12_say 32 = .ok (.aload_n 0, 1) := by decide +kernel
theorem dX12_say_33 : decode cX12_say 33 = .ok (.iload_n 1, 1) := by decide +kernel
theorem dX12_say_34 : decode cX12_say 34 = .ok (.aload_n 0, 1) := by decide +kernel
theorem dX12_say_35 : decode cX12_say 35 = .ok (.iload_n 1, 1) := by decide +kernel
theorem dX12_say_36 : decode cX12_say 36 = .ok (.iconst 1, 1) := by decide +kernel
theorem dX12_say_37 : decode cX12_say 37 = .ok (.invokevirtual 99, 3) := by decide +kernel
theorem dX12_say_40 : decode cX12_say 40 = .ok (.invokevirtual 109, 3) := by decide +kernel
theorem dX12_say_43 : decode cX12_say 43 = .ok (.bipush 32, 2) := by decide +kernel
theorem dX12_say_45 : decode cX12_say 45 = .ok (.if_icmp .ne 6, 3) := by decide +kernel
theorem dX12_say_48 : decode cX12_say 48 = .ok (.bipush (-3), 2) := by decide +kernel
theorem dX12_say_50 : decode cX12_say 50 = .ok (.ireturn, 1) := by decide +kernel
theorem dX12_say_51 : decode cX12_say 51 = .ok (.aload_n 0, 1) := by decide +kernel
theorem dX12_say_52 : decode cX12_say 52 = .ok (.iload_n 1, 1) := by decide +kernel
theorem dX12_say_53 : decode cX12_say 53 = .ok (.iconst 4, 1) := by decide +kernel
theorem dX12_say_54 : decode cX12_say 54 = .ok (.aload_n 0, 1) := by decide +kernel
theorem dX12_say_55 : decode cX12_say 55 = .ok (.iload_n 1, 1) := by decide +kernel
theorem dX12_say_56 : decode cX12_say 56 = .ok (.iconst 4, 1) := by decide +kernel
theorem dX12_say_57 : decode cX12_say 57 = .ok (.invokevirtual 99, 3) := by decide +kernel
theorem dX12_say_60 : decode cX12_say 60 = .ok (.iconst 1, 1) := by decide +kernel
theorem dX12_say_61 : decode cX12_say 61 = .ok (.iadd, 1) := by decide +kernel
theorem dX12_say_62 : decode cX12_say 62 = .ok (.invokevirtual 95, 3) := by decide +kernel
theorem dX12_say_65 : decode cX12_say 65 = .ok (.aload_n 0, 1) := by decide +kernel
theorem dX12_say_66 : decode cX12_say 66 = .ok (.iload_n 1, 1) := by decide +kernel
theorem dX12_say_67 : decode cX12_say 67 = .ok (.bipush 32, 2) := by decide +kernel
theorem dX12_say_69 : decode cX12_say 69 = .ok (.aload_n 0, 1) := by decide +kernel
theorem dX12_say_70 : decode cX12_say 70 = .ok (.iload_n 1, 1) := by decide +kernel
theorem dX12_say_71 : decode cX12_say 71 = .ok (.iconst 4, 1) := by decide +kernel
theorem dX12_say_72 : decode cX12_say 72 = .ok (.invokevirtual 99, 3) := by decide +kernel
theorem dX12_say_75 : decode cX12_say 75 = .ok (.bipush 64, 2) := by decide +kernel
theorem dX12_say_77 : decode cX12_say 77 = .ok (.irem, 1) := by decide +kernel
theorem dX12_say_78 : decode cX12_say 78 = .ok (.iadd, 1) := by decide +kernel
theorem dX12_say_79 : decode cX12_say 79 = .ok (.iload_n 2, 1) := by decide +kernel
theorem dX12_say_80 : decode cX12_say 80 = .ok (.invokevirtual 95, 3) := by decide +kernel
theorem dX12_say_83 : decode cX12_say 83 = .ok (.aload_n 0, 1) := by decide +kernel
theorem dX12_say_84 : decode cX12_say 84 = .ok (.iload_n 1, 1) := by decide +kernel
theorem dX12_say_85 : decode cX12_say 85 = .ok (.invokevirtual 177, 3) := by decide +kernel
theorem dX12_say_88 : decode cX12_say 88 = .ok (.aload_n 0, 1) := by decide +kernel
theorem dX12_say_89 : decode cX12_say 89 = .ok (.iload_n 1, 1) := by decide +kernel
theorem dX12_say_90 : decode cX12_say 90 = .ok (.invokevirtual 166, 3) := by decide +kernel
theorem dX12_say_93 : decode cX12_say 93 = .ok (.aload_n 0, 1) := by decide +kernel
theorem dX12_say_94 : decode cX12_say 94 = .ok (.iload_n 1, 1) := by decide +kernel
theorem dX12_say_95 : decode cX12_say 95 = .ok (.aload_n 0, 1) := by decide +kernel
theorem dX12_say_96 : decode cX12_say 96 = .ok (.iload_n 1, 1) := by decide +kernel
theorem dX12_say_97 : decode cX12_say 97 = .ok (.iconst 1, 1) := by decide +kernel
theorem dX12_say_98 : decode cX12_say 98 = .ok (.invokevirtual 99, 3) := by decide +kernel
theorem dX12_say_101 : decode cX12_say 101 = .ok (.invokevirtual 109, 3) := by decide +kernel
theorem dX12_say_104 : decode cX12_say 104 = .ok (.ireturn, 1) := by decide +kernel
theorem dX12_cry_0 : decode cX12_cry 0 = .ok (.iload_n 1, 1) := by decide +kernel
theorem dX12_cry_1 : decode cX12_cry 1 = .ok (.invokestatic 160, 3) := by decide +kernel
theorem dX12_cry_4 : decode cX12_cry 4 = .ok (.ifCond .ne 5, 3) := by decide +kernel
theorem dX12_cry_7 : decode cX12_cry 7 = .ok (.iconst (-1), 1) := by decide +kernel
theorem dX12_cry_8 : decode cX12_cry 8 = .ok (.ireturn, 1) := by decide +kernel
theorem dX12_cry_9 : decode cX12_cry 9 = .ok (.aload_n 0, 1) := by decide +kernel
theorem dX12_cry_10 : decode cX12_cry 10 = .ok (.iload_n 1, 1) := by decide +kernel
theorem dX12_cry_11 : decode cX12_cry 11 = .ok (.invokevirtual 174, 3) := by decide +kernel
theorem dX12_cry_14 : decode cX12_cry 14 = .ok (.ifCond .eq 12, 3) := by decide +kernel
theorem dX12_cry_17 : decode cX12_cry 17 = .ok (.aload_n 0, 1) := by decide +kernel
theorem dX12_cry_18 : decode cX12_cry 18 = .ok (.iload_n 1, 1) := by decide +kernel
theorem dX12_cry_19 : decode cX12_cry 19 = .ok (.iconst 4, 1) := by decide +kernel
theorem dX12_cry_20 : decode cX12_cry 20 = .ok (.invokevirtual 99, 3) := by decide +kernel
theorem dX12_cry_23 : decode cX12_cry 23 = .ok (.ifCond .ne 6, 3) := by decide +kernel
theorem dX12_cry_26 : decode cX12_cry 26 = .ok (.bipush (-2), 2) := by decide +kernel
theorem dX12_cry_28 : decode cX12_cry 28 = .ok (.ireturn, 1) := by decide +kernel
theorem dX12_cry_29 : decode cX12_cry 29 = .ok (.aload_n 0, 1) := by decide +kernel
theorem dX12_cry_30 : decode cX12_cry 30 = .ok (.iload_n 1, 1) := by decide +kernel
theorem dX12_cry_31 : decode cX12_cry 31 = .ok (.bipush 14, 2) := by decide +kernel
theorem dX12_cry_33 : decode cX12_cry 33 = .ok (.aload_n 0, 1) := by decide +kernel
theorem dX12_cry_34 : decode cX12_cry 34 = .ok (.iload_n 1, 1) := by decide +kernel
theorem dX12_cry_35 : decode cX12_cry 35 = .ok (.iconst 4, 1) := by decide +kernel
theorem dX12_cry_36 : decode cX12_cry 36 = .ok (.invokevirtual 99, 3) := by decide +kernel
theorem dX12_cry_39 : decode cX12_cry 39 = .ok (.iconst 1, 1) := by decide +kernel
theorem dX12_cry_40 : decode cX12_cry 40 = .ok (.iadd, 1) := by decide +kernel
theorem dX12_cry_41 : decode cX12_cry 41 = .ok (.invokevirtual 95, 3) := by decide +kernel
theorem dX12_cry_44 : decode cX12_cry 44 = .ok (.aload_n 0, 1) := by decide +kernel
theorem dX12_cry_45 : decode cX12_cry 45 = .ok (.iload_n 1, 1) := by decide +kernel
theorem dX12_cry_46 : decode cX12_cry 46 = .ok (.invokevirtual 166, 3) := by decide +kernel
theorem dX12_cry_49 : decode cX12_cry 49 = .ok (.aload_n 0, 1) := by decide +kernel
theorem dX12_cry_50 : decode cX12_cry 50 = .ok (.iload_n 1, 1) := by decide +kernel
theorem dX12_cry_51 : decode cX12_cry 51 = .ok (.bipush 14, 2) := by decide +kernel
theorem dX12_cry_53 : decode cX12_cry 53 = .ok (.invokevirtual 99, 3) := by decide +kernel
theorem dX12_cry_56 : decode cX12_cry 56 = .ok (.ireturn, 1) := by decide +kernel
theorem dX12_leave_0 : decode cX12_leave 0 = .ok (.iload_n 1, 1) := by decide +kernel
theorem dX12_leave_1 : decode cX12_leave 1 = .ok (.invokestatic 160, 3) := by decide +kernel
theorem dX12_leave_4 : decode cX12_leave 4 = .ok (.ifCond .ne 5, 3) := by decide +kernel
theorem dX12_leave_7 : decode cX12_leave 7 = .ok (.iconst (-1), 1) := by decide +kernel
theorem dX12_leave_8 : decode cX12_leave 8 = .ok (.ireturn, 1) := by decide +kernel
theorem dX12_leave_9 : decode cX12_leave 9 = .ok (.aload_n 0, 1) := by decide +kernel
theorem dX12_leave_10 : decode cX12_leave 10 = .ok (.iload_n 1, 1) := by decide +kernel
theorem dX12_leave_11 : decode cX12_leave 11 = .ok (.iconst 1, 1) := by decide +kernel
theorem dX12_leave_12 : decode cX12_leave 12 = .ok (.iconst 2, 1) := by decide +kernel
theorem dX12_leave_13 : decode cX12_leave 13 = .ok (.invokevirtual 106, 3) := by decide +kernel
theorem dX12_leave_16 : decode cX12_leave 16 = .ok (.ifCond .eq 11, 3) := by decide +kernel
theorem dX12_leave_19 : decode cX12_leave 19 = .ok (.aload_n 0, 1) := by decide +kernel
theorem dX12_leave_20 : decode cX12_leave 20 = .ok (.iload_n 1, 1) := by decide +kernel
theorem dX12_leave_21 : decode cX12_leave 21 = .ok (.invokevirtual 180, 3) := by decide +kernel
theorem dX12_leave_24 : decode cX12_leave 24 = .ok (.goto 53, 3) := by decide +kernel
theorem dX12_leave_27 : decode cX12_leave 27 = .ok (.aload_n 0, 1) := by decide +kernel
theorem dX12_leave_28 : decode cX12_leave 28 = .ok (.iload_n 1, 1) := by decide +kernel
theorem dX12_leave_29 : decode cX12_leave 29 = .ok (.iconst 4, 1) := by decide +kernel
theorem dX12_leave_30 : decode cX12_leave 30 = .ok (.bipush 7, 2) := by decide +kernel
theorem dX12_leave_32 : decode cX12_leave 32 = .ok (.invokevirtual 106, 3) := by decide +kernel
theorem dX12_leave_35 : decode cX12_leave 35 = .ok (.ifCond .ne 13, 3) := by decide +kernel
theorem dX12_leave_38 : decode cX12_leave 38 = .ok (.aload_n 0, 1) := by decide +kernel
theorem dX12_leave_39 : decode cX12_leave 39 = .ok (.iload_n 1, 1) := by decide +kernel
theorem dX12_leave_40 : decode cX12_leave 40 = .ok (.iconst 0, 1) := by decide +kernel
theorem dX12_leave_41 : decode cX12_leave 41 = .ok (.invokevirtual 99, 3) := by decide +kernel
theorem dX12_leave_44 : decode cX12_leave 44 = .ok (.iconst 3, 1) := by decide +kernel
theorem dX12_leave_45 : decode cX12_leave 45 = .ok (.if_icmp .ne 29, 3) := by decide +kernel
theorem dX12_leave_48 : decode cX12_leave 48 = .ok (.aload_n 0, 1) := by decide +kernel
theorem dX12_leave_49 : decode cX12_leave 49 = .ok (.iload_n 1, 1) := by decide +kernel
theorem dX12_leave_50 : decode cX12_leave 50 = .ok (.bipush 13, 2) := by decide +kernel
theorem dX12_leave_52 : decode cX12_leave 52 = .ok (.invokevirtual 99, 3) := by decide +kernel
theorem dX12_leave_55 : decode cX12_leave 55 = .ok (.ifCond .ne 19, 3) := by decide +kernel
theorem dX12_leave_58 : decode cX12_leave 58 = .ok (.aload_n 0, 1) := by decide +kernel
theorem dX12_leave_59 : decode cX12_leave 59 = .ok (.iload_n 1, 1) := by decide +kernel
theorem dX12_leave_60 : decode cX12_leave 60 = .ok (.bipush 13, 2) := by decide +kernel
theorem dX12_leave_62 : decode cX12_leave 62 = .ok (.iconst 1, 1) := by decide +kernel
theorem dX12_leave_63 : decode cX12_leave 63 = .ok (.invokevirtual 95, 3) := by decide +kernel
theorem dX12_leave_66 : decode cX12_leave 66 = .ok (.aload_n 0, 1) := by decide +kernel
theorem dX12_leave_67 : decode cX12_leave 67 = .ok (.iload_n 1, 1) := by decide +kernel
theorem dX12_leave_68 : decode cX12_leave 68 = .ok (.invokevirtual 177, 3) := by decide +kernel
theorem dX12_leave_71 : decode cX12_leave 71 = .ok (.goto 6, 3) := by decide +kernel
theorem dX12_leave_74 : decode cX12_leave 74 = .ok (.bipush (-2), 2) := by decide +kernel
theorem dX12_leave_76 : decode cX12_leave 76 = .ok (.ireturn, 1) := by decide +kernel
theorem dX12_leave_77 : decode cX12_leave 77 = .ok (.aload_n 0, 1) := by decide +kernel
theorem dX12_leave_78 : decode cX12_leave 78 = .ok (.iload_n 1, 1) := by decide +kernel
theorem dX12_leave_79 : decode cX12_leave 79 = .ok (.invokevirtual 166, 3) := by decide +kernel
theorem dX12_leave_82 : decode cX12_leave 82 = .ok (.aload_n 0, 1) := by decide +kernel
theorem dX12_leave_83 : decode cX12_leave 83 = .ok (.iload_n 1, 1) := by decide +kernel
theorem dX12_leave_84 : decode cX12_leave 84 = .ok (.iconst 0, 1) := by decide +kernel
theorem dX12_leave_85 : decode cX12_leave 85 = .ok (.invokevirtual 99, 3) := by decide +kernel
theorem dX12_leave_88 : decode cX12_leave 88 = .ok (.ireturn, 1) := by decide +kernel
theorem dX12_quit_0 : decode cX12_quit 0 = .ok (.iload_n 1, 1) := by decide +kernel
theorem dX12_quit_1 : decode cX12_quit 1 = .ok (.invokestatic 160, 3) := by decide +kernel
theorem dX12_quit_4 : decode cX12_quit 4 = .ok (.ifCond .ne 5, 3) := by decide +kernel
theorem dX12_quit_7 : decode cX12_quit 7 = .ok (.iconst (-1), 1) := by decide +kernel
theorem dX12_quit_8 : decode cX12_quit 8 = .ok (.ireturn, 1) := by decide +kernel
theorem dX12_quit_9 : decode cX12_quit 9 = .ok (.aload_n 0, 1) := by decide +kernel
theorem dX12_quit_10 : decode cX12_quit 10 = .ok (.iload_n 1, 1) := by decide +kernel
theorem dX12_quit_11 : decode cX12_quit 11 = .ok (.iconst 0, 1) := by decide +kernel
theorem dX12_quit_12 : decode cX12_quit 12 = .ok (.invokevirtual 99, 3) := by decide +kernel
theorem dX12_quit_15 : decode cX12_quit 15 = .ok (.istore_n 2, 1) := by decide +kernel
theorem dX12_quit_16 : decode cX12_quit 16 = .ok (.iload_n 2, 1) := by decide +kernel
theorem dX12_quit_17 : decode cX12_quit 17 = .ok (.ifCond .ne 6, 3) := by decide +kernel
theorem dX12_quit_20 : decode cX12_quit 20 = .ok (.bipush (-2), 2) := by decide +kernel
theorem dX12_quit_22 : decode cX12_quit 22 = .ok (.ireturn, 1) := by decide +kernel
theorem dX12_quit_23 : decode cX12_quit 23 = .ok (.iload_n 2, 1) := by decide +kernel
theorem dX12_quit_24 : decode cX12_quit 24 = .ok (.i2l, 1) := by decide +kernel
theorem dX12_quit_25 : decode cX12_quit 25 = .ok (.ldc2_w 65, 3) := by decide +kernel
theorem dX12_quit_28 : decode cX12_quit 28 = .ok (.ldc2_w 183, 3) := by decide +kernel
theorem dX12_quit_31 : decode cX12_quit 31 = .ok (.invokestatic 54, 3) := by decide +kernel
theorem dX12_quit_34 : decode cX12_quit 34 = .ok (.ifCond .eq 19, 3) := by decide +kernel
theorem dX12_quit_37 : decode cX12_quit 37 = .ok (.aload_n 0, 1) := by decide +kernel
theorem dX12_quit_38 : decode cX12_quit 38 = .ok (.iload_n 1, 1) := by decide +kernel
theorem dX12_quit_39 : decode cX12_quit 39 = .ok (.aload_n 0, 1) := by decide +kernel
theorem dX12_quit_40 : decode cX12_quit 40 = .ok (.iload_n 1, 1) := by decide +kernel
theorem dX12_quit_41 : decode cX12_quit 41 = .ok (.aload_n 0, 1) := by decide +kernel
theorem dX12_quit_42 : decode cX12_quit 42 = .ok (.iload_n 1, 1) := by decide +kernel
theorem dX12_quit_43 : decode cX12_quit 43 = .ok (.iconst 2, 1) := by decide +kernel
theorem dX12_quit_44 : decode cX12_quit 44 = .ok (.invokevirtual 99, 3) := by decide +kernel
theorem dX12_quit_47 : decode cX12_quit 47 = .ok (.invokevirtual 112, 3) := by decide +kernel
theorem dX12_quit_50 : decode cX12_quit 50 = .ok (.invokevirtual 132, 3) := by decide +kernel
theorem dX12_quit_53 : decode cX12_quit 53 = .ok (.aload_n 0, 1) := by decide +kernel
theorem dX12_quit_54 : decode cX12_quit 54 = .ok (.iload_n 1, 1) := by decide +kernel
theorem dX12_quit_55 : decode cX12_quit 55 = .ok (.invokevirtual 180, 3) := by decide +kernel
theorem dX12_quit_58 : decode cX12_quit 58 = .ok (.iload_n 2, 1) := by decide +kernel
theorem dX12_quit_59 : decode cX12_quit 59 = .ok (.ireturn, 1) := by decide +kernel
theorem dX12_there_0 : decode cX12_there 0 = .ok (.aload_n 0, 1) := by decide +kernel
theorem dX12_there_1 : decode cX12_there 1 = .ok (.iload_n 1, 1) := by decide +kernel
theorem dX12_there_2 : decode cX12_there 2 = .ok (.iconst 5, 1) := by decide +kernel
theorem dX12_there_3 : decode cX12_there 3 = .ok (.invokevirtual 99, 3) := by decide +kernel
theorem dX12_there_6 : decode cX12_there 6 = .ok (.istore_n 2, 1) := by decide +kernel
theorem dX12_there_7 : decode cX12_there 7 = .ok (.aload_n 0, 1) := by decide +kernel
theorem dX12_there_8 : decode cX12_there 8 = .ok (.iload_n 1, 1) := by decide +kernel
theorem dX12_there_9 : decode cX12_there 9 = .ok (.bipush 17, 2) := by decide +kernel
theorem dX12_there_11 : decode cX12_there 11 = .ok (.invokevirtual 99, 3) := by decide +kernel
theorem dX12_there_14 : decode cX12_there 14 = .ok (.istore_n 3, 1) := by decide +kernel
theorem dX12_there_15 : decode cX12_there 15 = .ok (.iconst 0, 1) := by decide +kernel
theorem dX12_there_16 : decode cX12_there 16 = .ok (.iload_n 3, 1) := by decide +kernel
theorem dX12_there_17 : decode cX12_there 17 = .ok (.bipush (-4), 2) := by decide +kernel
theorem dX12_there_19 : decode cX12_there 19 = .ok (.if_icmp .ne 7, 3) := by decide +kernel
theorem dX12_there_22 : decode cX12_there 22 = .ok (.iload_n 2, 1) := by decide +kernel
theorem dX12_there_23 : decode cX12_there 23 = .ok (.goto 8, 3) := by decide +kernel
theorem dX12_there_26 : decode cX12_there 26 = .ok (.iload_n 2, 1) := by decide +kernel
theorem dX12_there_27 : decode cX12_there 27 = .ok (.iload_n 3, 1) := by decide +kernel
theorem dX12_there_28 : decode cX12_there 28 = .ok (.invokestatic 146, 3) := by decide +kernel
theorem dX12_there_31 : decode cX12_there 31 = .ok (.aload_n 0, 1) := by decide +kernel
theorem dX12_there_32 : decode cX12_there 32 = .ok (.iload_n 1, 1) := by decide +kernel
theorem dX12_there_33 : decode cX12_there 33 = .ok (.bipush 6, 2) := by decide +kernel
theorem dX12_there_35 : decode cX12_there 35 = .ok (.invokevirtual 99, 3) := by decide +kernel
theorem dX12_there_38 : decode cX12_there 38 = .ok (.isub, 1) := by decide +kernel
theorem dX12_there_39 : decode cX12_there 39 = .ok (.invokestatic 103, 3) := by decide +kernel
theorem dX12_there_42 : decode cX12_there 42 = .ok (.ireturn, 1) := by decide +kernel
theorem dX12_take_0 : decode cX12_take 0 = .ok (.iload_n 1, 1) := by decide +kernel
theorem dX12_take_1 : decode cX12_take 1 = .ok (.invokestatic 160, 3) := by decide +kernel
theorem dX12_take_4 : decode cX12_take 4 = .ok (.ifCond .ne 5, 3) := by decide +kernel
theorem dX12_take_7 : decode cX12_take 7 = .ok (.iconst (-1), 1) := by decide +kernel
theorem dX12_take_8 : decode cX12_take 8 = .ok (.ireturn, 1) := by decide +kernel
theorem dX12_take_9 : decode cX12_take 9 = .ok (.aload_n 0, 1) := by decide +kernel
theorem dX12_take_10 : decode cX12_take 10 = .ok (.iload_n 1, 1) := by decide +kernel
theorem dX12_take_11 : decode cX12_take 11 = .ok (.invokevirtual 185, 3) := by decide +kernel
theorem dX12_take_14 : decode cX12_take 14 = .ok (.ifCond .ne 6, 3) := by decide +kernel
theorem dX12_take_17 : decode cX12_take 17 = .ok (.bipush (-4), 2) := by decide +kernel
theorem dX12_take_19 : decode cX12_take 19 = .ok (.ireturn, 1) := by decide +kernel
theorem dX12_take_20 : decode cX12_take 20 = .ok (.aload_n 0, 1) := by decide +kernel
theorem dX12_take_21 : decode cX12_take 21 = .ok (.iload_n 1, 1) := by decide +kernel
theorem dX12_take_22 : decode cX12_take 22 = .ok (.sipush 224, 3) := by decide +kernel
theorem dX12_take_25 : decode cX12_take 25 = .ok (.aload_n 0, 1) := by decide +kernel
theorem dX12_take_26 : decode cX12_take 26 = .ok (.iload_n 1, 1) := by decide +kernel
theorem dX12_take_27 : decode cX12_take 27 = .ok (.bipush 6, 2) := by decide +kernel
theorem dX12_take_29 : decode cX12_take 29 = .ok (.invokevirtual 99, 3) := by decide +kernel
theorem dX12_take_32 : decode cX12_take 32 = .ok (.bipush 64, 2) := by decide +kernel
theorem dX12_take_34 : decode cX12_take 34 = .ok (.irem, 1) := by decide +kernel
theorem dX12_take_35 : decode cX12_take 35 = .ok (.iadd, 1) := by decide +kernel
theorem dX12_take_36 : decode cX12_take 36 = .ok (.invokevirtual 99, 3) := by decide +kernel
theorem dX12_take_39 : decode cX12_take 39 = .ok (.istore_n 2, 1) := by decide +kernel
theorem dX12_take_40 : decode cX12_take 40 = .ok (.aload_n 0, 1) := by decide +kernel
theorem dX12_take_41 : decode cX12_take 41 = .ok (.iload_n 1, 1) := by decide +kernel
theorem dX12_take_42 : decode cX12_take 42 = .ok (.bipush 6, 2) := by decide +kernel
theorem dX12_take_44 : decode cX12_take 44 = .ok (.aload_n 0, 1) := by decide +kernel
theorem dX12_take_45 : decode cX12_take 45 = .ok (.iload_n 1, 1) := by decide +kernel
theorem dX12_take_46 : decode cX12_take 46 = .ok (.bipush 6, 2) := by decide +kernel
theorem dX12_take_48 : decode cX12_take 48 = .ok (.invokevirtual 99, 3) := by decide +kernel
theorem dX12_take_51 : decode cX12_take 51 = .ok (.iconst 1, 1) := by decide +kernel
theorem dX12_take_52 : decode cX12_take 52 = .ok (.iadd, 1) := by decide +kernel
theorem dX12_take_53 : decode cX12_take 53 = .ok (.invokevirtual 95, 3) := by decide +kernel
theorem dX12_take_56 : decode cX12_take 56 = .ok (.aload_n 0, 1) := by decide +kernel
theorem dX12_take_57 : decode cX12_take 57 = .ok (.iload_n 1, 1) := by decide +kernel
theorem dX12_take_58 : decode cX12_take 58 = .ok (.bipush 7, 2) := by decide +kernel
theorem dX12_take_60 : decode cX12_take 60 = .ok (.invokevirtual 99, 3) := by decide +kernel
theorem dX12_take_63 : decode cX12_take 63 = .ok (.aload_n 0, 1) := by decide +kernel
theorem dX12_take_64 : decode cX12_take 64 = .ok (.iload_n 1, 1) := by decide +kernel
theorem dX12_take_65 : decode cX12_take 65 = .ok (.iconst 5, 1) := by decide +kernel
theorem dX12_take_66 : decode cX12_take 66 = .ok (.invokevirtual 99, 3) := by decide +kernel
theorem dX12_take_69 : decode cX12_take 69 = .ok (.isub, 1) := by decide +kernel
theorem dX12_take_70 : decode cX12_take 70 = .ok (.istore_n 3, 1) := by decide +kernel
theorem dX12_take_71 : decode cX12_take 71 = .ok (.aload_n 0, 1) := by decide +kernel
theorem dX12_take_72 : decode cX12_take 72 = .ok (.iload_n 1, 1) := by decide +kernel
theorem dX12_take_73 : decode cX12_take 73 = .ok (.bipush 6, 2) := by decide +kernel
theorem dX12_take_75 : decode cX12_take 75 = .ok (.invokevirtual 99, 3) := by decide +kernel
theorem dX12_take_78 : decode cX12_take 78 = .ok (.aload_n 0, 1) := by decide +kernel
theorem dX12_take_79 : decode cX12_take 79 = .ok (.getfield 29, 3) := by decide +kernel
theorem dX12_take_82 : decode cX12_take 82 = .ok (.iadd, 1) := by decide +kernel
theorem dX12_take_83 : decode cX12_take 83 = .ok (.aload_n 0, 1) := by decide +kernel
theorem dX12_take_84 : decode cX12_take 84 = .ok (.iload_n 1, 1) := by decide +kernel
theorem dX12_take_85 : decode cX12_take 85 = .ok (.bipush 7, 2) := by decide +kernel
theorem dX12_take_87 : decode cX12_take 87 = .ok (.invokevirtual 99, 3) := by decide +kernel
theorem dX12_take_90 : decode cX12_take 90 = .ok (.isub, 1) := by decide +kernel
theorem dX12_take_91 : decode cX12_take 91 = .ok (.istore 4, 2) := by decide +kernel
theorem dX12_take_93 : decode cX12_take 93 = .ok (.iload 4, 2) := by decide +kernel
theorem dX12_take_95 : decode cX12_take 95 = .ok (.aload_n 0, 1) := by decide +kernel
theorem dX12_take_96 : decode cX12_take 96 = .ok (.getfield 25, 3) := by decide +kernel
theorem dX12_take_99 : decode cX12_take 99 = .ok (.if_icmp .ge 14, 3) := by decide +kernel
theorem dX12_take_102 : decode cX12_take 102 = .ok (.iconst 2, 1) := by decide +kernel
theorem dX12_take_103 : decode cX12_take 103 = .ok (.iload 4, 2) := by decide +kernel
theorem dX12_take_105 : decode cX12_take 105 = .ok (.imul, 1) := by decide +kernel
theorem dX12_take_106 : decode cX12_take 106 = .ok (.aload_n 0, 1) := by decide +kernel
theorem dX12_take_107 : decode cX12_take 107 = .ok (.getfield 29, 3) := by decide +kernel
theorem dX12_take_110 : decode cX12_take 110 = .ok (.if_icmp .lt 52, 3) := by decide +kernel
theorem dX12_take_113 : decode cX12_take 113 = .ok (.aload_n 0, 1) := by decide +kernel
theorem dX12_take_114 : decode cX12_take 114 = .ok (.iload_n 1, 1) := by decide +kernel
theorem dX12_take_115 : decode cX12_take 115 = .ok (.bipush 7, 2) := by decide +kernel
theorem dX12_take_117 : decode cX12_take 117 = .ok (.aload_n 0, 1) := by decide +kernel
theorem dX12_take_118 : decode cX12_take 118 = .ok (.iload_n 1, 1) := by decide +kernel
theorem dX12_take_119 : decode cX12_take 119 = .ok (.bipush 7, 2) := by decide +kernel
theorem dX12_take_121 : decode cX12_take 121 = .ok (.invokevirtual 99, 3) := by decide +kernel
theorem dX12_take_124 : decode cX12_take 124 = .ok (.iload 4, 2) := by decide +kernel
theorem dX12_take_126 : decode cX12_take 126 = .ok (.iadd, 1) := by decide +kernel
theorem dX12_take_127 : decode cX12_take 127 = .ok (.invokevirtual 95, 3) := by decide +kernel
theorem dX12_take_130 : decode cX12_take 130 = .ok (.iload_n 3, 1) := by decide +kernel
theorem dX12_take_131 : decode cX12_take 131 = .ok (.aload_n 0, 1) := by decide +kernel
theorem dX12_take_132 : decode cX12_take 132 = .ok (.getfield 25, 3) := by decide +kernel
theorem dX12_take_135 : decode cX12_take 135 = .ok (.if_icmp .ge 27, 3) := by decide +kernel
theorem dX12_take_138 : decode cX12_take 138 = .ok (.aload_n 0, 1) := by decide +kernel
theorem dX12_take_139 : decode cX12_take 139 = .ok (.iload_n 1, 1) := by decide +kernel
theorem dX12_take_140 : decode cX12_take 140 = .ok (.iconst 0, 1) := by decide +kernel
theorem dX12_take_141 : decode cX12_take 141 = .ok (.invokevirtual 99, 3) := by decide +kernel
theorem dX12_take_144 : decode cX12_take 144 = .ok (.i2l, 1) := by decide +kernel
theorem dX12_take_145 : decode cX12_take 145 = .ok (.ldc2_w 189, 3) := by decide +kernel
theorem dX12_take_148 : decode cX12_take 148 = .ok (.ldc2_w 191, 3) := by decide +kernel
theorem dX12_take_151 : decode cX12_take 151 = .ok (.invokestatic 54, 3) := by decide +kernel
theorem dX12_take_154 : decode cX12_take 154 = .ok (.ifCond .eq 8, 3) := by decide +kernel
theorem dX12_take_157 : decode cX12_take 157 = .ok (.aload_n 0, 1) := by decide +kernel
theorem dX12_take_158 : decode cX12_take 158 = .ok (.iload_n 1, 1) := by decide +kernel
theorem dX12_take_159 : decode cX12_take 159 = .ok (.invokevirtual 193, 3) := by decide +kernel
theorem dX12_take_162 : decode cX12_take 162 = .ok (.aload_n 0, 1) := by decide +kernel
theorem dX12_take_163 : decode cX12_take 163 = .ok (.iload_n 1, 1) := by decide +kernel
theorem dX12_take_164 : decode cX12_take 164 = .ok (.invokevirtual 166, 3) := by decide +kernel
theorem dX12_take_167 : decode cX12_take 167 = .ok (.iload_n 2, 1) := by decide +kernel
theorem dX12_take_168 : decode cX12_take 168 = .ok (.ireturn, 1) := by decide +kernel
theorem dX12_drops_0 : decode cX12_drops 0 = .ok (.aload_n 0, 1) := by decide +kernel
theorem dX12_drops_1 : decode cX12_drops 1 = .ok (.getfield 7, 3) := by decide +kernel
theorem dX12_drops_4 : decode cX12_drops 4 = .ok (.sipush 981, 3) := by decide +kernel
theorem dX12_drops_7 : decode cX12_drops 7 = .ok (.dup2, 1) := by decide +kernel
theorem dX12_drops_8 : decode cX12_drops 8 = .ok (.iaload, 1) := by decide +kernel
theorem dX12_drops_9 : decode cX12_drops 9 = .ok (.iconst 1, 1) := by decide +kernel
theorem dX12_drops_10 : decode cX12_drops 10 = .ok (.iadd, 1) := by decide +kernel
theorem dX12_drops_11 : decode cX12_drops 11 = .ok (.iastore, 1) := by decide +kernel
theorem dX12_drops_12 : decode cX12_drops 12 = .ok (.aload_n 0, 1) := by decide +kernel
theorem dX12_drops_13 : decode cX12_drops 13 = .ok (.getfield 7, 3) := by decide +kernel
theorem dX12_drops_16 : decode cX12_drops 16 = .ok (.sipush 982, 3) := by decide +kernel
theorem dX12_drops_19 : decode cX12_drops 19 = .ok (.iload_n 2, 1) := by decide +kernel
theorem dX12_drops_20 : decode cX12_drops 20 = .ok (.ifCond .le 7, 3) := by decide +kernel
theorem dX12_drops_23 : decode cX12_drops 23 = .ok (.iconst 2, 1) := by decide +kernel
theorem dX12_drops_24 : decode cX12_drops 24 = .ok (.goto 4, 3) := by decide +kernel
theorem dX12_drops_27 : decode cX12_drops 27 = .ok (.iconst 1, 1) := by decide +kernel
theorem dX12_drops_28 : decode cX12_drops 28 = .ok (.iastore, 1) := by decide +kernel
theorem dX12_drops_29 : decode cX12_drops 29 = .ok (.aload_n 0, 1) := by decide +kernel
theorem dX12_drops_30 : decode cX12_drops 30 = .ok (.getfield 7, 3) := by decide +kernel
theorem dX12_drops_33 : decode cX12_drops 33 = .ok (.sipush 983, 3) := by decide +kernel
theorem dX12_drops_36 : decode cX12_drops 36 = .ok (.iload_n 1, 1) := by decide +kernel
theorem dX12_drops_37 : decode cX12_drops 37 = .ok (.iastore, 1) := by decide +kernel
theorem dX12_drops_38 : decode cX12_drops 38 = .ok (.aload_n 0, 1) := by decide +kernel
theorem dX12_drops_39 : decode cX12_drops 39 = .ok (.getfield 7, 3) := by decide +kernel
theorem dX12_drops_42 : decode cX12_drops 42 = .ok (.sipush 984, 3) := by decide +kernel
theorem dX12_drops_45 : decode cX12_drops 45 = .ok (.iload_n 2, 1) := by decide +kernel
theorem dX12_drops_46 : decode cX12_drops 46 = .ok (.iastore, 1) := by decide +kernel
theorem dX12_drops_47 : decode cX12_drops 47 = .ok (.iconst 0, 1) := by decide +kernel
theorem dX12_drops_48 : decode cX12_drops 48 = .ok (.ireturn, 1) := by decide +kernel
theorem dX12_has_0 : decode cX12_has 0 = .ok (.aload_n 0, 1) := by decide +kernel
theorem dX12_has_1 : decode cX12_has 1 = .ok (.getfield 19, 3) := by decide +kernel
theorem dX12_has_4 : decode cX12_has 4 = .ok (.iconst 1, 1) := by decide +kernel
theorem dX12_has_5 : decode cX12_has 5 = .ok (.iaload, 1) := by decide +kernel
theorem dX12_has_6 : decode cX12_has 6 = .ok (.iload_n 1, 1) := by decide +kernel
theorem dX12_has_7 : decode cX12_has 7 = .ok (.iand, 1) := by decide +kernel
theorem dX12_has_8 : decode cX12_has 8 = .ok (.ifCond .le 7, 3) := by decide +kernel
theorem dX12_has_11 : decode cX12_has 11 = .ok (.iconst 1, 1) := by decide +kernel
theorem dX12_has_12 : decode cX12_has 12 = .ok (.goto 4, 3) := by decide +kernel
theorem dX12_has_15 : decode cX12_has 15 = .ok (.iconst 0, 1) := by decide +kernel
theorem dX12_has_16 : decode cX12_has 16 = .ok (.ireturn, 1) := by decide +kernel
theorem dX12_dropsAndBreaks_0 : decode cX12_dropsAndBreaks 0 = .ok (.aload_n 0, 1) := by decide +kernel
theorem dX12_dropsAndBreaks_1 : decode cX12_dropsAndBreaks 1 = .ok (.iload_n 1, 1) := by decide +kernel
theorem dX12_dropsAndBreaks_2 : decode cX12_dropsAndBreaks 2 = .ok (.invokevirtual 196, 3) := by decide +kernel
theorem dX12_dropsAndBreaks_5 : decode cX12_dropsAndBreaks 5 = .ok (.aload_n 0, 1) := by decide +kernel
theorem dX12_dropsAndBreaks_6 : decode cX12_dropsAndBreaks 6 = .ok (.iload_n 2, 1) := by decide +kernel
theorem dX12_dropsAndBreaks_7 : decode cX12_dropsAndBreaks 7 = .ok (.iconst 0, 1) := by decide +kernel
theorem dX12_dropsAndBreaks_8 : decode cX12_dropsAndBreaks 8 = .ok (.invokevirtual 199, 3) := by decide +kernel
theorem dX12_dropsAndBreaks_11 : decode cX12_dropsAndBreaks 11 = .ok (.ireturn, 1) := by decide +kernel
theorem dX12_dropsAndSays_0 : decode cX12_dropsAndSays 0 = .ok (.aload_n 0, 1) := by decide +kernel
theorem dX12_dropsAndSays_1 : decode cX12_dropsAndSays 1 = .ok (.bipush 8, 2) := by decide +kernel
theorem dX12_dropsAndSays_3 : decode cX12_dropsAndSays 3 = .ok (.invokevirtual 202, 3) := by decide +kernel
theorem dX12_dropsAndSays_6 : decode cX12_dropsAndSays 6 = .ok (.ifCond .ne 8, 3) := by decide +kernel
theorem dX12_dropsAndSays_9 : decode cX12_dropsAndSays 9 = .ok (.aload_n 0, 1) := by decide +kernel
theorem dX12_dropsAndSays_10 : decode cX12_dropsAndSays 10 = .ok (.iload_n 1, 1) := by decide +kernel
theorem dX12_dropsAndSays_11 : decode cX12_dropsAndSays 11 = .ok (.invokevirtual 193, 3) := by decide +kernel
theorem dX12_dropsAndSays_14 : decode cX12_dropsAndSays 14 = .ok (.aload_n 0, 1) := by decide +kernel
theorem dX12_dropsAndSays_15 : decode cX12_dropsAndSays 15 = .ok (.iload_n 2, 1) := by decide +kernel
theorem dX12_dropsAndSays_16 : decode cX12_dropsAndSays 16 = .ok (.iload_n 3, 1) := by decide +kernel
theorem dX12_dropsAndSays_17 : decode cX12_dropsAndSays 17 = .ok (.invokevirtual 199, 3) := by decide +kernel
theorem dX12_dropsAndSays_20 : decode cX12_dropsAndSays 20 = .ok (.ireturn, 1) := by decide +kernel
theorem dX12_inShut_0 : decode cX12_inShut 0 = .ok (.aload_n 0, 1) := by decide +kernel
theorem dX12_inShut_1 : decode cX12_inShut 1 = .ok (.bipush 8, 2) := by decide +kernel
theorem dX12_inShut_3 : decode cX12_inShut 3 = .ok (.invokevirtual 202, 3) := by decide +kernel
theorem dX12_inShut_6 : decode cX12_inShut 6 = .ok (.ifCond .ne 8, 3) := by decide +kernel
theorem dX12_inShut_9 : decode cX12_inShut 9 = .ok (.aload_n 0, 1) := by decide +kernel
theorem dX12_inShut_10 : decode cX12_inShut 10 = .ok (.iload_n 1, 1) := by decide +kernel
theorem dX12_inShut_11 : decode cX12_inShut 11 = .ok (.invokevirtual 196, 3) := by decide +kernel
theorem dX12_inShut_14 : decode cX12_inShut 14 = .ok (.aload_n 0, 1) := by decide +kernel
theorem dX12_inShut_15 : decode cX12_inShut 15 = .ok (.iconst 1, 1) := by decide +kernel
theorem dX12_inShut_16 : decode cX12_inShut 16 = .ok (.iconst 0, 1) := by decide +kernel
theorem dX12_inShut_17 : decode cX12_inShut 17 = .ok (.invokevirtual 199, 3) := by decide +kernel
theorem dX12_inShut_20 : decode cX12_inShut 20 = .ok (.ireturn, 1) := by decide +kernel
theorem dX12_inWaiting_0 : decode cX12_inWaiting 0 = .ok (.aload_n 0, 1) := by decide +kernel
theorem dX12_inWaiting_1 : decode cX12_inWaiting 1 = .ok (.bipush 8, 2) := by decide +kernel
theorem dX12_inWaiting_3 : decode cX12_inWaiting 3 = .ok (.invokevirtual 202, 3) := by decide +kernel
theorem dX12_inWaiting_6 : decode cX12_inWaiting 6 = .ok (.ifCond .eq 10, 3) := by decide +kernel
theorem dX12_inWaiting_9 : decode cX12_inWaiting 9 = .ok (.aload_n 0, 1) := by decide +kernel
theorem dX12_inWaiting_10 : decode cX12_inWaiting 10 = .ok (.iconst 2, 1) := by decide +kernel
theorem dX12_inWaiting_11 : decode cX12_inWaiting 11 = .ok (.iconst 0, 1) := by decide +kernel
theorem dX12_inWaiting_12 : decode cX12_inWaiting 12 = .ok (.invokevirtual 199, 3) := by decide +kernel
theorem dX12_inWaiting_15 : decode cX12_inWaiting 15 = .ok (.ireturn, 1) := by decide +kernel
theorem dX12_inWaiting_16 : decode cX12_inWaiting 16 = .ok (.aload_n 0, 1) := by decide +kernel
theorem dX12_inWaiting_17 : decode cX12_inWaiting 17 = .ok (.iconst 4, 1) := by decide +kernel
theorem dX12_inWaiting_18 : decode cX12_inWaiting 18 = .ok (.invokevirtual 202, 3) := by decide +kernel
theorem dX12_inWaiting_21 : decode cX12_inWaiting 21 = .ok (.ifCond .eq 10, 3) := by decide +kernel
theorem dX12_inWaiting_24 : decode cX12_inWaiting 24 = .ok (.aload_n 0, 1) := by decide +kernel
theorem dX12_inWaiting_25 : decode cX12_inWaiting 25 = .ok (.iload_n 1, 1) := by decide +kernel
theorem dX12_inWaiting_26 : decode cX12_inWaiting 26 = .ok (.iconst 3, 1) := by decide +kernel
theorem dX12_inWaiting_27 : decode cX12_inWaiting 27 = .ok (.invokevirtual 205, 3) := by decide +kernel
theorem dX12_inWaiting_30 : decode cX12_inWaiting 30 = .ok (.ireturn, 1) := by decide +kernel
theorem dX12_inWaiting_31 : decode cX12_inWaiting 31 = .ok (.aload_n 0, 1) := by decide +kernel
theorem dX12_inWaiting_32 : decode cX12_inWaiting 32 = .ok (.iconst 1, 1) := by decide +kernel
theorem dX12_inWaiting_33 : decode cX12_inWaiting 33 = .ok (.invokevirtual 202, 3) := by decide +kernel
theorem dX12_inWaiting_36 : decode cX12_inWaiting 36 = .ok (.ifCond .ne 10, 3) := by decide +kernel
theorem dX12_inWaiting_39 : decode cX12_inWaiting 39 = .ok (.aload_n 0, 1) := by decide +kernel
theorem dX12_inWaiting_40 : decode cX12_inWaiting 40 = .ok (.iconst 4, 1) := by decide +kernel
theorem dX12_inWaiting_41 : decode cX12_inWaiting 41 = .ok (.iconst 0, 1) := by decide +kernel
theorem dX12_inWaiting_42 : decode cX12_inWaiting 42 = .ok (.invokevirtual 199, 3) := by decide +kernel
theorem dX12_inWaiting_45 : decode cX12_inWaiting 45 = .ok (.ireturn, 1) := by decide +kernel
theorem dX12_inWaiting_46 : decode cX12_inWaiting 46 = .ok (.aload_n 0, 1) := by decide +kernel
theorem dX12_inWaiting_47 : decode cX12_inWaiting 47 = .ok (.iload_n 1, 1) := by decide +kernel
theorem dX12_inWaiting_48 : decode cX12_inWaiting 48 = .ok (.iconst 5, 1) := by decide +kernel
theorem dX12_inWaiting_49 : decode cX12_inWaiting 49 = .ok (.iconst 1, 1) := by decide +kernel
theorem dX12_inWaiting_50 : decode cX12_inWaiting 50 = .ok (.invokevirtual 95, 3) := by decide +kernel
theorem dX12_inWaiting_53 : decode cX12_inWaiting 53 = .ok (.aload_n 0, 1) := by decide +kernel
theorem dX12_inWaiting_54 : decode cX12_inWaiting 54 = .ok (.iload_n 1, 1) := by decide +kernel
theorem dX12_inWaiting_55 : decode cX12_inWaiting 55 = .ok (.iconst 0, 1) := by decide +kernel
theorem dX12_inWaiting_56 : decode cX12_inWaiting 56 = .ok (.iconst 3, 1) := by decide +kernel
theorem dX12_inWaiting_57 : decode cX12_inWaiting 57 = .ok (.invokevirtual 95, 3) := by decide +kernel
theorem dX12_inWaiting_60 : decode cX12_inWaiting 60 = .ok (.aload_n 0, 1) := by decide +kernel
theorem dX12_inWaiting_61 : decode cX12_inWaiting 61 = .ok (.iload_n 1, 1) := by decide +kernel
theorem dX12_inWaiting_62 : decode cX12_inWaiting 62 = .ok (.invokevirtual 163, 3) := by decide +kernel
theorem dX12_inWaiting_65 : decode cX12_inWaiting 65 = .ok (.iconst 1, 1) := by decide +kernel
theorem dX12_inWaiting_66 : decode cX12_inWaiting 66 = .ok (.ireturn, 1) := by decide +kernel
theorem dX12_inCalling_0 : decode cX12_inCalling 0 = .ok (.aload_n 0, 1) := by decide +kernel
theorem dX12_inCalling_1 : decode cX12_inCalling 1 = .ok (.iconst 4, 1) := by decide +kernel
theorem dX12_inCalling_2 : decode cX12_inCalling 2 = .ok (.invokevirtual 202, 3) := by decide +kernel
theorem dX12_inCalling_5 : decode cX12_inCalling 5 = .ok (.ifCond .eq 23, 3) := by decide +kernel
theorem dX12_inCalling_8 : decode cX12_inCalling 8 = .ok (.aload_n 0, 1) := by decide +kernel
theorem dX12_inCalling_9 : decode cX12_inCalling 9 = .ok (.iload_n 1, 1) := by decide +kernel
theorem dX12_inCalling_10 : decode cX12_inCalling 10 = .ok (.aload_n 0, 1) := by decide +kernel
theorem dX12_inCalling_11 : decode cX12_inCalling 11 = .ok (.getfield 19, 3) := by decide +kernel
theorem dX12_inCalling_14 : decode cX12_inCalling 14 = .ok (.iconst 3, 1) := by decide +kernel
theorem dX12_inCalling_15 : decode cX12_inCalling 15 = .ok (.iaload, 1) := by decide +kernel
theorem dX12_inCalling_16 : decode cX12_inCalling 16 = .ok (.aload_n 0, 1) := by decide +kernel
theorem dX12_inCalling_17 : decode cX12_inCalling 17 = .ok (.iload_n 1, 1) := by decide +kernel
theorem dX12_inCalling_18 : decode cX12_inCalling 18 = .ok (.iconst 1, 1) := by decide +kernel
theorem dX12_inCalling_19 : decode cX12_inCalling 19 = .ok (.invokevirtual 99, 3) := by decide +kernel
theorem dX12_inCalling_22 : decode cX12_inCalling 22 = .ok (.invokevirtual 208, 3) := by decide +kernel
theorem dX12_inCalling_25 : decode cX12_inCalling 25 = .ok (.goto 4, 3) := by decide +kernel
theorem dX12_inCalling_28 : decode cX12_inCalling 28 = .ok (.iconst 1, 1) := by decide +kernel
theorem dX12_inCalling_29 : decode cX12_inCalling 29 = .ok (.istore_n 2, 1) := by decide +kernel
theorem dX12_inCalling_30 : decode cX12_inCalling 30 = .ok (.iload_n 2, 1) := by decide +kernel
theorem dX12_inCalling_31 : decode cX12_inCalling 31 = .ok (.iconst 1, 1) := by decide +kernel
theorem dX12_inCalling_32 : decode cX12_inCalling 32 = .ok (.if_icmp .eq 28, 3) := by decide +kernel
theorem dX12_inCalling_35 : decode cX12_inCalling 35 = .ok (.aload_n 0, 1) := by decide +kernel
theorem dX12_inCalling_36 : decode cX12_inCalling 36 = .ok (.bipush 8, 2) := by decide +kernel
theorem dX12_inCalling_38 : decode cX12_inCalling 38 = .ok (.invokevirtual 202, 3) := by decide +kernel
theorem dX12_inCalling_41 : decode cX12_inCalling 41 = .ok (.ifCond .eq 12, 3) := by decide +kernel
theorem dX12_inCalling_44 : decode cX12_inCalling 44 = .ok (.aload_n 0, 1) := by decide +kernel
theorem dX12_inCalling_45 : decode cX12_inCalling 45 = .ok (.iconst 5, 1) := by decide +kernel
theorem dX12_inCalling_46 : decode cX12_inCalling 46 = .ok (.iconst 2, 1) := by decide +kernel
theorem dX12_inCalling_47 : decode cX12_inCalling 47 = .ok (.invokevirtual 199, 3) := by decide +kernel
theorem dX12_inCalling_50 : decode cX12_inCalling 50 = .ok (.goto 9, 3) := by decide +kernel
theorem dX12_inCalling_53 : decode cX12_inCalling 53 = .ok (.aload_n 0, 1) := by decide +kernel
theorem dX12_inCalling_54 : decode cX12_inCalling 54 = .ok (.iload_n 1, 1) := by decide +kernel
theorem dX12_inCalling_55 : decode cX12_inCalling 55 = .ok (.iconst 5, 1) := by decide +kernel
theorem dX12_inCalling_56 : decode cX12_inCalling 56 = .ok (.invokevirtual 205, 3) := by decide +kernel
theorem dX12_inCalling_59 : decode cX12_inCalling 59 = .ok (.ireturn, 1) := by decide +kernel
theorem dX12_inCalling_60 : decode cX12_inCalling 60 = .ok (.aload_n 0, 1) := by decide +kernel
theorem dX12_inCalling_61 : decode cX12_inCalling 61 = .ok (.bipush 8, 2) := by decide +kernel
theorem dX12_inCalling_63 : decode cX12_inCalling 63 = .ok (.invokevirtual 202, 3) := by decide +kernel
theorem dX12_inCalling_66 : decode cX12_inCalling 66 = .ok (.ifCond .eq 25, 3) := by decide +kernel
theorem dX12_inCalling_69 : decode cX12_inCalling 69 = .ok (.aload_n 0, 1) := by decide +kernel
theorem dX12_inCalling_70 : decode cX12_inCalling 70 = .ok (.iconst 4, 1) := by decide +kernel
theorem dX12_inCalling_71 : decode cX12_inCalling 71 = .ok (.invokevirtual 202, 3) := by decide +kernel
theorem dX12_inCalling_74 : decode cX12_inCalling 74 = .ok (.ifCond .ne 10, 3) := by decide +kernel
theorem dX12_inCalling_77 : decode cX12_inCalling 77 = .ok (.aload_n 0, 1) := by decide +kernel
theorem dX12_inCalling_78 : decode cX12_inCalling 78 = .ok (.iconst 2, 1) := by decide +kernel
theorem dX12_inCalling_79 : decode cX12_inCalling 79 = .ok (.iconst 0, 1) := by decide +kernel
theorem dX12_inCalling_80 : decode cX12_inCalling 80 = .ok (.invokevirtual 199, 3) := by decide +kernel
theorem dX12_inCalling_83 : decode cX12_inCalling 83 = .ok (.ireturn, 1) := by decide +kernel
theorem dX12_inCalling_84 : decode cX12_inCalling 84 = .ok (.aload_n 0, 1) := by decide +kernel
theorem dX12_inCalling_85 : decode cX12_inCalling 85 = .ok (.iload_n 1, 1) := by decide +kernel
theorem dX12_inCalling_86 : decode cX12_inCalling 86 = .ok (.invokevirtual 180, 3) := by decide +kernel
theorem dX12_inCalling_89 : decode cX12_inCalling 89 = .ok (.iconst 1, 1) := by decide +kernel
theorem dX12_inCalling_90 : decode cX12_inCalling 90 = .ok (.ireturn, 1) := by decide +kernel
theorem dX12_inCalling_91 : decode cX12_inCalling 91 = .ok (.aload_n 0, 1) := by decide +kernel
theorem dX12_inCalling_92 : decode cX12_inCalling 92 = .ok (.iconst 1, 1) := by decide +kernel
theorem dX12_inCalling_93 : decode cX12_inCalling 93 = .ok (.invokevirtual 202, 3) := by decide +kernel
theorem dX12_inCalling_96 : decode cX12_inCalling 96 = .ok (.ifCond .ne 10, 3) := by decide +kernel
theorem dX12_inCalling_99 : decode cX12_inCalling 99 = .ok (.aload_n 0, 1) := by decide +kernel
theorem dX12_inCalling_100 : decode cX12_inCalling 100 = .ok (.iconst 4, 1) := by decide +kernel
theorem dX12_inCalling_101 : decode cX12_inCalling 101 = .ok (.iconst 0, 1) := by decide +kernel
theorem dX12_inCalling_102 : decode cX12_inCalling 102 = .ok (.invokevirtual 199, 3) := by decide +kernel
theorem dX12_inCalling_105 : decode cX12_inCalling 105 = .ok (.ireturn, 1) := by decide +kernel
theorem dX12_inCalling_106 : decode cX12_inCalling 106 = .ok (.aload_n 0, 1) := by decide +kernel
theorem dX12_inCalling_107 : decode cX12_inCalling 107 = .ok (.iload_n 1, 1) := by decide +kernel
theorem dX12_inCalling_108 : decode cX12_inCalling 108 = .ok (.iconst 5, 1) := by decide +kernel
theorem dX12_inCalling_109 : decode cX12_inCalling 109 = .ok (.iconst 1, 1) := by decide +kernel
theorem dX12_inCalling_110 : decode cX12_inCalling 110 = .ok (.invokevirtual 95, 3) := by decide +kernel
theorem dX12_inCalling_113 : decode cX12_inCalling 113 = .ok (.aload_n 0, 1) := by decide +kernel
theorem dX12_inCalling_114 : decode cX12_inCalling 114 = .ok (.iconst 4, 1) := by decide +kernel
theorem dX12_inCalling_115 : decode cX12_inCalling 115 = .ok (.invokevirtual 202, 3) := by decide +kernel
theorem dX12_inCalling_118 : decode cX12_inCalling 118 = .ok (.ifCond .eq 29, 3) := by decide +kernel
theorem dX12_inCalling_121 : decode cX12_inCalling 121 = .ok (.aload_n 0, 1) := by decide +kernel
theorem dX12_inCalling_122 : decode cX12_inCalling 122 = .ok (.iload_n 1, 1) := by decide +kernel
theorem dX12_inCalling_123 : decode cX12_inCalling 123 = .ok (.iload_n 2, 1) := by decide +kernel
theorem dX12_inCalling_124 : decode cX12_inCalling 124 = .ok (.invokevirtual 212, 3) := by decide +kernel
theorem dX12_inCalling_127 : decode cX12_inCalling 127 = .ok (.aload_n 0, 1) := by decide +kernel
theorem dX12_inCalling_128 : decode cX12_inCalling 128 = .ok (.iload_n 1, 1) := by decide +kernel
theorem dX12_inCalling_129 : decode cX12_inCalling 129 = .ok (.iconst 0, 1) := by decide +kernel
theorem dX12_inCalling_130 : decode cX12_inCalling 130 = .ok (.iconst 4, 1) := by decide +kernel
theorem dX12_inCalling_131 : decode cX12_inCalling 131 = .ok (.invokevirtual 95, 3) := by decide +kernel
theorem dX12_inCalling_134 : decode cX12_inCalling 134 = .ok (.aload_n 0, 1) := by decide +kernel
theorem dX12_inCalling_135 : decode cX12_inCalling 135 = .ok (.iload_n 1, 1) := by decide +kernel
theorem dX12_inCalling_136 : decode cX12_inCalling 136 = .ok (.invokevirtual 193, 3) := by decide +kernel
theorem dX12_inCalling_139 : decode cX12_inCalling 139 = .ok (.aload_n 0, 1) := by decide +kernel
theorem dX12_inCalling_140 : decode cX12_inCalling 140 = .ok (.iload_n 1, 1) := by decide +kernel
theorem dX12_inCalling_141 : decode cX12_inCalling 141 = .ok (.invokevirtual 177, 3) := by decide +kernel
theorem dX12_inCalling_144 : decode cX12_inCalling 144 = .ok (.goto 15, 3) := by decide +kernel
theorem dX12_inCalling_147 : decode cX12_inCalling 147 = .ok (.aload_n 0, 1) := by decide +kernel
theorem dX12_inCalling_148 : decode cX12_inCalling 148 = .ok (.iload_n 1, 1) := by decide +kernel
theorem dX12_inCalling_149 : decode cX12_inCalling 149 = .ok (.iconst 0, 1) := by decide +kernel
theorem dX12_inCalling_150 : decode cX12_inCalling 150 = .ok (.iconst 3, 1) := by decide +kernel
theorem dX12_inCalling_151 : decode cX12_inCalling 151 = .ok (.invokevirtual 95, 3) := by decide +kernel
theorem dX12_inCalling_154 : decode cX12_inCalling 154 = .ok (.aload_n 0, 1) := by decide +kernel
theorem dX12_inCalling_155 : decode cX12_inCalling 155 = .ok (.iload_n 1, 1) := by decide +kernel
theorem dX12_inCalling_156 : decode cX12_inCalling 156 = .ok (.invokevirtual 169, 3) := by decide +kernel
theorem dX12_inCalling_159 : decode cX12_inCalling 159 = .ok (.iconst 1, 1) := by decide +kernel
theorem dX12_inCalling_160 : decode cX12_inCalling 160 = .ok (.ireturn, 1) := by decide +kernel
theorem dX12_rounds_0 : decode cX12_rounds 0 = .ok (.iconst 1, 1) := by decide +kernel
theorem dX12_rounds_1 : decode cX12_rounds 1 = .ok (.aload_n 0, 1) := by decide +kernel
theorem dX12_rounds_2 : decode cX12_rounds 2 = .ok (.getfield 7, 3) := by decide +kernel
theorem dX12_rounds_5 : decode cX12_rounds 5 = .ok (.sipush 977, 3) := by decide +kernel
theorem dX12_rounds_8 : decode cX12_rounds 8 = .ok (.iaload, 1) := by decide +kernel
theorem dX12_rounds_9 : decode cX12_rounds 9 = .ok (.aload_n 0, 1) := by decide +kernel
theorem dX12_rounds_10 : decode cX12_rounds 10 = .ok (.iload_n 1, 1) := by decide +kernel
theorem dX12_rounds_11 : decode cX12_rounds 11 = .ok (.bipush 18, 2) := by decide +kernel
theorem dX12_rounds_13 : decode cX12_rounds 13 = .ok (.invokevirtual 99, 3) := by decide +kernel
theorem dX12_rounds_16 : decode cX12_rounds 16 = .ok (.isub, 1) := by decide +kernel
theorem dX12_rounds_17 : decode cX12_rounds 17 = .ok (.invokestatic 103, 3) := by decide +kernel
theorem dX12_rounds_20 : decode cX12_rounds 20 = .ok (.istore_n 2, 1) := by decide +kernel
theorem dX12_rounds_21 : decode cX12_rounds 21 = .ok (.aload_n 0, 1) := by decide +kernel
theorem dX12_rounds_22 : decode cX12_rounds 22 = .ok (.iload_n 1, 1) := by decide +kernel
theorem dX12_rounds_23 : decode cX12_rounds 23 = .ok (.bipush 16, 2) := by decide +kernel
theorem dX12_rounds_25 : decode cX12_rounds 25 = .ok (.bipush (-4), 2) := by decide +kernel
theorem dX12_rounds_27 : decode cX12_rounds 27 = .ok (.invokevirtual 95, 3) := by decide +kernel
theorem dX12_rounds_30 : decode cX12_rounds 30 = .ok (.aload_n 0, 1) := by decide +kernel
theorem dX12_rounds_31 : decode cX12_rounds 31 = .ok (.iload_n 1, 1) := by decide +kernel
theorem dX12_rounds_32 : decode cX12_rounds 32 = .ok (.bipush 19, 2) := by decide +kernel
theorem dX12_rounds_34 : decode cX12_rounds 34 = .ok (.invokevirtual 99, 3) := by decide +kernel
theorem dX12_rounds_37 : decode cX12_rounds 37 = .ok (.ifCond .ne 27, 3) := by decide +kernel
theorem dX12_rounds_40 : decode cX12_rounds 40 = .ok (.aload_n 0, 1) := by decide +kernel
theorem dX12_rounds_41 : decode cX12_rounds 41 = .ok (.iload_n 1, 1) := by decide +kernel
theorem dX12_rounds_42 : decode cX12_rounds 42 = .ok (.bipush 9, 2) := by decide +kernel
theorem dX12_rounds_44 : decode cX12_rounds 44 = .ok (.bipush 8, 2) := by decide +kernel
theorem dX12_rounds_46 : decode cX12_rounds 46 = .ok (.iload_n 2, 1) := by decide +kernel
theorem dX12_rounds_47 : decode cX12_rounds 47 = .ok (.imul, 1) := by decide +kernel
theorem dX12_rounds_48 : decode cX12_rounds 48 = .ok (.invokevirtual 95, 3) := by decide +kernel
theorem dX12_rounds_51 : decode cX12_rounds 51 = .ok (.aload_n 0, 1) := by decide +kernel
theorem dX12_rounds_52 : decode cX12_rounds 52 = .ok (.iload_n 1, 1) := by decide +kernel
theorem dX12_rounds_53 : decode cX12_rounds 53 = .ok (.bipush 10, 2) := by decide +kernel
theorem dX12_rounds_55 : decode cX12_rounds 55 = .ok (.iconst 2, 1) := by decide +kernel
theorem dX12_rounds_56 : decode cX12_rounds 56 = .ok (.iload_n 2, 1) := by decide +kernel
theorem dX12_rounds_57 : decode cX12_rounds 57 = .ok (.imul, 1) := by decide +kernel
theorem dX12_rounds_58 : decode cX12_rounds 58 = .ok (.invokevirtual 95, 3) := by decide +kernel
theorem dX12_rounds_61 : decode cX12_rounds 61 = .ok (.goto 67, 3) := by decide +kernel
theorem dX12_rounds_64 : decode cX12_rounds 64 = .ok (.iload_n 2, 1) := by decide +kernel
theorem dX12_rounds_65 : decode cX12_rounds 65 = .ok (.aload_n 0, 1) := by decide +kernel
theorem dX12_rounds_66 : decode cX12_rounds 66 = .ok (.iload_n 1, 1) := by decide +kernel
theorem dX12_rounds_67 : decode cX12_rounds 67 = .ok (.bipush 9, 2) := by decide +kernel
theorem dX12_rounds_69 : decode cX12_rounds 69 = .ok (.invokevirtual 99, 3) := by decide +kernel
theorem dX12_rounds_72 : decode cX12_rounds 72 = .ok (.bipush 8, 2) := by decide +kernel
theorem dX12_rounds_74 : decode cX12_rounds 74 = .ok (.idiv, 1) := by decide +kernel
theorem dX12_rounds_75 : decode cX12_rounds 75 = .ok (.isub, 1) := by decide +kernel
theorem dX12_rounds_76 : decode cX12_rounds 76 = .ok (.istore_n 3, 1) := by decide +kernel
theorem dX12_rounds_77 : decode cX12_rounds 77 = .ok (.aload_n 0, 1) := by decide +kernel
theorem dX12_rounds_78 : decode cX12_rounds 78 = .ok (.iload_n 1, 1) := by decide +kernel
theorem dX12_rounds_79 : decode cX12_rounds 79 = .ok (.bipush 9, 2) := by decide +kernel
theorem dX12_rounds_81 : decode cX12_rounds 81 = .ok (.aload_n 0, 1) := by decide +kernel
theorem dX12_rounds_82 : decode cX12_rounds 82 = .ok (.iload_n 1, 1) := by decide +kernel
theorem dX12_rounds_83 : decode cX12_rounds 83 = .ok (.bipush 9, 2) := by decide +kernel
theorem dX12_rounds_85 : decode cX12_rounds 85 = .ok (.invokevirtual 99, 3) := by decide +kernel
theorem dX12_rounds_88 : decode cX12_rounds 88 = .ok (.iload_n 3, 1) := by decide +kernel
theorem dX12_rounds_89 : decode cX12_rounds 89 = .ok (.iadd, 1) := by decide +kernel
theorem dX12_rounds_90 : decode cX12_rounds 90 = .ok (.invokevirtual 95, 3) := by decide +kernel
theorem dX12_rounds_93 : decode cX12_rounds 93 = .ok (.aload_n 0, 1) := by decide +kernel
theorem dX12_rounds_94 : decode cX12_rounds 94 = .ok (.iload_n 1, 1) := by decide +kernel
theorem dX12_rounds_95 : decode cX12_rounds 95 = .ok (.bipush 10, 2) := by decide +kernel
theorem dX12_rounds_97 : decode cX12_rounds 97 = .ok (.aload_n 0, 1) := by decide +kernel
theorem dX12_rounds_98 : decode cX12_rounds 98 = .ok (.iload_n 1, 1) := by decide +kernel
theorem dX12_rounds_99 : decode cX12_rounds 99 = .ok (.bipush 10, 2) := by decide +kernel
theorem dX12_rounds_101 : decode cX12_rounds 101 = .ok (.invokevirtual 99, 3) := by decide +kernel
theorem dX12_rounds_104 : decode cX12_rounds 104 = .ok (.iload_n 3, 1) := by decide +kernel
theorem dX12_rounds_105 : decode cX12_rounds 105 = .ok (.ifCond .ge 8, 3) := by decide +kernel
theorem dX12_rounds_108 : decode cX12_rounds 108 = .ok (.iload_n 3, 1) := by decide +kernel
theorem dX12_rounds_109 : decode cX12_rounds 109 = .ok (.ineg, 1) := by decide +kernel
theorem dX12_rounds_110 : decode cX12_rounds 110 = .ok (.goto 4, 3) := by decide +kernel
theorem dX12_rounds_113 : decode cX12_rounds 113 = .ok (.iload_n 3, 1) := by decide +kernel
theorem dX12_rounds_114 : decode cX12_rounds 114 = .ok (.iadd, 1) := by decide +kernel
theorem dX12_rounds_115 : decode cX12_rounds 115 = .ok (.aload_n 0, 1) := by decide +kernel
theorem dX12_rounds_116 : decode cX12_rounds 116 = .ok (.iload_n 1, 1) := by decide +kernel
theorem dX12_rounds_117 : decode cX12_rounds 117 = .ok (.bipush 10, 2) := by decide +kernel
theorem dX12_rounds_119 : decode cX12_rounds 119 = .ok (.invokevirtual 99, 3) := by decide +kernel
theorem dX12_rounds_122 : decode cX12_rounds 122 = .ok (.iconst 4, 1) := by decide +kernel
theorem dX12_rounds_123 : decode cX12_rounds 123 = .ok (.idiv, 1) := by decide +kernel
theorem dX12_rounds_124 : decode cX12_rounds 124 = .ok (.isub, 1) := by decide +kernel
theorem dX12_rounds_125 : decode cX12_rounds 125 = .ok (.invokevirtual 95, 3) := by decide +kernel
theorem dX12_rounds_128 : decode cX12_rounds 128 = .ok (.aload_n 0, 1) := by decide +kernel
theorem dX12_rounds_129 : decode cX12_rounds 129 = .ok (.iload_n 1, 1) := by decide +kernel
theorem dX12_rounds_130 : decode cX12_rounds 130 = .ok (.bipush 8, 2) := by decide +kernel
theorem dX12_rounds_132 : decode cX12_rounds 132 = .ok (.bipush 64, 2) := by decide +kernel
theorem dX12_rounds_134 : decode cX12_rounds 134 = .ok (.iconst 2, 1) := by decide +kernel
theorem dX12_rounds_135 : decode cX12_rounds 135 = .ok (.aload_n 0, 1) := by decide +kernel
theorem dX12_rounds_136 : decode cX12_rounds 136 = .ok (.iload_n 1, 1) := by decide +kernel
theorem dX12_rounds_137 : decode cX12_rounds 137 = .ok (.bipush 9, 2) := by decide +kernel
theorem dX12_rounds_139 : decode cX12_rounds 139 = .ok (.invokevirtual 99, 3) := by decide +kernel
theorem dX12_rounds_142 : decode cX12_rounds 142 = .ok (.bipush 8, 2) := by decide +kernel
theorem dX12_rounds_144 : decode cX12_rounds 144 = .ok (.idiv, 1) := by decide +kernel
theorem dX12_rounds_145 : decode cX12_rounds 145 = .ok (.aload_n 0, 1) := by decide +kernel
theorem dX12_rounds_146 : decode cX12_rounds 146 = .ok (.iload_n 1, 1) := by decide +kernel
theorem dX12_rounds_147 : decode cX12_rounds 147 = .ok (.bipush 10, 2) := by decide +kernel
theorem dX12_rounds_149 : decode cX12_rounds 149 = .ok (.invokevirtual 99, 3) := by decide +kernel
theorem dX12_rounds_152 : decode cX12_rounds 152 = .ok (.iadd, 1) := by decide +kernel
theorem dX12_rounds_153 : decode cX12_rounds 153 = .ok (.invokestatic 103, 3) := by decide +kernel
theorem dX12_rounds_156 : decode cX12_rounds 156 = .ok (.invokestatic 146, 3) := by decide +kernel
theorem dX12_rounds_159 : decode cX12_rounds 159 = .ok (.invokevirtual 95, 3) := by decide +kernel
theorem dX12_rounds_162 : decode cX12_rounds 162 = .ok (.iconst 5, 1) := by decide +kernel
theorem dX12_rounds_163 : decode cX12_rounds 163 = .ok (.istore_n 3, 1) := by decide +kernel
theorem dX12_rounds_164 : decode cX12_rounds 164 = .ok (.iload_n 3, 1) := by decide +kernel
theorem dX12_rounds_165 : decode cX12_rounds 165 = .ok (.ifCond .le 29, 3) := by decide +kernel
theorem dX12_rounds_168 : decode cX12_rounds 168 = .ok (.aload_n 0, 1) := by decide +kernel
theorem dX12_rounds_169 : decode cX12_rounds 169 = .ok (.iload_n 1, 1) := by decide +kernel
theorem dX12_rounds_170 : decode cX12_rounds 170 = .ok (.bipush 20, 2) := by decide +kernel
theorem dX12_rounds_172 : decode cX12_rounds 172 = .ok (.iload_n 3, 1) := by decide +kernel
theorem dX12_rounds_173 : decode cX12_rounds 173 = .ok (.iadd, 1) := by decide +kernel
theorem dX12_rounds_174 : decode cX12_rounds 174 = .ok (.aload_n 0, 1) := by decide +kernel
theorem dX12_rounds_175 : decode cX12_rounds 175 = .ok (.iload_n 1, 1) := by decide +kernel
theorem dX12_rounds_176 : decode cX12_rounds 176 = .ok (.bipush 20, 2) := by decide +kernel
theorem dX12_rounds_178 : decode cX12_rounds 178 = .ok (.iload_n 3, 1) := by decide +kernel
theorem dX12_rounds_179 : decode cX12_rounds 179 = .ok (.iadd, 1) := by decide +kernel
theorem dX12_rounds_180 : decode cX12_rounds 180 = .ok (.iconst 1, 1) := by decide +kernel
theorem dX12_rounds_181 : decode cX12_rounds 181 = .ok (.isub, 1) := by decide +kernel
theorem dX12_rounds_182 : decode cX12_rounds 182 = .ok (.invokevirtual 99, 3) := by decide +kernel
theorem dX12_rounds_185 : decode cX12_rounds 185 = .ok (.invokevirtual 95, 3) := by decide +kernel
theorem dX12_rounds_188 : decode cX12_rounds 188 = .ok (.iinc 3 (-1), 3) := by decide +kernel
theorem dX12_rounds_191 : decode cX12_rounds 191 = .ok (.goto (-27), 3) := by decide +kernel
theorem dX12_rounds_194 : decode cX12_rounds 194 = .ok (.aload_n 0, 1) := by decide +kernel
theorem dX12_rounds_195 : decode cX12_rounds 195 = .ok (.iload_n 1, 1) := by decide +kernel
theorem dX12_rounds_196 : decode cX12_rounds 196 = .ok (.bipush 20, 2) := by decide +kernel
theorem dX12_rounds_198 : decode cX12_rounds 198 = .ok (.iload_n 2, 1) := by decide +kernel
theorem dX12_rounds_199 : decode cX12_rounds 199 = .ok (.invokevirtual 95, 3) := by decide +kernel
theorem dX12_rounds_202 : decode cX12_rounds 202 = .ok (.aload_n 0, 1) := by decide +kernel
theorem dX12_rounds_203 : decode cX12_rounds 203 = .ok (.iload_n 1, 1) := by decide +kernel
theorem dX12_rounds_204 : decode cX12_rounds 204 = .ok (.bipush 19, 2) := by decide +kernel
theorem dX12_rounds_206 : decode cX12_rounds 206 = .ok (.aload_n 0, 1) := by decide +kernel
theorem dX12_rounds_207 : decode cX12_rounds 207 = .ok (.iload_n 1, 1) := by decide +kernel
theorem dX12_rounds_208 : decode cX12_rounds 208 = .ok (.bipush 19, 2) := by decide +kernel
theorem dX12_rounds_210 : decode cX12_rounds 210 = .ok (.invokevirtual 99, 3) := by decide +kernel
theorem dX12_rounds_213 : decode cX12_rounds 213 = .ok (.iconst 1, 1) := by decide +kernel
theorem dX12_rounds_214 : decode cX12_rounds 214 = .ok (.iadd, 1) := by decide +kernel
theorem dX12_rounds_215 : decode cX12_rounds 215 = .ok (.invokevirtual 95, 3) := by decide +kernel
theorem dX12_rounds_218 : decode cX12_rounds 218 = .ok (.return_, 1) := by decide +kernel
theorem dX12_hears_0 : decode cX12_hears 0 = .ok (.iload_n 2, 1) := by decide +kernel
theorem dX12_hears_1 : decode cX12_hears 1 = .ok (.aload_n 0, 1) := by decide +kernel
theorem dX12_hears_2 : decode cX12_hears 2 = .ok (.iload_n 1, 1) := by decide +kernel
theorem dX12_hears_3 : decode cX12_hears 3 = .ok (.iconst 1, 1) := by decide +kernel
theorem dX12_hears_4 : decode cX12_hears 4 = .ok (.invokevirtual 99, 3) := by decide +kernel
theorem dX12_hears_7 : decode cX12_hears 7 = .ok (.if_icmp .le 46, 3) := by decide +kernel
theorem dX12_hears_10 : decode cX12_hears 10 = .ok (.aload_n 0, 1) := by decide +kernel
theorem dX12_hears_11 : decode cX12_hears 11 = .ok (.iload_n 1, 1) := by decide +kernel
theorem dX12_hears_12 : decode cX12_hears 12 = .ok (.iconst 1, 1) := by decide +kernel
theorem dX12_hears_13 : decode cX12_hears 13 = .ok (.iload_n 2, 1) := by decide +kernel
theorem dX12_hears_14 : decode cX12_hears 14 = .ok (.invokevirtual 95, 3) := by decide +kernel
theorem dX12_hears_17 : decode cX12_hears 17 = .ok (.aload_n 0, 1) := by decide +kernel
theorem dX12_hears_18 : decode cX12_hears 18 = .ok (.iload_n 1, 1) := by decide +kernel
theorem dX12_hears_19 : decode cX12_hears 19 = .ok (.bipush 11, 2) := by decide +kernel
theorem dX12_hears_21 : decode cX12_hears 21 = .ok (.iconst 0, 1) := by decide +kernel
theorem dX12_hears_22 : decode cX12_hears 22 = .ok (.invokevirtual 95, 3) := by decide +kernel
theorem dX12_hears_25 : decode cX12_hears 25 = .ok (.aload_n 0, 1) := by decide +kernel
theorem dX12_hears_26 : decode cX12_hears 26 = .ok (.iload_n 1, 1) := by decide +kernel
theorem dX12_hears_27 : decode cX12_hears 27 = .ok (.bipush 16, 2) := by decide +kernel
theorem dX12_hears_29 : decode cX12_hears 29 = .ok (.invokevirtual 99, 3) := by decide +kernel
theorem dX12_hears_32 : decode cX12_hears 32 = .ok (.bipush (-4), 2) := by decide +kernel
theorem dX12_hears_34 : decode cX12_hears 34 = .ok (.if_icmp .eq 19, 3) := by decide +kernel
theorem dX12_hears_37 : decode cX12_hears 37 = .ok (.iload_n 2, 1) := by decide +kernel
theorem dX12_hears_38 : decode cX12_hears 38 = .ok (.aload_n 0, 1) := by decide +kernel
theorem dX12_hears_39 : decode cX12_hears 39 = .ok (.iload_n 1, 1) := by decide +kernel
theorem dX12_hears_40 : decode cX12_hears 40 = .ok (.bipush 16, 2) := by decide +kernel
theorem dX12_hears_42 : decode cX12_hears 42 = .ok (.invokevirtual 99, 3) := by decide +kernel
theorem dX12_hears_45 : decode cX12_hears 45 = .ok (.if_icmp .le 8, 3) := by decide +kernel
theorem dX12_hears_48 : decode cX12_hears 48 = .ok (.aload_n 0, 1) := by decide +kernel
theorem dX12_hears_49 : decode cX12_hears 49 = .ok (.iload_n 1, 1) := by decide +kernel
theorem dX12_hears_50 : decode cX12_hears 50 = .ok (.invokevirtual 215, 3) := by decide +kernel
theorem dX12_hears_53 : decode cX12_hears 53 = .ok (.iconst 0, 1) := by decide +kernel
theorem dX12_hears_54 : decode cX12_hears 54 = .ok (.istore_n 3, 1) := by decide +kernel
theorem dX12_hears_55 : decode cX12_hears 55 = .ok (.iload_n 3, 1) := by decide +kernel
theorem dX12_hears_56 : decode cX12_hears 56 = .ok (.aload_n 0, 1) := by decide +kernel
theorem dX12_hears_57 : decode cX12_hears 57 = .ok (.getfield 19, 3) := by decide +kernel
theorem dX12_hears_60 : decode cX12_hears 60 = .ok (.bipush 6, 2) := by decide +kernel
theorem dX12_hears_62 : decode cX12_hears 62 = .ok (.iaload, 1) := by decide +kernel
theorem dX12_hears_63 : decode cX12_hears 63 = .ok (.if_icmp .ge 111, 3) := by decide +kernel
theorem dX12_hears_66 : decode cX12_hears 66 = .ok (.aload_n 0, 1) := by decide +kernel
theorem dX12_hears_67 : decode cX12_hears 67 = .ok (.iload_n 1, 1) := by decide +kernel
theorem dX12_hears_68 : decode cX12_hears 68 = .ok (.aload_n 0, 1) := by decide +kernel
theorem dX12_hears_69 : decode cX12_hears 69 = .ok (.getfield 19, 3) := by decide +kernel
theorem dX12_hears_72 : decode cX12_hears 72 = .ok (.bipush 8, 2) := by decide +kernel
theorem dX12_hears_74 : decode cX12_hears 74 = .ok (.iconst 2, 1) := by decide +kernel
theorem dX12_hears_75 : decode cX12_hears 75 = .ok (.iload_n 3, 1) := by decide +kernel
theorem dX12_hears_76 : decode cX12_hears 76 = .ok (.imul, 1) := by decide +kernel
theorem dX12_hears_77 : decode cX12_hears 77 = .ok (.iadd, 1) := by decide +kernel
theorem dX12_hears_78 : decode cX12_hears 78 = .ok (.iaload, 1) := by decide +kernel
theorem dX12_hears_79 : decode cX12_hears 79 = .ok (.aload_n 0, 1) := by decide +kernel
theorem dX12_hears_80 : decode cX12_hears 80 = .ok (.iload_n 1, 1) := by decide +kernel
theorem dX12_hears_81 : decode cX12_hears 81 = .ok (.iconst 1, 1) := by decide +kernel
theorem dX12_hears_82 : decode cX12_hears 82 = .ok (.invokevirtual 99, 3) := by decide +kernel
theorem dX12_hears_85 : decode cX12_hears 85 = .ok (.invokevirtual 208, 3) := by decide +kernel
theorem dX12_hears_88 : decode cX12_hears 88 = .ok (.istore 4, 2) := by decide +kernel
theorem dX12_hears_90 : decode cX12_hears 90 = .ok (.aload_n 0, 1) := by decide +kernel
theorem dX12_hears_91 : decode cX12_hears 91 = .ok (.iload_n 1, 1) := by decide +kernel
theorem dX12_hears_92 : decode cX12_hears 92 = .ok (.aload_n 0, 1) := by decide +kernel
theorem dX12_hears_93 : decode cX12_hears 93 = .ok (.getfield 19, 3) := by decide +kernel
theorem dX12_hears_96 : decode cX12_hears 96 = .ok (.bipush 8, 2) := by decide +kernel
theorem dX12_hears_98 : decode cX12_hears 98 = .ok (.iconst 2, 1) := by decide +kernel
theorem dX12_hears_99 : decode cX12_hears 99 = .ok (.iload_n 3, 1) := by decide +kernel
theorem dX12_hears_100 : decode cX12_hears 100 = .ok (.imul, 1) := by decide +kernel
theorem dX12_hears_101 : decode cX12_hears 101 = .ok (.iadd, 1) := by decide +kernel
theorem dX12_hears_102 : decode cX12_hears 102 = .ok (.iconst 1, 1) := by decide +kernel
theorem dX12_hears_103 : decode cX12_hears 103 = .ok (.iadd, 1) := by decide +kernel
theorem dX12_hears_104 : decode cX12_hears 104 = .ok (.iaload, 1) := by decide +kernel
theorem dX12_hears_105 : decode cX12_hears 105 = .ok (.aload_n 0, 1) := by decide +kernel
theorem dX12_hears_106 : decode cX12_hears 106 = .ok (.iload_n 1, 1) := by decide +kernel
theorem dX12_hears_107 : decode cX12_hears 107 = .ok (.iconst 1, 1) := by decide +kernel
theorem dX12_hears_108 : decode cX12_hears 108 = .ok (.invokevirtual 99, 3) := by decide +kernel
theorem dX12_hears_111 : decode cX12_hears 111 = .ok (.invokevirtual 208, 3) := by decide +kernel
theorem dX12_hears_114 : decode cX12_hears 114 = .ok (.istore 5, 2) := by decide +kernel
theorem dX12_hears_116 : decode cX12_hears 116 = .ok (.iload 4, 2) := by decide +kernel
theorem dX12_hears_118 : decode cX12_hears 118 = .ok (.aload_n 0, 1) := by decide +kernel
theorem dX12_hears_119 : decode cX12_hears 119 = .ok (.iload_n 1, 1) := by decide +kernel
theorem dX12_hears_120 : decode cX12_hears 120 = .ok (.iconst 1, 1) := by decide +kernel
theorem dX12_hears_121 : decode cX12_hears 121 = .ok (.invokevirtual 99, 3) := by decide +kernel
theorem dX12_hears_124 : decode cX12_hears 124 = .ok (.invokestatic 103, 3) := by decide +kernel
theorem dX12_hears_127 : decode cX12_hears 127 = .ok (.istore 6, 2) := by decide +kernel
theorem dX12_hears_129 : decode cX12_hears 129 = .ok (.iload 6, 2) := by decide +kernel
