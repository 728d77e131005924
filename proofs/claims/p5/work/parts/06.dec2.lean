/-! decode rows (printed) -/
theorem dX6_receiveOpen_60 : decode cX6_receiveOpen 60 = .ok (.bipush 10, 2) := by decide +kernel
theorem dX6_receiveOpen_62 : decode cX6_receiveOpen 62 = .ok (.putfield 9, 3) := by decide +kernel
theorem dX6_receiveOpen_65 : decode cX6_receiveOpen 65 = .ok (.return_, 1) := by decide +kernel
theorem dX6_receiveOpen_66 : decode cX6_receiveOpen 66 = .ok (.aload_n 0, 1) := by decide +kernel
theorem dX6_receiveOpen_67 : decode cX6_receiveOpen 67 = .ok (.aload_n 1, 1) := by decide +kernel
theorem dX6_receiveOpen_68 : decode cX6_receiveOpen 68 = .ok (.getfield 64, 3) := by decide +kernel
theorem dX6_receiveOpen_71 : decode cX6_receiveOpen 71 = .ok (.invokevirtual 67, 3) := by decide +kernel
theorem dX6_receiveOpen_74 : decode cX6_receiveOpen 74 = .ok (.istore_n 3, 1) := by decide +kernel
theorem dX6_receiveOpen_75 : decode cX6_receiveOpen 75 = .ok (.aload_n 0, 1) := by decide +kernel
theorem dX6_receiveOpen_76 : decode cX6_receiveOpen 76 = .ok (.getfield 18, 3) := by decide +kernel
theorem dX6_receiveOpen_79 : decode cX6_receiveOpen 79 = .ok (.getfield 22, 3) := by decide +kernel
theorem dX6_receiveOpen_82 : decode cX6_receiveOpen 82 = .ok (.iconst 3, 1) := by decide +kernel
theorem dX6_receiveOpen_83 : decode cX6_receiveOpen 83 = .ok (.if_icmp .ne 7, 3) := by decide +kernel
theorem dX6_receiveOpen_86 : decode cX6_receiveOpen 86 = .ok (.iconst 1, 1) := by decide +kernel
theorem dX6_receiveOpen_87 : decode cX6_receiveOpen 87 = .ok (.goto 4, 3) := by decide +kernel
theorem dX6_receiveOpen_90 : decode cX6_receiveOpen 90 = .ok (.iconst 0, 1) := by decide +kernel
theorem dX6_receiveOpen_91 : decode cX6_receiveOpen 91 = .ok (.istore 4, 2) := by decide +kernel
theorem dX6_receiveOpen_93 : decode cX6_receiveOpen 93 = .ok (.iload 4, 2) := by decide +kernel
theorem dX6_receiveOpen_95 : decode cX6_receiveOpen 95 = .ok (.ifCond .eq 8, 3) := by decide +kernel
theorem dX6_receiveOpen_98 : decode cX6_receiveOpen 98 = .ok (.iload_n 3, 1) := by decide +kernel
theorem dX6_receiveOpen_99 : decode cX6_receiveOpen 99 = .ok (.iconst 1, 1) := by decide +kernel
theorem dX6_receiveOpen_100 : decode cX6_receiveOpen 100 = .ok (.if_icmp .lt 17, 3) := by decide +kernel
theorem dX6_receiveOpen_103 : decode cX6_receiveOpen 103 = .ok (.iload_n 3, 1) := by decide +kernel
theorem dX6_receiveOpen_104 : decode cX6_receiveOpen 104 = .ok (.aload_n 0, 1) := by decide +kernel
theorem dX6_receiveOpen_105 : decode cX6_receiveOpen 105 = .ok (.getfield 18, 3) := by decide +kernel
theorem dX6_receiveOpen_108 : decode cX6_receiveOpen 108 = .ok (.getfield 104, 3) := by decide +kernel
theorem dX6_receiveOpen_111 : decode cX6_receiveOpen 111 = .ok (.getfield 108, 3) := by decide +kernel
theorem dX6_receiveOpen_114 : decode cX6_receiveOpen 114 = .ok (.if_icmp .le 32, 3) := by decide +kernel
theorem dX6_receiveOpen_117 : decode cX6_receiveOpen 117 = .ok (.aload_n 0, 1) := by decide +kernel
theorem dX6_receiveOpen_118 : decode cX6_receiveOpen 118 = .ok (.iconst 5, 1) := by decide +kernel
theorem dX6_receiveOpen_119 : decode cX6_receiveOpen 119 = .ok (.putfield 9, 3) := by decide +kernel
theorem dX6_receiveOpen_122 : decode cX6_receiveOpen 122 = .ok (.iload 4, 2) := by decide +kernel
theorem dX6_receiveOpen_124 : decode cX6_receiveOpen 124 = .ok (.ifCond .eq 14, 3) := by decide +kernel
theorem dX6_receiveOpen_127 : decode cX6_receiveOpen 127 = .ok (.aload_n 0, 1) := by decide +kernel
theorem dX6_receiveOpen_128 : decode cX6_receiveOpen 128 = .ok (.getfield 18, 3) := by decide +kernel
theorem dX6_receiveOpen_131 : decode cX6_receiveOpen 131 = .ok (.aload_n 1, 1) := by decide +kernel
theorem dX6_receiveOpen_132 : decode cX6_receiveOpen 132 = .ok (.invokevirtual 49, 3) := by decide +kernel
theorem dX6_receiveOpen_135 : decode cX6_receiveOpen 135 = .ok (.goto 10, 3) := by decide +kernel
theorem dX6_receiveOpen_138 : decode cX6_receiveOpen 138 = .ok (.aload_n 0, 1) := by decide +kernel
theorem dX6_receiveOpen_139 : decode cX6_receiveOpen 139 = .ok (.getfield 18, 3) := by decide +kernel
theorem dX6_receiveOpen_142 : decode cX6_receiveOpen 142 = .ok (.invokevirtual 78, 3) := by decide +kernel
theorem dX6_receiveOpen_145 : decode cX6_receiveOpen 145 = .ok (.return_, 1) := by decide +kernel
theorem dX6_receiveOpen_146 : decode cX6_receiveOpen 146 = .ok (.iload 4, 2) := by decide +kernel
theorem dX6_receiveOpen_148 : decode cX6_receiveOpen 148 = .ok (.ifCond .eq 11, 3) := by decide +kernel
theorem dX6_receiveOpen_151 : decode cX6_receiveOpen 151 = .ok (.aload_n 0, 1) := by decide +kernel
theorem dX6_receiveOpen_152 : decode cX6_receiveOpen 152 = .ok (.getfield 18, 3) := by decide +kernel
theorem dX6_receiveOpen_155 : decode cX6_receiveOpen 155 = .ok (.iconst 4, 1) := by decide +kernel
theorem dX6_receiveOpen_156 : decode cX6_receiveOpen 156 = .ok (.putfield 22, 3) := by decide +kernel
theorem dX6_receiveOpen_159 : decode cX6_receiveOpen 159 = .ok (.aload_n 0, 1) := by decide +kernel
theorem dX6_receiveOpen_160 : decode cX6_receiveOpen 160 = .ok (.aload_n 1, 1) := by decide +kernel
theorem dX6_receiveOpen_161 : decode cX6_receiveOpen 161 = .ok (.iload_n 3, 1) := by decide +kernel
theorem dX6_receiveOpen_162 : decode cX6_receiveOpen 162 = .ok (.invokevirtual 74, 3) := by decide +kernel
theorem dX6_receiveOpen_165 : decode cX6_receiveOpen 165 = .ok (.aload_n 0, 1) := by decide +kernel
theorem dX6_receiveOpen_166 : decode cX6_receiveOpen 166 = .ok (.aload_n 1, 1) := by decide +kernel
theorem dX6_receiveOpen_167 : decode cX6_receiveOpen 167 = .ok (.iload_n 2, 1) := by decide +kernel
theorem dX6_receiveOpen_168 : decode cX6_receiveOpen 168 = .ok (.invokevirtual 113, 3) := by decide +kernel
theorem dX6_receiveOpen_171 : decode cX6_receiveOpen 171 = .ok (.aload_n 0, 1) := by decide +kernel
theorem dX6_receiveOpen_172 : decode cX6_receiveOpen 172 = .ok (.getfield 18, 3) := by decide +kernel
theorem dX6_receiveOpen_175 : decode cX6_receiveOpen 175 = .ok (.getfield 22, 3) := by decide +kernel
theorem dX6_receiveOpen_178 : decode cX6_receiveOpen 178 = .ok (.ifCond .ne 4, 3) := by decide +kernel
theorem dX6_receiveOpen_181 : decode cX6_receiveOpen 181 = .ok (.return_, 1) := by decide +kernel
theorem dX6_receiveOpen_182 : decode cX6_receiveOpen 182 = .ok (.aload_n 1, 1) := by decide +kernel
theorem dX6_receiveOpen_183 : decode cX6_receiveOpen 183 = .ok (.invokevirtual 93, 3) := by decide +kernel
theorem dX6_receiveOpen_186 : decode cX6_receiveOpen 186 = .ok (.ifCond .eq 10, 3) := by decide +kernel
theorem dX6_receiveOpen_189 : decode cX6_receiveOpen 189 = .ok (.aload_n 0, 1) := by decide +kernel
theorem dX6_receiveOpen_190 : decode cX6_receiveOpen 190 = .ok (.getfield 18, 3) := by decide +kernel
theorem dX6_receiveOpen_193 : decode cX6_receiveOpen 193 = .ok (.invokevirtual 78, 3) := by decide +kernel
theorem dX6_receiveOpen_196 : decode cX6_receiveOpen 196 = .ok (.aload_n 0, 1) := by decide +kernel
theorem dX6_receiveOpen_197 : decode cX6_receiveOpen 197 = .ok (.getfield 18, 3) := by decide +kernel
theorem dX6_receiveOpen_200 : decode cX6_receiveOpen 200 = .ok (.invokevirtual 81, 3) := by decide +kernel
theorem dX6_receiveOpen_203 : decode cX6_receiveOpen 203 = .ok (.return_, 1) := by decide +kernel
theorem dX6_refuse_0 : decode cX6_refuse 0 = .ok (.aload_n 0, 1) := by decide +kernel
theorem dX6_refuse_1 : decode cX6_refuse 1 = .ok (.bipush 6, 2) := by decide +kernel
theorem dX6_refuse_3 : decode cX6_refuse 3 = .ok (.putfield 9, 3) := by decide +kernel
theorem dX6_refuse_6 : decode cX6_refuse 6 = .ok (.aload_n 0, 1) := by decide +kernel
theorem dX6_refuse_7 : decode cX6_refuse 7 = .ok (.getfield 18, 3) := by decide +kernel
theorem dX6_refuse_10 : decode cX6_refuse 10 = .ok (.getfield 52, 3) := by decide +kernel
theorem dX6_refuse_13 : decode cX6_refuse 13 = .ok (.invokevirtual 116, 3) := by decide +kernel
theorem dX6_refuse_16 : decode cX6_refuse 16 = .ok (.ifCond .ne 12, 3) := by decide +kernel
theorem dX6_refuse_19 : decode cX6_refuse 19 = .ok (.aload_n 0, 1) := by decide +kernel
theorem dX6_refuse_20 : decode cX6_refuse 20 = .ok (.bipush 7, 2) := by decide +kernel
theorem dX6_refuse_22 : decode cX6_refuse 22 = .ok (.putfield 15, 3) := by decide +kernel
theorem dX6_refuse_25 : decode cX6_refuse 25 = .ok (.goto 32, 3) := by decide +kernel
theorem dX6_refuse_28 : decode cX6_refuse 28 = .ok (.iload_n 2, 1) := by decide +kernel
theorem dX6_refuse_29 : decode cX6_refuse 29 = .ok (.aload_n 0, 1) := by decide +kernel
theorem dX6_refuse_30 : decode cX6_refuse 30 = .ok (.getfield 18, 3) := by decide +kernel
theorem dX6_refuse_33 : decode cX6_refuse 33 = .ok (.getfield 52, 3) := by decide +kernel
theorem dX6_refuse_36 : decode cX6_refuse 36 = .ok (.getfield 119, 3) := by decide +kernel
theorem dX6_refuse_39 : decode cX6_refuse 39 = .ok (.if_icmp .lt 12, 3) := by decide +kernel
theorem dX6_refuse_42 : decode cX6_refuse 42 = .ok (.aload_n 0, 1) := by decide +kernel
theorem dX6_refuse_43 : decode cX6_refuse 43 = .ok (.bipush 8, 2) := by decide +kernel
theorem dX6_refuse_45 : decode cX6_refuse 45 = .ok (.putfield 15, 3) := by decide +kernel
theorem dX6_refuse_48 : decode cX6_refuse 48 = .ok (.goto 9, 3) := by decide +kernel
theorem dX6_refuse_51 : decode cX6_refuse 51 = .ok (.aload_n 0, 1) := by decide +kernel
theorem dX6_refuse_52 : decode cX6_refuse 52 = .ok (.bipush 9, 2) := by decide +kernel
theorem dX6_refuse_54 : decode cX6_refuse 54 = .ok (.putfield 15, 3) := by decide +kernel
theorem dX6_refuse_57 : decode cX6_refuse 57 = .ok (.aload_n 1, 1) := by decide +kernel
theorem dX6_refuse_58 : decode cX6_refuse 58 = .ok (.bipush 8, 2) := by decide +kernel
theorem dX6_refuse_60 : decode cX6_refuse 60 = .ok (.invokevirtual 43, 3) := by decide +kernel
theorem dX6_refuse_63 : decode cX6_refuse 63 = .ok (.ifCond .ne 10, 3) := by decide +kernel
theorem dX6_refuse_66 : decode cX6_refuse 66 = .ok (.aload_n 0, 1) := by decide +kernel
theorem dX6_refuse_67 : decode cX6_refuse 67 = .ok (.getfield 18, 3) := by decide +kernel
theorem dX6_refuse_70 : decode cX6_refuse 70 = .ok (.invokevirtual 78, 3) := by decide +kernel
theorem dX6_refuse_73 : decode cX6_refuse 73 = .ok (.aload_n 0, 1) := by decide +kernel
theorem dX6_refuse_74 : decode cX6_refuse 74 = .ok (.getfield 18, 3) := by decide +kernel
theorem dX6_refuse_77 : decode cX6_refuse 77 = .ok (.getfield 22, 3) := by decide +kernel
theorem dX6_refuse_80 : decode cX6_refuse 80 = .ok (.bipush 10, 2) := by decide +kernel
theorem dX6_refuse_82 : decode cX6_refuse 82 = .ok (.if_icmp .ne 10, 3) := by decide +kernel
theorem dX6_refuse_85 : decode cX6_refuse 85 = .ok (.aload_n 0, 1) := by decide +kernel
theorem dX6_refuse_86 : decode cX6_refuse 86 = .ok (.getfield 18, 3) := by decide +kernel
theorem dX6_refuse_89 : decode cX6_refuse 89 = .ok (.invokevirtual 122, 3) := by decide +kernel
theorem dX6_refuse_92 : decode cX6_refuse 92 = .ok (.return_, 1) := by decide +kernel
theorem dX6_accept_0 : decode cX6_accept 0 = .ok (.aload_n 0, 1) := by decide +kernel
theorem dX6_accept_1 : decode cX6_accept 1 = .ok (.getfield 18, 3) := by decide +kernel
theorem dX6_accept_4 : decode cX6_accept 4 = .ok (.getfield 104, 3) := by decide +kernel
theorem dX6_accept_7 : decode cX6_accept 7 = .ok (.invokevirtual 125, 3) := by decide +kernel
theorem dX6_accept_10 : decode cX6_accept 10 = .ok (.ifCond .eq 68, 3) := by decide +kernel
theorem dX6_accept_13 : decode cX6_accept 13 = .ok (.aload_n 0, 1) := by decide +kernel
theorem dX6_accept_14 : decode cX6_accept 14 = .ok (.getfield 18, 3) := by decide +kernel
theorem dX6_accept_17 : decode cX6_accept 17 = .ok (.getfield 22, 3) := by decide +kernel
theorem dX6_accept_20 : decode cX6_accept 20 = .ok (.iconst 5, 1) := by decide +kernel
theorem dX6_accept_21 : decode cX6_accept 21 = .ok (.if_icmp .ne 15, 3) := by decide +kernel
theorem dX6_accept_24 : decode cX6_accept 24 = .ok (.aload_n 0, 1) := by decide +kernel
theorem dX6_accept_25 : decode cX6_accept 25 = .ok (.getfield 18, 3) := by decide +kernel
theorem dX6_accept_28 : decode cX6_accept 28 = .ok (.bipush 6, 2) := by decide +kernel
theorem dX6_accept_30 : decode cX6_accept 30 = .ok (.putfield 22, 3) := by decide +kernel
theorem dX6_accept_33 : decode cX6_accept 33 = .ok (.goto 45, 3) := by decide +kernel
theorem dX6_accept_36 : decode cX6_accept 36 = .ok (.aload_n 0, 1) := by decide +kernel
theorem dX6_accept_37 : decode cX6_accept 37 = .ok (.getfield 18, 3) := by decide +kernel
theorem dX6_accept_40 : decode cX6_accept 40 = .ok (.getfield 22, 3) := by decide +kernel
theorem dX6_accept_43 : decode cX6_accept 43 = .ok (.bipush 8, 2) := by decide +kernel
theorem dX6_accept_45 : decode cX6_accept 45 = .ok (.if_icmp .ne 13, 3) := by decide +kernel
theorem dX6_accept_48 : decode cX6_accept 48 = .ok (.aload_n 0, 1) := by decide +kernel
theorem dX6_accept_49 : decode cX6_accept 49 = .ok (.getfield 18, 3) := by decide +kernel
theorem dX6_accept_52 : decode cX6_accept 52 = .ok (.invokevirtual 122, 3) := by decide +kernel
theorem dX6_accept_55 : decode cX6_accept 55 = .ok (.goto 23, 3) := by decide +kernel
theorem dX6_accept_58 : decode cX6_accept 58 = .ok (.aload_n 0, 1) := by decide +kernel
theorem dX6_accept_59 : decode cX6_accept 59 = .ok (.getfield 18, 3) := by decide +kernel
theorem dX6_accept_62 : decode cX6_accept 62 = .ok (.getfield 22, 3) := by decide +kernel
theorem dX6_accept_65 : decode cX6_accept 65 = .ok (.bipush 9, 2) := by decide +kernel
theorem dX6_accept_67 : decode cX6_accept 67 = .ok (.if_icmp .ne 11, 3) := by decide +kernel
theorem dX6_accept_70 : decode cX6_accept 70 = .ok (.aload_n 0, 1) := by decide +kernel
theorem dX6_accept_71 : decode cX6_accept 71 = .ok (.getfield 18, 3) := by decide +kernel
theorem dX6_accept_74 : decode cX6_accept 74 = .ok (.invokevirtual 71, 3) := by decide +kernel
theorem dX6_accept_77 : decode cX6_accept 77 = .ok (.return_, 1) := by decide +kernel
theorem dX6_accept_78 : decode cX6_accept 78 = .ok (.aload_n 1, 1) := by decide +kernel
theorem dX6_accept_79 : decode cX6_accept 79 = .ok (.getfield 129, 3) := by decide +kernel
theorem dX6_accept_82 : decode cX6_accept 82 = .ok (.bipush (-4), 2) := by decide +kernel
theorem dX6_accept_84 : decode cX6_accept 84 = .ok (.if_icmp .eq 34, 3) := by decide +kernel
theorem dX6_accept_87 : decode cX6_accept 87 = .ok (.aload_n 0, 1) := by decide +kernel
theorem dX6_accept_88 : decode cX6_accept 88 = .ok (.getfield 18, 3) := by decide +kernel
theorem dX6_accept_91 : decode cX6_accept 91 = .ok (.getfield 52, 3) := by decide +kernel
theorem dX6_accept_94 : decode cX6_accept 94 = .ok (.aload_n 0, 1) := by decide +kernel
theorem dX6_accept_95 : decode cX6_accept 95 = .ok (.getfield 18, 3) := by decide +kernel
theorem dX6_accept_98 : decode cX6_accept 98 = .ok (.getfield 52, 3) := by decide +kernel
theorem dX6_accept_101 : decode cX6_accept 101 = .ok (.getfield 132, 3) := by decide +kernel
theorem dX6_accept_104 : decode cX6_accept 104 = .ok (.aload_n 0, 1) := by decide +kernel
theorem dX6_accept_105 : decode cX6_accept 105 = .ok (.aload_n 1, 1) := by decide +kernel
theorem dX6_accept_106 : decode cX6_accept 106 = .ok (.getfield 129, 3) := by decide +kernel
theorem dX6_accept_109 : decode cX6_accept 109 = .ok (.invokevirtual 90, 3) := by decide +kernel
theorem dX6_accept_112 : decode cX6_accept 112 = .ok (.invokestatic 135, 3) := by decide +kernel
theorem dX6_accept_115 : decode cX6_accept 115 = .ok (.putfield 132, 3) := by decide +kernel
theorem dX6_accept_118 : decode cX6_accept 118 = .ok (.aload_n 0, 1) := by decide +kernel
theorem dX6_accept_119 : decode cX6_accept 119 = .ok (.getfield 18, 3) := by decide +kernel
theorem dX6_accept_122 : decode cX6_accept 122 = .ok (.invokevirtual 141, 3) := by decide +kernel
theorem dX6_accept_125 : decode cX6_accept 125 = .ok (.ifCond .eq 9, 3) := by decide +kernel
theorem dX6_accept_128 : decode cX6_accept 128 = .ok (.aload_n 0, 1) := by decide +kernel
theorem dX6_accept_129 : decode cX6_accept 129 = .ok (.aload_n 1, 1) := by decide +kernel
theorem dX6_accept_130 : decode cX6_accept 130 = .ok (.iload_n 2, 1) := by decide +kernel
theorem dX6_accept_131 : decode cX6_accept 131 = .ok (.invokevirtual 144, 3) := by decide +kernel
theorem dX6_accept_134 : decode cX6_accept 134 = .ok (.return_, 1) := by decide +kernel
theorem dX6_acknowledge_0 : decode cX6_acknowledge 0 = .ok (.aload_n 0, 1) := by decide +kernel
theorem dX6_acknowledge_1 : decode cX6_acknowledge 1 = .ok (.getfield 18, 3) := by decide +kernel
theorem dX6_acknowledge_4 : decode cX6_acknowledge 4 = .ok (.getfield 104, 3) := by decide +kernel
theorem dX6_acknowledge_7 : decode cX6_acknowledge 7 = .ok (.astore_n 3, 1) := by decide +kernel
theorem dX6_acknowledge_8 : decode cX6_acknowledge 8 = .ok (.iload_n 2, 1) := by decide +kernel
theorem dX6_acknowledge_9 : decode cX6_acknowledge 9 = .ok (.aload_n 3, 1) := by decide +kernel
theorem dX6_acknowledge_10 : decode cX6_acknowledge 10 = .ok (.getfield 147, 3) := by decide +kernel
theorem dX6_acknowledge_13 : decode cX6_acknowledge 13 = .ok (.if_icmp .le 37, 3) := by decide +kernel
theorem dX6_acknowledge_16 : decode cX6_acknowledge 16 = .ok (.aload_n 3, 1) := by decide +kernel
theorem dX6_acknowledge_17 : decode cX6_acknowledge 17 = .ok (.iload_n 2, 1) := by decide +kernel
theorem dX6_acknowledge_18 : decode cX6_acknowledge 18 = .ok (.invokevirtual 150, 3) := by decide +kernel
theorem dX6_acknowledge_21 : decode cX6_acknowledge 21 = .ok (.aload_n 0, 1) := by decide +kernel
theorem dX6_acknowledge_22 : decode cX6_acknowledge 22 = .ok (.getfield 18, 3) := by decide +kernel
theorem dX6_acknowledge_25 : decode cX6_acknowledge 25 = .ok (.iconst 0, 1) := by decide +kernel
theorem dX6_acknowledge_26 : decode cX6_acknowledge 26 = .ok (.putfield 153, 3) := by decide +kernel
theorem dX6_acknowledge_29 : decode cX6_acknowledge 29 = .ok (.aload_n 0, 1) := by decide +kernel
theorem dX6_acknowledge_30 : decode cX6_acknowledge 30 = .ok (.getfield 18, 3) := by decide +kernel
theorem dX6_acknowledge_33 : decode cX6_acknowledge 33 = .ok (.getfield 156, 3) := by decide +kernel
theorem dX6_acknowledge_36 : decode cX6_acknowledge 36 = .ok (.iload_n 2, 1) := by decide +kernel
theorem dX6_acknowledge_37 : decode cX6_acknowledge 37 = .ok (.aload_n 0, 1) := by decide +kernel
theorem dX6_acknowledge_38 : decode cX6_acknowledge 38 = .ok (.getfield 18, 3) := by decide +kernel
theorem dX6_acknowledge_41 : decode cX6_acknowledge 41 = .ok (.getfield 160, 3) := by decide +kernel
theorem dX6_acknowledge_44 : decode cX6_acknowledge 44 = .ok (.getfield 164, 3) := by decide +kernel
theorem dX6_acknowledge_47 : decode cX6_acknowledge 47 = .ok (.invokevirtual 169, 3) := by decide +kernel
theorem dX6_acknowledge_50 : decode cX6_acknowledge 50 = .ok (.iconst 0, 1) := by decide +kernel
theorem dX6_acknowledge_51 : decode cX6_acknowledge 51 = .ok (.istore 4, 2) := by decide +kernel
theorem dX6_acknowledge_53 : decode cX6_acknowledge 53 = .ok (.iload 4, 2) := by decide +kernel
theorem dX6_acknowledge_55 : decode cX6_acknowledge 55 = .ok (.aload_n 1, 1) := by decide +kernel
theorem dX6_acknowledge_56 : decode cX6_acknowledge 56 = .ok (.getfield 174, 3) := by decide +kernel
theorem dX6_acknowledge_59 : decode cX6_acknowledge 59 = .ok (.if_icmp .ge 47, 3) := by decide +kernel
theorem dX6_acknowledge_62 : decode cX6_acknowledge 62 = .ok (.iload 4, 2) := by decide +kernel
theorem dX6_acknowledge_64 : decode cX6_acknowledge 64 = .ok (.iconst 2, 1) := by decide +kernel
theorem dX6_acknowledge_65 : decode cX6_acknowledge 65 = .ok (.if_icmp .ge 41, 3) := by decide +kernel
theorem dX6_acknowledge_68 : decode cX6_acknowledge 68 = .ok (.aload_n 3, 1) := by decide +kernel
theorem dX6_acknowledge_69 : decode cX6_acknowledge 69 = .ok (.aload_n 0, 1) := by decide +kernel
theorem dX6_acknowledge_70 : decode cX6_acknowledge 70 = .ok (.aload_n 1, 1) := by decide +kernel
theorem dX6_acknowledge_71 : decode cX6_acknowledge 71 = .ok (.getfield 177, 3) := by decide +kernel
theorem dX6_acknowledge_74 : decode cX6_acknowledge 74 = .ok (.iconst 2, 1) := by decide +kernel
theorem dX6_acknowledge_75 : decode cX6_acknowledge 75 = .ok (.iload 4, 2) := by decide +kernel
theorem dX6_acknowledge_77 : decode cX6_acknowledge 77 = .ok (.imul, 1) := by decide +kernel
theorem dX6_acknowledge_78 : decode cX6_acknowledge 78 = .ok (.iaload, 1) := by decide +kernel
theorem dX6_acknowledge_79 : decode cX6_acknowledge 79 = .ok (.invokevirtual 67, 3) := by decide +kernel
theorem dX6_acknowledge_82 : decode cX6_acknowledge 82 = .ok (.aload_n 0, 1) := by decide +kernel
theorem dX6_acknowledge_83 : decode cX6_acknowledge 83 = .ok (.aload_n 1, 1) := by decide +kernel
theorem dX6_acknowledge_84 : decode cX6_acknowledge 84 = .ok (.getfield 177, 3) := by decide +kernel
theorem dX6_acknowledge_87 : decode cX6_acknowledge 87 = .ok (.iconst 2, 1) := by decide +kernel
theorem dX6_acknowledge_88 : decode cX6_acknowledge 88 = .ok (.iload 4, 2) := by decide +kernel
theorem dX6_acknowledge_90 : decode cX6_acknowledge 90 = .ok (.imul, 1) := by decide +kernel
theorem dX6_acknowledge_91 : decode cX6_acknowledge 91 = .ok (.iconst 1, 1) := by decide +kernel
theorem dX6_acknowledge_92 : decode cX6_acknowledge 92 = .ok (.iadd, 1) := by decide +kernel
theorem dX6_acknowledge_93 : decode cX6_acknowledge 93 = .ok (.iaload, 1) := by decide +kernel
theorem dX6_acknowledge_94 : decode cX6_acknowledge 94 = .ok (.invokevirtual 67, 3) := by decide +kernel
theorem dX6_acknowledge_97 : decode cX6_acknowledge 97 = .ok (.invokevirtual 181, 3) := by decide +kernel
theorem dX6_acknowledge_100 : decode cX6_acknowledge 100 = .ok (.iinc 4 1, 3) := by decide +kernel
theorem dX6_acknowledge_103 : decode cX6_acknowledge 103 = .ok (.goto (-50), 3) := by decide +kernel
theorem dX6_acknowledge_106 : decode cX6_acknowledge 106 = .ok (.aload_n 3, 1) := by decide +kernel
theorem dX6_acknowledge_107 : decode cX6_acknowledge 107 = .ok (.aload_n 3, 1) := by decide +kernel
theorem dX6_acknowledge_108 : decode cX6_acknowledge 108 = .ok (.getfield 184, 3) := by decide +kernel
theorem dX6_acknowledge_111 : decode cX6_acknowledge 111 = .ok (.iload_n 2, 1) := by decide +kernel
theorem dX6_acknowledge_112 : decode cX6_acknowledge 112 = .ok (.aload_n 1, 1) := by decide +kernel
theorem dX6_acknowledge_113 : decode cX6_acknowledge 113 = .ok (.getfield 187, 3) := by decide +kernel
theorem dX6_acknowledge_116 : decode cX6_acknowledge 116 = .ok (.iadd, 1) := by decide +kernel
theorem dX6_acknowledge_117 : decode cX6_acknowledge 117 = .ok (.invokestatic 135, 3) := by decide +kernel
theorem dX6_acknowledge_120 : decode cX6_acknowledge 120 = .ok (.putfield 184, 3) := by decide +kernel
theorem dX6_acknowledge_123 : decode cX6_acknowledge 123 = .ok (.return_, 1) := by decide +kernel
theorem dX6_keepBytes_0 : decode cX6_keepBytes 0 = .ok (.aload_n 0, 1) := by decide +kernel
theorem dX6_keepBytes_1 : decode cX6_keepBytes 1 = .ok (.getfield 18, 3) := by decide +kernel
theorem dX6_keepBytes_4 : decode cX6_keepBytes 4 = .ok (.getfield 52, 3) := by decide +kernel
theorem dX6_keepBytes_7 : decode cX6_keepBytes 7 = .ok (.astore_n 3, 1) := by decide +kernel
theorem dX6_keepBytes_8 : decode cX6_keepBytes 8 = .ok (.iconst 0, 1) := by decide +kernel
theorem dX6_keepBytes_9 : decode cX6_keepBytes 9 = .ok (.istore 4, 2) := by decide +kernel
theorem dX6_keepBytes_11 : decode cX6_keepBytes 11 = .ok (.iload 4, 2) := by decide +kernel
theorem dX6_keepBytes_13 : decode cX6_keepBytes 13 = .ok (.aload_n 1, 1) := by decide +kernel
theorem dX6_keepBytes_14 : decode cX6_keepBytes 14 = .ok (.getfield 189, 3) := by decide +kernel
theorem dX6_keepBytes_17 : decode cX6_keepBytes 17 = .ok (.if_icmp .ge 23, 3) := by decide +kernel
theorem dX6_keepBytes_20 : decode cX6_keepBytes 20 = .ok (.aload_n 3, 1) := by decide +kernel
theorem dX6_keepBytes_21 : decode cX6_keepBytes 21 = .ok (.iload_n 2, 1) := by decide +kernel
theorem dX6_keepBytes_22 : decode cX6_keepBytes 22 = .ok (.iload 4, 2) := by decide +kernel
theorem dX6_keepBytes_24 : decode cX6_keepBytes 24 = .ok (.iadd, 1) := by decide +kernel
theorem dX6_keepBytes_25 : decode cX6_keepBytes 25 = .ok (.aload_n 1, 1) := by decide +kernel
theorem dX6_keepBytes_26 : decode cX6_keepBytes 26 = .ok (.iload 4, 2) := by decide +kernel
theorem dX6_keepBytes_28 : decode cX6_keepBytes 28 = .ok (.invokevirtual 192, 3) := by decide +kernel
theorem dX6_keepBytes_31 : decode cX6_keepBytes 31 = .ok (.invokevirtual 195, 3) := by decide +kernel
theorem dX6_keepBytes_34 : decode cX6_keepBytes 34 = .ok (.iinc 4 1, 3) := by decide +kernel
theorem dX6_keepBytes_37 : decode cX6_keepBytes 37 = .ok (.goto (-26), 3) := by decide +kernel
theorem dX6_keepBytes_40 : decode cX6_keepBytes 40 = .ok (.iload_n 2, 1) := by decide +kernel
theorem dX6_keepBytes_41 : decode cX6_keepBytes 41 = .ok (.aload_n 1, 1) := by decide +kernel
theorem dX6_keepBytes_42 : decode cX6_keepBytes 42 = .ok (.getfield 189, 3) := by decide +kernel
theorem dX6_keepBytes_45 : decode cX6_keepBytes 45 = .ok (.iadd, 1) := by decide +kernel
theorem dX6_keepBytes_46 : decode cX6_keepBytes 46 = .ok (.istore 4, 2) := by decide +kernel
theorem dX6_keepBytes_48 : decode cX6_keepBytes 48 = .ok (.aload_n 1, 1) := by decide +kernel
theorem dX6_keepBytes_49 : decode cX6_keepBytes 49 = .ok (.iconst 2, 1) := by decide +kernel
theorem dX6_keepBytes_50 : decode cX6_keepBytes 50 = .ok (.invokevirtual 43, 3) := by decide +kernel
theorem dX6_keepBytes_53 : decode cX6_keepBytes 53 = .ok (.ifCond .eq 27, 3) := by decide +kernel
theorem dX6_keepBytes_56 : decode cX6_keepBytes 56 = .ok (.aload_n 3, 1) := by decide +kernel
theorem dX6_keepBytes_57 : decode cX6_keepBytes 57 = .ok (.iload 4, 2) := by decide +kernel
theorem dX6_keepBytes_59 : decode cX6_keepBytes 59 = .ok (.invokevirtual 198, 3) := by decide +kernel
theorem dX6_keepBytes_62 : decode cX6_keepBytes 62 = .ok (.ifCond .eq 18, 3) := by decide +kernel
theorem dX6_keepBytes_65 : decode cX6_keepBytes 65 = .ok (.aload_n 3, 1) := by decide +kernel
theorem dX6_keepBytes_66 : decode cX6_keepBytes 66 = .ok (.getfield 201, 3) := by decide +kernel
theorem dX6_keepBytes_69 : decode cX6_keepBytes 69 = .ok (.bipush (-4), 2) := by decide +kernel
theorem dX6_keepBytes_71 : decode cX6_keepBytes 71 = .ok (.if_icmp .ne 9, 3) := by decide +kernel
theorem dX6_keepBytes_74 : decode cX6_keepBytes 74 = .ok (.aload_n 3, 1) := by decide +kernel
theorem dX6_keepBytes_75 : decode cX6_keepBytes 75 = .ok (.iload 4, 2) := by decide +kernel
theorem dX6_keepBytes_77 : decode cX6_keepBytes 77 = .ok (.putfield 201, 3) := by decide +kernel
theorem dX6_keepBytes_80 : decode cX6_keepBytes 80 = .ok (.aload_n 3, 1) := by decide +kernel
theorem dX6_keepBytes_81 : decode cX6_keepBytes 81 = .ok (.invokevirtual 204, 3) := by decide +kernel
theorem dX6_keepBytes_84 : decode cX6_keepBytes 84 = .ok (.aload_n 3, 1) := by decide +kernel
theorem dX6_keepBytes_85 : decode cX6_keepBytes 85 = .ok (.getfield 56, 3) := by decide +kernel
theorem dX6_keepBytes_88 : decode cX6_keepBytes 88 = .ok (.aload_n 3, 1) := by decide +kernel
theorem dX6_keepBytes_89 : decode cX6_keepBytes 89 = .ok (.getfield 201, 3) := by decide +kernel
theorem dX6_keepBytes_92 : decode cX6_keepBytes 92 = .ok (.if_icmp .ne 66, 3) := by decide +kernel
theorem dX6_keepBytes_95 : decode cX6_keepBytes 95 = .ok (.aload_n 3, 1) := by decide +kernel
theorem dX6_keepBytes_96 : decode cX6_keepBytes 96 = .ok (.dup, 1) := by decide +kernel
theorem dX6_keepBytes_97 : decode cX6_keepBytes 97 = .ok (.getfield 56, 3) := by decide +kernel
theorem dX6_keepBytes_100 : decode cX6_keepBytes 100 = .ok (.iconst 1, 1) := by decide +kernel
theorem dX6_keepBytes_101 : decode cX6_keepBytes 101 = .ok (.iadd, 1) := by decide +kernel
theorem dX6_keepBytes_102 : decode cX6_keepBytes 102 = .ok (.putfield 56, 3) := by decide +kernel
theorem dX6_keepBytes_105 : decode cX6_keepBytes 105 = .ok (.aload_n 0, 1) := by decide +kernel
theorem dX6_keepBytes_106 : decode cX6_keepBytes 106 = .ok (.getfield 18, 3) := by decide +kernel
theorem dX6_keepBytes_109 : decode cX6_keepBytes 109 = .ok (.getfield 22, 3) := by decide +kernel
theorem dX6_keepBytes_112 : decode cX6_keepBytes 112 = .ok (.iconst 4, 1) := by decide +kernel
theorem dX6_keepBytes_113 : decode cX6_keepBytes 113 = .ok (.if_icmp .ne 15, 3) := by decide +kernel
theorem dX6_keepBytes_116 : decode cX6_keepBytes 116 = .ok (.aload_n 0, 1) := by decide +kernel
theorem dX6_keepBytes_117 : decode cX6_keepBytes 117 = .ok (.getfield 18, 3) := by decide +kernel
theorem dX6_keepBytes_120 : decode cX6_keepBytes 120 = .ok (.bipush 7, 2) := by decide +kernel
theorem dX6_keepBytes_122 : decode cX6_keepBytes 122 = .ok (.putfield 22, 3) := by decide +kernel
theorem dX6_keepBytes_125 : decode cX6_keepBytes 125 = .ok (.goto 33, 3) := by decide +kernel
theorem dX6_keepBytes_128 : decode cX6_keepBytes 128 = .ok (.aload_n 0, 1) := by decide +kernel
theorem dX6_keepBytes_129 : decode cX6_keepBytes 129 = .ok (.getfield 18, 3) := by decide +kernel
theorem dX6_keepBytes_132 : decode cX6_keepBytes 132 = .ok (.getfield 22, 3) := by decide +kernel
theorem dX6_keepBytes_135 : decode cX6_keepBytes 135 = .ok (.iconst 5, 1) := by decide +kernel
theorem dX6_keepBytes_136 : decode cX6_keepBytes 136 = .ok (.if_icmp .ne 15, 3) := by decide +kernel
theorem dX6_keepBytes_139 : decode cX6_keepBytes 139 = .ok (.aload_n 0, 1) := by decide +kernel
theorem dX6_keepBytes_140 : decode cX6_keepBytes 140 = .ok (.getfield 18, 3) := by decide +kernel
theorem dX6_keepBytes_143 : decode cX6_keepBytes 143 = .ok (.bipush 8, 2) := by decide +kernel
theorem dX6_keepBytes_145 : decode cX6_keepBytes 145 = .ok (.putfield 22, 3) := by decide +kernel
theorem dX6_keepBytes_148 : decode cX6_keepBytes 148 = .ok (.goto 10, 3) := by decide +kernel
theorem dX6_keepBytes_151 : decode cX6_keepBytes 151 = .ok (.aload_n 0, 1) := by decide +kernel
theorem dX6_keepBytes_152 : decode cX6_keepBytes 152 = .ok (.getfield 18, 3) := by decide +kernel
theorem dX6_keepBytes_155 : decode cX6_keepBytes 155 = .ok (.invokevirtual 122, 3) := by decide +kernel
theorem dX6_keepBytes_158 : decode cX6_keepBytes 158 = .ok (.return_, 1) := by decide +kernel
theorem dX6_ownPlace_0 : decode cX6_ownPlace 0 = .ok (.aload_n 0, 1) := by decide +kernel
theorem dX6_ownPlace_1 : decode cX6_ownPlace 1 = .ok (.getfield 18, 3) := by decide +kernel
theorem dX6_ownPlace_4 : decode cX6_ownPlace 4 = .ok (.getfield 207, 3) := by decide +kernel
theorem dX6_ownPlace_7 : decode cX6_ownPlace 7 = .ok (.aload_n 0, 1) := by decide +kernel
theorem dX6_ownPlace_8 : decode cX6_ownPlace 8 = .ok (.getfield 18, 3) := by decide +kernel
theorem dX6_ownPlace_11 : decode cX6_ownPlace 11 = .ok (.getfield 211, 3) := by decide +kernel
theorem dX6_ownPlace_14 : decode cX6_ownPlace 14 = .ok (.iload_n 1, 1) := by decide +kernel
theorem dX6_ownPlace_15 : decode cX6_ownPlace 15 = .ok (.aload_n 0, 1) := by decide +kernel
theorem dX6_ownPlace_16 : decode cX6_ownPlace 16 = .ok (.getfield 18, 3) := by decide +kernel
theorem dX6_ownPlace_19 : decode cX6_ownPlace 19 = .ok (.getfield 104, 3) := by decide +kernel
theorem dX6_ownPlace_22 : decode cX6_ownPlace 22 = .ok (.getfield 147, 3) := by decide +kernel
theorem dX6_ownPlace_25 : decode cX6_ownPlace 25 = .ok (.invokevirtual 214, 3) := by decide +kernel
theorem dX6_ownPlace_28 : decode cX6_ownPlace 28 = .ok (.ireturn, 1) := by decide +kernel
theorem dX6_peerPlace_0 : decode cX6_peerPlace 0 = .ok (.aload_n 0, 1) := by decide +kernel
theorem dX6_peerPlace_1 : decode cX6_peerPlace 1 = .ok (.getfield 18, 3) := by decide +kernel
theorem dX6_peerPlace_4 : decode cX6_peerPlace 4 = .ok (.getfield 207, 3) := by decide +kernel
theorem dX6_peerPlace_7 : decode cX6_peerPlace 7 = .ok (.iconst 1, 1) := by decide +kernel
theorem dX6_peerPlace_8 : decode cX6_peerPlace 8 = .ok (.aload_n 0, 1) := by decide +kernel
theorem dX6_peerPlace_9 : decode cX6_peerPlace 9 = .ok (.getfield 18, 3) := by decide +kernel
theorem dX6_peerPlace_12 : decode cX6_peerPlace 12 = .ok (.getfield 211, 3) := by decide +kernel
theorem dX6_peerPlace_15 : decode cX6_peerPlace 15 = .ok (.isub, 1) := by decide +kernel
theorem dX6_peerPlace_16 : decode cX6_peerPlace 16 = .ok (.iload_n 1, 1) := by decide +kernel
theorem dX6_peerPlace_17 : decode cX6_peerPlace 17 = .ok (.aload_n 0, 1) := by decide +kernel
theorem dX6_peerPlace_18 : decode cX6_peerPlace 18 = .ok (.getfield 18, 3) := by decide +kernel
theorem dX6_peerPlace_21 : decode cX6_peerPlace 21 = .ok (.getfield 52, 3) := by decide +kernel
theorem dX6_peerPlace_24 : decode cX6_peerPlace 24 = .ok (.getfield 56, 3) := by decide +kernel
theorem dX6_peerPlace_27 : decode cX6_peerPlace 27 = .ok (.invokevirtual 214, 3) := by decide +kernel
theorem dX6_peerPlace_30 : decode cX6_peerPlace 30 = .ok (.ireturn, 1) := by decide +kernel
theorem dX7_init_0 : decode cX7_init 0 = .ok (.aload_n 0, 1) := by decide +kernel
theorem dX7_init_1 : decode cX7_init 1 = .ok (.invokespecial 3, 3) := by decide +kernel
theorem dX7_init_4 : decode cX7_init 4 = .ok (.aload_n 0, 1) := by decide +kernel
theorem dX7_init_5 : decode cX7_init 5 = .ok (.bipush 6, 2) := by decide +kernel
theorem dX7_init_7 : decode cX7_init 7 = .ok (.newarray .int, 2) := by decide +kernel
theorem dX7_init_9 : decode cX7_init 9 = .ok (.putfield 9, 3) := by decide +kernel
theorem dX7_init_12 : decode cX7_init 12 = .ok (.return_, 1) := by decide +kernel
theorem dX7_start_0 : decode cX7_start 0 = .ok (.aload_n 0, 1) := by decide +kernel
theorem dX7_start_1 : decode cX7_start 1 = .ok (.bipush 6, 2) := by decide +kernel
theorem dX7_start_3 : decode cX7_start 3 = .ok (.putfield 15, 3) := by decide +kernel
theorem dX7_start_6 : decode cX7_start 6 = .ok (.aload_n 0, 1) := by decide +kernel
theorem dX7_start_7 : decode cX7_start 7 = .ok (.iconst 0, 1) := by decide +kernel
theorem dX7_start_8 : decode cX7_start 8 = .ok (.putfield 19, 3) := by decide +kernel
theorem dX7_start_11 : decode cX7_start 11 = .ok (.aload_n 0, 1) := by decide +kernel
theorem dX7_start_12 : decode cX7_start 12 = .ok (.iconst 0, 1) := by decide +kernel
theorem dX7_start_13 : decode cX7_start 13 = .ok (.putfield 22, 3) := by decide +kernel
theorem dX7_start_16 : decode cX7_start 16 = .ok (.aload_n 0, 1) := by decide +kernel
theorem dX7_start_17 : decode cX7_start 17 = .ok (.bipush (-4), 2) := by decide +kernel
theorem dX7_start_19 : decode cX7_start 19 = .ok (.putfield 25, 3) := by decide +kernel
theorem dX7_start_22 : decode cX7_start 22 = .ok (.aload_n 0, 1) := by decide +kernel
theorem dX7_start_23 : decode cX7_start 23 = .ok (.iconst 0, 1) := by decide +kernel
theorem dX7_start_24 : decode cX7_start 24 = .ok (.putfield 28, 3) := by decide +kernel
theorem dX7_start_27 : decode cX7_start 27 = .ok (.aload_n 0, 1) := by decide +kernel
theorem dX7_start_28 : decode cX7_start 28 = .ok (.iconst 0, 1) := by decide +kernel
theorem dX7_start_29 : decode cX7_start 29 = .ok (.putfield 31, 3) := by decide +kernel
theorem dX7_start_32 : decode cX7_start 32 = .ok (.return_, 1) := by decide +kernel
theorem dX7_copyFrom_0 : decode cX7_copyFrom 0 = .ok (.aload_n 0, 1) := by decide +kernel
theorem dX7_copyFrom_1 : decode cX7_copyFrom 1 = .ok (.aload_n 1, 1) := by decide +kernel
theorem dX7_copyFrom_2 : decode cX7_copyFrom 2 = .ok (.getfield 15, 3) := by decide +kernel
theorem dX7_copyFrom_5 : decode cX7_copyFrom 5 = .ok (.putfield 15, 3) := by decide +kernel
theorem dX7_copyFrom_8 : decode cX7_copyFrom 8 = .ok (.aload_n 0, 1) := by decide +kernel
theorem dX7_copyFrom_9 : decode cX7_copyFrom 9 = .ok (.aload_n 1, 1) := by decide +kernel
theorem dX7_copyFrom_10 : decode cX7_copyFrom 10 = .ok (.getfield 19, 3) := by decide +kernel
theorem dX7_copyFrom_13 : decode cX7_copyFrom 13 = .ok (.putfield 19, 3) := by decide +kernel
theorem dX7_copyFrom_16 : decode cX7_copyFrom 16 = .ok (.aload_n 0, 1) := by decide +kernel
theorem dX7_copyFrom_17 : decode cX7_copyFrom 17 = .ok (.aload_n 1, 1) := by decide +kernel
theorem dX7_copyFrom_18 : decode cX7_copyFrom 18 = .ok (.getfield 22, 3) := by decide +kernel
theorem dX7_copyFrom_21 : decode cX7_copyFrom 21 = .ok (.putfield 22, 3) := by decide +kernel
theorem dX7_copyFrom_24 : decode cX7_copyFrom 24 = .ok (.aload_n 0, 1) := by decide +kernel
theorem dX7_copyFrom_25 : decode cX7_copyFrom 25 = .ok (.aload_n 1, 1) := by decide +kernel
theorem dX7_copyFrom_26 : decode cX7_copyFrom 26 = .ok (.getfield 25, 3) := by decide +kernel
theorem dX7_copyFrom_29 : decode cX7_copyFrom 29 = .ok (.putfield 25, 3) := by decide +kernel
theorem dX7_copyFrom_32 : decode cX7_copyFrom 32 = .ok (.aload_n 0, 1) := by decide +kernel
theorem dX7_copyFrom_33 : decode cX7_copyFrom 33 = .ok (.aload_n 1, 1) := by decide +kernel
theorem dX7_copyFrom_34 : decode cX7_copyFrom 34 = .ok (.getfield 28, 3) := by decide +kernel
theorem dX7_copyFrom_37 : decode cX7_copyFrom 37 = .ok (.putfield 28, 3) := by decide +kernel
theorem dX7_copyFrom_40 : decode cX7_copyFrom 40 = .ok (.aload_n 0, 1) := by decide +kernel
theorem dX7_copyFrom_41 : decode cX7_copyFrom 41 = .ok (.aload_n 1, 1) := by decide +kernel
theorem dX7_copyFrom_42 : decode cX7_copyFrom 42 = .ok (.getfield 31, 3) := by decide +kernel
theorem dX7_copyFrom_45 : decode cX7_copyFrom 45 = .ok (.putfield 31, 3) := by decide +kernel
theorem dX7_copyFrom_48 : decode cX7_copyFrom 48 = .ok (.aload_n 1, 1) := by decide +kernel
theorem dX7_copyFrom_49 : decode cX7_copyFrom 49 = .ok (.getfield 9, 3) := by decide +kernel
theorem dX7_copyFrom_52 : decode cX7_copyFrom 52 = .ok (.iconst 0, 1) := by decide +kernel
theorem dX7_copyFrom_53 : decode cX7_copyFrom 53 = .ok (.aload_n 0, 1) := by decide +kernel
theorem dX7_copyFrom_54 : decode cX7_copyFrom 54 = .ok (.getfield 9, 3) := by decide +kernel
theorem dX7_copyFrom_57 : decode cX7_copyFrom 57 = .ok (.iconst 0, 1) := by decide +kernel
theorem dX7_copyFrom_58 : decode cX7_copyFrom 58 = .ok (.bipush 6, 2) := by decide +kernel
theorem dX7_copyFrom_60 : decode cX7_copyFrom 60 = .ok (.invokestatic 34, 3) := by decide +kernel
theorem dX7_copyFrom_63 : decode cX7_copyFrom 63 = .ok (.return_, 1) := by decide +kernel
theorem dX7_startTiming_0 : decode cX7_startTiming 0 = .ok (.aload_n 0, 1) := by decide +kernel
theorem dX7_startTiming_1 : decode cX7_startTiming 1 = .ok (.getfield 25, 3) := by decide +kernel
theorem dX7_startTiming_4 : decode cX7_startTiming 4 = .ok (.bipush (-4), 2) := by decide +kernel
theorem dX7_startTiming_6 : decode cX7_startTiming 6 = .ok (.if_icmp .ne 13, 3) := by decide +kernel
theorem dX7_startTiming_9 : decode cX7_startTiming 9 = .ok (.aload_n 0, 1) := by decide +kernel
theorem dX7_startTiming_10 : decode cX7_startTiming 10 = .ok (.iload_n 1, 1) := by decide +kernel
theorem dX7_startTiming_11 : decode cX7_startTiming 11 = .ok (.putfield 25, 3) := by decide +kernel
theorem dX7_startTiming_14 : decode cX7_startTiming 14 = .ok (.aload_n 0, 1) := by decide +kernel
theorem dX7_startTiming_15 : decode cX7_startTiming 15 = .ok (.iload_n 2, 1) := by decide +kernel
theorem dX7_startTiming_16 : decode cX7_startTiming 16 = .ok (.putfield 28, 3) := by decide +kernel
theorem dX7_startTiming_19 : decode cX7_startTiming 19 = .ok (.return_, 1) := by decide +kernel
theorem dX7_acknowledge_0 : decode cX7_acknowledge 0 = .ok (.aload_n 0, 1) := by decide +kernel
theorem dX7_acknowledge_1 : decode cX7_acknowledge 1 = .ok (.getfield 25, 3) := by decide +kernel
theorem dX7_acknowledge_4 : decode cX7_acknowledge 4 = .ok (.bipush (-4), 2) := by decide +kernel
theorem dX7_acknowledge_6 : decode cX7_acknowledge 6 = .ok (.if_icmp .eq 31, 3) := by decide +kernel
theorem dX7_acknowledge_9 : decode cX7_acknowledge 9 = .ok (.iload_n 1, 1) := by decide +kernel
theorem dX7_acknowledge_10 : decode cX7_acknowledge 10 = .ok (.aload_n 0, 1) := by decide +kernel
theorem dX7_acknowledge_11 : decode cX7_acknowledge 11 = .ok (.getfield 25, 3) := by decide +kernel
theorem dX7_acknowledge_14 : decode cX7_acknowledge 14 = .ok (.if_icmp .le 23, 3) := by decide +kernel
theorem dX7_acknowledge_17 : decode cX7_acknowledge 17 = .ok (.aload_n 0, 1) := by decide +kernel
theorem dX7_acknowledge_18 : decode cX7_acknowledge 18 = .ok (.iconst 1, 1) := by decide +kernel
theorem dX7_acknowledge_19 : decode cX7_acknowledge 19 = .ok (.iload_n 2, 1) := by decide +kernel
theorem dX7_acknowledge_20 : decode cX7_acknowledge 20 = .ok (.aload_n 0, 1) := by decide +kernel
theorem dX7_acknowledge_21 : decode cX7_acknowledge 21 = .ok (.getfield 28, 3) := by decide +kernel
theorem dX7_acknowledge_24 : decode cX7_acknowledge 24 = .ok (.isub, 1) := by decide +kernel
theorem dX7_acknowledge_25 : decode cX7_acknowledge 25 = .ok (.invokestatic 40, 3) := by decide +kernel
theorem dX7_acknowledge_28 : decode cX7_acknowledge 28 = .ok (.invokevirtual 46, 3) := by decide +kernel
theorem dX7_acknowledge_31 : decode cX7_acknowledge 31 = .ok (.aload_n 0, 1) := by decide +kernel
theorem dX7_acknowledge_32 : decode cX7_acknowledge 32 = .ok (.bipush (-4), 2) := by decide +kernel
theorem dX7_acknowledge_34 : decode cX7_acknowledge 34 = .ok (.putfield 25, 3) := by decide +kernel
theorem dX7_acknowledge_37 : decode cX7_acknowledge 37 = .ok (.return_, 1) := by decide +kernel
theorem dX7_measure_0 : decode cX7_measure 0 = .ok (.aload_n 0, 1) := by decide +kernel
theorem dX7_measure_1 : decode cX7_measure 1 = .ok (.getfield 31, 3) := by decide +kernel
theorem dX7_measure_4 : decode cX7_measure 4 = .ok (.ifCond .ne 21, 3) := by decide +kernel
theorem dX7_measure_7 : decode cX7_measure 7 = .ok (.aload_n 0, 1) := by decide +kernel
theorem dX7_measure_8 : decode cX7_measure 8 = .ok (.bipush 8, 2) := by decide +kernel
theorem dX7_measure_10 : decode cX7_measure 10 = .ok (.iload_n 1, 1) := by decide +kernel
theorem dX7_measure_11 : decode cX7_measure 11 = .ok (.imul, 1) := by decide +kernel
theorem dX7_measure_12 : decode cX7_measure 12 = .ok (.putfield 19, 3) := by decide +kernel
theorem dX7_measure_15 : decode cX7_measure 15 = .ok (.aload_n 0, 1) := by decide +kernel
theorem dX7_measure_16 : decode cX7_measure 16 = .ok (.iconst 2, 1) := by decide +kernel
theorem dX7_measure_17 : decode cX7_measure 17 = .ok (.iload_n 1, 1) := by decide +kernel
theorem dX7_measure_18 : decode cX7_measure 18 = .ok (.imul, 1) := by decide +kernel
theorem dX7_measure_19 : decode cX7_measure 19 = .ok (.putfield 22, 3) := by decide +kernel
theorem dX7_measure_22 : decode cX7_measure 22 = .ok (.goto 43, 3) := by decide +kernel
theorem dX7_measure_25 : decode cX7_measure 25 = .ok (.iload_n 1, 1) := by decide +kernel
theorem dX7_measure_26 : decode cX7_measure 26 = .ok (.aload_n 0, 1) := by decide +kernel
theorem dX7_measure_27 : decode cX7_measure 27 = .ok (.getfield 19, 3) := by decide +kernel
theorem dX7_measure_30 : decode cX7_measure 30 = .ok (.bipush 8, 2) := by decide +kernel
theorem dX7_measure_32 : decode cX7_measure 32 = .ok (.idiv, 1) := by decide +kernel
theorem dX7_measure_33 : decode cX7_measure 33 = .ok (.isub, 1) := by decide +kernel
theorem dX7_measure_34 : decode cX7_measure 34 = .ok (.istore_n 2, 1) := by decide +kernel
theorem dX7_measure_35 : decode cX7_measure 35 = .ok (.aload_n 0, 1) := by decide +kernel
theorem dX7_measure_36 : decode cX7_measure 36 = .ok (.dup, 1) := by decide +kernel
theorem dX7_measure_37 : decode cX7_measure 37 = .ok (.getfield 19, 3) := by decide +kernel
theorem dX7_measure_40 : decode cX7_measure 40 = .ok (.iload_n 2, 1) := by decide +kernel
theorem dX7_measure_41 : decode cX7_measure 41 = .ok (.iadd, 1) := by decide +kernel
theorem dX7_measure_42 : decode cX7_measure 42 = .ok (.putfield 19, 3) := by decide +kernel
theorem dX7_measure_45 : decode cX7_measure 45 = .ok (.aload_n 0, 1) := by decide +kernel
theorem dX7_measure_46 : decode cX7_measure 46 = .ok (.dup, 1) := by decide +kernel
theorem dX7_measure_47 : decode cX7_measure 47 = .ok (.getfield 22, 3) := by decide +kernel
theorem dX7_measure_50 : decode cX7_measure 50 = .ok (.iload_n 2, 1) := by decide +kernel
theorem dX7_measure_51 : decode cX7_measure 51 = .ok (.invokestatic 50, 3) := by decide +kernel
theorem dX7_measure_54 : decode cX7_measure 54 = .ok (.aload_n 0, 1) := by decide +kernel
theorem dX7_measure_55 : decode cX7_measure 55 = .ok (.getfield 22, 3) := by decide +kernel
theorem dX7_measure_58 : decode cX7_measure 58 = .ok (.iconst 4, 1) := by decide +kernel
theorem dX7_measure_59 : decode cX7_measure 59 = .ok (.idiv, 1) := by decide +kernel
theorem dX7_measure_60 : decode cX7_measure 60 = .ok (.isub, 1) := by decide +kernel
theorem dX7_measure_61 : decode cX7_measure 61 = .ok (.iadd, 1) := by decide +kernel
theorem dX7_measure_62 : decode cX7_measure 62 = .ok (.putfield 22, 3) := by decide +kernel
theorem dX7_measure_65 : decode cX7_measure 65 = .ok (.aload_n 0, 1) := by decide +kernel
theorem dX7_measure_66 : decode cX7_measure 66 = .ok (.iconst 2, 1) := by decide +kernel
theorem dX7_measure_67 : decode cX7_measure 67 = .ok (.bipush 64, 2) := by decide +kernel
theorem dX7_measure_69 : decode cX7_measure 69 = .ok (.aload_n 0, 1) := by decide +kernel
theorem dX7_measure_70 : decode cX7_measure 70 = .ok (.getfield 19, 3) := by decide +kernel
theorem dX7_measure_73 : decode cX7_measure 73 = .ok (.bipush 8, 2) := by decide +kernel
theorem dX7_measure_75 : decode cX7_measure 75 = .ok (.idiv, 1) := by decide +kernel
theorem dX7_measure_76 : decode cX7_measure 76 = .ok (.aload_n 0, 1) := by decide +kernel
theorem dX7_measure_77 : decode cX7_measure 77 = .ok (.getfield 22, 3) := by decide +kernel
theorem dX7_measure_80 : decode cX7_measure 80 = .ok (.iadd, 1) := by decide +kernel
theorem dX7_measure_81 : decode cX7_measure 81 = .ok (.invokestatic 54, 3) := by decide +kernel
theorem dX7_measure_84 : decode cX7_measure 84 = .ok (.invokestatic 40, 3) := by decide +kernel
theorem dX7_measure_87 : decode cX7_measure 87 = .ok (.putfield 15, 3) := by decide +kernel
theorem dX7_measure_90 : decode cX7_measure 90 = .ok (.iconst 5, 1) := by decide +kernel
theorem dX7_measure_91 : decode cX7_measure 91 = .ok (.istore_n 2, 1) := by decide +kernel
theorem dX7_measure_92 : decode cX7_measure 92 = .ok (.iload_n 2, 1) := by decide +kernel
theorem dX7_measure_93 : decode cX7_measure 93 = .ok (.ifCond .le 23, 3) := by decide +kernel
theorem dX7_measure_96 : decode cX7_measure 96 = .ok (.aload_n 0, 1) := by decide +kernel
theorem dX7_measure_97 : decode cX7_measure 97 = .ok (.getfield 9, 3) := by decide +kernel
theorem dX7_measure_100 : decode cX7_measure 100 = .ok (.iload_n 2, 1) := by decide +kernel
theorem dX7_measure_101 : decode cX7_measure 101 = .ok (.aload_n 0, 1) := by decide +kernel
theorem dX7_measure_102 : decode cX7_measure 102 = .ok (.getfield 9, 3) := by decide +kernel
theorem dX7_measure_105 : decode cX7_measure 105 = .ok (.iload_n 2, 1) := by decide +kernel
theorem dX7_measure_106 : decode cX7_measure 106 = .ok (.iconst 1, 1) := by decide +kernel
theorem dX7_measure_107 : decode cX7_measure 107 = .ok (.isub, 1) := by decide +kernel
theorem dX7_measure_108 : decode cX7_measure 108 = .ok (.iaload, 1) := by decide +kernel
theorem dX7_measure_109 : decode cX7_measure 109 = .ok (.iastore, 1) := by decide +kernel
theorem dX7_measure_110 : decode cX7_measure 110 = .ok (.iinc 2 (-1), 3) := by decide +kernel
theorem dX7_measure_113 : decode cX7_measure 113 = .ok (.goto (-21), 3) := by decide +kernel
theorem dX7_measure_116 : decode cX7_measure 116 = .ok (.aload_n 0, 1) := by decide +kernel
theorem dX7_measure_117 : decode cX7_measure 117 = .ok (.getfield 9, 3) := by decide +kernel
theorem dX7_measure_120 : decode cX7_measure 120 = .ok (.iconst 0, 1) := by decide +kernel
theorem dX7_measure_121 : decode cX7_measure 121 = .ok (.iload_n 1, 1) := by decide +kernel
theorem dX7_measure_122 : decode cX7_measure 122 = .ok (.iastore, 1) := by decide +kernel
theorem dX7_measure_123 : decode cX7_measure 123 = .ok (.aload_n 0, 1) := by decide +kernel
theorem dX7_measure_124 : decode cX7_measure 124 = .ok (.dup, 1) := by decide +kernel
theorem dX7_measure_125 : decode cX7_measure 125 = .ok (.getfield 31, 3) := by decide +kernel
theorem dX7_measure_128 : decode cX7_measure 128 = .ok (.iconst 1, 1) := by decide +kernel
theorem dX7_measure_129 : decode cX7_measure 129 = .ok (.iadd, 1) := by decide +kernel
theorem dX7_measure_130 : decode cX7_measure 130 = .ok (.putfield 31, 3) := by decide +kernel
theorem dX7_measure_133 : decode cX7_measure 133 = .ok (.return_, 1) := by decide +kernel
theorem dX7_doubleTimeout_0 : decode cX7_doubleTimeout 0 = .ok (.aload_n 0, 1) := by decide +kernel
theorem dX7_doubleTimeout_1 : decode cX7_doubleTimeout 1 = .ok (.bipush 64, 2) := by decide +kernel
theorem dX7_doubleTimeout_3 : decode cX7_doubleTimeout 3 = .ok (.iconst 2, 1) := by decide +kernel
theorem dX7_doubleTimeout_4 : decode cX7_doubleTimeout 4 = .ok (.aload_n 0, 1) := by decide +kernel
theorem dX7_doubleTimeout_5 : decode cX7_doubleTimeout 5 = .ok (.getfield 15, 3) := by decide +kernel
theorem dX7_doubleTimeout_8 : decode cX7_doubleTimeout 8 = .ok (.imul, 1) := by decide +kernel
theorem dX7_doubleTimeout_9 : decode cX7_doubleTimeout 9 = .ok (.invokestatic 54, 3) := by decide +kernel
theorem dX7_doubleTimeout_12 : decode cX7_doubleTimeout 12 = .ok (.putfield 15, 3) := by decide +kernel
theorem dX7_doubleTimeout_15 : decode cX7_doubleTimeout 15 = .ok (.return_, 1) := by decide +kernel
theorem dX7_roundTrip_0 : decode cX7_roundTrip 0 = .ok (.iload_n 1, 1) := by decide +kernel
theorem dX7_roundTrip_1 : decode cX7_roundTrip 1 = .ok (.ifCond .lt 26, 3) := by decide +kernel
theorem dX7_roundTrip_4 : decode cX7_roundTrip 4 = .ok (.iload_n 1, 1) := by decide +kernel
theorem dX7_roundTrip_5 : decode cX7_roundTrip 5 = .ok (.bipush 6, 2) := by decide +kernel
theorem dX7_roundTrip_7 : decode cX7_roundTrip 7 = .ok (.if_icmp .ge 20, 3) := by decide +kernel
theorem dX7_roundTrip_10 : decode cX7_roundTrip 10 = .ok (.iload_n 1, 1) := by decide +kernel
theorem dX7_roundTrip_11 : decode cX7_roundTrip 11 = .ok (.aload_n 0, 1) := by decide +kernel
theorem dX7_roundTrip_12 : decode cX7_roundTrip 12 = .ok (.getfield 31, 3) := by decide +kernel
theorem dX7_roundTrip_15 : decode cX7_roundTrip 15 = .ok (.if_icmp .ge 12, 3) := by decide +kernel
theorem dX7_roundTrip_18 : decode cX7_roundTrip 18 = .ok (.aload_n 0, 1) := by decide +kernel
theorem dX7_roundTrip_19 : decode cX7_roundTrip 19 = .ok (.getfield 9, 3) := by decide +kernel
theorem dX7_roundTrip_22 : decode cX7_roundTrip 22 = .ok (.iload_n 1, 1) := by decide +kernel
theorem dX7_roundTrip_23 : decode cX7_roundTrip 23 = .ok (.iaload, 1) := by decide +kernel
theorem dX7_roundTrip_24 : decode cX7_roundTrip 24 = .ok (.goto 5, 3) := by decide +kernel
theorem dX7_roundTrip_27 : decode cX7_roundTrip 27 = .ok (.bipush (-4), 2) := by decide +kernel
theorem dX7_roundTrip_29 : decode cX7_roundTrip 29 = .ok (.ireturn, 1) := by decide +kernel
theorem dX8_init_0 : decode cX8_init 0 = .ok (.aload_n 0, 1) := by decide +kernel
theorem dX8_init_1 : decode cX8_init 1 = .ok (.invokespecial 3, 3) := by decide +kernel
theorem dX8_init_4 : decode cX8_init 4 = .ok (.aload_n 0, 1) := by decide +kernel
theorem dX8_init_5 : decode cX8_init 5 = .ok (.bipush 8, 2) := by decide +kernel
theorem dX8_init_7 : decode cX8_init 7 = .ok (.newarray .int, 2) := by decide +kernel
theorem dX8_init_9 : decode cX8_init 9 = .ok (.putfield 9, 3) := by decide +kernel
theorem dX8_init_12 : decode cX8_init 12 = .ok (.aload_n 0, 1) := by decide +kernel
theorem dX8_init_13 : decode cX8_init 13 = .ok (.iconst 4, 1) := by decide +kernel
theorem dX8_init_14 : decode cX8_init 14 = .ok (.newarray .int, 2) := by decide +kernel
theorem dX8_init_16 : decode cX8_init 16 = .ok (.putfield 15, 3) := by decide +kernel
theorem dX8_init_19 : decode cX8_init 19 = .ok (.return_, 1) := by decide +kernel
theorem dX8_begin_0 : decode cX8_begin 0 = .ok (.aload_n 0, 1) := by decide +kernel
theorem dX8_begin_1 : decode cX8_begin 1 = .ok (.iload_n 1, 1) := by decide +kernel
theorem dX8_begin_2 : decode cX8_begin 2 = .ok (.putfield 18, 3) := by decide +kernel
theorem dX8_begin_5 : decode cX8_begin 5 = .ok (.aload_n 0, 1) := by decide +kernel
theorem dX8_begin_6 : decode cX8_begin 6 = .ok (.iload_n 2, 1) := by decide +kernel
theorem dX8_begin_7 : decode cX8_begin 7 = .ok (.putfield 22, 3) := by decide +kernel
theorem dX8_begin_10 : decode cX8_begin 10 = .ok (.aload_n 0, 1) := by decide +kernel
theorem dX8_begin_11 : decode cX8_begin 11 = .ok (.iload_n 3, 1) := by decide +kernel
theorem dX8_begin_12 : decode cX8_begin 12 = .ok (.putfield 25, 3) := by decide +kernel
theorem dX8_begin_15 : decode cX8_begin 15 = .ok (.aload_n 0, 1) := by decide +kernel
theorem dX8_begin_16 : decode cX8_begin 16 = .ok (.bipush (-4), 2) := by decide +kernel
theorem dX8_begin_18 : decode cX8_begin 18 = .ok (.putfield 28, 3) := by decide +kernel
theorem dX8_begin_21 : decode cX8_begin 21 = .ok (.aload_n 0, 1) := by decide +kernel
theorem dX8_begin_22 : decode cX8_begin 22 = .ok (.bipush (-4), 2) := by decide +kernel
theorem dX8_begin_24 : decode cX8_begin 24 = .ok (.putfield 31, 3) := by decide +kernel
theorem dX8_begin_27 : decode cX8_begin 27 = .ok (.aload_n 0, 1) := by decide +kernel
theorem dX8_begin_28 : decode cX8_begin 28 = .ok (.bipush (-4), 2) := by decide +kernel
theorem dX8_begin_30 : decode cX8_begin 30 = .ok (.putfield 34, 3) := by decide +kernel
theorem dX8_begin_33 : decode cX8_begin 33 = .ok (.aload_n 0, 1) := by decide +kernel
theorem dX8_begin_34 : decode cX8_begin 34 = .ok (.iconst 0, 1) := by decide +kernel
theorem dX8_begin_35 : decode cX8_begin 35 = .ok (.putfield 37, 3) := by decide +kernel
theorem dX8_begin_38 : decode cX8_begin 38 = .ok (.aload_n 0, 1) := by decide +kernel
theorem dX8_begin_39 : decode cX8_begin 39 = .ok (.iconst 0, 1) := by decide +kernel
theorem dX8_begin_40 : decode cX8_begin 40 = .ok (.putfield 40, 3) := by decide +kernel
theorem dX8_begin_43 : decode cX8_begin 43 = .ok (.return_, 1) := by decide +kernel
theorem dX8_copyFrom_0 : decode cX8_copyFrom 0 = .ok (.aload_n 0, 1) := by decide +kernel
theorem dX8_copyFrom_1 : decode cX8_copyFrom 1 = .ok (.aload_n 1, 1) := by decide +kernel
theorem dX8_copyFrom_2 : decode cX8_copyFrom 2 = .ok (.getfield 18, 3) := by decide +kernel
theorem dX8_copyFrom_5 : decode cX8_copyFrom 5 = .ok (.putfield 18, 3) := by decide +kernel
theorem dX8_copyFrom_8 : decode cX8_copyFrom 8 = .ok (.aload_n 0, 1) := by decide +kernel
theorem dX8_copyFrom_9 : decode cX8_copyFrom 9 = .ok (.aload_n 1, 1) := by decide +kernel
theorem dX8_copyFrom_10 : decode cX8_copyFrom 10 = .ok (.getfield 22, 3) := by decide +kernel
theorem dX8_copyFrom_13 : decode cX8_copyFrom 13 = .ok (.putfield 22, 3) := by decide +kernel
theorem dX8_copyFrom_16 : decode cX8_copyFrom 16 = .ok (.aload_n 0, 1) := by decide +kernel
theorem dX8_copyFrom_17 : decode cX8_copyFrom 17 = .ok (.aload_n 1, 1) := by decide +kernel
theorem dX8_copyFrom_18 : decode cX8_copyFrom 18 = .ok (.getfield 25, 3) := by decide +kernel
theorem dX8_copyFrom_21 : decode cX8_copyFrom 21 = .ok (.putfield 25, 3) := by decide +kernel
theorem dX8_copyFrom_24 : decode cX8_copyFrom 24 = .ok (.aload_n 0, 1) := by decide +kernel
theorem dX8_copyFrom_25 : decode cX8_copyFrom 25 = .ok (.aload_n 1, 1) := by decide +kernel
theorem dX8_copyFrom_26 : decode cX8_copyFrom 26 = .ok (.getfield 28, 3) := by decide +kernel
theorem dX8_copyFrom_29 : decode cX8_copyFrom 29 = .ok (.putfield 28, 3) := by decide +kernel
theorem dX8_copyFrom_32 : decode cX8_copyFrom 32 = .ok (.aload_n 0, 1) := by decide +kernel
theorem dX8_copyFrom_33 : decode cX8_copyFrom 33 = .ok (.aload_n 1, 1) := by decide +kernel
theorem dX8_copyFrom_34 : decode cX8_copyFrom 34 = .ok (.getfield 31, 3) := by decide +kernel
theorem dX8_copyFrom_37 : decode cX8_copyFrom 37 = .ok (.putfield 31, 3) := by decide +kernel
theorem dX8_copyFrom_40 : decode cX8_copyFrom 40 = .ok (.aload_n 0, 1) := by decide +kernel
theorem dX8_copyFrom_41 : decode cX8_copyFrom 41 = .ok (.aload_n 1, 1) := by decide +kernel
theorem dX8_copyFrom_42 : decode cX8_copyFrom 42 = .ok (.getfield 34, 3) := by decide +kernel
theorem dX8_copyFrom_45 : decode cX8_copyFrom 45 = .ok (.putfield 34, 3) := by decide +kernel
theorem dX8_copyFrom_48 : decode cX8_copyFrom 48 = .ok (.aload_n 0, 1) := by decide +kernel
theorem dX8_copyFrom_49 : decode cX8_copyFrom 49 = .ok (.aload_n 1, 1) := by decide +kernel
theorem dX8_copyFrom_50 : decode cX8_copyFrom 50 = .ok (.getfield 37, 3) := by decide +kernel
theorem dX8_copyFrom_53 : decode cX8_copyFrom 53 = .ok (.putfield 37, 3) := by decide +kernel
theorem dX8_copyFrom_56 : decode cX8_copyFrom 56 = .ok (.aload_n 1, 1) := by decide +kernel
theorem dX8_copyFrom_57 : decode cX8_copyFrom 57 = .ok (.getfield 9, 3) := by decide +kernel
theorem dX8_copyFrom_60 : decode cX8_copyFrom 60 = .ok (.iconst 0, 1) := by decide +kernel
theorem dX8_copyFrom_61 : decode cX8_copyFrom 61 = .ok (.aload_n 0, 1) := by decide +kernel
theorem dX8_copyFrom_62 : decode cX8_copyFrom 62 = .ok (.getfield 9, 3) := by decide +kernel
theorem dX8_copyFrom_65 : decode cX8_copyFrom 65 = .ok (.iconst 0, 1) := by decide +kernel
theorem dX8_copyFrom_66 : decode cX8_copyFrom 66 = .ok (.bipush 8, 2) := by decide +kernel
theorem dX8_copyFrom_68 : decode cX8_copyFrom 68 = .ok (.invokestatic 43, 3) := by decide +kernel
theorem dX8_copyFrom_71 : decode cX8_copyFrom 71 = .ok (.aload_n 0, 1) := by decide +kernel
theorem dX8_copyFrom_72 : decode cX8_copyFrom 72 = .ok (.aload_n 1, 1) := by decide +kernel
theorem dX8_copyFrom_73 : decode cX8_copyFrom 73 = .ok (.getfield 40, 3) := by decide +kernel
theorem dX8_copyFrom_76 : decode cX8_copyFrom 76 = .ok (.putfield 40, 3) := by decide +kernel
theorem dX8_copyFrom_79 : decode cX8_copyFrom 79 = .ok (.aload_n 1, 1) := by decide +kernel
theorem dX8_copyFrom_80 : decode cX8_copyFrom 80 = .ok (.getfield 15, 3) := by decide +kernel
theorem dX8_copyFrom_83 : decode cX8_copyFrom 83 = .ok (.iconst 0, 1) := by decide +kernel
theorem dX8_copyFrom_84 : decode cX8_copyFrom 84 = .ok (.aload_n 0, 1) := by decide +kernel
theorem dX8_copyFrom_85 : decode cX8_copyFrom 85 = .ok (.getfield 15, 3) := by decide +kernel
theorem dX8_copyFrom_88 : decode cX8_copyFrom 88 = .ok (.iconst 0, 1) := by decide +kernel
theorem dX8_copyFrom_89 : decode cX8_copyFrom 89 = .ok (.iconst 4, 1) := by decide +kernel
theorem dX8_copyFrom_90 : decode cX8_copyFrom 90 = .ok (.invokestatic 43, 3) := by decide +kernel
theorem dX8_copyFrom_93 : decode cX8_copyFrom 93 = .ok (.return_, 1) := by decide +kernel
theorem dX8_has_0 : decode cX8_has 0 = .ok (.aload_n 0, 1) := by decide +kernel
theorem dX8_has_1 : decode cX8_has 1 = .ok (.getfield 22, 3) := by decide +kernel
theorem dX8_has_4 : decode cX8_has 4 = .ok (.iload_n 1, 1) := by decide +kernel
theorem dX8_has_5 : decode cX8_has 5 = .ok (.iand, 1) := by decide +kernel
theorem dX8_has_6 : decode cX8_has 6 = .ok (.ifCond .eq 7, 3) := by decide +kernel
theorem dX8_has_9 : decode cX8_has 9 = .ok (.iconst 1, 1) := by decide +kernel
theorem dX8_has_10 : decode cX8_has 10 = .ok (.goto 4, 3) := by decide +kernel
theorem dX8_has_13 : decode cX8_has 13 = .ok (.iconst 0, 1) := by decide +kernel
theorem dX8_has_14 : decode cX8_has 14 = .ok (.ireturn, 1) := by decide +kernel
theorem dX8_length_0 : decode cX8_length 0 = .ok (.aload_n 0, 1) := by decide +kernel
theorem dX8_length_1 : decode cX8_length 1 = .ok (.getfield 37, 3) := by decide +kernel
theorem dX8_length_4 : decode cX8_length 4 = .ok (.aload_n 0, 1) := by decide +kernel
theorem dX8_length_5 : decode cX8_length 5 = .ok (.iconst 1, 1) := by decide +kernel
theorem dX8_length_6 : decode cX8_length 6 = .ok (.invokevirtual 49, 3) := by decide +kernel
theorem dX8_length_9 : decode cX8_length 9 = .ok (.ifCond .eq 7, 3) := by decide +kernel
theorem dX8_length_12 : decode cX8_length 12 = .ok (.iconst 1, 1) := by decide +kernel
theorem dX8_length_13 : decode cX8_length 13 = .ok (.goto 4, 3) := by decide +kernel
theorem dX8_length_16 : decode cX8_length 16 = .ok (.iconst 0, 1) := by decide +kernel
theorem dX8_length_17 : decode cX8_length 17 = .ok (.iadd, 1) := by decide +kernel
theorem dX8_length_18 : decode cX8_length 18 = .ok (.aload_n 0, 1) := by decide +kernel
theorem dX8_length_19 : decode cX8_length 19 = .ok (.iconst 2, 1) := by decide +kernel
theorem dX8_length_20 : decode cX8_length 20 = .ok (.invokevirtual 49, 3) := by decide +kernel
theorem dX8_length_23 : decode cX8_length 23 = .ok (.ifCond .eq 7, 3) := by decide +kernel
theorem dX8_length_26 : decode cX8_length 26 = .ok (.iconst 1, 1) := by decide +kernel
theorem dX8_length_27 : decode cX8_length 27 = .ok (.goto 4, 3) := by decide +kernel
theorem dX8_length_30 : decode cX8_length 30 = .ok (.iconst 0, 1) := by decide +kernel
theorem dX8_length_31 : decode cX8_length 31 = .ok (.iadd, 1) := by decide +kernel
theorem dX8_length_32 : decode cX8_length 32 = .ok (.ireturn, 1) := by decide +kernel
theorem dX8_addByte_0 : decode cX8_addByte 0 = .ok (.aload_n 0, 1) := by decide +kernel
theorem dX8_addByte_1 : decode cX8_addByte 1 = .ok (.getfield 37, 3) := by decide +kernel
theorem dX8_addByte_4 : decode cX8_addByte 4 = .ok (.ifCond .lt 32, 3) := by decide +kernel
theorem dX8_addByte_7 : decode cX8_addByte 7 = .ok (.aload_n 0, 1) := by decide +kernel
theorem dX8_addByte_8 : decode cX8_addByte 8 = .ok (.getfield 37, 3) := by decide +kernel
theorem dX8_addByte_11 : decode cX8_addByte 11 = .ok (.bipush 8, 2) := by decide +kernel
theorem dX8_addByte_13 : decode cX8_addByte 13 = .ok (.if_icmp .ge 23, 3) := by decide +kernel
theorem dX8_addByte_16 : decode cX8_addByte 16 = .ok (.aload_n 0, 1) := by decide +kernel
theorem dX8_addByte_17 : decode cX8_addByte 17 = .ok (.getfield 9, 3) := by decide +kernel
theorem dX8_addByte_20 : decode cX8_addByte 20 = .ok (.aload_n 0, 1) := by decide +kernel
theorem dX8_addByte_21 : decode cX8_addByte 21 = .ok (.getfield 37, 3) := by decide +kernel
theorem dX8_addByte_24 : decode cX8_addByte 24 = .ok (.iload_n 1, 1) := by decide +kernel
theorem dX8_addByte_25 : decode cX8_addByte 25 = .ok (.iastore, 1) := by decide +kernel
theorem dX8_addByte_26 : decode cX8_addByte 26 = .ok (.aload_n 0, 1) := by decide +kernel
theorem dX8_addByte_27 : decode cX8_addByte 27 = .ok (.dup, 1) := by decide +kernel
theorem dX8_addByte_28 : decode cX8_addByte 28 = .ok (.getfield 37, 3) := by decide +kernel
theorem dX8_addByte_31 : decode cX8_addByte 31 = .ok (.iconst 1, 1) := by decide +kernel
theorem dX8_addByte_32 : decode cX8_addByte 32 = .ok (.iadd, 1) := by decide +kernel
theorem dX8_addByte_33 : decode cX8_addByte 33 = .ok (.putfield 37, 3) := by decide +kernel
theorem dX8_addByte_36 : decode cX8_addByte 36 = .ok (.return_, 1) := by decide +kernel
theorem dX8_byteAt_0 : decode cX8_byteAt 0 = .ok (.iload_n 1, 1) := by decide +kernel
theorem dX8_byteAt_1 : decode cX8_byteAt 1 = .ok (.ifCond .lt 26, 3) := by decide +kernel
theorem dX8_byteAt_4 : decode cX8_byteAt 4 = .ok (.iload_n 1, 1) := by decide +kernel
theorem dX8_byteAt_5 : decode cX8_byteAt 5 = .ok (.aload_n 0, 1) := by decide +kernel
theorem dX8_byteAt_6 : decode cX8_byteAt 6 = .ok (.getfield 37, 3) := by decide +kernel
theorem dX8_byteAt_9 : decode cX8_byteAt 9 = .ok (.if_icmp .ge 18, 3) := by decide +kernel
theorem dX8_byteAt_12 : decode cX8_byteAt 12 = .ok (.iload_n 1, 1) := by decide +kernel
theorem dX8_byteAt_13 : decode cX8_byteAt 13 = .ok (.bipush 8, 2) := by decide +kernel
theorem dX8_byteAt_15 : decode cX8_byteAt 15 = .ok (.if_icmp .ge 12, 3) := by decide +kernel
theorem dX8_byteAt_18 : decode cX8_byteAt 18 = .ok (.aload_n 0, 1) := by decide +kernel
theorem dX8_byteAt_19 : decode cX8_byteAt 19 = .ok (.getfield 9, 3) := by decide +kernel
theorem dX8_byteAt_22 : decode cX8_byteAt 22 = .ok (.iload_n 1, 1) := by decide +kernel
theorem dX8_byteAt_23 : decode cX8_byteAt 23 = .ok (.iaload, 1) := by decide +kernel
theorem dX8_byteAt_24 : decode cX8_byteAt 24 = .ok (.goto 5, 3) := by decide +kernel
theorem dX8_byteAt_27 : decode cX8_byteAt 27 = .ok (.bipush (-4), 2) := by decide +kernel
theorem dX8_byteAt_29 : decode cX8_byteAt 29 = .ok (.ireturn, 1) := by decide +kernel
theorem dX8_addRange_0 : decode cX8_addRange 0 = .ok (.aload_n 0, 1) := by decide +kernel
theorem dX8_addRange_1 : decode cX8_addRange 1 = .ok (.getfield 40, 3) := by decide +kernel
theorem dX8_addRange_4 : decode cX8_addRange 4 = .ok (.ifCond .lt 47, 3) := by decide +kernel
theorem dX8_addRange_7 : decode cX8_addRange 7 = .ok (.aload_n 0, 1) := by decide +kernel
theorem dX8_addRange_8 : decode cX8_addRange 8 = .ok (.getfield 40, 3) := by decide +kernel
theorem dX8_addRange_11 : decode cX8_addRange 11 = .ok (.iconst 2, 1) := by decide +kernel
theorem dX8_addRange_12 : decode cX8_addRange 12 = .ok (.if_icmp .ge 39, 3) := by decide +kernel
theorem dX8_addRange_15 : decode cX8_addRange 15 = .ok (.aload_n 0, 1) := by decide +kernel
theorem dX8_addRange_16 : decode cX8_addRange 16 = .ok (.getfield 15, 3) := by decide +kernel
theorem dX8_addRange_19 : decode cX8_addRange 19 = .ok (.iconst 2, 1) := by decide +kernel
theorem dX8_addRange_20 : decode cX8_addRange 20 = .ok (.aload_n 0, 1) := by decide +kernel
theorem dX8_addRange_21 : decode cX8_addRange 21 = .ok (.getfield 40, 3) := by decide +kernel
theorem dX8_addRange_24 : decode cX8_addRange 24 = .ok (.imul, 1) := by decide +kernel
theorem dX8_addRange_25 : decode cX8_addRange 25 = .ok (.iload_n 1, 1) := by decide +kernel
theorem dX8_addRange_26 : decode cX8_addRange 26 = .ok (.iastore, 1) := by decide +kernel
theorem dX8_addRange_27 : decode cX8_addRange 27 = .ok (.aload_n 0, 1) := by decide +kernel
theorem dX8_addRange_28 : decode cX8_addRange 28 = .ok (.getfield 15, 3) := by decide +kernel
theorem dX8_addRange_31 : decode cX8_addRange 31 = .ok (.iconst 2, 1) := by decide +kernel
theorem dX8_addRange_32 : decode cX8_addRange 32 = .ok (.aload_n 0, 1) := by decide +kernel
theorem dX8_addRange_33 : decode cX8_addRange 33 = .ok (.getfield 40, 3) := by decide +kernel
theorem dX8_addRange_36 : decode cX8_addRange 36 = .ok (.imul, 1) := by decide +kernel
theorem dX8_addRange_37 : decode cX8_addRange 37 = .ok (.iconst 1, 1) := by decide +kernel
theorem dX8_addRange_38 : decode cX8_addRange 38 = .ok (.iadd, 1) := by decide +kernel
theorem dX8_addRange_39 : decode cX8_addRange 39 = .ok (.iload_n 2, 1) := by decide +kernel
theorem dX8_addRange_40 : decode cX8_addRange 40 = .ok (.iastore, 1) := by decide +kernel
theorem dX8_addRange_41 : decode cX8_addRange 41 = .ok (.aload_n 0, 1) := by decide +kernel
theorem dX8_addRange_42 : decode cX8_addRange 42 = .ok (.dup, 1) := by decide +kernel
theorem dX8_addRange_43 : decode cX8_addRange 43 = .ok (.getfield 40, 3) := by decide +kernel
theorem dX8_addRange_46 : decode cX8_addRange 46 = .ok (.iconst 1, 1) := by decide +kernel
theorem dX8_addRange_47 : decode cX8_addRange 47 = .ok (.iadd, 1) := by decide +kernel
theorem dX8_addRange_48 : decode cX8_addRange 48 = .ok (.putfield 40, 3) := by decide +kernel
theorem dX8_addRange_51 : decode cX8_addRange 51 = .ok (.return_, 1) := by decide +kernel
theorem dX8_rangeNumber_0 : decode cX8_rangeNumber 0 = .ok (.iload_n 1, 1) := by decide +kernel
theorem dX8_rangeNumber_1 : decode cX8_rangeNumber 1 = .ok (.ifCond .lt 27, 3) := by decide +kernel
theorem dX8_rangeNumber_4 : decode cX8_rangeNumber 4 = .ok (.iload_n 1, 1) := by decide +kernel
theorem dX8_rangeNumber_5 : decode cX8_rangeNumber 5 = .ok (.iconst 2, 1) := by decide +kernel
theorem dX8_rangeNumber_6 : decode cX8_rangeNumber 6 = .ok (.aload_n 0, 1) := by decide +kernel
theorem dX8_rangeNumber_7 : decode cX8_rangeNumber 7 = .ok (.getfield 40, 3) := by decide +kernel
theorem dX8_rangeNumber_10 : decode cX8_rangeNumber 10 = .ok (.imul, 1) := by decide +kernel
theorem dX8_rangeNumber_11 : decode cX8_rangeNumber 11 = .ok (.if_icmp .ge 17, 3) := by decide +kernel
theorem dX8_rangeNumber_14 : decode cX8_rangeNumber 14 = .ok (.iload_n 1, 1) := by decide +kernel
theorem dX8_rangeNumber_15 : decode cX8_rangeNumber 15 = .ok (.iconst 4, 1) := by decide +kernel
theorem dX8_rangeNumber_16 : decode cX8_rangeNumber 16 = .ok (.if_icmp .ge 12, 3) := by decide +kernel
theorem dX8_rangeNumber_19 : decode cX8_rangeNumber 19 = .ok (.aload_n 0, 1) := by decide +kernel
theorem dX8_rangeNumber_20 : decode cX8_rangeNumber 20 = .ok (.getfield 15, 3) := by decide +kernel
theorem dX8_rangeNumber_23 : decode cX8_rangeNumber 23 = .ok (.iload_n 1, 1) := by decide +kernel
theorem dX8_rangeNumber_24 : decode cX8_rangeNumber 24 = .ok (.iaload, 1) := by decide +kernel
theorem dX8_rangeNumber_25 : decode cX8_rangeNumber 25 = .ok (.goto 5, 3) := by decide +kernel
theorem dX8_rangeNumber_28 : decode cX8_rangeNumber 28 = .ok (.bipush (-4), 2) := by decide +kernel
theorem dX8_rangeNumber_30 : decode cX8_rangeNumber 30 = .ok (.ireturn, 1) := by decide +kernel
theorem dX8_property_0 : decode cX8_property 0 = .ok (.iload_n 1, 1) := by decide +kernel
theorem dX8_property_1 : decode cX8_property 1 = .ok (.tableswitch 87 0 7 #[47, 52, 57, 62, 67, 72, 77, 82], 47) := by decide +kernel
theorem dX8_property_48 : decode cX8_property 48 = .ok (.aload_n 0, 1) := by decide +kernel
theorem dX8_property_49 : decode cX8_property 49 = .ok (.getfield 18, 3) := by decide +kernel
theorem dX8_property_52 : decode cX8_property 52 = .ok (.ireturn, 1) := by decide +kernel
theorem dX8_property_53 : decode cX8_property 53 = .ok (.aload_n 0, 1) := by decide +kernel
theorem dX8_property_54 : decode cX8_property 54 = .ok (.getfield 22, 3) := by decide +kernel
theorem dX8_property_57 : decode cX8_property 57 = .ok (.ireturn, 1) := by decide +kernel
theorem dX8_property_58 : decode cX8_property 58 = .ok (.aload_n 0, 1) := by decide +kernel
theorem dX8_property_59 : decode cX8_property 59 = .ok (.getfield 25, 3) := by decide +kernel
theorem dX8_property_62 : decode cX8_property 62 = .ok (.ireturn, 1) := by decide +kernel
theorem dX8_property_63 : decode cX8_property 63 = .ok (.aload_n 0, 1) := by decide +kernel
theorem dX8_property_64 : decode cX8_property 64 = .ok (.getfield 28, 3) := by decide +kernel
theorem dX8_property_67 : decode cX8_property 67 = .ok (.ireturn, 1) := by decide +kernel
theorem dX8_property_68 : decode cX8_property 68 = .ok (.aload_n 0, 1) := by decide +kernel
theorem dX8_property_69 : decode cX8_property 69 = .ok (.getfield 31, 3) := by decide +kernel
theorem dX8_property_72 : decode cX8_property 72 = .ok (.ireturn, 1) := by decide +kernel
theorem dX8_property_73 : decode cX8_property 73 = .ok (.aload_n 0, 1) := by decide +kernel
theorem dX8_property_74 : decode cX8_property 74 = .ok (.getfield 37, 3) := by decide +kernel
theorem dX8_property_77 : decode cX8_property 77 = .ok (.ireturn, 1) := by decide +kernel
theorem dX8_property_78 : decode cX8_property 78 = .ok (.aload_n 0, 1) := by decide +kernel
theorem dX8_property_79 : decode cX8_property 79 = .ok (.getfield 40, 3) := by decide +kernel
theorem dX8_property_82 : decode cX8_property 82 = .ok (.ireturn, 1) := by decide +kernel
theorem dX8_property_83 : decode cX8_property 83 = .ok (.aload_n 0, 1) := by decide +kernel
theorem dX8_property_84 : decode cX8_property 84 = .ok (.getfield 34, 3) := by decide +kernel
theorem dX8_property_87 : decode cX8_property 87 = .ok (.ireturn, 1) := by decide +kernel
theorem dX8_property_88 : decode cX8_property 88 = .ok (.aload_n 0, 1) := by decide +kernel
theorem dX8_property_89 : decode cX8_property 89 = .ok (.iload_n 1, 1) := by decide +kernel
theorem dX8_property_90 : decode cX8_property 90 = .ok (.bipush 8, 2) := by decide +kernel
theorem dX8_property_92 : decode cX8_property 92 = .ok (.isub, 1) := by decide +kernel
theorem dX8_property_93 : decode cX8_property 93 = .ok (.invokevirtual 53, 3) := by decide +kernel
theorem dX8_property_96 : decode cX8_property 96 = .ok (.ireturn, 1) := by decide +kernel
theorem dX9_init_0 : decode cX9_init 0 = .ok (.aload_n 0, 1) := by decide +kernel
theorem dX9_init_1 : decode cX9_init 1 = .ok (.invokespecial 3, 3) := by decide +kernel
theorem dX9_init_4 : decode cX9_init 4 = .ok (.aload_n 0, 1) := by decide +kernel
theorem dX9_init_5 : decode cX9_init 5 = .ok (.sipush 200, 3) := by decide +kernel
theorem dX9_init_8 : decode cX9_init 8 = .ok (.newarray .int, 2) := by decide +kernel
theorem dX9_init_10 : decode cX9_init 10 = .ok (.putfield 9, 3) := by decide +kernel
theorem dX9_init_13 : decode cX9_init 13 = .ok (.return_, 1) := by decide +kernel
theorem dX9_append_0 : decode cX9_append 0 = .ok (.aload_n 0, 1) := by decide +kernel
theorem dX9_append_1 : decode cX9_append 1 = .ok (.getfield 15, 3) := by decide +kernel
theorem dX9_append_4 : decode cX9_append 4 = .ok (.ifCond .lt 13, 3) := by decide +kernel
theorem dX9_append_7 : decode cX9_append 7 = .ok (.aload_n 0, 1) := by decide +kernel
theorem dX9_append_8 : decode cX9_append 8 = .ok (.getfield 15, 3) := by decide +kernel
theorem dX9_append_11 : decode cX9_append 11 = .ok (.sipush 200, 3) := by decide +kernel
theorem dX9_append_14 : decode cX9_append 14 = .ok (.if_icmp .lt 5, 3) := by decide +kernel
theorem dX9_append_17 : decode cX9_append 17 = .ok (.iconst 0, 1) := by decide +kernel
theorem dX9_append_18 : decode cX9_append 18 = .ok (.ireturn, 1) := by decide +kernel
theorem dX9_append_19 : decode cX9_append 19 = .ok (.aload_n 0, 1) := by decide +kernel
theorem dX9_append_20 : decode cX9_append 20 = .ok (.getfield 9, 3) := by decide +kernel
theorem dX9_append_23 : decode cX9_append 23 = .ok (.aload_n 0, 1) := by decide +kernel
theorem dX9_append_24 : decode cX9_append 24 = .ok (.getfield 15, 3) := by decide +kernel
theorem dX9_append_27 : decode cX9_append 27 = .ok (.iload_n 1, 1) := by decide +kernel
theorem dX9_append_28 : decode cX9_append 28 = .ok (.iastore, 1) := by decide +kernel
theorem dX9_append_29 : decode cX9_append 29 = .ok (.aload_n 0, 1) := by decide +kernel
theorem dX9_append_30 : decode cX9_append 30 = .ok (.dup, 1) := by decide +kernel
theorem dX9_append_31 : decode cX9_append 31 = .ok (.getfield 15, 3) := by decide +kernel
theorem dX9_append_34 : decode cX9_append 34 = .ok (.iconst 1, 1) := by decide +kernel
theorem dX9_append_35 : decode cX9_append 35 = .ok (.iadd, 1) := by decide +kernel
theorem dX9_append_36 : decode cX9_append 36 = .ok (.putfield 15, 3) := by decide +kernel
theorem dX9_append_39 : decode cX9_append 39 = .ok (.iconst 1, 1) := by decide +kernel
theorem dX9_append_40 : decode cX9_append 40 = .ok (.ireturn, 1) := by decide +kernel
theorem dX9_at_0 : decode cX9_at 0 = .ok (.iload_n 1, 1) := by decide +kernel
theorem dX9_at_1 : decode cX9_at 1 = .ok (.ifCond .lt 27, 3) := by decide +kernel
theorem dX9_at_4 : decode cX9_at 4 = .ok (.iload_n 1, 1) := by decide +kernel
theorem dX9_at_5 : decode cX9_at 5 = .ok (.aload_n 0, 1) := by decide +kernel
theorem dX9_at_6 : decode cX9_at 6 = .ok (.getfield 15, 3) := by decide +kernel
theorem dX9_at_9 : decode cX9_at 9 = .ok (.if_icmp .ge 19, 3) := by decide +kernel
theorem dX9_at_12 : decode cX9_at 12 = .ok (.iload_n 1, 1) := by decide +kernel
theorem dX9_at_13 : decode cX9_at 13 = .ok (.sipush 200, 3) := by decide +kernel
theorem dX9_at_16 : decode cX9_at 16 = .ok (.if_icmp .ge 12, 3) := by decide +kernel
theorem dX9_at_19 : decode cX9_at 19 = .ok (.aload_n 0, 1) := by decide +kernel
theorem dX9_at_20 : decode cX9_at 20 = .ok (.getfield 9, 3) := by decide +kernel
theorem dX9_at_23 : decode cX9_at 23 = .ok (.iload_n 1, 1) := by decide +kernel
theorem dX9_at_24 : decode cX9_at 24 = .ok (.iaload, 1) := by decide +kernel
theorem dX9_at_25 : decode cX9_at 25 = .ok (.goto 5, 3) := by decide +kernel
theorem dX9_at_28 : decode cX9_at 28 = .ok (.bipush (-4), 2) := by decide +kernel
theorem dX9_at_30 : decode cX9_at 30 = .ok (.ireturn, 1) := by decide +kernel
theorem dX9_isDigit_0 : decode cX9_isDigit 0 = .ok (.aload_n 0, 1) := by decide +kernel
theorem dX9_isDigit_1 : decode cX9_isDigit 1 = .ok (.iload_n 1, 1) := by decide +kernel
theorem dX9_isDigit_2 : decode cX9_isDigit 2 = .ok (.invokevirtual 19, 3) := by decide +kernel
theorem dX9_isDigit_5 : decode cX9_isDigit 5 = .ok (.istore_n 2, 1) := by decide +kernel
theorem dX9_isDigit_6 : decode cX9_isDigit 6 = .ok (.iload_n 2, 1) := by decide +kernel
theorem dX9_isDigit_7 : decode cX9_isDigit 7 = .ok (.bipush 48, 2) := by decide +kernel
theorem dX9_isDigit_9 : decode cX9_isDigit 9 = .ok (.if_icmp .lt 13, 3) := by decide +kernel
theorem dX9_isDigit_12 : decode cX9_isDigit 12 = .ok (.iload_n 2, 1) := by decide +kernel
theorem dX9_isDigit_13 : decode cX9_isDigit 13 = .ok (.bipush 57, 2) := by decide +kernel
theorem dX9_isDigit_15 : decode cX9_isDigit 15 = .ok (.if_icmp .gt 7, 3) := by decide +kernel
theorem dX9_isDigit_18 : decode cX9_isDigit 18 = .ok (.iconst 1, 1) := by decide +kernel
theorem dX9_isDigit_19 : decode cX9_isDigit 19 = .ok (.goto 4, 3) := by decide +kernel
theorem dX9_isDigit_22 : decode cX9_isDigit 22 = .ok (.iconst 0, 1) := by decide +kernel
theorem dX9_isDigit_23 : decode cX9_isDigit 23 = .ok (.ireturn, 1) := by decide +kernel
theorem dX9_digitsEnd_0 : decode cX9_digitsEnd 0 = .ok (.iload_n 1, 1) := by decide +kernel
theorem dX9_digitsEnd_1 : decode cX9_digitsEnd 1 = .ok (.istore_n 2, 1) := by decide +kernel
theorem dX9_digitsEnd_2 : decode cX9_digitsEnd 2 = .ok (.iload_n 2, 1) := by decide +kernel
theorem dX9_digitsEnd_3 : decode cX9_digitsEnd 3 = .ok (.iload_n 1, 1) := by decide +kernel
theorem dX9_digitsEnd_4 : decode cX9_digitsEnd 4 = .ok (.iconst 3, 1) := by decide +kernel
theorem dX9_digitsEnd_5 : decode cX9_digitsEnd 5 = .ok (.iadd, 1) := by decide +kernel
theorem dX9_digitsEnd_6 : decode cX9_digitsEnd 6 = .ok (.if_icmp .ge 17, 3) := by decide +kernel
theorem dX9_digitsEnd_9 : decode cX9_digitsEnd 9 = .ok (.aload_n 0, 1) := by decide +kernel
theorem dX9_digitsEnd_10 : decode cX9_digitsEnd 10 = .ok (.iload_n 2, 1) := by decide +kernel
theorem dX9_digitsEnd_11 : decode cX9_digitsEnd 11 = .ok (.invokevirtual 23, 3) := by decide +kernel
theorem dX9_digitsEnd_14 : decode cX9_digitsEnd 14 = .ok (.ifCond .eq 9, 3) := by decide +kernel
theorem dX9_digitsEnd_17 : decode cX9_digitsEnd 17 = .ok (.iinc 2 1, 3) := by decide +kernel
theorem dX9_digitsEnd_20 : decode cX9_digitsEnd 20 = .ok (.goto (-18), 3) := by decide +kernel
theorem dX9_digitsEnd_23 : decode cX9_digitsEnd 23 = .ok (.iload_n 2, 1) := by decide +kernel
theorem dX9_digitsEnd_24 : decode cX9_digitsEnd 24 = .ok (.ireturn, 1) := by decide +kernel
theorem dX9_number_0 : decode cX9_number 0 = .ok (.iload_n 1, 1) := by decide +kernel
theorem dX9_number_1 : decode cX9_number 1 = .ok (.iload_n 2, 1) := by decide +kernel
theorem dX9_number_2 : decode cX9_number 2 = .ok (.if_icmp .ge 7, 3) := by decide +kernel
theorem dX9_number_5 : decode cX9_number 5 = .ok (.iconst 0, 1) := by decide +kernel
theorem dX9_number_6 : decode cX9_number 6 = .ok (.goto 5, 3) := by decide +kernel
theorem dX9_number_9 : decode cX9_number 9 = .ok (.bipush (-4), 2) := by decide +kernel
theorem dX9_number_11 : decode cX9_number 11 = .ok (.istore_n 3, 1) := by decide +kernel
theorem dX9_number_12 : decode cX9_number 12 = .ok (.iload_n 1, 1) := by decide +kernel
theorem dX9_number_13 : decode cX9_number 13 = .ok (.istore 4, 2) := by decide +kernel
theorem dX9_number_15 : decode cX9_number 15 = .ok (.iload 4, 2) := by decide +kernel
theorem dX9_number_17 : decode cX9_number 17 = .ok (.iload_n 2, 1) := by decide +kernel
theorem dX9_number_18 : decode cX9_number 18 = .ok (.if_icmp .ge 24, 3) := by decide +kernel
theorem dX9_number_21 : decode cX9_number 21 = .ok (.bipush 10, 2) := by decide +kernel
theorem dX9_number_23 : decode cX9_number 23 = .ok (.iload_n 3, 1) := by decide +kernel
theorem dX9_number_24 : decode cX9_number 24 = .ok (.imul, 1) := by decide +kernel
theorem dX9_number_25 : decode cX9_number 25 = .ok (.aload_n 0, 1) := by decide +kernel
theorem dX9_number_26 : decode cX9_number 26 = .ok (.iload 4, 2) := by decide +kernel
theorem dX9_number_28 : decode cX9_number 28 = .ok (.invokevirtual 19, 3) := by decide +kernel
theorem dX9_number_31 : decode cX9_number 31 = .ok (.iadd, 1) := by decide +kernel
theorem dX9_number_32 : decode cX9_number 32 = .ok (.bipush 48, 2) := by decide +kernel
theorem dX9_number_34 : decode cX9_number 34 = .ok (.isub, 1) := by decide +kernel
theorem dX9_number_35 : decode cX9_number 35 = .ok (.istore_n 3, 1) := by decide +kernel
theorem dX9_number_36 : decode cX9_number 36 = .ok (.iinc 4 1, 3) := by decide +kernel
theorem dX9_number_39 : decode cX9_number 39 = .ok (.goto (-24), 3) := by decide +kernel
theorem dX9_number_42 : decode cX9_number 42 = .ok (.iload_n 3, 1) := by decide +kernel
theorem dX9_number_43 : decode cX9_number 43 = .ok (.ireturn, 1) := by decide +kernel
theorem dX10_init_0 : decode cX10_init 0 = .ok (.aload_n 0, 1) := by decide +kernel
theorem dX10_init_1 : decode cX10_init 1 = .ok (.invokespecial 3, 3) := by decide +kernel
theorem dX10_init_4 : decode cX10_init 4 = .ok (.aload_n 0, 1) := by decide +kernel
theorem dX10_init_5 : decode cX10_init 5 = .ok (.bipush 21, 2) := by decide +kernel
theorem dX10_init_7 : decode cX10_init 7 = .ok (.anewarray 9, 3) := by decide +kernel
theorem dX10_init_10 : decode cX10_init 10 = .ok (.putfield 11, 3) := by decide +kernel
theorem dX10_init_13 : decode cX10_init 13 = .ok (.aload_n 0, 1) := by decide +kernel
theorem dX10_init_14 : decode cX10_init 14 = .ok (.new 9, 3) := by decide +kernel
theorem dX10_init_17 : decode cX10_init 17 = .ok (.dup, 1) := by decide +kernel
theorem dX10_init_18 : decode cX10_init 18 = .ok (.invokespecial 17, 3) := by decide +kernel
theorem dX10_init_21 : decode cX10_init 21 = .ok (.putfield 18, 3) := by decide +kernel
theorem dX10_init_24 : decode cX10_init 24 = .ok (.iconst 0, 1) := by decide +kernel
theorem dX10_init_25 : decode cX10_init 25 = .ok (.istore_n 1, 1) := by decide +kernel
theorem dX10_init_26 : decode cX10_init 26 = .ok (.iload_n 1, 1) := by decide +kernel
theorem dX10_init_27 : decode cX10_init 27 = .ok (.aload_n 0, 1) := by decide +kernel
theorem dX10_init_28 : decode cX10_init 28 = .ok (.getfield 11, 3) := by decide +kernel
theorem dX10_init_31 : decode cX10_init 31 = .ok (.arraylength, 1) := by decide +kernel
theorem dX10_init_32 : decode cX10_init 32 = .ok (.if_icmp .ge 22, 3) := by decide +kernel
theorem dX10_init_35 : decode cX10_init 35 = .ok (.aload_n 0, 1) := by decide +kernel
theorem dX10_init_36 : decode cX10_init 36 = .ok (.getfield 11, 3) := by decide +kernel
theorem dX10_init_39 : decode cX10_init 39 = .ok (.iload_n 1, 1) := by decide +kernel
theorem dX10_init_40 : decode cX10_init 40 = .ok (.new 9, 3) := by decide +kernel
theorem dX10_init_43 : decode cX10_init 43 = .ok (.dup, 1) := by decide +kernel
theorem dX10_init_44 : decode cX10_init 44 = .ok (.invokespecial 17, 3) := by decide +kernel
theorem dX10_init_47 : decode cX10_init 47 = .ok (.aastore, 1) := by decide +kernel
theorem dX10_init_48 : decode cX10_init 48 = .ok (.iinc 1 1, 3) := by decide +kernel
theorem dX10_init_51 : decode cX10_init 51 = .ok (.goto (-25), 3) := by decide +kernel
theorem dX10_init_54 : decode cX10_init 54 = .ok (.return_, 1) := by decide +kernel
theorem dX10_clear_0 : decode cX10_clear 0 = .ok (.aload_n 0, 1) := by decide +kernel
theorem dX10_clear_1 : decode cX10_clear 1 = .ok (.iconst 0, 1) := by decide +kernel
theorem dX10_clear_2 : decode cX10_clear 2 = .ok (.putfield 22, 3) := by decide +kernel
theorem dX10_clear_5 : decode cX10_clear 5 = .ok (.aload_n 0, 1) := by decide +kernel
theorem dX10_clear_6 : decode cX10_clear 6 = .ok (.iconst 0, 1) := by decide +kernel
theorem dX10_clear_7 : decode cX10_clear 7 = .ok (.putfield 26, 3) := by decide +kernel
theorem dX10_clear_10 : decode cX10_clear 10 = .ok (.aload_n 0, 1) := by decide +kernel
theorem dX10_clear_11 : decode cX10_clear 11 = .ok (.iconst 0, 1) := by decide +kernel
theorem dX10_clear_12 : decode cX10_clear 12 = .ok (.putfield 29, 3) := by decide +kernel
theorem dX10_clear_15 : decode cX10_clear 15 = .ok (.aload_n 0, 1) := by decide +kernel
theorem dX10_clear_16 : decode cX10_clear 16 = .ok (.iconst 0, 1) := by decide +kernel
theorem dX10_clear_17 : decode cX10_clear 17 = .ok (.putfield 32, 3) := by decide +kernel
theorem dX10_clear_20 : decode cX10_clear 20 = .ok (.return_, 1) := by decide +kernel
theorem dX10_copyFrom_0 : decode cX10_copyFrom 0 = .ok (.aload_n 0, 1) := by decide +kernel
theorem dX10_copyFrom_1 : decode cX10_copyFrom 1 = .ok (.aload_n 1, 1) := by decide +kernel
theorem dX10_copyFrom_2 : decode cX10_copyFrom 2 = .ok (.getfield 22, 3) := by decide +kernel
theorem dX10_copyFrom_5 : decode cX10_copyFrom 5 = .ok (.putfield 22, 3) := by decide +kernel
theorem dX10_copyFrom_8 : decode cX10_copyFrom 8 = .ok (.aload_n 0, 1) := by decide +kernel
theorem dX10_copyFrom_9 : decode cX10_copyFrom 9 = .ok (.aload_n 1, 1) := by decide +kernel
theorem dX10_copyFrom_10 : decode cX10_copyFrom 10 = .ok (.getfield 26, 3) := by decide +kernel
theorem dX10_copyFrom_13 : decode cX10_copyFrom 13 = .ok (.putfield 26, 3) := by decide +kernel
theorem dX10_copyFrom_16 : decode cX10_copyFrom 16 = .ok (.aload_n 0, 1) := by decide +kernel
theorem dX10_copyFrom_17 : decode cX10_copyFrom 17 = .ok (.aload_n 1, 1) := by decide +kernel
theorem dX10_copyFrom_18 : decode cX10_copyFrom 18 = .ok (.getfield 29, 3) := by decide +kernel
theorem dX10_copyFrom_21 : decode cX10_copyFrom 21 = .ok (.putfield 29, 3) := by decide +kernel
theorem dX10_copyFrom_24 : decode cX10_copyFrom 24 = .ok (.aload_n 0, 1) := by decide +kernel
theorem dX10_copyFrom_25 : decode cX10_copyFrom 25 = .ok (.aload_n 1, 1) := by decide +kernel
theorem dX10_copyFrom_26 : decode cX10_copyFrom 26 = .ok (.getfield 32, 3) := by decide +kernel
theorem dX10_copyFrom_29 : decode cX10_copyFrom 29 = .ok (.putfield 32, 3) := by decide +kernel
theorem dX10_copyFrom_32 : decode cX10_copyFrom 32 = .ok (.iconst 0, 1) := by decide +kernel
theorem dX10_copyFrom_33 : decode cX10_copyFrom 33 = .ok (.istore_n 2, 1) := by decide +kernel
theorem dX10_copyFrom_34 : decode cX10_copyFrom 34 = .ok (.iload_n 2, 1) := by decide +kernel
theorem dX10_copyFrom_35 : decode cX10_copyFrom 35 = .ok (.aload_n 0, 1) := by decide +kernel
theorem dX10_copyFrom_36 : decode cX10_copyFrom 36 = .ok (.getfield 22, 3) := by decide +kernel
theorem dX10_copyFrom_39 : decode cX10_copyFrom 39 = .ok (.if_icmp .ge 30, 3) := by decide +kernel
theorem dX10_copyFrom_42 : decode cX10_copyFrom 42 = .ok (.iload_n 2, 1) := by decide +kernel
theorem dX10_copyFrom_43 : decode cX10_copyFrom 43 = .ok (.bipush 20, 2) := by decide +kernel
theorem dX10_copyFrom_45 : decode cX10_copyFrom 45 = .ok (.if_icmp .ge 24, 3) := by decide +kernel
theorem dX10_copyFrom_48 : decode cX10_copyFrom 48 = .ok (.aload_n 0, 1) := by decide +kernel
theorem dX10_copyFrom_49 : decode cX10_copyFrom 49 = .ok (.getfield 11, 3) := by decide +kernel
theorem dX10_copyFrom_52 : decode cX10_copyFrom 52 = .ok (.iload_n 2, 1) := by decide +kernel
theorem dX10_copyFrom_53 : decode cX10_copyFrom 53 = .ok (.aaload, 1) := by decide +kernel
theorem dX10_copyFrom_54 : decode cX10_copyFrom 54 = .ok (.aload_n 1, 1) := by decide +kernel
theorem dX10_copyFrom_55 : decode cX10_copyFrom 55 = .ok (.getfield 11, 3) := by decide +kernel
theorem dX10_copyFrom_58 : decode cX10_copyFrom 58 = .ok (.iload_n 2, 1) := by decide +kernel
theorem dX10_copyFrom_59 : decode cX10_copyFrom 59 = .ok (.aaload, 1) := by decide +kernel
theorem dX10_copyFrom_60 : decode cX10_copyFrom 60 = .ok (.invokevirtual 35, 3) := by decide +kernel
theorem dX10_copyFrom_63 : decode cX10_copyFrom 63 = .ok (.iinc 2 1, 3) := by decide +kernel
theorem dX10_copyFrom_66 : decode cX10_copyFrom 66 = .ok (.goto (-32), 3) := by decide +kernel
theorem dX10_copyFrom_69 : decode cX10_copyFrom 69 = .ok (.return_, 1) := by decide +kernel
theorem dX10_has_0 : decode cX10_has 0 = .ok (.iload_n 1, 1) := by decide +kernel
theorem dX10_has_1 : decode cX10_has 1 = .ok (.ifCond .lt 21, 3) := by decide +kernel
theorem dX10_has_4 : decode cX10_has 4 = .ok (.iload_n 1, 1) := by decide +kernel
theorem dX10_has_5 : decode cX10_has 5 = .ok (.aload_n 0, 1) := by decide +kernel
theorem dX10_has_6 : decode cX10_has 6 = .ok (.getfield 22, 3) := by decide +kernel
theorem dX10_has_9 : decode cX10_has 9 = .ok (.if_icmp .ge 13, 3) := by decide +kernel
theorem dX10_has_12 : decode cX10_has 12 = .ok (.iload_n 1, 1) := by decide +kernel
theorem dX10_has_13 : decode cX10_has 13 = .ok (.bipush 20, 2) := by decide +kernel
theorem dX10_has_15 : decode cX10_has 15 = .ok (.if_icmp .ge 7, 3) := by decide +kernel
theorem dX10_has_18 : decode cX10_has 18 = .ok (.iconst 1, 1) := by decide +kernel
theorem dX10_has_19 : decode cX10_has 19 = .ok (.goto 4, 3) := by decide +kernel
theorem dX10_has_22 : decode cX10_has 22 = .ok (.iconst 0, 1) := by decide +kernel
theorem dX10_has_23 : decode cX10_has 23 = .ok (.ireturn, 1) := by decide +kernel
theorem dX10_at_0 : decode cX10_at 0 = .ok (.aload_n 0, 1) := by decide +kernel
theorem dX10_at_1 : decode cX10_at 1 = .ok (.iload_n 1, 1) := by decide +kernel
theorem dX10_at_2 : decode cX10_at 2 = .ok (.invokevirtual 39, 3) := by decide +kernel
theorem dX10_at_5 : decode cX10_at 5 = .ok (.ifCond .eq 12, 3) := by decide +kernel
theorem dX10_at_8 : decode cX10_at 8 = .ok (.aload_n 0, 1) := by decide +kernel
theorem dX10_at_9 : decode cX10_at 9 = .ok (.getfield 11, 3) := by decide +kernel
theorem dX10_at_12 : decode cX10_at 12 = .ok (.iload_n 1, 1) := by decide +kernel
theorem dX10_at_13 : decode cX10_at 13 = .ok (.aaload, 1) := by decide +kernel
theorem dX10_at_14 : decode cX10_at 14 = .ok (.goto 7, 3) := by decide +kernel
theorem dX10_at_17 : decode cX10_at 17 = .ok (.aload_n 0, 1) := by decide +kernel
theorem dX10_at_18 : decode cX10_at 18 = .ok (.getfield 18, 3) := by decide +kernel
theorem dX10_at_21 : decode cX10_at 21 = .ok (.areturn, 1) := by decide +kernel
theorem dX10_draft_0 : decode cX10_draft 0 = .ok (.aload_n 0, 1) := by decide +kernel
theorem dX10_draft_1 : decode cX10_draft 1 = .ok (.getfield 22, 3) := by decide +kernel
theorem dX10_draft_4 : decode cX10_draft 4 = .ok (.ifCond .lt 24, 3) := by decide +kernel
theorem dX10_draft_7 : decode cX10_draft 7 = .ok (.aload_n 0, 1) := by decide +kernel
theorem dX10_draft_8 : decode cX10_draft 8 = .ok (.getfield 22, 3) := by decide +kernel
theorem dX10_draft_11 : decode cX10_draft 11 = .ok (.bipush 20, 2) := by decide +kernel
theorem dX10_draft_13 : decode cX10_draft 13 = .ok (.if_icmp .gt 15, 3) := by decide +kernel
theorem dX10_draft_16 : decode cX10_draft 16 = .ok (.aload_n 0, 1) := by decide +kernel
theorem dX10_draft_17 : decode cX10_draft 17 = .ok (.getfield 11, 3) := by decide +kernel
theorem dX10_draft_20 : decode cX10_draft 20 = .ok (.aload_n 0, 1) := by decide +kernel
theorem dX10_draft_21 : decode cX10_draft 21 = .ok (.getfield 22, 3) := by decide +kernel
theorem dX10_draft_24 : decode cX10_draft 24 = .ok (.aaload, 1) := by decide +kernel
theorem dX10_draft_25 : decode cX10_draft 25 = .ok (.goto 7, 3) := by decide +kernel
theorem dX10_draft_28 : decode cX10_draft 28 = .ok (.aload_n 0, 1) := by decide +kernel
theorem dX10_draft_29 : decode cX10_draft 29 = .ok (.getfield 18, 3) := by decide +kernel
theorem dX10_draft_32 : decode cX10_draft 32 = .ok (.areturn, 1) := by decide +kernel
theorem dX10_sendDraft_0 : decode cX10_sendDraft 0 = .ok (.aload_n 0, 1) := by decide +kernel
theorem dX10_sendDraft_1 : decode cX10_sendDraft 1 = .ok (.dup, 1) := by decide +kernel
theorem dX10_sendDraft_2 : decode cX10_sendDraft 2 = .ok (.getfield 26, 3) := by decide +kernel
theorem dX10_sendDraft_5 : decode cX10_sendDraft 5 = .ok (.iconst 1, 1) := by decide +kernel
theorem dX10_sendDraft_6 : decode cX10_sendDraft 6 = .ok (.iadd, 1) := by decide +kernel
theorem dX10_sendDraft_7 : decode cX10_sendDraft 7 = .ok (.putfield 26, 3) := by decide +kernel
theorem dX10_sendDraft_10 : decode cX10_sendDraft 10 = .ok (.aload_n 0, 1) := by decide +kernel
theorem dX10_sendDraft_11 : decode cX10_sendDraft 11 = .ok (.getfield 22, 3) := by decide +kernel
theorem dX10_sendDraft_14 : decode cX10_sendDraft 14 = .ok (.bipush 20, 2) := by decide +kernel
theorem dX10_sendDraft_16 : decode cX10_sendDraft 16 = .ok (.if_icmp .ge 16, 3) := by decide +kernel
theorem dX10_sendDraft_19 : decode cX10_sendDraft 19 = .ok (.aload_n 0, 1) := by decide +kernel
theorem dX10_sendDraft_20 : decode cX10_sendDraft 20 = .ok (.dup, 1) := by decide +kernel
theorem dX10_sendDraft_21 : decode cX10_sendDraft 21 = .ok (.getfield 22, 3) := by decide +kernel
theorem dX10_sendDraft_24 : decode cX10_sendDraft 24 = .ok (.iconst 1, 1) := by decide +kernel
theorem dX10_sendDraft_25 : decode cX10_sendDraft 25 = .ok (.iadd, 1) := by decide +kernel
theorem dX10_sendDraft_26 : decode cX10_sendDraft 26 = .ok (.putfield 22, 3) := by decide +kernel
theorem dX10_sendDraft_29 : decode cX10_sendDraft 29 = .ok (.goto 13, 3) := by decide +kernel
theorem dX10_sendDraft_32 : decode cX10_sendDraft 32 = .ok (.aload_n 0, 1) := by decide +kernel
theorem dX10_sendDraft_33 : decode cX10_sendDraft 33 = .ok (.dup, 1) := by decide +kernel
theorem dX10_sendDraft_34 : decode cX10_sendDraft 34 = .ok (.getfield 29, 3) := by decide +kernel
theorem dX10_sendDraft_37 : decode cX10_sendDraft 37 = .ok (.iconst 1, 1) := by decide +kernel
theorem dX10_sendDraft_38 : decode cX10_sendDraft 38 = .ok (.iadd, 1) := by decide +kernel
theorem dX10_sendDraft_39 : decode cX10_sendDraft 39 = .ok (.putfield 29, 3) := by decide +kernel
theorem dX10_sendDraft_42 : decode cX10_sendDraft 42 = .ok (.return_, 1) := by decide +kernel
theorem dX10_remove_0 : decode cX10_remove 0 = .ok (.aload_n 0, 1) := by decide +kernel
theorem dX10_remove_1 : decode cX10_remove 1 = .ok (.iload_n 1, 1) := by decide +kernel
theorem dX10_remove_2 : decode cX10_remove 2 = .ok (.invokevirtual 39, 3) := by decide +kernel
theorem dX10_remove_5 : decode cX10_remove 5 = .ok (.ifCond .eq 73, 3) := by decide +kernel
theorem dX10_remove_8 : decode cX10_remove 8 = .ok (.aload_n 0, 1) := by decide +kernel
theorem dX10_remove_9 : decode cX10_remove 9 = .ok (.getfield 22, 3) := by decide +kernel
theorem dX10_remove_12 : decode cX10_remove 12 = .ok (.bipush 20, 2) := by decide +kernel
theorem dX10_remove_14 : decode cX10_remove 14 = .ok (.invokestatic 43, 3) := by decide +kernel
theorem dX10_remove_17 : decode cX10_remove 17 = .ok (.iconst 1, 1) := by decide +kernel
theorem dX10_remove_18 : decode cX10_remove 18 = .ok (.isub, 1) := by decide +kernel
theorem dX10_remove_19 : decode cX10_remove 19 = .ok (.istore_n 2, 1) := by decide +kernel
theorem dX10_remove_20 : decode cX10_remove 20 = .ok (.aload_n 0, 1) := by decide +kernel
theorem dX10_remove_21 : decode cX10_remove 21 = .ok (.getfield 11, 3) := by decide +kernel
theorem dX10_remove_24 : decode cX10_remove 24 = .ok (.iload_n 1, 1) := by decide +kernel
theorem dX10_remove_25 : decode cX10_remove 25 = .ok (.aaload, 1) := by decide +kernel
theorem dX10_remove_26 : decode cX10_remove 26 = .ok (.astore_n 3, 1) := by decide +kernel
theorem dX10_remove_27 : decode cX10_remove 27 = .ok (.iload_n 1, 1) := by decide +kernel
theorem dX10_remove_28 : decode cX10_remove 28 = .ok (.istore 4, 2) := by decide +kernel
theorem dX10_remove_30 : decode cX10_remove 30 = .ok (.iload 4, 2) := by decide +kernel
theorem dX10_remove_32 : decode cX10_remove 32 = .ok (.iload_n 2, 1) := by decide +kernel
theorem dX10_remove_33 : decode cX10_remove 33 = .ok (.if_icmp .ge 25, 3) := by decide +kernel
theorem dX10_remove_36 : decode cX10_remove 36 = .ok (.aload_n 0, 1) := by decide +kernel
theorem dX10_remove_37 : decode cX10_remove 37 = .ok (.getfield 11, 3) := by decide +kernel
theorem dX10_remove_40 : decode cX10_remove 40 = .ok (.iload 4, 2) := by decide +kernel
theorem dX10_remove_42 : decode cX10_remove 42 = .ok (.aload_n 0, 1) := by decide +kernel
theorem dX10_remove_43 : decode cX10_remove 43 = .ok (.getfield 11, 3) := by decide +kernel
theorem dX10_remove_46 : decode cX10_remove 46 = .ok (.iload 4, 2) := by decide +kernel
theorem dX10_remove_48 : decode cX10_remove 48 = .ok (.iconst 1, 1) := by decide +kernel
theorem dX10_remove_49 : decode cX10_remove 49 = .ok (.iadd, 1) := by decide +kernel
theorem dX10_remove_50 : decode cX10_remove 50 = .ok (.aaload, 1) := by decide +kernel
theorem dX10_remove_51 : decode cX10_remove 51 = .ok (.aastore, 1) := by decide +kernel
theorem dX10_remove_52 : decode cX10_remove 52 = .ok (.iinc 4 1, 3) := by decide +kernel
theorem dX10_remove_55 : decode cX10_remove 55 = .ok (.goto (-25), 3) := by decide +kernel
theorem dX10_remove_58 : decode cX10_remove 58 = .ok (.aload_n 0, 1) := by decide +kernel
theorem dX10_remove_59 : decode cX10_remove 59 = .ok (.getfield 11, 3) := by decide +kernel
theorem dX10_remove_62 : decode cX10_remove 62 = .ok (.iload_n 2, 1) := by decide +kernel
theorem dX10_remove_63 : decode cX10_remove 63 = .ok (.aload_n 0, 1) := by decide +kernel
theorem dX10_remove_64 : decode cX10_remove 64 = .ok (.getfield 18, 3) := by decide +kernel
theorem dX10_remove_67 : decode cX10_remove 67 = .ok (.aastore, 1) := by decide +kernel
theorem dX10_remove_68 : decode cX10_remove 68 = .ok (.aload_n 0, 1) := by decide +kernel
theorem dX10_remove_69 : decode cX10_remove 69 = .ok (.aload_n 3, 1) := by decide +kernel
theorem dX10_remove_70 : decode cX10_remove 70 = .ok (.putfield 18, 3) := by decide +kernel
theorem dX10_remove_73 : decode cX10_remove 73 = .ok (.aload_n 0, 1) := by decide +kernel
theorem dX10_remove_74 : decode cX10_remove 74 = .ok (.iload_n 2, 1) := by decide +kernel
theorem dX10_remove_75 : decode cX10_remove 75 = .ok (.putfield 22, 3) := by decide +kernel
theorem dX10_remove_78 : decode cX10_remove 78 = .ok (.aload_n 0, 1) := by decide +kernel
theorem dX10_remove_79 : decode cX10_remove 79 = .ok (.getfield 18, 3) := by decide +kernel
theorem dX10_remove_82 : decode cX10_remove 82 = .ok (.areturn, 1) := by decide +kernel
theorem dX10_duplicate_0 : decode cX10_duplicate 0 = .ok (.aload_n 0, 1) := by decide +kernel
theorem dX10_duplicate_1 : decode cX10_duplicate 1 = .ok (.iload_n 1, 1) := by decide +kernel
theorem dX10_duplicate_2 : decode cX10_duplicate 2 = .ok (.invokevirtual 39, 3) := by decide +kernel
theorem dX10_duplicate_5 : decode cX10_duplicate 5 = .ok (.ifCond .eq 12, 3) := by decide +kernel
theorem dX10_duplicate_8 : decode cX10_duplicate 8 = .ok (.aload_n 0, 1) := by decide +kernel
theorem dX10_duplicate_9 : decode cX10_duplicate 9 = .ok (.getfield 22, 3) := by decide +kernel
theorem dX10_duplicate_12 : decode cX10_duplicate 12 = .ok (.bipush 20, 2) := by decide +kernel
theorem dX10_duplicate_14 : decode cX10_duplicate 14 = .ok (.if_icmp .lt 5, 3) := by decide +kernel
theorem dX10_duplicate_17 : decode cX10_duplicate 17 = .ok (.iconst 0, 1) := by decide +kernel
theorem dX10_duplicate_18 : decode cX10_duplicate 18 = .ok (.ireturn, 1) := by decide +kernel
theorem dX10_duplicate_19 : decode cX10_duplicate 19 = .ok (.aload_n 0, 1) := by decide +kernel
theorem dX10_duplicate_20 : decode cX10_duplicate 20 = .ok (.getfield 11, 3) := by decide +kernel
theorem dX10_duplicate_23 : decode cX10_duplicate 23 = .ok (.aload_n 0, 1) := by decide +kernel
theorem dX10_duplicate_24 : decode cX10_duplicate 24 = .ok (.getfield 22, 3) := by decide +kernel
theorem dX10_duplicate_27 : decode cX10_duplicate 27 = .ok (.aaload, 1) := by decide +kernel
theorem dX10_duplicate_28 : decode cX10_duplicate 28 = .ok (.aload_n 0, 1) := by decide +kernel
theorem dX10_duplicate_29 : decode cX10_duplicate 29 = .ok (.getfield 11, 3) := by decide +kernel
theorem dX10_duplicate_32 : decode cX10_duplicate 32 = .ok (.iload_n 1, 1) := by decide +kernel
theorem dX10_duplicate_33 : decode cX10_duplicate 33 = .ok (.aaload, 1) := by decide +kernel
theorem dX10_duplicate_34 : decode cX10_duplicate 34 = .ok (.invokevirtual 35, 3) := by decide +kernel
theorem dX10_duplicate_37 : decode cX10_duplicate 37 = .ok (.aload_n 0, 1) := by decide +kernel
theorem dX10_duplicate_38 : decode cX10_duplicate 38 = .ok (.dup, 1) := by decide +kernel
theorem dX10_duplicate_39 : decode cX10_duplicate 39 = .ok (.getfield 22, 3) := by decide +kernel
theorem dX10_duplicate_42 : decode cX10_duplicate 42 = .ok (.iconst 1, 1) := by decide +kernel
theorem dX10_duplicate_43 : decode cX10_duplicate 43 = .ok (.iadd, 1) := by decide +kernel
theorem dX10_duplicate_44 : decode cX10_duplicate 44 = .ok (.putfield 22, 3) := by decide +kernel
theorem dX10_duplicate_47 : decode cX10_duplicate 47 = .ok (.iconst 1, 1) := by decide +kernel
theorem dX10_duplicate_48 : decode cX10_duplicate 48 = .ok (.ireturn, 1) := by decide +kernel
theorem dX11_init_0 : decode cX11_init 0 = .ok (.aload_n 0, 1) := by decide +kernel
theorem dX11_init_1 : decode cX11_init 1 = .ok (.invokespecial 1, 3) := by decide +kernel
theorem dX11_init_4 : decode cX11_init 4 = .ok (.aload_n 0, 1) := by decide +kernel
theorem dX11_init_5 : decode cX11_init 5 = .ok (.new 7, 3) := by decide +kernel
theorem dX11_init_8 : decode cX11_init 8 = .ok (.dup, 1) := by decide +kernel
theorem dX11_init_9 : decode cX11_init 9 = .ok (.invokespecial 9, 3) := by decide +kernel
theorem dX11_init_12 : decode cX11_init 12 = .ok (.putfield 10, 3) := by decide +kernel
theorem dX11_init_15 : decode cX11_init 15 = .ok (.aload_n 0, 1) := by decide +kernel
theorem dX11_init_16 : decode cX11_init 16 = .ok (.new 16, 3) := by decide +kernel
theorem dX11_init_19 : decode cX11_init 19 = .ok (.dup, 1) := by decide +kernel
theorem dX11_init_20 : decode cX11_init 20 = .ok (.invokespecial 18, 3) := by decide +kernel
theorem dX11_init_23 : decode cX11_init 23 = .ok (.putfield 19, 3) := by decide +kernel
theorem dX11_init_26 : decode cX11_init 26 = .ok (.aload_n 0, 1) := by decide +kernel
theorem dX11_init_27 : decode cX11_init 27 = .ok (.new 23, 3) := by decide +kernel
theorem dX11_init_30 : decode cX11_init 30 = .ok (.dup, 1) := by decide +kernel
theorem dX11_init_31 : decode cX11_init 31 = .ok (.invokespecial 25, 3) := by decide +kernel
theorem dX11_init_34 : decode cX11_init 34 = .ok (.putfield 26, 3) := by decide +kernel
theorem dX11_init_37 : decode cX11_init 37 = .ok (.aload_n 0, 1) := by decide +kernel
theorem dX11_init_38 : decode cX11_init 38 = .ok (.new 23, 3) := by decide +kernel
theorem dX11_init_41 : decode cX11_init 41 = .ok (.dup, 1) := by decide +kernel
theorem dX11_init_42 : decode cX11_init 42 = .ok (.invokespecial 25, 3) := by decide +kernel
theorem dX11_init_45 : decode cX11_init 45 = .ok (.putfield 30, 3) := by decide +kernel
theorem dX11_init_48 : decode cX11_init 48 = .ok (.aload_n 0, 1) := by decide +kernel
theorem dX11_init_49 : decode cX11_init 49 = .ok (.getfield 19, 3) := by decide +kernel
theorem dX11_init_52 : decode cX11_init 52 = .ok (.bipush 12, 2) := by decide +kernel
theorem dX11_init_54 : decode cX11_init 54 = .ok (.putfield 33, 3) := by decide +kernel
theorem dX11_init_57 : decode cX11_init 57 = .ok (.aload_n 0, 1) := by decide +kernel
theorem dX11_init_58 : decode cX11_init 58 = .ok (.getfield 19, 3) := by decide +kernel
theorem dX11_init_61 : decode cX11_init 61 = .ok (.sipush 250, 3) := by decide +kernel
theorem dX11_init_64 : decode cX11_init 64 = .ok (.putfield 37, 3) := by decide +kernel
theorem dX11_init_67 : decode cX11_init 67 = .ok (.aload_n 0, 1) := by decide +kernel
theorem dX11_init_68 : decode cX11_init 68 = .ok (.getfield 19, 3) := by decide +kernel
theorem dX11_init_71 : decode cX11_init 71 = .ok (.bipush 100, 2) := by decide +kernel
theorem dX11_init_73 : decode cX11_init 73 = .ok (.putfield 40, 3) := by decide +kernel
theorem dX11_init_76 : decode cX11_init 76 = .ok (.aload_n 0, 1) := by decide +kernel
theorem dX11_init_77 : decode cX11_init 77 = .ok (.getfield 26, 3) := by decide +kernel
theorem dX11_init_80 : decode cX11_init 80 = .ok (.aload_n 0, 1) := by decide +kernel
theorem dX11_init_81 : decode cX11_init 81 = .ok (.getfield 19, 3) := by decide +kernel
theorem dX11_init_84 : decode cX11_init 84 = .ok (.invokevirtual 43, 3) := by decide +kernel
theorem dX11_init_87 : decode cX11_init 87 = .ok (.return_, 1) := by decide +kernel
theorem dX11_write_0 : decode cX11_write 0 = .ok (.iload_n 1, 1) := by decide +kernel
theorem dX11_write_1 : decode cX11_write 1 = .ok (.bipush 32, 2) := by decide +kernel
theorem dX11_write_3 : decode cX11_write 3 = .ok (.if_icmp .lt 9, 3) := by decide +kernel
theorem dX11_write_6 : decode cX11_write 6 = .ok (.iload_n 1, 1) := by decide +kernel
theorem dX11_write_7 : decode cX11_write 7 = .ok (.bipush 126, 2) := by decide +kernel
theorem dX11_write_9 : decode cX11_write 9 = .ok (.if_icmp .le 5, 3) := by decide +kernel
theorem dX11_write_12 : decode cX11_write 12 = .ok (.iconst (-1), 1) := by decide +kernel
theorem dX11_write_13 : decode cX11_write 13 = .ok (.ireturn, 1) := by decide +kernel
theorem dX11_write_14 : decode cX11_write 14 = .ok (.aload_n 0, 1) := by decide +kernel
theorem dX11_write_15 : decode cX11_write 15 = .ok (.getfield 10, 3) := by decide +kernel
theorem dX11_write_18 : decode cX11_write 18 = .ok (.iload_n 1, 1) := by decide +kernel
theorem dX11_write_19 : decode cX11_write 19 = .ok (.invokevirtual 47, 3) := by decide +kernel
theorem dX11_write_22 : decode cX11_write 22 = .ok (.ifCond .eq 13, 3) := by decide +kernel
theorem dX11_write_25 : decode cX11_write 25 = .ok (.aload_n 0, 1) := by decide +kernel
theorem dX11_write_26 : decode cX11_write 26 = .ok (.getfield 10, 3) := by decide +kernel
theorem dX11_write_29 : decode cX11_write 29 = .ok (.getfield 51, 3) := by decide +kernel
theorem dX11_write_32 : decode cX11_write 32 = .ok (.goto 5, 3) := by decide +kernel
theorem dX11_write_35 : decode cX11_write 35 = .ok (.bipush (-3), 2) := by decide +kernel
theorem dX11_write_37 : decode cX11_write 37 = .ok (.ireturn, 1) := by decide +kernel
theorem dX11_wipe_0 : decode cX11_wipe 0 = .ok (.aload_n 0, 1) := by decide +kernel
theorem dX11_wipe_1 : decode cX11_wipe 1 = .ok (.getfield 10, 3) := by decide +kernel
theorem dX11_wipe_4 : decode cX11_wipe 4 = .ok (.getfield 51, 3) := by decide +kernel
theorem dX11_wipe_7 : decode cX11_wipe 7 = .ok (.istore_n 1, 1) := by decide +kernel
theorem dX11_wipe_8 : decode cX11_wipe 8 = .ok (.aload_n 0, 1) := by decide +kernel
theorem dX11_wipe_9 : decode cX11_wipe 9 = .ok (.getfield 10, 3) := by decide +kernel
theorem dX11_wipe_12 : decode cX11_wipe 12 = .ok (.iconst 0, 1) := by decide +kernel
theorem dX11_wipe_13 : decode cX11_wipe 13 = .ok (.putfield 51, 3) := by decide +kernel
theorem dX11_wipe_16 : decode cX11_wipe 16 = .ok (.iload_n 1, 1) := by decide +kernel
theorem dX11_wipe_17 : decode cX11_wipe 17 = .ok (.ireturn, 1) := by decide +kernel
theorem dX11_fault_0 : decode cX11_fault 0 = .ok (.aload_n 0, 1) := by decide +kernel
theorem dX11_fault_1 : decode cX11_fault 1 = .ok (.getfield 19, 3) := by decide +kernel
theorem dX11_fault_4 : decode cX11_fault 4 = .ok (.aload_n 0, 1) := by decide +kernel
theorem dX11_fault_5 : decode cX11_fault 5 = .ok (.getfield 10, 3) := by decide +kernel
theorem dX11_fault_8 : decode cX11_fault 8 = .ok (.invokevirtual 54, 3) := by decide +kernel
theorem dX11_fault_11 : decode cX11_fault 11 = .ok (.ireturn, 1) := by decide +kernel
theorem dX11_lay_0 : decode cX11_lay 0 = .ok (.aload_n 0, 1) := by decide +kernel
theorem dX11_lay_1 : decode cX11_lay 1 = .ok (.getfield 19, 3) := by decide +kernel
theorem dX11_lay_4 : decode cX11_lay 4 = .ok (.aload_n 0, 1) := by decide +kernel
theorem dX11_lay_5 : decode cX11_lay 5 = .ok (.getfield 10, 3) := by decide +kernel
theorem dX11_lay_8 : decode cX11_lay 8 = .ok (.invokevirtual 54, 3) := by decide +kernel
theorem dX11_lay_11 : decode cX11_lay 11 = .ok (.bipush (-4), 2) := by decide +kernel
theorem dX11_lay_13 : decode cX11_lay 13 = .ok (.if_icmp .ne 13, 3) := by decide +kernel
theorem dX11_lay_16 : decode cX11_lay 16 = .ok (.aload_n 0, 1) := by decide +kernel
theorem dX11_lay_17 : decode cX11_lay 17 = .ok (.getfield 19, 3) := by decide +kernel
theorem dX11_lay_20 : decode cX11_lay 20 = .ok (.invokevirtual 58, 3) := by decide +kernel
theorem dX11_lay_23 : decode cX11_lay 23 = .ok (.ifCond .ne 6, 3) := by decide +kernel
theorem dX11_lay_26 : decode cX11_lay 26 = .ok (.bipush (-2), 2) := by decide +kernel
theorem dX11_lay_28 : decode cX11_lay 28 = .ok (.ireturn, 1) := by decide +kernel
theorem dX11_lay_29 : decode cX11_lay 29 = .ok (.aload_n 0, 1) := by decide +kernel
theorem dX11_lay_30 : decode cX11_lay 30 = .ok (.getfield 26, 3) := by decide +kernel
theorem dX11_lay_33 : decode cX11_lay 33 = .ok (.aload_n 0, 1) := by decide +kernel
theorem dX11_lay_34 : decode cX11_lay 34 = .ok (.getfield 19, 3) := by decide +kernel
theorem dX11_lay_37 : decode cX11_lay 37 = .ok (.invokevirtual 43, 3) := by decide +kernel
theorem dX11_lay_40 : decode cX11_lay 40 = .ok (.aload_n 0, 1) := by decide +kernel
theorem dX11_lay_41 : decode cX11_lay 41 = .ok (.getfield 19, 3) := by decide +kernel
theorem dX11_lay_44 : decode cX11_lay 44 = .ok (.getfield 62, 3) := by decide +kernel
theorem dX11_lay_47 : decode cX11_lay 47 = .ok (.ireturn, 1) := by decide +kernel
theorem dX11_open_0 : decode cX11_open 0 = .ok (.iload_n 1, 1) := by decide +kernel
theorem dX11_open_1 : decode cX11_open 1 = .ok (.invokestatic 65, 3) := by decide +kernel
theorem dX11_open_4 : decode cX11_open 4 = .ok (.ifCond .eq 12, 3) := by decide +kernel
theorem dX11_open_7 : decode cX11_open 7 = .ok (.iload_n 2, 1) := by decide +kernel
theorem dX11_open_8 : decode cX11_open 8 = .ok (.ifCond .lt 8, 3) := by decide +kernel
theorem dX11_open_11 : decode cX11_open 11 = .ok (.iload_n 2, 1) := by decide +kernel
theorem dX11_open_12 : decode cX11_open 12 = .ok (.iconst 1, 1) := by decide +kernel
theorem dX11_open_13 : decode cX11_open 13 = .ok (.if_icmp .le 5, 3) := by decide +kernel
theorem dX11_open_16 : decode cX11_open 16 = .ok (.iconst (-1), 1) := by decide +kernel
theorem dX11_open_17 : decode cX11_open 17 = .ok (.ireturn, 1) := by decide +kernel
theorem dX11_open_18 : decode cX11_open 18 = .ok (.aload_n 0, 1) := by decide +kernel
theorem dX11_open_19 : decode cX11_open 19 = .ok (.getfield 26, 3) := by decide +kernel
theorem dX11_open_22 : decode cX11_open 22 = .ok (.iload_n 1, 1) := by decide +kernel
theorem dX11_open_23 : decode cX11_open 23 = .ok (.invokevirtual 68, 3) := by decide +kernel
theorem dX11_open_26 : decode cX11_open 26 = .ok (.astore_n 3, 1) := by decide +kernel
theorem dX11_open_27 : decode cX11_open 27 = .ok (.aload_n 3, 1) := by decide +kernel
theorem dX11_open_28 : decode cX11_open 28 = .ok (.getfield 72, 3) := by decide +kernel
theorem dX11_open_31 : decode cX11_open 31 = .ok (.ifCond .eq 6, 3) := by decide +kernel
theorem dX11_open_34 : decode cX11_open 34 = .ok (.bipush (-2), 2) := by decide +kernel
theorem dX11_open_36 : decode cX11_open 36 = .ok (.ireturn, 1) := by decide +kernel
theorem dX11_open_37 : decode cX11_open 37 = .ok (.aload_n 3, 1) := by decide +kernel
theorem dX11_open_38 : decode cX11_open 38 = .ok (.invokevirtual 77, 3) := by decide +kernel
theorem dX11_open_41 : decode cX11_open 41 = .ok (.iload_n 2, 1) := by decide +kernel
theorem dX11_open_42 : decode cX11_open 42 = .ok (.ifCond .ne 11, 3) := by decide +kernel
theorem dX11_open_45 : decode cX11_open 45 = .ok (.aload_n 3, 1) := by decide +kernel
theorem dX11_open_46 : decode cX11_open 46 = .ok (.iconst 1, 1) := by decide +kernel
theorem dX11_open_47 : decode cX11_open 47 = .ok (.putfield 72, 3) := by decide +kernel
theorem dX11_open_50 : decode cX11_open 50 = .ok (.goto 12, 3) := by decide +kernel
theorem dX11_open_53 : decode cX11_open 53 = .ok (.aload_n 3, 1) := by decide +kernel
theorem dX11_open_54 : decode cX11_open 54 = .ok (.iconst 2, 1) := by decide +kernel
theorem dX11_open_55 : decode cX11_open 55 = .ok (.putfield 72, 3) := by decide +kernel
theorem dX11_open_58 : decode cX11_open 58 = .ok (.aload_n 3, 1) := by decide +kernel
theorem dX11_open_59 : decode cX11_open 59 = .ok (.invokevirtual 80, 3) := by decide +kernel
theorem dX11_open_62 : decode cX11_open 62 = .ok (.aload_n 3, 1) := by decide +kernel
theorem dX11_open_63 : decode cX11_open 63 = .ok (.invokevirtual 83, 3) := by decide +kernel
theorem dX11_open_66 : decode cX11_open 66 = .ok (.aload_n 0, 1) := by decide +kernel
theorem dX11_open_67 : decode cX11_open 67 = .ok (.getfield 26, 3) := by decide +kernel
theorem dX11_open_70 : decode cX11_open 70 = .ok (.getfield 86, 3) := by decide +kernel
theorem dX11_open_73 : decode cX11_open 73 = .ok (.getfield 90, 3) := by decide +kernel
theorem dX11_open_76 : decode cX11_open 76 = .ok (.ireturn, 1) := by decide +kernel
theorem dX11_say_0 : decode cX11_say 0 = .ok (.iload_n 1, 1) := by decide +kernel
theorem dX11_say_1 : decode cX11_say 1 = .ok (.invokestatic 65, 3) := by decide +kernel
theorem dX11_say_4 : decode cX11_say 4 = .ok (.ifCond .eq 14, 3) := by decide +kernel
theorem dX11_say_7 : decode cX11_say 7 = .ok (.iload_n 2, 1) := by decide +kernel
theorem dX11_say_8 : decode cX11_say 8 = .ok (.ifCond .lt 10, 3) := by decide +kernel
theorem dX11_say_11 : decode cX11_say 11 = .ok (.iload_n 2, 1) := by decide +kernel
theorem dX11_say_12 : decode cX11_say 12 = .ok (.sipush 255, 3) := by decide +kernel
theorem dX11_say_15 : decode cX11_say 15 = .ok (.if_icmp .le 5, 3) := by decide +kernel
theorem dX11_say_18 : decode cX11_say 18 = .ok (.iconst (-1), 1) := by decide +kernel
theorem dX11_say_19 : decode cX11_say 19 = .ok (.ireturn, 1) := by decide +kernel
theorem dX11_say_20 : decode cX11_say 20 = .ok (.aload_n 0, 1) := by decide +kernel
theorem dX11_say_21 : decode cX11_say 21 = .ok (.getfield 26, 3) := by decide +kernel
theorem dX11_say_24 : decode cX11_say 24 = .ok (.iload_n 1, 1) := by decide +kernel
theorem dX11_say_25 : decode cX11_say 25 = .ok (.invokevirtual 68, 3) := by decide +kernel
theorem dX11_say_28 : decode cX11_say 28 = .ok (.astore_n 3, 1) := by decide +kernel
theorem dX11_say_29 : decode cX11_say 29 = .ok (.aload_n 3, 1) := by decide +kernel
theorem dX11_say_30 : decode cX11_say 30 = .ok (.invokevirtual 95, 3) := by decide +kernel
theorem dX11_say_33 : decode cX11_say 33 = .ok (.ifCond .ne 6, 3) := by decide +kernel
theorem dX11_say_36 : decode cX11_say 36 = .ok (.bipush (-2), 2) := by decide +kernel
theorem dX11_say_38 : decode cX11_say 38 = .ok (.ireturn, 1) := by decide +kernel
theorem dX11_say_39 : decode cX11_say 39 = .ok (.aload_n 3, 1) := by decide +kernel
theorem dX11_say_40 : decode cX11_say 40 = .ok (.getfield 98, 3) := by decide +kernel
theorem dX11_say_43 : decode cX11_say 43 = .ok (.invokevirtual 102, 3) := by decide +kernel
theorem dX11_say_46 : decode cX11_say 46 = .ok (.bipush 32, 2) := by decide +kernel
theorem dX11_say_48 : decode cX11_say 48 = .ok (.if_icmp .lt 6, 3) := by decide +kernel
theorem dX11_say_51 : decode cX11_say 51 = .ok (.bipush (-3), 2) := by decide +kernel
theorem dX11_say_53 : decode cX11_say 53 = .ok (.ireturn, 1) := by decide +kernel
theorem dX11_say_54 : decode cX11_say 54 = .ok (.aload_n 3, 1) := by decide +kernel
theorem dX11_say_55 : decode cX11_say 55 = .ok (.getfield 98, 3) := by decide +kernel
theorem dX11_say_58 : decode cX11_say 58 = .ok (.iload_n 2, 1) := by decide +kernel
theorem dX11_say_59 : decode cX11_say 59 = .ok (.invokevirtual 108, 3) := by decide +kernel
theorem dX11_say_62 : decode cX11_say 62 = .ok (.aload_n 3, 1) := by decide +kernel
theorem dX11_say_63 : decode cX11_say 63 = .ok (.invokevirtual 111, 3) := by decide +kernel
theorem dX11_say_66 : decode cX11_say 66 = .ok (.aload_n 3, 1) := by decide +kernel
theorem dX11_say_67 : decode cX11_say 67 = .ok (.invokevirtual 83, 3) := by decide +kernel
theorem dX11_say_70 : decode cX11_say 70 = .ok (.aload_n 3, 1) := by decide +kernel
theorem dX11_say_71 : decode cX11_say 71 = .ok (.getfield 98, 3) := by decide +kernel
theorem dX11_say_74 : decode cX11_say 74 = .ok (.invokevirtual 102, 3) := by decide +kernel
theorem dX11_say_77 : decode cX11_say 77 = .ok (.ireturn, 1) := by decide +kernel
theorem dX11_cry_0 : decode cX11_cry 0 = .ok (.iload_n 1, 1) := by decide +kernel
theorem dX11_cry_1 : decode cX11_cry 1 = .ok (.invokestatic 65, 3) := by decide +kernel
theorem dX11_cry_4 : decode cX11_cry 4 = .ok (.ifCond .ne 5, 3) := by decide +kernel
theorem dX11_cry_7 : decode cX11_cry 7 = .ok (.iconst (-1), 1) := by decide +kernel
theorem dX11_cry_8 : decode cX11_cry 8 = .ok (.ireturn, 1) := by decide +kernel
theorem dX11_cry_9 : decode cX11_cry 9 = .ok (.aload_n 0, 1) := by decide +kernel
theorem dX11_cry_10 : decode cX11_cry 10 = .ok (.getfield 26, 3) := by decide +kernel
theorem dX11_cry_13 : decode cX11_cry 13 = .ok (.iload_n 1, 1) := by decide +kernel
theorem dX11_cry_14 : decode cX11_cry 14 = .ok (.invokevirtual 68, 3) := by decide +kernel
theorem dX11_cry_17 : decode cX11_cry 17 = .ok (.astore_n 2, 1) := by decide +kernel
theorem dX11_cry_18 : decode cX11_cry 18 = .ok (.aload_n 2, 1) := by decide +kernel
theorem dX11_cry_19 : decode cX11_cry 19 = .ok (.invokevirtual 95, 3) := by decide +kernel
theorem dX11_cry_22 : decode cX11_cry 22 = .ok (.ifCond .eq 13, 3) := by decide +kernel
theorem dX11_cry_25 : decode cX11_cry 25 = .ok (.aload_n 2, 1) := by decide +kernel
theorem dX11_cry_26 : decode cX11_cry 26 = .ok (.getfield 98, 3) := by decide +kernel
theorem dX11_cry_29 : decode cX11_cry 29 = .ok (.getfield 114, 3) := by decide +kernel
theorem dX11_cry_32 : decode cX11_cry 32 = .ok (.ifCond .ne 6, 3) := by decide +kernel
theorem dX11_cry_35 : decode cX11_cry 35 = .ok (.bipush (-2), 2) := by decide +kernel
theorem dX11_cry_37 : decode cX11_cry 37 = .ok (.ireturn, 1) := by decide +kernel
theorem dX11_cry_38 : decode cX11_cry 38 = .ok (.aload_n 2, 1) := by decide +kernel
theorem dX11_cry_39 : decode cX11_cry 39 = .ok (.getfield 98, 3) := by decide +kernel
theorem dX11_cry_42 : decode cX11_cry 42 = .ok (.aload_n 2, 1) := by decide +kernel
theorem dX11_cry_43 : decode cX11_cry 43 = .ok (.getfield 98, 3) := by decide +kernel
theorem dX11_cry_46 : decode cX11_cry 46 = .ok (.getfield 114, 3) := by decide +kernel
theorem dX11_cry_49 : decode cX11_cry 49 = .ok (.iconst 1, 1) := by decide +kernel
theorem dX11_cry_50 : decode cX11_cry 50 = .ok (.iadd, 1) := by decide +kernel
theorem dX11_cry_51 : decode cX11_cry 51 = .ok (.putfield 117, 3) := by decide +kernel
theorem dX11_cry_54 : decode cX11_cry 54 = .ok (.aload_n 2, 1) := by decide +kernel
theorem dX11_cry_55 : decode cX11_cry 55 = .ok (.getfield 98, 3) := by decide +kernel
theorem dX11_cry_58 : decode cX11_cry 58 = .ok (.getfield 117, 3) := by decide +kernel
theorem dX11_cry_61 : decode cX11_cry 61 = .ok (.ireturn, 1) := by decide +kernel
theorem dX11_leave_0 : decode cX11_leave 0 = .ok (.iload_n 1, 1) := by decide +kernel
theorem dX11_leave_1 : decode cX11_leave 1 = .ok (.invokestatic 65, 3) := by decide +kernel
theorem dX11_leave_4 : decode cX11_leave 4 = .ok (.ifCond .ne 5, 3) := by decide +kernel
theorem dX11_leave_7 : decode cX11_leave 7 = .ok (.iconst (-1), 1) := by decide +kernel
theorem dX11_leave_8 : decode cX11_leave 8 = .ok (.ireturn, 1) := by decide +kernel
theorem dX11_leave_9 : decode cX11_leave 9 = .ok (.aload_n 0, 1) := by decide +kernel
theorem dX11_leave_10 : decode cX11_leave 10 = .ok (.getfield 26, 3) := by decide +kernel
theorem dX11_leave_13 : decode cX11_leave 13 = .ok (.iload_n 1, 1) := by decide +kernel
theorem dX11_leave_14 : decode cX11_leave 14 = .ok (.invokevirtual 68, 3) := by decide +kernel
theorem dX11_leave_17 : decode cX11_leave 17 = .ok (.astore_n 2, 1) := by decide +kernel
theorem dX11_leave_18 : decode cX11_leave 18 = .ok (.aload_n 2, 1) := by decide +kernel
theorem dX11_leave_19 : decode cX11_leave 19 = .ok (.getfield 72, 3) := by decide +kernel
theorem dX11_leave_22 : decode cX11_leave 22 = .ok (.tableswitch 85 1 7 #[42, 42, 51, 51, 85, 85, 51], 42) := by decide +kernel
theorem dX11_leave_64 : decode cX11_leave 64 = .ok (.aload_n 2, 1) := by decide +kernel
theorem dX11_leave_65 : decode cX11_leave 65 = .ok (.invokevirtual 120, 3) := by decide +kernel
theorem dX11_leave_68 : decode cX11_leave 68 = .ok (.aload_n 2, 1) := by decide +kernel
theorem dX11_leave_69 : decode cX11_leave 69 = .ok (.getfield 72, 3) := by decide +kernel
theorem dX11_leave_72 : decode cX11_leave 72 = .ok (.ireturn, 1) := by decide +kernel
theorem dX11_leave_73 : decode cX11_leave 73 = .ok (.aload_n 2, 1) := by decide +kernel
theorem dX11_leave_74 : decode cX11_leave 74 = .ok (.getfield 98, 3) := by decide +kernel
theorem dX11_leave_77 : decode cX11_leave 77 = .ok (.getfield 123, 3) := by decide +kernel
theorem dX11_leave_80 : decode cX11_leave 80 = .ok (.ifCond .eq 6, 3) := by decide +kernel
theorem dX11_leave_83 : decode cX11_leave 83 = .ok (.bipush (-2), 2) := by decide +kernel
theorem dX11_leave_85 : decode cX11_leave 85 = .ok (.ireturn, 1) := by decide +kernel
theorem dX11_leave_86 : decode cX11_leave 86 = .ok (.aload_n 2, 1) := by decide +kernel
theorem dX11_leave_87 : decode cX11_leave 87 = .ok (.getfield 98, 3) := by decide +kernel
theorem dX11_leave_90 : decode cX11_leave 90 = .ok (.iconst 1, 1) := by decide +kernel
theorem dX11_leave_91 : decode cX11_leave 91 = .ok (.putfield 123, 3) := by decide +kernel
theorem dX11_leave_94 : decode cX11_leave 94 = .ok (.aload_n 2, 1) := by decide +kernel
theorem dX11_leave_95 : decode cX11_leave 95 = .ok (.invokevirtual 111, 3) := by decide +kernel
theorem dX11_leave_98 : decode cX11_leave 98 = .ok (.aload_n 2, 1) := by decide +kernel
theorem dX11_leave_99 : decode cX11_leave 99 = .ok (.invokevirtual 83, 3) := by decide +kernel
theorem dX11_leave_102 : decode cX11_leave 102 = .ok (.aload_n 2, 1) := by decide +kernel
theorem dX11_leave_103 : decode cX11_leave 103 = .ok (.getfield 72, 3) := by decide +kernel
theorem dX11_leave_106 : decode cX11_leave 106 = .ok (.ireturn, 1) := by decide +kernel
theorem dX11_leave_107 : decode cX11_leave 107 = .ok (.bipush (-2), 2) := by decide +kernel
theorem dX11_leave_109 : decode cX11_leave 109 = .ok (.ireturn, 1) := by decide +kernel
theorem dX11_quit_0 : decode cX11_quit 0 = .ok (.iload_n 1, 1) := by decide +kernel
theorem dX11_quit_1 : decode cX11_quit 1 = .ok (.invokestatic 65, 3) := by decide +kernel
theorem dX11_quit_4 : decode cX11_quit 4 = .ok (.ifCond .ne 5, 3) := by decide +kernel
theorem dX11_quit_7 : decode cX11_quit 7 = .ok (.iconst (-1), 1) := by decide +kernel
theorem dX11_quit_8 : decode cX11_quit 8 = .ok (.ireturn, 1) := by decide +kernel
theorem dX11_quit_9 : decode cX11_quit 9 = .ok (.aload_n 0, 1) := by decide +kernel
theorem dX11_quit_10 : decode cX11_quit 10 = .ok (.getfield 26, 3) := by decide +kernel
theorem dX11_quit_13 : decode cX11_quit 13 = .ok (.iload_n 1, 1) := by decide +kernel
theorem dX11_quit_14 : decode cX11_quit 14 = .ok (.invokevirtual 68, 3) := by decide +kernel
theorem dX11_quit_17 : decode cX11_quit 17 = .ok (.astore_n 2, 1) := by decide +kernel
theorem dX11_quit_18 : decode cX11_quit 18 = .ok (.aload_n 2, 1) := by decide +kernel
theorem dX11_quit_19 : decode cX11_quit 19 = .ok (.getfield 72, 3) := by decide +kernel
theorem dX11_quit_22 : decode cX11_quit 22 = .ok (.istore_n 3, 1) := by decide +kernel
theorem dX11_quit_23 : decode cX11_quit 23 = .ok (.iload_n 3, 1) := by decide +kernel
theorem dX11_quit_24 : decode cX11_quit 24 = .ok (.ifCond .ne 6, 3) := by decide +kernel
theorem dX11_quit_27 : decode cX11_quit 27 = .ok (.bipush (-2), 2) := by decide +kernel
theorem dX11_quit_29 : decode cX11_quit 29 = .ok (.ireturn, 1) := by decide +kernel
theorem dX11_quit_30 : decode cX11_quit 30 = .ok (.iload_n 3, 1) := by decide +kernel
theorem dX11_quit_31 : decode cX11_quit 31 = .ok (.iconst 3, 1) := by decide +kernel
theorem dX11_quit_32 : decode cX11_quit 32 = .ok (.if_icmp .eq 16, 3) := by decide +kernel
theorem dX11_quit_35 : decode cX11_quit 35 = .ok (.iload_n 3, 1) := by decide +kernel
theorem dX11_quit_36 : decode cX11_quit 36 = .ok (.bipush 7, 2) := by decide +kernel
theorem dX11_quit_38 : decode cX11_quit 38 = .ok (.if_icmp .eq 10, 3) := by decide +kernel
theorem dX11_quit_41 : decode cX11_quit 41 = .ok (.aload_n 2, 1) := by decide +kernel
theorem dX11_quit_42 : decode cX11_quit 42 = .ok (.invokevirtual 127, 3) := by decide +kernel
theorem dX11_quit_45 : decode cX11_quit 45 = .ok (.ifCond .eq 25, 3) := by decide +kernel
theorem dX11_quit_48 : decode cX11_quit 48 = .ok (.aload_n 2, 1) := by decide +kernel
theorem dX11_quit_49 : decode cX11_quit 49 = .ok (.aload_n 0, 1) := by decide +kernel
theorem dX11_quit_50 : decode cX11_quit 50 = .ok (.getfield 26, 3) := by decide +kernel
theorem dX11_quit_53 : decode cX11_quit 53 = .ok (.getfield 130, 3) := by decide +kernel
theorem dX11_quit_56 : decode cX11_quit 56 = .ok (.iload_n 1, 1) := by decide +kernel
theorem dX11_quit_57 : decode cX11_quit 57 = .ok (.aload_n 2, 1) := by decide +kernel
theorem dX11_quit_58 : decode cX11_quit 58 = .ok (.getfield 98, 3) := by decide +kernel
theorem dX11_quit_61 : decode cX11_quit 61 = .ok (.getfield 133, 3) := by decide +kernel
theorem dX11_quit_64 : decode cX11_quit 64 = .ok (.invokevirtual 136, 3) := by decide +kernel
theorem dX11_quit_67 : decode cX11_quit 67 = .ok (.invokevirtual 140, 3) := by decide +kernel
theorem dX11_quit_70 : decode cX11_quit 70 = .ok (.aload_n 2, 1) := by decide +kernel
theorem dX11_quit_71 : decode cX11_quit 71 = .ok (.invokevirtual 120, 3) := by decide +kernel
theorem dX11_quit_74 : decode cX11_quit 74 = .ok (.iload_n 3, 1) := by decide +kernel
theorem dX11_quit_75 : decode cX11_quit 75 = .ok (.ireturn, 1) := by decide +kernel
theorem dX11_take_0 : decode cX11_take 0 = .ok (.iload_n 1, 1) := by decide +kernel
theorem dX11_take_1 : decode cX11_take 1 = .ok (.invokestatic 65, 3) := by decide +kernel
theorem dX11_take_4 : decode cX11_take 4 = .ok (.ifCond .ne 5, 3) := by decide +kernel
theorem dX11_take_7 : decode cX11_take 7 = .ok (.iconst (-1), 1) := by decide +kernel
theorem dX11_take_8 : decode cX11_take 8 = .ok (.ireturn, 1) := by decide +kernel
theorem dX11_take_9 : decode cX11_take 9 = .ok (.aload_n 0, 1) := by decide +kernel
theorem dX11_take_10 : decode cX11_take 10 = .ok (.getfield 26, 3) := by decide +kernel
theorem dX11_take_13 : decode cX11_take 13 = .ok (.iload_n 1, 1) := by decide +kernel
theorem dX11_take_14 : decode cX11_take 14 = .ok (.invokevirtual 68, 3) := by decide +kernel
theorem dX11_take_17 : decode cX11_take 17 = .ok (.astore_n 2, 1) := by decide +kernel
theorem dX11_take_18 : decode cX11_take 18 = .ok (.aload_n 2, 1) := by decide +kernel
theorem dX11_take_19 : decode cX11_take 19 = .ok (.getfield 143, 3) := by decide +kernel
theorem dX11_take_22 : decode cX11_take 22 = .ok (.invokevirtual 147, 3) := by decide +kernel
theorem dX11_take_25 : decode cX11_take 25 = .ok (.ifCond .ne 6, 3) := by decide +kernel
theorem dX11_take_28 : decode cX11_take 28 = .ok (.bipush (-4), 2) := by decide +kernel
theorem dX11_take_30 : decode cX11_take 30 = .ok (.ireturn, 1) := by decide +kernel
theorem dX11_take_31 : decode cX11_take 31 = .ok (.aload_n 2, 1) := by decide +kernel
theorem dX11_take_32 : decode cX11_take 32 = .ok (.getfield 143, 3) := by decide +kernel
theorem dX11_take_35 : decode cX11_take 35 = .ok (.invokevirtual 152, 3) := by decide +kernel
theorem dX11_take_38 : decode cX11_take 38 = .ok (.istore_n 3, 1) := by decide +kernel
theorem dX11_take_39 : decode cX11_take 39 = .ok (.aload_n 2, 1) := by decide +kernel
theorem dX11_take_40 : decode cX11_take 40 = .ok (.invokevirtual 155, 3) := by decide +kernel
theorem dX11_take_43 : decode cX11_take 43 = .ok (.aload_n 2, 1) := by decide +kernel
theorem dX11_take_44 : decode cX11_take 44 = .ok (.invokevirtual 83, 3) := by decide +kernel
theorem dX11_take_47 : decode cX11_take 47 = .ok (.iload_n 3, 1) := by decide +kernel
theorem dX11_take_48 : decode cX11_take 48 = .ok (.ireturn, 1) := by decide +kernel
theorem dX11_arrive_0 : decode cX11_arrive 0 = .ok (.aload_n 0, 1) := by decide +kernel
theorem dX11_arrive_1 : decode cX11_arrive 1 = .ok (.getfield 26, 3) := by decide +kernel
theorem dX11_arrive_4 : decode cX11_arrive 4 = .ok (.getfield 86, 3) := by decide +kernel
theorem dX11_arrive_7 : decode cX11_arrive 7 = .ok (.iload_n 1, 1) := by decide +kernel
theorem dX11_arrive_8 : decode cX11_arrive 8 = .ok (.invokevirtual 158, 3) := by decide +kernel
theorem dX11_arrive_11 : decode cX11_arrive 11 = .ok (.ifCond .ne 5, 3) := by decide +kernel
theorem dX11_arrive_14 : decode cX11_arrive 14 = .ok (.iconst (-1), 1) := by decide +kernel
theorem dX11_arrive_15 : decode cX11_arrive 15 = .ok (.ireturn, 1) := by decide +kernel
theorem dX11_arrive_16 : decode cX11_arrive 16 = .ok (.aload_n 0, 1) := by decide +kernel
theorem dX11_arrive_17 : decode cX11_arrive 17 = .ok (.getfield 26, 3) := by decide +kernel
theorem dX11_arrive_20 : decode cX11_arrive 20 = .ok (.iload_n 1, 1) := by decide +kernel
theorem dX11_arrive_21 : decode cX11_arrive 21 = .ok (.invokevirtual 161, 3) := by decide +kernel
theorem dX11_arrive_24 : decode cX11_arrive 24 = .ok (.ifCond .eq 7, 3) := by decide +kernel
theorem dX11_arrive_27 : decode cX11_arrive 27 = .ok (.iconst 1, 1) := by decide +kernel
theorem dX11_arrive_28 : decode cX11_arrive 28 = .ok (.goto 4, 3) := by decide +kernel
theorem dX11_arrive_31 : decode cX11_arrive 31 = .ok (.iconst 0, 1) := by decide +kernel
theorem dX11_arrive_32 : decode cX11_arrive 32 = .ok (.ireturn, 1) := by decide +kernel
theorem dX11_lose_0 : decode cX11_lose 0 = .ok (.aload_n 0, 1) := by decide +kernel
theorem dX11_lose_1 : decode cX11_lose 1 = .ok (.getfield 26, 3) := by decide +kernel
theorem dX11_lose_4 : decode cX11_lose 4 = .ok (.getfield 86, 3) := by decide +kernel
theorem dX11_lose_7 : decode cX11_lose 7 = .ok (.iload_n 1, 1) := by decide +kernel
theorem dX11_lose_8 : decode cX11_lose 8 = .ok (.invokevirtual 158, 3) := by decide +kernel
theorem dX11_lose_11 : decode cX11_lose 11 = .ok (.ifCond .ne 5, 3) := by decide +kernel
theorem dX11_lose_14 : decode cX11_lose 14 = .ok (.iconst (-1), 1) := by decide +kernel
theorem dX11_lose_15 : decode cX11_lose 15 = .ok (.ireturn, 1) := by decide +kernel
theorem dX11_lose_16 : decode cX11_lose 16 = .ok (.aload_n 0, 1) := by decide +kernel
theorem dX11_lose_17 : decode cX11_lose 17 = .ok (.getfield 26, 3) := by decide +kernel
theorem dX11_lose_20 : decode cX11_lose 20 = .ok (.getfield 86, 3) := by decide +kernel
theorem dX11_lose_23 : decode cX11_lose 23 = .ok (.iload_n 1, 1) := by decide +kernel
theorem dX11_lose_24 : decode cX11_lose 24 = .ok (.invokevirtual 164, 3) := by decide +kernel
theorem dX11_lose_27 : decode cX11_lose 27 = .ok (.pop, 1) := by decide +kernel
theorem dX11_lose_28 : decode cX11_lose 28 = .ok (.aload_n 0, 1) := by decide +kernel
theorem dX11_lose_29 : decode cX11_lose 29 = .ok (.getfield 26, 3) := by decide +kernel
theorem dX11_lose_32 : decode cX11_lose 32 = .ok (.getfield 86, 3) := by decide +kernel
theorem dX11_lose_35 : decode cX11_lose 35 = .ok (.getfield 90, 3) := by decide +kernel
theorem dX11_lose_38 : decode cX11_lose 38 = .ok (.ireturn, 1) := by decide +kernel
theorem dX11_twice_0 : decode cX11_twice 0 = .ok (.aload_n 0, 1) := by decide +kernel
theorem dX11_twice_1 : decode cX11_twice 1 = .ok (.getfield 26, 3) := by decide +kernel
theorem dX11_twice_4 : decode cX11_twice 4 = .ok (.getfield 86, 3) := by decide +kernel
theorem dX11_twice_7 : decode cX11_twice 7 = .ok (.iload_n 1, 1) := by decide +kernel
theorem dX11_twice_8 : decode cX11_twice 8 = .ok (.invokevirtual 158, 3) := by decide +kernel
theorem dX11_twice_11 : decode cX11_twice 11 = .ok (.ifCond .ne 5, 3) := by decide +kernel
theorem dX11_twice_14 : decode cX11_twice 14 = .ok (.iconst (-1), 1) := by decide +kernel
theorem dX11_twice_15 : decode cX11_twice 15 = .ok (.ireturn, 1) := by decide +kernel
theorem dX11_twice_16 : decode cX11_twice 16 = .ok (.aload_n 0, 1) := by decide +kernel
theorem dX11_twice_17 : decode cX11_twice 17 = .ok (.getfield 26, 3) := by decide +kernel
theorem dX11_twice_20 : decode cX11_twice 20 = .ok (.getfield 86, 3) := by decide +kernel
theorem dX11_twice_23 : decode cX11_twice 23 = .ok (.iload_n 1, 1) := by decide +kernel
theorem dX11_twice_24 : decode cX11_twice 24 = .ok (.invokevirtual 168, 3) := by decide +kernel
theorem dX11_twice_27 : decode cX11_twice 27 = .ok (.ifCond .eq 16, 3) := by decide +kernel
theorem dX11_twice_30 : decode cX11_twice 30 = .ok (.aload_n 0, 1) := by decide +kernel
theorem dX11_twice_31 : decode cX11_twice 31 = .ok (.getfield 26, 3) := by decide +kernel
theorem dX11_twice_34 : decode cX11_twice 34 = .ok (.getfield 86, 3) := by decide +kernel
theorem dX11_twice_37 : decode cX11_twice 37 = .ok (.getfield 90, 3) := by decide +kernel
theorem dX11_twice_40 : decode cX11_twice 40 = .ok (.goto 5, 3) := by decide +kernel
theorem dX11_twice_43 : decode cX11_twice 43 = .ok (.bipush (-3), 2) := by decide +kernel
theorem dX11_twice_45 : decode cX11_twice 45 = .ok (.ireturn, 1) := by decide +kernel
theorem dX11_pass_0 : decode cX11_pass 0 = .ok (.iload_n 1, 1) := by decide +kernel
theorem dX11_pass_1 : decode cX11_pass 1 = .ok (.iconst 1, 1) := by decide +kernel
theorem dX11_pass_2 : decode cX11_pass 2 = .ok (.if_icmp .lt 9, 3) := by decide +kernel
theorem dX11_pass_5 : decode cX11_pass 5 = .ok (.iload_n 1, 1) := by decide +kernel
theorem dX11_pass_6 : decode cX11_pass 6 = .ok (.bipush 100, 2) := by decide +kernel
theorem dX11_pass_8 : decode cX11_pass 8 = .ok (.if_icmp .le 5, 3) := by decide +kernel
theorem dX11_pass_11 : decode cX11_pass 11 = .ok (.iconst (-1), 1) := by decide +kernel
theorem dX11_pass_12 : decode cX11_pass 12 = .ok (.ireturn, 1) := by decide +kernel
theorem dX11_pass_13 : decode cX11_pass 13 = .ok (.iconst 0, 1) := by decide +kernel
theorem dX11_pass_14 : decode cX11_pass 14 = .ok (.istore_n 2, 1) := by decide +kernel
theorem dX11_pass_15 : decode cX11_pass 15 = .ok (.iload_n 2, 1) := by decide +kernel
theorem dX11_pass_16 : decode cX11_pass 16 = .ok (.iload_n 1, 1) := by decide +kernel
theorem dX11_pass_17 : decode cX11_pass 17 = .ok (.if_icmp .ge 16, 3) := by decide +kernel
theorem dX11_pass_20 : decode cX11_pass 20 = .ok (.aload_n 0, 1) := by decide +kernel
theorem dX11_pass_21 : decode cX11_pass 21 = .ok (.getfield 26, 3) := by decide +kernel
theorem dX11_pass_24 : decode cX11_pass 24 = .ok (.invokevirtual 171, 3) := by decide +kernel
theorem dX11_pass_27 : decode cX11_pass 27 = .ok (.iinc 2 1, 3) := by decide +kernel
theorem dX11_pass_30 : decode cX11_pass 30 = .ok (.goto (-15), 3) := by decide +kernel
theorem dX11_pass_33 : decode cX11_pass 33 = .ok (.aload_n 0, 1) := by decide +kernel
theorem dX11_pass_34 : decode cX11_pass 34 = .ok (.getfield 26, 3) := by decide +kernel
theorem dX11_pass_37 : decode cX11_pass 37 = .ok (.getfield 174, 3) := by decide +kernel
theorem dX11_pass_40 : decode cX11_pass 40 = .ok (.getfield 178, 3) := by decide +kernel
theorem dX11_pass_43 : decode cX11_pass 43 = .ok (.ireturn, 1) := by decide +kernel
theorem dX11_drive_0 : decode cX11_drive 0 = .ok (.iload_n 1, 1) := by decide +kernel
theorem dX11_drive_1 : decode cX11_drive 1 = .ok (.ifCond .lt 21, 3) := by decide +kernel
theorem dX11_drive_4 : decode cX11_drive 4 = .ok (.iload_n 1, 1) := by decide +kernel
theorem dX11_drive_5 : decode cX11_drive 5 = .ok (.sipush 9999, 3) := by decide +kernel
theorem dX11_drive_8 : decode cX11_drive 8 = .ok (.if_icmp .gt 14, 3) := by decide +kernel
theorem dX11_drive_11 : decode cX11_drive 11 = .ok (.iload_n 2, 1) := by decide +kernel
theorem dX11_drive_12 : decode cX11_drive 12 = .ok (.iconst 1, 1) := by decide +kernel
theorem dX11_drive_13 : decode cX11_drive 13 = .ok (.if_icmp .lt 9, 3) := by decide +kernel
theorem dX11_drive_16 : decode cX11_drive 16 = .ok (.iload_n 2, 1) := by decide +kernel
theorem dX11_drive_17 : decode cX11_drive 17 = .ok (.bipush 60, 2) := by decide +kernel
theorem dX11_drive_19 : decode cX11_drive 19 = .ok (.if_icmp .le 5, 3) := by decide +kernel
theorem dX11_drive_22 : decode cX11_drive 22 = .ok (.iconst (-1), 1) := by decide +kernel
theorem dX11_drive_23 : decode cX11_drive 23 = .ok (.ireturn, 1) := by decide +kernel
theorem dX11_drive_24 : decode cX11_drive 24 = .ok (.iconst 0, 1) := by decide +kernel
theorem dX11_drive_25 : decode cX11_drive 25 = .ok (.istore_n 3, 1) := by decide +kernel
theorem dX11_drive_26 : decode cX11_drive 26 = .ok (.iload_n 3, 1) := by decide +kernel
theorem dX11_drive_27 : decode cX11_drive 27 = .ok (.iload_n 2, 1) := by decide +kernel
theorem dX11_drive_28 : decode cX11_drive 28 = .ok (.if_icmp .ge 147, 3) := by decide +kernel
theorem dX11_drive_31 : decode cX11_drive 31 = .ok (.ldc2_w 183, 3) := by decide +kernel
theorem dX11_drive_34 : decode cX11_drive 34 = .ok (.iload_n 1, 1) := by decide +kernel
theorem dX11_drive_35 : decode cX11_drive 35 = .ok (.i2l, 1) := by decide +kernel
theorem dX11_drive_36 : decode cX11_drive 36 = .ok (.lmul, 1) := by decide +kernel
theorem dX11_drive_37 : decode cX11_drive 37 = .ok (.ldc2_w 185, 3) := by decide +kernel
theorem dX11_drive_40 : decode cX11_drive 40 = .ok (.iload_n 3, 1) := by decide +kernel
theorem dX11_drive_41 : decode cX11_drive 41 = .ok (.i2l, 1) := by decide +kernel
theorem dX11_drive_42 : decode cX11_drive 42 = .ok (.lmul, 1) := by decide +kernel
theorem dX11_drive_43 : decode cX11_drive 43 = .ok (.ladd, 1) := by decide +kernel
theorem dX11_drive_44 : decode cX11_drive 44 = .ok (.lconst 1, 1) := by decide +kernel
theorem dX11_drive_45 : decode cX11_drive 45 = .ok (.ladd, 1) := by decide +kernel
theorem dX11_drive_46 : decode cX11_drive 46 = .ok (.lstore 4, 2) := by decide +kernel
theorem dX11_drive_48 : decode cX11_drive 48 = .ok (.lload 4, 2) := by decide +kernel
theorem dX11_drive_50 : decode cX11_drive 50 = .ok (.lload 4, 2) := by decide +kernel
theorem dX11_drive_52 : decode cX11_drive 52 = .ok (.lmul, 1) := by decide +kernel
theorem dX11_drive_53 : decode cX11_drive 53 = .ok (.ldc2_w 187, 3) := by decide +kernel
theorem dX11_drive_56 : decode cX11_drive 56 = .ok (.lrem, 1) := by decide +kernel
theorem dX11_drive_57 : decode cX11_drive 57 = .ok (.l2i, 1) := by decide +kernel
theorem dX11_drive_58 : decode cX11_drive 58 = .ok (.istore 6, 2) := by decide +kernel
theorem dX11_drive_60 : decode cX11_drive 60 = .ok (.aload_n 0, 1) := by decide +kernel
theorem dX11_drive_61 : decode cX11_drive 61 = .ok (.getfield 26, 3) := by decide +kernel
theorem dX11_drive_64 : decode cX11_drive 64 = .ok (.getfield 86, 3) := by decide +kernel
theorem dX11_drive_67 : decode cX11_drive 67 = .ok (.getfield 90, 3) := by decide +kernel
theorem dX11_drive_70 : decode cX11_drive 70 = .ok (.istore 7, 2) := by decide +kernel
theorem dX11_drive_72 : decode cX11_drive 72 = .ok (.iload 7, 2) := by decide +kernel
theorem dX11_drive_74 : decode cX11_drive 74 = .ok (.ifCond .eq 11, 3) := by decide +kernel
theorem dX11_drive_77 : decode cX11_drive 77 = .ok (.iload 6, 2) := by decide +kernel
theorem dX11_drive_79 : decode cX11_drive 79 = .ok (.bipush 8, 2) := by decide +kernel
theorem dX11_drive_81 : decode cX11_drive 81 = .ok (.irem, 1) := by decide +kernel
theorem dX11_drive_82 : decode cX11_drive 82 = .ok (.ifCond .ne 13, 3) := by decide +kernel
theorem dX11_drive_85 : decode cX11_drive 85 = .ok (.aload_n 0, 1) := by decide +kernel
theorem dX11_drive_86 : decode cX11_drive 86 = .ok (.getfield 26, 3) := by decide +kernel
theorem dX11_drive_89 : decode cX11_drive 89 = .ok (.invokevirtual 171, 3) := by decide +kernel
theorem dX11_drive_92 : decode cX11_drive 92 = .ok (.goto 77, 3) := by decide +kernel
theorem dX11_drive_95 : decode cX11_drive 95 = .ok (.iload 6, 2) := by decide +kernel
theorem dX11_drive_97 : decode cX11_drive 97 = .ok (.bipush 8, 2) := by decide +kernel
theorem dX11_drive_99 : decode cX11_drive 99 = .ok (.idiv, 1) := by decide +kernel
theorem dX11_drive_100 : decode cX11_drive 100 = .ok (.iload 7, 2) := by decide +kernel
theorem dX11_drive_102 : decode cX11_drive 102 = .ok (.irem, 1) := by decide +kernel
theorem dX11_drive_103 : decode cX11_drive 103 = .ok (.istore 8, 2) := by decide +kernel
theorem dX11_drive_105 : decode cX11_drive 105 = .ok (.iload 6, 2) := by decide +kernel
theorem dX11_drive_107 : decode cX11_drive 107 = .ok (.sipush 256, 3) := by decide +kernel
theorem dX11_drive_110 : decode cX11_drive 110 = .ok (.idiv, 1) := by decide +kernel
theorem dX11_drive_111 : decode cX11_drive 111 = .ok (.bipush 8, 2) := by decide +kernel
theorem dX11_drive_113 : decode cX11_drive 113 = .ok (.irem, 1) := by decide +kernel
theorem dX11_drive_114 : decode cX11_drive 114 = .ok (.istore 9, 2) := by decide +kernel
theorem dX11_drive_116 : decode cX11_drive 116 = .ok (.iload 9, 2) := by decide +kernel
theorem dX11_drive_118 : decode cX11_drive 118 = .ok (.ifCond .ne 19, 3) := by decide +kernel
theorem dX11_drive_121 : decode cX11_drive 121 = .ok (.aload_n 0, 1) := by decide +kernel
theorem dX11_drive_122 : decode cX11_drive 122 = .ok (.getfield 26, 3) := by decide +kernel
theorem dX11_drive_125 : decode cX11_drive 125 = .ok (.getfield 86, 3) := by decide +kernel
theorem dX11_drive_128 : decode cX11_drive 128 = .ok (.iload 8, 2) := by decide +kernel
theorem dX11_drive_130 : decode cX11_drive 130 = .ok (.invokevirtual 164, 3) := by decide +kernel
theorem dX11_drive_133 : decode cX11_drive 133 = .ok (.pop, 1) := by decide +kernel
theorem dX11_drive_134 : decode cX11_drive 134 = .ok (.goto 35, 3) := by decide +kernel
theorem dX11_drive_137 : decode cX11_drive 137 = .ok (.iload 9, 2) := by decide +kernel
theorem dX11_drive_139 : decode cX11_drive 139 = .ok (.iconst 1, 1) := by decide +kernel
theorem dX11_drive_140 : decode cX11_drive 140 = .ok (.if_icmp .ne 19, 3) := by decide +kernel
theorem dX11_drive_143 : decode cX11_drive 143 = .ok (.aload_n 0, 1) := by decide +kernel
theorem dX11_drive_144 : decode cX11_drive 144 = .ok (.getfield 26, 3) := by decide +kernel
theorem dX11_drive_147 : decode cX11_drive 147 = .ok (.getfield 86, 3) := by decide +kernel
theorem dX11_drive_150 : decode cX11_drive 150 = .ok (.iload 8, 2) := by decide +kernel
theorem dX11_drive_152 : decode cX11_drive 152 = .ok (.invokevirtual 168, 3) := by decide +kernel
theorem dX11_drive_155 : decode cX11_drive 155 = .ok (.pop, 1) := by decide +kernel
theorem dX11_drive_156 : decode cX11_drive 156 = .ok (.goto 13, 3) := by decide +kernel
theorem dX11_drive_159 : decode cX11_drive 159 = .ok (.aload_n 0, 1) := by decide +kernel
theorem dX11_drive_160 : decode cX11_drive 160 = .ok (.getfield 26, 3) := by decide +kernel
theorem dX11_drive_163 : decode cX11_drive 163 = .ok (.iload 8, 2) := by decide +kernel
theorem dX11_drive_165 : decode cX11_drive 165 = .ok (.invokevirtual 161, 3) := by decide +kernel
theorem dX11_drive_168 : decode cX11_drive 168 = .ok (.pop, 1) := by decide +kernel
theorem dX11_drive_169 : decode cX11_drive 169 = .ok (.iinc 3 1, 3) := by decide +kernel
theorem dX11_drive_172 : decode cX11_drive 172 = .ok (.goto (-146), 3) := by decide +kernel
theorem dX11_drive_175 : decode cX11_drive 175 = .ok (.aload_n 0, 1) := by decide +kernel
theorem dX11_drive_176 : decode cX11_drive 176 = .ok (.getfield 26, 3) := by decide +kernel
theorem dX11_drive_179 : decode cX11_drive 179 = .ok (.getfield 86, 3) := by decide +kernel
theorem dX11_drive_182 : decode cX11_drive 182 = .ok (.getfield 90, 3) := by decide +kernel
theorem dX11_drive_185 : decode cX11_drive 185 = .ok (.ireturn, 1) := by decide +kernel
theorem dX11_calm_0 : decode cX11_calm 0 = .ok (.iload_n 1, 1) := by decide +kernel
theorem dX11_calm_1 : decode cX11_calm 1 = .ok (.ifCond .lt 8, 3) := by decide +kernel
theorem dX11_calm_4 : decode cX11_calm 4 = .ok (.iload_n 1, 1) := by decide +kernel
theorem dX11_calm_5 : decode cX11_calm 5 = .ok (.iconst 5, 1) := by decide +kernel
theorem dX11_calm_6 : decode cX11_calm 6 = .ok (.if_icmp .le 5, 3) := by decide +kernel
theorem dX11_calm_9 : decode cX11_calm 9 = .ok (.iconst (-1), 1) := by decide +kernel
theorem dX11_calm_10 : decode cX11_calm 10 = .ok (.ireturn, 1) := by decide +kernel
theorem dX11_calm_11 : decode cX11_calm 11 = .ok (.aload_n 0, 1) := by decide +kernel
theorem dX11_calm_12 : decode cX11_calm 12 = .ok (.getfield 30, 3) := by decide +kernel
theorem dX11_calm_15 : decode cX11_calm 15 = .ok (.aload_n 0, 1) := by decide +kernel
theorem dX11_calm_16 : decode cX11_calm 16 = .ok (.getfield 26, 3) := by decide +kernel
theorem dX11_calm_19 : decode cX11_calm 19 = .ok (.invokevirtual 189, 3) := by decide +kernel
theorem dX11_calm_22 : decode cX11_calm 22 = .ok (.iconst 0, 1) := by decide +kernel
theorem dX11_calm_23 : decode cX11_calm 23 = .ok (.istore_n 2, 1) := by decide +kernel
theorem dX11_calm_24 : decode cX11_calm 24 = .ok (.iload_n 2, 1) := by decide +kernel
theorem dX11_calm_25 : decode cX11_calm 25 = .ok (.sipush 300, 3) := by decide +kernel
theorem dX11_calm_28 : decode cX11_calm 28 = .ok (.if_icmp .ge 61, 3) := by decide +kernel
theorem dX11_calm_31 : decode cX11_calm 31 = .ok (.aload_n 0, 1) := by decide +kernel
theorem dX11_calm_32 : decode cX11_calm 32 = .ok (.getfield 30, 3) := by decide +kernel
theorem dX11_calm_35 : decode cX11_calm 35 = .ok (.invokevirtual 193, 3) := by decide +kernel
theorem dX11_calm_38 : decode cX11_calm 38 = .ok (.ifCond .eq 51, 3) := by decide +kernel
theorem dX11_calm_41 : decode cX11_calm 41 = .ok (.aload_n 0, 1) := by decide +kernel
theorem dX11_calm_42 : decode cX11_calm 42 = .ok (.getfield 30, 3) := by decide +kernel
theorem dX11_calm_45 : decode cX11_calm 45 = .ok (.getfield 86, 3) := by decide +kernel
theorem dX11_calm_48 : decode cX11_calm 48 = .ok (.getfield 90, 3) := by decide +kernel
theorem dX11_calm_51 : decode cX11_calm 51 = .ok (.istore_n 3, 1) := by decide +kernel
theorem dX11_calm_52 : decode cX11_calm 52 = .ok (.iconst 0, 1) := by decide +kernel
theorem dX11_calm_53 : decode cX11_calm 53 = .ok (.istore 4, 2) := by decide +kernel
theorem dX11_calm_55 : decode cX11_calm 55 = .ok (.iload 4, 2) := by decide +kernel
theorem dX11_calm_57 : decode cX11_calm 57 = .ok (.iload_n 3, 1) := by decide +kernel
theorem dX11_calm_58 : decode cX11_calm 58 = .ok (.if_icmp .ge 18, 3) := by decide +kernel
theorem dX11_calm_61 : decode cX11_calm 61 = .ok (.aload_n 0, 1) := by decide +kernel
theorem dX11_calm_62 : decode cX11_calm 62 = .ok (.getfield 30, 3) := by decide +kernel
theorem dX11_calm_65 : decode cX11_calm 65 = .ok (.iconst 0, 1) := by decide +kernel
theorem dX11_calm_66 : decode cX11_calm 66 = .ok (.invokevirtual 161, 3) := by decide +kernel
theorem dX11_calm_69 : decode cX11_calm 69 = .ok (.pop, 1) := by decide +kernel
theorem dX11_calm_70 : decode cX11_calm 70 = .ok (.iinc 4 1, 3) := by decide +kernel
theorem dX11_calm_73 : decode cX11_calm 73 = .ok (.goto (-18), 3) := by decide +kernel
theorem dX11_calm_76 : decode cX11_calm 76 = .ok (.aload_n 0, 1) := by decide +kernel
theorem dX11_calm_77 : decode cX11_calm 77 = .ok (.getfield 30, 3) := by decide +kernel
theorem dX11_calm_80 : decode cX11_calm 80 = .ok (.invokevirtual 171, 3) := by decide +kernel
theorem dX11_calm_83 : decode cX11_calm 83 = .ok (.iinc 2 1, 3) := by decide +kernel
theorem dX11_calm_86 : decode cX11_calm 86 = .ok (.goto (-62), 3) := by decide +kernel
theorem dX11_calm_89 : decode cX11_calm 89 = .ok (.iload_n 1, 1) := by decide +kernel
theorem dX11_calm_90 : decode cX11_calm 90 = .ok (.tableswitch 86 0 4 #[34, 36, 47, 58, 72], 34) := by decide +kernel
theorem dX11_calm_124 : decode cX11_calm 124 = .ok (.iload_n 2, 1) := by decide +kernel
theorem dX11_calm_125 : decode cX11_calm 125 = .ok (.ireturn, 1) := by decide +kernel
theorem dX11_calm_126 : decode cX11_calm 126 = .ok (.aload_n 0, 1) := by decide +kernel
theorem dX11_calm_127 : decode cX11_calm 127 = .ok (.getfield 30, 3) := by decide +kernel
theorem dX11_calm_130 : decode cX11_calm 130 = .ok (.getfield 196, 3) := by decide +kernel
theorem dX11_calm_133 : decode cX11_calm 133 = .ok (.getfield 72, 3) := by decide +kernel
theorem dX11_calm_136 : decode cX11_calm 136 = .ok (.ireturn, 1) := by decide +kernel
theorem dX11_calm_137 : decode cX11_calm 137 = .ok (.aload_n 0, 1) := by decide +kernel
theorem dX11_calm_138 : decode cX11_calm 138 = .ok (.getfield 30, 3) := by decide +kernel
theorem dX11_calm_141 : decode cX11_calm 141 = .ok (.getfield 200, 3) := by decide +kernel
theorem dX11_calm_144 : decode cX11_calm 144 = .ok (.getfield 72, 3) := by decide +kernel
theorem dX11_calm_147 : decode cX11_calm 147 = .ok (.ireturn, 1) := by decide +kernel
theorem dX11_calm_148 : decode cX11_calm 148 = .ok (.aload_n 0, 1) := by decide +kernel
theorem dX11_calm_149 : decode cX11_calm 149 = .ok (.getfield 30, 3) := by decide +kernel
theorem dX11_calm_152 : decode cX11_calm 152 = .ok (.getfield 196, 3) := by decide +kernel
theorem dX11_calm_155 : decode cX11_calm 155 = .ok (.getfield 143, 3) := by decide +kernel
theorem dX11_calm_158 : decode cX11_calm 158 = .ok (.invokevirtual 147, 3) := by decide +kernel
theorem dX11_calm_161 : decode cX11_calm 161 = .ok (.ireturn, 1) := by decide +kernel
theorem dX11_calm_162 : decode cX11_calm 162 = .ok (.aload_n 0, 1) := by decide +kernel
theorem dX11_calm_163 : decode cX11_calm 163 = .ok (.getfield 30, 3) := by decide +kernel
theorem dX11_calm_166 : decode cX11_calm 166 = .ok (.getfield 200, 3) := by decide +kernel
theorem dX11_calm_169 : decode cX11_calm 169 = .ok (.getfield 143, 3) := by decide +kernel
theorem dX11_calm_172 : decode cX11_calm 172 = .ok (.invokevirtual 147, 3) := by decide +kernel
theorem dX11_calm_175 : decode cX11_calm 175 = .ok (.ireturn, 1) := by decide +kernel
theorem dX11_calm_176 : decode cX11_calm 176 = .ok (.aload_n 0, 1) := by decide +kernel
theorem dX11_calm_177 : decode cX11_calm 177 = .ok (.getfield 30, 3) := by decide +kernel
theorem dX11_calm_180 : decode cX11_calm 180 = .ok (.getfield 86, 3) := by decide +kernel
theorem dX11_calm_183 : decode cX11_calm 183 = .ok (.getfield 203, 3) := by decide +kernel
theorem dX11_calm_186 : decode cX11_calm 186 = .ok (.aload_n 0, 1) := by decide +kernel
theorem dX11_calm_187 : decode cX11_calm 187 = .ok (.getfield 26, 3) := by decide +kernel
theorem dX11_calm_190 : decode cX11_calm 190 = .ok (.getfield 86, 3) := by decide +kernel
theorem dX11_calm_193 : decode cX11_calm 193 = .ok (.getfield 203, 3) := by decide +kernel
theorem dX11_calm_196 : decode cX11_calm 196 = .ok (.isub, 1) := by decide +kernel
theorem dX11_calm_197 : decode cX11_calm 197 = .ok (.ireturn, 1) := by decide +kernel
theorem dX11_end_0 : decode cX11_end 0 = .ok (.iload_n 1, 1) := by decide +kernel
theorem dX11_end_1 : decode cX11_end 1 = .ok (.invokestatic 65, 3) := by decide +kernel
theorem dX11_end_4 : decode cX11_end 4 = .ok (.ifCond .eq 13, 3) := by decide +kernel
theorem dX11_end_7 : decode cX11_end 7 = .ok (.iload_n 2, 1) := by decide +kernel
theorem dX11_end_8 : decode cX11_end 8 = .ok (.ifCond .lt 9, 3) := by decide +kernel
theorem dX11_end_11 : decode cX11_end 11 = .ok (.iload_n 2, 1) := by decide +kernel
theorem dX11_end_12 : decode cX11_end 12 = .ok (.bipush 17, 2) := by decide +kernel
theorem dX11_end_14 : decode cX11_end 14 = .ok (.if_icmp .le 5, 3) := by decide +kernel
theorem dX11_end_17 : decode cX11_end 17 = .ok (.iconst (-1), 1) := by decide +kernel
theorem dX11_end_18 : decode cX11_end 18 = .ok (.ireturn, 1) := by decide +kernel
theorem dX11_end_19 : decode cX11_end 19 = .ok (.aload_n 0, 1) := by decide +kernel
theorem dX11_end_20 : decode cX11_end 20 = .ok (.getfield 26, 3) := by decide +kernel
theorem dX11_end_23 : decode cX11_end 23 = .ok (.iload_n 1, 1) := by decide +kernel
theorem dX11_end_24 : decode cX11_end 24 = .ok (.invokevirtual 68, 3) := by decide +kernel
theorem dX11_end_27 : decode cX11_end 27 = .ok (.iload_n 2, 1) := by decide +kernel
theorem dX11_end_28 : decode cX11_end 28 = .ok (.invokevirtual 204, 3) := by decide +kernel
theorem dX11_end_31 : decode cX11_end 31 = .ok (.ireturn, 1) := by decide +kernel
theorem dX11_sample_0 : decode cX11_sample 0 = .ok (.iload_n 1, 1) := by decide +kernel
theorem dX11_sample_1 : decode cX11_sample 1 = .ok (.invokestatic 65, 3) := by decide +kernel
theorem dX11_sample_4 : decode cX11_sample 4 = .ok (.ifCond .eq 7, 3) := by decide +kernel
theorem dX11_sample_7 : decode cX11_sample 7 = .ok (.iload_n 2, 1) := by decide +kernel
theorem dX11_sample_8 : decode cX11_sample 8 = .ok (.ifCond .ge 5, 3) := by decide +kernel
theorem dX11_sample_11 : decode cX11_sample 11 = .ok (.iconst (-1), 1) := by decide +kernel
theorem dX11_sample_12 : decode cX11_sample 12 = .ok (.ireturn, 1) := by decide +kernel
theorem dX11_sample_13 : decode cX11_sample 13 = .ok (.aload_n 0, 1) := by decide +kernel
theorem dX11_sample_14 : decode cX11_sample 14 = .ok (.getfield 26, 3) := by decide +kernel
theorem dX11_sample_17 : decode cX11_sample 17 = .ok (.iload_n 1, 1) := by decide +kernel
theorem dX11_sample_18 : decode cX11_sample 18 = .ok (.invokevirtual 68, 3) := by decide +kernel
theorem dX11_sample_21 : decode cX11_sample 21 = .ok (.getfield 208, 3) := by decide +kernel
theorem dX11_sample_24 : decode cX11_sample 24 = .ok (.iload_n 2, 1) := by decide +kernel
theorem dX11_sample_25 : decode cX11_sample 25 = .ok (.invokevirtual 212, 3) := by decide +kernel
theorem dX11_sample_28 : decode cX11_sample 28 = .ok (.ireturn, 1) := by decide +kernel
theorem dX11_span_0 : decode cX11_span 0 = .ok (.iload_n 1, 1) := by decide +kernel
theorem dX11_span_1 : decode cX11_span 1 = .ok (.invokestatic 65, 3) := by decide +kernel
theorem dX11_span_4 : decode cX11_span 4 = .ok (.ifCond .eq 17, 3) := by decide +kernel
theorem dX11_span_7 : decode cX11_span 7 = .ok (.iload_n 2, 1) := by decide +kernel
theorem dX11_span_8 : decode cX11_span 8 = .ok (.iconst (-1), 1) := by decide +kernel
theorem dX11_span_9 : decode cX11_span 9 = .ok (.if_icmp .lt 12, 3) := by decide +kernel
theorem dX11_span_12 : decode cX11_span 12 = .ok (.iload_n 3, 1) := by decide +kernel
theorem dX11_span_13 : decode cX11_span 13 = .ok (.ifCond .lt 8, 3) := by decide +kernel
theorem dX11_span_16 : decode cX11_span 16 = .ok (.iload_n 3, 1) := by decide +kernel
theorem dX11_span_17 : decode cX11_span 17 = .ok (.iconst 1, 1) := by decide +kernel
theorem dX11_span_18 : decode cX11_span 18 = .ok (.if_icmp .le 5, 3) := by decide +kernel
theorem dX11_span_21 : decode cX11_span 21 = .ok (.iconst (-1), 1) := by decide +kernel
theorem dX11_span_22 : decode cX11_span 22 = .ok (.ireturn, 1) := by decide +kernel
theorem dX11_span_23 : decode cX11_span 23 = .ok (.aload_n 0, 1) := by decide +kernel
theorem dX11_span_24 : decode cX11_span 24 = .ok (.getfield 26, 3) := by decide +kernel
theorem dX11_span_27 : decode cX11_span 27 = .ok (.iload_n 1, 1) := by decide +kernel
theorem dX11_span_28 : decode cX11_span 28 = .ok (.invokevirtual 68, 3) := by decide +kernel
theorem dX11_span_31 : decode cX11_span 31 = .ok (.getfield 143, 3) := by decide +kernel
theorem dX11_span_34 : decode cX11_span 34 = .ok (.astore 4, 2) := by decide +kernel
theorem dX11_span_36 : decode cX11_span 36 = .ok (.iconst 0, 1) := by decide +kernel
theorem dX11_span_37 : decode cX11_span 37 = .ok (.istore 5, 2) := by decide +kernel
theorem dX11_span_39 : decode cX11_span 39 = .ok (.aload 4, 2) := by decide +kernel
theorem dX11_span_41 : decode cX11_span 41 = .ok (.aload 4, 2) := by decide +kernel
theorem dX11_span_43 : decode cX11_span 43 = .ok (.getfield 217, 3) := by decide +kernel
theorem dX11_span_46 : decode cX11_span 46 = .ok (.iconst 1, 1) := by decide +kernel
theorem dX11_span_47 : decode cX11_span 47 = .ok (.iadd, 1) := by decide +kernel
theorem dX11_span_48 : decode cX11_span 48 = .ok (.invokevirtual 220, 3) := by decide +kernel
theorem dX11_span_51 : decode cX11_span 51 = .ok (.istore 6, 2) := by decide +kernel
theorem dX11_span_53 : decode cX11_span 53 = .ok (.iload 6, 2) := by decide +kernel
theorem dX11_span_55 : decode cX11_span 55 = .ok (.aload 4, 2) := by decide +kernel
theorem dX11_span_57 : decode cX11_span 57 = .ok (.getfield 223, 3) := by decide +kernel
theorem dX11_span_60 : decode cX11_span 60 = .ok (.if_icmp .ge 52, 3) := by decide +kernel
theorem dX11_span_63 : decode cX11_span 63 = .ok (.iload 5, 2) := by decide +kernel
theorem dX11_span_65 : decode cX11_span 65 = .ok (.bipush 64, 2) := by decide +kernel
theorem dX11_span_67 : decode cX11_span 67 = .ok (.if_icmp .ge 45, 3) := by decide +kernel
theorem dX11_span_70 : decode cX11_span 70 = .ok (.aload 4, 2) := by decide +kernel
theorem dX11_span_72 : decode cX11_span 72 = .ok (.iload 6, 2) := by decide +kernel
theorem dX11_span_74 : decode cX11_span 74 = .ok (.invokevirtual 226, 3) := by decide +kernel
theorem dX11_span_77 : decode cX11_span 77 = .ok (.istore 7, 2) := by decide +kernel
theorem dX11_span_79 : decode cX11_span 79 = .ok (.iload 5, 2) := by decide +kernel
theorem dX11_span_81 : decode cX11_span 81 = .ok (.iload_n 2, 1) := by decide +kernel
theorem dX11_span_82 : decode cX11_span 82 = .ok (.if_icmp .ne 15, 3) := by decide +kernel
theorem dX11_span_85 : decode cX11_span 85 = .ok (.iload_n 3, 1) := by decide +kernel
theorem dX11_span_86 : decode cX11_span 86 = .ok (.ifCond .ne 8, 3) := by decide +kernel
theorem dX11_span_89 : decode cX11_span 89 = .ok (.iload 6, 2) := by decide +kernel
theorem dX11_span_91 : decode cX11_span 91 = .ok (.goto 5, 3) := by decide +kernel
theorem dX11_span_94 : decode cX11_span 94 = .ok (.iload 7, 2) := by decide +kernel
theorem dX11_span_96 : decode cX11_span 96 = .ok (.ireturn, 1) := by decide +kernel
theorem dX11_span_97 : decode cX11_span 97 = .ok (.iinc 5 1, 3) := by decide +kernel
theorem dX11_span_100 : decode cX11_span 100 = .ok (.aload 4, 2) := by decide +kernel
theorem dX11_span_102 : decode cX11_span 102 = .ok (.iload 7, 2) := by decide +kernel
theorem dX11_span_104 : decode cX11_span 104 = .ok (.invokevirtual 220, 3) := by decide +kernel
theorem dX11_span_107 : decode cX11_span 107 = .ok (.istore 6, 2) := by decide +kernel
theorem dX11_span_109 : decode cX11_span 109 = .ok (.goto (-56), 3) := by decide +kernel
theorem dX11_span_112 : decode cX11_span 112 = .ok (.iload_n 2, 1) := by decide +kernel
theorem dX11_span_113 : decode cX11_span 113 = .ok (.iconst (-1), 1) := by decide +kernel
theorem dX11_span_114 : decode cX11_span 114 = .ok (.if_icmp .ne 8, 3) := by decide +kernel
theorem dX11_span_117 : decode cX11_span 117 = .ok (.iload 5, 2) := by decide +kernel
theorem dX11_span_119 : decode cX11_span 119 = .ok (.goto 5, 3) := by decide +kernel
theorem dX11_span_122 : decode cX11_span 122 = .ok (.bipush (-4), 2) := by decide +kernel
theorem dX11_span_124 : decode cX11_span 124 = .ok (.ireturn, 1) := by decide +kernel
theorem dX11_known_0 : decode cX11_known 0 = .ok (.iload_n 1, 1) := by decide +kernel
theorem dX11_known_1 : decode cX11_known 1 = .ok (.invokestatic 65, 3) := by decide +kernel
theorem dX11_known_4 : decode cX11_known 4 = .ok (.ifCond .eq 7, 3) := by decide +kernel
theorem dX11_known_7 : decode cX11_known 7 = .ok (.iload_n 2, 1) := by decide +kernel
theorem dX11_known_8 : decode cX11_known 8 = .ok (.ifCond .ge 5, 3) := by decide +kernel
theorem dX11_known_11 : decode cX11_known 11 = .ok (.iconst (-1), 1) := by decide +kernel
theorem dX11_known_12 : decode cX11_known 12 = .ok (.ireturn, 1) := by decide +kernel
theorem dX11_known_13 : decode cX11_known 13 = .ok (.aload_n 0, 1) := by decide +kernel
theorem dX11_known_14 : decode cX11_known 14 = .ok (.getfield 26, 3) := by decide +kernel
theorem dX11_known_17 : decode cX11_known 17 = .ok (.iload_n 1, 1) := by decide +kernel
theorem dX11_known_18 : decode cX11_known 18 = .ok (.invokevirtual 68, 3) := by decide +kernel
theorem dX11_known_21 : decode cX11_known 21 = .ok (.getfield 98, 3) := by decide +kernel
theorem dX11_known_24 : decode cX11_known 24 = .ok (.iload_n 2, 1) := by decide +kernel
theorem dX11_known_25 : decode cX11_known 25 = .ok (.invokevirtual 229, 3) := by decide +kernel
theorem dX11_known_28 : decode cX11_known 28 = .ok (.ifCond .eq 7, 3) := by decide +kernel
theorem dX11_known_31 : decode cX11_known 31 = .ok (.iconst 1, 1) := by decide +kernel
theorem dX11_known_32 : decode cX11_known 32 = .ok (.goto 4, 3) := by decide +kernel
theorem dX11_known_35 : decode cX11_known 35 = .ok (.iconst 0, 1) := by decide +kernel
theorem dX11_known_36 : decode cX11_known 36 = .ok (.ireturn, 1) := by decide +kernel
theorem dX11_letter_0 : decode cX11_letter 0 = .ok (.aload_n 0, 1) := by decide +kernel
theorem dX11_letter_1 : decode cX11_letter 1 = .ok (.getfield 26, 3) := by decide +kernel
theorem dX11_letter_4 : decode cX11_letter 4 = .ok (.getfield 86, 3) := by decide +kernel
theorem dX11_letter_7 : decode cX11_letter 7 = .ok (.iload_n 1, 1) := by decide +kernel
theorem dX11_letter_8 : decode cX11_letter 8 = .ok (.invokevirtual 158, 3) := by decide +kernel
theorem dX11_letter_11 : decode cX11_letter 11 = .ok (.ifCond .eq 13, 3) := by decide +kernel
theorem dX11_letter_14 : decode cX11_letter 14 = .ok (.iload_n 2, 1) := by decide +kernel
theorem dX11_letter_15 : decode cX11_letter 15 = .ok (.ifCond .lt 9, 3) := by decide +kernel
theorem dX11_letter_18 : decode cX11_letter 18 = .ok (.iload_n 2, 1) := by decide +kernel
theorem dX11_letter_19 : decode cX11_letter 19 = .ok (.bipush 11, 2) := by decide +kernel
theorem dX11_letter_21 : decode cX11_letter 21 = .ok (.if_icmp .le 5, 3) := by decide +kernel
theorem dX11_letter_24 : decode cX11_letter 24 = .ok (.iconst (-1), 1) := by decide +kernel
theorem dX11_letter_25 : decode cX11_letter 25 = .ok (.ireturn, 1) := by decide +kernel
theorem dX11_letter_26 : decode cX11_letter 26 = .ok (.aload_n 0, 1) := by decide +kernel
theorem dX11_letter_27 : decode cX11_letter 27 = .ok (.getfield 26, 3) := by decide +kernel
theorem dX11_letter_30 : decode cX11_letter 30 = .ok (.getfield 86, 3) := by decide +kernel
theorem dX11_letter_33 : decode cX11_letter 33 = .ok (.iload_n 1, 1) := by decide +kernel
theorem dX11_letter_34 : decode cX11_letter 34 = .ok (.invokevirtual 232, 3) := by decide +kernel
theorem dX11_letter_37 : decode cX11_letter 37 = .ok (.iload_n 2, 1) := by decide +kernel
theorem dX11_letter_38 : decode cX11_letter 38 = .ok (.invokevirtual 235, 3) := by decide +kernel
theorem dX11_letter_41 : decode cX11_letter 41 = .ok (.ireturn, 1) := by decide +kernel
theorem dX11_byteOf_0 : decode cX11_byteOf 0 = .ok (.aload_n 0, 1) := by decide +kernel
theorem dX11_byteOf_1 : decode cX11_byteOf 1 = .ok (.getfield 26, 3) := by decide +kernel
theorem dX11_byteOf_4 : decode cX11_byteOf 4 = .ok (.getfield 86, 3) := by decide +kernel
theorem dX11_byteOf_7 : decode cX11_byteOf 7 = .ok (.iload_n 1, 1) := by decide +kernel
theorem dX11_byteOf_8 : decode cX11_byteOf 8 = .ok (.invokevirtual 158, 3) := by decide +kernel
theorem dX11_byteOf_11 : decode cX11_byteOf 11 = .ok (.ifCond .eq 7, 3) := by decide +kernel
theorem dX11_byteOf_14 : decode cX11_byteOf 14 = .ok (.iload_n 2, 1) := by decide +kernel
theorem dX11_byteOf_15 : decode cX11_byteOf 15 = .ok (.ifCond .ge 5, 3) := by decide +kernel
theorem dX11_byteOf_18 : decode cX11_byteOf 18 = .ok (.iconst (-1), 1) := by decide +kernel
theorem dX11_byteOf_19 : decode cX11_byteOf 19 = .ok (.ireturn, 1) := by decide +kernel
theorem dX11_byteOf_20 : decode cX11_byteOf 20 = .ok (.aload_n 0, 1) := by decide +kernel
theorem dX11_byteOf_21 : decode cX11_byteOf 21 = .ok (.getfield 26, 3) := by decide +kernel
theorem dX11_byteOf_24 : decode cX11_byteOf 24 = .ok (.getfield 86, 3) := by decide +kernel
theorem dX11_byteOf_27 : decode cX11_byteOf 27 = .ok (.iload_n 1, 1) := by decide +kernel
theorem dX11_byteOf_28 : decode cX11_byteOf 28 = .ok (.invokevirtual 232, 3) := by decide +kernel
theorem dX11_byteOf_31 : decode cX11_byteOf 31 = .ok (.iload_n 2, 1) := by decide +kernel
theorem dX11_byteOf_32 : decode cX11_byteOf 32 = .ok (.invokevirtual 240, 3) := by decide +kernel
theorem dX11_byteOf_35 : decode cX11_byteOf 35 = .ok (.ireturn, 1) := by decide +kernel
theorem dX11_cause_0 : decode cX11_cause 0 = .ok (.iload_n 1, 1) := by decide +kernel
theorem dX11_cause_1 : decode cX11_cause 1 = .ok (.ifCond .ge 5, 3) := by decide +kernel
theorem dX11_cause_4 : decode cX11_cause 4 = .ok (.iconst (-1), 1) := by decide +kernel
theorem dX11_cause_5 : decode cX11_cause 5 = .ok (.ireturn, 1) := by decide +kernel
theorem dX11_cause_6 : decode cX11_cause 6 = .ok (.iload_n 1, 1) := by decide +kernel
theorem dX11_cause_7 : decode cX11_cause 7 = .ok (.ifCond .ne 11, 3) := by decide +kernel
theorem dX11_cause_10 : decode cX11_cause 10 = .ok (.aload_n 0, 1) := by decide +kernel
theorem dX11_cause_11 : decode cX11_cause 11 = .ok (.getfield 26, 3) := by decide +kernel
theorem dX11_cause_14 : decode cX11_cause 14 = .ok (.getfield 243, 3) := by decide +kernel
theorem dX11_cause_17 : decode cX11_cause 17 = .ok (.ireturn, 1) := by decide +kernel
theorem dX11_cause_18 : decode cX11_cause 18 = .ok (.iload_n 1, 1) := by decide +kernel
theorem dX11_cause_19 : decode cX11_cause 19 = .ok (.iconst 1, 1) := by decide +kernel
theorem dX11_cause_20 : decode cX11_cause 20 = .ok (.if_icmp .ne 13, 3) := by decide +kernel
theorem dX11_cause_23 : decode cX11_cause 23 = .ok (.aload_n 0, 1) := by decide +kernel
theorem dX11_cause_24 : decode cX11_cause 24 = .ok (.getfield 26, 3) := by decide +kernel
theorem dX11_cause_27 : decode cX11_cause 27 = .ok (.getfield 246, 3) := by decide +kernel
theorem dX11_cause_30 : decode cX11_cause 30 = .ok (.goto 5, 3) := by decide +kernel
theorem dX11_cause_33 : decode cX11_cause 33 = .ok (.bipush (-4), 2) := by decide +kernel
theorem dX11_cause_35 : decode cX11_cause 35 = .ok (.ireturn, 1) := by decide +kernel
theorem dX11_count_0 : decode cX11_count 0 = .ok (.iload_n 1, 1) := by decide +kernel
theorem dX11_count_1 : decode cX11_count 1 = .ok (.tableswitch 189 0 11 #[63, 74, 85, 96, 107, 118, 129, 140, 151, 162, 173, 181], 63) := by decide +kernel
theorem dX11_count_64 : decode cX11_count 64 = .ok (.aload_n 0, 1) := by decide +kernel
theorem dX11_count_65 : decode cX11_count 65 = .ok (.getfield 26, 3) := by decide +kernel
theorem dX11_count_68 : decode cX11_count 68 = .ok (.getfield 130, 3) := by decide +kernel
theorem dX11_count_71 : decode cX11_count 71 = .ok (.getfield 62, 3) := by decide +kernel
theorem dX11_count_74 : decode cX11_count 74 = .ok (.ireturn, 1) := by decide +kernel
theorem dX11_count_75 : decode cX11_count 75 = .ok (.aload_n 0, 1) := by decide +kernel
theorem dX11_count_76 : decode cX11_count 76 = .ok (.getfield 26, 3) := by decide +kernel
theorem dX11_count_79 : decode cX11_count 79 = .ok (.getfield 130, 3) := by decide +kernel
theorem dX11_count_82 : decode cX11_count 82 = .ok (.getfield 33, 3) := by decide +kernel
theorem dX11_count_85 : decode cX11_count 85 = .ok (.ireturn, 1) := by decide +kernel
theorem dX11_count_86 : decode cX11_count 86 = .ok (.aload_n 0, 1) := by decide +kernel
theorem dX11_count_87 : decode cX11_count 87 = .ok (.getfield 26, 3) := by decide +kernel
theorem dX11_count_90 : decode cX11_count 90 = .ok (.getfield 130, 3) := by decide +kernel
theorem dX11_count_93 : decode cX11_count 93 = .ok (.getfield 37, 3) := by decide +kernel
theorem dX11_count_96 : decode cX11_count 96 = .ok (.ireturn, 1) := by decide +kernel
theorem dX11_count_97 : decode cX11_count 97 = .ok (.aload_n 0, 1) := by decide +kernel
theorem dX11_count_98 : decode cX11_count 98 = .ok (.getfield 26, 3) := by decide +kernel
theorem dX11_count_101 : decode cX11_count 101 = .ok (.getfield 130, 3) := by decide +kernel
theorem dX11_count_104 : decode cX11_count 104 = .ok (.getfield 40, 3) := by decide +kernel
theorem dX11_count_107 : decode cX11_count 107 = .ok (.ireturn, 1) := by decide +kernel
theorem dX11_count_108 : decode cX11_count 108 = .ok (.aload_n 0, 1) := by decide +kernel
theorem dX11_count_109 : decode cX11_count 109 = .ok (.getfield 26, 3) := by decide +kernel
theorem dX11_count_112 : decode cX11_count 112 = .ok (.getfield 130, 3) := by decide +kernel
theorem dX11_count_115 : decode cX11_count 115 = .ok (.getfield 249, 3) := by decide +kernel
theorem dX11_count_118 : decode cX11_count 118 = .ok (.ireturn, 1) := by decide +kernel
theorem dX11_count_119 : decode cX11_count 119 = .ok (.aload_n 0, 1) := by decide +kernel
theorem dX11_count_120 : decode cX11_count 120 = .ok (.getfield 26, 3) := by decide +kernel
theorem dX11_count_123 : decode cX11_count 123 = .ok (.getfield 86, 3) := by decide +kernel
theorem dX11_count_126 : decode cX11_count 126 = .ok (.getfield 90, 3) := by decide +kernel
theorem dX11_count_129 : decode cX11_count 129 = .ok (.ireturn, 1) := by decide +kernel
theorem dX11_count_130 : decode cX11_count 130 = .ok (.aload_n 0, 1) := by decide +kernel
theorem dX11_count_131 : decode cX11_count 131 = .ok (.getfield 26, 3) := by decide +kernel
theorem dX11_count_134 : decode cX11_count 134 = .ok (.getfield 174, 3) := by decide +kernel
theorem dX11_count_137 : decode cX11_count 137 = .ok (.getfield 178, 3) := by decide +kernel
theorem dX11_count_140 : decode cX11_count 140 = .ok (.ireturn, 1) := by decide +kernel
theorem dX11_count_141 : decode cX11_count 141 = .ok (.aload_n 0, 1) := by decide +kernel
theorem dX11_count_142 : decode cX11_count 142 = .ok (.getfield 26, 3) := by decide +kernel
theorem dX11_count_145 : decode cX11_count 145 = .ok (.getfield 86, 3) := by decide +kernel
theorem dX11_count_148 : decode cX11_count 148 = .ok (.getfield 203, 3) := by decide +kernel
theorem dX11_count_151 : decode cX11_count 151 = .ok (.ireturn, 1) := by decide +kernel
theorem dX11_count_152 : decode cX11_count 152 = .ok (.aload_n 0, 1) := by decide +kernel
theorem dX11_count_153 : decode cX11_count 153 = .ok (.getfield 26, 3) := by decide +kernel
theorem dX11_count_156 : decode cX11_count 156 = .ok (.getfield 86, 3) := by decide +kernel
theorem dX11_count_159 : decode cX11_count 159 = .ok (.getfield 252, 3) := by decide +kernel
theorem dX11_count_162 : decode cX11_count 162 = .ok (.ireturn, 1) := by decide +kernel
theorem dX11_count_163 : decode cX11_count 163 = .ok (.aload_n 0, 1) := by decide +kernel
theorem dX11_count_164 : decode cX11_count 164 = .ok (.getfield 26, 3) := by decide +kernel
theorem dX11_count_167 : decode cX11_count 167 = .ok (.getfield 86, 3) := by decide +kernel
theorem dX11_count_170 : decode cX11_count 170 = .ok (.getfield 255, 3) := by decide +kernel
theorem dX11_count_173 : decode cX11_count 173 = .ok (.ireturn, 1) := by decide +kernel
theorem dX11_count_174 : decode cX11_count 174 = .ok (.aload_n 0, 1) := by decide +kernel
theorem dX11_count_175 : decode cX11_count 175 = .ok (.getfield 26, 3) := by decide +kernel
theorem dX11_count_178 : decode cX11_count 178 = .ok (.getfield 258, 3) := by decide +kernel
theorem dX11_count_181 : decode cX11_count 181 = .ok (.ireturn, 1) := by decide +kernel
theorem dX11_count_182 : decode cX11_count 182 = .ok (.aload_n 0, 1) := by decide +kernel
theorem dX11_count_183 : decode cX11_count 183 = .ok (.getfield 10, 3) := by decide +kernel
theorem dX11_count_186 : decode cX11_count 186 = .ok (.getfield 51, 3) := by decide +kernel
theorem dX11_count_189 : decode cX11_count 189 = .ok (.ireturn, 1) := by decide +kernel
theorem dX11_count_190 : decode cX11_count 190 = .ok (.iconst (-1), 1) := by decide +kernel
theorem dX11_count_191 : decode cX11_count 191 = .ok (.ireturn, 1) := by decide +kernel
theorem dX11_isEnd_0 : decode cX11_isEnd 0 = .ok (.iload_n 0, 1) := by decide +kernel
theorem dX11_isEnd_1 : decode cX11_isEnd 1 = .ok (.ifCond .eq 8, 3) := by decide +kernel
theorem dX11_isEnd_4 : decode cX11_isEnd 4 = .ok (.iload_n 0, 1) := by decide +kernel
theorem dX11_isEnd_5 : decode cX11_isEnd 5 = .ok (.iconst 1, 1) := by decide +kernel
theorem dX11_isEnd_6 : decode cX11_isEnd 6 = .ok (.if_icmp .ne 7, 3) := by decide +kernel
theorem dX11_isEnd_9 : decode cX11_isEnd 9 = .ok (.iconst 1, 1) := by decide +kernel
theorem dX11_isEnd_10 : decode cX11_isEnd 10 = .ok (.goto 4, 3) := by decide +kernel
theorem dX11_isEnd_13 : decode cX11_isEnd 13 = .ok (.iconst 0, 1) := by decide +kernel
theorem dX11_isEnd_14 : decode cX11_isEnd 14 = .ok (.ireturn, 1) := by decide +kernel
theorem dX12_init_0 : decode cX12_init 0 = .ok (.aload_n 0, 1) := by decide +kernel
theorem dX12_init_1 : decode cX12_init 1 = .ok (.invokespecial 1, 3) := by decide +kernel
theorem dX12_init_4 : decode cX12_init 4 = .ok (.aload_n 0, 1) := by decide +kernel
theorem dX12_init_5 : decode cX12_init 5 = .ok (.sipush 985, 3) := by decide +kernel
theorem dX12_init_8 : decode cX12_init 8 = .ok (.newarray .int, 2) := by decide +kernel
theorem dX12_init_10 : decode cX12_init 10 = .ok (.putfield 7, 3) := by decide +kernel
theorem dX12_init_13 : decode cX12_init 13 = .ok (.aload_n 0, 1) := by decide +kernel
theorem dX12_init_14 : decode cX12_init 14 = .ok (.sipush 985, 3) := by decide +kernel
theorem dX12_init_17 : decode cX12_init 17 = .ok (.newarray .int, 2) := by decide +kernel
theorem dX12_init_19 : decode cX12_init 19 = .ok (.putfield 13, 3) := by decide +kernel
theorem dX12_init_22 : decode cX12_init 22 = .ok (.aload_n 0, 1) := by decide +kernel
theorem dX12_init_23 : decode cX12_init 23 = .ok (.bipush 20, 2) := by decide +kernel
theorem dX12_init_25 : decode cX12_init 25 = .ok (.newarray .int, 2) := by decide +kernel
theorem dX12_init_27 : decode cX12_init 27 = .ok (.putfield 16, 3) := by decide +kernel
theorem dX12_init_30 : decode cX12_init 30 = .ok (.aload_n 0, 1) := by decide +kernel
theorem dX12_init_31 : decode cX12_init 31 = .ok (.bipush 20, 2) := by decide +kernel
theorem dX12_init_33 : decode cX12_init 33 = .ok (.newarray .int, 2) := by decide +kernel
theorem dX12_init_35 : decode cX12_init 35 = .ok (.putfield 19, 3) := by decide +kernel
theorem dX12_init_38 : decode cX12_init 38 = .ok (.aload_n 0, 1) := by decide +kernel
theorem dX12_init_39 : decode cX12_init 39 = .ok (.sipush 200, 3) := by decide +kernel
theorem dX12_init_42 : decode cX12_init 42 = .ok (.newarray .int, 2) := by decide +kernel
theorem dX12_init_44 : decode cX12_init 44 = .ok (.putfield 22, 3) := by decide +kernel
theorem dX12_init_47 : decode cX12_init 47 = .ok (.aload_n 0, 1) := by decide +kernel
theorem dX12_init_48 : decode cX12_init 48 = .ok (.iconst 4, 1) := by decide +kernel
theorem dX12_init_49 : decode cX12_init 49 = .ok (.putfield 25, 3) := by decide +kernel
theorem dX12_init_52 : decode cX12_init 52 = .ok (.aload_n 0, 1) := by decide +kernel
theorem dX12_init_53 : decode cX12_init 53 = .ok (.bipush 12, 2) := by decide +kernel
theorem dX12_init_55 : decode cX12_init 55 = .ok (.putfield 29, 3) := by decide +kernel
theorem dX12_init_58 : decode cX12_init 58 = .ok (.aload_n 0, 1) := by decide +kernel
theorem dX12_init_59 : decode cX12_init 59 = .ok (.iconst 5, 1) := by decide +kernel
theorem dX12_init_60 : decode cX12_init 60 = .ok (.putfield 32, 3) := by decide +kernel
theorem dX12_init_63 : decode cX12_init 63 = .ok (.aload_n 0, 1) := by decide +kernel
theorem dX12_init_64 : decode cX12_init 64 = .ok (.iconst 2, 1) := by decide +kernel
theorem dX12_init_65 : decode cX12_init 65 = .ok (.newarray .int, 2) := by decide +kernel
theorem dX12_init_67 : decode cX12_init 67 = .ok (.dup, 1) := by decide +kernel
theorem dX12_init_68 : decode cX12_init 68 = .ok (.iconst 0, 1) := by decide +kernel
theorem dX12_init_69 : decode cX12_init 69 = .ok (.sipush 250, 3) := by decide +kernel
theorem dX12_init_72 : decode cX12_init 72 = .ok (.iastore, 1) := by decide +kernel
theorem dX12_init_73 : decode cX12_init 73 = .ok (.dup, 1) := by decide +kernel
theorem dX12_init_74 : decode cX12_init 74 = .ok (.iconst 1, 1) := by decide +kernel
theorem dX12_init_75 : decode cX12_init 75 = .ok (.bipush 100, 2) := by decide +kernel
theorem dX12_init_77 : decode cX12_init 77 = .ok (.iastore, 1) := by decide +kernel
theorem dX12_init_78 : decode cX12_init 78 = .ok (.putfield 35, 3) := by decide +kernel
theorem dX12_init_81 : decode cX12_init 81 = .ok (.aload_n 0, 1) := by decide +kernel
theorem dX12_init_82 : decode cX12_init 82 = .ok (.iconst 2, 1) := by decide +kernel
theorem dX12_init_83 : decode cX12_init 83 = .ok (.newarray .int, 2) := by decide +kernel
theorem dX12_init_85 : decode cX12_init 85 = .ok (.putfield 38, 3) := by decide +kernel
theorem dX12_init_88 : decode cX12_init 88 = .ok (.aload_n 0, 1) := by decide +kernel
theorem dX12_init_89 : decode cX12_init 89 = .ok (.invokevirtual 41, 3) := by decide +kernel
theorem dX12_init_92 : decode cX12_init 92 = .ok (.return_, 1) := by decide +kernel
theorem dX12_in_0 : decode cX12_in 0 = .ok (.lload_n 0, 1) := by decide +kernel
theorem dX12_in_1 : decode cX12_in 1 = .ok (.lload_n 2, 1) := by decide +kernel
theorem dX12_in_2 : decode cX12_in 2 = .ok (.lcmp, 1) := by decide +kernel
theorem dX12_in_3 : decode cX12_in 3 = .ok (.ifCond .lt 14, 3) := by decide +kernel
theorem dX12_in_6 : decode cX12_in 6 = .ok (.lload_n 0, 1) := by decide +kernel
theorem dX12_in_7 : decode cX12_in 7 = .ok (.lload 4, 2) := by decide +kernel
theorem dX12_in_9 : decode cX12_in 9 = .ok (.lcmp, 1) := by decide +kernel
theorem dX12_in_10 : decode cX12_in 10 = .ok (.ifCond .gt 7, 3) := by decide +kernel
theorem dX12_in_13 : decode cX12_in 13 = .ok (.iconst 1, 1) := by decide +kernel
theorem dX12_in_14 : decode cX12_in 14 = .ok (.goto 4, 3) := by decide +kernel
theorem dX12_in_17 : decode cX12_in 17 = .ok (.iconst 0, 1) := by decide +kernel
theorem dX12_in_18 : decode cX12_in 18 = .ok (.ireturn, 1) := by decide +kernel
theorem dX12_lesser_0 : decode cX12_lesser 0 = .ok (.iload_n 0, 1) := by decide +kernel
theorem dX12_lesser_1 : decode cX12_lesser 1 = .ok (.iload_n 1, 1) := by decide +kernel
theorem dX12_lesser_2 : decode cX12_lesser 2 = .ok (.if_icmp .ge 7, 3) := by decide +kernel
theorem dX12_lesser_5 : decode cX12_lesser 5 = .ok (.iload_n 0, 1) := by decide +kernel
theorem dX12_lesser_6 : decode cX12_lesser 6 = .ok (.goto 4, 3) := by decide +kernel
theorem dX12_lesser_9 : decode cX12_lesser 9 = .ok (.iload_n 1, 1) := by decide +kernel
theorem dX12_lesser_10 : decode cX12_lesser 10 = .ok (.ireturn, 1) := by decide +kernel
theorem dX12_greater_0 : decode cX12_greater 0 = .ok (.iload_n 0, 1) := by decide +kernel
theorem dX12_greater_1 : decode cX12_greater 1 = .ok (.iload_n 1, 1) := by decide +kernel
theorem dX12_greater_2 : decode cX12_greater 2 = .ok (.if_icmp .le 7, 3) := by decide +kernel
theorem dX12_greater_5 : decode cX12_greater 5 = .ok (.iload_n 0, 1) := by decide +kernel
theorem dX12_greater_6 : decode cX12_greater 6 = .ok (.goto 4, 3) := by decide +kernel
theorem dX12_greater_9 : decode cX12_greater 9 = .ok (.iload_n 1, 1) := by decide +kernel
theorem dX12_greater_10 : decode cX12_greater 10 = .ok (.ireturn, 1) := by decide +kernel
theorem dX12_get_0 : decode cX12_get 0 = .ok (.aload_n 0, 1) := by decide +kernel
theorem dX12_get_1 : decode cX12_get 1 = .ok (.getfield 7, 3) := by decide +kernel
theorem dX12_get_4 : decode cX12_get 4 = .ok (.sipush 288, 3) := by decide +kernel
theorem dX12_get_7 : decode cX12_get 7 = .ok (.iload_n 1, 1) := by decide +kernel
theorem dX12_get_8 : decode cX12_get 8 = .ok (.imul, 1) := by decide +kernel
theorem dX12_get_9 : decode cX12_get 9 = .ok (.iload_n 2, 1) := by decide +kernel
theorem dX12_get_10 : decode cX12_get 10 = .ok (.iadd, 1) := by decide +kernel
theorem dX12_get_11 : decode cX12_get 11 = .ok (.iaload, 1) := by decide +kernel
theorem dX12_get_12 : decode cX12_get 12 = .ok (.ireturn, 1) := by decide +kernel
theorem dX12_set_0 : decode cX12_set 0 = .ok (.aload_n 0, 1) := by decide +kernel
theorem dX12_set_1 : decode cX12_set 1 = .ok (.getfield 7, 3) := by decide +kernel
theorem dX12_set_4 : decode cX12_set 4 = .ok (.sipush 288, 3) := by decide +kernel
theorem dX12_set_7 : decode cX12_set 7 = .ok (.iload_n 1, 1) := by decide +kernel
theorem dX12_set_8 : decode cX12_set 8 = .ok (.imul, 1) := by decide +kernel
