/-! decode rows (printed) -/
theorem dX0_init_0 : decode cX0_init 0 = .ok (.aload_n 0, 1) := by decide +kernel
theorem dX0_init_1 : decode cX0_init 1 = .ok (.invokespecial 1, 3) := by decide +kernel
theorem dX0_init_4 : decode cX0_init 4 = .ok (.return_, 1) := by decide +kernel
theorem dX1_init_0 : decode cX1_init 0 = .ok (.aload_n 0, 1) := by decide +kernel
theorem dX1_init_1 : decode cX1_init 1 = .ok (.invokespecial 3, 3) := by decide +kernel
theorem dX1_init_4 : decode cX1_init 4 = .ok (.aload_n 0, 1) := by decide +kernel
theorem dX1_init_5 : decode cX1_init 5 = .ok (.invokevirtual 9, 3) := by decide +kernel
theorem dX1_init_8 : decode cX1_init 8 = .ok (.return_, 1) := by decide +kernel
theorem dX1_setDefaults_0 : decode cX1_setDefaults 0 = .ok (.aload_n 0, 1) := by decide +kernel
theorem dX1_setDefaults_1 : decode cX1_setDefaults 1 = .ok (.iconst 4, 1) := by decide +kernel
theorem dX1_setDefaults_2 : decode cX1_setDefaults 2 = .ok (.putfield 14, 3) := by decide +kernel
theorem dX1_setDefaults_5 : decode cX1_setDefaults 5 = .ok (.aload_n 0, 1) := by decide +kernel
theorem dX1_setDefaults_6 : decode cX1_setDefaults 6 = .ok (.bipush 16, 2) := by decide +kernel
theorem dX1_setDefaults_8 : decode cX1_setDefaults 8 = .ok (.putfield 18, 3) := by decide +kernel
theorem dX1_setDefaults_11 : decode cX1_setDefaults 11 = .ok (.aload_n 0, 1) := by decide +kernel
theorem dX1_setDefaults_12 : decode cX1_setDefaults 12 = .ok (.iconst 0, 1) := by decide +kernel
theorem dX1_setDefaults_13 : decode cX1_setDefaults 13 = .ok (.putfield 21, 3) := by decide +kernel
theorem dX1_setDefaults_16 : decode cX1_setDefaults 16 = .ok (.aload_n 0, 1) := by decide +kernel
theorem dX1_setDefaults_17 : decode cX1_setDefaults 17 = .ok (.iconst 0, 1) := by decide +kernel
theorem dX1_setDefaults_18 : decode cX1_setDefaults 18 = .ok (.putfield 24, 3) := by decide +kernel
theorem dX1_setDefaults_21 : decode cX1_setDefaults 21 = .ok (.aload_n 0, 1) := by decide +kernel
theorem dX1_setDefaults_22 : decode cX1_setDefaults 22 = .ok (.iconst 5, 1) := by decide +kernel
theorem dX1_setDefaults_23 : decode cX1_setDefaults 23 = .ok (.putfield 27, 3) := by decide +kernel
theorem dX1_setDefaults_26 : decode cX1_setDefaults 26 = .ok (.return_, 1) := by decide +kernel
theorem dX1_copyFrom_0 : decode cX1_copyFrom 0 = .ok (.aload_n 0, 1) := by decide +kernel
theorem dX1_copyFrom_1 : decode cX1_copyFrom 1 = .ok (.aload_n 1, 1) := by decide +kernel
theorem dX1_copyFrom_2 : decode cX1_copyFrom 2 = .ok (.getfield 14, 3) := by decide +kernel
theorem dX1_copyFrom_5 : decode cX1_copyFrom 5 = .ok (.putfield 14, 3) := by decide +kernel
theorem dX1_copyFrom_8 : decode cX1_copyFrom 8 = .ok (.aload_n 0, 1) := by decide +kernel
theorem dX1_copyFrom_9 : decode cX1_copyFrom 9 = .ok (.aload_n 1, 1) := by decide +kernel
theorem dX1_copyFrom_10 : decode cX1_copyFrom 10 = .ok (.getfield 18, 3) := by decide +kernel
theorem dX1_copyFrom_13 : decode cX1_copyFrom 13 = .ok (.putfield 18, 3) := by decide +kernel
theorem dX1_copyFrom_16 : decode cX1_copyFrom 16 = .ok (.aload_n 0, 1) := by decide +kernel
theorem dX1_copyFrom_17 : decode cX1_copyFrom 17 = .ok (.aload_n 1, 1) := by decide +kernel
theorem dX1_copyFrom_18 : decode cX1_copyFrom 18 = .ok (.getfield 21, 3) := by decide +kernel
theorem dX1_copyFrom_21 : decode cX1_copyFrom 21 = .ok (.putfield 21, 3) := by decide +kernel
theorem dX1_copyFrom_24 : decode cX1_copyFrom 24 = .ok (.aload_n 0, 1) := by decide +kernel
theorem dX1_copyFrom_25 : decode cX1_copyFrom 25 = .ok (.aload_n 1, 1) := by decide +kernel
theorem dX1_copyFrom_26 : decode cX1_copyFrom 26 = .ok (.getfield 24, 3) := by decide +kernel
theorem dX1_copyFrom_29 : decode cX1_copyFrom 29 = .ok (.putfield 24, 3) := by decide +kernel
theorem dX1_copyFrom_32 : decode cX1_copyFrom 32 = .ok (.aload_n 0, 1) := by decide +kernel
theorem dX1_copyFrom_33 : decode cX1_copyFrom 33 = .ok (.aload_n 1, 1) := by decide +kernel
theorem dX1_copyFrom_34 : decode cX1_copyFrom 34 = .ok (.getfield 27, 3) := by decide +kernel
theorem dX1_copyFrom_37 : decode cX1_copyFrom 37 = .ok (.putfield 27, 3) := by decide +kernel
theorem dX1_copyFrom_40 : decode cX1_copyFrom 40 = .ok (.return_, 1) := by decide +kernel
theorem dX1_hasRoom_0 : decode cX1_hasRoom 0 = .ok (.aload_n 0, 1) := by decide +kernel
theorem dX1_hasRoom_1 : decode cX1_hasRoom 1 = .ok (.getfield 18, 3) := by decide +kernel
theorem dX1_hasRoom_4 : decode cX1_hasRoom 4 = .ok (.iconst 2, 1) := by decide +kernel
theorem dX1_hasRoom_5 : decode cX1_hasRoom 5 = .ok (.aload_n 0, 1) := by decide +kernel
theorem dX1_hasRoom_6 : decode cX1_hasRoom 6 = .ok (.getfield 14, 3) := by decide +kernel
theorem dX1_hasRoom_9 : decode cX1_hasRoom 9 = .ok (.imul, 1) := by decide +kernel
theorem dX1_hasRoom_10 : decode cX1_hasRoom 10 = .ok (.if_icmp .lt 7, 3) := by decide +kernel
theorem dX1_hasRoom_13 : decode cX1_hasRoom 13 = .ok (.iconst 1, 1) := by decide +kernel
theorem dX1_hasRoom_14 : decode cX1_hasRoom 14 = .ok (.goto 4, 3) := by decide +kernel
theorem dX1_hasRoom_17 : decode cX1_hasRoom 17 = .ok (.iconst 0, 1) := by decide +kernel
theorem dX1_hasRoom_18 : decode cX1_hasRoom 18 = .ok (.ireturn, 1) := by decide +kernel
theorem dX1_read_0 : decode cX1_read 0 = .ok (.aload_n 0, 1) := by decide +kernel
theorem dX1_read_1 : decode cX1_read 1 = .ok (.invokevirtual 9, 3) := by decide +kernel
theorem dX1_read_4 : decode cX1_read 4 = .ok (.iconst 0, 1) := by decide +kernel
theorem dX1_read_5 : decode cX1_read 5 = .ok (.istore_n 2, 1) := by decide +kernel
theorem dX1_read_6 : decode cX1_read 6 = .ok (.iload_n 2, 1) := by decide +kernel
theorem dX1_read_7 : decode cX1_read 7 = .ok (.aload_n 1, 1) := by decide +kernel
theorem dX1_read_8 : decode cX1_read 8 = .ok (.getfield 30, 3) := by decide +kernel
theorem dX1_read_11 : decode cX1_read 11 = .ok (.if_icmp .ge 22, 3) := by decide +kernel
theorem dX1_read_14 : decode cX1_read 14 = .ok (.aload_n 0, 1) := by decide +kernel
theorem dX1_read_15 : decode cX1_read 15 = .ok (.aload_n 1, 1) := by decide +kernel
theorem dX1_read_16 : decode cX1_read 16 = .ok (.iload_n 2, 1) := by decide +kernel
theorem dX1_read_17 : decode cX1_read 17 = .ok (.invokevirtual 35, 3) := by decide +kernel
theorem dX1_read_20 : decode cX1_read 20 = .ok (.istore_n 3, 1) := by decide +kernel
theorem dX1_read_21 : decode cX1_read 21 = .ok (.iload_n 3, 1) := by decide +kernel
theorem dX1_read_22 : decode cX1_read 22 = .ok (.iload_n 2, 1) := by decide +kernel
theorem dX1_read_23 : decode cX1_read 23 = .ok (.if_icmp .gt 5, 3) := by decide +kernel
theorem dX1_read_26 : decode cX1_read 26 = .ok (.iload_n 2, 1) := by decide +kernel
theorem dX1_read_27 : decode cX1_read 27 = .ok (.ireturn, 1) := by decide +kernel
theorem dX1_read_28 : decode cX1_read 28 = .ok (.iload_n 3, 1) := by decide +kernel
theorem dX1_read_29 : decode cX1_read 29 = .ok (.istore_n 2, 1) := by decide +kernel
theorem dX1_read_30 : decode cX1_read 30 = .ok (.goto (-24), 3) := by decide +kernel
theorem dX1_read_33 : decode cX1_read 33 = .ok (.bipush (-4), 2) := by decide +kernel
theorem dX1_read_35 : decode cX1_read 35 = .ok (.ireturn, 1) := by decide +kernel
theorem dX1_readItem_0 : decode cX1_readItem 0 = .ok (.aload_n 1, 1) := by decide +kernel
theorem dX1_readItem_1 : decode cX1_readItem 1 = .ok (.iload_n 2, 1) := by decide +kernel
theorem dX1_readItem_2 : decode cX1_readItem 2 = .ok (.invokevirtual 39, 3) := by decide +kernel
theorem dX1_readItem_5 : decode cX1_readItem 5 = .ok (.istore_n 3, 1) := by decide +kernel
theorem dX1_readItem_6 : decode cX1_readItem 6 = .ok (.aload_n 1, 1) := by decide +kernel
theorem dX1_readItem_7 : decode cX1_readItem 7 = .ok (.iload_n 2, 1) := by decide +kernel
theorem dX1_readItem_8 : decode cX1_readItem 8 = .ok (.iconst 1, 1) := by decide +kernel
theorem dX1_readItem_9 : decode cX1_readItem 9 = .ok (.iadd, 1) := by decide +kernel
theorem dX1_readItem_10 : decode cX1_readItem 10 = .ok (.invokevirtual 43, 3) := by decide +kernel
theorem dX1_readItem_13 : decode cX1_readItem 13 = .ok (.istore 4, 2) := by decide +kernel
theorem dX1_readItem_15 : decode cX1_readItem 15 = .ok (.aload_n 1, 1) := by decide +kernel
theorem dX1_readItem_16 : decode cX1_readItem 16 = .ok (.iload_n 2, 1) := by decide +kernel
theorem dX1_readItem_17 : decode cX1_readItem 17 = .ok (.iconst 1, 1) := by decide +kernel
theorem dX1_readItem_18 : decode cX1_readItem 18 = .ok (.iadd, 1) := by decide +kernel
theorem dX1_readItem_19 : decode cX1_readItem 19 = .ok (.iload 4, 2) := by decide +kernel
theorem dX1_readItem_21 : decode cX1_readItem 21 = .ok (.invokevirtual 46, 3) := by decide +kernel
theorem dX1_readItem_24 : decode cX1_readItem 24 = .ok (.istore 5, 2) := by decide +kernel
theorem dX1_readItem_26 : decode cX1_readItem 26 = .ok (.bipush (-4), 2) := by decide +kernel
theorem dX1_readItem_28 : decode cX1_readItem 28 = .ok (.istore 6, 2) := by decide +kernel
theorem dX1_readItem_30 : decode cX1_readItem 30 = .ok (.iload_n 3, 1) := by decide +kernel
theorem dX1_readItem_31 : decode cX1_readItem 31 = .ok (.bipush 102, 2) := by decide +kernel
theorem dX1_readItem_33 : decode cX1_readItem 33 = .ok (.if_icmp .ne 38, 3) := by decide +kernel
theorem dX1_readItem_36 : decode cX1_readItem 36 = .ok (.aload_n 1, 1) := by decide +kernel
theorem dX1_readItem_37 : decode cX1_readItem 37 = .ok (.iload 4, 2) := by decide +kernel
theorem dX1_readItem_39 : decode cX1_readItem 39 = .ok (.invokevirtual 39, 3) := by decide +kernel
theorem dX1_readItem_42 : decode cX1_readItem 42 = .ok (.bipush 44, 2) := by decide +kernel
theorem dX1_readItem_44 : decode cX1_readItem 44 = .ok (.if_icmp .ne 27, 3) := by decide +kernel
theorem dX1_readItem_47 : decode cX1_readItem 47 = .ok (.iload 4, 2) := by decide +kernel
theorem dX1_readItem_49 : decode cX1_readItem 49 = .ok (.iconst 1, 1) := by decide +kernel
theorem dX1_readItem_50 : decode cX1_readItem 50 = .ok (.iadd, 1) := by decide +kernel
theorem dX1_readItem_51 : decode cX1_readItem 51 = .ok (.istore 7, 2) := by decide +kernel
theorem dX1_readItem_53 : decode cX1_readItem 53 = .ok (.aload_n 1, 1) := by decide +kernel
theorem dX1_readItem_54 : decode cX1_readItem 54 = .ok (.iload 7, 2) := by decide +kernel
theorem dX1_readItem_56 : decode cX1_readItem 56 = .ok (.invokevirtual 43, 3) := by decide +kernel
theorem dX1_readItem_59 : decode cX1_readItem 59 = .ok (.istore 4, 2) := by decide +kernel
theorem dX1_readItem_61 : decode cX1_readItem 61 = .ok (.aload_n 1, 1) := by decide +kernel
theorem dX1_readItem_62 : decode cX1_readItem 62 = .ok (.iload 7, 2) := by decide +kernel
theorem dX1_readItem_64 : decode cX1_readItem 64 = .ok (.iload 4, 2) := by decide +kernel
theorem dX1_readItem_66 : decode cX1_readItem 66 = .ok (.invokevirtual 46, 3) := by decide +kernel
theorem dX1_readItem_69 : decode cX1_readItem 69 = .ok (.istore 6, 2) := by decide +kernel
theorem dX1_readItem_71 : decode cX1_readItem 71 = .ok (.aload_n 1, 1) := by decide +kernel
theorem dX1_readItem_72 : decode cX1_readItem 72 = .ok (.iload 4, 2) := by decide +kernel
theorem dX1_readItem_74 : decode cX1_readItem 74 = .ok (.invokevirtual 39, 3) := by decide +kernel
theorem dX1_readItem_77 : decode cX1_readItem 77 = .ok (.bipush 59, 2) := by decide +kernel
theorem dX1_readItem_79 : decode cX1_readItem 79 = .ok (.if_icmp .ne 22, 3) := by decide +kernel
theorem dX1_readItem_82 : decode cX1_readItem 82 = .ok (.aload_n 0, 1) := by decide +kernel
theorem dX1_readItem_83 : decode cX1_readItem 83 = .ok (.iload_n 3, 1) := by decide +kernel
theorem dX1_readItem_84 : decode cX1_readItem 84 = .ok (.iload 5, 2) := by decide +kernel
theorem dX1_readItem_86 : decode cX1_readItem 86 = .ok (.iload 6, 2) := by decide +kernel
theorem dX1_readItem_88 : decode cX1_readItem 88 = .ok (.invokevirtual 50, 3) := by decide +kernel
theorem dX1_readItem_91 : decode cX1_readItem 91 = .ok (.ifCond .eq 10, 3) := by decide +kernel
theorem dX1_readItem_94 : decode cX1_readItem 94 = .ok (.iload 4, 2) := by decide +kernel
theorem dX1_readItem_96 : decode cX1_readItem 96 = .ok (.iconst 1, 1) := by decide +kernel
theorem dX1_readItem_97 : decode cX1_readItem 97 = .ok (.iadd, 1) := by decide +kernel
theorem dX1_readItem_98 : decode cX1_readItem 98 = .ok (.goto 5, 3) := by decide +kernel
theorem dX1_readItem_101 : decode cX1_readItem 101 = .ok (.bipush (-4), 2) := by decide +kernel
theorem dX1_readItem_103 : decode cX1_readItem 103 = .ok (.ireturn, 1) := by decide +kernel
theorem dX1_set_0 : decode cX1_set 0 = .ok (.iload_n 1, 1) := by decide +kernel
theorem dX1_set_1 : decode cX1_set 1 = .ok (.lookupswitch 163 #[(98, 69), (102, 95), (108, 137), (112, 43)], 43) := by decide +kernel
theorem dX1_set_44 : decode cX1_set 44 = .ok (.iload_n 2, 1) := by decide +kernel
theorem dX1_set_45 : decode cX1_set 45 = .ok (.iconst 1, 1) := by decide +kernel
theorem dX1_set_46 : decode cX1_set 46 = .ok (.if_icmp .lt 13, 3) := by decide +kernel
theorem dX1_set_49 : decode cX1_set 49 = .ok (.iload_n 2, 1) := by decide +kernel
theorem dX1_set_50 : decode cX1_set 50 = .ok (.bipush 8, 2) := by decide +kernel
theorem dX1_set_52 : decode cX1_set 52 = .ok (.if_icmp .gt 7, 3) := by decide +kernel
theorem dX1_set_55 : decode cX1_set 55 = .ok (.iconst 1, 1) := by decide +kernel
theorem dX1_set_56 : decode cX1_set 56 = .ok (.goto 4, 3) := by decide +kernel
theorem dX1_set_59 : decode cX1_set 59 = .ok (.iconst 0, 1) := by decide +kernel
theorem dX1_set_60 : decode cX1_set 60 = .ok (.istore 4, 2) := by decide +kernel
theorem dX1_set_62 : decode cX1_set 62 = .ok (.aload_n 0, 1) := by decide +kernel
theorem dX1_set_63 : decode cX1_set 63 = .ok (.iload_n 2, 1) := by decide +kernel
theorem dX1_set_64 : decode cX1_set 64 = .ok (.putfield 14, 3) := by decide +kernel
theorem dX1_set_67 : decode cX1_set 67 = .ok (.goto 100, 3) := by decide +kernel
theorem dX1_set_70 : decode cX1_set 70 = .ok (.iload_n 2, 1) := by decide +kernel
theorem dX1_set_71 : decode cX1_set 71 = .ok (.iconst 2, 1) := by decide +kernel
theorem dX1_set_72 : decode cX1_set 72 = .ok (.if_icmp .lt 13, 3) := by decide +kernel
theorem dX1_set_75 : decode cX1_set 75 = .ok (.iload_n 2, 1) := by decide +kernel
theorem dX1_set_76 : decode cX1_set 76 = .ok (.bipush 32, 2) := by decide +kernel
theorem dX1_set_78 : decode cX1_set 78 = .ok (.if_icmp .gt 7, 3) := by decide +kernel
theorem dX1_set_81 : decode cX1_set 81 = .ok (.iconst 1, 1) := by decide +kernel
theorem dX1_set_82 : decode cX1_set 82 = .ok (.goto 4, 3) := by decide +kernel
theorem dX1_set_85 : decode cX1_set 85 = .ok (.iconst 0, 1) := by decide +kernel
theorem dX1_set_86 : decode cX1_set 86 = .ok (.istore 4, 2) := by decide +kernel
theorem dX1_set_88 : decode cX1_set 88 = .ok (.aload_n 0, 1) := by decide +kernel
theorem dX1_set_89 : decode cX1_set 89 = .ok (.iload_n 2, 1) := by decide +kernel
theorem dX1_set_90 : decode cX1_set 90 = .ok (.putfield 18, 3) := by decide +kernel
theorem dX1_set_93 : decode cX1_set 93 = .ok (.goto 74, 3) := by decide +kernel
theorem dX1_set_96 : decode cX1_set 96 = .ok (.iload_n 2, 1) := by decide +kernel
theorem dX1_set_97 : decode cX1_set 97 = .ok (.ifCond .lt 25, 3) := by decide +kernel
theorem dX1_set_100 : decode cX1_set 100 = .ok (.iload_n 2, 1) := by decide +kernel
theorem dX1_set_101 : decode cX1_set 101 = .ok (.sipush 255, 3) := by decide +kernel
theorem dX1_set_104 : decode cX1_set 104 = .ok (.if_icmp .gt 18, 3) := by decide +kernel
theorem dX1_set_107 : decode cX1_set 107 = .ok (.iload_n 3, 1) := by decide +kernel
theorem dX1_set_108 : decode cX1_set 108 = .ok (.ifCond .lt 14, 3) := by decide +kernel
theorem dX1_set_111 : decode cX1_set 111 = .ok (.iload_n 3, 1) := by decide +kernel
theorem dX1_set_112 : decode cX1_set 112 = .ok (.sipush 255, 3) := by decide +kernel
theorem dX1_set_115 : decode cX1_set 115 = .ok (.if_icmp .gt 7, 3) := by decide +kernel
theorem dX1_set_118 : decode cX1_set 118 = .ok (.iconst 1, 1) := by decide +kernel
theorem dX1_set_119 : decode cX1_set 119 = .ok (.goto 4, 3) := by decide +kernel
theorem dX1_set_122 : decode cX1_set 122 = .ok (.iconst 0, 1) := by decide +kernel
theorem dX1_set_123 : decode cX1_set 123 = .ok (.istore 4, 2) := by decide +kernel
theorem dX1_set_125 : decode cX1_set 125 = .ok (.aload_n 0, 1) := by decide +kernel
theorem dX1_set_126 : decode cX1_set 126 = .ok (.iload_n 2, 1) := by decide +kernel
theorem dX1_set_127 : decode cX1_set 127 = .ok (.putfield 21, 3) := by decide +kernel
theorem dX1_set_130 : decode cX1_set 130 = .ok (.aload_n 0, 1) := by decide +kernel
theorem dX1_set_131 : decode cX1_set 131 = .ok (.iload_n 3, 1) := by decide +kernel
theorem dX1_set_132 : decode cX1_set 132 = .ok (.putfield 24, 3) := by decide +kernel
theorem dX1_set_135 : decode cX1_set 135 = .ok (.goto 32, 3) := by decide +kernel
theorem dX1_set_138 : decode cX1_set 138 = .ok (.iload_n 2, 1) := by decide +kernel
theorem dX1_set_139 : decode cX1_set 139 = .ok (.iconst 1, 1) := by decide +kernel
theorem dX1_set_140 : decode cX1_set 140 = .ok (.if_icmp .lt 13, 3) := by decide +kernel
theorem dX1_set_143 : decode cX1_set 143 = .ok (.iload_n 2, 1) := by decide +kernel
theorem dX1_set_144 : decode cX1_set 144 = .ok (.bipush 20, 2) := by decide +kernel
theorem dX1_set_146 : decode cX1_set 146 = .ok (.if_icmp .gt 7, 3) := by decide +kernel
theorem dX1_set_149 : decode cX1_set 149 = .ok (.iconst 1, 1) := by decide +kernel
theorem dX1_set_150 : decode cX1_set 150 = .ok (.goto 4, 3) := by decide +kernel
theorem dX1_set_153 : decode cX1_set 153 = .ok (.iconst 0, 1) := by decide +kernel
theorem dX1_set_154 : decode cX1_set 154 = .ok (.istore 4, 2) := by decide +kernel
theorem dX1_set_156 : decode cX1_set 156 = .ok (.aload_n 0, 1) := by decide +kernel
theorem dX1_set_157 : decode cX1_set 157 = .ok (.iload_n 2, 1) := by decide +kernel
theorem dX1_set_158 : decode cX1_set 158 = .ok (.putfield 27, 3) := by decide +kernel
theorem dX1_set_161 : decode cX1_set 161 = .ok (.goto 6, 3) := by decide +kernel
theorem dX1_set_164 : decode cX1_set 164 = .ok (.iconst 0, 1) := by decide +kernel
theorem dX1_set_165 : decode cX1_set 165 = .ok (.istore 4, 2) := by decide +kernel
theorem dX1_set_167 : decode cX1_set 167 = .ok (.iload 4, 2) := by decide +kernel
theorem dX1_set_169 : decode cX1_set 169 = .ok (.ireturn, 1) := by decide +kernel
theorem dX1_number_0 : decode cX1_number 0 = .ok (.iload_n 1, 1) := by decide +kernel
theorem dX1_number_1 : decode cX1_number 1 = .ok (.ifCond .ne 10, 3) := by decide +kernel
theorem dX1_number_4 : decode cX1_number 4 = .ok (.aload_n 0, 1) := by decide +kernel
theorem dX1_number_5 : decode cX1_number 5 = .ok (.getfield 21, 3) := by decide +kernel
theorem dX1_number_8 : decode cX1_number 8 = .ok (.goto 7, 3) := by decide +kernel
theorem dX1_number_11 : decode cX1_number 11 = .ok (.aload_n 0, 1) := by decide +kernel
theorem dX1_number_12 : decode cX1_number 12 = .ok (.getfield 24, 3) := by decide +kernel
theorem dX1_number_15 : decode cX1_number 15 = .ok (.iload_n 2, 1) := by decide +kernel
theorem dX1_number_16 : decode cX1_number 16 = .ok (.iadd, 1) := by decide +kernel
theorem dX1_number_17 : decode cX1_number 17 = .ok (.sipush 255, 3) := by decide +kernel
theorem dX1_number_20 : decode cX1_number 20 = .ok (.iand, 1) := by decide +kernel
theorem dX1_number_21 : decode cX1_number 21 = .ok (.ireturn, 1) := by decide +kernel
theorem dX1_place_0 : decode cX1_place 0 = .ok (.iload_n 2, 1) := by decide +kernel
theorem dX1_place_1 : decode cX1_place 1 = .ok (.aload_n 0, 1) := by decide +kernel
theorem dX1_place_2 : decode cX1_place 2 = .ok (.iload_n 1, 1) := by decide +kernel
theorem dX1_place_3 : decode cX1_place 3 = .ok (.iload_n 3, 1) := by decide +kernel
theorem dX1_place_4 : decode cX1_place 4 = .ok (.invokevirtual 54, 3) := by decide +kernel
theorem dX1_place_7 : decode cX1_place 7 = .ok (.isub, 1) := by decide +kernel
theorem dX1_place_8 : decode cX1_place 8 = .ok (.sipush 255, 3) := by decide +kernel
theorem dX1_place_11 : decode cX1_place 11 = .ok (.iand, 1) := by decide +kernel
theorem dX1_place_12 : decode cX1_place 12 = .ok (.istore 4, 2) := by decide +kernel
theorem dX1_place_14 : decode cX1_place 14 = .ok (.iload 4, 2) := by decide +kernel
theorem dX1_place_16 : decode cX1_place 16 = .ok (.sipush 128, 3) := by decide +kernel
theorem dX1_place_19 : decode cX1_place 19 = .ok (.if_icmp .ge 10, 3) := by decide +kernel
theorem dX1_place_22 : decode cX1_place 22 = .ok (.iload_n 3, 1) := by decide +kernel
theorem dX1_place_23 : decode cX1_place 23 = .ok (.iload 4, 2) := by decide +kernel
theorem dX1_place_25 : decode cX1_place 25 = .ok (.iadd, 1) := by decide +kernel
theorem dX1_place_26 : decode cX1_place 26 = .ok (.goto 11, 3) := by decide +kernel
theorem dX1_place_29 : decode cX1_place 29 = .ok (.iload_n 3, 1) := by decide +kernel
theorem dX1_place_30 : decode cX1_place 30 = .ok (.iload 4, 2) := by decide +kernel
theorem dX1_place_32 : decode cX1_place 32 = .ok (.iadd, 1) := by decide +kernel
theorem dX1_place_33 : decode cX1_place 33 = .ok (.sipush 256, 3) := by decide +kernel
theorem dX1_place_36 : decode cX1_place 36 = .ok (.isub, 1) := by decide +kernel
theorem dX1_place_37 : decode cX1_place 37 = .ok (.ireturn, 1) := by decide +kernel
theorem dX2_init_0 : decode cX2_init 0 = .ok (.aload_n 0, 1) := by decide +kernel
theorem dX2_init_1 : decode cX2_init 1 = .ok (.invokespecial 3, 3) := by decide +kernel
theorem dX2_init_4 : decode cX2_init 4 = .ok (.aload_n 0, 1) := by decide +kernel
theorem dX2_init_5 : decode cX2_init 5 = .ok (.new 9, 3) := by decide +kernel
theorem dX2_init_8 : decode cX2_init 8 = .ok (.dup, 1) := by decide +kernel
theorem dX2_init_9 : decode cX2_init 9 = .ok (.invokespecial 11, 3) := by decide +kernel
theorem dX2_init_12 : decode cX2_init 12 = .ok (.putfield 12, 3) := by decide +kernel
theorem dX2_init_15 : decode cX2_init 15 = .ok (.aload_n 0, 1) := by decide +kernel
theorem dX2_init_16 : decode cX2_init 16 = .ok (.new 18, 3) := by decide +kernel
theorem dX2_init_19 : decode cX2_init 19 = .ok (.dup, 1) := by decide +kernel
theorem dX2_init_20 : decode cX2_init 20 = .ok (.invokespecial 20, 3) := by decide +kernel
theorem dX2_init_23 : decode cX2_init 23 = .ok (.putfield 21, 3) := by decide +kernel
theorem dX2_init_26 : decode cX2_init 26 = .ok (.aload_n 0, 1) := by decide +kernel
theorem dX2_init_27 : decode cX2_init 27 = .ok (.new 25, 3) := by decide +kernel
theorem dX2_init_30 : decode cX2_init 30 = .ok (.dup, 1) := by decide +kernel
theorem dX2_init_31 : decode cX2_init 31 = .ok (.invokespecial 27, 3) := by decide +kernel
theorem dX2_init_34 : decode cX2_init 34 = .ok (.putfield 28, 3) := by decide +kernel
theorem dX2_init_37 : decode cX2_init 37 = .ok (.aload_n 0, 1) := by decide +kernel
theorem dX2_init_38 : decode cX2_init 38 = .ok (.iload_n 1, 1) := by decide +kernel
theorem dX2_init_39 : decode cX2_init 39 = .ok (.putfield 32, 3) := by decide +kernel
theorem dX2_init_42 : decode cX2_init 42 = .ok (.aload_n 0, 1) := by decide +kernel
theorem dX2_init_43 : decode cX2_init 43 = .ok (.aload_n 2, 1) := by decide +kernel
theorem dX2_init_44 : decode cX2_init 44 = .ok (.putfield 36, 3) := by decide +kernel
theorem dX2_init_47 : decode cX2_init 47 = .ok (.aload_n 0, 1) := by decide +kernel
theorem dX2_init_48 : decode cX2_init 48 = .ok (.aload_n 3, 1) := by decide +kernel
theorem dX2_init_49 : decode cX2_init 49 = .ok (.putfield 40, 3) := by decide +kernel
theorem dX2_init_52 : decode cX2_init 52 = .ok (.aload_n 0, 1) := by decide +kernel
theorem dX2_init_53 : decode cX2_init 53 = .ok (.aload 4, 2) := by decide +kernel
theorem dX2_init_55 : decode cX2_init 55 = .ok (.putfield 44, 3) := by decide +kernel
theorem dX2_init_58 : decode cX2_init 58 = .ok (.return_, 1) := by decide +kernel
theorem dX2_start_0 : decode cX2_start 0 = .ok (.aload_n 0, 1) := by decide +kernel
theorem dX2_start_1 : decode cX2_start 1 = .ok (.invokevirtual 48, 3) := by decide +kernel
theorem dX2_start_4 : decode cX2_start 4 = .ok (.aload_n 0, 1) := by decide +kernel
theorem dX2_start_5 : decode cX2_start 5 = .ok (.getfield 12, 3) := by decide +kernel
theorem dX2_start_8 : decode cX2_start 8 = .ok (.invokevirtual 51, 3) := by decide +kernel
theorem dX2_start_11 : decode cX2_start 11 = .ok (.aload_n 0, 1) := by decide +kernel
theorem dX2_start_12 : decode cX2_start 12 = .ok (.getfield 21, 3) := by decide +kernel
theorem dX2_start_15 : decode cX2_start 15 = .ok (.aload_n 0, 1) := by decide +kernel
theorem dX2_start_16 : decode cX2_start 16 = .ok (.getfield 36, 3) := by decide +kernel
theorem dX2_start_19 : decode cX2_start 19 = .ok (.getfield 54, 3) := by decide +kernel
theorem dX2_start_22 : decode cX2_start 22 = .ok (.invokevirtual 59, 3) := by decide +kernel
theorem dX2_start_25 : decode cX2_start 25 = .ok (.aload_n 0, 1) := by decide +kernel
theorem dX2_start_26 : decode cX2_start 26 = .ok (.getfield 28, 3) := by decide +kernel
theorem dX2_start_29 : decode cX2_start 29 = .ok (.invokevirtual 62, 3) := by decide +kernel
theorem dX2_start_32 : decode cX2_start 32 = .ok (.return_, 1) := by decide +kernel
theorem dX2_copyFrom_0 : decode cX2_copyFrom 0 = .ok (.aload_n 0, 1) := by decide +kernel
theorem dX2_copyFrom_1 : decode cX2_copyFrom 1 = .ok (.aload_n 1, 1) := by decide +kernel
theorem dX2_copyFrom_2 : decode cX2_copyFrom 2 = .ok (.getfield 63, 3) := by decide +kernel
theorem dX2_copyFrom_5 : decode cX2_copyFrom 5 = .ok (.putfield 63, 3) := by decide +kernel
theorem dX2_copyFrom_8 : decode cX2_copyFrom 8 = .ok (.aload_n 0, 1) := by decide +kernel
theorem dX2_copyFrom_9 : decode cX2_copyFrom 9 = .ok (.aload_n 1, 1) := by decide +kernel
theorem dX2_copyFrom_10 : decode cX2_copyFrom 10 = .ok (.getfield 66, 3) := by decide +kernel
theorem dX2_copyFrom_13 : decode cX2_copyFrom 13 = .ok (.putfield 66, 3) := by decide +kernel
theorem dX2_copyFrom_16 : decode cX2_copyFrom 16 = .ok (.aload_n 0, 1) := by decide +kernel
theorem dX2_copyFrom_17 : decode cX2_copyFrom 17 = .ok (.aload_n 1, 1) := by decide +kernel
theorem dX2_copyFrom_18 : decode cX2_copyFrom 18 = .ok (.getfield 69, 3) := by decide +kernel
theorem dX2_copyFrom_21 : decode cX2_copyFrom 21 = .ok (.putfield 69, 3) := by decide +kernel
theorem dX2_copyFrom_24 : decode cX2_copyFrom 24 = .ok (.aload_n 0, 1) := by decide +kernel
theorem dX2_copyFrom_25 : decode cX2_copyFrom 25 = .ok (.getfield 12, 3) := by decide +kernel
theorem dX2_copyFrom_28 : decode cX2_copyFrom 28 = .ok (.aload_n 1, 1) := by decide +kernel
theorem dX2_copyFrom_29 : decode cX2_copyFrom 29 = .ok (.getfield 12, 3) := by decide +kernel
theorem dX2_copyFrom_32 : decode cX2_copyFrom 32 = .ok (.invokevirtual 72, 3) := by decide +kernel
theorem dX2_copyFrom_35 : decode cX2_copyFrom 35 = .ok (.aload_n 0, 1) := by decide +kernel
theorem dX2_copyFrom_36 : decode cX2_copyFrom 36 = .ok (.getfield 21, 3) := by decide +kernel
theorem dX2_copyFrom_39 : decode cX2_copyFrom 39 = .ok (.aload_n 1, 1) := by decide +kernel
theorem dX2_copyFrom_40 : decode cX2_copyFrom 40 = .ok (.getfield 21, 3) := by decide +kernel
theorem dX2_copyFrom_43 : decode cX2_copyFrom 43 = .ok (.invokevirtual 76, 3) := by decide +kernel
theorem dX2_copyFrom_46 : decode cX2_copyFrom 46 = .ok (.aload_n 0, 1) := by decide +kernel
theorem dX2_copyFrom_47 : decode cX2_copyFrom 47 = .ok (.getfield 28, 3) := by decide +kernel
theorem dX2_copyFrom_50 : decode cX2_copyFrom 50 = .ok (.aload_n 1, 1) := by decide +kernel
theorem dX2_copyFrom_51 : decode cX2_copyFrom 51 = .ok (.getfield 28, 3) := by decide +kernel
theorem dX2_copyFrom_54 : decode cX2_copyFrom 54 = .ok (.invokevirtual 79, 3) := by decide +kernel
theorem dX2_copyFrom_57 : decode cX2_copyFrom 57 = .ok (.return_, 1) := by decide +kernel
theorem dX2_mayTransmit_0 : decode cX2_mayTransmit 0 = .ok (.aload_n 0, 1) := by decide +kernel
theorem dX2_mayTransmit_1 : decode cX2_mayTransmit 1 = .ok (.getfield 63, 3) := by decide +kernel
theorem dX2_mayTransmit_4 : decode cX2_mayTransmit 4 = .ok (.iconst 4, 1) := by decide +kernel
theorem dX2_mayTransmit_5 : decode cX2_mayTransmit 5 = .ok (.if_icmp .eq 12, 3) := by decide +kernel
theorem dX2_mayTransmit_8 : decode cX2_mayTransmit 8 = .ok (.aload_n 0, 1) := by decide +kernel
theorem dX2_mayTransmit_9 : decode cX2_mayTransmit 9 = .ok (.getfield 63, 3) := by decide +kernel
theorem dX2_mayTransmit_12 : decode cX2_mayTransmit 12 = .ok (.bipush 7, 2) := by decide +kernel
theorem dX2_mayTransmit_14 : decode cX2_mayTransmit 14 = .ok (.if_icmp .ne 7, 3) := by decide +kernel
theorem dX2_mayTransmit_17 : decode cX2_mayTransmit 17 = .ok (.iconst 1, 1) := by decide +kernel
theorem dX2_mayTransmit_18 : decode cX2_mayTransmit 18 = .ok (.goto 4, 3) := by decide +kernel
theorem dX2_mayTransmit_21 : decode cX2_mayTransmit 21 = .ok (.iconst 0, 1) := by decide +kernel
theorem dX2_mayTransmit_22 : decode cX2_mayTransmit 22 = .ok (.ireturn, 1) := by decide +kernel
theorem dX2_isReceiving_0 : decode cX2_isReceiving 0 = .ok (.aload_n 0, 1) := by decide +kernel
theorem dX2_isReceiving_1 : decode cX2_isReceiving 1 = .ok (.getfield 63, 3) := by decide +kernel
theorem dX2_isReceiving_4 : decode cX2_isReceiving 4 = .ok (.iconst 4, 1) := by decide +kernel
theorem dX2_isReceiving_5 : decode cX2_isReceiving 5 = .ok (.if_icmp .eq 20, 3) := by decide +kernel
theorem dX2_isReceiving_8 : decode cX2_isReceiving 8 = .ok (.aload_n 0, 1) := by decide +kernel
theorem dX2_isReceiving_9 : decode cX2_isReceiving 9 = .ok (.getfield 63, 3) := by decide +kernel
theorem dX2_isReceiving_12 : decode cX2_isReceiving 12 = .ok (.iconst 5, 1) := by decide +kernel
theorem dX2_isReceiving_13 : decode cX2_isReceiving 13 = .ok (.if_icmp .eq 12, 3) := by decide +kernel
theorem dX2_isReceiving_16 : decode cX2_isReceiving 16 = .ok (.aload_n 0, 1) := by decide +kernel
theorem dX2_isReceiving_17 : decode cX2_isReceiving 17 = .ok (.getfield 63, 3) := by decide +kernel
theorem dX2_isReceiving_20 : decode cX2_isReceiving 20 = .ok (.bipush 6, 2) := by decide +kernel
theorem dX2_isReceiving_22 : decode cX2_isReceiving 22 = .ok (.if_icmp .ne 7, 3) := by decide +kernel
theorem dX2_isReceiving_25 : decode cX2_isReceiving 25 = .ok (.iconst 1, 1) := by decide +kernel
theorem dX2_isReceiving_26 : decode cX2_isReceiving 26 = .ok (.goto 4, 3) := by decide +kernel
theorem dX2_isReceiving_29 : decode cX2_isReceiving 29 = .ok (.iconst 0, 1) := by decide +kernel
theorem dX2_isReceiving_30 : decode cX2_isReceiving 30 = .ok (.ireturn, 1) := by decide +kernel
theorem dX2_maySay_0 : decode cX2_maySay 0 = .ok (.aload_n 0, 1) := by decide +kernel
theorem dX2_maySay_1 : decode cX2_maySay 1 = .ok (.getfield 63, 3) := by decide +kernel
theorem dX2_maySay_4 : decode cX2_maySay 4 = .ok (.iconst 2, 1) := by decide +kernel
theorem dX2_maySay_5 : decode cX2_maySay 5 = .ok (.if_icmp .eq 18, 3) := by decide +kernel
theorem dX2_maySay_8 : decode cX2_maySay 8 = .ok (.aload_n 0, 1) := by decide +kernel
theorem dX2_maySay_9 : decode cX2_maySay 9 = .ok (.getfield 63, 3) := by decide +kernel
theorem dX2_maySay_12 : decode cX2_maySay 12 = .ok (.iconst 3, 1) := by decide +kernel
theorem dX2_maySay_13 : decode cX2_maySay 13 = .ok (.if_icmp .eq 10, 3) := by decide +kernel
theorem dX2_maySay_16 : decode cX2_maySay 16 = .ok (.aload_n 0, 1) := by decide +kernel
theorem dX2_maySay_17 : decode cX2_maySay 17 = .ok (.invokevirtual 82, 3) := by decide +kernel
theorem dX2_maySay_20 : decode cX2_maySay 20 = .ok (.ifCond .eq 17, 3) := by decide +kernel
theorem dX2_maySay_23 : decode cX2_maySay 23 = .ok (.aload_n 0, 1) := by decide +kernel
theorem dX2_maySay_24 : decode cX2_maySay 24 = .ok (.getfield 12, 3) := by decide +kernel
theorem dX2_maySay_27 : decode cX2_maySay 27 = .ok (.getfield 86, 3) := by decide +kernel
theorem dX2_maySay_30 : decode cX2_maySay 30 = .ok (.ifCond .ne 7, 3) := by decide +kernel
theorem dX2_maySay_33 : decode cX2_maySay 33 = .ok (.iconst 1, 1) := by decide +kernel
theorem dX2_maySay_34 : decode cX2_maySay 34 = .ok (.goto 4, 3) := by decide +kernel
theorem dX2_maySay_37 : decode cX2_maySay 37 = .ok (.iconst 0, 1) := by decide +kernel
theorem dX2_maySay_38 : decode cX2_maySay 38 = .ok (.ireturn, 1) := by decide +kernel
theorem dX2_isStalled_0 : decode cX2_isStalled 0 = .ok (.aload_n 0, 1) := by decide +kernel
theorem dX2_isStalled_1 : decode cX2_isStalled 1 = .ok (.invokevirtual 82, 3) := by decide +kernel
theorem dX2_isStalled_4 : decode cX2_isStalled 4 = .ok (.ifCond .eq 44, 3) := by decide +kernel
theorem dX2_isStalled_7 : decode cX2_isStalled 7 = .ok (.aload_n 0, 1) := by decide +kernel
theorem dX2_isStalled_8 : decode cX2_isStalled 8 = .ok (.getfield 12, 3) := by decide +kernel
theorem dX2_isStalled_11 : decode cX2_isStalled 11 = .ok (.getfield 90, 3) := by decide +kernel
theorem dX2_isStalled_14 : decode cX2_isStalled 14 = .ok (.aload_n 0, 1) := by decide +kernel
theorem dX2_isStalled_15 : decode cX2_isStalled 15 = .ok (.getfield 12, 3) := by decide +kernel
theorem dX2_isStalled_18 : decode cX2_isStalled 18 = .ok (.getfield 93, 3) := by decide +kernel
theorem dX2_isStalled_21 : decode cX2_isStalled 21 = .ok (.if_icmp .ne 27, 3) := by decide +kernel
theorem dX2_isStalled_24 : decode cX2_isStalled 24 = .ok (.aload_n 0, 1) := by decide +kernel
theorem dX2_isStalled_25 : decode cX2_isStalled 25 = .ok (.getfield 12, 3) := by decide +kernel
theorem dX2_isStalled_28 : decode cX2_isStalled 28 = .ok (.invokevirtual 96, 3) := by decide +kernel
theorem dX2_isStalled_31 : decode cX2_isStalled 31 = .ok (.ifCond .gt 13, 3) := by decide +kernel
theorem dX2_isStalled_34 : decode cX2_isStalled 34 = .ok (.aload_n 0, 1) := by decide +kernel
theorem dX2_isStalled_35 : decode cX2_isStalled 35 = .ok (.getfield 12, 3) := by decide +kernel
theorem dX2_isStalled_38 : decode cX2_isStalled 38 = .ok (.getfield 86, 3) := by decide +kernel
theorem dX2_isStalled_41 : decode cX2_isStalled 41 = .ok (.ifCond .eq 7, 3) := by decide +kernel
theorem dX2_isStalled_44 : decode cX2_isStalled 44 = .ok (.iconst 1, 1) := by decide +kernel
theorem dX2_isStalled_45 : decode cX2_isStalled 45 = .ok (.goto 4, 3) := by decide +kernel
theorem dX2_isStalled_48 : decode cX2_isStalled 48 = .ok (.iconst 0, 1) := by decide +kernel
theorem dX2_isStalled_49 : decode cX2_isStalled 49 = .ok (.ireturn, 1) := by decide +kernel
theorem dX2_isBusy_0 : decode cX2_isBusy 0 = .ok (.aload_n 0, 1) := by decide +kernel
theorem dX2_isBusy_1 : decode cX2_isBusy 1 = .ok (.getfield 66, 3) := by decide +kernel
theorem dX2_isBusy_4 : decode cX2_isBusy 4 = .ok (.ifCond .ne 12, 3) := by decide +kernel
theorem dX2_isBusy_7 : decode cX2_isBusy 7 = .ok (.aload_n 0, 1) := by decide +kernel
theorem dX2_isBusy_8 : decode cX2_isBusy 8 = .ok (.getfield 63, 3) := by decide +kernel
theorem dX2_isBusy_11 : decode cX2_isBusy 11 = .ok (.bipush 10, 2) := by decide +kernel
theorem dX2_isBusy_13 : decode cX2_isBusy 13 = .ok (.if_icmp .ne 7, 3) := by decide +kernel
theorem dX2_isBusy_16 : decode cX2_isBusy 16 = .ok (.iconst 1, 1) := by decide +kernel
theorem dX2_isBusy_17 : decode cX2_isBusy 17 = .ok (.goto 4, 3) := by decide +kernel
theorem dX2_isBusy_20 : decode cX2_isBusy 20 = .ok (.iconst 0, 1) := by decide +kernel
theorem dX2_isBusy_21 : decode cX2_isBusy 21 = .ok (.ireturn, 1) := by decide +kernel
theorem dX2_close_0 : decode cX2_close 0 = .ok (.aload_n 0, 1) := by decide +kernel
theorem dX2_close_1 : decode cX2_close 1 = .ok (.iconst 0, 1) := by decide +kernel
theorem dX2_close_2 : decode cX2_close 2 = .ok (.putfield 63, 3) := by decide +kernel
theorem dX2_close_5 : decode cX2_close 5 = .ok (.aload_n 0, 1) := by decide +kernel
theorem dX2_close_6 : decode cX2_close 6 = .ok (.iconst 0, 1) := by decide +kernel
theorem dX2_close_7 : decode cX2_close 7 = .ok (.putfield 66, 3) := by decide +kernel
theorem dX2_close_10 : decode cX2_close 10 = .ok (.aload_n 0, 1) := by decide +kernel
theorem dX2_close_11 : decode cX2_close 11 = .ok (.iconst 0, 1) := by decide +kernel
theorem dX2_close_12 : decode cX2_close 12 = .ok (.putfield 69, 3) := by decide +kernel
theorem dX2_close_15 : decode cX2_close 15 = .ok (.return_, 1) := by decide +kernel
theorem dX2_waitForLate_0 : decode cX2_waitForLate 0 = .ok (.aload_n 0, 1) := by decide +kernel
theorem dX2_waitForLate_1 : decode cX2_waitForLate 1 = .ok (.bipush 10, 2) := by decide +kernel
theorem dX2_waitForLate_3 : decode cX2_waitForLate 3 = .ok (.putfield 63, 3) := by decide +kernel
theorem dX2_waitForLate_6 : decode cX2_waitForLate 6 = .ok (.aload_n 0, 1) := by decide +kernel
theorem dX2_waitForLate_7 : decode cX2_waitForLate 7 = .ok (.iconst 2, 1) := by decide +kernel
theorem dX2_waitForLate_8 : decode cX2_waitForLate 8 = .ok (.aload_n 0, 1) := by decide +kernel
theorem dX2_waitForLate_9 : decode cX2_waitForLate 9 = .ok (.getfield 36, 3) := by decide +kernel
theorem dX2_waitForLate_12 : decode cX2_waitForLate 12 = .ok (.getfield 100, 3) := by decide +kernel
theorem dX2_waitForLate_15 : decode cX2_waitForLate 15 = .ok (.imul, 1) := by decide +kernel
theorem dX2_waitForLate_16 : decode cX2_waitForLate 16 = .ok (.putfield 69, 3) := by decide +kernel
theorem dX2_waitForLate_19 : decode cX2_waitForLate 19 = .ok (.return_, 1) := by decide +kernel
theorem dX2_adjustTimer_0 : decode cX2_adjustTimer 0 = .ok (.aload_n 0, 1) := by decide +kernel
theorem dX2_adjustTimer_1 : decode cX2_adjustTimer 1 = .ok (.getfield 63, 3) := by decide +kernel
theorem dX2_adjustTimer_4 : decode cX2_adjustTimer 4 = .ok (.ifCond .eq 35, 3) := by decide +kernel
theorem dX2_adjustTimer_7 : decode cX2_adjustTimer 7 = .ok (.aload_n 0, 1) := by decide +kernel
theorem dX2_adjustTimer_8 : decode cX2_adjustTimer 8 = .ok (.getfield 63, 3) := by decide +kernel
theorem dX2_adjustTimer_11 : decode cX2_adjustTimer 11 = .ok (.iconst 1, 1) := by decide +kernel
theorem dX2_adjustTimer_12 : decode cX2_adjustTimer 12 = .ok (.if_icmp .eq 27, 3) := by decide +kernel
theorem dX2_adjustTimer_15 : decode cX2_adjustTimer 15 = .ok (.aload_n 0, 1) := by decide +kernel
theorem dX2_adjustTimer_16 : decode cX2_adjustTimer 16 = .ok (.getfield 12, 3) := by decide +kernel
theorem dX2_adjustTimer_19 : decode cX2_adjustTimer 19 = .ok (.getfield 90, 3) := by decide +kernel
theorem dX2_adjustTimer_22 : decode cX2_adjustTimer 22 = .ok (.aload_n 0, 1) := by decide +kernel
theorem dX2_adjustTimer_23 : decode cX2_adjustTimer 23 = .ok (.getfield 12, 3) := by decide +kernel
theorem dX2_adjustTimer_26 : decode cX2_adjustTimer 26 = .ok (.getfield 93, 3) := by decide +kernel
theorem dX2_adjustTimer_29 : decode cX2_adjustTimer 29 = .ok (.if_icmp .lt 18, 3) := by decide +kernel
theorem dX2_adjustTimer_32 : decode cX2_adjustTimer 32 = .ok (.aload_n 0, 1) := by decide +kernel
theorem dX2_adjustTimer_33 : decode cX2_adjustTimer 33 = .ok (.invokevirtual 103, 3) := by decide +kernel
theorem dX2_adjustTimer_36 : decode cX2_adjustTimer 36 = .ok (.ifCond .ne 11, 3) := by decide +kernel
theorem dX2_adjustTimer_39 : decode cX2_adjustTimer 39 = .ok (.aload_n 0, 1) := by decide +kernel
theorem dX2_adjustTimer_40 : decode cX2_adjustTimer 40 = .ok (.iconst 0, 1) := by decide +kernel
theorem dX2_adjustTimer_41 : decode cX2_adjustTimer 41 = .ok (.putfield 66, 3) := by decide +kernel
theorem dX2_adjustTimer_44 : decode cX2_adjustTimer 44 = .ok (.goto 21, 3) := by decide +kernel
theorem dX2_adjustTimer_47 : decode cX2_adjustTimer 47 = .ok (.aload_n 0, 1) := by decide +kernel
theorem dX2_adjustTimer_48 : decode cX2_adjustTimer 48 = .ok (.getfield 66, 3) := by decide +kernel
theorem dX2_adjustTimer_51 : decode cX2_adjustTimer 51 = .ok (.ifCond .ne 14, 3) := by decide +kernel
theorem dX2_adjustTimer_54 : decode cX2_adjustTimer 54 = .ok (.aload_n 0, 1) := by decide +kernel
theorem dX2_adjustTimer_55 : decode cX2_adjustTimer 55 = .ok (.aload_n 0, 1) := by decide +kernel
theorem dX2_adjustTimer_56 : decode cX2_adjustTimer 56 = .ok (.getfield 28, 3) := by decide +kernel
theorem dX2_adjustTimer_59 : decode cX2_adjustTimer 59 = .ok (.getfield 106, 3) := by decide +kernel
theorem dX2_adjustTimer_62 : decode cX2_adjustTimer 62 = .ok (.putfield 66, 3) := by decide +kernel
theorem dX2_adjustTimer_65 : decode cX2_adjustTimer 65 = .ok (.return_, 1) := by decide +kernel
theorem dX2_draft_0 : decode cX2_draft 0 = .ok (.aload_n 0, 1) := by decide +kernel
theorem dX2_draft_1 : decode cX2_draft 1 = .ok (.getfield 40, 3) := by decide +kernel
theorem dX2_draft_4 : decode cX2_draft 4 = .ok (.invokevirtual 109, 3) := by decide +kernel
theorem dX2_draft_7 : decode cX2_draft 7 = .ok (.astore_n 3, 1) := by decide +kernel
theorem dX2_draft_8 : decode cX2_draft 8 = .ok (.aload_n 3, 1) := by decide +kernel
theorem dX2_draft_9 : decode cX2_draft 9 = .ok (.aload_n 0, 1) := by decide +kernel
theorem dX2_draft_10 : decode cX2_draft 10 = .ok (.getfield 32, 3) := by decide +kernel
theorem dX2_draft_13 : decode cX2_draft 13 = .ok (.iload_n 1, 1) := by decide +kernel
theorem dX2_draft_14 : decode cX2_draft 14 = .ok (.aload_n 0, 1) := by decide +kernel
theorem dX2_draft_15 : decode cX2_draft 15 = .ok (.getfield 36, 3) := by decide +kernel
theorem dX2_draft_18 : decode cX2_draft 18 = .ok (.aload_n 0, 1) := by decide +kernel
theorem dX2_draft_19 : decode cX2_draft 19 = .ok (.getfield 32, 3) := by decide +kernel
theorem dX2_draft_22 : decode cX2_draft 22 = .ok (.iload_n 2, 1) := by decide +kernel
theorem dX2_draft_23 : decode cX2_draft 23 = .ok (.invokevirtual 115, 3) := by decide +kernel
theorem dX2_draft_26 : decode cX2_draft 26 = .ok (.invokevirtual 119, 3) := by decide +kernel
theorem dX2_draft_29 : decode cX2_draft 29 = .ok (.aload_n 3, 1) := by decide +kernel
theorem dX2_draft_30 : decode cX2_draft 30 = .ok (.iconst 4, 1) := by decide +kernel
theorem dX2_draft_31 : decode cX2_draft 31 = .ok (.invokevirtual 125, 3) := by decide +kernel
theorem dX2_draft_34 : decode cX2_draft 34 = .ok (.ifCond .eq 139, 3) := by decide +kernel
theorem dX2_draft_37 : decode cX2_draft 37 = .ok (.aload_n 3, 1) := by decide +kernel
theorem dX2_draft_38 : decode cX2_draft 38 = .ok (.aload_n 0, 1) := by decide +kernel
theorem dX2_draft_39 : decode cX2_draft 39 = .ok (.getfield 36, 3) := by decide +kernel
theorem dX2_draft_42 : decode cX2_draft 42 = .ok (.iconst 1, 1) := by decide +kernel
theorem dX2_draft_43 : decode cX2_draft 43 = .ok (.aload_n 0, 1) := by decide +kernel
theorem dX2_draft_44 : decode cX2_draft 44 = .ok (.getfield 32, 3) := by decide +kernel
theorem dX2_draft_47 : decode cX2_draft 47 = .ok (.isub, 1) := by decide +kernel
theorem dX2_draft_48 : decode cX2_draft 48 = .ok (.aload_n 0, 1) := by decide +kernel
theorem dX2_draft_49 : decode cX2_draft 49 = .ok (.getfield 21, 3) := by decide +kernel
theorem dX2_draft_52 : decode cX2_draft 52 = .ok (.getfield 129, 3) := by decide +kernel
theorem dX2_draft_55 : decode cX2_draft 55 = .ok (.invokevirtual 115, 3) := by decide +kernel
theorem dX2_draft_58 : decode cX2_draft 58 = .ok (.putfield 132, 3) := by decide +kernel
theorem dX2_draft_61 : decode cX2_draft 61 = .ok (.aload_n 3, 1) := by decide +kernel
theorem dX2_draft_62 : decode cX2_draft 62 = .ok (.aload_n 0, 1) := by decide +kernel
theorem dX2_draft_63 : decode cX2_draft 63 = .ok (.getfield 21, 3) := by decide +kernel
theorem dX2_draft_66 : decode cX2_draft 66 = .ok (.invokevirtual 135, 3) := by decide +kernel
theorem dX2_draft_69 : decode cX2_draft 69 = .ok (.putfield 138, 3) := by decide +kernel
theorem dX2_draft_72 : decode cX2_draft 72 = .ok (.aload_n 0, 1) := by decide +kernel
theorem dX2_draft_73 : decode cX2_draft 73 = .ok (.getfield 21, 3) := by decide +kernel
theorem dX2_draft_76 : decode cX2_draft 76 = .ok (.aload_n 0, 1) := by decide +kernel
theorem dX2_draft_77 : decode cX2_draft 77 = .ok (.getfield 21, 3) := by decide +kernel
theorem dX2_draft_80 : decode cX2_draft 80 = .ok (.getfield 129, 3) := by decide +kernel
theorem dX2_draft_83 : decode cX2_draft 83 = .ok (.iconst 1, 1) := by decide +kernel
theorem dX2_draft_84 : decode cX2_draft 84 = .ok (.iadd, 1) := by decide +kernel
theorem dX2_draft_85 : decode cX2_draft 85 = .ok (.invokevirtual 140, 3) := by decide +kernel
theorem dX2_draft_88 : decode cX2_draft 88 = .ok (.istore 4, 2) := by decide +kernel
theorem dX2_draft_90 : decode cX2_draft 90 = .ok (.iconst 0, 1) := by decide +kernel
theorem dX2_draft_91 : decode cX2_draft 91 = .ok (.istore 5, 2) := by decide +kernel
theorem dX2_draft_93 : decode cX2_draft 93 = .ok (.iload 5, 2) := by decide +kernel
theorem dX2_draft_95 : decode cX2_draft 95 = .ok (.iconst 2, 1) := by decide +kernel
theorem dX2_draft_96 : decode cX2_draft 96 = .ok (.if_icmp .ge 77, 3) := by decide +kernel
theorem dX2_draft_99 : decode cX2_draft 99 = .ok (.iload 4, 2) := by decide +kernel
theorem dX2_draft_101 : decode cX2_draft 101 = .ok (.aload_n 0, 1) := by decide +kernel
theorem dX2_draft_102 : decode cX2_draft 102 = .ok (.getfield 21, 3) := by decide +kernel
theorem dX2_draft_105 : decode cX2_draft 105 = .ok (.getfield 144, 3) := by decide +kernel
theorem dX2_draft_108 : decode cX2_draft 108 = .ok (.if_icmp .ge 65, 3) := by decide +kernel
theorem dX2_draft_111 : decode cX2_draft 111 = .ok (.aload_n 0, 1) := by decide +kernel
theorem dX2_draft_112 : decode cX2_draft 112 = .ok (.getfield 21, 3) := by decide +kernel
theorem dX2_draft_115 : decode cX2_draft 115 = .ok (.iload 4, 2) := by decide +kernel
theorem dX2_draft_117 : decode cX2_draft 117 = .ok (.invokevirtual 147, 3) := by decide +kernel
theorem dX2_draft_120 : decode cX2_draft 120 = .ok (.istore 6, 2) := by decide +kernel
theorem dX2_draft_122 : decode cX2_draft 122 = .ok (.aload_n 3, 1) := by decide +kernel
theorem dX2_draft_123 : decode cX2_draft 123 = .ok (.aload_n 0, 1) := by decide +kernel
theorem dX2_draft_124 : decode cX2_draft 124 = .ok (.getfield 36, 3) := by decide +kernel
theorem dX2_draft_127 : decode cX2_draft 127 = .ok (.iconst 1, 1) := by decide +kernel
theorem dX2_draft_128 : decode cX2_draft 128 = .ok (.aload_n 0, 1) := by decide +kernel
theorem dX2_draft_129 : decode cX2_draft 129 = .ok (.getfield 32, 3) := by decide +kernel
theorem dX2_draft_132 : decode cX2_draft 132 = .ok (.isub, 1) := by decide +kernel
theorem dX2_draft_133 : decode cX2_draft 133 = .ok (.iload 4, 2) := by decide +kernel
theorem dX2_draft_135 : decode cX2_draft 135 = .ok (.invokevirtual 115, 3) := by decide +kernel
theorem dX2_draft_138 : decode cX2_draft 138 = .ok (.aload_n 0, 1) := by decide +kernel
theorem dX2_draft_139 : decode cX2_draft 139 = .ok (.getfield 36, 3) := by decide +kernel
theorem dX2_draft_142 : decode cX2_draft 142 = .ok (.iconst 1, 1) := by decide +kernel
theorem dX2_draft_143 : decode cX2_draft 143 = .ok (.aload_n 0, 1) := by decide +kernel
theorem dX2_draft_144 : decode cX2_draft 144 = .ok (.getfield 32, 3) := by decide +kernel
theorem dX2_draft_147 : decode cX2_draft 147 = .ok (.isub, 1) := by decide +kernel
theorem dX2_draft_148 : decode cX2_draft 148 = .ok (.iload 6, 2) := by decide +kernel
theorem dX2_draft_150 : decode cX2_draft 150 = .ok (.invokevirtual 115, 3) := by decide +kernel
theorem dX2_draft_153 : decode cX2_draft 153 = .ok (.invokevirtual 150, 3) := by decide +kernel
theorem dX2_draft_156 : decode cX2_draft 156 = .ok (.aload_n 0, 1) := by decide +kernel
theorem dX2_draft_157 : decode cX2_draft 157 = .ok (.getfield 21, 3) := by decide +kernel
theorem dX2_draft_160 : decode cX2_draft 160 = .ok (.iload 6, 2) := by decide +kernel
theorem dX2_draft_162 : decode cX2_draft 162 = .ok (.invokevirtual 140, 3) := by decide +kernel
theorem dX2_draft_165 : decode cX2_draft 165 = .ok (.istore 4, 2) := by decide +kernel
theorem dX2_draft_167 : decode cX2_draft 167 = .ok (.iinc 5 1, 3) := by decide +kernel
theorem dX2_draft_170 : decode cX2_draft 170 = .ok (.goto (-77), 3) := by decide +kernel
theorem dX2_draft_173 : decode cX2_draft 173 = .ok (.aload_n 3, 1) := by decide +kernel
theorem dX2_draft_174 : decode cX2_draft 174 = .ok (.areturn, 1) := by decide +kernel
theorem dX2_sendFirstSyn_0 : decode cX2_sendFirstSyn 0 = .ok (.aload_n 0, 1) := by decide +kernel
theorem dX2_sendFirstSyn_1 : decode cX2_sendFirstSyn 1 = .ok (.invokevirtual 154, 3) := by decide +kernel
theorem dX2_sendFirstSyn_4 : decode cX2_sendFirstSyn 4 = .ok (.aload_n 0, 1) := by decide +kernel
theorem dX2_sendFirstSyn_5 : decode cX2_sendFirstSyn 5 = .ok (.getfield 28, 3) := by decide +kernel
theorem dX2_sendFirstSyn_8 : decode cX2_sendFirstSyn 8 = .ok (.iconst 0, 1) := by decide +kernel
theorem dX2_sendFirstSyn_9 : decode cX2_sendFirstSyn 9 = .ok (.aload_n 0, 1) := by decide +kernel
theorem dX2_sendFirstSyn_10 : decode cX2_sendFirstSyn 10 = .ok (.getfield 44, 3) := by decide +kernel
theorem dX2_sendFirstSyn_13 : decode cX2_sendFirstSyn 13 = .ok (.getfield 157, 3) := by decide +kernel
theorem dX2_sendFirstSyn_16 : decode cX2_sendFirstSyn 16 = .ok (.invokevirtual 162, 3) := by decide +kernel
theorem dX2_sendFirstSyn_19 : decode cX2_sendFirstSyn 19 = .ok (.return_, 1) := by decide +kernel
theorem dX2_sendSyn_0 : decode cX2_sendSyn 0 = .ok (.aload_n 0, 1) := by decide +kernel
theorem dX2_sendSyn_1 : decode cX2_sendSyn 1 = .ok (.aload_n 0, 1) := by decide +kernel
theorem dX2_sendSyn_2 : decode cX2_sendSyn 2 = .ok (.getfield 63, 3) := by decide +kernel
theorem dX2_sendSyn_5 : decode cX2_sendSyn 5 = .ok (.iconst 2, 1) := by decide +kernel
theorem dX2_sendSyn_6 : decode cX2_sendSyn 6 = .ok (.if_icmp .ne 7, 3) := by decide +kernel
theorem dX2_sendSyn_9 : decode cX2_sendSyn 9 = .ok (.iconst 1, 1) := by decide +kernel
theorem dX2_sendSyn_10 : decode cX2_sendSyn 10 = .ok (.goto 4, 3) := by decide +kernel
theorem dX2_sendSyn_13 : decode cX2_sendSyn 13 = .ok (.iconst 5, 1) := by decide +kernel
theorem dX2_sendSyn_14 : decode cX2_sendSyn 14 = .ok (.iconst 0, 1) := by decide +kernel
theorem dX2_sendSyn_15 : decode cX2_sendSyn 15 = .ok (.invokevirtual 165, 3) := by decide +kernel
theorem dX2_sendSyn_18 : decode cX2_sendSyn 18 = .ok (.pop, 1) := by decide +kernel
theorem dX2_sendSyn_19 : decode cX2_sendSyn 19 = .ok (.aload_n 0, 1) := by decide +kernel
theorem dX2_sendSyn_20 : decode cX2_sendSyn 20 = .ok (.getfield 40, 3) := by decide +kernel
theorem dX2_sendSyn_23 : decode cX2_sendSyn 23 = .ok (.invokevirtual 168, 3) := by decide +kernel
theorem dX2_sendSyn_26 : decode cX2_sendSyn 26 = .ok (.aload_n 0, 1) := by decide +kernel
theorem dX2_sendSyn_27 : decode cX2_sendSyn 27 = .ok (.getfield 12, 3) := by decide +kernel
theorem dX2_sendSyn_30 : decode cX2_sendSyn 30 = .ok (.iconst 1, 1) := by decide +kernel
theorem dX2_sendSyn_31 : decode cX2_sendSyn 31 = .ok (.putfield 93, 3) := by decide +kernel
theorem dX2_sendSyn_34 : decode cX2_sendSyn 34 = .ok (.return_, 1) := by decide +kernel
theorem dX2_sendAck_0 : decode cX2_sendAck 0 = .ok (.aload_n 0, 1) := by decide +kernel
theorem dX2_sendAck_1 : decode cX2_sendAck 1 = .ok (.iconst 4, 1) := by decide +kernel
theorem dX2_sendAck_2 : decode cX2_sendAck 2 = .ok (.aload_n 0, 1) := by decide +kernel
theorem dX2_sendAck_3 : decode cX2_sendAck 3 = .ok (.getfield 12, 3) := by decide +kernel
theorem dX2_sendAck_6 : decode cX2_sendAck 6 = .ok (.getfield 93, 3) := by decide +kernel
theorem dX2_sendAck_9 : decode cX2_sendAck 9 = .ok (.invokevirtual 165, 3) := by decide +kernel
theorem dX2_sendAck_12 : decode cX2_sendAck 12 = .ok (.pop, 1) := by decide +kernel
theorem dX2_sendAck_13 : decode cX2_sendAck 13 = .ok (.aload_n 0, 1) := by decide +kernel
theorem dX2_sendAck_14 : decode cX2_sendAck 14 = .ok (.getfield 40, 3) := by decide +kernel
theorem dX2_sendAck_17 : decode cX2_sendAck 17 = .ok (.invokevirtual 168, 3) := by decide +kernel
theorem dX2_sendAck_20 : decode cX2_sendAck 20 = .ok (.return_, 1) := by decide +kernel
theorem dX2_sendReset_0 : decode cX2_sendReset 0 = .ok (.aload_n 0, 1) := by decide +kernel
theorem dX2_sendReset_1 : decode cX2_sendReset 1 = .ok (.getfield 40, 3) := by decide +kernel
theorem dX2_sendReset_4 : decode cX2_sendReset 4 = .ok (.invokevirtual 109, 3) := by decide +kernel
theorem dX2_sendReset_7 : decode cX2_sendReset 7 = .ok (.aload_n 0, 1) := by decide +kernel
theorem dX2_sendReset_8 : decode cX2_sendReset 8 = .ok (.getfield 32, 3) := by decide +kernel
theorem dX2_sendReset_11 : decode cX2_sendReset 11 = .ok (.bipush 8, 2) := by decide +kernel
theorem dX2_sendReset_13 : decode cX2_sendReset 13 = .ok (.iload_n 1, 1) := by decide +kernel
theorem dX2_sendReset_14 : decode cX2_sendReset 14 = .ok (.invokevirtual 119, 3) := by decide +kernel
theorem dX2_sendReset_17 : decode cX2_sendReset 17 = .ok (.aload_n 0, 1) := by decide +kernel
theorem dX2_sendReset_18 : decode cX2_sendReset 18 = .ok (.getfield 40, 3) := by decide +kernel
theorem dX2_sendReset_21 : decode cX2_sendReset 21 = .ok (.invokevirtual 168, 3) := by decide +kernel
theorem dX2_sendReset_24 : decode cX2_sendReset 24 = .ok (.return_, 1) := by decide +kernel
theorem dX2_sendResetFor_0 : decode cX2_sendResetFor 0 = .ok (.aload_n 1, 1) := by decide +kernel
theorem dX2_sendResetFor_1 : decode cX2_sendResetFor 1 = .ok (.iconst 4, 1) := by decide +kernel
theorem dX2_sendResetFor_2 : decode cX2_sendResetFor 2 = .ok (.invokevirtual 125, 3) := by decide +kernel
theorem dX2_sendResetFor_5 : decode cX2_sendResetFor 5 = .ok (.ifCond .eq 12, 3) := by decide +kernel
theorem dX2_sendResetFor_8 : decode cX2_sendResetFor 8 = .ok (.aload_n 0, 1) := by decide +kernel
theorem dX2_sendResetFor_9 : decode cX2_sendResetFor 9 = .ok (.aload_n 1, 1) := by decide +kernel
theorem dX2_sendResetFor_10 : decode cX2_sendResetFor 10 = .ok (.getfield 132, 3) := by decide +kernel
theorem dX2_sendResetFor_13 : decode cX2_sendResetFor 13 = .ok (.invokevirtual 171, 3) := by decide +kernel
theorem dX2_sendResetFor_16 : decode cX2_sendResetFor 16 = .ok (.return_, 1) := by decide +kernel
theorem dX2_sendResetFor_17 : decode cX2_sendResetFor 17 = .ok (.aload_n 0, 1) := by decide +kernel
theorem dX2_sendResetFor_18 : decode cX2_sendResetFor 18 = .ok (.getfield 40, 3) := by decide +kernel
theorem dX2_sendResetFor_21 : decode cX2_sendResetFor 21 = .ok (.invokevirtual 109, 3) := by decide +kernel
theorem dX2_sendResetFor_24 : decode cX2_sendResetFor 24 = .ok (.astore_n 2, 1) := by decide +kernel
theorem dX2_sendResetFor_25 : decode cX2_sendResetFor 25 = .ok (.aload_n 2, 1) := by decide +kernel
theorem dX2_sendResetFor_26 : decode cX2_sendResetFor 26 = .ok (.aload_n 0, 1) := by decide +kernel
theorem dX2_sendResetFor_27 : decode cX2_sendResetFor 27 = .ok (.getfield 32, 3) := by decide +kernel
theorem dX2_sendResetFor_30 : decode cX2_sendResetFor 30 = .ok (.bipush 12, 2) := by decide +kernel
theorem dX2_sendResetFor_32 : decode cX2_sendResetFor 32 = .ok (.iconst 0, 1) := by decide +kernel
theorem dX2_sendResetFor_33 : decode cX2_sendResetFor 33 = .ok (.invokevirtual 119, 3) := by decide +kernel
theorem dX2_sendResetFor_36 : decode cX2_sendResetFor 36 = .ok (.aload_n 2, 1) := by decide +kernel
theorem dX2_sendResetFor_37 : decode cX2_sendResetFor 37 = .ok (.aload_n 1, 1) := by decide +kernel
theorem dX2_sendResetFor_38 : decode cX2_sendResetFor 38 = .ok (.getfield 174, 3) := by decide +kernel
theorem dX2_sendResetFor_41 : decode cX2_sendResetFor 41 = .ok (.aload_n 1, 1) := by decide +kernel
theorem dX2_sendResetFor_42 : decode cX2_sendResetFor 42 = .ok (.invokevirtual 176, 3) := by decide +kernel
theorem dX2_sendResetFor_45 : decode cX2_sendResetFor 45 = .ok (.iadd, 1) := by decide +kernel
theorem dX2_sendResetFor_46 : decode cX2_sendResetFor 46 = .ok (.sipush 255, 3) := by decide +kernel
theorem dX2_sendResetFor_49 : decode cX2_sendResetFor 49 = .ok (.iand, 1) := by decide +kernel
theorem dX2_sendResetFor_50 : decode cX2_sendResetFor 50 = .ok (.putfield 132, 3) := by decide +kernel
theorem dX2_sendResetFor_53 : decode cX2_sendResetFor 53 = .ok (.aload_n 2, 1) := by decide +kernel
theorem dX2_sendResetFor_54 : decode cX2_sendResetFor 54 = .ok (.iconst 0, 1) := by decide +kernel
theorem dX2_sendResetFor_55 : decode cX2_sendResetFor 55 = .ok (.putfield 138, 3) := by decide +kernel
theorem dX2_sendResetFor_58 : decode cX2_sendResetFor 58 = .ok (.aload_n 0, 1) := by decide +kernel
theorem dX2_sendResetFor_59 : decode cX2_sendResetFor 59 = .ok (.getfield 40, 3) := by decide +kernel
theorem dX2_sendResetFor_62 : decode cX2_sendResetFor 62 = .ok (.invokevirtual 168, 3) := by decide +kernel
theorem dX2_sendResetFor_65 : decode cX2_sendResetFor 65 = .ok (.return_, 1) := by decide +kernel
theorem dX2_sendData_0 : decode cX2_sendData 0 = .ok (.aload_n 0, 1) := by decide +kernel
theorem dX2_sendData_1 : decode cX2_sendData 1 = .ok (.iload_n 3, 1) := by decide +kernel
theorem dX2_sendData_2 : decode cX2_sendData 2 = .ok (.ifCond .eq 8, 3) := by decide +kernel
theorem dX2_sendData_5 : decode cX2_sendData 5 = .ok (.bipush 6, 2) := by decide +kernel
theorem dX2_sendData_7 : decode cX2_sendData 7 = .ok (.goto 4, 3) := by decide +kernel
theorem dX2_sendData_10 : decode cX2_sendData 10 = .ok (.iconst 4, 1) := by decide +kernel
theorem dX2_sendData_11 : decode cX2_sendData 11 = .ok (.iload_n 1, 1) := by decide +kernel
theorem dX2_sendData_12 : decode cX2_sendData 12 = .ok (.invokevirtual 165, 3) := by decide +kernel
theorem dX2_sendData_15 : decode cX2_sendData 15 = .ok (.astore 4, 2) := by decide +kernel
theorem dX2_sendData_17 : decode cX2_sendData 17 = .ok (.iconst 0, 1) := by decide +kernel
theorem dX2_sendData_18 : decode cX2_sendData 18 = .ok (.istore 5, 2) := by decide +kernel
theorem dX2_sendData_20 : decode cX2_sendData 20 = .ok (.iload 5, 2) := by decide +kernel
theorem dX2_sendData_22 : decode cX2_sendData 22 = .ok (.iload_n 2, 1) := by decide +kernel
theorem dX2_sendData_23 : decode cX2_sendData 23 = .ok (.if_icmp .ge 25, 3) := by decide +kernel
theorem dX2_sendData_26 : decode cX2_sendData 26 = .ok (.aload 4, 2) := by decide +kernel
theorem dX2_sendData_28 : decode cX2_sendData 28 = .ok (.aload_n 0, 1) := by decide +kernel
theorem dX2_sendData_29 : decode cX2_sendData 29 = .ok (.getfield 12, 3) := by decide +kernel
theorem dX2_sendData_32 : decode cX2_sendData 32 = .ok (.iload_n 1, 1) := by decide +kernel
theorem dX2_sendData_33 : decode cX2_sendData 33 = .ok (.iload 5, 2) := by decide +kernel
theorem dX2_sendData_35 : decode cX2_sendData 35 = .ok (.iadd, 1) := by decide +kernel
theorem dX2_sendData_36 : decode cX2_sendData 36 = .ok (.invokevirtual 179, 3) := by decide +kernel
theorem dX2_sendData_39 : decode cX2_sendData 39 = .ok (.invokevirtual 182, 3) := by decide +kernel
theorem dX2_sendData_42 : decode cX2_sendData 42 = .ok (.iinc 5 1, 3) := by decide +kernel
theorem dX2_sendData_45 : decode cX2_sendData 45 = .ok (.goto (-25), 3) := by decide +kernel
theorem dX2_sendData_48 : decode cX2_sendData 48 = .ok (.iload_n 1, 1) := by decide +kernel
theorem dX2_sendData_49 : decode cX2_sendData 49 = .ok (.aload_n 0, 1) := by decide +kernel
theorem dX2_sendData_50 : decode cX2_sendData 50 = .ok (.getfield 12, 3) := by decide +kernel
theorem dX2_sendData_53 : decode cX2_sendData 53 = .ok (.getfield 185, 3) := by decide +kernel
theorem dX2_sendData_56 : decode cX2_sendData 56 = .ok (.if_icmp .ge 26, 3) := by decide +kernel
theorem dX2_sendData_59 : decode cX2_sendData 59 = .ok (.aload 4, 2) := by decide +kernel
theorem dX2_sendData_61 : decode cX2_sendData 61 = .ok (.aload_n 0, 1) := by decide +kernel
theorem dX2_sendData_62 : decode cX2_sendData 62 = .ok (.getfield 36, 3) := by decide +kernel
theorem dX2_sendData_65 : decode cX2_sendData 65 = .ok (.aload_n 0, 1) := by decide +kernel
theorem dX2_sendData_66 : decode cX2_sendData 66 = .ok (.getfield 32, 3) := by decide +kernel
theorem dX2_sendData_69 : decode cX2_sendData 69 = .ok (.aload_n 0, 1) := by decide +kernel
theorem dX2_sendData_70 : decode cX2_sendData 70 = .ok (.getfield 12, 3) := by decide +kernel
theorem dX2_sendData_73 : decode cX2_sendData 73 = .ok (.getfield 185, 3) := by decide +kernel
theorem dX2_sendData_76 : decode cX2_sendData 76 = .ok (.invokevirtual 115, 3) := by decide +kernel
theorem dX2_sendData_79 : decode cX2_sendData 79 = .ok (.putfield 188, 3) := by decide +kernel
theorem dX2_sendData_82 : decode cX2_sendData 82 = .ok (.aload_n 0, 1) := by decide +kernel
theorem dX2_sendData_83 : decode cX2_sendData 83 = .ok (.getfield 40, 3) := by decide +kernel
theorem dX2_sendData_86 : decode cX2_sendData 86 = .ok (.invokevirtual 168, 3) := by decide +kernel
theorem dX2_sendData_89 : decode cX2_sendData 89 = .ok (.aload 4, 2) := by decide +kernel
theorem dX2_sendData_91 : decode cX2_sendData 91 = .ok (.invokevirtual 176, 3) := by decide +kernel
theorem dX2_sendData_94 : decode cX2_sendData 94 = .ok (.istore 5, 2) := by decide +kernel
theorem dX2_sendData_96 : decode cX2_sendData 96 = .ok (.iload_n 1, 1) := by decide +kernel
theorem dX2_sendData_97 : decode cX2_sendData 97 = .ok (.aload_n 0, 1) := by decide +kernel
theorem dX2_sendData_98 : decode cX2_sendData 98 = .ok (.getfield 12, 3) := by decide +kernel
theorem dX2_sendData_101 : decode cX2_sendData 101 = .ok (.getfield 93, 3) := by decide +kernel
theorem dX2_sendData_104 : decode cX2_sendData 104 = .ok (.if_icmp .ne 42, 3) := by decide +kernel
theorem dX2_sendData_107 : decode cX2_sendData 107 = .ok (.iload 5, 2) := by decide +kernel
theorem dX2_sendData_109 : decode cX2_sendData 109 = .ok (.ifCond .le 37, 3) := by decide +kernel
theorem dX2_sendData_112 : decode cX2_sendData 112 = .ok (.aload_n 0, 1) := by decide +kernel
theorem dX2_sendData_113 : decode cX2_sendData 113 = .ok (.getfield 28, 3) := by decide +kernel
theorem dX2_sendData_116 : decode cX2_sendData 116 = .ok (.iload_n 1, 1) := by decide +kernel
theorem dX2_sendData_117 : decode cX2_sendData 117 = .ok (.iload 5, 2) := by decide +kernel
theorem dX2_sendData_119 : decode cX2_sendData 119 = .ok (.iadd, 1) := by decide +kernel
theorem dX2_sendData_120 : decode cX2_sendData 120 = .ok (.iconst 1, 1) := by decide +kernel
theorem dX2_sendData_121 : decode cX2_sendData 121 = .ok (.isub, 1) := by decide +kernel
theorem dX2_sendData_122 : decode cX2_sendData 122 = .ok (.aload_n 0, 1) := by decide +kernel
theorem dX2_sendData_123 : decode cX2_sendData 123 = .ok (.getfield 44, 3) := by decide +kernel
theorem dX2_sendData_126 : decode cX2_sendData 126 = .ok (.getfield 157, 3) := by decide +kernel
theorem dX2_sendData_129 : decode cX2_sendData 129 = .ok (.invokevirtual 162, 3) := by decide +kernel
theorem dX2_sendData_132 : decode cX2_sendData 132 = .ok (.aload_n 0, 1) := by decide +kernel
theorem dX2_sendData_133 : decode cX2_sendData 133 = .ok (.getfield 12, 3) := by decide +kernel
theorem dX2_sendData_136 : decode cX2_sendData 136 = .ok (.dup, 1) := by decide +kernel
theorem dX2_sendData_137 : decode cX2_sendData 137 = .ok (.getfield 93, 3) := by decide +kernel
theorem dX2_sendData_140 : decode cX2_sendData 140 = .ok (.iload 5, 2) := by decide +kernel
theorem dX2_sendData_142 : decode cX2_sendData 142 = .ok (.iadd, 1) := by decide +kernel
theorem dX2_sendData_143 : decode cX2_sendData 143 = .ok (.putfield 93, 3) := by decide +kernel
theorem dX2_sendData_146 : decode cX2_sendData 146 = .ok (.return_, 1) := by decide +kernel
theorem dX2_transmit_0 : decode cX2_transmit 0 = .ok (.iconst 0, 1) := by decide +kernel
theorem dX2_transmit_1 : decode cX2_transmit 1 = .ok (.istore_n 1, 1) := by decide +kernel
theorem dX2_transmit_2 : decode cX2_transmit 2 = .ok (.iload_n 1, 1) := by decide +kernel
theorem dX2_transmit_3 : decode cX2_transmit 3 = .ok (.bipush 32, 2) := by decide +kernel
theorem dX2_transmit_5 : decode cX2_transmit 5 = .ok (.if_icmp .gt 246, 3) := by decide +kernel
theorem dX2_transmit_8 : decode cX2_transmit 8 = .ok (.aload_n 0, 1) := by decide +kernel
theorem dX2_transmit_9 : decode cX2_transmit 9 = .ok (.invokevirtual 82, 3) := by decide +kernel
theorem dX2_transmit_12 : decode cX2_transmit 12 = .ok (.ifCond .eq 239, 3) := by decide +kernel
theorem dX2_transmit_15 : decode cX2_transmit 15 = .ok (.aload_n 0, 1) := by decide +kernel
theorem dX2_transmit_16 : decode cX2_transmit 16 = .ok (.getfield 12, 3) := by decide +kernel
theorem dX2_transmit_19 : decode cX2_transmit 19 = .ok (.aload_n 0, 1) := by decide +kernel
theorem dX2_transmit_20 : decode cX2_transmit 20 = .ok (.getfield 36, 3) := by decide +kernel
theorem dX2_transmit_23 : decode cX2_transmit 23 = .ok (.getfield 189, 3) := by decide +kernel
theorem dX2_transmit_26 : decode cX2_transmit 26 = .ok (.invokevirtual 192, 3) := by decide +kernel
theorem dX2_transmit_29 : decode cX2_transmit 29 = .ok (.istore_n 2, 1) := by decide +kernel
theorem dX2_transmit_30 : decode cX2_transmit 30 = .ok (.iload_n 2, 1) := by decide +kernel
theorem dX2_transmit_31 : decode cX2_transmit 31 = .ok (.aload_n 0, 1) := by decide +kernel
theorem dX2_transmit_32 : decode cX2_transmit 32 = .ok (.getfield 12, 3) := by decide +kernel
theorem dX2_transmit_35 : decode cX2_transmit 35 = .ok (.invokevirtual 96, 3) := by decide +kernel
theorem dX2_transmit_38 : decode cX2_transmit 38 = .ok (.if_icmp .ne 7, 3) := by decide +kernel
theorem dX2_transmit_41 : decode cX2_transmit 41 = .ok (.iconst 1, 1) := by decide +kernel
theorem dX2_transmit_42 : decode cX2_transmit 42 = .ok (.goto 4, 3) := by decide +kernel
theorem dX2_transmit_45 : decode cX2_transmit 45 = .ok (.iconst 0, 1) := by decide +kernel
theorem dX2_transmit_46 : decode cX2_transmit 46 = .ok (.istore_n 3, 1) := by decide +kernel
theorem dX2_transmit_47 : decode cX2_transmit 47 = .ok (.aload_n 0, 1) := by decide +kernel
theorem dX2_transmit_48 : decode cX2_transmit 48 = .ok (.getfield 12, 3) := by decide +kernel
theorem dX2_transmit_51 : decode cX2_transmit 51 = .ok (.getfield 90, 3) := by decide +kernel
theorem dX2_transmit_54 : decode cX2_transmit 54 = .ok (.aload_n 0, 1) := by decide +kernel
theorem dX2_transmit_55 : decode cX2_transmit 55 = .ok (.getfield 12, 3) := by decide +kernel
theorem dX2_transmit_58 : decode cX2_transmit 58 = .ok (.getfield 93, 3) := by decide +kernel
theorem dX2_transmit_61 : decode cX2_transmit 61 = .ok (.if_icmp .eq 13, 3) := by decide +kernel
theorem dX2_transmit_64 : decode cX2_transmit 64 = .ok (.aload_n 0, 1) := by decide +kernel
theorem dX2_transmit_65 : decode cX2_transmit 65 = .ok (.getfield 12, 3) := by decide +kernel
theorem dX2_transmit_68 : decode cX2_transmit 68 = .ok (.getfield 86, 3) := by decide +kernel
theorem dX2_transmit_71 : decode cX2_transmit 71 = .ok (.ifCond .eq 7, 3) := by decide +kernel
theorem dX2_transmit_74 : decode cX2_transmit 74 = .ok (.iconst 1, 1) := by decide +kernel
theorem dX2_transmit_75 : decode cX2_transmit 75 = .ok (.goto 4, 3) := by decide +kernel
theorem dX2_transmit_78 : decode cX2_transmit 78 = .ok (.iconst 0, 1) := by decide +kernel
theorem dX2_transmit_79 : decode cX2_transmit 79 = .ok (.istore 4, 2) := by decide +kernel
theorem dX2_transmit_81 : decode cX2_transmit 81 = .ok (.iload_n 2, 1) := by decide +kernel
theorem dX2_transmit_82 : decode cX2_transmit 82 = .ok (.aload_n 0, 1) := by decide +kernel
theorem dX2_transmit_83 : decode cX2_transmit 83 = .ok (.getfield 36, 3) := by decide +kernel
theorem dX2_transmit_86 : decode cX2_transmit 86 = .ok (.getfield 189, 3) := by decide +kernel
theorem dX2_transmit_89 : decode cX2_transmit 89 = .ok (.if_icmp .eq 17, 3) := by decide +kernel
theorem dX2_transmit_92 : decode cX2_transmit 92 = .ok (.iload_n 2, 1) := by decide +kernel
theorem dX2_transmit_93 : decode cX2_transmit 93 = .ok (.iconst 1, 1) := by decide +kernel
theorem dX2_transmit_94 : decode cX2_transmit 94 = .ok (.if_icmp .lt 69, 3) := by decide +kernel
theorem dX2_transmit_97 : decode cX2_transmit 97 = .ok (.iload_n 3, 1) := by decide +kernel
theorem dX2_transmit_98 : decode cX2_transmit 98 = .ok (.ifCond .eq 65, 3) := by decide +kernel
theorem dX2_transmit_101 : decode cX2_transmit 101 = .ok (.iload 4, 2) := by decide +kernel
theorem dX2_transmit_103 : decode cX2_transmit 103 = .ok (.ifCond .eq 60, 3) := by decide +kernel
theorem dX2_transmit_106 : decode cX2_transmit 106 = .ok (.aload_n 0, 1) := by decide +kernel
theorem dX2_transmit_107 : decode cX2_transmit 107 = .ok (.getfield 12, 3) := by decide +kernel
theorem dX2_transmit_110 : decode cX2_transmit 110 = .ok (.getfield 86, 3) := by decide +kernel
theorem dX2_transmit_113 : decode cX2_transmit 113 = .ok (.ifCond .eq 30, 3) := by decide +kernel
theorem dX2_transmit_116 : decode cX2_transmit 116 = .ok (.iload_n 3, 1) := by decide +kernel
theorem dX2_transmit_117 : decode cX2_transmit 117 = .ok (.ifCond .eq 26, 3) := by decide +kernel
theorem dX2_transmit_120 : decode cX2_transmit 120 = .ok (.aload_n 0, 1) := by decide +kernel
theorem dX2_transmit_121 : decode cX2_transmit 121 = .ok (.getfield 12, 3) := by decide +kernel
theorem dX2_transmit_124 : decode cX2_transmit 124 = .ok (.getfield 93, 3) := by decide +kernel
theorem dX2_transmit_127 : decode cX2_transmit 127 = .ok (.iload_n 2, 1) := by decide +kernel
theorem dX2_transmit_128 : decode cX2_transmit 128 = .ok (.iadd, 1) := by decide +kernel
theorem dX2_transmit_129 : decode cX2_transmit 129 = .ok (.aload_n 0, 1) := by decide +kernel
theorem dX2_transmit_130 : decode cX2_transmit 130 = .ok (.getfield 12, 3) := by decide +kernel
theorem dX2_transmit_133 : decode cX2_transmit 133 = .ok (.getfield 195, 3) := by decide +kernel
theorem dX2_transmit_136 : decode cX2_transmit 136 = .ok (.if_icmp .ge 7, 3) := by decide +kernel
theorem dX2_transmit_139 : decode cX2_transmit 139 = .ok (.iconst 1, 1) := by decide +kernel
theorem dX2_transmit_140 : decode cX2_transmit 140 = .ok (.goto 4, 3) := by decide +kernel
theorem dX2_transmit_143 : decode cX2_transmit 143 = .ok (.iconst 0, 1) := by decide +kernel
theorem dX2_transmit_144 : decode cX2_transmit 144 = .ok (.istore 5, 2) := by decide +kernel
theorem dX2_transmit_146 : decode cX2_transmit 146 = .ok (.aload_n 0, 1) := by decide +kernel
theorem dX2_transmit_147 : decode cX2_transmit 147 = .ok (.aload_n 0, 1) := by decide +kernel
theorem dX2_transmit_148 : decode cX2_transmit 148 = .ok (.getfield 12, 3) := by decide +kernel
theorem dX2_transmit_151 : decode cX2_transmit 151 = .ok (.getfield 93, 3) := by decide +kernel
theorem dX2_transmit_154 : decode cX2_transmit 154 = .ok (.iload_n 2, 1) := by decide +kernel
theorem dX2_transmit_155 : decode cX2_transmit 155 = .ok (.iload 5, 2) := by decide +kernel
theorem dX2_transmit_157 : decode cX2_transmit 157 = .ok (.invokevirtual 198, 3) := by decide +kernel
theorem dX2_transmit_160 : decode cX2_transmit 160 = .ok (.goto 57, 3) := by decide +kernel
theorem dX2_transmit_163 : decode cX2_transmit 163 = .ok (.aload_n 0, 1) := by decide +kernel
theorem dX2_transmit_164 : decode cX2_transmit 164 = .ok (.getfield 12, 3) := by decide +kernel
theorem dX2_transmit_167 : decode cX2_transmit 167 = .ok (.invokevirtual 96, 3) := by decide +kernel
theorem dX2_transmit_170 : decode cX2_transmit 170 = .ok (.ifCond .ne 46, 3) := by decide +kernel
theorem dX2_transmit_173 : decode cX2_transmit 173 = .ok (.aload_n 0, 1) := by decide +kernel
theorem dX2_transmit_174 : decode cX2_transmit 174 = .ok (.getfield 12, 3) := by decide +kernel
theorem dX2_transmit_177 : decode cX2_transmit 177 = .ok (.getfield 86, 3) := by decide +kernel
theorem dX2_transmit_180 : decode cX2_transmit 180 = .ok (.ifCond .eq 36, 3) := by decide +kernel
theorem dX2_transmit_183 : decode cX2_transmit 183 = .ok (.aload_n 0, 1) := by decide +kernel
theorem dX2_transmit_184 : decode cX2_transmit 184 = .ok (.getfield 12, 3) := by decide +kernel
theorem dX2_transmit_187 : decode cX2_transmit 187 = .ok (.getfield 93, 3) := by decide +kernel
theorem dX2_transmit_190 : decode cX2_transmit 190 = .ok (.aload_n 0, 1) := by decide +kernel
theorem dX2_transmit_191 : decode cX2_transmit 191 = .ok (.getfield 12, 3) := by decide +kernel
theorem dX2_transmit_194 : decode cX2_transmit 194 = .ok (.getfield 195, 3) := by decide +kernel
theorem dX2_transmit_197 : decode cX2_transmit 197 = .ok (.if_icmp .ge 19, 3) := by decide +kernel
theorem dX2_transmit_200 : decode cX2_transmit 200 = .ok (.aload_n 0, 1) := by decide +kernel
theorem dX2_transmit_201 : decode cX2_transmit 201 = .ok (.aload_n 0, 1) := by decide +kernel
theorem dX2_transmit_202 : decode cX2_transmit 202 = .ok (.getfield 12, 3) := by decide +kernel
theorem dX2_transmit_205 : decode cX2_transmit 205 = .ok (.getfield 93, 3) := by decide +kernel
theorem dX2_transmit_208 : decode cX2_transmit 208 = .ok (.iconst 0, 1) := by decide +kernel
theorem dX2_transmit_209 : decode cX2_transmit 209 = .ok (.iconst 1, 1) := by decide +kernel
theorem dX2_transmit_210 : decode cX2_transmit 210 = .ok (.invokevirtual 198, 3) := by decide +kernel
theorem dX2_transmit_213 : decode cX2_transmit 213 = .ok (.goto 4, 3) := by decide +kernel
theorem dX2_transmit_216 : decode cX2_transmit 216 = .ok (.return_, 1) := by decide +kernel
theorem dX2_transmit_217 : decode cX2_transmit 217 = .ok (.aload_n 0, 1) := by decide +kernel
theorem dX2_transmit_218 : decode cX2_transmit 218 = .ok (.getfield 12, 3) := by decide +kernel
theorem dX2_transmit_221 : decode cX2_transmit 221 = .ok (.invokevirtual 202, 3) := by decide +kernel
theorem dX2_transmit_224 : decode cX2_transmit 224 = .ok (.ifCond .eq 21, 3) := by decide +kernel
theorem dX2_transmit_227 : decode cX2_transmit 227 = .ok (.aload_n 0, 1) := by decide +kernel
theorem dX2_transmit_228 : decode cX2_transmit 228 = .ok (.aload_n 0, 1) := by decide +kernel
theorem dX2_transmit_229 : decode cX2_transmit 229 = .ok (.getfield 63, 3) := by decide +kernel
theorem dX2_transmit_232 : decode cX2_transmit 232 = .ok (.iconst 4, 1) := by decide +kernel
theorem dX2_transmit_233 : decode cX2_transmit 233 = .ok (.if_icmp .ne 7, 3) := by decide +kernel
theorem dX2_transmit_236 : decode cX2_transmit 236 = .ok (.iconst 5, 1) := by decide +kernel
theorem dX2_transmit_237 : decode cX2_transmit 237 = .ok (.goto 5, 3) := by decide +kernel
theorem dX2_transmit_240 : decode cX2_transmit 240 = .ok (.bipush 9, 2) := by decide +kernel
theorem dX2_transmit_242 : decode cX2_transmit 242 = .ok (.putfield 63, 3) := by decide +kernel
theorem dX2_transmit_245 : decode cX2_transmit 245 = .ok (.iinc 1 1, 3) := by decide +kernel
theorem dX2_transmit_248 : decode cX2_transmit 248 = .ok (.goto (-246), 3) := by decide +kernel
theorem dX2_transmit_251 : decode cX2_transmit 251 = .ok (.return_, 1) := by decide +kernel
theorem dX2_widenWindow_0 : decode cX2_widenWindow 0 = .ok (.aload_n 0, 1) := by decide +kernel
theorem dX2_widenWindow_1 : decode cX2_widenWindow 1 = .ok (.getfield 21, 3) := by decide +kernel
theorem dX2_widenWindow_4 : decode cX2_widenWindow 4 = .ok (.getfield 205, 3) := by decide +kernel
theorem dX2_widenWindow_7 : decode cX2_widenWindow 7 = .ok (.aload_n 0, 1) := by decide +kernel
theorem dX2_widenWindow_8 : decode cX2_widenWindow 8 = .ok (.getfield 36, 3) := by decide +kernel
theorem dX2_widenWindow_11 : decode cX2_widenWindow 11 = .ok (.getfield 54, 3) := by decide +kernel
theorem dX2_widenWindow_14 : decode cX2_widenWindow 14 = .ok (.iadd, 1) := by decide +kernel
theorem dX2_widenWindow_15 : decode cX2_widenWindow 15 = .ok (.aload_n 0, 1) := by decide +kernel
theorem dX2_widenWindow_16 : decode cX2_widenWindow 16 = .ok (.getfield 21, 3) := by decide +kernel
theorem dX2_widenWindow_19 : decode cX2_widenWindow 19 = .ok (.getfield 144, 3) := by decide +kernel
theorem dX2_widenWindow_22 : decode cX2_widenWindow 22 = .ok (.isub, 1) := by decide +kernel
theorem dX2_widenWindow_23 : decode cX2_widenWindow 23 = .ok (.istore_n 1, 1) := by decide +kernel
theorem dX2_widenWindow_24 : decode cX2_widenWindow 24 = .ok (.aload_n 0, 1) := by decide +kernel
theorem dX2_widenWindow_25 : decode cX2_widenWindow 25 = .ok (.getfield 21, 3) := by decide +kernel
theorem dX2_widenWindow_28 : decode cX2_widenWindow 28 = .ok (.invokevirtual 135, 3) := by decide +kernel
theorem dX2_widenWindow_31 : decode cX2_widenWindow 31 = .ok (.istore_n 2, 1) := by decide +kernel
theorem dX2_widenWindow_32 : decode cX2_widenWindow 32 = .ok (.iload_n 1, 1) := by decide +kernel
theorem dX2_widenWindow_33 : decode cX2_widenWindow 33 = .ok (.aload_n 0, 1) := by decide +kernel
theorem dX2_widenWindow_34 : decode cX2_widenWindow 34 = .ok (.getfield 36, 3) := by decide +kernel
theorem dX2_widenWindow_37 : decode cX2_widenWindow 37 = .ok (.getfield 189, 3) := by decide +kernel
theorem dX2_widenWindow_40 : decode cX2_widenWindow 40 = .ok (.if_icmp .ge 16, 3) := by decide +kernel
theorem dX2_widenWindow_43 : decode cX2_widenWindow 43 = .ok (.iconst 2, 1) := by decide +kernel
theorem dX2_widenWindow_44 : decode cX2_widenWindow 44 = .ok (.iload_n 1, 1) := by decide +kernel
theorem dX2_widenWindow_45 : decode cX2_widenWindow 45 = .ok (.imul, 1) := by decide +kernel
theorem dX2_widenWindow_46 : decode cX2_widenWindow 46 = .ok (.aload_n 0, 1) := by decide +kernel
theorem dX2_widenWindow_47 : decode cX2_widenWindow 47 = .ok (.getfield 36, 3) := by decide +kernel
theorem dX2_widenWindow_50 : decode cX2_widenWindow 50 = .ok (.getfield 54, 3) := by decide +kernel
theorem dX2_widenWindow_53 : decode cX2_widenWindow 53 = .ok (.if_icmp .lt 38, 3) := by decide +kernel
theorem dX2_widenWindow_56 : decode cX2_widenWindow 56 = .ok (.aload_n 0, 1) := by decide +kernel
theorem dX2_widenWindow_57 : decode cX2_widenWindow 57 = .ok (.getfield 21, 3) := by decide +kernel
theorem dX2_widenWindow_60 : decode cX2_widenWindow 60 = .ok (.dup, 1) := by decide +kernel
theorem dX2_widenWindow_61 : decode cX2_widenWindow 61 = .ok (.getfield 144, 3) := by decide +kernel
theorem dX2_widenWindow_64 : decode cX2_widenWindow 64 = .ok (.iload_n 1, 1) := by decide +kernel
theorem dX2_widenWindow_65 : decode cX2_widenWindow 65 = .ok (.iadd, 1) := by decide +kernel
theorem dX2_widenWindow_66 : decode cX2_widenWindow 66 = .ok (.putfield 144, 3) := by decide +kernel
theorem dX2_widenWindow_69 : decode cX2_widenWindow 69 = .ok (.iload_n 2, 1) := by decide +kernel
theorem dX2_widenWindow_70 : decode cX2_widenWindow 70 = .ok (.aload_n 0, 1) := by decide +kernel
theorem dX2_widenWindow_71 : decode cX2_widenWindow 71 = .ok (.getfield 36, 3) := by decide +kernel
theorem dX2_widenWindow_74 : decode cX2_widenWindow 74 = .ok (.getfield 189, 3) := by decide +kernel
theorem dX2_widenWindow_77 : decode cX2_widenWindow 77 = .ok (.if_icmp .ge 14, 3) := by decide +kernel
theorem dX2_widenWindow_80 : decode cX2_widenWindow 80 = .ok (.aload_n 0, 1) := by decide +kernel
theorem dX2_widenWindow_81 : decode cX2_widenWindow 81 = .ok (.invokevirtual 208, 3) := by decide +kernel
theorem dX2_widenWindow_84 : decode cX2_widenWindow 84 = .ok (.ifCond .eq 7, 3) := by decide +kernel
theorem dX2_widenWindow_87 : decode cX2_widenWindow 87 = .ok (.aload_n 0, 1) := by decide +kernel
theorem dX2_widenWindow_88 : decode cX2_widenWindow 88 = .ok (.invokevirtual 211, 3) := by decide +kernel
theorem dX2_widenWindow_91 : decode cX2_widenWindow 91 = .ok (.return_, 1) := by decide +kernel
theorem dX2_tick_0 : decode cX2_tick 0 = .ok (.aload_n 0, 1) := by decide +kernel
theorem dX2_tick_1 : decode cX2_tick 1 = .ok (.getfield 69, 3) := by decide +kernel
theorem dX2_tick_4 : decode cX2_tick 4 = .ok (.ifCond .eq 24, 3) := by decide +kernel
theorem dX2_tick_7 : decode cX2_tick 7 = .ok (.aload_n 0, 1) := by decide +kernel
theorem dX2_tick_8 : decode cX2_tick 8 = .ok (.dup, 1) := by decide +kernel
theorem dX2_tick_9 : decode cX2_tick 9 = .ok (.getfield 69, 3) := by decide +kernel
theorem dX2_tick_12 : decode cX2_tick 12 = .ok (.iconst 1, 1) := by decide +kernel
theorem dX2_tick_13 : decode cX2_tick 13 = .ok (.isub, 1) := by decide +kernel
theorem dX2_tick_14 : decode cX2_tick 14 = .ok (.putfield 69, 3) := by decide +kernel
theorem dX2_tick_17 : decode cX2_tick 17 = .ok (.aload_n 0, 1) := by decide +kernel
theorem dX2_tick_18 : decode cX2_tick 18 = .ok (.getfield 69, 3) := by decide +kernel
theorem dX2_tick_21 : decode cX2_tick 21 = .ok (.ifCond .ne 7, 3) := by decide +kernel
theorem dX2_tick_24 : decode cX2_tick 24 = .ok (.aload_n 0, 1) := by decide +kernel
theorem dX2_tick_25 : decode cX2_tick 25 = .ok (.invokevirtual 48, 3) := by decide +kernel
theorem dX2_tick_28 : decode cX2_tick 28 = .ok (.aload_n 0, 1) := by decide +kernel
theorem dX2_tick_29 : decode cX2_tick 29 = .ok (.getfield 66, 3) := by decide +kernel
theorem dX2_tick_32 : decode cX2_tick 32 = .ok (.ifCond .eq 24, 3) := by decide +kernel
theorem dX2_tick_35 : decode cX2_tick 35 = .ok (.aload_n 0, 1) := by decide +kernel
theorem dX2_tick_36 : decode cX2_tick 36 = .ok (.dup, 1) := by decide +kernel
theorem dX2_tick_37 : decode cX2_tick 37 = .ok (.getfield 66, 3) := by decide +kernel
theorem dX2_tick_40 : decode cX2_tick 40 = .ok (.iconst 1, 1) := by decide +kernel
theorem dX2_tick_41 : decode cX2_tick 41 = .ok (.isub, 1) := by decide +kernel
theorem dX2_tick_42 : decode cX2_tick 42 = .ok (.putfield 66, 3) := by decide +kernel
theorem dX2_tick_45 : decode cX2_tick 45 = .ok (.aload_n 0, 1) := by decide +kernel
theorem dX2_tick_46 : decode cX2_tick 46 = .ok (.getfield 66, 3) := by decide +kernel
theorem dX2_tick_49 : decode cX2_tick 49 = .ok (.ifCond .ne 7, 3) := by decide +kernel
theorem dX2_tick_52 : decode cX2_tick 52 = .ok (.aload_n 0, 1) := by decide +kernel
theorem dX2_tick_53 : decode cX2_tick 53 = .ok (.invokevirtual 214, 3) := by decide +kernel
theorem dX2_tick_56 : decode cX2_tick 56 = .ok (.return_, 1) := by decide +kernel
theorem dX2_expire_0 : decode cX2_expire 0 = .ok (.aload_n 0, 1) := by decide +kernel
theorem dX2_expire_1 : decode cX2_expire 1 = .ok (.getfield 12, 3) := by decide +kernel
theorem dX2_expire_4 : decode cX2_expire 4 = .ok (.getfield 90, 3) := by decide +kernel
theorem dX2_expire_7 : decode cX2_expire 7 = .ok (.aload_n 0, 1) := by decide +kernel
theorem dX2_expire_8 : decode cX2_expire 8 = .ok (.getfield 12, 3) := by decide +kernel
theorem dX2_expire_11 : decode cX2_expire 11 = .ok (.getfield 93, 3) := by decide +kernel
theorem dX2_expire_14 : decode cX2_expire 14 = .ok (.if_icmp .ge 10, 3) := by decide +kernel
theorem dX2_expire_17 : decode cX2_expire 17 = .ok (.aload_n 0, 1) := by decide +kernel
theorem dX2_expire_18 : decode cX2_expire 18 = .ok (.invokevirtual 217, 3) := by decide +kernel
theorem dX2_expire_21 : decode cX2_expire 21 = .ok (.goto 71, 3) := by decide +kernel
theorem dX2_expire_24 : decode cX2_expire 24 = .ok (.aload_n 0, 1) := by decide +kernel
theorem dX2_expire_25 : decode cX2_expire 25 = .ok (.getfield 12, 3) := by decide +kernel
theorem dX2_expire_28 : decode cX2_expire 28 = .ok (.getfield 93, 3) := by decide +kernel
theorem dX2_expire_31 : decode cX2_expire 31 = .ok (.aload_n 0, 1) := by decide +kernel
theorem dX2_expire_32 : decode cX2_expire 32 = .ok (.getfield 12, 3) := by decide +kernel
theorem dX2_expire_35 : decode cX2_expire 35 = .ok (.getfield 195, 3) := by decide +kernel
theorem dX2_expire_38 : decode cX2_expire 38 = .ok (.if_icmp .ge 32, 3) := by decide +kernel
theorem dX2_expire_41 : decode cX2_expire 41 = .ok (.aload_n 0, 1) := by decide +kernel
theorem dX2_expire_42 : decode cX2_expire 42 = .ok (.aload_n 0, 1) := by decide +kernel
theorem dX2_expire_43 : decode cX2_expire 43 = .ok (.getfield 12, 3) := by decide +kernel
theorem dX2_expire_46 : decode cX2_expire 46 = .ok (.getfield 93, 3) := by decide +kernel
theorem dX2_expire_49 : decode cX2_expire 49 = .ok (.aload_n 0, 1) := by decide +kernel
theorem dX2_expire_50 : decode cX2_expire 50 = .ok (.getfield 12, 3) := by decide +kernel
theorem dX2_expire_53 : decode cX2_expire 53 = .ok (.aload_n 0, 1) := by decide +kernel
theorem dX2_expire_54 : decode cX2_expire 54 = .ok (.getfield 36, 3) := by decide +kernel
theorem dX2_expire_57 : decode cX2_expire 57 = .ok (.getfield 189, 3) := by decide +kernel
theorem dX2_expire_60 : decode cX2_expire 60 = .ok (.invokevirtual 192, 3) := by decide +kernel
theorem dX2_expire_63 : decode cX2_expire 63 = .ok (.iconst 0, 1) := by decide +kernel
theorem dX2_expire_64 : decode cX2_expire 64 = .ok (.invokevirtual 198, 3) := by decide +kernel
theorem dX2_expire_67 : decode cX2_expire 67 = .ok (.goto 25, 3) := by decide +kernel
theorem dX2_expire_70 : decode cX2_expire 70 = .ok (.aload_n 0, 1) := by decide +kernel
theorem dX2_expire_71 : decode cX2_expire 71 = .ok (.iconst 4, 1) := by decide +kernel
theorem dX2_expire_72 : decode cX2_expire 72 = .ok (.aload_n 0, 1) := by decide +kernel
theorem dX2_expire_73 : decode cX2_expire 73 = .ok (.getfield 12, 3) := by decide +kernel
theorem dX2_expire_76 : decode cX2_expire 76 = .ok (.getfield 93, 3) := by decide +kernel
theorem dX2_expire_79 : decode cX2_expire 79 = .ok (.iconst 1, 1) := by decide +kernel
theorem dX2_expire_80 : decode cX2_expire 80 = .ok (.isub, 1) := by decide +kernel
theorem dX2_expire_81 : decode cX2_expire 81 = .ok (.invokevirtual 165, 3) := by decide +kernel
theorem dX2_expire_84 : decode cX2_expire 84 = .ok (.pop, 1) := by decide +kernel
theorem dX2_expire_85 : decode cX2_expire 85 = .ok (.aload_n 0, 1) := by decide +kernel
theorem dX2_expire_86 : decode cX2_expire 86 = .ok (.getfield 40, 3) := by decide +kernel
theorem dX2_expire_89 : decode cX2_expire 89 = .ok (.invokevirtual 168, 3) := by decide +kernel
theorem dX2_expire_92 : decode cX2_expire 92 = .ok (.aload_n 0, 1) := by decide +kernel
theorem dX2_expire_93 : decode cX2_expire 93 = .ok (.getfield 28, 3) := by decide +kernel
theorem dX2_expire_96 : decode cX2_expire 96 = .ok (.invokevirtual 220, 3) := by decide +kernel
theorem dX2_expire_99 : decode cX2_expire 99 = .ok (.aload_n 0, 1) := by decide +kernel
theorem dX2_expire_100 : decode cX2_expire 100 = .ok (.invokevirtual 223, 3) := by decide +kernel
theorem dX2_expire_103 : decode cX2_expire 103 = .ok (.return_, 1) := by decide +kernel
theorem dX2_retransmit_0 : decode cX2_retransmit 0 = .ok (.aload_n 0, 1) := by decide +kernel
theorem dX2_retransmit_1 : decode cX2_retransmit 1 = .ok (.getfield 12, 3) := by decide +kernel
theorem dX2_retransmit_4 : decode cX2_retransmit 4 = .ok (.invokevirtual 226, 3) := by decide +kernel
theorem dX2_retransmit_7 : decode cX2_retransmit 7 = .ok (.istore_n 1, 1) := by decide +kernel
theorem dX2_retransmit_8 : decode cX2_retransmit 8 = .ok (.iload_n 1, 1) := by decide +kernel
theorem dX2_retransmit_9 : decode cX2_retransmit 9 = .ok (.aload_n 0, 1) := by decide +kernel
theorem dX2_retransmit_10 : decode cX2_retransmit 10 = .ok (.getfield 12, 3) := by decide +kernel
theorem dX2_retransmit_13 : decode cX2_retransmit 13 = .ok (.getfield 93, 3) := by decide +kernel
theorem dX2_retransmit_16 : decode cX2_retransmit 16 = .ok (.if_icmp .lt 4, 3) := by decide +kernel
theorem dX2_retransmit_19 : decode cX2_retransmit 19 = .ok (.return_, 1) := by decide +kernel
theorem dX2_retransmit_20 : decode cX2_retransmit 20 = .ok (.aload_n 0, 1) := by decide +kernel
theorem dX2_retransmit_21 : decode cX2_retransmit 21 = .ok (.getfield 28, 3) := by decide +kernel
theorem dX2_retransmit_24 : decode cX2_retransmit 24 = .ok (.bipush (-4), 2) := by decide +kernel
theorem dX2_retransmit_26 : decode cX2_retransmit 26 = .ok (.putfield 229, 3) := by decide +kernel
theorem dX2_retransmit_29 : decode cX2_retransmit 29 = .ok (.aload_n 0, 1) := by decide +kernel
theorem dX2_retransmit_30 : decode cX2_retransmit 30 = .ok (.getfield 40, 3) := by decide +kernel
theorem dX2_retransmit_33 : decode cX2_retransmit 33 = .ok (.dup, 1) := by decide +kernel
theorem dX2_retransmit_34 : decode cX2_retransmit 34 = .ok (.getfield 232, 3) := by decide +kernel
theorem dX2_retransmit_37 : decode cX2_retransmit 37 = .ok (.iconst 1, 1) := by decide +kernel
theorem dX2_retransmit_38 : decode cX2_retransmit 38 = .ok (.iadd, 1) := by decide +kernel
theorem dX2_retransmit_39 : decode cX2_retransmit 39 = .ok (.putfield 232, 3) := by decide +kernel
theorem dX2_retransmit_42 : decode cX2_retransmit 42 = .ok (.iload_n 1, 1) := by decide +kernel
theorem dX2_retransmit_43 : decode cX2_retransmit 43 = .ok (.ifCond .ne 8, 3) := by decide +kernel
theorem dX2_retransmit_46 : decode cX2_retransmit 46 = .ok (.aload_n 0, 1) := by decide +kernel
theorem dX2_retransmit_47 : decode cX2_retransmit 47 = .ok (.invokevirtual 154, 3) := by decide +kernel
theorem dX2_retransmit_50 : decode cX2_retransmit 50 = .ok (.return_, 1) := by decide +kernel
theorem dX2_retransmit_51 : decode cX2_retransmit 51 = .ok (.aload_n 0, 1) := by decide +kernel
theorem dX2_retransmit_52 : decode cX2_retransmit 52 = .ok (.getfield 12, 3) := by decide +kernel
theorem dX2_retransmit_55 : decode cX2_retransmit 55 = .ok (.iload_n 1, 1) := by decide +kernel
theorem dX2_retransmit_56 : decode cX2_retransmit 56 = .ok (.aload_n 0, 1) := by decide +kernel
theorem dX2_retransmit_57 : decode cX2_retransmit 57 = .ok (.getfield 36, 3) := by decide +kernel
theorem dX2_retransmit_60 : decode cX2_retransmit 60 = .ok (.getfield 189, 3) := by decide +kernel
theorem dX2_retransmit_63 : decode cX2_retransmit 63 = .ok (.invokevirtual 235, 3) := by decide +kernel
theorem dX2_retransmit_66 : decode cX2_retransmit 66 = .ok (.istore_n 2, 1) := by decide +kernel
theorem dX2_retransmit_67 : decode cX2_retransmit 67 = .ok (.iload_n 1, 1) := by decide +kernel
theorem dX2_retransmit_68 : decode cX2_retransmit 68 = .ok (.iload_n 2, 1) := by decide +kernel
theorem dX2_retransmit_69 : decode cX2_retransmit 69 = .ok (.iadd, 1) := by decide +kernel
theorem dX2_retransmit_70 : decode cX2_retransmit 70 = .ok (.istore_n 3, 1) := by decide +kernel
theorem dX2_retransmit_71 : decode cX2_retransmit 71 = .ok (.aload_n 0, 1) := by decide +kernel
theorem dX2_retransmit_72 : decode cX2_retransmit 72 = .ok (.iload_n 1, 1) := by decide +kernel
theorem dX2_retransmit_73 : decode cX2_retransmit 73 = .ok (.iload_n 2, 1) := by decide +kernel
theorem dX2_retransmit_74 : decode cX2_retransmit 74 = .ok (.aload_n 0, 1) := by decide +kernel
theorem dX2_retransmit_75 : decode cX2_retransmit 75 = .ok (.getfield 12, 3) := by decide +kernel
theorem dX2_retransmit_78 : decode cX2_retransmit 78 = .ok (.invokevirtual 202, 3) := by decide +kernel
theorem dX2_retransmit_81 : decode cX2_retransmit 81 = .ok (.ifCond .eq 29, 3) := by decide +kernel
theorem dX2_retransmit_84 : decode cX2_retransmit 84 = .ok (.iload_n 3, 1) := by decide +kernel
theorem dX2_retransmit_85 : decode cX2_retransmit 85 = .ok (.aload_n 0, 1) := by decide +kernel
theorem dX2_retransmit_86 : decode cX2_retransmit 86 = .ok (.getfield 12, 3) := by decide +kernel
theorem dX2_retransmit_89 : decode cX2_retransmit 89 = .ok (.invokevirtual 238, 3) := by decide +kernel
theorem dX2_retransmit_92 : decode cX2_retransmit 92 = .ok (.if_icmp .ne 18, 3) := by decide +kernel
theorem dX2_retransmit_95 : decode cX2_retransmit 95 = .ok (.aload_n 0, 1) := by decide +kernel
theorem dX2_retransmit_96 : decode cX2_retransmit 96 = .ok (.getfield 12, 3) := by decide +kernel
theorem dX2_retransmit_99 : decode cX2_retransmit 99 = .ok (.iload_n 3, 1) := by decide +kernel
theorem dX2_retransmit_100 : decode cX2_retransmit 100 = .ok (.invokevirtual 241, 3) := by decide +kernel
theorem dX2_retransmit_103 : decode cX2_retransmit 103 = .ok (.ifCond .ne 7, 3) := by decide +kernel
theorem dX2_retransmit_106 : decode cX2_retransmit 106 = .ok (.iconst 1, 1) := by decide +kernel
theorem dX2_retransmit_107 : decode cX2_retransmit 107 = .ok (.goto 4, 3) := by decide +kernel
theorem dX2_retransmit_110 : decode cX2_retransmit 110 = .ok (.iconst 0, 1) := by decide +kernel
theorem dX2_retransmit_111 : decode cX2_retransmit 111 = .ok (.invokevirtual 198, 3) := by decide +kernel
theorem dX2_retransmit_114 : decode cX2_retransmit 114 = .ok (.return_, 1) := by decide +kernel
theorem dX2_value_0 : decode cX2_value 0 = .ok (.iload_n 1, 1) := by decide +kernel
theorem dX2_value_1 : decode cX2_value 1 = .ok (.tableswitch 218 0 16 #[83, 88, 96, 104, 112, 120, 128, 136, 144, 152, 160, 168, 173, 178, 194, 202, 210], 83) := by decide +kernel
theorem dX2_value_84 : decode cX2_value 84 = .ok (.aload_n 0, 1) := by decide +kernel
theorem dX2_value_85 : decode cX2_value 85 = .ok (.getfield 63, 3) := by decide +kernel
theorem dX2_value_88 : decode cX2_value 88 = .ok (.ireturn, 1) := by decide +kernel
theorem dX2_value_89 : decode cX2_value 89 = .ok (.aload_n 0, 1) := by decide +kernel
theorem dX2_value_90 : decode cX2_value 90 = .ok (.getfield 12, 3) := by decide +kernel
theorem dX2_value_93 : decode cX2_value 93 = .ok (.getfield 90, 3) := by decide +kernel
theorem dX2_value_96 : decode cX2_value 96 = .ok (.ireturn, 1) := by decide +kernel
theorem dX2_value_97 : decode cX2_value 97 = .ok (.aload_n 0, 1) := by decide +kernel
theorem dX2_value_98 : decode cX2_value 98 = .ok (.getfield 12, 3) := by decide +kernel
theorem dX2_value_101 : decode cX2_value 101 = .ok (.getfield 93, 3) := by decide +kernel
theorem dX2_value_104 : decode cX2_value 104 = .ok (.ireturn, 1) := by decide +kernel
theorem dX2_value_105 : decode cX2_value 105 = .ok (.aload_n 0, 1) := by decide +kernel
theorem dX2_value_106 : decode cX2_value 106 = .ok (.getfield 12, 3) := by decide +kernel
theorem dX2_value_109 : decode cX2_value 109 = .ok (.getfield 195, 3) := by decide +kernel
theorem dX2_value_112 : decode cX2_value 112 = .ok (.ireturn, 1) := by decide +kernel
theorem dX2_value_113 : decode cX2_value 113 = .ok (.aload_n 0, 1) := by decide +kernel
theorem dX2_value_114 : decode cX2_value 114 = .ok (.getfield 12, 3) := by decide +kernel
theorem dX2_value_117 : decode cX2_value 117 = .ok (.invokevirtual 244, 3) := by decide +kernel
theorem dX2_value_120 : decode cX2_value 120 = .ok (.ireturn, 1) := by decide +kernel
theorem dX2_value_121 : decode cX2_value 121 = .ok (.aload_n 0, 1) := by decide +kernel
theorem dX2_value_122 : decode cX2_value 122 = .ok (.getfield 21, 3) := by decide +kernel
theorem dX2_value_125 : decode cX2_value 125 = .ok (.getfield 129, 3) := by decide +kernel
theorem dX2_value_128 : decode cX2_value 128 = .ok (.ireturn, 1) := by decide +kernel
theorem dX2_value_129 : decode cX2_value 129 = .ok (.aload_n 0, 1) := by decide +kernel
theorem dX2_value_130 : decode cX2_value 130 = .ok (.getfield 21, 3) := by decide +kernel
theorem dX2_value_133 : decode cX2_value 133 = .ok (.getfield 205, 3) := by decide +kernel
theorem dX2_value_136 : decode cX2_value 136 = .ok (.ireturn, 1) := by decide +kernel
theorem dX2_value_137 : decode cX2_value 137 = .ok (.aload_n 0, 1) := by decide +kernel
theorem dX2_value_138 : decode cX2_value 138 = .ok (.getfield 21, 3) := by decide +kernel
theorem dX2_value_141 : decode cX2_value 141 = .ok (.getfield 144, 3) := by decide +kernel
theorem dX2_value_144 : decode cX2_value 144 = .ok (.ireturn, 1) := by decide +kernel
theorem dX2_value_145 : decode cX2_value 145 = .ok (.aload_n 0, 1) := by decide +kernel
theorem dX2_value_146 : decode cX2_value 146 = .ok (.getfield 28, 3) := by decide +kernel
theorem dX2_value_149 : decode cX2_value 149 = .ok (.getfield 106, 3) := by decide +kernel
theorem dX2_value_152 : decode cX2_value 152 = .ok (.ireturn, 1) := by decide +kernel
theorem dX2_value_153 : decode cX2_value 153 = .ok (.aload_n 0, 1) := by decide +kernel
theorem dX2_value_154 : decode cX2_value 154 = .ok (.getfield 28, 3) := by decide +kernel
theorem dX2_value_157 : decode cX2_value 157 = .ok (.getfield 247, 3) := by decide +kernel
theorem dX2_value_160 : decode cX2_value 160 = .ok (.ireturn, 1) := by decide +kernel
theorem dX2_value_161 : decode cX2_value 161 = .ok (.aload_n 0, 1) := by decide +kernel
theorem dX2_value_162 : decode cX2_value 162 = .ok (.getfield 28, 3) := by decide +kernel
theorem dX2_value_165 : decode cX2_value 165 = .ok (.getfield 250, 3) := by decide +kernel
theorem dX2_value_168 : decode cX2_value 168 = .ok (.ireturn, 1) := by decide +kernel
theorem dX2_value_169 : decode cX2_value 169 = .ok (.aload_n 0, 1) := by decide +kernel
theorem dX2_value_170 : decode cX2_value 170 = .ok (.getfield 66, 3) := by decide +kernel
theorem dX2_value_173 : decode cX2_value 173 = .ok (.ireturn, 1) := by decide +kernel
theorem dX2_value_174 : decode cX2_value 174 = .ok (.aload_n 0, 1) := by decide +kernel
theorem dX2_value_175 : decode cX2_value 175 = .ok (.getfield 69, 3) := by decide +kernel
theorem dX2_value_178 : decode cX2_value 178 = .ok (.ireturn, 1) := by decide +kernel
theorem dX2_value_179 : decode cX2_value 179 = .ok (.aload_n 0, 1) := by decide +kernel
theorem dX2_value_180 : decode cX2_value 180 = .ok (.getfield 12, 3) := by decide +kernel
theorem dX2_value_183 : decode cX2_value 183 = .ok (.getfield 86, 3) := by decide +kernel
theorem dX2_value_186 : decode cX2_value 186 = .ok (.ifCond .eq 7, 3) := by decide +kernel
theorem dX2_value_189 : decode cX2_value 189 = .ok (.iconst 1, 1) := by decide +kernel
theorem dX2_value_190 : decode cX2_value 190 = .ok (.goto 4, 3) := by decide +kernel
theorem dX2_value_193 : decode cX2_value 193 = .ok (.iconst 0, 1) := by decide +kernel
theorem dX2_value_194 : decode cX2_value 194 = .ok (.ireturn, 1) := by decide +kernel
theorem dX2_value_195 : decode cX2_value 195 = .ok (.aload_n 0, 1) := by decide +kernel
theorem dX2_value_196 : decode cX2_value 196 = .ok (.getfield 12, 3) := by decide +kernel
theorem dX2_value_199 : decode cX2_value 199 = .ok (.getfield 185, 3) := by decide +kernel
theorem dX2_value_202 : decode cX2_value 202 = .ok (.ireturn, 1) := by decide +kernel
theorem dX2_value_203 : decode cX2_value 203 = .ok (.aload_n 0, 1) := by decide +kernel
theorem dX2_value_204 : decode cX2_value 204 = .ok (.getfield 21, 3) := by decide +kernel
theorem dX2_value_207 : decode cX2_value 207 = .ok (.getfield 253, 3) := by decide +kernel
theorem dX2_value_210 : decode cX2_value 210 = .ok (.ireturn, 1) := by decide +kernel
theorem dX2_value_211 : decode cX2_value 211 = .ok (.aload_n 0, 1) := by decide +kernel
theorem dX2_value_212 : decode cX2_value 212 = .ok (.getfield 28, 3) := by decide +kernel
theorem dX2_value_215 : decode cX2_value 215 = .ok (.getfield 229, 3) := by decide +kernel
theorem dX2_value_218 : decode cX2_value 218 = .ok (.ireturn, 1) := by decide +kernel
theorem dX2_value_219 : decode cX2_value 219 = .ok (.aload_n 0, 1) := by decide +kernel
theorem dX2_value_220 : decode cX2_value 220 = .ok (.getfield 21, 3) := by decide +kernel
theorem dX2_value_223 : decode cX2_value 223 = .ok (.getfield 256, 3) := by decide +kernel
theorem dX2_value_226 : decode cX2_value 226 = .ok (.ireturn, 1) := by decide +kernel
theorem dX3_init_0 : decode cX3_init 0 = .ok (.aload_n 0, 1) := by decide +kernel
theorem dX3_init_1 : decode cX3_init 1 = .ok (.invokespecial 3, 3) := by decide +kernel
theorem dX3_init_4 : decode cX3_init 4 = .ok (.aload_n 0, 1) := by decide +kernel
theorem dX3_init_5 : decode cX3_init 5 = .ok (.bipush 64, 2) := by decide +kernel
theorem dX3_init_7 : decode cX3_init 7 = .ok (.newarray .int, 2) := by decide +kernel
theorem dX3_init_9 : decode cX3_init 9 = .ok (.putfield 9, 3) := by decide +kernel
theorem dX3_init_12 : decode cX3_init 12 = .ok (.return_, 1) := by decide +kernel
theorem dX3_start_0 : decode cX3_start 0 = .ok (.aload_n 0, 1) := by decide +kernel
theorem dX3_start_1 : decode cX3_start 1 = .ok (.iconst 0, 1) := by decide +kernel
theorem dX3_start_2 : decode cX3_start 2 = .ok (.putfield 15, 3) := by decide +kernel
theorem dX3_start_5 : decode cX3_start 5 = .ok (.aload_n 0, 1) := by decide +kernel
theorem dX3_start_6 : decode cX3_start 6 = .ok (.iconst 1, 1) := by decide +kernel
theorem dX3_start_7 : decode cX3_start 7 = .ok (.putfield 19, 3) := by decide +kernel
theorem dX3_start_10 : decode cX3_start 10 = .ok (.aload_n 0, 1) := by decide +kernel
theorem dX3_start_11 : decode cX3_start 11 = .ok (.iload_n 1, 1) := by decide +kernel
theorem dX3_start_12 : decode cX3_start 12 = .ok (.iconst 1, 1) := by decide +kernel
theorem dX3_start_13 : decode cX3_start 13 = .ok (.iadd, 1) := by decide +kernel
theorem dX3_start_14 : decode cX3_start 14 = .ok (.putfield 22, 3) := by decide +kernel
theorem dX3_start_17 : decode cX3_start 17 = .ok (.aload_n 0, 1) := by decide +kernel
theorem dX3_start_18 : decode cX3_start 18 = .ok (.bipush (-4), 2) := by decide +kernel
theorem dX3_start_20 : decode cX3_start 20 = .ok (.putfield 25, 3) := by decide +kernel
theorem dX3_start_23 : decode cX3_start 23 = .ok (.aload_n 0, 1) := by decide +kernel
theorem dX3_start_24 : decode cX3_start 24 = .ok (.iconst 0, 1) := by decide +kernel
theorem dX3_start_25 : decode cX3_start 25 = .ok (.putfield 28, 3) := by decide +kernel
theorem dX3_start_28 : decode cX3_start 28 = .ok (.aload_n 0, 1) := by decide +kernel
theorem dX3_start_29 : decode cX3_start 29 = .ok (.lconst 0, 1) := by decide +kernel
theorem dX3_start_30 : decode cX3_start 30 = .ok (.putfield 31, 3) := by decide +kernel
theorem dX3_start_33 : decode cX3_start 33 = .ok (.return_, 1) := by decide +kernel
theorem dX3_copyFrom_0 : decode cX3_copyFrom 0 = .ok (.aload_n 0, 1) := by decide +kernel
theorem dX3_copyFrom_1 : decode cX3_copyFrom 1 = .ok (.aload_n 1, 1) := by decide +kernel
theorem dX3_copyFrom_2 : decode cX3_copyFrom 2 = .ok (.getfield 15, 3) := by decide +kernel
theorem dX3_copyFrom_5 : decode cX3_copyFrom 5 = .ok (.putfield 15, 3) := by decide +kernel
theorem dX3_copyFrom_8 : decode cX3_copyFrom 8 = .ok (.aload_n 0, 1) := by decide +kernel
theorem dX3_copyFrom_9 : decode cX3_copyFrom 9 = .ok (.aload_n 1, 1) := by decide +kernel
theorem dX3_copyFrom_10 : decode cX3_copyFrom 10 = .ok (.getfield 19, 3) := by decide +kernel
theorem dX3_copyFrom_13 : decode cX3_copyFrom 13 = .ok (.putfield 19, 3) := by decide +kernel
theorem dX3_copyFrom_16 : decode cX3_copyFrom 16 = .ok (.aload_n 0, 1) := by decide +kernel
theorem dX3_copyFrom_17 : decode cX3_copyFrom 17 = .ok (.aload_n 1, 1) := by decide +kernel
theorem dX3_copyFrom_18 : decode cX3_copyFrom 18 = .ok (.getfield 22, 3) := by decide +kernel
theorem dX3_copyFrom_21 : decode cX3_copyFrom 21 = .ok (.putfield 22, 3) := by decide +kernel
theorem dX3_copyFrom_24 : decode cX3_copyFrom 24 = .ok (.aload_n 0, 1) := by decide +kernel
theorem dX3_copyFrom_25 : decode cX3_copyFrom 25 = .ok (.aload_n 1, 1) := by decide +kernel
theorem dX3_copyFrom_26 : decode cX3_copyFrom 26 = .ok (.getfield 25, 3) := by decide +kernel
theorem dX3_copyFrom_29 : decode cX3_copyFrom 29 = .ok (.putfield 25, 3) := by decide +kernel
theorem dX3_copyFrom_32 : decode cX3_copyFrom 32 = .ok (.aload_n 0, 1) := by decide +kernel
theorem dX3_copyFrom_33 : decode cX3_copyFrom 33 = .ok (.aload_n 1, 1) := by decide +kernel
theorem dX3_copyFrom_34 : decode cX3_copyFrom 34 = .ok (.getfield 28, 3) := by decide +kernel
theorem dX3_copyFrom_37 : decode cX3_copyFrom 37 = .ok (.putfield 28, 3) := by decide +kernel
theorem dX3_copyFrom_40 : decode cX3_copyFrom 40 = .ok (.aload_n 0, 1) := by decide +kernel
theorem dX3_copyFrom_41 : decode cX3_copyFrom 41 = .ok (.aload_n 1, 1) := by decide +kernel
theorem dX3_copyFrom_42 : decode cX3_copyFrom 42 = .ok (.getfield 31, 3) := by decide +kernel
theorem dX3_copyFrom_45 : decode cX3_copyFrom 45 = .ok (.putfield 31, 3) := by decide +kernel
theorem dX3_copyFrom_48 : decode cX3_copyFrom 48 = .ok (.aload_n 1, 1) := by decide +kernel
theorem dX3_copyFrom_49 : decode cX3_copyFrom 49 = .ok (.getfield 9, 3) := by decide +kernel
theorem dX3_copyFrom_52 : decode cX3_copyFrom 52 = .ok (.iconst 0, 1) := by decide +kernel
theorem dX3_copyFrom_53 : decode cX3_copyFrom 53 = .ok (.aload_n 0, 1) := by decide +kernel
theorem dX3_copyFrom_54 : decode cX3_copyFrom 54 = .ok (.getfield 9, 3) := by decide +kernel
theorem dX3_copyFrom_57 : decode cX3_copyFrom 57 = .ok (.iconst 0, 1) := by decide +kernel
theorem dX3_copyFrom_58 : decode cX3_copyFrom 58 = .ok (.bipush 64, 2) := by decide +kernel
theorem dX3_copyFrom_60 : decode cX3_copyFrom 60 = .ok (.invokestatic 35, 3) := by decide +kernel
theorem dX3_copyFrom_63 : decode cX3_copyFrom 63 = .ok (.return_, 1) := by decide +kernel
theorem dX3_window_0 : decode cX3_window 0 = .ok (.aload_n 0, 1) := by decide +kernel
theorem dX3_window_1 : decode cX3_window 1 = .ok (.getfield 22, 3) := by decide +kernel
theorem dX3_window_4 : decode cX3_window 4 = .ok (.aload_n 0, 1) := by decide +kernel
theorem dX3_window_5 : decode cX3_window 5 = .ok (.getfield 15, 3) := by decide +kernel
theorem dX3_window_8 : decode cX3_window 8 = .ok (.isub, 1) := by decide +kernel
theorem dX3_window_9 : decode cX3_window 9 = .ok (.ireturn, 1) := by decide +kernel
theorem dX3_hasRoomFor_0 : decode cX3_hasRoomFor 0 = .ok (.iload_n 1, 1) := by decide +kernel
theorem dX3_hasRoomFor_1 : decode cX3_hasRoomFor 1 = .ok (.aload_n 0, 1) := by decide +kernel
theorem dX3_hasRoomFor_2 : decode cX3_hasRoomFor 2 = .ok (.getfield 15, 3) := by decide +kernel
theorem dX3_hasRoomFor_5 : decode cX3_hasRoomFor 5 = .ok (.if_icmp .lt 15, 3) := by decide +kernel
theorem dX3_hasRoomFor_8 : decode cX3_hasRoomFor 8 = .ok (.iload_n 1, 1) := by decide +kernel
theorem dX3_hasRoomFor_9 : decode cX3_hasRoomFor 9 = .ok (.aload_n 0, 1) := by decide +kernel
theorem dX3_hasRoomFor_10 : decode cX3_hasRoomFor 10 = .ok (.getfield 22, 3) := by decide +kernel
theorem dX3_hasRoomFor_13 : decode cX3_hasRoomFor 13 = .ok (.if_icmp .ge 7, 3) := by decide +kernel
theorem dX3_hasRoomFor_16 : decode cX3_hasRoomFor 16 = .ok (.iconst 1, 1) := by decide +kernel
theorem dX3_hasRoomFor_17 : decode cX3_hasRoomFor 17 = .ok (.goto 4, 3) := by decide +kernel
theorem dX3_hasRoomFor_20 : decode cX3_hasRoomFor 20 = .ok (.iconst 0, 1) := by decide +kernel
theorem dX3_hasRoomFor_21 : decode cX3_hasRoomFor 21 = .ok (.ireturn, 1) := by decide +kernel
theorem dX3_fits_0 : decode cX3_fits 0 = .ok (.iload_n 2, 1) := by decide +kernel
theorem dX3_fits_1 : decode cX3_fits 1 = .ok (.ifCond .ne 25, 3) := by decide +kernel
theorem dX3_fits_4 : decode cX3_fits 4 = .ok (.iload_n 1, 1) := by decide +kernel
theorem dX3_fits_5 : decode cX3_fits 5 = .ok (.aload_n 0, 1) := by decide +kernel
theorem dX3_fits_6 : decode cX3_fits 6 = .ok (.getfield 15, 3) := by decide +kernel
theorem dX3_fits_9 : decode cX3_fits 9 = .ok (.if_icmp .eq 11, 3) := by decide +kernel
theorem dX3_fits_12 : decode cX3_fits 12 = .ok (.aload_n 0, 1) := by decide +kernel
theorem dX3_fits_13 : decode cX3_fits 13 = .ok (.iload_n 1, 1) := by decide +kernel
theorem dX3_fits_14 : decode cX3_fits 14 = .ok (.invokevirtual 41, 3) := by decide +kernel
theorem dX3_fits_17 : decode cX3_fits 17 = .ok (.ifCond .eq 7, 3) := by decide +kernel
theorem dX3_fits_20 : decode cX3_fits 20 = .ok (.iconst 1, 1) := by decide +kernel
theorem dX3_fits_21 : decode cX3_fits 21 = .ok (.goto 4, 3) := by decide +kernel
theorem dX3_fits_24 : decode cX3_fits 24 = .ok (.iconst 0, 1) := by decide +kernel
theorem dX3_fits_25 : decode cX3_fits 25 = .ok (.ireturn, 1) := by decide +kernel
theorem dX3_fits_26 : decode cX3_fits 26 = .ok (.iload_n 1, 1) := by decide +kernel
theorem dX3_fits_27 : decode cX3_fits 27 = .ok (.aload_n 0, 1) := by decide +kernel
theorem dX3_fits_28 : decode cX3_fits 28 = .ok (.getfield 15, 3) := by decide +kernel
theorem dX3_fits_31 : decode cX3_fits 31 = .ok (.invokestatic 45, 3) := by decide +kernel
theorem dX3_fits_34 : decode cX3_fits 34 = .ok (.iload_n 1, 1) := by decide +kernel
theorem dX3_fits_35 : decode cX3_fits 35 = .ok (.iload_n 2, 1) := by decide +kernel
theorem dX3_fits_36 : decode cX3_fits 36 = .ok (.iadd, 1) := by decide +kernel
theorem dX3_fits_37 : decode cX3_fits 37 = .ok (.aload_n 0, 1) := by decide +kernel
theorem dX3_fits_38 : decode cX3_fits 38 = .ok (.getfield 22, 3) := by decide +kernel
theorem dX3_fits_41 : decode cX3_fits 41 = .ok (.invokestatic 51, 3) := by decide +kernel
theorem dX3_fits_44 : decode cX3_fits 44 = .ok (.if_icmp .ge 7, 3) := by decide +kernel
theorem dX3_fits_47 : decode cX3_fits 47 = .ok (.iconst 1, 1) := by decide +kernel
theorem dX3_fits_48 : decode cX3_fits 48 = .ok (.goto 4, 3) := by decide +kernel
theorem dX3_fits_51 : decode cX3_fits 51 = .ok (.iconst 0, 1) := by decide +kernel
theorem dX3_fits_52 : decode cX3_fits 52 = .ok (.ireturn, 1) := by decide +kernel
theorem dX3_hold_0 : decode cX3_hold 0 = .ok (.aload_n 0, 1) := by decide +kernel
theorem dX3_hold_1 : decode cX3_hold 1 = .ok (.iload_n 1, 1) := by decide +kernel
theorem dX3_hold_2 : decode cX3_hold 2 = .ok (.invokevirtual 41, 3) := by decide +kernel
theorem dX3_hold_5 : decode cX3_hold 5 = .ok (.ifCond .eq 38, 3) := by decide +kernel
theorem dX3_hold_8 : decode cX3_hold 8 = .ok (.aload_n 0, 1) := by decide +kernel
theorem dX3_hold_9 : decode cX3_hold 9 = .ok (.getfield 31, 3) := by decide +kernel
theorem dX3_hold_12 : decode cX3_hold 12 = .ok (.iload_n 1, 1) := by decide +kernel
theorem dX3_hold_13 : decode cX3_hold 13 = .ok (.lushr, 1) := by decide +kernel
theorem dX3_hold_14 : decode cX3_hold 14 = .ok (.lconst 1, 1) := by decide +kernel
theorem dX3_hold_15 : decode cX3_hold 15 = .ok (.land, 1) := by decide +kernel
theorem dX3_hold_16 : decode cX3_hold 16 = .ok (.lconst 0, 1) := by decide +kernel
theorem dX3_hold_17 : decode cX3_hold 17 = .ok (.lcmp, 1) := by decide +kernel
theorem dX3_hold_18 : decode cX3_hold 18 = .ok (.ifCond .ne 25, 3) := by decide +kernel
theorem dX3_hold_21 : decode cX3_hold 21 = .ok (.aload_n 0, 1) := by decide +kernel
theorem dX3_hold_22 : decode cX3_hold 22 = .ok (.dup, 1) := by decide +kernel
theorem dX3_hold_23 : decode cX3_hold 23 = .ok (.getfield 31, 3) := by decide +kernel
theorem dX3_hold_26 : decode cX3_hold 26 = .ok (.lconst 1, 1) := by decide +kernel
theorem dX3_hold_27 : decode cX3_hold 27 = .ok (.iload_n 1, 1) := by decide +kernel
theorem dX3_hold_28 : decode cX3_hold 28 = .ok (.lshl, 1) := by decide +kernel
theorem dX3_hold_29 : decode cX3_hold 29 = .ok (.lor, 1) := by decide +kernel
theorem dX3_hold_30 : decode cX3_hold 30 = .ok (.putfield 31, 3) := by decide +kernel
theorem dX3_hold_33 : decode cX3_hold 33 = .ok (.aload_n 0, 1) := by decide +kernel
theorem dX3_hold_34 : decode cX3_hold 34 = .ok (.getfield 9, 3) := by decide +kernel
theorem dX3_hold_37 : decode cX3_hold 37 = .ok (.iload_n 1, 1) := by decide +kernel
theorem dX3_hold_38 : decode cX3_hold 38 = .ok (.bipush 63, 2) := by decide +kernel
theorem dX3_hold_40 : decode cX3_hold 40 = .ok (.iand, 1) := by decide +kernel
theorem dX3_hold_41 : decode cX3_hold 41 = .ok (.iload_n 2, 1) := by decide +kernel
theorem dX3_hold_42 : decode cX3_hold 42 = .ok (.iastore, 1) := by decide +kernel
theorem dX3_hold_43 : decode cX3_hold 43 = .ok (.return_, 1) := by decide +kernel
theorem dX3_passHeld_0 : decode cX3_passHeld 0 = .ok (.aload_n 0, 1) := by decide +kernel
theorem dX3_passHeld_1 : decode cX3_passHeld 1 = .ok (.getfield 15, 3) := by decide +kernel
theorem dX3_passHeld_4 : decode cX3_passHeld 4 = .ok (.aload_n 0, 1) := by decide +kernel
theorem dX3_passHeld_5 : decode cX3_passHeld 5 = .ok (.getfield 22, 3) := by decide +kernel
theorem dX3_passHeld_8 : decode cX3_passHeld 8 = .ok (.if_icmp .ge 51, 3) := by decide +kernel
theorem dX3_passHeld_11 : decode cX3_passHeld 11 = .ok (.aload_n 0, 1) := by decide +kernel
theorem dX3_passHeld_12 : decode cX3_passHeld 12 = .ok (.getfield 31, 3) := by decide +kernel
theorem dX3_passHeld_15 : decode cX3_passHeld 15 = .ok (.aload_n 0, 1) := by decide +kernel
theorem dX3_passHeld_16 : decode cX3_passHeld 16 = .ok (.getfield 15, 3) := by decide +kernel
theorem dX3_passHeld_19 : decode cX3_passHeld 19 = .ok (.lushr, 1) := by decide +kernel
theorem dX3_passHeld_20 : decode cX3_passHeld 20 = .ok (.lconst 1, 1) := by decide +kernel
theorem dX3_passHeld_21 : decode cX3_passHeld 21 = .ok (.land, 1) := by decide +kernel
theorem dX3_passHeld_22 : decode cX3_passHeld 22 = .ok (.lconst 0, 1) := by decide +kernel
theorem dX3_passHeld_23 : decode cX3_passHeld 23 = .ok (.lcmp, 1) := by decide +kernel
theorem dX3_passHeld_24 : decode cX3_passHeld 24 = .ok (.ifCond .eq 35, 3) := by decide +kernel
theorem dX3_passHeld_27 : decode cX3_passHeld 27 = .ok (.aload_n 0, 1) := by decide +kernel
theorem dX3_passHeld_28 : decode cX3_passHeld 28 = .ok (.dup, 1) := by decide +kernel
theorem dX3_passHeld_29 : decode cX3_passHeld 29 = .ok (.getfield 31, 3) := by decide +kernel
theorem dX3_passHeld_32 : decode cX3_passHeld 32 = .ok (.lconst 1, 1) := by decide +kernel
theorem dX3_passHeld_33 : decode cX3_passHeld 33 = .ok (.aload_n 0, 1) := by decide +kernel
theorem dX3_passHeld_34 : decode cX3_passHeld 34 = .ok (.getfield 15, 3) := by decide +kernel
theorem dX3_passHeld_37 : decode cX3_passHeld 37 = .ok (.lshl, 1) := by decide +kernel
theorem dX3_passHeld_38 : decode cX3_passHeld 38 = .ok (.ldc2_w 54, 3) := by decide +kernel
theorem dX3_passHeld_41 : decode cX3_passHeld 41 = .ok (.lxor, 1) := by decide +kernel
theorem dX3_passHeld_42 : decode cX3_passHeld 42 = .ok (.land, 1) := by decide +kernel
theorem dX3_passHeld_43 : decode cX3_passHeld 43 = .ok (.putfield 31, 3) := by decide +kernel
theorem dX3_passHeld_46 : decode cX3_passHeld 46 = .ok (.aload_n 0, 1) := by decide +kernel
theorem dX3_passHeld_47 : decode cX3_passHeld 47 = .ok (.dup, 1) := by decide +kernel
theorem dX3_passHeld_48 : decode cX3_passHeld 48 = .ok (.getfield 15, 3) := by decide +kernel
theorem dX3_passHeld_51 : decode cX3_passHeld 51 = .ok (.iconst 1, 1) := by decide +kernel
theorem dX3_passHeld_52 : decode cX3_passHeld 52 = .ok (.iadd, 1) := by decide +kernel
theorem dX3_passHeld_53 : decode cX3_passHeld 53 = .ok (.putfield 15, 3) := by decide +kernel
theorem dX3_passHeld_56 : decode cX3_passHeld 56 = .ok (.goto (-56), 3) := by decide +kernel
theorem dX3_passHeld_59 : decode cX3_passHeld 59 = .ok (.return_, 1) := by decide +kernel
theorem dX3_nextHeld_0 : decode cX3_nextHeld 0 = .ok (.iload_n 1, 1) := by decide +kernel
theorem dX3_nextHeld_1 : decode cX3_nextHeld 1 = .ok (.istore_n 2, 1) := by decide +kernel
theorem dX3_nextHeld_2 : decode cX3_nextHeld 2 = .ok (.iload_n 2, 1) := by decide +kernel
theorem dX3_nextHeld_3 : decode cX3_nextHeld 3 = .ok (.aload_n 0, 1) := by decide +kernel
theorem dX3_nextHeld_4 : decode cX3_nextHeld 4 = .ok (.getfield 22, 3) := by decide +kernel
theorem dX3_nextHeld_7 : decode cX3_nextHeld 7 = .ok (.if_icmp .ge 22, 3) := by decide +kernel
theorem dX3_nextHeld_10 : decode cX3_nextHeld 10 = .ok (.aload_n 0, 1) := by decide +kernel
theorem dX3_nextHeld_11 : decode cX3_nextHeld 11 = .ok (.getfield 31, 3) := by decide +kernel
theorem dX3_nextHeld_14 : decode cX3_nextHeld 14 = .ok (.iload_n 2, 1) := by decide +kernel
theorem dX3_nextHeld_15 : decode cX3_nextHeld 15 = .ok (.lushr, 1) := by decide +kernel
theorem dX3_nextHeld_16 : decode cX3_nextHeld 16 = .ok (.lconst 1, 1) := by decide +kernel
theorem dX3_nextHeld_17 : decode cX3_nextHeld 17 = .ok (.land, 1) := by decide +kernel
theorem dX3_nextHeld_18 : decode cX3_nextHeld 18 = .ok (.lconst 0, 1) := by decide +kernel
theorem dX3_nextHeld_19 : decode cX3_nextHeld 19 = .ok (.lcmp, 1) := by decide +kernel
theorem dX3_nextHeld_20 : decode cX3_nextHeld 20 = .ok (.ifCond .ne 9, 3) := by decide +kernel
theorem dX3_nextHeld_23 : decode cX3_nextHeld 23 = .ok (.iinc 2 1, 3) := by decide +kernel
theorem dX3_nextHeld_26 : decode cX3_nextHeld 26 = .ok (.goto (-24), 3) := by decide +kernel
theorem dX3_nextHeld_29 : decode cX3_nextHeld 29 = .ok (.iload_n 2, 1) := by decide +kernel
theorem dX3_nextHeld_30 : decode cX3_nextHeld 30 = .ok (.ireturn, 1) := by decide +kernel
theorem dX3_nextGap_0 : decode cX3_nextGap 0 = .ok (.iload_n 1, 1) := by decide +kernel
theorem dX3_nextGap_1 : decode cX3_nextGap 1 = .ok (.istore_n 2, 1) := by decide +kernel
theorem dX3_nextGap_2 : decode cX3_nextGap 2 = .ok (.iload_n 2, 1) := by decide +kernel
theorem dX3_nextGap_3 : decode cX3_nextGap 3 = .ok (.aload_n 0, 1) := by decide +kernel
theorem dX3_nextGap_4 : decode cX3_nextGap 4 = .ok (.getfield 22, 3) := by decide +kernel
theorem dX3_nextGap_7 : decode cX3_nextGap 7 = .ok (.if_icmp .ge 22, 3) := by decide +kernel
theorem dX3_nextGap_10 : decode cX3_nextGap 10 = .ok (.aload_n 0, 1) := by decide +kernel
theorem dX3_nextGap_11 : decode cX3_nextGap 11 = .ok (.getfield 31, 3) := by decide +kernel
theorem dX3_nextGap_14 : decode cX3_nextGap 14 = .ok (.iload_n 2, 1) := by decide +kernel
theorem dX3_nextGap_15 : decode cX3_nextGap 15 = .ok (.lushr, 1) := by decide +kernel
theorem dX3_nextGap_16 : decode cX3_nextGap 16 = .ok (.lconst 1, 1) := by decide +kernel
theorem dX3_nextGap_17 : decode cX3_nextGap 17 = .ok (.land, 1) := by decide +kernel
theorem dX3_nextGap_18 : decode cX3_nextGap 18 = .ok (.lconst 0, 1) := by decide +kernel
theorem dX3_nextGap_19 : decode cX3_nextGap 19 = .ok (.lcmp, 1) := by decide +kernel
theorem dX3_nextGap_20 : decode cX3_nextGap 20 = .ok (.ifCond .eq 9, 3) := by decide +kernel
theorem dX3_nextGap_23 : decode cX3_nextGap 23 = .ok (.iinc 2 1, 3) := by decide +kernel
theorem dX3_nextGap_26 : decode cX3_nextGap 26 = .ok (.goto (-24), 3) := by decide +kernel
theorem dX3_nextGap_29 : decode cX3_nextGap 29 = .ok (.iload_n 2, 1) := by decide +kernel
theorem dX3_nextGap_30 : decode cX3_nextGap 30 = .ok (.ireturn, 1) := by decide +kernel
theorem dX3_consumable_0 : decode cX3_consumable 0 = .ok (.aload_n 0, 1) := by decide +kernel
theorem dX3_consumable_1 : decode cX3_consumable 1 = .ok (.getfield 25, 3) := by decide +kernel
theorem dX3_consumable_4 : decode cX3_consumable 4 = .ok (.aload_n 0, 1) := by decide +kernel
theorem dX3_consumable_5 : decode cX3_consumable 5 = .ok (.getfield 19, 3) := by decide +kernel
theorem dX3_consumable_8 : decode cX3_consumable 8 = .ok (.if_icmp .lt 17, 3) := by decide +kernel
theorem dX3_consumable_11 : decode cX3_consumable 11 = .ok (.aload_n 0, 1) := by decide +kernel
theorem dX3_consumable_12 : decode cX3_consumable 12 = .ok (.getfield 25, 3) := by decide +kernel
theorem dX3_consumable_15 : decode cX3_consumable 15 = .ok (.aload_n 0, 1) := by decide +kernel
theorem dX3_consumable_16 : decode cX3_consumable 16 = .ok (.getfield 15, 3) := by decide +kernel
theorem dX3_consumable_19 : decode cX3_consumable 19 = .ok (.invokestatic 51, 3) := by decide +kernel
theorem dX3_consumable_22 : decode cX3_consumable 22 = .ok (.goto 7, 3) := by decide +kernel
theorem dX3_consumable_25 : decode cX3_consumable 25 = .ok (.aload_n 0, 1) := by decide +kernel
theorem dX3_consumable_26 : decode cX3_consumable 26 = .ok (.getfield 15, 3) := by decide +kernel
theorem dX3_consumable_29 : decode cX3_consumable 29 = .ok (.istore_n 1, 1) := by decide +kernel
theorem dX3_consumable_30 : decode cX3_consumable 30 = .ok (.iconst 0, 1) := by decide +kernel
theorem dX3_consumable_31 : decode cX3_consumable 31 = .ok (.iload_n 1, 1) := by decide +kernel
theorem dX3_consumable_32 : decode cX3_consumable 32 = .ok (.aload_n 0, 1) := by decide +kernel
theorem dX3_consumable_33 : decode cX3_consumable 33 = .ok (.getfield 19, 3) := by decide +kernel
theorem dX3_consumable_36 : decode cX3_consumable 36 = .ok (.isub, 1) := by decide +kernel
theorem dX3_consumable_37 : decode cX3_consumable 37 = .ok (.invokestatic 45, 3) := by decide +kernel
theorem dX3_consumable_40 : decode cX3_consumable 40 = .ok (.ireturn, 1) := by decide +kernel
theorem dX3_consume_0 : decode cX3_consume 0 = .ok (.aload_n 0, 1) := by decide +kernel
theorem dX3_consume_1 : decode cX3_consume 1 = .ok (.getfield 9, 3) := by decide +kernel
theorem dX3_consume_4 : decode cX3_consume 4 = .ok (.aload_n 0, 1) := by decide +kernel
theorem dX3_consume_5 : decode cX3_consume 5 = .ok (.getfield 19, 3) := by decide +kernel
theorem dX3_consume_8 : decode cX3_consume 8 = .ok (.bipush 63, 2) := by decide +kernel
theorem dX3_consume_10 : decode cX3_consume 10 = .ok (.iand, 1) := by decide +kernel
theorem dX3_consume_11 : decode cX3_consume 11 = .ok (.iaload, 1) := by decide +kernel
theorem dX3_consume_12 : decode cX3_consume 12 = .ok (.istore_n 1, 1) := by decide +kernel
theorem dX3_consume_13 : decode cX3_consume 13 = .ok (.aload_n 0, 1) := by decide +kernel
theorem dX3_consume_14 : decode cX3_consume 14 = .ok (.dup, 1) := by decide +kernel
theorem dX3_consume_15 : decode cX3_consume 15 = .ok (.getfield 19, 3) := by decide +kernel
theorem dX3_consume_18 : decode cX3_consume 18 = .ok (.iconst 1, 1) := by decide +kernel
theorem dX3_consume_19 : decode cX3_consume 19 = .ok (.iadd, 1) := by decide +kernel
theorem dX3_consume_20 : decode cX3_consume 20 = .ok (.putfield 19, 3) := by decide +kernel
theorem dX3_consume_23 : decode cX3_consume 23 = .ok (.iload_n 1, 1) := by decide +kernel
theorem dX3_consume_24 : decode cX3_consume 24 = .ok (.ireturn, 1) := by decide +kernel
theorem dX4_init_0 : decode cX4_init 0 = .ok (.aload_n 0, 1) := by decide +kernel
theorem dX4_init_1 : decode cX4_init 1 = .ok (.invokespecial 3, 3) := by decide +kernel
theorem dX4_init_4 : decode cX4_init 4 = .ok (.aload_n 0, 1) := by decide +kernel
theorem dX4_init_5 : decode cX4_init 5 = .ok (.new 9, 3) := by decide +kernel
theorem dX4_init_8 : decode cX4_init 8 = .ok (.dup, 1) := by decide +kernel
theorem dX4_init_9 : decode cX4_init 9 = .ok (.invokespecial 11, 3) := by decide +kernel
theorem dX4_init_12 : decode cX4_init 12 = .ok (.putfield 12, 3) := by decide +kernel
theorem dX4_init_15 : decode cX4_init 15 = .ok (.aload_n 0, 1) := by decide +kernel
theorem dX4_init_16 : decode cX4_init 16 = .ok (.new 18, 3) := by decide +kernel
theorem dX4_init_19 : decode cX4_init 19 = .ok (.dup, 1) := by decide +kernel
theorem dX4_init_20 : decode cX4_init 20 = .ok (.invokespecial 20, 3) := by decide +kernel
theorem dX4_init_23 : decode cX4_init 23 = .ok (.putfield 21, 3) := by decide +kernel
theorem dX4_init_26 : decode cX4_init 26 = .ok (.aload_n 0, 1) := by decide +kernel
theorem dX4_init_27 : decode cX4_init 27 = .ok (.new 25, 3) := by decide +kernel
theorem dX4_init_30 : decode cX4_init 30 = .ok (.dup, 1) := by decide +kernel
theorem dX4_init_31 : decode cX4_init 31 = .ok (.invokespecial 27, 3) := by decide +kernel
theorem dX4_init_34 : decode cX4_init 34 = .ok (.putfield 28, 3) := by decide +kernel
theorem dX4_init_37 : decode cX4_init 37 = .ok (.aload_n 0, 1) := by decide +kernel
theorem dX4_init_38 : decode cX4_init 38 = .ok (.new 32, 3) := by decide +kernel
theorem dX4_init_41 : decode cX4_init 41 = .ok (.dup, 1) := by decide +kernel
theorem dX4_init_42 : decode cX4_init 42 = .ok (.iconst 0, 1) := by decide +kernel
theorem dX4_init_43 : decode cX4_init 43 = .ok (.aload_n 0, 1) := by decide +kernel
theorem dX4_init_44 : decode cX4_init 44 = .ok (.getfield 12, 3) := by decide +kernel
theorem dX4_init_47 : decode cX4_init 47 = .ok (.aload_n 0, 1) := by decide +kernel
theorem dX4_init_48 : decode cX4_init 48 = .ok (.getfield 21, 3) := by decide +kernel
theorem dX4_init_51 : decode cX4_init 51 = .ok (.aload_n 0, 1) := by decide +kernel
theorem dX4_init_52 : decode cX4_init 52 = .ok (.getfield 28, 3) := by decide +kernel
theorem dX4_init_55 : decode cX4_init 55 = .ok (.invokespecial 34, 3) := by decide +kernel
theorem dX4_init_58 : decode cX4_init 58 = .ok (.putfield 37, 3) := by decide +kernel
theorem dX4_init_61 : decode cX4_init 61 = .ok (.aload_n 0, 1) := by decide +kernel
theorem dX4_init_62 : decode cX4_init 62 = .ok (.new 32, 3) := by decide +kernel
theorem dX4_init_65 : decode cX4_init 65 = .ok (.dup, 1) := by decide +kernel
theorem dX4_init_66 : decode cX4_init 66 = .ok (.iconst 1, 1) := by decide +kernel
theorem dX4_init_67 : decode cX4_init 67 = .ok (.aload_n 0, 1) := by decide +kernel
theorem dX4_init_68 : decode cX4_init 68 = .ok (.getfield 12, 3) := by decide +kernel
theorem dX4_init_71 : decode cX4_init 71 = .ok (.aload_n 0, 1) := by decide +kernel
theorem dX4_init_72 : decode cX4_init 72 = .ok (.getfield 21, 3) := by decide +kernel
theorem dX4_init_75 : decode cX4_init 75 = .ok (.aload_n 0, 1) := by decide +kernel
theorem dX4_init_76 : decode cX4_init 76 = .ok (.getfield 28, 3) := by decide +kernel
theorem dX4_init_79 : decode cX4_init 79 = .ok (.invokespecial 34, 3) := by decide +kernel
theorem dX4_init_82 : decode cX4_init 82 = .ok (.putfield 41, 3) := by decide +kernel
theorem dX4_init_85 : decode cX4_init 85 = .ok (.aload_n 0, 1) := by decide +kernel
theorem dX4_init_86 : decode cX4_init 86 = .ok (.new 44, 3) := by decide +kernel
theorem dX4_init_89 : decode cX4_init 89 = .ok (.dup, 1) := by decide +kernel
theorem dX4_init_90 : decode cX4_init 90 = .ok (.aload_n 0, 1) := by decide +kernel
theorem dX4_init_91 : decode cX4_init 91 = .ok (.getfield 37, 3) := by decide +kernel
theorem dX4_init_94 : decode cX4_init 94 = .ok (.invokespecial 46, 3) := by decide +kernel
theorem dX4_init_97 : decode cX4_init 97 = .ok (.putfield 49, 3) := by decide +kernel
theorem dX4_init_100 : decode cX4_init 100 = .ok (.aload_n 0, 1) := by decide +kernel
theorem dX4_init_101 : decode cX4_init 101 = .ok (.new 44, 3) := by decide +kernel
theorem dX4_init_104 : decode cX4_init 104 = .ok (.dup, 1) := by decide +kernel
theorem dX4_init_105 : decode cX4_init 105 = .ok (.aload_n 0, 1) := by decide +kernel
theorem dX4_init_106 : decode cX4_init 106 = .ok (.getfield 41, 3) := by decide +kernel
theorem dX4_init_109 : decode cX4_init 109 = .ok (.invokespecial 46, 3) := by decide +kernel
theorem dX4_init_112 : decode cX4_init 112 = .ok (.putfield 53, 3) := by decide +kernel
theorem dX4_init_115 : decode cX4_init 115 = .ok (.return_, 1) := by decide +kernel
theorem dX4_setUp_0 : decode cX4_setUp 0 = .ok (.aload_n 0, 1) := by decide +kernel
theorem dX4_setUp_1 : decode cX4_setUp 1 = .ok (.getfield 12, 3) := by decide +kernel
theorem dX4_setUp_4 : decode cX4_setUp 4 = .ok (.aload_n 1, 1) := by decide +kernel
theorem dX4_setUp_5 : decode cX4_setUp 5 = .ok (.invokevirtual 56, 3) := by decide +kernel
theorem dX4_setUp_8 : decode cX4_setUp 8 = .ok (.aload_n 0, 1) := by decide +kernel
theorem dX4_setUp_9 : decode cX4_setUp 9 = .ok (.getfield 21, 3) := by decide +kernel
theorem dX4_setUp_12 : decode cX4_setUp 12 = .ok (.invokevirtual 60, 3) := by decide +kernel
theorem dX4_setUp_15 : decode cX4_setUp 15 = .ok (.aload_n 0, 1) := by decide +kernel
theorem dX4_setUp_16 : decode cX4_setUp 16 = .ok (.getfield 28, 3) := by decide +kernel
theorem dX4_setUp_19 : decode cX4_setUp 19 = .ok (.iconst 0, 1) := by decide +kernel
theorem dX4_setUp_20 : decode cX4_setUp 20 = .ok (.putfield 63, 3) := by decide +kernel
theorem dX4_setUp_23 : decode cX4_setUp 23 = .ok (.aload_n 0, 1) := by decide +kernel
theorem dX4_setUp_24 : decode cX4_setUp 24 = .ok (.getfield 37, 3) := by decide +kernel
theorem dX4_setUp_27 : decode cX4_setUp 27 = .ok (.invokevirtual 67, 3) := by decide +kernel
theorem dX4_setUp_30 : decode cX4_setUp 30 = .ok (.aload_n 0, 1) := by decide +kernel
theorem dX4_setUp_31 : decode cX4_setUp 31 = .ok (.getfield 41, 3) := by decide +kernel
theorem dX4_setUp_34 : decode cX4_setUp 34 = .ok (.invokevirtual 67, 3) := by decide +kernel
theorem dX4_setUp_37 : decode cX4_setUp 37 = .ok (.aload_n 0, 1) := by decide +kernel
theorem dX4_setUp_38 : decode cX4_setUp 38 = .ok (.bipush (-4), 2) := by decide +kernel
theorem dX4_setUp_40 : decode cX4_setUp 40 = .ok (.putfield 70, 3) := by decide +kernel
theorem dX4_setUp_43 : decode cX4_setUp 43 = .ok (.aload_n 0, 1) := by decide +kernel
theorem dX4_setUp_44 : decode cX4_setUp 44 = .ok (.bipush (-4), 2) := by decide +kernel
theorem dX4_setUp_46 : decode cX4_setUp 46 = .ok (.putfield 73, 3) := by decide +kernel
theorem dX4_setUp_49 : decode cX4_setUp 49 = .ok (.aload_n 0, 1) := by decide +kernel
theorem dX4_setUp_50 : decode cX4_setUp 50 = .ok (.iconst 0, 1) := by decide +kernel
theorem dX4_setUp_51 : decode cX4_setUp 51 = .ok (.putfield 76, 3) := by decide +kernel
theorem dX4_setUp_54 : decode cX4_setUp 54 = .ok (.return_, 1) := by decide +kernel
theorem dX4_copyFrom_0 : decode cX4_copyFrom 0 = .ok (.aload_n 0, 1) := by decide +kernel
theorem dX4_copyFrom_1 : decode cX4_copyFrom 1 = .ok (.getfield 12, 3) := by decide +kernel
theorem dX4_copyFrom_4 : decode cX4_copyFrom 4 = .ok (.aload_n 1, 1) := by decide +kernel
theorem dX4_copyFrom_5 : decode cX4_copyFrom 5 = .ok (.getfield 12, 3) := by decide +kernel
theorem dX4_copyFrom_8 : decode cX4_copyFrom 8 = .ok (.invokevirtual 56, 3) := by decide +kernel
theorem dX4_copyFrom_11 : decode cX4_copyFrom 11 = .ok (.aload_n 0, 1) := by decide +kernel
theorem dX4_copyFrom_12 : decode cX4_copyFrom 12 = .ok (.getfield 21, 3) := by decide +kernel
theorem dX4_copyFrom_15 : decode cX4_copyFrom 15 = .ok (.aload_n 1, 1) := by decide +kernel
theorem dX4_copyFrom_16 : decode cX4_copyFrom 16 = .ok (.getfield 21, 3) := by decide +kernel
theorem dX4_copyFrom_19 : decode cX4_copyFrom 19 = .ok (.invokevirtual 79, 3) := by decide +kernel
theorem dX4_copyFrom_22 : decode cX4_copyFrom 22 = .ok (.aload_n 0, 1) := by decide +kernel
theorem dX4_copyFrom_23 : decode cX4_copyFrom 23 = .ok (.getfield 28, 3) := by decide +kernel
theorem dX4_copyFrom_26 : decode cX4_copyFrom 26 = .ok (.aload_n 1, 1) := by decide +kernel
theorem dX4_copyFrom_27 : decode cX4_copyFrom 27 = .ok (.getfield 28, 3) := by decide +kernel
theorem dX4_copyFrom_30 : decode cX4_copyFrom 30 = .ok (.getfield 63, 3) := by decide +kernel
theorem dX4_copyFrom_33 : decode cX4_copyFrom 33 = .ok (.putfield 63, 3) := by decide +kernel
theorem dX4_copyFrom_36 : decode cX4_copyFrom 36 = .ok (.aload_n 0, 1) := by decide +kernel
theorem dX4_copyFrom_37 : decode cX4_copyFrom 37 = .ok (.getfield 37, 3) := by decide +kernel
theorem dX4_copyFrom_40 : decode cX4_copyFrom 40 = .ok (.aload_n 1, 1) := by decide +kernel
theorem dX4_copyFrom_41 : decode cX4_copyFrom 41 = .ok (.getfield 37, 3) := by decide +kernel
theorem dX4_copyFrom_44 : decode cX4_copyFrom 44 = .ok (.invokevirtual 82, 3) := by decide +kernel
theorem dX4_copyFrom_47 : decode cX4_copyFrom 47 = .ok (.aload_n 0, 1) := by decide +kernel
theorem dX4_copyFrom_48 : decode cX4_copyFrom 48 = .ok (.getfield 41, 3) := by decide +kernel
theorem dX4_copyFrom_51 : decode cX4_copyFrom 51 = .ok (.aload_n 1, 1) := by decide +kernel
theorem dX4_copyFrom_52 : decode cX4_copyFrom 52 = .ok (.getfield 41, 3) := by decide +kernel
theorem dX4_copyFrom_55 : decode cX4_copyFrom 55 = .ok (.invokevirtual 82, 3) := by decide +kernel
theorem dX4_copyFrom_58 : decode cX4_copyFrom 58 = .ok (.aload_n 0, 1) := by decide +kernel
theorem dX4_copyFrom_59 : decode cX4_copyFrom 59 = .ok (.aload_n 1, 1) := by decide +kernel
theorem dX4_copyFrom_60 : decode cX4_copyFrom 60 = .ok (.getfield 70, 3) := by decide +kernel
theorem dX4_copyFrom_63 : decode cX4_copyFrom 63 = .ok (.putfield 70, 3) := by decide +kernel
theorem dX4_copyFrom_66 : decode cX4_copyFrom 66 = .ok (.aload_n 0, 1) := by decide +kernel
theorem dX4_copyFrom_67 : decode cX4_copyFrom 67 = .ok (.aload_n 1, 1) := by decide +kernel
theorem dX4_copyFrom_68 : decode cX4_copyFrom 68 = .ok (.getfield 73, 3) := by decide +kernel
theorem dX4_copyFrom_71 : decode cX4_copyFrom 71 = .ok (.putfield 73, 3) := by decide +kernel
theorem dX4_copyFrom_74 : decode cX4_copyFrom 74 = .ok (.aload_n 0, 1) := by decide +kernel
theorem dX4_copyFrom_75 : decode cX4_copyFrom 75 = .ok (.aload_n 1, 1) := by decide +kernel
theorem dX4_copyFrom_76 : decode cX4_copyFrom 76 = .ok (.getfield 76, 3) := by decide +kernel
theorem dX4_copyFrom_79 : decode cX4_copyFrom 79 = .ok (.putfield 76, 3) := by decide +kernel
theorem dX4_copyFrom_82 : decode cX4_copyFrom 82 = .ok (.return_, 1) := by decide +kernel
theorem dX4_endpoint_0 : decode cX4_endpoint 0 = .ok (.iload_n 1, 1) := by decide +kernel
theorem dX4_endpoint_1 : decode cX4_endpoint 1 = .ok (.ifCond .ne 10, 3) := by decide +kernel
theorem dX4_endpoint_4 : decode cX4_endpoint 4 = .ok (.aload_n 0, 1) := by decide +kernel
theorem dX4_endpoint_5 : decode cX4_endpoint 5 = .ok (.getfield 37, 3) := by decide +kernel
theorem dX4_endpoint_8 : decode cX4_endpoint 8 = .ok (.goto 7, 3) := by decide +kernel
theorem dX4_endpoint_11 : decode cX4_endpoint 11 = .ok (.aload_n 0, 1) := by decide +kernel
theorem dX4_endpoint_12 : decode cX4_endpoint 12 = .ok (.getfield 41, 3) := by decide +kernel
theorem dX4_endpoint_15 : decode cX4_endpoint 15 = .ok (.areturn, 1) := by decide +kernel
theorem dX4_isBusy_0 : decode cX4_isBusy 0 = .ok (.aload_n 0, 1) := by decide +kernel
theorem dX4_isBusy_1 : decode cX4_isBusy 1 = .ok (.getfield 21, 3) := by decide +kernel
theorem dX4_isBusy_4 : decode cX4_isBusy 4 = .ok (.getfield 84, 3) := by decide +kernel
theorem dX4_isBusy_7 : decode cX4_isBusy 7 = .ok (.ifCond .gt 23, 3) := by decide +kernel
theorem dX4_isBusy_10 : decode cX4_isBusy 10 = .ok (.aload_n 0, 1) := by decide +kernel
theorem dX4_isBusy_11 : decode cX4_isBusy 11 = .ok (.getfield 37, 3) := by decide +kernel
theorem dX4_isBusy_14 : decode cX4_isBusy 14 = .ok (.invokevirtual 87, 3) := by decide +kernel
theorem dX4_isBusy_17 : decode cX4_isBusy 17 = .ok (.ifCond .ne 13, 3) := by decide +kernel
theorem dX4_isBusy_20 : decode cX4_isBusy 20 = .ok (.aload_n 0, 1) := by decide +kernel
theorem dX4_isBusy_21 : decode cX4_isBusy 21 = .ok (.getfield 41, 3) := by decide +kernel
theorem dX4_isBusy_24 : decode cX4_isBusy 24 = .ok (.invokevirtual 87, 3) := by decide +kernel
theorem dX4_isBusy_27 : decode cX4_isBusy 27 = .ok (.ifCond .eq 7, 3) := by decide +kernel
theorem dX4_isBusy_30 : decode cX4_isBusy 30 = .ok (.iconst 1, 1) := by decide +kernel
theorem dX4_isBusy_31 : decode cX4_isBusy 31 = .ok (.goto 4, 3) := by decide +kernel
theorem dX4_isBusy_34 : decode cX4_isBusy 34 = .ok (.iconst 0, 1) := by decide +kernel
theorem dX4_isBusy_35 : decode cX4_isBusy 35 = .ok (.ireturn, 1) := by decide +kernel
theorem dX4_deliver_0 : decode cX4_deliver 0 = .ok (.aload_n 0, 1) := by decide +kernel
theorem dX4_deliver_1 : decode cX4_deliver 1 = .ok (.getfield 21, 3) := by decide +kernel
theorem dX4_deliver_4 : decode cX4_deliver 4 = .ok (.iload_n 1, 1) := by decide +kernel
theorem dX4_deliver_5 : decode cX4_deliver 5 = .ok (.invokevirtual 91, 3) := by decide +kernel
theorem dX4_deliver_8 : decode cX4_deliver 8 = .ok (.ifCond .ne 5, 3) := by decide +kernel
theorem dX4_deliver_11 : decode cX4_deliver 11 = .ok (.iconst 0, 1) := by decide +kernel
theorem dX4_deliver_12 : decode cX4_deliver 12 = .ok (.ireturn, 1) := by decide +kernel
theorem dX4_deliver_13 : decode cX4_deliver 13 = .ok (.aload_n 0, 1) := by decide +kernel
theorem dX4_deliver_14 : decode cX4_deliver 14 = .ok (.getfield 21, 3) := by decide +kernel
theorem dX4_deliver_17 : decode cX4_deliver 17 = .ok (.iload_n 1, 1) := by decide +kernel
theorem dX4_deliver_18 : decode cX4_deliver 18 = .ok (.invokevirtual 95, 3) := by decide +kernel
theorem dX4_deliver_21 : decode cX4_deliver 21 = .ok (.astore_n 2, 1) := by decide +kernel
theorem dX4_deliver_22 : decode cX4_deliver 22 = .ok (.aload_n 2, 1) := by decide +kernel
theorem dX4_deliver_23 : decode cX4_deliver 23 = .ok (.getfield 99, 3) := by decide +kernel
theorem dX4_deliver_26 : decode cX4_deliver 26 = .ok (.ifCond .ne 10, 3) := by decide +kernel
theorem dX4_deliver_29 : decode cX4_deliver 29 = .ok (.aload_n 0, 1) := by decide +kernel
theorem dX4_deliver_30 : decode cX4_deliver 30 = .ok (.getfield 53, 3) := by decide +kernel
theorem dX4_deliver_33 : decode cX4_deliver 33 = .ok (.goto 7, 3) := by decide +kernel
theorem dX4_deliver_36 : decode cX4_deliver 36 = .ok (.aload_n 0, 1) := by decide +kernel
theorem dX4_deliver_37 : decode cX4_deliver 37 = .ok (.getfield 49, 3) := by decide +kernel
theorem dX4_deliver_40 : decode cX4_deliver 40 = .ok (.astore_n 3, 1) := by decide +kernel
theorem dX4_deliver_41 : decode cX4_deliver 41 = .ok (.aload_n 3, 1) := by decide +kernel
theorem dX4_deliver_42 : decode cX4_deliver 42 = .ok (.aload_n 2, 1) := by decide +kernel
theorem dX4_deliver_43 : decode cX4_deliver 43 = .ok (.invokevirtual 104, 3) := by decide +kernel
theorem dX4_deliver_46 : decode cX4_deliver 46 = .ok (.aload_n 0, 1) := by decide +kernel
theorem dX4_deliver_47 : decode cX4_deliver 47 = .ok (.aload_n 3, 1) := by decide +kernel
theorem dX4_deliver_48 : decode cX4_deliver 48 = .ok (.getfield 108, 3) := by decide +kernel
theorem dX4_deliver_51 : decode cX4_deliver 51 = .ok (.putfield 70, 3) := by decide +kernel
theorem dX4_deliver_54 : decode cX4_deliver 54 = .ok (.aload_n 0, 1) := by decide +kernel
theorem dX4_deliver_55 : decode cX4_deliver 55 = .ok (.aload_n 3, 1) := by decide +kernel
theorem dX4_deliver_56 : decode cX4_deliver 56 = .ok (.getfield 109, 3) := by decide +kernel
theorem dX4_deliver_59 : decode cX4_deliver 59 = .ok (.putfield 73, 3) := by decide +kernel
theorem dX4_deliver_62 : decode cX4_deliver 62 = .ok (.aload_n 0, 1) := by decide +kernel
theorem dX4_deliver_63 : decode cX4_deliver 63 = .ok (.getfield 70, 3) := by decide +kernel
theorem dX4_deliver_66 : decode cX4_deliver 66 = .ok (.bipush (-4), 2) := by decide +kernel
theorem dX4_deliver_68 : decode cX4_deliver 68 = .ok (.if_icmp .eq 13, 3) := by decide +kernel
theorem dX4_deliver_71 : decode cX4_deliver 71 = .ok (.aload_n 0, 1) := by decide +kernel
theorem dX4_deliver_72 : decode cX4_deliver 72 = .ok (.dup, 1) := by decide +kernel
theorem dX4_deliver_73 : decode cX4_deliver 73 = .ok (.getfield 76, 3) := by decide +kernel
theorem dX4_deliver_76 : decode cX4_deliver 76 = .ok (.iconst 1, 1) := by decide +kernel
theorem dX4_deliver_77 : decode cX4_deliver 77 = .ok (.iadd, 1) := by decide +kernel
theorem dX4_deliver_78 : decode cX4_deliver 78 = .ok (.putfield 76, 3) := by decide +kernel
theorem dX4_deliver_81 : decode cX4_deliver 81 = .ok (.aload_n 0, 1) := by decide +kernel
theorem dX4_deliver_82 : decode cX4_deliver 82 = .ok (.getfield 70, 3) := by decide +kernel
theorem dX4_deliver_85 : decode cX4_deliver 85 = .ok (.bipush (-4), 2) := by decide +kernel
theorem dX4_deliver_87 : decode cX4_deliver 87 = .ok (.if_icmp .ne 7, 3) := by decide +kernel
theorem dX4_deliver_90 : decode cX4_deliver 90 = .ok (.iconst 1, 1) := by decide +kernel
theorem dX4_deliver_91 : decode cX4_deliver 91 = .ok (.goto 4, 3) := by decide +kernel
theorem dX4_deliver_94 : decode cX4_deliver 94 = .ok (.iconst 0, 1) := by decide +kernel
theorem dX4_deliver_95 : decode cX4_deliver 95 = .ok (.ireturn, 1) := by decide +kernel
theorem dX4_tick_0 : decode cX4_tick 0 = .ok (.aload_n 0, 1) := by decide +kernel
theorem dX4_tick_1 : decode cX4_tick 1 = .ok (.getfield 28, 3) := by decide +kernel
theorem dX4_tick_4 : decode cX4_tick 4 = .ok (.dup, 1) := by decide +kernel
theorem dX4_tick_5 : decode cX4_tick 5 = .ok (.getfield 63, 3) := by decide +kernel
theorem dX4_tick_8 : decode cX4_tick 8 = .ok (.iconst 1, 1) := by decide +kernel
theorem dX4_tick_9 : decode cX4_tick 9 = .ok (.iadd, 1) := by decide +kernel
theorem dX4_tick_10 : decode cX4_tick 10 = .ok (.putfield 63, 3) := by decide +kernel
theorem dX4_tick_13 : decode cX4_tick 13 = .ok (.aload_n 0, 1) := by decide +kernel
theorem dX4_tick_14 : decode cX4_tick 14 = .ok (.getfield 37, 3) := by decide +kernel
theorem dX4_tick_17 : decode cX4_tick 17 = .ok (.invokevirtual 110, 3) := by decide +kernel
theorem dX4_tick_20 : decode cX4_tick 20 = .ok (.aload_n 0, 1) := by decide +kernel
theorem dX4_tick_21 : decode cX4_tick 21 = .ok (.getfield 41, 3) := by decide +kernel
theorem dX4_tick_24 : decode cX4_tick 24 = .ok (.invokevirtual 110, 3) := by decide +kernel
theorem dX4_tick_27 : decode cX4_tick 27 = .ok (.return_, 1) := by decide +kernel
theorem dX5_init_0 : decode cX5_init 0 = .ok (.aload_n 0, 1) := by decide +kernel
theorem dX5_init_1 : decode cX5_init 1 = .ok (.invokespecial 3, 3) := by decide +kernel
theorem dX5_init_4 : decode cX5_init 4 = .ok (.aload_n 0, 1) := by decide +kernel
theorem dX5_init_5 : decode cX5_init 5 = .ok (.bipush 64, 2) := by decide +kernel
theorem dX5_init_7 : decode cX5_init 7 = .ok (.newarray .int, 2) := by decide +kernel
theorem dX5_init_9 : decode cX5_init 9 = .ok (.putfield 9, 3) := by decide +kernel
theorem dX5_init_12 : decode cX5_init 12 = .ok (.return_, 1) := by decide +kernel
theorem dX5_start_0 : decode cX5_start 0 = .ok (.aload_n 0, 1) := by decide +kernel
theorem dX5_start_1 : decode cX5_start 1 = .ok (.iconst 0, 1) := by decide +kernel
theorem dX5_start_2 : decode cX5_start 2 = .ok (.putfield 15, 3) := by decide +kernel
theorem dX5_start_5 : decode cX5_start 5 = .ok (.aload_n 0, 1) := by decide +kernel
theorem dX5_start_6 : decode cX5_start 6 = .ok (.iconst 0, 1) := by decide +kernel
theorem dX5_start_7 : decode cX5_start 7 = .ok (.putfield 19, 3) := by decide +kernel
theorem dX5_start_10 : decode cX5_start 10 = .ok (.aload_n 0, 1) := by decide +kernel
theorem dX5_start_11 : decode cX5_start 11 = .ok (.iconst 1, 1) := by decide +kernel
theorem dX5_start_12 : decode cX5_start 12 = .ok (.putfield 22, 3) := by decide +kernel
theorem dX5_start_15 : decode cX5_start 15 = .ok (.aload_n 0, 1) := by decide +kernel
theorem dX5_start_16 : decode cX5_start 16 = .ok (.iconst 0, 1) := by decide +kernel
theorem dX5_start_17 : decode cX5_start 17 = .ok (.putfield 25, 3) := by decide +kernel
theorem dX5_start_20 : decode cX5_start 20 = .ok (.aload_n 0, 1) := by decide +kernel
theorem dX5_start_21 : decode cX5_start 21 = .ok (.iconst 0, 1) := by decide +kernel
theorem dX5_start_22 : decode cX5_start 22 = .ok (.putfield 28, 3) := by decide +kernel
theorem dX5_start_25 : decode cX5_start 25 = .ok (.aload_n 0, 1) := by decide +kernel
theorem dX5_start_26 : decode cX5_start 26 = .ok (.iconst 0, 1) := by decide +kernel
theorem dX5_start_27 : decode cX5_start 27 = .ok (.putfield 31, 3) := by decide +kernel
theorem dX5_start_30 : decode cX5_start 30 = .ok (.aload_n 0, 1) := by decide +kernel
theorem dX5_start_31 : decode cX5_start 31 = .ok (.lconst 0, 1) := by decide +kernel
theorem dX5_start_32 : decode cX5_start 32 = .ok (.putfield 35, 3) := by decide +kernel
theorem dX5_start_35 : decode cX5_start 35 = .ok (.return_, 1) := by decide +kernel
theorem dX5_copyFrom_0 : decode cX5_copyFrom 0 = .ok (.aload_n 0, 1) := by decide +kernel
theorem dX5_copyFrom_1 : decode cX5_copyFrom 1 = .ok (.aload_n 1, 1) := by decide +kernel
theorem dX5_copyFrom_2 : decode cX5_copyFrom 2 = .ok (.getfield 15, 3) := by decide +kernel
theorem dX5_copyFrom_5 : decode cX5_copyFrom 5 = .ok (.putfield 15, 3) := by decide +kernel
theorem dX5_copyFrom_8 : decode cX5_copyFrom 8 = .ok (.aload_n 0, 1) := by decide +kernel
theorem dX5_copyFrom_9 : decode cX5_copyFrom 9 = .ok (.aload_n 1, 1) := by decide +kernel
theorem dX5_copyFrom_10 : decode cX5_copyFrom 10 = .ok (.getfield 19, 3) := by decide +kernel
theorem dX5_copyFrom_13 : decode cX5_copyFrom 13 = .ok (.putfield 19, 3) := by decide +kernel
theorem dX5_copyFrom_16 : decode cX5_copyFrom 16 = .ok (.aload_n 0, 1) := by decide +kernel
theorem dX5_copyFrom_17 : decode cX5_copyFrom 17 = .ok (.aload_n 1, 1) := by decide +kernel
theorem dX5_copyFrom_18 : decode cX5_copyFrom 18 = .ok (.getfield 22, 3) := by decide +kernel
theorem dX5_copyFrom_21 : decode cX5_copyFrom 21 = .ok (.putfield 22, 3) := by decide +kernel
theorem dX5_copyFrom_24 : decode cX5_copyFrom 24 = .ok (.aload_n 0, 1) := by decide +kernel
theorem dX5_copyFrom_25 : decode cX5_copyFrom 25 = .ok (.aload_n 1, 1) := by decide +kernel
theorem dX5_copyFrom_26 : decode cX5_copyFrom 26 = .ok (.getfield 25, 3) := by decide +kernel
theorem dX5_copyFrom_29 : decode cX5_copyFrom 29 = .ok (.putfield 25, 3) := by decide +kernel
theorem dX5_copyFrom_32 : decode cX5_copyFrom 32 = .ok (.aload_n 0, 1) := by decide +kernel
theorem dX5_copyFrom_33 : decode cX5_copyFrom 33 = .ok (.aload_n 1, 1) := by decide +kernel
theorem dX5_copyFrom_34 : decode cX5_copyFrom 34 = .ok (.getfield 28, 3) := by decide +kernel
theorem dX5_copyFrom_37 : decode cX5_copyFrom 37 = .ok (.putfield 28, 3) := by decide +kernel
theorem dX5_copyFrom_40 : decode cX5_copyFrom 40 = .ok (.aload_n 0, 1) := by decide +kernel
theorem dX5_copyFrom_41 : decode cX5_copyFrom 41 = .ok (.aload_n 1, 1) := by decide +kernel
theorem dX5_copyFrom_42 : decode cX5_copyFrom 42 = .ok (.getfield 31, 3) := by decide +kernel
theorem dX5_copyFrom_45 : decode cX5_copyFrom 45 = .ok (.putfield 31, 3) := by decide +kernel
theorem dX5_copyFrom_48 : decode cX5_copyFrom 48 = .ok (.aload_n 0, 1) := by decide +kernel
theorem dX5_copyFrom_49 : decode cX5_copyFrom 49 = .ok (.aload_n 1, 1) := by decide +kernel
theorem dX5_copyFrom_50 : decode cX5_copyFrom 50 = .ok (.getfield 35, 3) := by decide +kernel
theorem dX5_copyFrom_53 : decode cX5_copyFrom 53 = .ok (.putfield 35, 3) := by decide +kernel
theorem dX5_copyFrom_56 : decode cX5_copyFrom 56 = .ok (.aload_n 1, 1) := by decide +kernel
theorem dX5_copyFrom_57 : decode cX5_copyFrom 57 = .ok (.getfield 9, 3) := by decide +kernel
theorem dX5_copyFrom_60 : decode cX5_copyFrom 60 = .ok (.iconst 0, 1) := by decide +kernel
theorem dX5_copyFrom_61 : decode cX5_copyFrom 61 = .ok (.aload_n 0, 1) := by decide +kernel
theorem dX5_copyFrom_62 : decode cX5_copyFrom 62 = .ok (.getfield 9, 3) := by decide +kernel
theorem dX5_copyFrom_65 : decode cX5_copyFrom 65 = .ok (.iconst 0, 1) := by decide +kernel
theorem dX5_copyFrom_66 : decode cX5_copyFrom 66 = .ok (.bipush 64, 2) := by decide +kernel
theorem dX5_copyFrom_68 : decode cX5_copyFrom 68 = .ok (.invokestatic 39, 3) := by decide +kernel
theorem dX5_copyFrom_71 : decode cX5_copyFrom 71 = .ok (.return_, 1) := by decide +kernel
theorem dX5_append_0 : decode cX5_append 0 = .ok (.aload_n 0, 1) := by decide +kernel
theorem dX5_append_1 : decode cX5_append 1 = .ok (.dup, 1) := by decide +kernel
theorem dX5_append_2 : decode cX5_append 2 = .ok (.getfield 25, 3) := by decide +kernel
theorem dX5_append_5 : decode cX5_append 5 = .ok (.iconst 1, 1) := by decide +kernel
theorem dX5_append_6 : decode cX5_append 6 = .ok (.iadd, 1) := by decide +kernel
theorem dX5_append_7 : decode cX5_append 7 = .ok (.putfield 25, 3) := by decide +kernel
theorem dX5_append_10 : decode cX5_append 10 = .ok (.aload_n 0, 1) := by decide +kernel
theorem dX5_append_11 : decode cX5_append 11 = .ok (.getfield 9, 3) := by decide +kernel
theorem dX5_append_14 : decode cX5_append 14 = .ok (.aload_n 0, 1) := by decide +kernel
theorem dX5_append_15 : decode cX5_append 15 = .ok (.getfield 25, 3) := by decide +kernel
theorem dX5_append_18 : decode cX5_append 18 = .ok (.bipush 63, 2) := by decide +kernel
theorem dX5_append_20 : decode cX5_append 20 = .ok (.iand, 1) := by decide +kernel
theorem dX5_append_21 : decode cX5_append 21 = .ok (.iload_n 1, 1) := by decide +kernel
theorem dX5_append_22 : decode cX5_append 22 = .ok (.iastore, 1) := by decide +kernel
theorem dX5_append_23 : decode cX5_append 23 = .ok (.return_, 1) := by decide +kernel
theorem dX5_byteAt_0 : decode cX5_byteAt 0 = .ok (.aload_n 0, 1) := by decide +kernel
theorem dX5_byteAt_1 : decode cX5_byteAt 1 = .ok (.getfield 9, 3) := by decide +kernel
theorem dX5_byteAt_4 : decode cX5_byteAt 4 = .ok (.iload_n 1, 1) := by decide +kernel
theorem dX5_byteAt_5 : decode cX5_byteAt 5 = .ok (.bipush 63, 2) := by decide +kernel
theorem dX5_byteAt_7 : decode cX5_byteAt 7 = .ok (.iand, 1) := by decide +kernel
theorem dX5_byteAt_8 : decode cX5_byteAt 8 = .ok (.iaload, 1) := by decide +kernel
theorem dX5_byteAt_9 : decode cX5_byteAt 9 = .ok (.ireturn, 1) := by decide +kernel
theorem dX5_pending_0 : decode cX5_pending 0 = .ok (.iconst 0, 1) := by decide +kernel
theorem dX5_pending_1 : decode cX5_pending 1 = .ok (.aload_n 0, 1) := by decide +kernel
theorem dX5_pending_2 : decode cX5_pending 2 = .ok (.getfield 25, 3) := by decide +kernel
theorem dX5_pending_5 : decode cX5_pending 5 = .ok (.iconst 1, 1) := by decide +kernel
theorem dX5_pending_6 : decode cX5_pending 6 = .ok (.iadd, 1) := by decide +kernel
theorem dX5_pending_7 : decode cX5_pending 7 = .ok (.iconst 1, 1) := by decide +kernel
theorem dX5_pending_8 : decode cX5_pending 8 = .ok (.aload_n 0, 1) := by decide +kernel
theorem dX5_pending_9 : decode cX5_pending 9 = .ok (.getfield 15, 3) := by decide +kernel
theorem dX5_pending_12 : decode cX5_pending 12 = .ok (.invokestatic 45, 3) := by decide +kernel
theorem dX5_pending_15 : decode cX5_pending 15 = .ok (.isub, 1) := by decide +kernel
theorem dX5_pending_16 : decode cX5_pending 16 = .ok (.invokestatic 45, 3) := by decide +kernel
theorem dX5_pending_19 : decode cX5_pending 19 = .ok (.ireturn, 1) := by decide +kernel
theorem dX5_unsent_0 : decode cX5_unsent 0 = .ok (.iconst 0, 1) := by decide +kernel
theorem dX5_unsent_1 : decode cX5_unsent 1 = .ok (.aload_n 0, 1) := by decide +kernel
theorem dX5_unsent_2 : decode cX5_unsent 2 = .ok (.getfield 25, 3) := by decide +kernel
theorem dX5_unsent_5 : decode cX5_unsent 5 = .ok (.iconst 1, 1) := by decide +kernel
theorem dX5_unsent_6 : decode cX5_unsent 6 = .ok (.iadd, 1) := by decide +kernel
theorem dX5_unsent_7 : decode cX5_unsent 7 = .ok (.iconst 1, 1) := by decide +kernel
theorem dX5_unsent_8 : decode cX5_unsent 8 = .ok (.aload_n 0, 1) := by decide +kernel
theorem dX5_unsent_9 : decode cX5_unsent 9 = .ok (.getfield 19, 3) := by decide +kernel
theorem dX5_unsent_12 : decode cX5_unsent 12 = .ok (.invokestatic 45, 3) := by decide +kernel
theorem dX5_unsent_15 : decode cX5_unsent 15 = .ok (.isub, 1) := by decide +kernel
theorem dX5_unsent_16 : decode cX5_unsent 16 = .ok (.invokestatic 45, 3) := by decide +kernel
theorem dX5_unsent_19 : decode cX5_unsent 19 = .ok (.ireturn, 1) := by decide +kernel
theorem dX5_sendable_0 : decode cX5_sendable 0 = .ok (.iload_n 1, 1) := by decide +kernel
theorem dX5_sendable_1 : decode cX5_sendable 1 = .ok (.aload_n 0, 1) := by decide +kernel
theorem dX5_sendable_2 : decode cX5_sendable 2 = .ok (.invokevirtual 51, 3) := by decide +kernel
theorem dX5_sendable_5 : decode cX5_sendable 5 = .ok (.aload_n 0, 1) := by decide +kernel
theorem dX5_sendable_6 : decode cX5_sendable 6 = .ok (.getfield 22, 3) := by decide +kernel
theorem dX5_sendable_9 : decode cX5_sendable 9 = .ok (.aload_n 0, 1) := by decide +kernel
theorem dX5_sendable_10 : decode cX5_sendable 10 = .ok (.getfield 19, 3) := by decide +kernel
theorem dX5_sendable_13 : decode cX5_sendable 13 = .ok (.isub, 1) := by decide +kernel
theorem dX5_sendable_14 : decode cX5_sendable 14 = .ok (.invokestatic 55, 3) := by decide +kernel
theorem dX5_sendable_17 : decode cX5_sendable 17 = .ok (.invokestatic 55, 3) := by decide +kernel
theorem dX5_sendable_20 : decode cX5_sendable 20 = .ok (.ireturn, 1) := by decide +kernel
theorem dX5_finPlace_0 : decode cX5_finPlace 0 = .ok (.aload_n 0, 1) := by decide +kernel
theorem dX5_finPlace_1 : decode cX5_finPlace 1 = .ok (.getfield 25, 3) := by decide +kernel
theorem dX5_finPlace_4 : decode cX5_finPlace 4 = .ok (.iconst 1, 1) := by decide +kernel
theorem dX5_finPlace_5 : decode cX5_finPlace 5 = .ok (.iadd, 1) := by decide +kernel
theorem dX5_finPlace_6 : decode cX5_finPlace 6 = .ok (.ireturn, 1) := by decide +kernel
theorem dX5_isFinSent_0 : decode cX5_isFinSent 0 = .ok (.aload_n 0, 1) := by decide +kernel
theorem dX5_isFinSent_1 : decode cX5_isFinSent 1 = .ok (.getfield 19, 3) := by decide +kernel
theorem dX5_isFinSent_4 : decode cX5_isFinSent 4 = .ok (.aload_n 0, 1) := by decide +kernel
theorem dX5_isFinSent_5 : decode cX5_isFinSent 5 = .ok (.invokevirtual 58, 3) := by decide +kernel
theorem dX5_isFinSent_8 : decode cX5_isFinSent 8 = .ok (.if_icmp .le 7, 3) := by decide +kernel
theorem dX5_isFinSent_11 : decode cX5_isFinSent 11 = .ok (.iconst 1, 1) := by decide +kernel
theorem dX5_isFinSent_12 : decode cX5_isFinSent 12 = .ok (.goto 4, 3) := by decide +kernel
theorem dX5_isFinSent_15 : decode cX5_isFinSent 15 = .ok (.iconst 0, 1) := by decide +kernel
theorem dX5_isFinSent_16 : decode cX5_isFinSent 16 = .ok (.ireturn, 1) := by decide +kernel
theorem dX5_isFinAcked_0 : decode cX5_isFinAcked 0 = .ok (.aload_n 0, 1) := by decide +kernel
theorem dX5_isFinAcked_1 : decode cX5_isFinAcked 1 = .ok (.getfield 15, 3) := by decide +kernel
theorem dX5_isFinAcked_4 : decode cX5_isFinAcked 4 = .ok (.aload_n 0, 1) := by decide +kernel
theorem dX5_isFinAcked_5 : decode cX5_isFinAcked 5 = .ok (.invokevirtual 58, 3) := by decide +kernel
theorem dX5_isFinAcked_8 : decode cX5_isFinAcked 8 = .ok (.if_icmp .le 7, 3) := by decide +kernel
theorem dX5_isFinAcked_11 : decode cX5_isFinAcked 11 = .ok (.iconst 1, 1) := by decide +kernel
theorem dX5_isFinAcked_12 : decode cX5_isFinAcked 12 = .ok (.goto 4, 3) := by decide +kernel
theorem dX5_isFinAcked_15 : decode cX5_isFinAcked 15 = .ok (.iconst 0, 1) := by decide +kernel
theorem dX5_isFinAcked_16 : decode cX5_isFinAcked 16 = .ok (.ireturn, 1) := by decide +kernel
theorem dX5_isMarked_0 : decode cX5_isMarked 0 = .ok (.iload_n 1, 1) := by decide +kernel
theorem dX5_isMarked_1 : decode cX5_isMarked 1 = .ok (.aload_n 0, 1) := by decide +kernel
theorem dX5_isMarked_2 : decode cX5_isMarked 2 = .ok (.getfield 15, 3) := by decide +kernel
theorem dX5_isMarked_5 : decode cX5_isMarked 5 = .ok (.if_icmp .lt 28, 3) := by decide +kernel
theorem dX5_isMarked_8 : decode cX5_isMarked 8 = .ok (.iload_n 1, 1) := by decide +kernel
theorem dX5_isMarked_9 : decode cX5_isMarked 9 = .ok (.aload_n 0, 1) := by decide +kernel
theorem dX5_isMarked_10 : decode cX5_isMarked 10 = .ok (.getfield 19, 3) := by decide +kernel
theorem dX5_isMarked_13 : decode cX5_isMarked 13 = .ok (.if_icmp .ge 20, 3) := by decide +kernel
theorem dX5_isMarked_16 : decode cX5_isMarked 16 = .ok (.aload_n 0, 1) := by decide +kernel
theorem dX5_isMarked_17 : decode cX5_isMarked 17 = .ok (.getfield 35, 3) := by decide +kernel
theorem dX5_isMarked_20 : decode cX5_isMarked 20 = .ok (.iload_n 1, 1) := by decide +kernel
theorem dX5_isMarked_21 : decode cX5_isMarked 21 = .ok (.lushr, 1) := by decide +kernel
theorem dX5_isMarked_22 : decode cX5_isMarked 22 = .ok (.lconst 1, 1) := by decide +kernel
theorem dX5_isMarked_23 : decode cX5_isMarked 23 = .ok (.land, 1) := by decide +kernel
theorem dX5_isMarked_24 : decode cX5_isMarked 24 = .ok (.lconst 0, 1) := by decide +kernel
theorem dX5_isMarked_25 : decode cX5_isMarked 25 = .ok (.lcmp, 1) := by decide +kernel
theorem dX5_isMarked_26 : decode cX5_isMarked 26 = .ok (.ifCond .eq 7, 3) := by decide +kernel
theorem dX5_isMarked_29 : decode cX5_isMarked 29 = .ok (.iconst 1, 1) := by decide +kernel
theorem dX5_isMarked_30 : decode cX5_isMarked 30 = .ok (.goto 4, 3) := by decide +kernel
theorem dX5_isMarked_33 : decode cX5_isMarked 33 = .ok (.iconst 0, 1) := by decide +kernel
theorem dX5_isMarked_34 : decode cX5_isMarked 34 = .ok (.ireturn, 1) := by decide +kernel
theorem dX5_mark_0 : decode cX5_mark 0 = .ok (.iload_n 2, 1) := by decide +kernel
theorem dX5_mark_1 : decode cX5_mark 1 = .ok (.aload_n 0, 1) := by decide +kernel
theorem dX5_mark_2 : decode cX5_mark 2 = .ok (.getfield 19, 3) := by decide +kernel
theorem dX5_mark_5 : decode cX5_mark 5 = .ok (.invokestatic 55, 3) := by decide +kernel
theorem dX5_mark_8 : decode cX5_mark 8 = .ok (.istore_n 3, 1) := by decide +kernel
theorem dX5_mark_9 : decode cX5_mark 9 = .ok (.iload_n 1, 1) := by decide +kernel
theorem dX5_mark_10 : decode cX5_mark 10 = .ok (.aload_n 0, 1) := by decide +kernel
theorem dX5_mark_11 : decode cX5_mark 11 = .ok (.getfield 15, 3) := by decide +kernel
theorem dX5_mark_14 : decode cX5_mark 14 = .ok (.invokestatic 45, 3) := by decide +kernel
theorem dX5_mark_17 : decode cX5_mark 17 = .ok (.istore 4, 2) := by decide +kernel
theorem dX5_mark_19 : decode cX5_mark 19 = .ok (.iload 4, 2) := by decide +kernel
theorem dX5_mark_21 : decode cX5_mark 21 = .ok (.iload_n 3, 1) := by decide +kernel
theorem dX5_mark_22 : decode cX5_mark 22 = .ok (.if_icmp .ge 22, 3) := by decide +kernel
theorem dX5_mark_25 : decode cX5_mark 25 = .ok (.aload_n 0, 1) := by decide +kernel
theorem dX5_mark_26 : decode cX5_mark 26 = .ok (.dup, 1) := by decide +kernel
theorem dX5_mark_27 : decode cX5_mark 27 = .ok (.getfield 35, 3) := by decide +kernel
theorem dX5_mark_30 : decode cX5_mark 30 = .ok (.lconst 1, 1) := by decide +kernel
theorem dX5_mark_31 : decode cX5_mark 31 = .ok (.iload 4, 2) := by decide +kernel
theorem dX5_mark_33 : decode cX5_mark 33 = .ok (.lshl, 1) := by decide +kernel
theorem dX5_mark_34 : decode cX5_mark 34 = .ok (.lor, 1) := by decide +kernel
theorem dX5_mark_35 : decode cX5_mark 35 = .ok (.putfield 35, 3) := by decide +kernel
theorem dX5_mark_38 : decode cX5_mark 38 = .ok (.iinc 4 1, 3) := by decide +kernel
theorem dX5_mark_41 : decode cX5_mark 41 = .ok (.goto (-22), 3) := by decide +kernel
theorem dX5_mark_44 : decode cX5_mark 44 = .ok (.return_, 1) := by decide +kernel
theorem dX5_acknowledge_0 : decode cX5_acknowledge 0 = .ok (.aload_n 0, 1) := by decide +kernel
theorem dX5_acknowledge_1 : decode cX5_acknowledge 1 = .ok (.getfield 15, 3) := by decide +kernel
theorem dX5_acknowledge_4 : decode cX5_acknowledge 4 = .ok (.istore_n 2, 1) := by decide +kernel
theorem dX5_acknowledge_5 : decode cX5_acknowledge 5 = .ok (.iload_n 2, 1) := by decide +kernel
theorem dX5_acknowledge_6 : decode cX5_acknowledge 6 = .ok (.iload_n 1, 1) := by decide +kernel
theorem dX5_acknowledge_7 : decode cX5_acknowledge 7 = .ok (.if_icmp .ge 25, 3) := by decide +kernel
theorem dX5_acknowledge_10 : decode cX5_acknowledge 10 = .ok (.aload_n 0, 1) := by decide +kernel
theorem dX5_acknowledge_11 : decode cX5_acknowledge 11 = .ok (.dup, 1) := by decide +kernel
theorem dX5_acknowledge_12 : decode cX5_acknowledge 12 = .ok (.getfield 35, 3) := by decide +kernel
theorem dX5_acknowledge_15 : decode cX5_acknowledge 15 = .ok (.lconst 1, 1) := by decide +kernel
theorem dX5_acknowledge_16 : decode cX5_acknowledge 16 = .ok (.iload_n 2, 1) := by decide +kernel
theorem dX5_acknowledge_17 : decode cX5_acknowledge 17 = .ok (.lshl, 1) := by decide +kernel
theorem dX5_acknowledge_18 : decode cX5_acknowledge 18 = .ok (.ldc2_w 61, 3) := by decide +kernel
theorem dX5_acknowledge_21 : decode cX5_acknowledge 21 = .ok (.lxor, 1) := by decide +kernel
theorem dX5_acknowledge_22 : decode cX5_acknowledge 22 = .ok (.land, 1) := by decide +kernel
theorem dX5_acknowledge_23 : decode cX5_acknowledge 23 = .ok (.putfield 35, 3) := by decide +kernel
theorem dX5_acknowledge_26 : decode cX5_acknowledge 26 = .ok (.iinc 2 1, 3) := by decide +kernel
theorem dX5_acknowledge_29 : decode cX5_acknowledge 29 = .ok (.goto (-24), 3) := by decide +kernel
theorem dX5_acknowledge_32 : decode cX5_acknowledge 32 = .ok (.aload_n 0, 1) := by decide +kernel
theorem dX5_acknowledge_33 : decode cX5_acknowledge 33 = .ok (.iload_n 1, 1) := by decide +kernel
theorem dX5_acknowledge_34 : decode cX5_acknowledge 34 = .ok (.putfield 15, 3) := by decide +kernel
theorem dX5_acknowledge_37 : decode cX5_acknowledge 37 = .ok (.return_, 1) := by decide +kernel
theorem dX5_firstUnmarked_0 : decode cX5_firstUnmarked 0 = .ok (.aload_n 0, 1) := by decide +kernel
theorem dX5_firstUnmarked_1 : decode cX5_firstUnmarked 1 = .ok (.getfield 15, 3) := by decide +kernel
theorem dX5_firstUnmarked_4 : decode cX5_firstUnmarked 4 = .ok (.istore_n 1, 1) := by decide +kernel
theorem dX5_firstUnmarked_5 : decode cX5_firstUnmarked 5 = .ok (.iload_n 1, 1) := by decide +kernel
theorem dX5_firstUnmarked_6 : decode cX5_firstUnmarked 6 = .ok (.aload_n 0, 1) := by decide +kernel
theorem dX5_firstUnmarked_7 : decode cX5_firstUnmarked 7 = .ok (.getfield 19, 3) := by decide +kernel
theorem dX5_firstUnmarked_10 : decode cX5_firstUnmarked 10 = .ok (.if_icmp .ge 17, 3) := by decide +kernel
theorem dX5_firstUnmarked_13 : decode cX5_firstUnmarked 13 = .ok (.aload_n 0, 1) := by decide +kernel
theorem dX5_firstUnmarked_14 : decode cX5_firstUnmarked 14 = .ok (.iload_n 1, 1) := by decide +kernel
theorem dX5_firstUnmarked_15 : decode cX5_firstUnmarked 15 = .ok (.invokevirtual 63, 3) := by decide +kernel
theorem dX5_firstUnmarked_18 : decode cX5_firstUnmarked 18 = .ok (.ifCond .eq 9, 3) := by decide +kernel
theorem dX5_firstUnmarked_21 : decode cX5_firstUnmarked 21 = .ok (.iinc 1 1, 3) := by decide +kernel
theorem dX5_firstUnmarked_24 : decode cX5_firstUnmarked 24 = .ok (.goto (-19), 3) := by decide +kernel
theorem dX5_firstUnmarked_27 : decode cX5_firstUnmarked 27 = .ok (.iload_n 1, 1) := by decide +kernel
theorem dX5_firstUnmarked_28 : decode cX5_firstUnmarked 28 = .ok (.ireturn, 1) := by decide +kernel
theorem dX5_resendable_0 : decode cX5_resendable 0 = .ok (.iconst 0, 1) := by decide +kernel
theorem dX5_resendable_1 : decode cX5_resendable 1 = .ok (.istore_n 3, 1) := by decide +kernel
theorem dX5_resendable_2 : decode cX5_resendable 2 = .ok (.iload_n 3, 1) := by decide +kernel
theorem dX5_resendable_3 : decode cX5_resendable 3 = .ok (.iload_n 2, 1) := by decide +kernel
theorem dX5_resendable_4 : decode cX5_resendable 4 = .ok (.if_icmp .ge 39, 3) := by decide +kernel
theorem dX5_resendable_7 : decode cX5_resendable 7 = .ok (.iload_n 1, 1) := by decide +kernel
theorem dX5_resendable_8 : decode cX5_resendable 8 = .ok (.iload_n 3, 1) := by decide +kernel
theorem dX5_resendable_9 : decode cX5_resendable 9 = .ok (.iadd, 1) := by decide +kernel
theorem dX5_resendable_10 : decode cX5_resendable 10 = .ok (.aload_n 0, 1) := by decide +kernel
theorem dX5_resendable_11 : decode cX5_resendable 11 = .ok (.getfield 19, 3) := by decide +kernel
theorem dX5_resendable_14 : decode cX5_resendable 14 = .ok (.if_icmp .ge 29, 3) := by decide +kernel
theorem dX5_resendable_17 : decode cX5_resendable 17 = .ok (.iload_n 1, 1) := by decide +kernel
theorem dX5_resendable_18 : decode cX5_resendable 18 = .ok (.iload_n 3, 1) := by decide +kernel
theorem dX5_resendable_19 : decode cX5_resendable 19 = .ok (.iadd, 1) := by decide +kernel
theorem dX5_resendable_20 : decode cX5_resendable 20 = .ok (.aload_n 0, 1) := by decide +kernel
theorem dX5_resendable_21 : decode cX5_resendable 21 = .ok (.getfield 25, 3) := by decide +kernel
theorem dX5_resendable_24 : decode cX5_resendable 24 = .ok (.if_icmp .gt 19, 3) := by decide +kernel
theorem dX5_resendable_27 : decode cX5_resendable 27 = .ok (.aload_n 0, 1) := by decide +kernel
theorem dX5_resendable_28 : decode cX5_resendable 28 = .ok (.iload_n 1, 1) := by decide +kernel
theorem dX5_resendable_29 : decode cX5_resendable 29 = .ok (.iload_n 3, 1) := by decide +kernel
theorem dX5_resendable_30 : decode cX5_resendable 30 = .ok (.iadd, 1) := by decide +kernel
theorem dX5_resendable_31 : decode cX5_resendable 31 = .ok (.invokevirtual 63, 3) := by decide +kernel
theorem dX5_resendable_34 : decode cX5_resendable 34 = .ok (.ifCond .ne 9, 3) := by decide +kernel
theorem dX5_resendable_37 : decode cX5_resendable 37 = .ok (.iinc 3 1, 3) := by decide +kernel
theorem dX5_resendable_40 : decode cX5_resendable 40 = .ok (.goto (-38), 3) := by decide +kernel
theorem dX5_resendable_43 : decode cX5_resendable 43 = .ok (.iload_n 3, 1) := by decide +kernel
theorem dX5_resendable_44 : decode cX5_resendable 44 = .ok (.ireturn, 1) := by decide +kernel
theorem dX6_init_0 : decode cX6_init 0 = .ok (.aload_n 0, 1) := by decide +kernel
theorem dX6_init_1 : decode cX6_init 1 = .ok (.invokespecial 3, 3) := by decide +kernel
theorem dX6_init_4 : decode cX6_init 4 = .ok (.aload_n 0, 1) := by decide +kernel
theorem dX6_init_5 : decode cX6_init 5 = .ok (.bipush (-4), 2) := by decide +kernel
theorem dX6_init_7 : decode cX6_init 7 = .ok (.putfield 9, 3) := by decide +kernel
theorem dX6_init_10 : decode cX6_init 10 = .ok (.aload_n 0, 1) := by decide +kernel
theorem dX6_init_11 : decode cX6_init 11 = .ok (.bipush (-4), 2) := by decide +kernel
theorem dX6_init_13 : decode cX6_init 13 = .ok (.putfield 15, 3) := by decide +kernel
theorem dX6_init_16 : decode cX6_init 16 = .ok (.aload_n 0, 1) := by decide +kernel
theorem dX6_init_17 : decode cX6_init 17 = .ok (.aload_n 1, 1) := by decide +kernel
theorem dX6_init_18 : decode cX6_init 18 = .ok (.putfield 18, 3) := by decide +kernel
theorem dX6_init_21 : decode cX6_init 21 = .ok (.return_, 1) := by decide +kernel
theorem dX6_receive_0 : decode cX6_receive 0 = .ok (.aload_n 0, 1) := by decide +kernel
theorem dX6_receive_1 : decode cX6_receive 1 = .ok (.bipush (-4), 2) := by decide +kernel
theorem dX6_receive_3 : decode cX6_receive 3 = .ok (.putfield 9, 3) := by decide +kernel
theorem dX6_receive_6 : decode cX6_receive 6 = .ok (.aload_n 0, 1) := by decide +kernel
theorem dX6_receive_7 : decode cX6_receive 7 = .ok (.bipush (-4), 2) := by decide +kernel
theorem dX6_receive_9 : decode cX6_receive 9 = .ok (.putfield 15, 3) := by decide +kernel
theorem dX6_receive_12 : decode cX6_receive 12 = .ok (.aload_n 0, 1) := by decide +kernel
theorem dX6_receive_13 : decode cX6_receive 13 = .ok (.getfield 18, 3) := by decide +kernel
theorem dX6_receive_16 : decode cX6_receive 16 = .ok (.getfield 22, 3) := by decide +kernel
theorem dX6_receive_19 : decode cX6_receive 19 = .ok (.tableswitch 49 0 2 #[25, 33, 41], 25) := by decide +kernel
theorem dX6_receive_44 : decode cX6_receive 44 = .ok (.aload_n 0, 1) := by decide +kernel
theorem dX6_receive_45 : decode cX6_receive 45 = .ok (.aload_n 1, 1) := by decide +kernel
theorem dX6_receive_46 : decode cX6_receive 46 = .ok (.invokevirtual 27, 3) := by decide +kernel
theorem dX6_receive_49 : decode cX6_receive 49 = .ok (.goto 24, 3) := by decide +kernel
theorem dX6_receive_52 : decode cX6_receive 52 = .ok (.aload_n 0, 1) := by decide +kernel
theorem dX6_receive_53 : decode cX6_receive 53 = .ok (.aload_n 1, 1) := by decide +kernel
theorem dX6_receive_54 : decode cX6_receive 54 = .ok (.invokevirtual 31, 3) := by decide +kernel
theorem dX6_receive_57 : decode cX6_receive 57 = .ok (.goto 16, 3) := by decide +kernel
theorem dX6_receive_60 : decode cX6_receive 60 = .ok (.aload_n 0, 1) := by decide +kernel
theorem dX6_receive_61 : decode cX6_receive 61 = .ok (.aload_n 1, 1) := by decide +kernel
theorem dX6_receive_62 : decode cX6_receive 62 = .ok (.invokevirtual 34, 3) := by decide +kernel
theorem dX6_receive_65 : decode cX6_receive 65 = .ok (.goto 8, 3) := by decide +kernel
theorem dX6_receive_68 : decode cX6_receive 68 = .ok (.aload_n 0, 1) := by decide +kernel
theorem dX6_receive_69 : decode cX6_receive 69 = .ok (.aload_n 1, 1) := by decide +kernel
theorem dX6_receive_70 : decode cX6_receive 70 = .ok (.invokevirtual 37, 3) := by decide +kernel
theorem dX6_receive_73 : decode cX6_receive 73 = .ok (.aload_n 0, 1) := by decide +kernel
theorem dX6_receive_74 : decode cX6_receive 74 = .ok (.getfield 18, 3) := by decide +kernel
theorem dX6_receive_77 : decode cX6_receive 77 = .ok (.invokevirtual 40, 3) := by decide +kernel
theorem dX6_receive_80 : decode cX6_receive 80 = .ok (.return_, 1) := by decide +kernel
theorem dX6_receiveClosed_0 : decode cX6_receiveClosed 0 = .ok (.aload_n 0, 1) := by decide +kernel
theorem dX6_receiveClosed_1 : decode cX6_receiveClosed 1 = .ok (.iconst 1, 1) := by decide +kernel
theorem dX6_receiveClosed_2 : decode cX6_receiveClosed 2 = .ok (.putfield 9, 3) := by decide +kernel
theorem dX6_receiveClosed_5 : decode cX6_receiveClosed 5 = .ok (.aload_n 1, 1) := by decide +kernel
theorem dX6_receiveClosed_6 : decode cX6_receiveClosed 6 = .ok (.bipush 8, 2) := by decide +kernel
theorem dX6_receiveClosed_8 : decode cX6_receiveClosed 8 = .ok (.invokevirtual 43, 3) := by decide +kernel
theorem dX6_receiveClosed_11 : decode cX6_receiveClosed 11 = .ok (.ifCond .ne 11, 3) := by decide +kernel
theorem dX6_receiveClosed_14 : decode cX6_receiveClosed 14 = .ok (.aload_n 0, 1) := by decide +kernel
theorem dX6_receiveClosed_15 : decode cX6_receiveClosed 15 = .ok (.getfield 18, 3) := by decide +kernel
theorem dX6_receiveClosed_18 : decode cX6_receiveClosed 18 = .ok (.aload_n 1, 1) := by decide +kernel
theorem dX6_receiveClosed_19 : decode cX6_receiveClosed 19 = .ok (.invokevirtual 49, 3) := by decide +kernel
theorem dX6_receiveClosed_22 : decode cX6_receiveClosed 22 = .ok (.return_, 1) := by decide +kernel
theorem dX6_receiveListening_0 : decode cX6_receiveListening 0 = .ok (.aload_n 1, 1) := by decide +kernel
theorem dX6_receiveListening_1 : decode cX6_receiveListening 1 = .ok (.bipush 8, 2) := by decide +kernel
theorem dX6_receiveListening_3 : decode cX6_receiveListening 3 = .ok (.invokevirtual 43, 3) := by decide +kernel
theorem dX6_receiveListening_6 : decode cX6_receiveListening 6 = .ok (.ifCond .eq 11, 3) := by decide +kernel
theorem dX6_receiveListening_9 : decode cX6_receiveListening 9 = .ok (.aload_n 0, 1) := by decide +kernel
theorem dX6_receiveListening_10 : decode cX6_receiveListening 10 = .ok (.iconst 2, 1) := by decide +kernel
theorem dX6_receiveListening_11 : decode cX6_receiveListening 11 = .ok (.putfield 9, 3) := by decide +kernel
theorem dX6_receiveListening_14 : decode cX6_receiveListening 14 = .ok (.goto 69, 3) := by decide +kernel
theorem dX6_receiveListening_17 : decode cX6_receiveListening 17 = .ok (.aload_n 1, 1) := by decide +kernel
theorem dX6_receiveListening_18 : decode cX6_receiveListening 18 = .ok (.iconst 4, 1) := by decide +kernel
theorem dX6_receiveListening_19 : decode cX6_receiveListening 19 = .ok (.invokevirtual 43, 3) := by decide +kernel
theorem dX6_receiveListening_22 : decode cX6_receiveListening 22 = .ok (.ifCond .eq 19, 3) := by decide +kernel
theorem dX6_receiveListening_25 : decode cX6_receiveListening 25 = .ok (.aload_n 0, 1) := by decide +kernel
theorem dX6_receiveListening_26 : decode cX6_receiveListening 26 = .ok (.iconst 3, 1) := by decide +kernel
theorem dX6_receiveListening_27 : decode cX6_receiveListening 27 = .ok (.putfield 9, 3) := by decide +kernel
theorem dX6_receiveListening_30 : decode cX6_receiveListening 30 = .ok (.aload_n 0, 1) := by decide +kernel
theorem dX6_receiveListening_31 : decode cX6_receiveListening 31 = .ok (.getfield 18, 3) := by decide +kernel
theorem dX6_receiveListening_34 : decode cX6_receiveListening 34 = .ok (.aload_n 1, 1) := by decide +kernel
theorem dX6_receiveListening_35 : decode cX6_receiveListening 35 = .ok (.invokevirtual 49, 3) := by decide +kernel
theorem dX6_receiveListening_38 : decode cX6_receiveListening 38 = .ok (.goto 45, 3) := by decide +kernel
theorem dX6_receiveListening_41 : decode cX6_receiveListening 41 = .ok (.aload_n 1, 1) := by decide +kernel
theorem dX6_receiveListening_42 : decode cX6_receiveListening 42 = .ok (.iconst 1, 1) := by decide +kernel
theorem dX6_receiveListening_43 : decode cX6_receiveListening 43 = .ok (.invokevirtual 43, 3) := by decide +kernel
theorem dX6_receiveListening_46 : decode cX6_receiveListening 46 = .ok (.ifCond .ne 11, 3) := by decide +kernel
theorem dX6_receiveListening_49 : decode cX6_receiveListening 49 = .ok (.aload_n 0, 1) := by decide +kernel
theorem dX6_receiveListening_50 : decode cX6_receiveListening 50 = .ok (.iconst 4, 1) := by decide +kernel
theorem dX6_receiveListening_51 : decode cX6_receiveListening 51 = .ok (.putfield 9, 3) := by decide +kernel
theorem dX6_receiveListening_54 : decode cX6_receiveListening 54 = .ok (.goto 29, 3) := by decide +kernel
theorem dX6_receiveListening_57 : decode cX6_receiveListening 57 = .ok (.aload_n 0, 1) := by decide +kernel
theorem dX6_receiveListening_58 : decode cX6_receiveListening 58 = .ok (.getfield 18, 3) := by decide +kernel
theorem dX6_receiveListening_61 : decode cX6_receiveListening 61 = .ok (.getfield 52, 3) := by decide +kernel
theorem dX6_receiveListening_64 : decode cX6_receiveListening 64 = .ok (.iconst 1, 1) := by decide +kernel
theorem dX6_receiveListening_65 : decode cX6_receiveListening 65 = .ok (.putfield 56, 3) := by decide +kernel
theorem dX6_receiveListening_68 : decode cX6_receiveListening 68 = .ok (.aload_n 0, 1) := by decide +kernel
theorem dX6_receiveListening_69 : decode cX6_receiveListening 69 = .ok (.getfield 18, 3) := by decide +kernel
theorem dX6_receiveListening_72 : decode cX6_receiveListening 72 = .ok (.iconst 3, 1) := by decide +kernel
theorem dX6_receiveListening_73 : decode cX6_receiveListening 73 = .ok (.putfield 22, 3) := by decide +kernel
theorem dX6_receiveListening_76 : decode cX6_receiveListening 76 = .ok (.aload_n 0, 1) := by decide +kernel
theorem dX6_receiveListening_77 : decode cX6_receiveListening 77 = .ok (.getfield 18, 3) := by decide +kernel
theorem dX6_receiveListening_80 : decode cX6_receiveListening 80 = .ok (.invokevirtual 61, 3) := by decide +kernel
theorem dX6_receiveListening_83 : decode cX6_receiveListening 83 = .ok (.return_, 1) := by decide +kernel
theorem dX6_receiveConnecting_0 : decode cX6_receiveConnecting 0 = .ok (.aload_n 1, 1) := by decide +kernel
theorem dX6_receiveConnecting_1 : decode cX6_receiveConnecting 1 = .ok (.iconst 4, 1) := by decide +kernel
theorem dX6_receiveConnecting_2 : decode cX6_receiveConnecting 2 = .ok (.invokevirtual 43, 3) := by decide +kernel
theorem dX6_receiveConnecting_5 : decode cX6_receiveConnecting 5 = .ok (.ifCond .eq 48, 3) := by decide +kernel
theorem dX6_receiveConnecting_8 : decode cX6_receiveConnecting 8 = .ok (.aload_n 0, 1) := by decide +kernel
theorem dX6_receiveConnecting_9 : decode cX6_receiveConnecting 9 = .ok (.aload_n 1, 1) := by decide +kernel
theorem dX6_receiveConnecting_10 : decode cX6_receiveConnecting 10 = .ok (.getfield 64, 3) := by decide +kernel
theorem dX6_receiveConnecting_13 : decode cX6_receiveConnecting 13 = .ok (.invokevirtual 67, 3) := by decide +kernel
theorem dX6_receiveConnecting_16 : decode cX6_receiveConnecting 16 = .ok (.iconst 1, 1) := by decide +kernel
theorem dX6_receiveConnecting_17 : decode cX6_receiveConnecting 17 = .ok (.if_icmp .eq 36, 3) := by decide +kernel
theorem dX6_receiveConnecting_20 : decode cX6_receiveConnecting 20 = .ok (.aload_n 0, 1) := by decide +kernel
theorem dX6_receiveConnecting_21 : decode cX6_receiveConnecting 21 = .ok (.iconst 5, 1) := by decide +kernel
theorem dX6_receiveConnecting_22 : decode cX6_receiveConnecting 22 = .ok (.putfield 9, 3) := by decide +kernel
theorem dX6_receiveConnecting_25 : decode cX6_receiveConnecting 25 = .ok (.aload_n 1, 1) := by decide +kernel
theorem dX6_receiveConnecting_26 : decode cX6_receiveConnecting 26 = .ok (.bipush 8, 2) := by decide +kernel
theorem dX6_receiveConnecting_28 : decode cX6_receiveConnecting 28 = .ok (.invokevirtual 43, 3) := by decide +kernel
theorem dX6_receiveConnecting_31 : decode cX6_receiveConnecting 31 = .ok (.ifCond .eq 11, 3) := by decide +kernel
theorem dX6_receiveConnecting_34 : decode cX6_receiveConnecting 34 = .ok (.aload_n 0, 1) := by decide +kernel
theorem dX6_receiveConnecting_35 : decode cX6_receiveConnecting 35 = .ok (.iconst 2, 1) := by decide +kernel
theorem dX6_receiveConnecting_36 : decode cX6_receiveConnecting 36 = .ok (.putfield 15, 3) := by decide +kernel
theorem dX6_receiveConnecting_39 : decode cX6_receiveConnecting 39 = .ok (.goto 130, 3) := by decide +kernel
theorem dX6_receiveConnecting_42 : decode cX6_receiveConnecting 42 = .ok (.aload_n 0, 1) := by decide +kernel
theorem dX6_receiveConnecting_43 : decode cX6_receiveConnecting 43 = .ok (.getfield 18, 3) := by decide +kernel
theorem dX6_receiveConnecting_46 : decode cX6_receiveConnecting 46 = .ok (.aload_n 1, 1) := by decide +kernel
theorem dX6_receiveConnecting_47 : decode cX6_receiveConnecting 47 = .ok (.invokevirtual 49, 3) := by decide +kernel
theorem dX6_receiveConnecting_50 : decode cX6_receiveConnecting 50 = .ok (.goto 119, 3) := by decide +kernel
theorem dX6_receiveConnecting_53 : decode cX6_receiveConnecting 53 = .ok (.aload_n 1, 1) := by decide +kernel
theorem dX6_receiveConnecting_54 : decode cX6_receiveConnecting 54 = .ok (.bipush 8, 2) := by decide +kernel
theorem dX6_receiveConnecting_56 : decode cX6_receiveConnecting 56 = .ok (.invokevirtual 43, 3) := by decide +kernel
theorem dX6_receiveConnecting_59 : decode cX6_receiveConnecting 59 = .ok (.ifCond .eq 29, 3) := by decide +kernel
theorem dX6_receiveConnecting_62 : decode cX6_receiveConnecting 62 = .ok (.aload_n 1, 1) := by decide +kernel
theorem dX6_receiveConnecting_63 : decode cX6_receiveConnecting 63 = .ok (.iconst 4, 1) := by decide +kernel
theorem dX6_receiveConnecting_64 : decode cX6_receiveConnecting 64 = .ok (.invokevirtual 43, 3) := by decide +kernel
theorem dX6_receiveConnecting_67 : decode cX6_receiveConnecting 67 = .ok (.ifCond .eq 13, 3) := by decide +kernel
theorem dX6_receiveConnecting_70 : decode cX6_receiveConnecting 70 = .ok (.aload_n 0, 1) := by decide +kernel
theorem dX6_receiveConnecting_71 : decode cX6_receiveConnecting 71 = .ok (.getfield 18, 3) := by decide +kernel
theorem dX6_receiveConnecting_74 : decode cX6_receiveConnecting 74 = .ok (.invokevirtual 71, 3) := by decide +kernel
theorem dX6_receiveConnecting_77 : decode cX6_receiveConnecting 77 = .ok (.goto 92, 3) := by decide +kernel
theorem dX6_receiveConnecting_80 : decode cX6_receiveConnecting 80 = .ok (.aload_n 0, 1) := by decide +kernel
theorem dX6_receiveConnecting_81 : decode cX6_receiveConnecting 81 = .ok (.iconst 2, 1) := by decide +kernel
theorem dX6_receiveConnecting_82 : decode cX6_receiveConnecting 82 = .ok (.putfield 9, 3) := by decide +kernel
theorem dX6_receiveConnecting_85 : decode cX6_receiveConnecting 85 = .ok (.goto 84, 3) := by decide +kernel
theorem dX6_receiveConnecting_88 : decode cX6_receiveConnecting 88 = .ok (.aload_n 1, 1) := by decide +kernel
theorem dX6_receiveConnecting_89 : decode cX6_receiveConnecting 89 = .ok (.iconst 1, 1) := by decide +kernel
theorem dX6_receiveConnecting_90 : decode cX6_receiveConnecting 90 = .ok (.invokevirtual 43, 3) := by decide +kernel
theorem dX6_receiveConnecting_93 : decode cX6_receiveConnecting 93 = .ok (.ifCond .ne 11, 3) := by decide +kernel
theorem dX6_receiveConnecting_96 : decode cX6_receiveConnecting 96 = .ok (.aload_n 0, 1) := by decide +kernel
theorem dX6_receiveConnecting_97 : decode cX6_receiveConnecting 97 = .ok (.iconst 4, 1) := by decide +kernel
theorem dX6_receiveConnecting_98 : decode cX6_receiveConnecting 98 = .ok (.putfield 9, 3) := by decide +kernel
theorem dX6_receiveConnecting_101 : decode cX6_receiveConnecting 101 = .ok (.goto 68, 3) := by decide +kernel
theorem dX6_receiveConnecting_104 : decode cX6_receiveConnecting 104 = .ok (.aload_n 0, 1) := by decide +kernel
theorem dX6_receiveConnecting_105 : decode cX6_receiveConnecting 105 = .ok (.getfield 18, 3) := by decide +kernel
theorem dX6_receiveConnecting_108 : decode cX6_receiveConnecting 108 = .ok (.getfield 52, 3) := by decide +kernel
theorem dX6_receiveConnecting_111 : decode cX6_receiveConnecting 111 = .ok (.iconst 1, 1) := by decide +kernel
theorem dX6_receiveConnecting_112 : decode cX6_receiveConnecting 112 = .ok (.putfield 56, 3) := by decide +kernel
theorem dX6_receiveConnecting_115 : decode cX6_receiveConnecting 115 = .ok (.aload_n 1, 1) := by decide +kernel
theorem dX6_receiveConnecting_116 : decode cX6_receiveConnecting 116 = .ok (.iconst 4, 1) := by decide +kernel
theorem dX6_receiveConnecting_117 : decode cX6_receiveConnecting 117 = .ok (.invokevirtual 43, 3) := by decide +kernel
theorem dX6_receiveConnecting_120 : decode cX6_receiveConnecting 120 = .ok (.ifCond .eq 34, 3) := by decide +kernel
theorem dX6_receiveConnecting_123 : decode cX6_receiveConnecting 123 = .ok (.aload_n 0, 1) := by decide +kernel
theorem dX6_receiveConnecting_124 : decode cX6_receiveConnecting 124 = .ok (.aload_n 1, 1) := by decide +kernel
theorem dX6_receiveConnecting_125 : decode cX6_receiveConnecting 125 = .ok (.iconst 1, 1) := by decide +kernel
theorem dX6_receiveConnecting_126 : decode cX6_receiveConnecting 126 = .ok (.invokevirtual 74, 3) := by decide +kernel
theorem dX6_receiveConnecting_129 : decode cX6_receiveConnecting 129 = .ok (.aload_n 0, 1) := by decide +kernel
theorem dX6_receiveConnecting_130 : decode cX6_receiveConnecting 130 = .ok (.getfield 18, 3) := by decide +kernel
theorem dX6_receiveConnecting_133 : decode cX6_receiveConnecting 133 = .ok (.iconst 4, 1) := by decide +kernel
theorem dX6_receiveConnecting_134 : decode cX6_receiveConnecting 134 = .ok (.putfield 22, 3) := by decide +kernel
theorem dX6_receiveConnecting_137 : decode cX6_receiveConnecting 137 = .ok (.aload_n 0, 1) := by decide +kernel
theorem dX6_receiveConnecting_138 : decode cX6_receiveConnecting 138 = .ok (.getfield 18, 3) := by decide +kernel
theorem dX6_receiveConnecting_141 : decode cX6_receiveConnecting 141 = .ok (.invokevirtual 78, 3) := by decide +kernel
theorem dX6_receiveConnecting_144 : decode cX6_receiveConnecting 144 = .ok (.aload_n 0, 1) := by decide +kernel
theorem dX6_receiveConnecting_145 : decode cX6_receiveConnecting 145 = .ok (.getfield 18, 3) := by decide +kernel
theorem dX6_receiveConnecting_148 : decode cX6_receiveConnecting 148 = .ok (.invokevirtual 81, 3) := by decide +kernel
theorem dX6_receiveConnecting_151 : decode cX6_receiveConnecting 151 = .ok (.goto 18, 3) := by decide +kernel
theorem dX6_receiveConnecting_154 : decode cX6_receiveConnecting 154 = .ok (.aload_n 0, 1) := by decide +kernel
theorem dX6_receiveConnecting_155 : decode cX6_receiveConnecting 155 = .ok (.getfield 18, 3) := by decide +kernel
theorem dX6_receiveConnecting_158 : decode cX6_receiveConnecting 158 = .ok (.iconst 3, 1) := by decide +kernel
theorem dX6_receiveConnecting_159 : decode cX6_receiveConnecting 159 = .ok (.putfield 22, 3) := by decide +kernel
theorem dX6_receiveConnecting_162 : decode cX6_receiveConnecting 162 = .ok (.aload_n 0, 1) := by decide +kernel
theorem dX6_receiveConnecting_163 : decode cX6_receiveConnecting 163 = .ok (.getfield 18, 3) := by decide +kernel
theorem dX6_receiveConnecting_166 : decode cX6_receiveConnecting 166 = .ok (.invokevirtual 84, 3) := by decide +kernel
theorem dX6_receiveConnecting_169 : decode cX6_receiveConnecting 169 = .ok (.return_, 1) := by decide +kernel
theorem dX6_receiveOpen_0 : decode cX6_receiveOpen 0 = .ok (.aload_n 0, 1) := by decide +kernel
theorem dX6_receiveOpen_1 : decode cX6_receiveOpen 1 = .ok (.aload_n 1, 1) := by decide +kernel
theorem dX6_receiveOpen_2 : decode cX6_receiveOpen 2 = .ok (.getfield 87, 3) := by decide +kernel
theorem dX6_receiveOpen_5 : decode cX6_receiveOpen 5 = .ok (.invokevirtual 90, 3) := by decide +kernel
theorem dX6_receiveOpen_8 : decode cX6_receiveOpen 8 = .ok (.istore_n 2, 1) := by decide +kernel
theorem dX6_receiveOpen_9 : decode cX6_receiveOpen 9 = .ok (.aload_n 0, 1) := by decide +kernel
theorem dX6_receiveOpen_10 : decode cX6_receiveOpen 10 = .ok (.getfield 18, 3) := by decide +kernel
theorem dX6_receiveOpen_13 : decode cX6_receiveOpen 13 = .ok (.getfield 52, 3) := by decide +kernel
theorem dX6_receiveOpen_16 : decode cX6_receiveOpen 16 = .ok (.iload_n 2, 1) := by decide +kernel
theorem dX6_receiveOpen_17 : decode cX6_receiveOpen 17 = .ok (.aload_n 1, 1) := by decide +kernel
theorem dX6_receiveOpen_18 : decode cX6_receiveOpen 18 = .ok (.invokevirtual 93, 3) := by decide +kernel
theorem dX6_receiveOpen_21 : decode cX6_receiveOpen 21 = .ok (.invokevirtual 97, 3) := by decide +kernel
theorem dX6_receiveOpen_24 : decode cX6_receiveOpen 24 = .ok (.ifCond .ne 10, 3) := by decide +kernel
theorem dX6_receiveOpen_27 : decode cX6_receiveOpen 27 = .ok (.aload_n 0, 1) := by decide +kernel
theorem dX6_receiveOpen_28 : decode cX6_receiveOpen 28 = .ok (.aload_n 1, 1) := by decide +kernel
theorem dX6_receiveOpen_29 : decode cX6_receiveOpen 29 = .ok (.iload_n 2, 1) := by decide +kernel
theorem dX6_receiveOpen_30 : decode cX6_receiveOpen 30 = .ok (.invokevirtual 101, 3) := by decide +kernel
theorem dX6_receiveOpen_33 : decode cX6_receiveOpen 33 = .ok (.return_, 1) := by decide +kernel
theorem dX6_receiveOpen_34 : decode cX6_receiveOpen 34 = .ok (.aload_n 1, 1) := by decide +kernel
theorem dX6_receiveOpen_35 : decode cX6_receiveOpen 35 = .ok (.bipush 8, 2) := by decide +kernel
theorem dX6_receiveOpen_37 : decode cX6_receiveOpen 37 = .ok (.invokevirtual 43, 3) := by decide +kernel
theorem dX6_receiveOpen_40 : decode cX6_receiveOpen 40 = .ok (.ifCond .eq 11, 3) := by decide +kernel
theorem dX6_receiveOpen_43 : decode cX6_receiveOpen 43 = .ok (.aload_n 0, 1) := by decide +kernel
theorem dX6_receiveOpen_44 : decode cX6_receiveOpen 44 = .ok (.getfield 18, 3) := by decide +kernel
theorem dX6_receiveOpen_47 : decode cX6_receiveOpen 47 = .ok (.invokevirtual 71, 3) := by decide +kernel
theorem dX6_receiveOpen_50 : decode cX6_receiveOpen 50 = .ok (.return_, 1) := by decide +kernel
theorem dX6_receiveOpen_51 : decode cX6_receiveOpen 51 = .ok (.aload_n 1, 1) := by decide +kernel
theorem dX6_receiveOpen_52 : decode cX6_receiveOpen 52 = .ok (.iconst 4, 1) := by decide +kernel
theorem dX6_receiveOpen_53 : decode cX6_receiveOpen 53 = .ok (.invokevirtual 43, 3) := by decide +kernel
theorem dX6_receiveOpen_56 : decode cX6_receiveOpen 56 = .ok (.ifCond .ne 10, 3) := by decide +kernel
theorem dX6_receiveOpen_59 : decode cX6_receiveOpen 59 = .ok (.aload_n 0, 1) := by decide +kernel
