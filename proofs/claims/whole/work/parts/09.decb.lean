/-! decode rows of the reference, the law, the JDK -/
abbrev cL_law : ByteArray := code
theorem dX4_init_0 : decode cX4_init 0 = .ok (.aload_n 0, 1) := by decide +kernel
theorem dX4_init_1 : decode cX4_init 1 = .ok (.invokespecial 1, 3) := by decide +kernel
theorem dX4_init_4 : decode cX4_init 4 = .ok (.aload_n 0, 1) := by decide +kernel
theorem dX4_init_5 : decode cX4_init 5 = .ok (.bipush 10, 2) := by decide +kernel
theorem dX4_init_7 : decode cX4_init 7 = .ok (.putfield 7, 3) := by decide +kernel
theorem dX4_init_10 : decode cX4_init 10 = .ok (.aload_n 0, 1) := by decide +kernel
theorem dX4_init_11 : decode cX4_init 11 = .ok (.bipush 9, 2) := by decide +kernel
theorem dX4_init_13 : decode cX4_init 13 = .ok (.putfield 13, 3) := by decide +kernel
theorem dX4_init_16 : decode cX4_init 16 = .ok (.aload_n 0, 1) := by decide +kernel
theorem dX4_init_17 : decode cX4_init 17 = .ok (.iconst (-1), 1) := by decide +kernel
theorem dX4_init_18 : decode cX4_init 18 = .ok (.putfield 16, 3) := by decide +kernel
theorem dX4_init_21 : decode cX4_init 21 = .ok (.aload_n 0, 1) := by decide +kernel
theorem dX4_init_22 : decode cX4_init 22 = .ok (.bipush 7, 2) := by decide +kernel
theorem dX4_init_24 : decode cX4_init 24 = .ok (.newarray .int, 2) := by decide +kernel
theorem dX4_init_26 : decode cX4_init 26 = .ok (.putfield 19, 3) := by decide +kernel
theorem dX4_init_29 : decode cX4_init 29 = .ok (.aload_n 0, 1) := by decide +kernel
theorem dX4_init_30 : decode cX4_init 30 = .ok (.bipush 7, 2) := by decide +kernel
theorem dX4_init_32 : decode cX4_init 32 = .ok (.newarray .int, 2) := by decide +kernel
theorem dX4_init_34 : decode cX4_init 34 = .ok (.putfield 23, 3) := by decide +kernel
theorem dX4_init_37 : decode cX4_init 37 = .ok (.aload_n 0, 1) := by decide +kernel
theorem dX4_init_38 : decode cX4_init 38 = .ok (.bipush 7, 2) := by decide +kernel
theorem dX4_init_40 : decode cX4_init 40 = .ok (.newarray .int, 2) := by decide +kernel
theorem dX4_init_42 : decode cX4_init 42 = .ok (.putfield 26, 3) := by decide +kernel
theorem dX4_init_45 : decode cX4_init 45 = .ok (.aload_n 0, 1) := by decide +kernel
theorem dX4_init_46 : decode cX4_init 46 = .ok (.bipush 7, 2) := by decide +kernel
theorem dX4_init_48 : decode cX4_init 48 = .ok (.newarray .int, 2) := by decide +kernel
theorem dX4_init_50 : decode cX4_init 50 = .ok (.putfield 29, 3) := by decide +kernel
theorem dX4_init_53 : decode cX4_init 53 = .ok (.aload_n 0, 1) := by decide +kernel
theorem dX4_init_54 : decode cX4_init 54 = .ok (.bipush 70, 2) := by decide +kernel
theorem dX4_init_56 : decode cX4_init 56 = .ok (.newarray .int, 2) := by decide +kernel
theorem dX4_init_58 : decode cX4_init 58 = .ok (.putfield 32, 3) := by decide +kernel
theorem dX4_init_61 : decode cX4_init 61 = .ok (.aload_n 0, 1) := by decide +kernel
theorem dX4_init_62 : decode cX4_init 62 = .ok (.bipush 7, 2) := by decide +kernel
theorem dX4_init_64 : decode cX4_init 64 = .ok (.newarray .int, 2) := by decide +kernel
theorem dX4_init_66 : decode cX4_init 66 = .ok (.putfield 35, 3) := by decide +kernel
theorem dX4_init_69 : decode cX4_init 69 = .ok (.aload_n 0, 1) := by decide +kernel
theorem dX4_init_70 : decode cX4_init 70 = .ok (.iconst (-1), 1) := by decide +kernel
theorem dX4_init_71 : decode cX4_init 71 = .ok (.putfield 38, 3) := by decide +kernel
theorem dX4_init_74 : decode cX4_init 74 = .ok (.aload_n 0, 1) := by decide +kernel
theorem dX4_init_75 : decode cX4_init 75 = .ok (.bipush 7, 2) := by decide +kernel
theorem dX4_init_77 : decode cX4_init 77 = .ok (.newarray .int, 2) := by decide +kernel
theorem dX4_init_79 : decode cX4_init 79 = .ok (.putfield 41, 3) := by decide +kernel
theorem dX4_init_82 : decode cX4_init 82 = .ok (.aload_n 0, 1) := by decide +kernel
theorem dX4_init_83 : decode cX4_init 83 = .ok (.bipush 108, 2) := by decide +kernel
theorem dX4_init_85 : decode cX4_init 85 = .ok (.newarray .int, 2) := by decide +kernel
theorem dX4_init_87 : decode cX4_init 87 = .ok (.putfield 44, 3) := by decide +kernel
theorem dX4_init_90 : decode cX4_init 90 = .ok (.aload_n 0, 1) := by decide +kernel
theorem dX4_init_91 : decode cX4_init 91 = .ok (.bipush 108, 2) := by decide +kernel
theorem dX4_init_93 : decode cX4_init 93 = .ok (.newarray .int, 2) := by decide +kernel
theorem dX4_init_95 : decode cX4_init 95 = .ok (.putfield 47, 3) := by decide +kernel
theorem dX4_init_98 : decode cX4_init 98 = .ok (.aload_n 0, 1) := by decide +kernel
theorem dX4_init_99 : decode cX4_init 99 = .ok (.bipush 108, 2) := by decide +kernel
theorem dX4_init_101 : decode cX4_init 101 = .ok (.newarray .int, 2) := by decide +kernel
theorem dX4_init_103 : decode cX4_init 103 = .ok (.putfield 50, 3) := by decide +kernel
theorem dX4_init_106 : decode cX4_init 106 = .ok (.aload_n 0, 1) := by decide +kernel
theorem dX4_init_107 : decode cX4_init 107 = .ok (.bipush 108, 2) := by decide +kernel
theorem dX4_init_109 : decode cX4_init 109 = .ok (.newarray .int, 2) := by decide +kernel
theorem dX4_init_111 : decode cX4_init 111 = .ok (.putfield 53, 3) := by decide +kernel
theorem dX4_init_114 : decode cX4_init 114 = .ok (.aload_n 0, 1) := by decide +kernel
theorem dX4_init_115 : decode cX4_init 115 = .ok (.bipush 80, 2) := by decide +kernel
theorem dX4_init_117 : decode cX4_init 117 = .ok (.newarray .int, 2) := by decide +kernel
theorem dX4_init_119 : decode cX4_init 119 = .ok (.putfield 56, 3) := by decide +kernel
theorem dX4_init_122 : decode cX4_init 122 = .ok (.aload_n 0, 1) := by decide +kernel
theorem dX4_init_123 : decode cX4_init 123 = .ok (.bipush 41, 2) := by decide +kernel
theorem dX4_init_125 : decode cX4_init 125 = .ok (.newarray .int, 2) := by decide +kernel
theorem dX4_init_127 : decode cX4_init 127 = .ok (.putfield 59, 3) := by decide +kernel
theorem dX4_init_130 : decode cX4_init 130 = .ok (.aload_n 0, 1) := by decide +kernel
theorem dX4_init_131 : decode cX4_init 131 = .ok (.bipush 41, 2) := by decide +kernel
theorem dX4_init_133 : decode cX4_init 133 = .ok (.newarray .int, 2) := by decide +kernel
theorem dX4_init_135 : decode cX4_init 135 = .ok (.putfield 62, 3) := by decide +kernel
theorem dX4_init_138 : decode cX4_init 138 = .ok (.aload_n 0, 1) := by decide +kernel
theorem dX4_init_139 : decode cX4_init 139 = .ok (.sipush 164, 3) := by decide +kernel
theorem dX4_init_142 : decode cX4_init 142 = .ok (.newarray .int, 2) := by decide +kernel
theorem dX4_init_144 : decode cX4_init 144 = .ok (.putfield 65, 3) := by decide +kernel
theorem dX4_init_147 : decode cX4_init 147 = .ok (.aload_n 0, 1) := by decide +kernel
theorem dX4_init_148 : decode cX4_init 148 = .ok (.bipush 8, 2) := by decide +kernel
theorem dX4_init_150 : decode cX4_init 150 = .ok (.newarray .int, 2) := by decide +kernel
theorem dX4_init_152 : decode cX4_init 152 = .ok (.putfield 68, 3) := by decide +kernel
theorem dX4_init_155 : decode cX4_init 155 = .ok (.aload_n 0, 1) := by decide +kernel
theorem dX4_init_156 : decode cX4_init 156 = .ok (.bipush 48, 2) := by decide +kernel
theorem dX4_init_158 : decode cX4_init 158 = .ok (.newarray .int, 2) := by decide +kernel
theorem dX4_init_160 : decode cX4_init 160 = .ok (.putfield 71, 3) := by decide +kernel
theorem dX4_init_163 : decode cX4_init 163 = .ok (.aload_n 0, 1) := by decide +kernel
theorem dX4_init_164 : decode cX4_init 164 = .ok (.iconst 0, 1) := by decide +kernel
theorem dX4_init_165 : decode cX4_init 165 = .ok (.putfield 74, 3) := by decide +kernel
theorem dX4_init_168 : decode cX4_init 168 = .ok (.return_, 1) := by decide +kernel
theorem dX4_in_0 : decode cX4_in 0 = .ok (.lload_n 0, 1) := by decide +kernel
theorem dX4_in_1 : decode cX4_in 1 = .ok (.lload_n 2, 1) := by decide +kernel
theorem dX4_in_2 : decode cX4_in 2 = .ok (.lcmp, 1) := by decide +kernel
theorem dX4_in_3 : decode cX4_in 3 = .ok (.ifCond .lt 14, 3) := by decide +kernel
theorem dX4_in_6 : decode cX4_in 6 = .ok (.lload_n 0, 1) := by decide +kernel
theorem dX4_in_7 : decode cX4_in 7 = .ok (.lload 4, 2) := by decide +kernel
theorem dX4_in_9 : decode cX4_in 9 = .ok (.lcmp, 1) := by decide +kernel
theorem dX4_in_10 : decode cX4_in 10 = .ok (.ifCond .gt 7, 3) := by decide +kernel
theorem dX4_in_13 : decode cX4_in 13 = .ok (.iconst 1, 1) := by decide +kernel
theorem dX4_in_14 : decode cX4_in 14 = .ok (.goto 4, 3) := by decide +kernel
theorem dX4_in_17 : decode cX4_in 17 = .ok (.iconst 0, 1) := by decide +kernel
theorem dX4_in_18 : decode cX4_in 18 = .ok (.ireturn, 1) := by decide +kernel
theorem dX4_refuse_0 : decode cX4_refuse 0 = .ok (.aload_n 0, 1) := by decide +kernel
theorem dX4_refuse_1 : decode cX4_refuse 1 = .ok (.getfield 35, 3) := by decide +kernel
theorem dX4_refuse_4 : decode cX4_refuse 4 = .ok (.iload_n 1, 1) := by decide +kernel
theorem dX4_refuse_5 : decode cX4_refuse 5 = .ok (.ineg, 1) := by decide +kernel
theorem dX4_refuse_6 : decode cX4_refuse 6 = .ok (.dup2, 1) := by decide +kernel
theorem dX4_refuse_7 : decode cX4_refuse 7 = .ok (.iaload, 1) := by decide +kernel
theorem dX4_refuse_8 : decode cX4_refuse 8 = .ok (.iconst 1, 1) := by decide +kernel
theorem dX4_refuse_9 : decode cX4_refuse 9 = .ok (.iadd, 1) := by decide +kernel
theorem dX4_refuse_10 : decode cX4_refuse 10 = .ok (.iastore, 1) := by decide +kernel
theorem dX4_refuse_11 : decode cX4_refuse 11 = .ok (.iload_n 1, 1) := by decide +kernel
theorem dX4_refuse_12 : decode cX4_refuse 12 = .ok (.ireturn, 1) := by decide +kernel
theorem dX4_isNest_0 : decode cX4_isNest 0 = .ok (.iload_n 1, 1) := by decide +kernel
theorem dX4_isNest_1 : decode cX4_isNest 1 = .ok (.i2l, 1) := by decide +kernel
theorem dX4_isNest_2 : decode cX4_isNest 2 = .ok (.lconst 0, 1) := by decide +kernel
theorem dX4_isNest_3 : decode cX4_isNest 3 = .ok (.aload_n 0, 1) := by decide +kernel
theorem dX4_isNest_4 : decode cX4_isNest 4 = .ok (.getfield 77, 3) := by decide +kernel
theorem dX4_isNest_7 : decode cX4_isNest 7 = .ok (.iconst 1, 1) := by decide +kernel
theorem dX4_isNest_8 : decode cX4_isNest 8 = .ok (.isub, 1) := by decide +kernel
theorem dX4_isNest_9 : decode cX4_isNest 9 = .ok (.i2l, 1) := by decide +kernel
theorem dX4_isNest_10 : decode cX4_isNest 10 = .ok (.invokestatic 80, 3) := by decide +kernel
theorem dX4_isNest_13 : decode cX4_isNest 13 = .ok (.ireturn, 1) := by decide +kernel
theorem dX4_eggsIn_0 : decode cX4_eggsIn 0 = .ok (.iconst 0, 1) := by decide +kernel
theorem dX4_eggsIn_1 : decode cX4_eggsIn 1 = .ok (.istore_n 2, 1) := by decide +kernel
theorem dX4_eggsIn_2 : decode cX4_eggsIn 2 = .ok (.iconst 0, 1) := by decide +kernel
theorem dX4_eggsIn_3 : decode cX4_eggsIn 3 = .ok (.istore_n 3, 1) := by decide +kernel
theorem dX4_eggsIn_4 : decode cX4_eggsIn 4 = .ok (.iload_n 3, 1) := by decide +kernel
theorem dX4_eggsIn_5 : decode cX4_eggsIn 5 = .ok (.bipush 10, 2) := by decide +kernel
theorem dX4_eggsIn_7 : decode cX4_eggsIn 7 = .ok (.if_icmp .ge 23, 3) := by decide +kernel
theorem dX4_eggsIn_10 : decode cX4_eggsIn 10 = .ok (.iload_n 2, 1) := by decide +kernel
theorem dX4_eggsIn_11 : decode cX4_eggsIn 11 = .ok (.aload_n 0, 1) := by decide +kernel
theorem dX4_eggsIn_12 : decode cX4_eggsIn 12 = .ok (.getfield 32, 3) := by decide +kernel
theorem dX4_eggsIn_15 : decode cX4_eggsIn 15 = .ok (.bipush 10, 2) := by decide +kernel
theorem dX4_eggsIn_17 : decode cX4_eggsIn 17 = .ok (.iload_n 1, 1) := by decide +kernel
theorem dX4_eggsIn_18 : decode cX4_eggsIn 18 = .ok (.imul, 1) := by decide +kernel
theorem dX4_eggsIn_19 : decode cX4_eggsIn 19 = .ok (.iload_n 3, 1) := by decide +kernel
theorem dX4_eggsIn_20 : decode cX4_eggsIn 20 = .ok (.iadd, 1) := by decide +kernel
theorem dX4_eggsIn_21 : decode cX4_eggsIn 21 = .ok (.iaload, 1) := by decide +kernel
theorem dX4_eggsIn_22 : decode cX4_eggsIn 22 = .ok (.iadd, 1) := by decide +kernel
theorem dX4_eggsIn_23 : decode cX4_eggsIn 23 = .ok (.istore_n 2, 1) := by decide +kernel
theorem dX4_eggsIn_24 : decode cX4_eggsIn 24 = .ok (.iinc 3 1, 3) := by decide +kernel
theorem dX4_eggsIn_27 : decode cX4_eggsIn 27 = .ok (.goto (-23), 3) := by decide +kernel
theorem dX4_eggsIn_30 : decode cX4_eggsIn 30 = .ok (.iload_n 2, 1) := by decide +kernel
theorem dX4_eggsIn_31 : decode cX4_eggsIn 31 = .ok (.ireturn, 1) := by decide +kernel
theorem dX4_mayBits_0 : decode cX4_mayBits 0 = .ok (.iconst 1, 1) := by decide +kernel
theorem dX4_mayBits_1 : decode cX4_mayBits 1 = .ok (.aload_n 0, 1) := by decide +kernel
theorem dX4_mayBits_2 : decode cX4_mayBits 2 = .ok (.getfield 77, 3) := by decide +kernel
theorem dX4_mayBits_5 : decode cX4_mayBits 5 = .ok (.ishl, 1) := by decide +kernel
theorem dX4_mayBits_6 : decode cX4_mayBits 6 = .ok (.iconst 1, 1) := by decide +kernel
theorem dX4_mayBits_7 : decode cX4_mayBits 7 = .ok (.isub, 1) := by decide +kernel
theorem dX4_mayBits_8 : decode cX4_mayBits 8 = .ok (.istore_n 1, 1) := by decide +kernel
theorem dX4_mayBits_9 : decode cX4_mayBits 9 = .ok (.iload_n 1, 1) := by decide +kernel
theorem dX4_mayBits_10 : decode cX4_mayBits 10 = .ok (.aload_n 0, 1) := by decide +kernel
theorem dX4_mayBits_11 : decode cX4_mayBits 11 = .ok (.getfield 38, 3) := by decide +kernel
theorem dX4_mayBits_14 : decode cX4_mayBits 14 = .ok (.ifCond .ge 7, 3) := by decide +kernel
theorem dX4_mayBits_17 : decode cX4_mayBits 17 = .ok (.iload_n 1, 1) := by decide +kernel
theorem dX4_mayBits_18 : decode cX4_mayBits 18 = .ok (.goto 11, 3) := by decide +kernel
theorem dX4_mayBits_21 : decode cX4_mayBits 21 = .ok (.iconst 1, 1) := by decide +kernel
theorem dX4_mayBits_22 : decode cX4_mayBits 22 = .ok (.aload_n 0, 1) := by decide +kernel
theorem dX4_mayBits_23 : decode cX4_mayBits 23 = .ok (.getfield 38, 3) := by decide +kernel
theorem dX4_mayBits_26 : decode cX4_mayBits 26 = .ok (.ishl, 1) := by decide +kernel
theorem dX4_mayBits_27 : decode cX4_mayBits 27 = .ok (.iconst (-1), 1) := by decide +kernel
theorem dX4_mayBits_28 : decode cX4_mayBits 28 = .ok (.ixor, 1) := by decide +kernel
theorem dX4_mayBits_29 : decode cX4_mayBits 29 = .ok (.iand, 1) := by decide +kernel
theorem dX4_mayBits_30 : decode cX4_mayBits 30 = .ok (.istore_n 1, 1) := by decide +kernel
theorem dX4_mayBits_31 : decode cX4_mayBits 31 = .ok (.iload_n 1, 1) := by decide +kernel
theorem dX4_mayBits_32 : decode cX4_mayBits 32 = .ok (.aload_n 0, 1) := by decide +kernel
theorem dX4_mayBits_33 : decode cX4_mayBits 33 = .ok (.getfield 84, 3) := by decide +kernel
theorem dX4_mayBits_36 : decode cX4_mayBits 36 = .ok (.iconst (-1), 1) := by decide +kernel
theorem dX4_mayBits_37 : decode cX4_mayBits 37 = .ok (.ixor, 1) := by decide +kernel
theorem dX4_mayBits_38 : decode cX4_mayBits 38 = .ok (.iand, 1) := by decide +kernel
theorem dX4_mayBits_39 : decode cX4_mayBits 39 = .ok (.istore_n 2, 1) := by decide +kernel
theorem dX4_mayBits_40 : decode cX4_mayBits 40 = .ok (.iload_n 2, 1) := by decide +kernel
theorem dX4_mayBits_41 : decode cX4_mayBits 41 = .ok (.ifCond .ne 7, 3) := by decide +kernel
theorem dX4_mayBits_44 : decode cX4_mayBits 44 = .ok (.iload_n 1, 1) := by decide +kernel
theorem dX4_mayBits_45 : decode cX4_mayBits 45 = .ok (.goto 4, 3) := by decide +kernel
theorem dX4_mayBits_48 : decode cX4_mayBits 48 = .ok (.iload_n 2, 1) := by decide +kernel
theorem dX4_mayBits_49 : decode cX4_mayBits 49 = .ok (.ireturn, 1) := by decide +kernel
theorem dX4_apart_0 : decode cX4_apart 0 = .ok (.iload_n 0, 1) := by decide +kernel
theorem dX4_apart_1 : decode cX4_apart 1 = .ok (.iload_n 1, 1) := by decide +kernel
theorem dX4_apart_2 : decode cX4_apart 2 = .ok (.if_icmp .ge 9, 3) := by decide +kernel
theorem dX4_apart_5 : decode cX4_apart 5 = .ok (.iload_n 1, 1) := by decide +kernel
theorem dX4_apart_6 : decode cX4_apart 6 = .ok (.iload_n 0, 1) := by decide +kernel
theorem dX4_apart_7 : decode cX4_apart 7 = .ok (.isub, 1) := by decide +kernel
theorem dX4_apart_8 : decode cX4_apart 8 = .ok (.goto 6, 3) := by decide +kernel
theorem dX4_apart_11 : decode cX4_apart 11 = .ok (.iload_n 0, 1) := by decide +kernel
theorem dX4_apart_12 : decode cX4_apart 12 = .ok (.iload_n 1, 1) := by decide +kernel
theorem dX4_apart_13 : decode cX4_apart 13 = .ok (.isub, 1) := by decide +kernel
theorem dX4_apart_14 : decode cX4_apart 14 = .ok (.ireturn, 1) := by decide +kernel
theorem dX4_rawWeight_0 : decode cX4_rawWeight 0 = .ok (.aload_n 0, 1) := by decide +kernel
theorem dX4_rawWeight_1 : decode cX4_rawWeight 1 = .ok (.getfield 16, 3) := by decide +kernel
theorem dX4_rawWeight_4 : decode cX4_rawWeight 4 = .ok (.ifCond .ge 7, 3) := by decide +kernel
theorem dX4_rawWeight_7 : decode cX4_rawWeight 7 = .ok (.iconst 0, 1) := by decide +kernel
theorem dX4_rawWeight_8 : decode cX4_rawWeight 8 = .ok (.goto 7, 3) := by decide +kernel
theorem dX4_rawWeight_11 : decode cX4_rawWeight 11 = .ok (.aload_n 0, 1) := by decide +kernel
theorem dX4_rawWeight_12 : decode cX4_rawWeight 12 = .ok (.getfield 16, 3) := by decide +kernel
theorem dX4_rawWeight_15 : decode cX4_rawWeight 15 = .ok (.istore_n 2, 1) := by decide +kernel
theorem dX4_rawWeight_16 : decode cX4_rawWeight 16 = .ok (.bipush 20, 2) := by decide +kernel
theorem dX4_rawWeight_18 : decode cX4_rawWeight 18 = .ok (.aload_n 0, 1) := by decide +kernel
theorem dX4_rawWeight_19 : decode cX4_rawWeight 19 = .ok (.getfield 19, 3) := by decide +kernel
theorem dX4_rawWeight_22 : decode cX4_rawWeight 22 = .ok (.iload_n 1, 1) := by decide +kernel
theorem dX4_rawWeight_23 : decode cX4_rawWeight 23 = .ok (.iaload, 1) := by decide +kernel
theorem dX4_rawWeight_24 : decode cX4_rawWeight 24 = .ok (.aload_n 0, 1) := by decide +kernel
theorem dX4_rawWeight_25 : decode cX4_rawWeight 25 = .ok (.getfield 19, 3) := by decide +kernel
theorem dX4_rawWeight_28 : decode cX4_rawWeight 28 = .ok (.iload_n 2, 1) := by decide +kernel
theorem dX4_rawWeight_29 : decode cX4_rawWeight 29 = .ok (.iaload, 1) := by decide +kernel
theorem dX4_rawWeight_30 : decode cX4_rawWeight 30 = .ok (.invokestatic 87, 3) := by decide +kernel
theorem dX4_rawWeight_33 : decode cX4_rawWeight 33 = .ok (.isub, 1) := by decide +kernel
theorem dX4_rawWeight_34 : decode cX4_rawWeight 34 = .ok (.aload_n 0, 1) := by decide +kernel
theorem dX4_rawWeight_35 : decode cX4_rawWeight 35 = .ok (.getfield 23, 3) := by decide +kernel
theorem dX4_rawWeight_38 : decode cX4_rawWeight 38 = .ok (.iload_n 1, 1) := by decide +kernel
theorem dX4_rawWeight_39 : decode cX4_rawWeight 39 = .ok (.iaload, 1) := by decide +kernel
theorem dX4_rawWeight_40 : decode cX4_rawWeight 40 = .ok (.aload_n 0, 1) := by decide +kernel
theorem dX4_rawWeight_41 : decode cX4_rawWeight 41 = .ok (.getfield 23, 3) := by decide +kernel
theorem dX4_rawWeight_44 : decode cX4_rawWeight 44 = .ok (.iload_n 2, 1) := by decide +kernel
theorem dX4_rawWeight_45 : decode cX4_rawWeight 45 = .ok (.iaload, 1) := by decide +kernel
theorem dX4_rawWeight_46 : decode cX4_rawWeight 46 = .ok (.invokestatic 87, 3) := by decide +kernel
theorem dX4_rawWeight_49 : decode cX4_rawWeight 49 = .ok (.isub, 1) := by decide +kernel
theorem dX4_rawWeight_50 : decode cX4_rawWeight 50 = .ok (.istore_n 3, 1) := by decide +kernel
theorem dX4_rawWeight_51 : decode cX4_rawWeight 51 = .ok (.iload_n 1, 1) := by decide +kernel
theorem dX4_rawWeight_52 : decode cX4_rawWeight 52 = .ok (.aload_n 0, 1) := by decide +kernel
theorem dX4_rawWeight_53 : decode cX4_rawWeight 53 = .ok (.getfield 16, 3) := by decide +kernel
theorem dX4_rawWeight_56 : decode cX4_rawWeight 56 = .ok (.if_icmp .ne 7, 3) := by decide +kernel
theorem dX4_rawWeight_59 : decode cX4_rawWeight 59 = .ok (.iconst 0, 1) := by decide +kernel
theorem dX4_rawWeight_60 : decode cX4_rawWeight 60 = .ok (.goto 4, 3) := by decide +kernel
theorem dX4_rawWeight_63 : decode cX4_rawWeight 63 = .ok (.iload_n 3, 1) := by decide +kernel
theorem dX4_rawWeight_64 : decode cX4_rawWeight 64 = .ok (.istore 4, 2) := by decide +kernel
theorem dX4_rawWeight_66 : decode cX4_rawWeight 66 = .ok (.bipush 9, 2) := by decide +kernel
theorem dX4_rawWeight_68 : decode cX4_rawWeight 68 = .ok (.aload_n 0, 1) := by decide +kernel
theorem dX4_rawWeight_69 : decode cX4_rawWeight 69 = .ok (.iload_n 1, 1) := by decide +kernel
theorem dX4_rawWeight_70 : decode cX4_rawWeight 70 = .ok (.invokevirtual 91, 3) := by decide +kernel
theorem dX4_rawWeight_73 : decode cX4_rawWeight 73 = .ok (.isub, 1) := by decide +kernel
theorem dX4_rawWeight_74 : decode cX4_rawWeight 74 = .ok (.istore 5, 2) := by decide +kernel
theorem dX4_rawWeight_76 : decode cX4_rawWeight 76 = .ok (.aload_n 0, 1) := by decide +kernel
theorem dX4_rawWeight_77 : decode cX4_rawWeight 77 = .ok (.getfield 95, 3) := by decide +kernel
theorem dX4_rawWeight_80 : decode cX4_rawWeight 80 = .ok (.tableswitch 71 0 4 #[36, 38, 45, 47, 50], 36) := by decide +kernel
theorem dX4_rawWeight_116 : decode cX4_rawWeight 116 = .ok (.iload_n 3, 1) := by decide +kernel
theorem dX4_rawWeight_117 : decode cX4_rawWeight 117 = .ok (.ireturn, 1) := by decide +kernel
theorem dX4_rawWeight_118 : decode cX4_rawWeight 118 = .ok (.aload_n 0, 1) := by decide +kernel
theorem dX4_rawWeight_119 : decode cX4_rawWeight 119 = .ok (.getfield 29, 3) := by decide +kernel
theorem dX4_rawWeight_122 : decode cX4_rawWeight 122 = .ok (.iload_n 1, 1) := by decide +kernel
theorem dX4_rawWeight_123 : decode cX4_rawWeight 123 = .ok (.iaload, 1) := by decide +kernel
theorem dX4_rawWeight_124 : decode cX4_rawWeight 124 = .ok (.ireturn, 1) := by decide +kernel
theorem dX4_rawWeight_125 : decode cX4_rawWeight 125 = .ok (.iconst 1, 1) := by decide +kernel
theorem dX4_rawWeight_126 : decode cX4_rawWeight 126 = .ok (.ireturn, 1) := by decide +kernel
theorem dX4_rawWeight_127 : decode cX4_rawWeight 127 = .ok (.iload 4, 2) := by decide +kernel
theorem dX4_rawWeight_129 : decode cX4_rawWeight 129 = .ok (.ireturn, 1) := by decide +kernel
theorem dX4_rawWeight_130 : decode cX4_rawWeight 130 = .ok (.iload 5, 2) := by decide +kernel
theorem dX4_rawWeight_132 : decode cX4_rawWeight 132 = .ok (.ifCond .le 16, 3) := by decide +kernel
theorem dX4_rawWeight_135 : decode cX4_rawWeight 135 = .ok (.iload 4, 2) := by decide +kernel
theorem dX4_rawWeight_137 : decode cX4_rawWeight 137 = .ok (.aload_n 0, 1) := by decide +kernel
theorem dX4_rawWeight_138 : decode cX4_rawWeight 138 = .ok (.getfield 98, 3) := by decide +kernel
theorem dX4_rawWeight_141 : decode cX4_rawWeight 141 = .ok (.iload 5, 2) := by decide +kernel
theorem dX4_rawWeight_143 : decode cX4_rawWeight 143 = .ok (.imul, 1) := by decide +kernel
theorem dX4_rawWeight_144 : decode cX4_rawWeight 144 = .ok (.iadd, 1) := by decide +kernel
theorem dX4_rawWeight_145 : decode cX4_rawWeight 145 = .ok (.goto 5, 3) := by decide +kernel
theorem dX4_rawWeight_148 : decode cX4_rawWeight 148 = .ok (.iload 4, 2) := by decide +kernel
theorem dX4_rawWeight_150 : decode cX4_rawWeight 150 = .ok (.ireturn, 1) := by decide +kernel
theorem dX4_rawWeight_151 : decode cX4_rawWeight 151 = .ok (.iload_n 1, 1) := by decide +kernel
theorem dX4_rawWeight_152 : decode cX4_rawWeight 152 = .ok (.aload_n 0, 1) := by decide +kernel
theorem dX4_rawWeight_153 : decode cX4_rawWeight 153 = .ok (.getfield 98, 3) := by decide +kernel
theorem dX4_rawWeight_156 : decode cX4_rawWeight 156 = .ok (.if_icmp .ne 15, 3) := by decide +kernel
theorem dX4_rawWeight_159 : decode cX4_rawWeight 159 = .ok (.aload_n 0, 1) := by decide +kernel
theorem dX4_rawWeight_160 : decode cX4_rawWeight 160 = .ok (.getfield 29, 3) := by decide +kernel
theorem dX4_rawWeight_163 : decode cX4_rawWeight 163 = .ok (.iload_n 1, 1) := by decide +kernel
theorem dX4_rawWeight_164 : decode cX4_rawWeight 164 = .ok (.iaload, 1) := by decide +kernel
theorem dX4_rawWeight_165 : decode cX4_rawWeight 165 = .ok (.bipush 10, 2) := by decide +kernel
theorem dX4_rawWeight_167 : decode cX4_rawWeight 167 = .ok (.iadd, 1) := by decide +kernel
theorem dX4_rawWeight_168 : decode cX4_rawWeight 168 = .ok (.goto 9, 3) := by decide +kernel
theorem dX4_rawWeight_171 : decode cX4_rawWeight 171 = .ok (.aload_n 0, 1) := by decide +kernel
theorem dX4_rawWeight_172 : decode cX4_rawWeight 172 = .ok (.getfield 29, 3) := by decide +kernel
theorem dX4_rawWeight_175 : decode cX4_rawWeight 175 = .ok (.iload_n 1, 1) := by decide +kernel
theorem dX4_rawWeight_176 : decode cX4_rawWeight 176 = .ok (.iaload, 1) := by decide +kernel
theorem dX4_rawWeight_177 : decode cX4_rawWeight 177 = .ok (.ireturn, 1) := by decide +kernel
theorem dX4_weigh_0 : decode cX4_weigh 0 = .ok (.aload_n 0, 1) := by decide +kernel
theorem dX4_weigh_1 : decode cX4_weigh 1 = .ok (.invokevirtual 101, 3) := by decide +kernel
theorem dX4_weigh_4 : decode cX4_weigh 4 = .ok (.istore_n 1, 1) := by decide +kernel
theorem dX4_weigh_5 : decode cX4_weigh 5 = .ok (.aload_n 0, 1) := by decide +kernel
theorem dX4_weigh_6 : decode cX4_weigh 6 = .ok (.iconst 0, 1) := by decide +kernel
theorem dX4_weigh_7 : decode cX4_weigh 7 = .ok (.putfield 105, 3) := by decide +kernel
theorem dX4_weigh_10 : decode cX4_weigh 10 = .ok (.iconst 0, 1) := by decide +kernel
theorem dX4_weigh_11 : decode cX4_weigh 11 = .ok (.istore_n 2, 1) := by decide +kernel
theorem dX4_weigh_12 : decode cX4_weigh 12 = .ok (.iload_n 2, 1) := by decide +kernel
theorem dX4_weigh_13 : decode cX4_weigh 13 = .ok (.aload_n 0, 1) := by decide +kernel
theorem dX4_weigh_14 : decode cX4_weigh 14 = .ok (.getfield 77, 3) := by decide +kernel
theorem dX4_weigh_17 : decode cX4_weigh 17 = .ok (.if_icmp .ge 48, 3) := by decide +kernel
theorem dX4_weigh_20 : decode cX4_weigh 20 = .ok (.aload_n 0, 1) := by decide +kernel
theorem dX4_weigh_21 : decode cX4_weigh 21 = .ok (.getfield 41, 3) := by decide +kernel
theorem dX4_weigh_24 : decode cX4_weigh 24 = .ok (.iload_n 2, 1) := by decide +kernel
theorem dX4_weigh_25 : decode cX4_weigh 25 = .ok (.iload_n 1, 1) := by decide +kernel
theorem dX4_weigh_26 : decode cX4_weigh 26 = .ok (.iload_n 2, 1) := by decide +kernel
theorem dX4_weigh_27 : decode cX4_weigh 27 = .ok (.ishr, 1) := by decide +kernel
theorem dX4_weigh_28 : decode cX4_weigh 28 = .ok (.iconst 1, 1) := by decide +kernel
theorem dX4_weigh_29 : decode cX4_weigh 29 = .ok (.iand, 1) := by decide +kernel
theorem dX4_weigh_30 : decode cX4_weigh 30 = .ok (.iconst 1, 1) := by decide +kernel
theorem dX4_weigh_31 : decode cX4_weigh 31 = .ok (.if_icmp .ne 11, 3) := by decide +kernel
theorem dX4_weigh_34 : decode cX4_weigh 34 = .ok (.aload_n 0, 1) := by decide +kernel
theorem dX4_weigh_35 : decode cX4_weigh 35 = .ok (.iload_n 2, 1) := by decide +kernel
theorem dX4_weigh_36 : decode cX4_weigh 36 = .ok (.invokevirtual 108, 3) := by decide +kernel
theorem dX4_weigh_39 : decode cX4_weigh 39 = .ok (.goto 4, 3) := by decide +kernel
theorem dX4_weigh_42 : decode cX4_weigh 42 = .ok (.iconst 0, 1) := by decide +kernel
theorem dX4_weigh_43 : decode cX4_weigh 43 = .ok (.iastore, 1) := by decide +kernel
theorem dX4_weigh_44 : decode cX4_weigh 44 = .ok (.aload_n 0, 1) := by decide +kernel
theorem dX4_weigh_45 : decode cX4_weigh 45 = .ok (.dup, 1) := by decide +kernel
theorem dX4_weigh_46 : decode cX4_weigh 46 = .ok (.getfield 105, 3) := by decide +kernel
theorem dX4_weigh_49 : decode cX4_weigh 49 = .ok (.aload_n 0, 1) := by decide +kernel
theorem dX4_weigh_50 : decode cX4_weigh 50 = .ok (.getfield 41, 3) := by decide +kernel
theorem dX4_weigh_53 : decode cX4_weigh 53 = .ok (.iload_n 2, 1) := by decide +kernel
theorem dX4_weigh_54 : decode cX4_weigh 54 = .ok (.iaload, 1) := by decide +kernel
theorem dX4_weigh_55 : decode cX4_weigh 55 = .ok (.iadd, 1) := by decide +kernel
theorem dX4_weigh_56 : decode cX4_weigh 56 = .ok (.putfield 105, 3) := by decide +kernel
theorem dX4_weigh_59 : decode cX4_weigh 59 = .ok (.iinc 2 1, 3) := by decide +kernel
theorem dX4_weigh_62 : decode cX4_weigh 62 = .ok (.goto (-50), 3) := by decide +kernel
theorem dX4_weigh_65 : decode cX4_weigh 65 = .ok (.aload_n 0, 1) := by decide +kernel
theorem dX4_weigh_66 : decode cX4_weigh 66 = .ok (.getfield 105, 3) := by decide +kernel
theorem dX4_weigh_69 : decode cX4_weigh 69 = .ok (.ifCond .ne 45, 3) := by decide +kernel
theorem dX4_weigh_72 : decode cX4_weigh 72 = .ok (.iconst 0, 1) := by decide +kernel
theorem dX4_weigh_73 : decode cX4_weigh 73 = .ok (.istore_n 2, 1) := by decide +kernel
theorem dX4_weigh_74 : decode cX4_weigh 74 = .ok (.iload_n 2, 1) := by decide +kernel
theorem dX4_weigh_75 : decode cX4_weigh 75 = .ok (.aload_n 0, 1) := by decide +kernel
theorem dX4_weigh_76 : decode cX4_weigh 76 = .ok (.getfield 77, 3) := by decide +kernel
theorem dX4_weigh_79 : decode cX4_weigh 79 = .ok (.if_icmp .ge 35, 3) := by decide +kernel
theorem dX4_weigh_82 : decode cX4_weigh 82 = .ok (.aload_n 0, 1) := by decide +kernel
theorem dX4_weigh_83 : decode cX4_weigh 83 = .ok (.getfield 41, 3) := by decide +kernel
theorem dX4_weigh_86 : decode cX4_weigh 86 = .ok (.iload_n 2, 1) := by decide +kernel
theorem dX4_weigh_87 : decode cX4_weigh 87 = .ok (.iload_n 1, 1) := by decide +kernel
theorem dX4_weigh_88 : decode cX4_weigh 88 = .ok (.iload_n 2, 1) := by decide +kernel
theorem dX4_weigh_89 : decode cX4_weigh 89 = .ok (.ishr, 1) := by decide +kernel
theorem dX4_weigh_90 : decode cX4_weigh 90 = .ok (.iconst 1, 1) := by decide +kernel
theorem dX4_weigh_91 : decode cX4_weigh 91 = .ok (.iand, 1) := by decide +kernel
theorem dX4_weigh_92 : decode cX4_weigh 92 = .ok (.iastore, 1) := by decide +kernel
theorem dX4_weigh_93 : decode cX4_weigh 93 = .ok (.aload_n 0, 1) := by decide +kernel
theorem dX4_weigh_94 : decode cX4_weigh 94 = .ok (.dup, 1) := by decide +kernel
theorem dX4_weigh_95 : decode cX4_weigh 95 = .ok (.getfield 105, 3) := by decide +kernel
theorem dX4_weigh_98 : decode cX4_weigh 98 = .ok (.aload_n 0, 1) := by decide +kernel
theorem dX4_weigh_99 : decode cX4_weigh 99 = .ok (.getfield 41, 3) := by decide +kernel
theorem dX4_weigh_102 : decode cX4_weigh 102 = .ok (.iload_n 2, 1) := by decide +kernel
theorem dX4_weigh_103 : decode cX4_weigh 103 = .ok (.iaload, 1) := by decide +kernel
theorem dX4_weigh_104 : decode cX4_weigh 104 = .ok (.iadd, 1) := by decide +kernel
theorem dX4_weigh_105 : decode cX4_weigh 105 = .ok (.putfield 105, 3) := by decide +kernel
theorem dX4_weigh_108 : decode cX4_weigh 108 = .ok (.iinc 2 1, 3) := by decide +kernel
theorem dX4_weigh_111 : decode cX4_weigh 111 = .ok (.goto (-37), 3) := by decide +kernel
theorem dX4_weigh_114 : decode cX4_weigh 114 = .ok (.return_, 1) := by decide +kernel
theorem dX4_laysAt_0 : decode cX4_laysAt 0 = .ok (.aload_n 0, 1) := by decide +kernel
theorem dX4_laysAt_1 : decode cX4_laysAt 1 = .ok (.invokevirtual 111, 3) := by decide +kernel
theorem dX4_laysAt_4 : decode cX4_laysAt 4 = .ok (.aload_n 0, 1) := by decide +kernel
theorem dX4_laysAt_5 : decode cX4_laysAt 5 = .ok (.invokevirtual 101, 3) := by decide +kernel
theorem dX4_laysAt_8 : decode cX4_laysAt 8 = .ok (.istore_n 1, 1) := by decide +kernel
theorem dX4_laysAt_9 : decode cX4_laysAt 9 = .ok (.iconst 0, 1) := by decide +kernel
theorem dX4_laysAt_10 : decode cX4_laysAt 10 = .ok (.istore_n 2, 1) := by decide +kernel
theorem dX4_laysAt_11 : decode cX4_laysAt 11 = .ok (.iconst (-1), 1) := by decide +kernel
theorem dX4_laysAt_12 : decode cX4_laysAt 12 = .ok (.istore_n 3, 1) := by decide +kernel
theorem dX4_laysAt_13 : decode cX4_laysAt 13 = .ok (.iconst 0, 1) := by decide +kernel
theorem dX4_laysAt_14 : decode cX4_laysAt 14 = .ok (.istore 4, 2) := by decide +kernel
theorem dX4_laysAt_16 : decode cX4_laysAt 16 = .ok (.iload 4, 2) := by decide +kernel
theorem dX4_laysAt_18 : decode cX4_laysAt 18 = .ok (.aload_n 0, 1) := by decide +kernel
theorem dX4_laysAt_19 : decode cX4_laysAt 19 = .ok (.getfield 77, 3) := by decide +kernel
theorem dX4_laysAt_22 : decode cX4_laysAt 22 = .ok (.if_icmp .ge 71, 3) := by decide +kernel
theorem dX4_laysAt_25 : decode cX4_laysAt 25 = .ok (.iload_n 1, 1) := by decide +kernel
theorem dX4_laysAt_26 : decode cX4_laysAt 26 = .ok (.iload 4, 2) := by decide +kernel
theorem dX4_laysAt_28 : decode cX4_laysAt 28 = .ok (.ishr, 1) := by decide +kernel
theorem dX4_laysAt_29 : decode cX4_laysAt 29 = .ok (.iconst 1, 1) := by decide +kernel
theorem dX4_laysAt_30 : decode cX4_laysAt 30 = .ok (.iand, 1) := by decide +kernel
theorem dX4_laysAt_31 : decode cX4_laysAt 31 = .ok (.iconst 1, 1) := by decide +kernel
theorem dX4_laysAt_32 : decode cX4_laysAt 32 = .ok (.if_icmp .ne 7, 3) := by decide +kernel
theorem dX4_laysAt_35 : decode cX4_laysAt 35 = .ok (.iconst 1, 1) := by decide +kernel
theorem dX4_laysAt_36 : decode cX4_laysAt 36 = .ok (.goto 4, 3) := by decide +kernel
theorem dX4_laysAt_39 : decode cX4_laysAt 39 = .ok (.iconst 0, 1) := by decide +kernel
theorem dX4_laysAt_40 : decode cX4_laysAt 40 = .ok (.istore 5, 2) := by decide +kernel
theorem dX4_laysAt_42 : decode cX4_laysAt 42 = .ok (.iload_n 2, 1) := by decide +kernel
theorem dX4_laysAt_43 : decode cX4_laysAt 43 = .ok (.iload 5, 2) := by decide +kernel
theorem dX4_laysAt_45 : decode cX4_laysAt 45 = .ok (.ifCond .eq 7, 3) := by decide +kernel
theorem dX4_laysAt_48 : decode cX4_laysAt 48 = .ok (.iconst 1, 1) := by decide +kernel
theorem dX4_laysAt_49 : decode cX4_laysAt 49 = .ok (.goto 4, 3) := by decide +kernel
theorem dX4_laysAt_52 : decode cX4_laysAt 52 = .ok (.iconst 0, 1) := by decide +kernel
theorem dX4_laysAt_53 : decode cX4_laysAt 53 = .ok (.iadd, 1) := by decide +kernel
theorem dX4_laysAt_54 : decode cX4_laysAt 54 = .ok (.istore_n 2, 1) := by decide +kernel
theorem dX4_laysAt_55 : decode cX4_laysAt 55 = .ok (.iload 5, 2) := by decide +kernel
theorem dX4_laysAt_57 : decode cX4_laysAt 57 = .ok (.ifCond .eq 28, 3) := by decide +kernel
theorem dX4_laysAt_60 : decode cX4_laysAt 60 = .ok (.iload_n 3, 1) := by decide +kernel
theorem dX4_laysAt_61 : decode cX4_laysAt 61 = .ok (.ifCond .lt 19, 3) := by decide +kernel
theorem dX4_laysAt_64 : decode cX4_laysAt 64 = .ok (.aload_n 0, 1) := by decide +kernel
theorem dX4_laysAt_65 : decode cX4_laysAt 65 = .ok (.getfield 41, 3) := by decide +kernel
theorem dX4_laysAt_68 : decode cX4_laysAt 68 = .ok (.iload 4, 2) := by decide +kernel
theorem dX4_laysAt_70 : decode cX4_laysAt 70 = .ok (.iaload, 1) := by decide +kernel
theorem dX4_laysAt_71 : decode cX4_laysAt 71 = .ok (.aload_n 0, 1) := by decide +kernel
theorem dX4_laysAt_72 : decode cX4_laysAt 72 = .ok (.getfield 41, 3) := by decide +kernel
theorem dX4_laysAt_75 : decode cX4_laysAt 75 = .ok (.iload_n 3, 1) := by decide +kernel
theorem dX4_laysAt_76 : decode cX4_laysAt 76 = .ok (.iaload, 1) := by decide +kernel
theorem dX4_laysAt_77 : decode cX4_laysAt 77 = .ok (.if_icmp .le 8, 3) := by decide +kernel
theorem dX4_laysAt_80 : decode cX4_laysAt 80 = .ok (.iload 4, 2) := by decide +kernel
theorem dX4_laysAt_82 : decode cX4_laysAt 82 = .ok (.goto 4, 3) := by decide +kernel
theorem dX4_laysAt_85 : decode cX4_laysAt 85 = .ok (.iload_n 3, 1) := by decide +kernel
theorem dX4_laysAt_86 : decode cX4_laysAt 86 = .ok (.istore_n 3, 1) := by decide +kernel
theorem dX4_laysAt_87 : decode cX4_laysAt 87 = .ok (.iinc 4 1, 3) := by decide +kernel
theorem dX4_laysAt_90 : decode cX4_laysAt 90 = .ok (.goto (-74), 3) := by decide +kernel
theorem dX4_laysAt_93 : decode cX4_laysAt 93 = .ok (.aload_n 0, 1) := by decide +kernel
theorem dX4_laysAt_94 : decode cX4_laysAt 94 = .ok (.getfield 95, 3) := by decide +kernel
theorem dX4_laysAt_97 : decode cX4_laysAt 97 = .ok (.iconst 2, 1) := by decide +kernel
theorem dX4_laysAt_98 : decode cX4_laysAt 98 = .ok (.if_icmp .eq 5, 3) := by decide +kernel
theorem dX4_laysAt_101 : decode cX4_laysAt 101 = .ok (.iload_n 3, 1) := by decide +kernel
theorem dX4_laysAt_102 : decode cX4_laysAt 102 = .ok (.ireturn, 1) := by decide +kernel
theorem dX4_laysAt_103 : decode cX4_laysAt 103 = .ok (.aload_n 0, 1) := by decide +kernel
theorem dX4_laysAt_104 : decode cX4_laysAt 104 = .ok (.getfield 114, 3) := by decide +kernel
theorem dX4_laysAt_107 : decode cX4_laysAt 107 = .ok (.aload_n 0, 1) := by decide +kernel
theorem dX4_laysAt_108 : decode cX4_laysAt 108 = .ok (.getfield 98, 3) := by decide +kernel
theorem dX4_laysAt_111 : decode cX4_laysAt 111 = .ok (.iconst 1, 1) := by decide +kernel
theorem dX4_laysAt_112 : decode cX4_laysAt 112 = .ok (.iadd, 1) := by decide +kernel
theorem dX4_laysAt_113 : decode cX4_laysAt 113 = .ok (.imul, 1) := by decide +kernel
theorem dX4_laysAt_114 : decode cX4_laysAt 114 = .ok (.iload_n 2, 1) := by decide +kernel
theorem dX4_laysAt_115 : decode cX4_laysAt 115 = .ok (.irem, 1) := by decide +kernel
theorem dX4_laysAt_116 : decode cX4_laysAt 116 = .ok (.istore 4, 2) := by decide +kernel
theorem dX4_laysAt_118 : decode cX4_laysAt 118 = .ok (.iconst 0, 1) := by decide +kernel
theorem dX4_laysAt_119 : decode cX4_laysAt 119 = .ok (.istore 5, 2) := by decide +kernel
theorem dX4_laysAt_121 : decode cX4_laysAt 121 = .ok (.iload 5, 2) := by decide +kernel
theorem dX4_laysAt_123 : decode cX4_laysAt 123 = .ok (.aload_n 0, 1) := by decide +kernel
theorem dX4_laysAt_124 : decode cX4_laysAt 124 = .ok (.getfield 77, 3) := by decide +kernel
theorem dX4_laysAt_127 : decode cX4_laysAt 127 = .ok (.if_icmp .ge 30, 3) := by decide +kernel
theorem dX4_laysAt_130 : decode cX4_laysAt 130 = .ok (.iload_n 1, 1) := by decide +kernel
theorem dX4_laysAt_131 : decode cX4_laysAt 131 = .ok (.iload 5, 2) := by decide +kernel
theorem dX4_laysAt_133 : decode cX4_laysAt 133 = .ok (.ishr, 1) := by decide +kernel
theorem dX4_laysAt_134 : decode cX4_laysAt 134 = .ok (.iconst 1, 1) := by decide +kernel
theorem dX4_laysAt_135 : decode cX4_laysAt 135 = .ok (.iand, 1) := by decide +kernel
theorem dX4_laysAt_136 : decode cX4_laysAt 136 = .ok (.iconst 1, 1) := by decide +kernel
theorem dX4_laysAt_137 : decode cX4_laysAt 137 = .ok (.if_icmp .ne 14, 3) := by decide +kernel
theorem dX4_laysAt_140 : decode cX4_laysAt 140 = .ok (.iload 4, 2) := by decide +kernel
theorem dX4_laysAt_142 : decode cX4_laysAt 142 = .ok (.ifCond .ne 6, 3) := by decide +kernel
theorem dX4_laysAt_145 : decode cX4_laysAt 145 = .ok (.iload 5, 2) := by decide +kernel
theorem dX4_laysAt_147 : decode cX4_laysAt 147 = .ok (.ireturn, 1) := by decide +kernel
theorem dX4_laysAt_148 : decode cX4_laysAt 148 = .ok (.iinc 4 (-1), 3) := by decide +kernel
theorem dX4_laysAt_151 : decode cX4_laysAt 151 = .ok (.iinc 5 1, 3) := by decide +kernel
theorem dX4_laysAt_154 : decode cX4_laysAt 154 = .ok (.goto (-33), 3) := by decide +kernel
theorem dX4_laysAt_157 : decode cX4_laysAt 157 = .ok (.iconst (-1), 1) := by decide +kernel
theorem dX4_laysAt_158 : decode cX4_laysAt 158 = .ok (.ireturn, 1) := by decide +kernel
theorem dX4_nightAt_0 : decode cX4_nightAt 0 = .ok (.iconst 0, 1) := by decide +kernel
theorem dX4_nightAt_1 : decode cX4_nightAt 1 = .ok (.istore_n 2, 1) := by decide +kernel
theorem dX4_nightAt_2 : decode cX4_nightAt 2 = .ok (.iload_n 2, 1) := by decide +kernel
theorem dX4_nightAt_3 : decode cX4_nightAt 3 = .ok (.aload_n 0, 1) := by decide +kernel
theorem dX4_nightAt_4 : decode cX4_nightAt 4 = .ok (.getfield 77, 3) := by decide +kernel
theorem dX4_nightAt_7 : decode cX4_nightAt 7 = .ok (.if_icmp .ge 62, 3) := by decide +kernel
theorem dX4_nightAt_10 : decode cX4_nightAt 10 = .ok (.bipush 9, 2) := by decide +kernel
theorem dX4_nightAt_12 : decode cX4_nightAt 12 = .ok (.istore_n 3, 1) := by decide +kernel
theorem dX4_nightAt_13 : decode cX4_nightAt 13 = .ok (.iload_n 3, 1) := by decide +kernel
theorem dX4_nightAt_14 : decode cX4_nightAt 14 = .ok (.ifCond .lt 49, 3) := by decide +kernel
theorem dX4_nightAt_17 : decode cX4_nightAt 17 = .ok (.aload_n 0, 1) := by decide +kernel
theorem dX4_nightAt_18 : decode cX4_nightAt 18 = .ok (.getfield 32, 3) := by decide +kernel
theorem dX4_nightAt_21 : decode cX4_nightAt 21 = .ok (.bipush 10, 2) := by decide +kernel
theorem dX4_nightAt_23 : decode cX4_nightAt 23 = .ok (.iload_n 2, 1) := by decide +kernel
theorem dX4_nightAt_24 : decode cX4_nightAt 24 = .ok (.imul, 1) := by decide +kernel
theorem dX4_nightAt_25 : decode cX4_nightAt 25 = .ok (.iload_n 3, 1) := by decide +kernel
theorem dX4_nightAt_26 : decode cX4_nightAt 26 = .ok (.iadd, 1) := by decide +kernel
theorem dX4_nightAt_27 : decode cX4_nightAt 27 = .ok (.iload_n 3, 1) := by decide +kernel
theorem dX4_nightAt_28 : decode cX4_nightAt 28 = .ok (.ifCond .eq 11, 3) := by decide +kernel
theorem dX4_nightAt_31 : decode cX4_nightAt 31 = .ok (.iload_n 3, 1) := by decide +kernel
theorem dX4_nightAt_32 : decode cX4_nightAt 32 = .ok (.aload_n 0, 1) := by decide +kernel
theorem dX4_nightAt_33 : decode cX4_nightAt 33 = .ok (.getfield 13, 3) := by decide +kernel
theorem dX4_nightAt_36 : decode cX4_nightAt 36 = .ok (.if_icmp .lt 7, 3) := by decide +kernel
theorem dX4_nightAt_39 : decode cX4_nightAt 39 = .ok (.iconst 0, 1) := by decide +kernel
theorem dX4_nightAt_40 : decode cX4_nightAt 40 = .ok (.goto 16, 3) := by decide +kernel
theorem dX4_nightAt_43 : decode cX4_nightAt 43 = .ok (.aload_n 0, 1) := by decide +kernel
theorem dX4_nightAt_44 : decode cX4_nightAt 44 = .ok (.getfield 32, 3) := by decide +kernel
theorem dX4_nightAt_47 : decode cX4_nightAt 47 = .ok (.bipush 10, 2) := by decide +kernel
theorem dX4_nightAt_49 : decode cX4_nightAt 49 = .ok (.iload_n 2, 1) := by decide +kernel
theorem dX4_nightAt_50 : decode cX4_nightAt 50 = .ok (.imul, 1) := by decide +kernel
theorem dX4_nightAt_51 : decode cX4_nightAt 51 = .ok (.iload_n 3, 1) := by decide +kernel
theorem dX4_nightAt_52 : decode cX4_nightAt 52 = .ok (.iadd, 1) := by decide +kernel
theorem dX4_nightAt_53 : decode cX4_nightAt 53 = .ok (.iconst 1, 1) := by decide +kernel
theorem dX4_nightAt_54 : decode cX4_nightAt 54 = .ok (.isub, 1) := by decide +kernel
theorem dX4_nightAt_55 : decode cX4_nightAt 55 = .ok (.iaload, 1) := by decide +kernel
theorem dX4_nightAt_56 : decode cX4_nightAt 56 = .ok (.iastore, 1) := by decide +kernel
theorem dX4_nightAt_57 : decode cX4_nightAt 57 = .ok (.iinc 3 (-1), 3) := by decide +kernel
theorem dX4_nightAt_60 : decode cX4_nightAt 60 = .ok (.goto (-47), 3) := by decide +kernel
theorem dX4_nightAt_63 : decode cX4_nightAt 63 = .ok (.iinc 2 1, 3) := by decide +kernel
theorem dX4_nightAt_66 : decode cX4_nightAt 66 = .ok (.goto (-64), 3) := by decide +kernel
theorem dX4_nightAt_69 : decode cX4_nightAt 69 = .ok (.aload_n 0, 1) := by decide +kernel
theorem dX4_nightAt_70 : decode cX4_nightAt 70 = .ok (.getfield 32, 3) := by decide +kernel
theorem dX4_nightAt_73 : decode cX4_nightAt 73 = .ok (.bipush 10, 2) := by decide +kernel
theorem dX4_nightAt_75 : decode cX4_nightAt 75 = .ok (.iload_n 1, 1) := by decide +kernel
theorem dX4_nightAt_76 : decode cX4_nightAt 76 = .ok (.imul, 1) := by decide +kernel
theorem dX4_nightAt_77 : decode cX4_nightAt 77 = .ok (.dup2, 1) := by decide +kernel
theorem dX4_nightAt_78 : decode cX4_nightAt 78 = .ok (.iaload, 1) := by decide +kernel
theorem dX4_nightAt_79 : decode cX4_nightAt 79 = .ok (.iconst 1, 1) := by decide +kernel
theorem dX4_nightAt_80 : decode cX4_nightAt 80 = .ok (.iadd, 1) := by decide +kernel
theorem dX4_nightAt_81 : decode cX4_nightAt 81 = .ok (.iastore, 1) := by decide +kernel
theorem dX4_nightAt_82 : decode cX4_nightAt 82 = .ok (.aload_n 0, 1) := by decide +kernel
theorem dX4_nightAt_83 : decode cX4_nightAt 83 = .ok (.iload_n 1, 1) := by decide +kernel
theorem dX4_nightAt_84 : decode cX4_nightAt 84 = .ok (.putfield 16, 3) := by decide +kernel
theorem dX4_nightAt_87 : decode cX4_nightAt 87 = .ok (.aload_n 0, 1) := by decide +kernel
theorem dX4_nightAt_88 : decode cX4_nightAt 88 = .ok (.aload_n 0, 1) := by decide +kernel
theorem dX4_nightAt_89 : decode cX4_nightAt 89 = .ok (.getfield 84, 3) := by decide +kernel
theorem dX4_nightAt_92 : decode cX4_nightAt 92 = .ok (.putfield 117, 3) := by decide +kernel
theorem dX4_nightAt_95 : decode cX4_nightAt 95 = .ok (.aload_n 0, 1) := by decide +kernel
theorem dX4_nightAt_96 : decode cX4_nightAt 96 = .ok (.iconst 0, 1) := by decide +kernel
theorem dX4_nightAt_97 : decode cX4_nightAt 97 = .ok (.putfield 84, 3) := by decide +kernel
theorem dX4_nightAt_100 : decode cX4_nightAt 100 = .ok (.aload_n 0, 1) := by decide +kernel
theorem dX4_nightAt_101 : decode cX4_nightAt 101 = .ok (.dup, 1) := by decide +kernel
theorem dX4_nightAt_102 : decode cX4_nightAt 102 = .ok (.getfield 114, 3) := by decide +kernel
theorem dX4_nightAt_105 : decode cX4_nightAt 105 = .ok (.iconst 1, 1) := by decide +kernel
theorem dX4_nightAt_106 : decode cX4_nightAt 106 = .ok (.iadd, 1) := by decide +kernel
theorem dX4_nightAt_107 : decode cX4_nightAt 107 = .ok (.putfield 114, 3) := by decide +kernel
theorem dX4_nightAt_110 : decode cX4_nightAt 110 = .ok (.return_, 1) := by decide +kernel
theorem dX4_nightOn_0 : decode cX4_nightOn 0 = .ok (.aload_n 0, 1) := by decide +kernel
theorem dX4_nightOn_1 : decode cX4_nightOn 1 = .ok (.invokevirtual 120, 3) := by decide +kernel
theorem dX4_nightOn_4 : decode cX4_nightOn 4 = .ok (.istore_n 1, 1) := by decide +kernel
theorem dX4_nightOn_5 : decode cX4_nightOn 5 = .ok (.aload_n 0, 1) := by decide +kernel
theorem dX4_nightOn_6 : decode cX4_nightOn 6 = .ok (.iload_n 1, 1) := by decide +kernel
theorem dX4_nightOn_7 : decode cX4_nightOn 7 = .ok (.invokevirtual 123, 3) := by decide +kernel
theorem dX4_nightOn_10 : decode cX4_nightOn 10 = .ok (.iload_n 1, 1) := by decide +kernel
theorem dX4_nightOn_11 : decode cX4_nightOn 11 = .ok (.ireturn, 1) := by decide +kernel
theorem dX4_take_0 : decode cX4_take 0 = .ok (.iconst 0, 1) := by decide +kernel
theorem dX4_take_1 : decode cX4_take 1 = .ok (.istore_n 2, 1) := by decide +kernel
theorem dX4_take_2 : decode cX4_take 2 = .ok (.iconst 0, 1) := by decide +kernel
theorem dX4_take_3 : decode cX4_take 3 = .ok (.istore_n 3, 1) := by decide +kernel
theorem dX4_take_4 : decode cX4_take 4 = .ok (.iload_n 3, 1) := by decide +kernel
theorem dX4_take_5 : decode cX4_take 5 = .ok (.aload_n 0, 1) := by decide +kernel
theorem dX4_take_6 : decode cX4_take 6 = .ok (.getfield 77, 3) := by decide +kernel
theorem dX4_take_9 : decode cX4_take 9 = .ok (.if_icmp .ge 55, 3) := by decide +kernel
theorem dX4_take_12 : decode cX4_take 12 = .ok (.iload_n 1, 1) := by decide +kernel
theorem dX4_take_13 : decode cX4_take 13 = .ok (.iload_n 3, 1) := by decide +kernel
theorem dX4_take_14 : decode cX4_take 14 = .ok (.ishr, 1) := by decide +kernel
theorem dX4_take_15 : decode cX4_take 15 = .ok (.iconst 1, 1) := by decide +kernel
theorem dX4_take_16 : decode cX4_take 16 = .ok (.iand, 1) := by decide +kernel
theorem dX4_take_17 : decode cX4_take 17 = .ok (.iconst 1, 1) := by decide +kernel
theorem dX4_take_18 : decode cX4_take 18 = .ok (.if_icmp .ne 40, 3) := by decide +kernel
theorem dX4_take_21 : decode cX4_take 21 = .ok (.iload_n 2, 1) := by decide +kernel
theorem dX4_take_22 : decode cX4_take 22 = .ok (.aload_n 0, 1) := by decide +kernel
theorem dX4_take_23 : decode cX4_take 23 = .ok (.iload_n 3, 1) := by decide +kernel
theorem dX4_take_24 : decode cX4_take 24 = .ok (.invokevirtual 91, 3) := by decide +kernel
theorem dX4_take_27 : decode cX4_take 27 = .ok (.iadd, 1) := by decide +kernel
theorem dX4_take_28 : decode cX4_take 28 = .ok (.istore_n 2, 1) := by decide +kernel
theorem dX4_take_29 : decode cX4_take 29 = .ok (.iconst 0, 1) := by decide +kernel
theorem dX4_take_30 : decode cX4_take 30 = .ok (.istore 4, 2) := by decide +kernel
theorem dX4_take_32 : decode cX4_take 32 = .ok (.iload 4, 2) := by decide +kernel
theorem dX4_take_34 : decode cX4_take 34 = .ok (.bipush 10, 2) := by decide +kernel
theorem dX4_take_36 : decode cX4_take 36 = .ok (.if_icmp .ge 22, 3) := by decide +kernel
theorem dX4_take_39 : decode cX4_take 39 = .ok (.aload_n 0, 1) := by decide +kernel
theorem dX4_take_40 : decode cX4_take 40 = .ok (.getfield 32, 3) := by decide +kernel
theorem dX4_take_43 : decode cX4_take 43 = .ok (.bipush 10, 2) := by decide +kernel
theorem dX4_take_45 : decode cX4_take 45 = .ok (.iload_n 3, 1) := by decide +kernel
theorem dX4_take_46 : decode cX4_take 46 = .ok (.imul, 1) := by decide +kernel
theorem dX4_take_47 : decode cX4_take 47 = .ok (.iload 4, 2) := by decide +kernel
theorem dX4_take_49 : decode cX4_take 49 = .ok (.iadd, 1) := by decide +kernel
theorem dX4_take_50 : decode cX4_take 50 = .ok (.iconst 0, 1) := by decide +kernel
theorem dX4_take_51 : decode cX4_take 51 = .ok (.iastore, 1) := by decide +kernel
theorem dX4_take_52 : decode cX4_take 52 = .ok (.iinc 4 1, 3) := by decide +kernel
theorem dX4_take_55 : decode cX4_take 55 = .ok (.goto (-23), 3) := by decide +kernel
theorem dX4_take_58 : decode cX4_take 58 = .ok (.iinc 3 1, 3) := by decide +kernel
theorem dX4_take_61 : decode cX4_take 61 = .ok (.goto (-57), 3) := by decide +kernel
theorem dX4_take_64 : decode cX4_take 64 = .ok (.aload_n 0, 1) := by decide +kernel
theorem dX4_take_65 : decode cX4_take 65 = .ok (.dup, 1) := by decide +kernel
theorem dX4_take_66 : decode cX4_take 66 = .ok (.getfield 84, 3) := by decide +kernel
theorem dX4_take_69 : decode cX4_take 69 = .ok (.iload_n 1, 1) := by decide +kernel
theorem dX4_take_70 : decode cX4_take 70 = .ok (.ior, 1) := by decide +kernel
theorem dX4_take_71 : decode cX4_take 71 = .ok (.putfield 84, 3) := by decide +kernel
theorem dX4_take_74 : decode cX4_take 74 = .ok (.iload_n 2, 1) := by decide +kernel
theorem dX4_take_75 : decode cX4_take 75 = .ok (.ireturn, 1) := by decide +kernel
theorem dX4_minutesOf_0 : decode cX4_minutesOf 0 = .ok (.iconst 0, 1) := by decide +kernel
theorem dX4_minutesOf_1 : decode cX4_minutesOf 1 = .ok (.istore_n 2, 1) := by decide +kernel
theorem dX4_minutesOf_2 : decode cX4_minutesOf 2 = .ok (.iconst 0, 1) := by decide +kernel
theorem dX4_minutesOf_3 : decode cX4_minutesOf 3 = .ok (.istore_n 3, 1) := by decide +kernel
theorem dX4_minutesOf_4 : decode cX4_minutesOf 4 = .ok (.iload_n 3, 1) := by decide +kernel
theorem dX4_minutesOf_5 : decode cX4_minutesOf 5 = .ok (.aload_n 0, 1) := by decide +kernel
theorem dX4_minutesOf_6 : decode cX4_minutesOf 6 = .ok (.getfield 77, 3) := by decide +kernel
theorem dX4_minutesOf_9 : decode cX4_minutesOf 9 = .ok (.if_icmp .ge 31, 3) := by decide +kernel
theorem dX4_minutesOf_12 : decode cX4_minutesOf 12 = .ok (.iload_n 2, 1) := by decide +kernel
theorem dX4_minutesOf_13 : decode cX4_minutesOf 13 = .ok (.iload_n 1, 1) := by decide +kernel
theorem dX4_minutesOf_14 : decode cX4_minutesOf 14 = .ok (.iload_n 3, 1) := by decide +kernel
theorem dX4_minutesOf_15 : decode cX4_minutesOf 15 = .ok (.ishr, 1) := by decide +kernel
theorem dX4_minutesOf_16 : decode cX4_minutesOf 16 = .ok (.iconst 1, 1) := by decide +kernel
theorem dX4_minutesOf_17 : decode cX4_minutesOf 17 = .ok (.iand, 1) := by decide +kernel
theorem dX4_minutesOf_18 : decode cX4_minutesOf 18 = .ok (.iconst 1, 1) := by decide +kernel
theorem dX4_minutesOf_19 : decode cX4_minutesOf 19 = .ok (.if_icmp .ne 12, 3) := by decide +kernel
theorem dX4_minutesOf_22 : decode cX4_minutesOf 22 = .ok (.aload_n 0, 1) := by decide +kernel
theorem dX4_minutesOf_23 : decode cX4_minutesOf 23 = .ok (.getfield 26, 3) := by decide +kernel
theorem dX4_minutesOf_26 : decode cX4_minutesOf 26 = .ok (.iload_n 3, 1) := by decide +kernel
theorem dX4_minutesOf_27 : decode cX4_minutesOf 27 = .ok (.iaload, 1) := by decide +kernel
theorem dX4_minutesOf_28 : decode cX4_minutesOf 28 = .ok (.goto 4, 3) := by decide +kernel
theorem dX4_minutesOf_31 : decode cX4_minutesOf 31 = .ok (.iconst 0, 1) := by decide +kernel
theorem dX4_minutesOf_32 : decode cX4_minutesOf 32 = .ok (.iadd, 1) := by decide +kernel
theorem dX4_minutesOf_33 : decode cX4_minutesOf 33 = .ok (.istore_n 2, 1) := by decide +kernel
theorem dX4_minutesOf_34 : decode cX4_minutesOf 34 = .ok (.iinc 3 1, 3) := by decide +kernel
theorem dX4_minutesOf_37 : decode cX4_minutesOf 37 = .ok (.goto (-33), 3) := by decide +kernel
theorem dX4_minutesOf_40 : decode cX4_minutesOf 40 = .ok (.iload_n 2, 1) := by decide +kernel
theorem dX4_minutesOf_41 : decode cX4_minutesOf 41 = .ok (.ireturn, 1) := by decide +kernel
theorem dX4_carry_0 : decode cX4_carry 0 = .ok (.aload_n 0, 1) := by decide +kernel
theorem dX4_carry_1 : decode cX4_carry 1 = .ok (.getfield 127, 3) := by decide +kernel
theorem dX4_carry_4 : decode cX4_carry 4 = .ok (.ifCond .eq 13, 3) := by decide +kernel
theorem dX4_carry_7 : decode cX4_carry 7 = .ok (.aload_n 0, 1) := by decide +kernel
theorem dX4_carry_8 : decode cX4_carry 8 = .ok (.getfield 131, 3) := by decide +kernel
theorem dX4_carry_11 : decode cX4_carry 11 = .ok (.aload_n 0, 1) := by decide +kernel
theorem dX4_carry_12 : decode cX4_carry 12 = .ok (.getfield 134, 3) := by decide +kernel
theorem dX4_carry_15 : decode cX4_carry 15 = .ok (.iload_n 1, 1) := by decide +kernel
theorem dX4_carry_16 : decode cX4_carry 16 = .ok (.iastore, 1) := by decide +kernel
theorem dX4_carry_17 : decode cX4_carry 17 = .ok (.aload_n 0, 1) := by decide +kernel
theorem dX4_carry_18 : decode cX4_carry 18 = .ok (.dup, 1) := by decide +kernel
theorem dX4_carry_19 : decode cX4_carry 19 = .ok (.getfield 134, 3) := by decide +kernel
theorem dX4_carry_22 : decode cX4_carry 22 = .ok (.iconst 1, 1) := by decide +kernel
theorem dX4_carry_23 : decode cX4_carry 23 = .ok (.iadd, 1) := by decide +kernel
theorem dX4_carry_24 : decode cX4_carry 24 = .ok (.putfield 134, 3) := by decide +kernel
theorem dX4_carry_27 : decode cX4_carry 27 = .ok (.aload_n 0, 1) := by decide +kernel
theorem dX4_carry_28 : decode cX4_carry 28 = .ok (.getfield 131, 3) := by decide +kernel
theorem dX4_carry_31 : decode cX4_carry 31 = .ok (.aload_n 0, 1) := by decide +kernel
theorem dX4_carry_32 : decode cX4_carry 32 = .ok (.getfield 134, 3) := by decide +kernel
theorem dX4_carry_35 : decode cX4_carry 35 = .ok (.iconst 1, 1) := by decide +kernel
theorem dX4_carry_36 : decode cX4_carry 36 = .ok (.isub, 1) := by decide +kernel
theorem dX4_carry_37 : decode cX4_carry 37 = .ok (.iaload, 1) := by decide +kernel
theorem dX4_carry_38 : decode cX4_carry 38 = .ok (.ireturn, 1) := by decide +kernel
theorem dX4_carryAll_0 : decode cX4_carryAll 0 = .ok (.aload_n 0, 1) := by decide +kernel
theorem dX4_carryAll_1 : decode cX4_carryAll 1 = .ok (.aload_n 1, 1) := by decide +kernel
theorem dX4_carryAll_2 : decode cX4_carryAll 2 = .ok (.putfield 131, 3) := by decide +kernel
theorem dX4_carryAll_5 : decode cX4_carryAll 5 = .ok (.aload_n 0, 1) := by decide +kernel
theorem dX4_carryAll_6 : decode cX4_carryAll 6 = .ok (.iload_n 2, 1) := by decide +kernel
theorem dX4_carryAll_7 : decode cX4_carryAll 7 = .ok (.putfield 127, 3) := by decide +kernel
theorem dX4_carryAll_10 : decode cX4_carryAll 10 = .ok (.aload_n 0, 1) := by decide +kernel
theorem dX4_carryAll_11 : decode cX4_carryAll 11 = .ok (.iconst 0, 1) := by decide +kernel
theorem dX4_carryAll_12 : decode cX4_carryAll 12 = .ok (.putfield 134, 3) := by decide +kernel
theorem dX4_carryAll_15 : decode cX4_carryAll 15 = .ok (.aload_n 0, 1) := by decide +kernel
theorem dX4_carryAll_16 : decode cX4_carryAll 16 = .ok (.aload_n 0, 1) := by decide +kernel
theorem dX4_carryAll_17 : decode cX4_carryAll 17 = .ok (.aload_n 0, 1) := by decide +kernel
theorem dX4_carryAll_18 : decode cX4_carryAll 18 = .ok (.getfield 77, 3) := by decide +kernel
theorem dX4_carryAll_21 : decode cX4_carryAll 21 = .ok (.invokevirtual 137, 3) := by decide +kernel
theorem dX4_carryAll_24 : decode cX4_carryAll 24 = .ok (.putfield 77, 3) := by decide +kernel
theorem dX4_carryAll_27 : decode cX4_carryAll 27 = .ok (.aload_n 0, 1) := by decide +kernel
theorem dX4_carryAll_28 : decode cX4_carryAll 28 = .ok (.aload_n 0, 1) := by decide +kernel
theorem dX4_carryAll_29 : decode cX4_carryAll 29 = .ok (.aload_n 0, 1) := by decide +kernel
theorem dX4_carryAll_30 : decode cX4_carryAll 30 = .ok (.getfield 95, 3) := by decide +kernel
theorem dX4_carryAll_33 : decode cX4_carryAll 33 = .ok (.invokevirtual 137, 3) := by decide +kernel
theorem dX4_carryAll_36 : decode cX4_carryAll 36 = .ok (.putfield 95, 3) := by decide +kernel
theorem dX4_carryAll_39 : decode cX4_carryAll 39 = .ok (.aload_n 0, 1) := by decide +kernel
theorem dX4_carryAll_40 : decode cX4_carryAll 40 = .ok (.aload_n 0, 1) := by decide +kernel
theorem dX4_carryAll_41 : decode cX4_carryAll 41 = .ok (.aload_n 0, 1) := by decide +kernel
theorem dX4_carryAll_42 : decode cX4_carryAll 42 = .ok (.getfield 98, 3) := by decide +kernel
theorem dX4_carryAll_45 : decode cX4_carryAll 45 = .ok (.invokevirtual 137, 3) := by decide +kernel
theorem dX4_carryAll_48 : decode cX4_carryAll 48 = .ok (.putfield 98, 3) := by decide +kernel
theorem dX4_carryAll_51 : decode cX4_carryAll 51 = .ok (.aload_n 0, 1) := by decide +kernel
theorem dX4_carryAll_52 : decode cX4_carryAll 52 = .ok (.aload_n 0, 1) := by decide +kernel
theorem dX4_carryAll_53 : decode cX4_carryAll 53 = .ok (.aload_n 0, 1) := by decide +kernel
theorem dX4_carryAll_54 : decode cX4_carryAll 54 = .ok (.getfield 7, 3) := by decide +kernel
theorem dX4_carryAll_57 : decode cX4_carryAll 57 = .ok (.invokevirtual 137, 3) := by decide +kernel
theorem dX4_carryAll_60 : decode cX4_carryAll 60 = .ok (.putfield 7, 3) := by decide +kernel
theorem dX4_carryAll_63 : decode cX4_carryAll 63 = .ok (.aload_n 0, 1) := by decide +kernel
theorem dX4_carryAll_64 : decode cX4_carryAll 64 = .ok (.aload_n 0, 1) := by decide +kernel
theorem dX4_carryAll_65 : decode cX4_carryAll 65 = .ok (.aload_n 0, 1) := by decide +kernel
theorem dX4_carryAll_66 : decode cX4_carryAll 66 = .ok (.getfield 13, 3) := by decide +kernel
theorem dX4_carryAll_69 : decode cX4_carryAll 69 = .ok (.invokevirtual 137, 3) := by decide +kernel
theorem dX4_carryAll_72 : decode cX4_carryAll 72 = .ok (.putfield 13, 3) := by decide +kernel
theorem dX4_carryAll_75 : decode cX4_carryAll 75 = .ok (.aload_n 0, 1) := by decide +kernel
theorem dX4_carryAll_76 : decode cX4_carryAll 76 = .ok (.aload_n 0, 1) := by decide +kernel
theorem dX4_carryAll_77 : decode cX4_carryAll 77 = .ok (.aload_n 0, 1) := by decide +kernel
theorem dX4_carryAll_78 : decode cX4_carryAll 78 = .ok (.getfield 16, 3) := by decide +kernel
theorem dX4_carryAll_81 : decode cX4_carryAll 81 = .ok (.invokevirtual 137, 3) := by decide +kernel
theorem dX4_carryAll_84 : decode cX4_carryAll 84 = .ok (.putfield 16, 3) := by decide +kernel
theorem dX4_carryAll_87 : decode cX4_carryAll 87 = .ok (.aload_n 0, 1) := by decide +kernel
theorem dX4_carryAll_88 : decode cX4_carryAll 88 = .ok (.aload_n 0, 1) := by decide +kernel
theorem dX4_carryAll_89 : decode cX4_carryAll 89 = .ok (.aload_n 0, 1) := by decide +kernel
theorem dX4_carryAll_90 : decode cX4_carryAll 90 = .ok (.getfield 84, 3) := by decide +kernel
theorem dX4_carryAll_93 : decode cX4_carryAll 93 = .ok (.invokevirtual 137, 3) := by decide +kernel
theorem dX4_carryAll_96 : decode cX4_carryAll 96 = .ok (.putfield 84, 3) := by decide +kernel
theorem dX4_carryAll_99 : decode cX4_carryAll 99 = .ok (.aload_n 0, 1) := by decide +kernel
theorem dX4_carryAll_100 : decode cX4_carryAll 100 = .ok (.aload_n 0, 1) := by decide +kernel
theorem dX4_carryAll_101 : decode cX4_carryAll 101 = .ok (.aload_n 0, 1) := by decide +kernel
theorem dX4_carryAll_102 : decode cX4_carryAll 102 = .ok (.getfield 117, 3) := by decide +kernel
theorem dX4_carryAll_105 : decode cX4_carryAll 105 = .ok (.invokevirtual 137, 3) := by decide +kernel
theorem dX4_carryAll_108 : decode cX4_carryAll 108 = .ok (.putfield 117, 3) := by decide +kernel
theorem dX4_carryAll_111 : decode cX4_carryAll 111 = .ok (.aload_n 0, 1) := by decide +kernel
theorem dX4_carryAll_112 : decode cX4_carryAll 112 = .ok (.aload_n 0, 1) := by decide +kernel
theorem dX4_carryAll_113 : decode cX4_carryAll 113 = .ok (.aload_n 0, 1) := by decide +kernel
theorem dX4_carryAll_114 : decode cX4_carryAll 114 = .ok (.getfield 114, 3) := by decide +kernel
theorem dX4_carryAll_117 : decode cX4_carryAll 117 = .ok (.invokevirtual 137, 3) := by decide +kernel
theorem dX4_carryAll_120 : decode cX4_carryAll 120 = .ok (.putfield 114, 3) := by decide +kernel
theorem dX4_carryAll_123 : decode cX4_carryAll 123 = .ok (.aload_n 0, 1) := by decide +kernel
theorem dX4_carryAll_124 : decode cX4_carryAll 124 = .ok (.aload_n 0, 1) := by decide +kernel
theorem dX4_carryAll_125 : decode cX4_carryAll 125 = .ok (.aload_n 0, 1) := by decide +kernel
theorem dX4_carryAll_126 : decode cX4_carryAll 126 = .ok (.getfield 140, 3) := by decide +kernel
theorem dX4_carryAll_129 : decode cX4_carryAll 129 = .ok (.invokevirtual 137, 3) := by decide +kernel
theorem dX4_carryAll_132 : decode cX4_carryAll 132 = .ok (.putfield 140, 3) := by decide +kernel
theorem dX4_carryAll_135 : decode cX4_carryAll 135 = .ok (.iconst 0, 1) := by decide +kernel
theorem dX4_carryAll_136 : decode cX4_carryAll 136 = .ok (.istore_n 3, 1) := by decide +kernel
theorem dX4_carryAll_137 : decode cX4_carryAll 137 = .ok (.iload_n 3, 1) := by decide +kernel
theorem dX4_carryAll_138 : decode cX4_carryAll 138 = .ok (.bipush 7, 2) := by decide +kernel
theorem dX4_carryAll_140 : decode cX4_carryAll 140 = .ok (.if_icmp .ge 73, 3) := by decide +kernel
theorem dX4_carryAll_143 : decode cX4_carryAll 143 = .ok (.aload_n 0, 1) := by decide +kernel
theorem dX4_carryAll_144 : decode cX4_carryAll 144 = .ok (.getfield 19, 3) := by decide +kernel
theorem dX4_carryAll_147 : decode cX4_carryAll 147 = .ok (.iload_n 3, 1) := by decide +kernel
theorem dX4_carryAll_148 : decode cX4_carryAll 148 = .ok (.aload_n 0, 1) := by decide +kernel
theorem dX4_carryAll_149 : decode cX4_carryAll 149 = .ok (.aload_n 0, 1) := by decide +kernel
theorem dX4_carryAll_150 : decode cX4_carryAll 150 = .ok (.getfield 19, 3) := by decide +kernel
theorem dX4_carryAll_153 : decode cX4_carryAll 153 = .ok (.iload_n 3, 1) := by decide +kernel
theorem dX4_carryAll_154 : decode cX4_carryAll 154 = .ok (.iaload, 1) := by decide +kernel
theorem dX4_carryAll_155 : decode cX4_carryAll 155 = .ok (.invokevirtual 137, 3) := by decide +kernel
theorem dX4_carryAll_158 : decode cX4_carryAll 158 = .ok (.iastore, 1) := by decide +kernel
theorem dX4_carryAll_159 : decode cX4_carryAll 159 = .ok (.aload_n 0, 1) := by decide +kernel
theorem dX4_carryAll_160 : decode cX4_carryAll 160 = .ok (.getfield 23, 3) := by decide +kernel
theorem dX4_carryAll_163 : decode cX4_carryAll 163 = .ok (.iload_n 3, 1) := by decide +kernel
theorem dX4_carryAll_164 : decode cX4_carryAll 164 = .ok (.aload_n 0, 1) := by decide +kernel
theorem dX4_carryAll_165 : decode cX4_carryAll 165 = .ok (.aload_n 0, 1) := by decide +kernel
theorem dX4_carryAll_166 : decode cX4_carryAll 166 = .ok (.getfield 23, 3) := by decide +kernel
theorem dX4_carryAll_169 : decode cX4_carryAll 169 = .ok (.iload_n 3, 1) := by decide +kernel
theorem dX4_carryAll_170 : decode cX4_carryAll 170 = .ok (.iaload, 1) := by decide +kernel
theorem dX4_carryAll_171 : decode cX4_carryAll 171 = .ok (.invokevirtual 137, 3) := by decide +kernel
theorem dX4_carryAll_174 : decode cX4_carryAll 174 = .ok (.iastore, 1) := by decide +kernel
theorem dX4_carryAll_175 : decode cX4_carryAll 175 = .ok (.aload_n 0, 1) := by decide +kernel
theorem dX4_carryAll_176 : decode cX4_carryAll 176 = .ok (.getfield 26, 3) := by decide +kernel
theorem dX4_carryAll_179 : decode cX4_carryAll 179 = .ok (.iload_n 3, 1) := by decide +kernel
theorem dX4_carryAll_180 : decode cX4_carryAll 180 = .ok (.aload_n 0, 1) := by decide +kernel
theorem dX4_carryAll_181 : decode cX4_carryAll 181 = .ok (.aload_n 0, 1) := by decide +kernel
theorem dX4_carryAll_182 : decode cX4_carryAll 182 = .ok (.getfield 26, 3) := by decide +kernel
theorem dX4_carryAll_185 : decode cX4_carryAll 185 = .ok (.iload_n 3, 1) := by decide +kernel
theorem dX4_carryAll_186 : decode cX4_carryAll 186 = .ok (.iaload, 1) := by decide +kernel
theorem dX4_carryAll_187 : decode cX4_carryAll 187 = .ok (.invokevirtual 137, 3) := by decide +kernel
theorem dX4_carryAll_190 : decode cX4_carryAll 190 = .ok (.iastore, 1) := by decide +kernel
theorem dX4_carryAll_191 : decode cX4_carryAll 191 = .ok (.aload_n 0, 1) := by decide +kernel
theorem dX4_carryAll_192 : decode cX4_carryAll 192 = .ok (.getfield 29, 3) := by decide +kernel
theorem dX4_carryAll_195 : decode cX4_carryAll 195 = .ok (.iload_n 3, 1) := by decide +kernel
theorem dX4_carryAll_196 : decode cX4_carryAll 196 = .ok (.aload_n 0, 1) := by decide +kernel
theorem dX4_carryAll_197 : decode cX4_carryAll 197 = .ok (.aload_n 0, 1) := by decide +kernel
theorem dX4_carryAll_198 : decode cX4_carryAll 198 = .ok (.getfield 29, 3) := by decide +kernel
theorem dX4_carryAll_201 : decode cX4_carryAll 201 = .ok (.iload_n 3, 1) := by decide +kernel
theorem dX4_carryAll_202 : decode cX4_carryAll 202 = .ok (.iaload, 1) := by decide +kernel
theorem dX4_carryAll_203 : decode cX4_carryAll 203 = .ok (.invokevirtual 137, 3) := by decide +kernel
theorem dX4_carryAll_206 : decode cX4_carryAll 206 = .ok (.iastore, 1) := by decide +kernel
theorem dX4_carryAll_207 : decode cX4_carryAll 207 = .ok (.iinc 3 1, 3) := by decide +kernel
theorem dX4_carryAll_210 : decode cX4_carryAll 210 = .ok (.goto (-73), 3) := by decide +kernel
theorem dX4_carryAll_213 : decode cX4_carryAll 213 = .ok (.iconst 0, 1) := by decide +kernel
theorem dX4_carryAll_214 : decode cX4_carryAll 214 = .ok (.istore_n 3, 1) := by decide +kernel
theorem dX4_carryAll_215 : decode cX4_carryAll 215 = .ok (.iload_n 3, 1) := by decide +kernel
theorem dX4_carryAll_216 : decode cX4_carryAll 216 = .ok (.bipush 70, 2) := by decide +kernel
theorem dX4_carryAll_218 : decode cX4_carryAll 218 = .ok (.if_icmp .ge 25, 3) := by decide +kernel
theorem dX4_carryAll_221 : decode cX4_carryAll 221 = .ok (.aload_n 0, 1) := by decide +kernel
theorem dX4_carryAll_222 : decode cX4_carryAll 222 = .ok (.getfield 32, 3) := by decide +kernel
theorem dX4_carryAll_225 : decode cX4_carryAll 225 = .ok (.iload_n 3, 1) := by decide +kernel
theorem dX4_carryAll_226 : decode cX4_carryAll 226 = .ok (.aload_n 0, 1) := by decide +kernel
theorem dX4_carryAll_227 : decode cX4_carryAll 227 = .ok (.aload_n 0, 1) := by decide +kernel
theorem dX4_carryAll_228 : decode cX4_carryAll 228 = .ok (.getfield 32, 3) := by decide +kernel
theorem dX4_carryAll_231 : decode cX4_carryAll 231 = .ok (.iload_n 3, 1) := by decide +kernel
theorem dX4_carryAll_232 : decode cX4_carryAll 232 = .ok (.iaload, 1) := by decide +kernel
theorem dX4_carryAll_233 : decode cX4_carryAll 233 = .ok (.invokevirtual 137, 3) := by decide +kernel
theorem dX4_carryAll_236 : decode cX4_carryAll 236 = .ok (.iastore, 1) := by decide +kernel
theorem dX4_carryAll_237 : decode cX4_carryAll 237 = .ok (.iinc 3 1, 3) := by decide +kernel
theorem dX4_carryAll_240 : decode cX4_carryAll 240 = .ok (.goto (-25), 3) := by decide +kernel
theorem dX4_carryAll_243 : decode cX4_carryAll 243 = .ok (.return_, 1) := by decide +kernel
theorem dX4_open_0 : decode cX4_open 0 = .ok (.aload_n 0, 1) := by decide +kernel
theorem dX4_open_1 : decode cX4_open 1 = .ok (.aload_n 0, 1) := by decide +kernel
theorem dX4_open_2 : decode cX4_open 2 = .ok (.getfield 44, 3) := by decide +kernel
theorem dX4_open_5 : decode cX4_open 5 = .ok (.iconst 1, 1) := by decide +kernel
theorem dX4_open_6 : decode cX4_open 6 = .ok (.invokevirtual 143, 3) := by decide +kernel
theorem dX4_open_9 : decode cX4_open 9 = .ok (.return_, 1) := by decide +kernel
theorem dX4_close_0 : decode cX4_close 0 = .ok (.aload_n 0, 1) := by decide +kernel
theorem dX4_close_1 : decode cX4_close 1 = .ok (.aload_n 0, 1) := by decide +kernel
theorem dX4_close_2 : decode cX4_close 2 = .ok (.getfield 44, 3) := by decide +kernel
theorem dX4_close_5 : decode cX4_close 5 = .ok (.iconst 0, 1) := by decide +kernel
theorem dX4_close_6 : decode cX4_close 6 = .ok (.invokevirtual 143, 3) := by decide +kernel
theorem dX4_close_9 : decode cX4_close 9 = .ok (.return_, 1) := by decide +kernel
theorem dX4_image_0 : decode cX4_image 0 = .ok (.aload_n 0, 1) := by decide +kernel
theorem dX4_image_1 : decode cX4_image 1 = .ok (.iconst 0, 1) := by decide +kernel
theorem dX4_image_2 : decode cX4_image 2 = .ok (.putfield 74, 3) := by decide +kernel
theorem dX4_image_5 : decode cX4_image 5 = .ok (.aload_n 0, 1) := by decide +kernel
theorem dX4_image_6 : decode cX4_image 6 = .ok (.iconst 1, 1) := by decide +kernel
theorem dX4_image_7 : decode cX4_image 7 = .ok (.putfield 147, 3) := by decide +kernel
theorem dX4_image_10 : decode cX4_image 10 = .ok (.aload_n 0, 1) := by decide +kernel
theorem dX4_image_11 : decode cX4_image 11 = .ok (.aload_n 0, 1) := by decide +kernel
theorem dX4_image_12 : decode cX4_image 12 = .ok (.getfield 53, 3) := by decide +kernel
theorem dX4_image_15 : decode cX4_image 15 = .ok (.iconst 1, 1) := by decide +kernel
theorem dX4_image_16 : decode cX4_image 16 = .ok (.invokevirtual 143, 3) := by decide +kernel
theorem dX4_image_19 : decode cX4_image 19 = .ok (.aload_n 0, 1) := by decide +kernel
theorem dX4_image_20 : decode cX4_image 20 = .ok (.getfield 114, 3) := by decide +kernel
theorem dX4_image_23 : decode cX4_image 23 = .ok (.ireturn, 1) := by decide +kernel
theorem dX4_restore_0 : decode cX4_restore 0 = .ok (.aload_n 0, 1) := by decide +kernel
theorem dX4_restore_1 : decode cX4_restore 1 = .ok (.iconst 0, 1) := by decide +kernel
theorem dX4_restore_2 : decode cX4_restore 2 = .ok (.putfield 74, 3) := by decide +kernel
theorem dX4_restore_5 : decode cX4_restore 5 = .ok (.aload_n 0, 1) := by decide +kernel
theorem dX4_restore_6 : decode cX4_restore 6 = .ok (.getfield 147, 3) := by decide +kernel
theorem dX4_restore_9 : decode cX4_restore 9 = .ok (.ifCond .ne 10, 3) := by decide +kernel
theorem dX4_restore_12 : decode cX4_restore 12 = .ok (.aload_n 0, 1) := by decide +kernel
theorem dX4_restore_13 : decode cX4_restore 13 = .ok (.bipush (-3), 2) := by decide +kernel
theorem dX4_restore_15 : decode cX4_restore 15 = .ok (.invokevirtual 150, 3) := by decide +kernel
theorem dX4_restore_18 : decode cX4_restore 18 = .ok (.ireturn, 1) := by decide +kernel
theorem dX4_restore_19 : decode cX4_restore 19 = .ok (.aload_n 0, 1) := by decide +kernel
theorem dX4_restore_20 : decode cX4_restore 20 = .ok (.aload_n 0, 1) := by decide +kernel
theorem dX4_restore_21 : decode cX4_restore 21 = .ok (.getfield 53, 3) := by decide +kernel
theorem dX4_restore_24 : decode cX4_restore 24 = .ok (.iconst 0, 1) := by decide +kernel
theorem dX4_restore_25 : decode cX4_restore 25 = .ok (.invokevirtual 143, 3) := by decide +kernel
theorem dX4_restore_28 : decode cX4_restore 28 = .ok (.aload_n 0, 1) := by decide +kernel
theorem dX4_restore_29 : decode cX4_restore 29 = .ok (.getfield 114, 3) := by decide +kernel
theorem dX4_restore_32 : decode cX4_restore 32 = .ok (.ireturn, 1) := by decide +kernel
theorem dX4_feed_0 : decode cX4_feed 0 = .ok (.aload_n 0, 1) := by decide +kernel
theorem dX4_feed_1 : decode cX4_feed 1 = .ok (.iconst 0, 1) := by decide +kernel
theorem dX4_feed_2 : decode cX4_feed 2 = .ok (.putfield 74, 3) := by decide +kernel
theorem dX4_feed_5 : decode cX4_feed 5 = .ok (.iload_n 1, 1) := by decide +kernel
theorem dX4_feed_6 : decode cX4_feed 6 = .ok (.ifCond .ge 10, 3) := by decide +kernel
theorem dX4_feed_9 : decode cX4_feed 9 = .ok (.aload_n 0, 1) := by decide +kernel
theorem dX4_feed_10 : decode cX4_feed 10 = .ok (.bipush (-4), 2) := by decide +kernel
theorem dX4_feed_12 : decode cX4_feed 12 = .ok (.invokevirtual 150, 3) := by decide +kernel
theorem dX4_feed_15 : decode cX4_feed 15 = .ok (.ireturn, 1) := by decide +kernel
theorem dX4_feed_16 : decode cX4_feed 16 = .ok (.iload_n 1, 1) := by decide +kernel
theorem dX4_feed_17 : decode cX4_feed 17 = .ok (.sipush 255, 3) := by decide +kernel
theorem dX4_feed_20 : decode cX4_feed 20 = .ok (.if_icmp .gt 12, 3) := by decide +kernel
theorem dX4_feed_23 : decode cX4_feed 23 = .ok (.aload_n 0, 1) := by decide +kernel
theorem dX4_feed_24 : decode cX4_feed 24 = .ok (.getfield 153, 3) := by decide +kernel
theorem dX4_feed_27 : decode cX4_feed 27 = .ok (.bipush 80, 2) := by decide +kernel
theorem dX4_feed_29 : decode cX4_feed 29 = .ok (.if_icmp .ne 10, 3) := by decide +kernel
theorem dX4_feed_32 : decode cX4_feed 32 = .ok (.aload_n 0, 1) := by decide +kernel
theorem dX4_feed_33 : decode cX4_feed 33 = .ok (.bipush (-6), 2) := by decide +kernel
theorem dX4_feed_35 : decode cX4_feed 35 = .ok (.invokevirtual 150, 3) := by decide +kernel
theorem dX4_feed_38 : decode cX4_feed 38 = .ok (.ireturn, 1) := by decide +kernel
theorem dX4_feed_39 : decode cX4_feed 39 = .ok (.aload_n 0, 1) := by decide +kernel
theorem dX4_feed_40 : decode cX4_feed 40 = .ok (.getfield 56, 3) := by decide +kernel
theorem dX4_feed_43 : decode cX4_feed 43 = .ok (.aload_n 0, 1) := by decide +kernel
theorem dX4_feed_44 : decode cX4_feed 44 = .ok (.getfield 153, 3) := by decide +kernel
theorem dX4_feed_47 : decode cX4_feed 47 = .ok (.iload_n 1, 1) := by decide +kernel
theorem dX4_feed_48 : decode cX4_feed 48 = .ok (.iastore, 1) := by decide +kernel
theorem dX4_feed_49 : decode cX4_feed 49 = .ok (.aload_n 0, 1) := by decide +kernel
theorem dX4_feed_50 : decode cX4_feed 50 = .ok (.dup, 1) := by decide +kernel
theorem dX4_feed_51 : decode cX4_feed 51 = .ok (.getfield 153, 3) := by decide +kernel
theorem dX4_feed_54 : decode cX4_feed 54 = .ok (.iconst 1, 1) := by decide +kernel
theorem dX4_feed_55 : decode cX4_feed 55 = .ok (.iadd, 1) := by decide +kernel
theorem dX4_feed_56 : decode cX4_feed 56 = .ok (.putfield 153, 3) := by decide +kernel
theorem dX4_feed_59 : decode cX4_feed 59 = .ok (.aload_n 0, 1) := by decide +kernel
theorem dX4_feed_60 : decode cX4_feed 60 = .ok (.getfield 153, 3) := by decide +kernel
theorem dX4_feed_63 : decode cX4_feed 63 = .ok (.ireturn, 1) := by decide +kernel
theorem dX4_here_0 : decode cX4_here 0 = .ok (.aload_n 0, 1) := by decide +kernel
theorem dX4_here_1 : decode cX4_here 1 = .ok (.getfield 156, 3) := by decide +kernel
theorem dX4_here_4 : decode cX4_here 4 = .ok (.aload_n 0, 1) := by decide +kernel
theorem dX4_here_5 : decode cX4_here 5 = .ok (.getfield 153, 3) := by decide +kernel
theorem dX4_here_8 : decode cX4_here 8 = .ok (.if_icmp .ge 15, 3) := by decide +kernel
theorem dX4_here_11 : decode cX4_here 11 = .ok (.aload_n 0, 1) := by decide +kernel
theorem dX4_here_12 : decode cX4_here 12 = .ok (.getfield 56, 3) := by decide +kernel
theorem dX4_here_15 : decode cX4_here 15 = .ok (.aload_n 0, 1) := by decide +kernel
theorem dX4_here_16 : decode cX4_here 16 = .ok (.getfield 156, 3) := by decide +kernel
theorem dX4_here_19 : decode cX4_here 19 = .ok (.iaload, 1) := by decide +kernel
theorem dX4_here_20 : decode cX4_here 20 = .ok (.goto 4, 3) := by decide +kernel
theorem dX4_here_23 : decode cX4_here 23 = .ok (.iconst (-1), 1) := by decide +kernel
theorem dX4_here_24 : decode cX4_here 24 = .ok (.ireturn, 1) := by decide +kernel
theorem dX4_readDigit_0 : decode cX4_readDigit 0 = .ok (.aload_n 0, 1) := by decide +kernel
theorem dX4_readDigit_1 : decode cX4_readDigit 1 = .ok (.aload_n 0, 1) := by decide +kernel
theorem dX4_readDigit_2 : decode cX4_readDigit 2 = .ok (.getfield 159, 3) := by decide +kernel
theorem dX4_readDigit_5 : decode cX4_readDigit 5 = .ok (.ifCond .ne 20, 3) := by decide +kernel
theorem dX4_readDigit_8 : decode cX4_readDigit 8 = .ok (.aload_n 0, 1) := by decide +kernel
theorem dX4_readDigit_9 : decode cX4_readDigit 9 = .ok (.invokevirtual 162, 3) := by decide +kernel
theorem dX4_readDigit_12 : decode cX4_readDigit 12 = .ok (.i2l, 1) := by decide +kernel
theorem dX4_readDigit_13 : decode cX4_readDigit 13 = .ok (.ldc2_w 165, 3) := by decide +kernel
theorem dX4_readDigit_16 : decode cX4_readDigit 16 = .ok (.ldc2_w 167, 3) := by decide +kernel
theorem dX4_readDigit_19 : decode cX4_readDigit 19 = .ok (.invokestatic 80, 3) := by decide +kernel
theorem dX4_readDigit_22 : decode cX4_readDigit 22 = .ok (.ifCond .ne 7, 3) := by decide +kernel
theorem dX4_readDigit_25 : decode cX4_readDigit 25 = .ok (.iconst 1, 1) := by decide +kernel
theorem dX4_readDigit_26 : decode cX4_readDigit 26 = .ok (.goto 4, 3) := by decide +kernel
theorem dX4_readDigit_29 : decode cX4_readDigit 29 = .ok (.iconst 0, 1) := by decide +kernel
theorem dX4_readDigit_30 : decode cX4_readDigit 30 = .ok (.putfield 159, 3) := by decide +kernel
theorem dX4_readDigit_33 : decode cX4_readDigit 33 = .ok (.aload_n 0, 1) := by decide +kernel
theorem dX4_readDigit_34 : decode cX4_readDigit 34 = .ok (.getfield 159, 3) := by decide +kernel
theorem dX4_readDigit_37 : decode cX4_readDigit 37 = .ok (.ifCond .eq 5, 3) := by decide +kernel
theorem dX4_readDigit_40 : decode cX4_readDigit 40 = .ok (.iconst 0, 1) := by decide +kernel
theorem dX4_readDigit_41 : decode cX4_readDigit 41 = .ok (.ireturn, 1) := by decide +kernel
theorem dX4_readDigit_42 : decode cX4_readDigit 42 = .ok (.aload_n 0, 1) := by decide +kernel
theorem dX4_readDigit_43 : decode cX4_readDigit 43 = .ok (.dup, 1) := by decide +kernel
theorem dX4_readDigit_44 : decode cX4_readDigit 44 = .ok (.getfield 156, 3) := by decide +kernel
theorem dX4_readDigit_47 : decode cX4_readDigit 47 = .ok (.iconst 1, 1) := by decide +kernel
theorem dX4_readDigit_48 : decode cX4_readDigit 48 = .ok (.iadd, 1) := by decide +kernel
theorem dX4_readDigit_49 : decode cX4_readDigit 49 = .ok (.putfield 156, 3) := by decide +kernel
theorem dX4_readDigit_52 : decode cX4_readDigit 52 = .ok (.aload_n 0, 1) := by decide +kernel
theorem dX4_readDigit_53 : decode cX4_readDigit 53 = .ok (.getfield 56, 3) := by decide +kernel
theorem dX4_readDigit_56 : decode cX4_readDigit 56 = .ok (.aload_n 0, 1) := by decide +kernel
theorem dX4_readDigit_57 : decode cX4_readDigit 57 = .ok (.getfield 156, 3) := by decide +kernel
theorem dX4_readDigit_60 : decode cX4_readDigit 60 = .ok (.iconst 1, 1) := by decide +kernel
theorem dX4_readDigit_61 : decode cX4_readDigit 61 = .ok (.isub, 1) := by decide +kernel
theorem dX4_readDigit_62 : decode cX4_readDigit 62 = .ok (.iaload, 1) := by decide +kernel
theorem dX4_readDigit_63 : decode cX4_readDigit 63 = .ok (.bipush 48, 2) := by decide +kernel
theorem dX4_readDigit_65 : decode cX4_readDigit 65 = .ok (.isub, 1) := by decide +kernel
theorem dX4_readDigit_66 : decode cX4_readDigit 66 = .ok (.ireturn, 1) := by decide +kernel
theorem dX4_readStatement_0 : decode cX4_readStatement 0 = .ok (.aload_n 0, 1) := by decide +kernel
theorem dX4_readStatement_1 : decode cX4_readStatement 1 = .ok (.getfield 169, 3) := by decide +kernel
theorem dX4_readStatement_4 : decode cX4_readStatement 4 = .ok (.istore_n 1, 1) := by decide +kernel
theorem dX4_readStatement_5 : decode cX4_readStatement 5 = .ok (.aload_n 0, 1) := by decide +kernel
theorem dX4_readStatement_6 : decode cX4_readStatement 6 = .ok (.invokevirtual 162, 3) := by decide +kernel
theorem dX4_readStatement_9 : decode cX4_readStatement 9 = .ok (.istore_n 2, 1) := by decide +kernel
theorem dX4_readStatement_10 : decode cX4_readStatement 10 = .ok (.aload_n 0, 1) := by decide +kernel
theorem dX4_readStatement_11 : decode cX4_readStatement 11 = .ok (.getfield 59, 3) := by decide +kernel
theorem dX4_readStatement_14 : decode cX4_readStatement 14 = .ok (.iload_n 1, 1) := by decide +kernel
theorem dX4_readStatement_15 : decode cX4_readStatement 15 = .ok (.aload_n 0, 1) := by decide +kernel
theorem dX4_readStatement_16 : decode cX4_readStatement 16 = .ok (.getfield 156, 3) := by decide +kernel
theorem dX4_readStatement_19 : decode cX4_readStatement 19 = .ok (.iastore, 1) := by decide +kernel
theorem dX4_readStatement_20 : decode cX4_readStatement 20 = .ok (.aload_n 0, 1) := by decide +kernel
theorem dX4_readStatement_21 : decode cX4_readStatement 21 = .ok (.getfield 62, 3) := by decide +kernel
theorem dX4_readStatement_24 : decode cX4_readStatement 24 = .ok (.iload_n 1, 1) := by decide +kernel
theorem dX4_readStatement_25 : decode cX4_readStatement 25 = .ok (.iload_n 2, 1) := by decide +kernel
theorem dX4_readStatement_26 : decode cX4_readStatement 26 = .ok (.iastore, 1) := by decide +kernel
theorem dX4_readStatement_27 : decode cX4_readStatement 27 = .ok (.aload_n 0, 1) := by decide +kernel
theorem dX4_readStatement_28 : decode cX4_readStatement 28 = .ok (.aload_n 0, 1) := by decide +kernel
theorem dX4_readStatement_29 : decode cX4_readStatement 29 = .ok (.getfield 159, 3) := by decide +kernel
theorem dX4_readStatement_32 : decode cX4_readStatement 32 = .ok (.ifCond .ne 33, 3) := by decide +kernel
theorem dX4_readStatement_35 : decode cX4_readStatement 35 = .ok (.iload_n 2, 1) := by decide +kernel
theorem dX4_readStatement_36 : decode cX4_readStatement 36 = .ok (.bipush 110, 2) := by decide +kernel
theorem dX4_readStatement_38 : decode cX4_readStatement 38 = .ok (.if_icmp .eq 31, 3) := by decide +kernel
theorem dX4_readStatement_41 : decode cX4_readStatement 41 = .ok (.iload_n 2, 1) := by decide +kernel
theorem dX4_readStatement_42 : decode cX4_readStatement 42 = .ok (.bipush 104, 2) := by decide +kernel
theorem dX4_readStatement_44 : decode cX4_readStatement 44 = .ok (.if_icmp .eq 25, 3) := by decide +kernel
theorem dX4_readStatement_47 : decode cX4_readStatement 47 = .ok (.iload_n 2, 1) := by decide +kernel
theorem dX4_readStatement_48 : decode cX4_readStatement 48 = .ok (.bipush 116, 2) := by decide +kernel
theorem dX4_readStatement_50 : decode cX4_readStatement 50 = .ok (.if_icmp .eq 19, 3) := by decide +kernel
theorem dX4_readStatement_53 : decode cX4_readStatement 53 = .ok (.iload_n 2, 1) := by decide +kernel
theorem dX4_readStatement_54 : decode cX4_readStatement 54 = .ok (.bipush 114, 2) := by decide +kernel
theorem dX4_readStatement_56 : decode cX4_readStatement 56 = .ok (.if_icmp .eq 13, 3) := by decide +kernel
theorem dX4_readStatement_59 : decode cX4_readStatement 59 = .ok (.iload_n 2, 1) := by decide +kernel
theorem dX4_readStatement_60 : decode cX4_readStatement 60 = .ok (.bipush 101, 2) := by decide +kernel
theorem dX4_readStatement_62 : decode cX4_readStatement 62 = .ok (.if_icmp .eq 7, 3) := by decide +kernel
theorem dX4_readStatement_65 : decode cX4_readStatement 65 = .ok (.iconst 1, 1) := by decide +kernel
theorem dX4_readStatement_66 : decode cX4_readStatement 66 = .ok (.goto 4, 3) := by decide +kernel
theorem dX4_readStatement_69 : decode cX4_readStatement 69 = .ok (.iconst 0, 1) := by decide +kernel
theorem dX4_readStatement_70 : decode cX4_readStatement 70 = .ok (.putfield 159, 3) := by decide +kernel
theorem dX4_readStatement_73 : decode cX4_readStatement 73 = .ok (.aload_n 0, 1) := by decide +kernel
theorem dX4_readStatement_74 : decode cX4_readStatement 74 = .ok (.dup, 1) := by decide +kernel
theorem dX4_readStatement_75 : decode cX4_readStatement 75 = .ok (.getfield 156, 3) := by decide +kernel
theorem dX4_readStatement_78 : decode cX4_readStatement 78 = .ok (.aload_n 0, 1) := by decide +kernel
theorem dX4_readStatement_79 : decode cX4_readStatement 79 = .ok (.getfield 159, 3) := by decide +kernel
theorem dX4_readStatement_82 : decode cX4_readStatement 82 = .ok (.ifCond .eq 7, 3) := by decide +kernel
theorem dX4_readStatement_85 : decode cX4_readStatement 85 = .ok (.iconst 0, 1) := by decide +kernel
theorem dX4_readStatement_86 : decode cX4_readStatement 86 = .ok (.goto 4, 3) := by decide +kernel
theorem dX4_readStatement_89 : decode cX4_readStatement 89 = .ok (.iconst 1, 1) := by decide +kernel
theorem dX4_readStatement_90 : decode cX4_readStatement 90 = .ok (.iadd, 1) := by decide +kernel
theorem dX4_readStatement_91 : decode cX4_readStatement 91 = .ok (.putfield 156, 3) := by decide +kernel
theorem dX4_readStatement_94 : decode cX4_readStatement 94 = .ok (.iload_n 2, 1) := by decide +kernel
theorem dX4_readStatement_95 : decode cX4_readStatement 95 = .ok (.bipush 110, 2) := by decide +kernel
theorem dX4_readStatement_97 : decode cX4_readStatement 97 = .ok (.if_icmp .ne 7, 3) := by decide +kernel
theorem dX4_readStatement_100 : decode cX4_readStatement 100 = .ok (.iconst 4, 1) := by decide +kernel
theorem dX4_readStatement_101 : decode cX4_readStatement 101 = .ok (.goto 20, 3) := by decide +kernel
theorem dX4_readStatement_104 : decode cX4_readStatement 104 = .ok (.iload_n 2, 1) := by decide +kernel
theorem dX4_readStatement_105 : decode cX4_readStatement 105 = .ok (.bipush 104, 2) := by decide +kernel
theorem dX4_readStatement_107 : decode cX4_readStatement 107 = .ok (.if_icmp .eq 9, 3) := by decide +kernel
theorem dX4_readStatement_110 : decode cX4_readStatement 110 = .ok (.iload_n 2, 1) := by decide +kernel
theorem dX4_readStatement_111 : decode cX4_readStatement 111 = .ok (.bipush 101, 2) := by decide +kernel
theorem dX4_readStatement_113 : decode cX4_readStatement 113 = .ok (.if_icmp .ne 7, 3) := by decide +kernel
theorem dX4_readStatement_116 : decode cX4_readStatement 116 = .ok (.iconst 2, 1) := by decide +kernel
theorem dX4_readStatement_117 : decode cX4_readStatement 117 = .ok (.goto 4, 3) := by decide +kernel
theorem dX4_readStatement_120 : decode cX4_readStatement 120 = .ok (.iconst 1, 1) := by decide +kernel
theorem dX4_readStatement_121 : decode cX4_readStatement 121 = .ok (.istore_n 3, 1) := by decide +kernel
theorem dX4_readStatement_122 : decode cX4_readStatement 122 = .ok (.iconst 0, 1) := by decide +kernel
theorem dX4_readStatement_123 : decode cX4_readStatement 123 = .ok (.istore 4, 2) := by decide +kernel
theorem dX4_readStatement_125 : decode cX4_readStatement 125 = .ok (.iload 4, 2) := by decide +kernel
theorem dX4_readStatement_127 : decode cX4_readStatement 127 = .ok (.iload_n 3, 1) := by decide +kernel
theorem dX4_readStatement_128 : decode cX4_readStatement 128 = .ok (.if_icmp .ge 24, 3) := by decide +kernel
theorem dX4_readStatement_131 : decode cX4_readStatement 131 = .ok (.aload_n 0, 1) := by decide +kernel
theorem dX4_readStatement_132 : decode cX4_readStatement 132 = .ok (.getfield 65, 3) := by decide +kernel
theorem dX4_readStatement_135 : decode cX4_readStatement 135 = .ok (.iconst 4, 1) := by decide +kernel
theorem dX4_readStatement_136 : decode cX4_readStatement 136 = .ok (.iload_n 1, 1) := by decide +kernel
theorem dX4_readStatement_137 : decode cX4_readStatement 137 = .ok (.imul, 1) := by decide +kernel
theorem dX4_readStatement_138 : decode cX4_readStatement 138 = .ok (.iload 4, 2) := by decide +kernel
theorem dX4_readStatement_140 : decode cX4_readStatement 140 = .ok (.iadd, 1) := by decide +kernel
theorem dX4_readStatement_141 : decode cX4_readStatement 141 = .ok (.aload_n 0, 1) := by decide +kernel
theorem dX4_readStatement_142 : decode cX4_readStatement 142 = .ok (.invokevirtual 172, 3) := by decide +kernel
theorem dX4_readStatement_145 : decode cX4_readStatement 145 = .ok (.iastore, 1) := by decide +kernel
theorem dX4_readStatement_146 : decode cX4_readStatement 146 = .ok (.iinc 4 1, 3) := by decide +kernel
theorem dX4_readStatement_149 : decode cX4_readStatement 149 = .ok (.goto (-24), 3) := by decide +kernel
theorem dX4_readStatement_152 : decode cX4_readStatement 152 = .ok (.aload_n 0, 1) := by decide +kernel
theorem dX4_readStatement_153 : decode cX4_readStatement 153 = .ok (.getfield 159, 3) := by decide +kernel
theorem dX4_readStatement_156 : decode cX4_readStatement 156 = .ok (.ifCond .ne 50, 3) := by decide +kernel
theorem dX4_readStatement_159 : decode cX4_readStatement 159 = .ok (.iload_n 2, 1) := by decide +kernel
theorem dX4_readStatement_160 : decode cX4_readStatement 160 = .ok (.bipush 116, 2) := by decide +kernel
theorem dX4_readStatement_162 : decode cX4_readStatement 162 = .ok (.if_icmp .ne 44, 3) := by decide +kernel
theorem dX4_readStatement_165 : decode cX4_readStatement 165 = .ok (.aload_n 0, 1) := by decide +kernel
theorem dX4_readStatement_166 : decode cX4_readStatement 166 = .ok (.invokevirtual 162, 3) := by decide +kernel
theorem dX4_readStatement_169 : decode cX4_readStatement 169 = .ok (.i2l, 1) := by decide +kernel
theorem dX4_readStatement_170 : decode cX4_readStatement 170 = .ok (.ldc2_w 165, 3) := by decide +kernel
theorem dX4_readStatement_173 : decode cX4_readStatement 173 = .ok (.ldc2_w 167, 3) := by decide +kernel
theorem dX4_readStatement_176 : decode cX4_readStatement 176 = .ok (.invokestatic 80, 3) := by decide +kernel
theorem dX4_readStatement_179 : decode cX4_readStatement 179 = .ok (.ifCond .eq 27, 3) := by decide +kernel
theorem dX4_readStatement_182 : decode cX4_readStatement 182 = .ok (.aload_n 0, 1) := by decide +kernel
theorem dX4_readStatement_183 : decode cX4_readStatement 183 = .ok (.getfield 65, 3) := by decide +kernel
theorem dX4_readStatement_186 : decode cX4_readStatement 186 = .ok (.iconst 4, 1) := by decide +kernel
theorem dX4_readStatement_187 : decode cX4_readStatement 187 = .ok (.iload_n 1, 1) := by decide +kernel
theorem dX4_readStatement_188 : decode cX4_readStatement 188 = .ok (.imul, 1) := by decide +kernel
theorem dX4_readStatement_189 : decode cX4_readStatement 189 = .ok (.bipush 10, 2) := by decide +kernel
theorem dX4_readStatement_191 : decode cX4_readStatement 191 = .ok (.aload_n 0, 1) := by decide +kernel
theorem dX4_readStatement_192 : decode cX4_readStatement 192 = .ok (.getfield 65, 3) := by decide +kernel
theorem dX4_readStatement_195 : decode cX4_readStatement 195 = .ok (.iconst 4, 1) := by decide +kernel
theorem dX4_readStatement_196 : decode cX4_readStatement 196 = .ok (.iload_n 1, 1) := by decide +kernel
theorem dX4_readStatement_197 : decode cX4_readStatement 197 = .ok (.imul, 1) := by decide +kernel
theorem dX4_readStatement_198 : decode cX4_readStatement 198 = .ok (.iaload, 1) := by decide +kernel
theorem dX4_readStatement_199 : decode cX4_readStatement 199 = .ok (.imul, 1) := by decide +kernel
theorem dX4_readStatement_200 : decode cX4_readStatement 200 = .ok (.aload_n 0, 1) := by decide +kernel
theorem dX4_readStatement_201 : decode cX4_readStatement 201 = .ok (.invokevirtual 172, 3) := by decide +kernel
theorem dX4_readStatement_204 : decode cX4_readStatement 204 = .ok (.iadd, 1) := by decide +kernel
theorem dX4_readStatement_205 : decode cX4_readStatement 205 = .ok (.iastore, 1) := by decide +kernel
theorem dX4_readStatement_206 : decode cX4_readStatement 206 = .ok (.aload_n 0, 1) := by decide +kernel
theorem dX4_readStatement_207 : decode cX4_readStatement 207 = .ok (.aload_n 0, 1) := by decide +kernel
theorem dX4_readStatement_208 : decode cX4_readStatement 208 = .ok (.getfield 159, 3) := by decide +kernel
theorem dX4_readStatement_211 : decode cX4_readStatement 211 = .ok (.ifCond .ne 12, 3) := by decide +kernel
theorem dX4_readStatement_214 : decode cX4_readStatement 214 = .ok (.aload_n 0, 1) := by decide +kernel
theorem dX4_readStatement_215 : decode cX4_readStatement 215 = .ok (.invokevirtual 162, 3) := by decide +kernel
theorem dX4_readStatement_218 : decode cX4_readStatement 218 = .ok (.bipush 59, 2) := by decide +kernel
theorem dX4_readStatement_220 : decode cX4_readStatement 220 = .ok (.if_icmp .eq 7, 3) := by decide +kernel
theorem dX4_readStatement_223 : decode cX4_readStatement 223 = .ok (.iconst 1, 1) := by decide +kernel
theorem dX4_readStatement_224 : decode cX4_readStatement 224 = .ok (.goto 4, 3) := by decide +kernel
theorem dX4_readStatement_227 : decode cX4_readStatement 227 = .ok (.iconst 0, 1) := by decide +kernel
theorem dX4_readStatement_228 : decode cX4_readStatement 228 = .ok (.putfield 159, 3) := by decide +kernel
theorem dX4_readStatement_231 : decode cX4_readStatement 231 = .ok (.aload_n 0, 1) := by decide +kernel
theorem dX4_readStatement_232 : decode cX4_readStatement 232 = .ok (.dup, 1) := by decide +kernel
theorem dX4_readStatement_233 : decode cX4_readStatement 233 = .ok (.getfield 156, 3) := by decide +kernel
theorem dX4_readStatement_236 : decode cX4_readStatement 236 = .ok (.aload_n 0, 1) := by decide +kernel
theorem dX4_readStatement_237 : decode cX4_readStatement 237 = .ok (.getfield 159, 3) := by decide +kernel
theorem dX4_readStatement_240 : decode cX4_readStatement 240 = .ok (.ifCond .eq 7, 3) := by decide +kernel
theorem dX4_readStatement_243 : decode cX4_readStatement 243 = .ok (.iconst 0, 1) := by decide +kernel
theorem dX4_readStatement_244 : decode cX4_readStatement 244 = .ok (.goto 4, 3) := by decide +kernel
theorem dX4_readStatement_247 : decode cX4_readStatement 247 = .ok (.iconst 1, 1) := by decide +kernel
theorem dX4_readStatement_248 : decode cX4_readStatement 248 = .ok (.iadd, 1) := by decide +kernel
theorem dX4_readStatement_249 : decode cX4_readStatement 249 = .ok (.putfield 156, 3) := by decide +kernel
theorem dX4_readStatement_252 : decode cX4_readStatement 252 = .ok (.aload_n 0, 1) := by decide +kernel
theorem dX4_readStatement_253 : decode cX4_readStatement 253 = .ok (.dup, 1) := by decide +kernel
theorem dX4_readStatement_254 : decode cX4_readStatement 254 = .ok (.getfield 169, 3) := by decide +kernel
theorem dX4_readStatement_257 : decode cX4_readStatement 257 = .ok (.iconst 1, 1) := by decide +kernel
theorem dX4_readStatement_258 : decode cX4_readStatement 258 = .ok (.iadd, 1) := by decide +kernel
theorem dX4_readStatement_259 : decode cX4_readStatement 259 = .ok (.putfield 169, 3) := by decide +kernel
theorem dX4_readStatement_262 : decode cX4_readStatement 262 = .ok (.return_, 1) := by decide +kernel
theorem dX4_comes_0 : decode cX4_comes 0 = .ok (.aload_n 0, 1) := by decide +kernel
theorem dX4_comes_1 : decode cX4_comes 1 = .ok (.getfield 65, 3) := by decide +kernel
theorem dX4_comes_4 : decode cX4_comes 4 = .ok (.iconst 4, 1) := by decide +kernel
theorem dX4_comes_5 : decode cX4_comes 5 = .ok (.iload_n 1, 1) := by decide +kernel
theorem dX4_comes_6 : decode cX4_comes 6 = .ok (.imul, 1) := by decide +kernel
theorem dX4_comes_7 : decode cX4_comes 7 = .ok (.iaload, 1) := by decide +kernel
theorem dX4_comes_8 : decode cX4_comes 8 = .ok (.istore_n 2, 1) := by decide +kernel
theorem dX4_comes_9 : decode cX4_comes 9 = .ok (.aload_n 0, 1) := by decide +kernel
theorem dX4_comes_10 : decode cX4_comes 10 = .ok (.getfield 65, 3) := by decide +kernel
theorem dX4_comes_13 : decode cX4_comes 13 = .ok (.iconst 4, 1) := by decide +kernel
theorem dX4_comes_14 : decode cX4_comes 14 = .ok (.iload_n 1, 1) := by decide +kernel
theorem dX4_comes_15 : decode cX4_comes 15 = .ok (.imul, 1) := by decide +kernel
theorem dX4_comes_16 : decode cX4_comes 16 = .ok (.iconst 1, 1) := by decide +kernel
theorem dX4_comes_17 : decode cX4_comes 17 = .ok (.iadd, 1) := by decide +kernel
theorem dX4_comes_18 : decode cX4_comes 18 = .ok (.iaload, 1) := by decide +kernel
theorem dX4_comes_19 : decode cX4_comes 19 = .ok (.istore_n 3, 1) := by decide +kernel
theorem dX4_comes_20 : decode cX4_comes 20 = .ok (.aload_n 0, 1) := by decide +kernel
theorem dX4_comes_21 : decode cX4_comes 21 = .ok (.getfield 62, 3) := by decide +kernel
theorem dX4_comes_24 : decode cX4_comes 24 = .ok (.iload_n 1, 1) := by decide +kernel
theorem dX4_comes_25 : decode cX4_comes 25 = .ok (.iaload, 1) := by decide +kernel
theorem dX4_comes_26 : decode cX4_comes 26 = .ok (.lookupswitch 209 #[(104, 155), (110, 42), (114, 194), (116, 177)], 42) := by decide +kernel
theorem dX4_comes_68 : decode cX4_comes 68 = .ok (.aload_n 0, 1) := by decide +kernel
theorem dX4_comes_69 : decode cX4_comes 69 = .ok (.getfield 77, 3) := by decide +kernel
theorem dX4_comes_72 : decode cX4_comes 72 = .ok (.bipush 6, 2) := by decide +kernel
theorem dX4_comes_74 : decode cX4_comes 74 = .ok (.if_icmp .ne 5, 3) := by decide +kernel
theorem dX4_comes_77 : decode cX4_comes 77 = .ok (.iconst 0, 1) := by decide +kernel
theorem dX4_comes_78 : decode cX4_comes 78 = .ok (.ireturn, 1) := by decide +kernel
theorem dX4_comes_79 : decode cX4_comes 79 = .ok (.aload_n 0, 1) := by decide +kernel
theorem dX4_comes_80 : decode cX4_comes 80 = .ok (.getfield 19, 3) := by decide +kernel
theorem dX4_comes_83 : decode cX4_comes 83 = .ok (.aload_n 0, 1) := by decide +kernel
theorem dX4_comes_84 : decode cX4_comes 84 = .ok (.getfield 77, 3) := by decide +kernel
theorem dX4_comes_87 : decode cX4_comes 87 = .ok (.iload_n 2, 1) := by decide +kernel
theorem dX4_comes_88 : decode cX4_comes 88 = .ok (.iastore, 1) := by decide +kernel
theorem dX4_comes_89 : decode cX4_comes 89 = .ok (.aload_n 0, 1) := by decide +kernel
theorem dX4_comes_90 : decode cX4_comes 90 = .ok (.getfield 23, 3) := by decide +kernel
theorem dX4_comes_93 : decode cX4_comes 93 = .ok (.aload_n 0, 1) := by decide +kernel
theorem dX4_comes_94 : decode cX4_comes 94 = .ok (.getfield 77, 3) := by decide +kernel
theorem dX4_comes_97 : decode cX4_comes 97 = .ok (.iload_n 3, 1) := by decide +kernel
theorem dX4_comes_98 : decode cX4_comes 98 = .ok (.iastore, 1) := by decide +kernel
theorem dX4_comes_99 : decode cX4_comes 99 = .ok (.aload_n 0, 1) := by decide +kernel
theorem dX4_comes_100 : decode cX4_comes 100 = .ok (.getfield 26, 3) := by decide +kernel
theorem dX4_comes_103 : decode cX4_comes 103 = .ok (.aload_n 0, 1) := by decide +kernel
theorem dX4_comes_104 : decode cX4_comes 104 = .ok (.getfield 77, 3) := by decide +kernel
theorem dX4_comes_107 : decode cX4_comes 107 = .ok (.aload_n 0, 1) := by decide +kernel
theorem dX4_comes_108 : decode cX4_comes 108 = .ok (.getfield 65, 3) := by decide +kernel
theorem dX4_comes_111 : decode cX4_comes 111 = .ok (.iconst 4, 1) := by decide +kernel
theorem dX4_comes_112 : decode cX4_comes 112 = .ok (.iload_n 1, 1) := by decide +kernel
theorem dX4_comes_113 : decode cX4_comes 113 = .ok (.imul, 1) := by decide +kernel
theorem dX4_comes_114 : decode cX4_comes 114 = .ok (.iconst 2, 1) := by decide +kernel
theorem dX4_comes_115 : decode cX4_comes 115 = .ok (.iadd, 1) := by decide +kernel
theorem dX4_comes_116 : decode cX4_comes 116 = .ok (.iaload, 1) := by decide +kernel
theorem dX4_comes_117 : decode cX4_comes 117 = .ok (.iastore, 1) := by decide +kernel
theorem dX4_comes_118 : decode cX4_comes 118 = .ok (.aload_n 0, 1) := by decide +kernel
theorem dX4_comes_119 : decode cX4_comes 119 = .ok (.getfield 29, 3) := by decide +kernel
theorem dX4_comes_122 : decode cX4_comes 122 = .ok (.aload_n 0, 1) := by decide +kernel
theorem dX4_comes_123 : decode cX4_comes 123 = .ok (.getfield 77, 3) := by decide +kernel
theorem dX4_comes_126 : decode cX4_comes 126 = .ok (.aload_n 0, 1) := by decide +kernel
theorem dX4_comes_127 : decode cX4_comes 127 = .ok (.getfield 65, 3) := by decide +kernel
theorem dX4_comes_130 : decode cX4_comes 130 = .ok (.iconst 4, 1) := by decide +kernel
theorem dX4_comes_131 : decode cX4_comes 131 = .ok (.iload_n 1, 1) := by decide +kernel
theorem dX4_comes_132 : decode cX4_comes 132 = .ok (.imul, 1) := by decide +kernel
theorem dX4_comes_133 : decode cX4_comes 133 = .ok (.iconst 3, 1) := by decide +kernel
theorem dX4_comes_134 : decode cX4_comes 134 = .ok (.iadd, 1) := by decide +kernel
theorem dX4_comes_135 : decode cX4_comes 135 = .ok (.iaload, 1) := by decide +kernel
theorem dX4_comes_136 : decode cX4_comes 136 = .ok (.iastore, 1) := by decide +kernel
theorem dX4_comes_137 : decode cX4_comes 137 = .ok (.iconst 0, 1) := by decide +kernel
theorem dX4_comes_138 : decode cX4_comes 138 = .ok (.istore 4, 2) := by decide +kernel
theorem dX4_comes_140 : decode cX4_comes 140 = .ok (.iload 4, 2) := by decide +kernel
theorem dX4_comes_142 : decode cX4_comes 142 = .ok (.bipush 10, 2) := by decide +kernel
theorem dX4_comes_144 : decode cX4_comes 144 = .ok (.if_icmp .ge 25, 3) := by decide +kernel
theorem dX4_comes_147 : decode cX4_comes 147 = .ok (.aload_n 0, 1) := by decide +kernel
theorem dX4_comes_148 : decode cX4_comes 148 = .ok (.getfield 32, 3) := by decide +kernel
theorem dX4_comes_151 : decode cX4_comes 151 = .ok (.bipush 10, 2) := by decide +kernel
theorem dX4_comes_153 : decode cX4_comes 153 = .ok (.aload_n 0, 1) := by decide +kernel
theorem dX4_comes_154 : decode cX4_comes 154 = .ok (.getfield 77, 3) := by decide +kernel
theorem dX4_comes_157 : decode cX4_comes 157 = .ok (.imul, 1) := by decide +kernel
theorem dX4_comes_158 : decode cX4_comes 158 = .ok (.iload 4, 2) := by decide +kernel
theorem dX4_comes_160 : decode cX4_comes 160 = .ok (.iadd, 1) := by decide +kernel
theorem dX4_comes_161 : decode cX4_comes 161 = .ok (.iconst 0, 1) := by decide +kernel
theorem dX4_comes_162 : decode cX4_comes 162 = .ok (.iastore, 1) := by decide +kernel
theorem dX4_comes_163 : decode cX4_comes 163 = .ok (.iinc 4 1, 3) := by decide +kernel
theorem dX4_comes_166 : decode cX4_comes 166 = .ok (.goto (-26), 3) := by decide +kernel
theorem dX4_comes_169 : decode cX4_comes 169 = .ok (.aload_n 0, 1) := by decide +kernel
theorem dX4_comes_170 : decode cX4_comes 170 = .ok (.dup, 1) := by decide +kernel
theorem dX4_comes_171 : decode cX4_comes 171 = .ok (.getfield 77, 3) := by decide +kernel
theorem dX4_comes_174 : decode cX4_comes 174 = .ok (.iconst 1, 1) := by decide +kernel
theorem dX4_comes_175 : decode cX4_comes 175 = .ok (.iadd, 1) := by decide +kernel
theorem dX4_comes_176 : decode cX4_comes 176 = .ok (.putfield 77, 3) := by decide +kernel
theorem dX4_comes_179 : decode cX4_comes 179 = .ok (.iconst 1, 1) := by decide +kernel
theorem dX4_comes_180 : decode cX4_comes 180 = .ok (.ireturn, 1) := by decide +kernel
theorem dX4_comes_181 : decode cX4_comes 181 = .ok (.aload_n 0, 1) := by decide +kernel
theorem dX4_comes_182 : decode cX4_comes 182 = .ok (.iload_n 2, 1) := by decide +kernel
theorem dX4_comes_183 : decode cX4_comes 183 = .ok (.putfield 95, 3) := by decide +kernel
theorem dX4_comes_186 : decode cX4_comes 186 = .ok (.aload_n 0, 1) := by decide +kernel
theorem dX4_comes_187 : decode cX4_comes 187 = .ok (.iload_n 3, 1) := by decide +kernel
theorem dX4_comes_188 : decode cX4_comes 188 = .ok (.putfield 98, 3) := by decide +kernel
theorem dX4_comes_191 : decode cX4_comes 191 = .ok (.iload_n 2, 1) := by decide +kernel
theorem dX4_comes_192 : decode cX4_comes 192 = .ok (.bipush 6, 2) := by decide +kernel
theorem dX4_comes_194 : decode cX4_comes 194 = .ok (.if_icmp .ge 7, 3) := by decide +kernel
theorem dX4_comes_197 : decode cX4_comes 197 = .ok (.iconst 1, 1) := by decide +kernel
theorem dX4_comes_198 : decode cX4_comes 198 = .ok (.goto 4, 3) := by decide +kernel
theorem dX4_comes_201 : decode cX4_comes 201 = .ok (.iconst 0, 1) := by decide +kernel
theorem dX4_comes_202 : decode cX4_comes 202 = .ok (.ireturn, 1) := by decide +kernel
theorem dX4_comes_203 : decode cX4_comes 203 = .ok (.aload_n 0, 1) := by decide +kernel
theorem dX4_comes_204 : decode cX4_comes 204 = .ok (.iload_n 2, 1) := by decide +kernel
theorem dX4_comes_205 : decode cX4_comes 205 = .ok (.putfield 7, 3) := by decide +kernel
theorem dX4_comes_208 : decode cX4_comes 208 = .ok (.iload_n 2, 1) := by decide +kernel
theorem dX4_comes_209 : decode cX4_comes 209 = .ok (.bipush 40, 2) := by decide +kernel
theorem dX4_comes_211 : decode cX4_comes 211 = .ok (.if_icmp .gt 7, 3) := by decide +kernel
theorem dX4_comes_214 : decode cX4_comes 214 = .ok (.iconst 1, 1) := by decide +kernel
theorem dX4_comes_215 : decode cX4_comes 215 = .ok (.goto 4, 3) := by decide +kernel
theorem dX4_comes_218 : decode cX4_comes 218 = .ok (.iconst 0, 1) := by decide +kernel
theorem dX4_comes_219 : decode cX4_comes 219 = .ok (.ireturn, 1) := by decide +kernel
theorem dX4_comes_220 : decode cX4_comes 220 = .ok (.aload_n 0, 1) := by decide +kernel
theorem dX4_comes_221 : decode cX4_comes 221 = .ok (.iload_n 2, 1) := by decide +kernel
theorem dX4_comes_222 : decode cX4_comes 222 = .ok (.putfield 13, 3) := by decide +kernel
theorem dX4_comes_225 : decode cX4_comes 225 = .ok (.iload_n 2, 1) := by decide +kernel
theorem dX4_comes_226 : decode cX4_comes 226 = .ok (.ifCond .le 7, 3) := by decide +kernel
theorem dX4_comes_229 : decode cX4_comes 229 = .ok (.iconst 1, 1) := by decide +kernel
theorem dX4_comes_230 : decode cX4_comes 230 = .ok (.goto 4, 3) := by decide +kernel
theorem dX4_comes_233 : decode cX4_comes 233 = .ok (.iconst 0, 1) := by decide +kernel
theorem dX4_comes_234 : decode cX4_comes 234 = .ok (.ireturn, 1) := by decide +kernel
theorem dX4_comes_235 : decode cX4_comes 235 = .ok (.aload_n 0, 1) := by decide +kernel
theorem dX4_comes_236 : decode cX4_comes 236 = .ok (.iload_n 2, 1) := by decide +kernel
theorem dX4_comes_237 : decode cX4_comes 237 = .ok (.invokevirtual 175, 3) := by decide +kernel
theorem dX4_comes_240 : decode cX4_comes 240 = .ok (.ifCond .eq 19, 3) := by decide +kernel
theorem dX4_comes_243 : decode cX4_comes 243 = .ok (.aload_n 0, 1) := by decide +kernel
theorem dX4_comes_244 : decode cX4_comes 244 = .ok (.getfield 32, 3) := by decide +kernel
theorem dX4_comes_247 : decode cX4_comes 247 = .ok (.bipush 10, 2) := by decide +kernel
theorem dX4_comes_249 : decode cX4_comes 249 = .ok (.iload_n 2, 1) := by decide +kernel
theorem dX4_comes_250 : decode cX4_comes 250 = .ok (.imul, 1) := by decide +kernel
theorem dX4_comes_251 : decode cX4_comes 251 = .ok (.iload_n 3, 1) := by decide +kernel
theorem dX4_comes_252 : decode cX4_comes 252 = .ok (.iadd, 1) := by decide +kernel
theorem dX4_comes_253 : decode cX4_comes 253 = .ok (.iaload, 1) := by decide +kernel
theorem dX4_comes_254 : decode cX4_comes 254 = .ok (.bipush 9, 2) := by decide +kernel
theorem dX4_comes_256 : decode cX4_comes 256 = .ok (.if_icmp .ne 5, 3) := by decide +kernel
theorem dX4_comes_259 : decode cX4_comes 259 = .ok (.iconst 0, 1) := by decide +kernel
theorem dX4_comes_260 : decode cX4_comes 260 = .ok (.ireturn, 1) := by decide +kernel
theorem dX4_comes_261 : decode cX4_comes 261 = .ok (.aload_n 0, 1) := by decide +kernel
theorem dX4_comes_262 : decode cX4_comes 262 = .ok (.getfield 32, 3) := by decide +kernel
theorem dX4_comes_265 : decode cX4_comes 265 = .ok (.bipush 10, 2) := by decide +kernel
theorem dX4_comes_267 : decode cX4_comes 267 = .ok (.iload_n 2, 1) := by decide +kernel
theorem dX4_comes_268 : decode cX4_comes 268 = .ok (.imul, 1) := by decide +kernel
theorem dX4_comes_269 : decode cX4_comes 269 = .ok (.iload_n 3, 1) := by decide +kernel
theorem dX4_comes_270 : decode cX4_comes 270 = .ok (.iadd, 1) := by decide +kernel
theorem dX4_comes_271 : decode cX4_comes 271 = .ok (.dup2, 1) := by decide +kernel
theorem dX4_comes_272 : decode cX4_comes 272 = .ok (.iaload, 1) := by decide +kernel
theorem dX4_comes_273 : decode cX4_comes 273 = .ok (.iconst 1, 1) := by decide +kernel
theorem dX4_comes_274 : decode cX4_comes 274 = .ok (.iadd, 1) := by decide +kernel
theorem dX4_comes_275 : decode cX4_comes 275 = .ok (.iastore, 1) := by decide +kernel
theorem dX4_comes_276 : decode cX4_comes 276 = .ok (.iconst 1, 1) := by decide +kernel
theorem dX4_comes_277 : decode cX4_comes 277 = .ok (.ireturn, 1) := by decide +kernel
theorem dX4_farm_0 : decode cX4_farm 0 = .ok (.aload_n 0, 1) := by decide +kernel
theorem dX4_farm_1 : decode cX4_farm 1 = .ok (.iconst 0, 1) := by decide +kernel
theorem dX4_farm_2 : decode cX4_farm 2 = .ok (.putfield 74, 3) := by decide +kernel
theorem dX4_farm_5 : decode cX4_farm 5 = .ok (.aload_n 0, 1) := by decide +kernel
theorem dX4_farm_6 : decode cX4_farm 6 = .ok (.iconst 0, 1) := by decide +kernel
theorem dX4_farm_7 : decode cX4_farm 7 = .ok (.putfield 156, 3) := by decide +kernel
theorem dX4_farm_10 : decode cX4_farm 10 = .ok (.aload_n 0, 1) := by decide +kernel
theorem dX4_farm_11 : decode cX4_farm 11 = .ok (.iconst 0, 1) := by decide +kernel
theorem dX4_farm_12 : decode cX4_farm 12 = .ok (.putfield 159, 3) := by decide +kernel
theorem dX4_farm_15 : decode cX4_farm 15 = .ok (.aload_n 0, 1) := by decide +kernel
theorem dX4_farm_16 : decode cX4_farm 16 = .ok (.iconst 0, 1) := by decide +kernel
theorem dX4_farm_17 : decode cX4_farm 17 = .ok (.putfield 169, 3) := by decide +kernel
theorem dX4_farm_20 : decode cX4_farm 20 = .ok (.aload_n 0, 1) := by decide +kernel
theorem dX4_farm_21 : decode cX4_farm 21 = .ok (.getfield 159, 3) := by decide +kernel
theorem dX4_farm_24 : decode cX4_farm 24 = .ok (.ifCond .ne 28, 3) := by decide +kernel
theorem dX4_farm_27 : decode cX4_farm 27 = .ok (.aload_n 0, 1) := by decide +kernel
theorem dX4_farm_28 : decode cX4_farm 28 = .ok (.getfield 169, 3) := by decide +kernel
theorem dX4_farm_31 : decode cX4_farm 31 = .ok (.ifCond .eq 14, 3) := by decide +kernel
theorem dX4_farm_34 : decode cX4_farm 34 = .ok (.aload_n 0, 1) := by decide +kernel
theorem dX4_farm_35 : decode cX4_farm 35 = .ok (.getfield 156, 3) := by decide +kernel
theorem dX4_farm_38 : decode cX4_farm 38 = .ok (.aload_n 0, 1) := by decide +kernel
theorem dX4_farm_39 : decode cX4_farm 39 = .ok (.getfield 153, 3) := by decide +kernel
theorem dX4_farm_42 : decode cX4_farm 42 = .ok (.if_icmp .ge 10, 3) := by decide +kernel
theorem dX4_farm_45 : decode cX4_farm 45 = .ok (.aload_n 0, 1) := by decide +kernel
theorem dX4_farm_46 : decode cX4_farm 46 = .ok (.invokevirtual 179, 3) := by decide +kernel
theorem dX4_farm_49 : decode cX4_farm 49 = .ok (.goto (-29), 3) := by decide +kernel
theorem dX4_farm_52 : decode cX4_farm 52 = .ok (.aload_n 0, 1) := by decide +kernel
theorem dX4_farm_53 : decode cX4_farm 53 = .ok (.iconst 0, 1) := by decide +kernel
theorem dX4_farm_54 : decode cX4_farm 54 = .ok (.putfield 153, 3) := by decide +kernel
theorem dX4_farm_57 : decode cX4_farm 57 = .ok (.aload_n 0, 1) := by decide +kernel
theorem dX4_farm_58 : decode cX4_farm 58 = .ok (.getfield 159, 3) := by decide +kernel
theorem dX4_farm_61 : decode cX4_farm 61 = .ok (.ifCond .eq 12, 3) := by decide +kernel
theorem dX4_farm_64 : decode cX4_farm 64 = .ok (.sipush (-1000), 3) := by decide +kernel
theorem dX4_farm_67 : decode cX4_farm 67 = .ok (.aload_n 0, 1) := by decide +kernel
theorem dX4_farm_68 : decode cX4_farm 68 = .ok (.getfield 156, 3) := by decide +kernel
theorem dX4_farm_71 : decode cX4_farm 71 = .ok (.isub, 1) := by decide +kernel
theorem dX4_farm_72 : decode cX4_farm 72 = .ok (.ireturn, 1) := by decide +kernel
theorem dX4_farm_73 : decode cX4_farm 73 = .ok (.aload_n 0, 1) := by decide +kernel
theorem dX4_farm_74 : decode cX4_farm 74 = .ok (.invokevirtual 182, 3) := by decide +kernel
theorem dX4_farm_77 : decode cX4_farm 77 = .ok (.iconst 0, 1) := by decide +kernel
theorem dX4_farm_78 : decode cX4_farm 78 = .ok (.istore_n 1, 1) := by decide +kernel
theorem dX4_farm_79 : decode cX4_farm 79 = .ok (.iload_n 1, 1) := by decide +kernel
theorem dX4_farm_80 : decode cX4_farm 80 = .ok (.aload_n 0, 1) := by decide +kernel
theorem dX4_farm_81 : decode cX4_farm 81 = .ok (.getfield 169, 3) := by decide +kernel
theorem dX4_farm_84 : decode cX4_farm 84 = .ok (.if_icmp .ge 32, 3) := by decide +kernel
theorem dX4_farm_87 : decode cX4_farm 87 = .ok (.aload_n 0, 1) := by decide +kernel
theorem dX4_farm_88 : decode cX4_farm 88 = .ok (.iload_n 1, 1) := by decide +kernel
theorem dX4_farm_89 : decode cX4_farm 89 = .ok (.invokevirtual 185, 3) := by decide +kernel
theorem dX4_farm_92 : decode cX4_farm 92 = .ok (.ifCond .ne 18, 3) := by decide +kernel
theorem dX4_farm_95 : decode cX4_farm 95 = .ok (.aload_n 0, 1) := by decide +kernel
theorem dX4_farm_96 : decode cX4_farm 96 = .ok (.invokevirtual 188, 3) := by decide +kernel
theorem dX4_farm_99 : decode cX4_farm 99 = .ok (.sipush (-2000), 3) := by decide +kernel
theorem dX4_farm_102 : decode cX4_farm 102 = .ok (.aload_n 0, 1) := by decide +kernel
theorem dX4_farm_103 : decode cX4_farm 103 = .ok (.getfield 59, 3) := by decide +kernel
theorem dX4_farm_106 : decode cX4_farm 106 = .ok (.iload_n 1, 1) := by decide +kernel
theorem dX4_farm_107 : decode cX4_farm 107 = .ok (.iaload, 1) := by decide +kernel
theorem dX4_farm_108 : decode cX4_farm 108 = .ok (.isub, 1) := by decide +kernel
theorem dX4_farm_109 : decode cX4_farm 109 = .ok (.ireturn, 1) := by decide +kernel
theorem dX4_farm_110 : decode cX4_farm 110 = .ok (.iinc 1 1, 3) := by decide +kernel
theorem dX4_farm_113 : decode cX4_farm 113 = .ok (.goto (-34), 3) := by decide +kernel
theorem dX4_farm_116 : decode cX4_farm 116 = .ok (.aload_n 0, 1) := by decide +kernel
theorem dX4_farm_117 : decode cX4_farm 117 = .ok (.getfield 169, 3) := by decide +kernel
theorem dX4_farm_120 : decode cX4_farm 120 = .ok (.ireturn, 1) := by decide +kernel
theorem dX4_nest_0 : decode cX4_nest 0 = .ok (.aload_n 0, 1) := by decide +kernel
theorem dX4_nest_1 : decode cX4_nest 1 = .ok (.iconst 0, 1) := by decide +kernel
theorem dX4_nest_2 : decode cX4_nest 2 = .ok (.putfield 74, 3) := by decide +kernel
theorem dX4_nest_5 : decode cX4_nest 5 = .ok (.aload_n 0, 1) := by decide +kernel
theorem dX4_nest_6 : decode cX4_nest 6 = .ok (.iload_n 1, 1) := by decide +kernel
theorem dX4_nest_7 : decode cX4_nest 7 = .ok (.invokevirtual 175, 3) := by decide +kernel
theorem dX4_nest_10 : decode cX4_nest 10 = .ok (.ifCond .ne 9, 3) := by decide +kernel
theorem dX4_nest_13 : decode cX4_nest 13 = .ok (.aload_n 0, 1) := by decide +kernel
theorem dX4_nest_14 : decode cX4_nest 14 = .ok (.iconst (-1), 1) := by decide +kernel
theorem dX4_nest_15 : decode cX4_nest 15 = .ok (.invokevirtual 150, 3) := by decide +kernel
theorem dX4_nest_18 : decode cX4_nest 18 = .ok (.ireturn, 1) := by decide +kernel
theorem dX4_nest_19 : decode cX4_nest 19 = .ok (.iload_n 2, 1) := by decide +kernel
theorem dX4_nest_20 : decode cX4_nest 20 = .ok (.tableswitch 108 0 7 #[48, 55, 62, 69, 76, 82, 88, 99], 48) := by decide +kernel
theorem dX4_nest_68 : decode cX4_nest 68 = .ok (.aload_n 0, 1) := by decide +kernel
theorem dX4_nest_69 : decode cX4_nest 69 = .ok (.getfield 19, 3) := by decide +kernel
theorem dX4_nest_72 : decode cX4_nest 72 = .ok (.iload_n 1, 1) := by decide +kernel
theorem dX4_nest_73 : decode cX4_nest 73 = .ok (.iaload, 1) := by decide +kernel
theorem dX4_nest_74 : decode cX4_nest 74 = .ok (.ireturn, 1) := by decide +kernel
theorem dX4_nest_75 : decode cX4_nest 75 = .ok (.aload_n 0, 1) := by decide +kernel
theorem dX4_nest_76 : decode cX4_nest 76 = .ok (.getfield 23, 3) := by decide +kernel
theorem dX4_nest_79 : decode cX4_nest 79 = .ok (.iload_n 1, 1) := by decide +kernel
theorem dX4_nest_80 : decode cX4_nest 80 = .ok (.iaload, 1) := by decide +kernel
theorem dX4_nest_81 : decode cX4_nest 81 = .ok (.ireturn, 1) := by decide +kernel
theorem dX4_nest_82 : decode cX4_nest 82 = .ok (.aload_n 0, 1) := by decide +kernel
theorem dX4_nest_83 : decode cX4_nest 83 = .ok (.getfield 26, 3) := by decide +kernel
theorem dX4_nest_86 : decode cX4_nest 86 = .ok (.iload_n 1, 1) := by decide +kernel
theorem dX4_nest_87 : decode cX4_nest 87 = .ok (.iaload, 1) := by decide +kernel
theorem dX4_nest_88 : decode cX4_nest 88 = .ok (.ireturn, 1) := by decide +kernel
theorem dX4_nest_89 : decode cX4_nest 89 = .ok (.aload_n 0, 1) := by decide +kernel
theorem dX4_nest_90 : decode cX4_nest 90 = .ok (.getfield 29, 3) := by decide +kernel
theorem dX4_nest_93 : decode cX4_nest 93 = .ok (.iload_n 1, 1) := by decide +kernel
theorem dX4_nest_94 : decode cX4_nest 94 = .ok (.iaload, 1) := by decide +kernel
theorem dX4_nest_95 : decode cX4_nest 95 = .ok (.ireturn, 1) := by decide +kernel
theorem dX4_nest_96 : decode cX4_nest 96 = .ok (.aload_n 0, 1) := by decide +kernel
theorem dX4_nest_97 : decode cX4_nest 97 = .ok (.iload_n 1, 1) := by decide +kernel
theorem dX4_nest_98 : decode cX4_nest 98 = .ok (.invokevirtual 91, 3) := by decide +kernel
theorem dX4_nest_101 : decode cX4_nest 101 = .ok (.ireturn, 1) := by decide +kernel
theorem dX4_nest_102 : decode cX4_nest 102 = .ok (.aload_n 0, 1) := by decide +kernel
theorem dX4_nest_103 : decode cX4_nest 103 = .ok (.iload_n 1, 1) := by decide +kernel
theorem dX4_nest_104 : decode cX4_nest 104 = .ok (.invokevirtual 191, 3) := by decide +kernel
theorem dX4_nest_107 : decode cX4_nest 107 = .ok (.ireturn, 1) := by decide +kernel
theorem dX4_nest_108 : decode cX4_nest 108 = .ok (.aload_n 0, 1) := by decide +kernel
theorem dX4_nest_109 : decode cX4_nest 109 = .ok (.invokevirtual 111, 3) := by decide +kernel
theorem dX4_nest_112 : decode cX4_nest 112 = .ok (.aload_n 0, 1) := by decide +kernel
theorem dX4_nest_113 : decode cX4_nest 113 = .ok (.getfield 41, 3) := by decide +kernel
theorem dX4_nest_116 : decode cX4_nest 116 = .ok (.iload_n 1, 1) := by decide +kernel
theorem dX4_nest_117 : decode cX4_nest 117 = .ok (.iaload, 1) := by decide +kernel
theorem dX4_nest_118 : decode cX4_nest 118 = .ok (.ireturn, 1) := by decide +kernel
theorem dX4_nest_119 : decode cX4_nest 119 = .ok (.aload_n 0, 1) := by decide +kernel
theorem dX4_nest_120 : decode cX4_nest 120 = .ok (.getfield 84, 3) := by decide +kernel
theorem dX4_nest_123 : decode cX4_nest 123 = .ok (.iload_n 1, 1) := by decide +kernel
theorem dX4_nest_124 : decode cX4_nest 124 = .ok (.ishr, 1) := by decide +kernel
theorem dX4_nest_125 : decode cX4_nest 125 = .ok (.iconst 1, 1) := by decide +kernel
theorem dX4_nest_126 : decode cX4_nest 126 = .ok (.iand, 1) := by decide +kernel
theorem dX4_nest_127 : decode cX4_nest 127 = .ok (.ireturn, 1) := by decide +kernel
theorem dX4_nest_128 : decode cX4_nest 128 = .ok (.aload_n 0, 1) := by decide +kernel
theorem dX4_nest_129 : decode cX4_nest 129 = .ok (.bipush (-2), 2) := by decide +kernel
theorem dX4_nest_131 : decode cX4_nest 131 = .ok (.invokevirtual 150, 3) := by decide +kernel
theorem dX4_nest_134 : decode cX4_nest 134 = .ok (.ireturn, 1) := by decide +kernel
theorem dX4_oldest_0 : decode cX4_oldest 0 = .ok (.bipush (-9), 2) := by decide +kernel
theorem dX4_oldest_2 : decode cX4_oldest 2 = .ok (.istore_n 2, 1) := by decide +kernel
theorem dX4_oldest_3 : decode cX4_oldest 3 = .ok (.iconst 0, 1) := by decide +kernel
theorem dX4_oldest_4 : decode cX4_oldest 4 = .ok (.istore_n 3, 1) := by decide +kernel
theorem dX4_oldest_5 : decode cX4_oldest 5 = .ok (.iload_n 3, 1) := by decide +kernel
theorem dX4_oldest_6 : decode cX4_oldest 6 = .ok (.bipush 10, 2) := by decide +kernel
theorem dX4_oldest_8 : decode cX4_oldest 8 = .ok (.if_icmp .ge 29, 3) := by decide +kernel
theorem dX4_oldest_11 : decode cX4_oldest 11 = .ok (.aload_n 0, 1) := by decide +kernel
theorem dX4_oldest_12 : decode cX4_oldest 12 = .ok (.getfield 32, 3) := by decide +kernel
theorem dX4_oldest_15 : decode cX4_oldest 15 = .ok (.bipush 10, 2) := by decide +kernel
theorem dX4_oldest_17 : decode cX4_oldest 17 = .ok (.iload_n 1, 1) := by decide +kernel
theorem dX4_oldest_18 : decode cX4_oldest 18 = .ok (.imul, 1) := by decide +kernel
theorem dX4_oldest_19 : decode cX4_oldest 19 = .ok (.iload_n 3, 1) := by decide +kernel
theorem dX4_oldest_20 : decode cX4_oldest 20 = .ok (.iadd, 1) := by decide +kernel
theorem dX4_oldest_21 : decode cX4_oldest 21 = .ok (.iaload, 1) := by decide +kernel
theorem dX4_oldest_22 : decode cX4_oldest 22 = .ok (.ifCond .le 7, 3) := by decide +kernel
theorem dX4_oldest_25 : decode cX4_oldest 25 = .ok (.iload_n 3, 1) := by decide +kernel
theorem dX4_oldest_26 : decode cX4_oldest 26 = .ok (.goto 4, 3) := by decide +kernel
theorem dX4_oldest_29 : decode cX4_oldest 29 = .ok (.iload_n 2, 1) := by decide +kernel
theorem dX4_oldest_30 : decode cX4_oldest 30 = .ok (.istore_n 2, 1) := by decide +kernel
theorem dX4_oldest_31 : decode cX4_oldest 31 = .ok (.iinc 3 1, 3) := by decide +kernel
theorem dX4_oldest_34 : decode cX4_oldest 34 = .ok (.goto (-29), 3) := by decide +kernel
theorem dX4_oldest_37 : decode cX4_oldest 37 = .ok (.iload_n 2, 1) := by decide +kernel
theorem dX4_oldest_38 : decode cX4_oldest 38 = .ok (.ireturn, 1) := by decide +kernel
theorem dX4_set_0 : decode cX4_set 0 = .ok (.aload_n 0, 1) := by decide +kernel
theorem dX4_set_1 : decode cX4_set 1 = .ok (.iconst 0, 1) := by decide +kernel
theorem dX4_set_2 : decode cX4_set 2 = .ok (.putfield 74, 3) := by decide +kernel
theorem dX4_set_5 : decode cX4_set 5 = .ok (.iload_n 1, 1) := by decide +kernel
theorem dX4_set_6 : decode cX4_set 6 = .ok (.i2l, 1) := by decide +kernel
theorem dX4_set_7 : decode cX4_set 7 = .ok (.lconst 0, 1) := by decide +kernel
theorem dX4_set_8 : decode cX4_set 8 = .ok (.ldc2_w 194, 3) := by decide +kernel
theorem dX4_set_11 : decode cX4_set 11 = .ok (.invokestatic 80, 3) := by decide +kernel
theorem dX4_set_14 : decode cX4_set 14 = .ok (.ifCond .ne 10, 3) := by decide +kernel
theorem dX4_set_17 : decode cX4_set 17 = .ok (.aload_n 0, 1) := by decide +kernel
theorem dX4_set_18 : decode cX4_set 18 = .ok (.bipush (-2), 2) := by decide +kernel
theorem dX4_set_20 : decode cX4_set 20 = .ok (.invokevirtual 150, 3) := by decide +kernel
theorem dX4_set_23 : decode cX4_set 23 = .ok (.ireturn, 1) := by decide +kernel
theorem dX4_set_24 : decode cX4_set 24 = .ok (.iload_n 1, 1) := by decide +kernel
theorem dX4_set_25 : decode cX4_set 25 = .ok (.iconst 3, 1) := by decide +kernel
theorem dX4_set_26 : decode cX4_set 26 = .ok (.if_icmp .ne 7, 3) := by decide +kernel
theorem dX4_set_29 : decode cX4_set 29 = .ok (.iconst 1, 1) := by decide +kernel
theorem dX4_set_30 : decode cX4_set 30 = .ok (.goto 4, 3) := by decide +kernel
theorem dX4_set_33 : decode cX4_set 33 = .ok (.iconst 0, 1) := by decide +kernel
theorem dX4_set_34 : decode cX4_set 34 = .ok (.istore_n 3, 1) := by decide +kernel
theorem dX4_set_35 : decode cX4_set 35 = .ok (.iload_n 1, 1) := by decide +kernel
theorem dX4_set_36 : decode cX4_set 36 = .ok (.ifCond .ne 7, 3) := by decide +kernel
theorem dX4_set_39 : decode cX4_set 39 = .ok (.iconst 5, 1) := by decide +kernel
theorem dX4_set_40 : decode cX4_set 40 = .ok (.goto 15, 3) := by decide +kernel
theorem dX4_set_43 : decode cX4_set 43 = .ok (.iload_n 1, 1) := by decide +kernel
theorem dX4_set_44 : decode cX4_set 44 = .ok (.iconst 2, 1) := by decide +kernel
theorem dX4_set_45 : decode cX4_set 45 = .ok (.if_icmp .ne 8, 3) := by decide +kernel
theorem dX4_set_48 : decode cX4_set 48 = .ok (.bipush 40, 2) := by decide +kernel
theorem dX4_set_50 : decode cX4_set 50 = .ok (.goto 5, 3) := by decide +kernel
theorem dX4_set_53 : decode cX4_set 53 = .ok (.bipush 9, 2) := by decide +kernel
theorem dX4_set_55 : decode cX4_set 55 = .ok (.istore 4, 2) := by decide +kernel
theorem dX4_set_57 : decode cX4_set 57 = .ok (.iload_n 2, 1) := by decide +kernel
theorem dX4_set_58 : decode cX4_set 58 = .ok (.iload_n 3, 1) := by decide +kernel
theorem dX4_set_59 : decode cX4_set 59 = .ok (.if_icmp .lt 9, 3) := by decide +kernel
theorem dX4_set_62 : decode cX4_set 62 = .ok (.iload_n 2, 1) := by decide +kernel
theorem dX4_set_63 : decode cX4_set 63 = .ok (.iload 4, 2) := by decide +kernel
theorem dX4_set_65 : decode cX4_set 65 = .ok (.if_icmp .le 20, 3) := by decide +kernel
theorem dX4_set_68 : decode cX4_set 68 = .ok (.aload_n 0, 1) := by decide +kernel
theorem dX4_set_69 : decode cX4_set 69 = .ok (.iload_n 2, 1) := by decide +kernel
theorem dX4_set_70 : decode cX4_set 70 = .ok (.iload_n 3, 1) := by decide +kernel
theorem dX4_set_71 : decode cX4_set 71 = .ok (.if_icmp .ge 8, 3) := by decide +kernel
theorem dX4_set_74 : decode cX4_set 74 = .ok (.bipush (-4), 2) := by decide +kernel
theorem dX4_set_76 : decode cX4_set 76 = .ok (.goto 5, 3) := by decide +kernel
theorem dX4_set_79 : decode cX4_set 79 = .ok (.bipush (-6), 2) := by decide +kernel
theorem dX4_set_81 : decode cX4_set 81 = .ok (.invokevirtual 150, 3) := by decide +kernel
theorem dX4_set_84 : decode cX4_set 84 = .ok (.ireturn, 1) := by decide +kernel
theorem dX4_set_85 : decode cX4_set 85 = .ok (.iload_n 1, 1) := by decide +kernel
theorem dX4_set_86 : decode cX4_set 86 = .ok (.ifCond .ne 10, 3) := by decide +kernel
theorem dX4_set_89 : decode cX4_set 89 = .ok (.aload_n 0, 1) := by decide +kernel
theorem dX4_set_90 : decode cX4_set 90 = .ok (.getfield 95, 3) := by decide +kernel
theorem dX4_set_93 : decode cX4_set 93 = .ok (.goto 31, 3) := by decide +kernel
theorem dX4_set_96 : decode cX4_set 96 = .ok (.iload_n 1, 1) := by decide +kernel
theorem dX4_set_97 : decode cX4_set 97 = .ok (.iconst 1, 1) := by decide +kernel
theorem dX4_set_98 : decode cX4_set 98 = .ok (.if_icmp .ne 10, 3) := by decide +kernel
theorem dX4_set_101 : decode cX4_set 101 = .ok (.aload_n 0, 1) := by decide +kernel
theorem dX4_set_102 : decode cX4_set 102 = .ok (.getfield 98, 3) := by decide +kernel
theorem dX4_set_105 : decode cX4_set 105 = .ok (.goto 19, 3) := by decide +kernel
theorem dX4_set_108 : decode cX4_set 108 = .ok (.iload_n 1, 1) := by decide +kernel
theorem dX4_set_109 : decode cX4_set 109 = .ok (.iconst 2, 1) := by decide +kernel
theorem dX4_set_110 : decode cX4_set 110 = .ok (.if_icmp .ne 10, 3) := by decide +kernel
theorem dX4_set_113 : decode cX4_set 113 = .ok (.aload_n 0, 1) := by decide +kernel
theorem dX4_set_114 : decode cX4_set 114 = .ok (.getfield 7, 3) := by decide +kernel
theorem dX4_set_117 : decode cX4_set 117 = .ok (.goto 7, 3) := by decide +kernel
theorem dX4_set_120 : decode cX4_set 120 = .ok (.aload_n 0, 1) := by decide +kernel
theorem dX4_set_121 : decode cX4_set 121 = .ok (.getfield 13, 3) := by decide +kernel
theorem dX4_set_124 : decode cX4_set 124 = .ok (.istore 5, 2) := by decide +kernel
theorem dX4_set_126 : decode cX4_set 126 = .ok (.aload_n 0, 1) := by decide +kernel
theorem dX4_set_127 : decode cX4_set 127 = .ok (.iload_n 1, 1) := by decide +kernel
theorem dX4_set_128 : decode cX4_set 128 = .ok (.ifCond .ne 7, 3) := by decide +kernel
theorem dX4_set_131 : decode cX4_set 131 = .ok (.iload_n 2, 1) := by decide +kernel
theorem dX4_set_132 : decode cX4_set 132 = .ok (.goto 7, 3) := by decide +kernel
theorem dX4_set_135 : decode cX4_set 135 = .ok (.aload_n 0, 1) := by decide +kernel
theorem dX4_set_136 : decode cX4_set 136 = .ok (.getfield 95, 3) := by decide +kernel
theorem dX4_set_139 : decode cX4_set 139 = .ok (.putfield 95, 3) := by decide +kernel
theorem dX4_set_142 : decode cX4_set 142 = .ok (.aload_n 0, 1) := by decide +kernel
theorem dX4_set_143 : decode cX4_set 143 = .ok (.iload_n 1, 1) := by decide +kernel
theorem dX4_set_144 : decode cX4_set 144 = .ok (.iconst 1, 1) := by decide +kernel
theorem dX4_set_145 : decode cX4_set 145 = .ok (.if_icmp .ne 7, 3) := by decide +kernel
theorem dX4_set_148 : decode cX4_set 148 = .ok (.iload_n 2, 1) := by decide +kernel
theorem dX4_set_149 : decode cX4_set 149 = .ok (.goto 7, 3) := by decide +kernel
theorem dX4_set_152 : decode cX4_set 152 = .ok (.aload_n 0, 1) := by decide +kernel
theorem dX4_set_153 : decode cX4_set 153 = .ok (.getfield 98, 3) := by decide +kernel
theorem dX4_set_156 : decode cX4_set 156 = .ok (.putfield 98, 3) := by decide +kernel
theorem dX4_set_159 : decode cX4_set 159 = .ok (.aload_n 0, 1) := by decide +kernel
theorem dX4_set_160 : decode cX4_set 160 = .ok (.iload_n 1, 1) := by decide +kernel
theorem dX4_set_161 : decode cX4_set 161 = .ok (.iconst 2, 1) := by decide +kernel
theorem dX4_set_162 : decode cX4_set 162 = .ok (.if_icmp .ne 7, 3) := by decide +kernel
theorem dX4_set_165 : decode cX4_set 165 = .ok (.iload_n 2, 1) := by decide +kernel
theorem dX4_set_166 : decode cX4_set 166 = .ok (.goto 7, 3) := by decide +kernel
theorem dX4_set_169 : decode cX4_set 169 = .ok (.aload_n 0, 1) := by decide +kernel
theorem dX4_set_170 : decode cX4_set 170 = .ok (.getfield 7, 3) := by decide +kernel
theorem dX4_set_173 : decode cX4_set 173 = .ok (.putfield 7, 3) := by decide +kernel
theorem dX4_set_176 : decode cX4_set 176 = .ok (.aload_n 0, 1) := by decide +kernel
theorem dX4_set_177 : decode cX4_set 177 = .ok (.iload_n 1, 1) := by decide +kernel
theorem dX4_set_178 : decode cX4_set 178 = .ok (.iconst 3, 1) := by decide +kernel
theorem dX4_set_179 : decode cX4_set 179 = .ok (.if_icmp .ne 7, 3) := by decide +kernel
theorem dX4_set_182 : decode cX4_set 182 = .ok (.iload_n 2, 1) := by decide +kernel
theorem dX4_set_183 : decode cX4_set 183 = .ok (.goto 7, 3) := by decide +kernel
theorem dX4_set_186 : decode cX4_set 186 = .ok (.aload_n 0, 1) := by decide +kernel
theorem dX4_set_187 : decode cX4_set 187 = .ok (.getfield 13, 3) := by decide +kernel
theorem dX4_set_190 : decode cX4_set 190 = .ok (.putfield 13, 3) := by decide +kernel
theorem dX4_set_193 : decode cX4_set 193 = .ok (.iload 5, 2) := by decide +kernel
theorem dX4_set_195 : decode cX4_set 195 = .ok (.ireturn, 1) := by decide +kernel
theorem dX4_look_0 : decode cX4_look 0 = .ok (.aload_n 0, 1) := by decide +kernel
theorem dX4_look_1 : decode cX4_look 1 = .ok (.iconst 0, 1) := by decide +kernel
theorem dX4_look_2 : decode cX4_look 2 = .ok (.putfield 74, 3) := by decide +kernel
theorem dX4_look_5 : decode cX4_look 5 = .ok (.aload_n 0, 1) := by decide +kernel
theorem dX4_look_6 : decode cX4_look 6 = .ok (.iload_n 1, 1) := by decide +kernel
theorem dX4_look_7 : decode cX4_look 7 = .ok (.invokevirtual 175, 3) := by decide +kernel
theorem dX4_look_10 : decode cX4_look 10 = .ok (.ifCond .ne 7, 3) := by decide +kernel
theorem dX4_look_13 : decode cX4_look 13 = .ok (.iconst (-1), 1) := by decide +kernel
theorem dX4_look_14 : decode cX4_look 14 = .ok (.goto 48, 3) := by decide +kernel
theorem dX4_look_17 : decode cX4_look 17 = .ok (.aload_n 0, 1) := by decide +kernel
theorem dX4_look_18 : decode cX4_look 18 = .ok (.getfield 84, 3) := by decide +kernel
theorem dX4_look_21 : decode cX4_look 21 = .ok (.iload_n 1, 1) := by decide +kernel
theorem dX4_look_22 : decode cX4_look 22 = .ok (.ishr, 1) := by decide +kernel
theorem dX4_look_23 : decode cX4_look 23 = .ok (.iconst 1, 1) := by decide +kernel
theorem dX4_look_24 : decode cX4_look 24 = .ok (.iand, 1) := by decide +kernel
theorem dX4_look_25 : decode cX4_look 25 = .ok (.iconst 1, 1) := by decide +kernel
theorem dX4_look_26 : decode cX4_look 26 = .ok (.if_icmp .ne 8, 3) := by decide +kernel
theorem dX4_look_29 : decode cX4_look 29 = .ok (.bipush (-3), 2) := by decide +kernel
theorem dX4_look_31 : decode cX4_look 31 = .ok (.goto 31, 3) := by decide +kernel
theorem dX4_look_34 : decode cX4_look 34 = .ok (.aload_n 0, 1) := by decide +kernel
theorem dX4_look_35 : decode cX4_look 35 = .ok (.getfield 7, 3) := by decide +kernel
theorem dX4_look_38 : decode cX4_look 38 = .ok (.aload_n 0, 1) := by decide +kernel
theorem dX4_look_39 : decode cX4_look 39 = .ok (.aload_n 0, 1) := by decide +kernel
theorem dX4_look_40 : decode cX4_look 40 = .ok (.getfield 84, 3) := by decide +kernel
theorem dX4_look_43 : decode cX4_look 43 = .ok (.invokevirtual 196, 3) := by decide +kernel
theorem dX4_look_46 : decode cX4_look 46 = .ok (.isub, 1) := by decide +kernel
theorem dX4_look_47 : decode cX4_look 47 = .ok (.aload_n 0, 1) := by decide +kernel
theorem dX4_look_48 : decode cX4_look 48 = .ok (.getfield 26, 3) := by decide +kernel
theorem dX4_look_51 : decode cX4_look 51 = .ok (.iload_n 1, 1) := by decide +kernel
theorem dX4_look_52 : decode cX4_look 52 = .ok (.iaload, 1) := by decide +kernel
theorem dX4_look_53 : decode cX4_look 53 = .ok (.if_icmp .ge 8, 3) := by decide +kernel
theorem dX4_look_56 : decode cX4_look 56 = .ok (.bipush (-6), 2) := by decide +kernel
theorem dX4_look_58 : decode cX4_look 58 = .ok (.goto 4, 3) := by decide +kernel
theorem dX4_look_61 : decode cX4_look 61 = .ok (.iconst 0, 1) := by decide +kernel
theorem dX4_look_62 : decode cX4_look 62 = .ok (.istore_n 2, 1) := by decide +kernel
theorem dX4_look_63 : decode cX4_look 63 = .ok (.iload_n 2, 1) := by decide +kernel
theorem dX4_look_64 : decode cX4_look 64 = .ok (.ifCond .ge 9, 3) := by decide +kernel
theorem dX4_look_67 : decode cX4_look 67 = .ok (.aload_n 0, 1) := by decide +kernel
theorem dX4_look_68 : decode cX4_look 68 = .ok (.iload_n 2, 1) := by decide +kernel
theorem dX4_look_69 : decode cX4_look 69 = .ok (.invokevirtual 150, 3) := by decide +kernel
theorem dX4_look_72 : decode cX4_look 72 = .ok (.ireturn, 1) := by decide +kernel
theorem dX4_look_73 : decode cX4_look 73 = .ok (.aload_n 0, 1) := by decide +kernel
theorem dX4_look_74 : decode cX4_look 74 = .ok (.iconst 1, 1) := by decide +kernel
theorem dX4_look_75 : decode cX4_look 75 = .ok (.iload_n 1, 1) := by decide +kernel
theorem dX4_look_76 : decode cX4_look 76 = .ok (.ishl, 1) := by decide +kernel
theorem dX4_look_77 : decode cX4_look 77 = .ok (.invokevirtual 199, 3) := by decide +kernel
theorem dX4_look_80 : decode cX4_look 80 = .ok (.istore_n 3, 1) := by decide +kernel
theorem dX4_look_81 : decode cX4_look 81 = .ok (.aload_n 0, 1) := by decide +kernel
theorem dX4_look_82 : decode cX4_look 82 = .ok (.dup, 1) := by decide +kernel
theorem dX4_look_83 : decode cX4_look 83 = .ok (.getfield 140, 3) := by decide +kernel
theorem dX4_look_86 : decode cX4_look 86 = .ok (.iload_n 3, 1) := by decide +kernel
theorem dX4_look_87 : decode cX4_look 87 = .ok (.iadd, 1) := by decide +kernel
theorem dX4_look_88 : decode cX4_look 88 = .ok (.putfield 140, 3) := by decide +kernel
theorem dX4_look_91 : decode cX4_look 91 = .ok (.iload_n 3, 1) := by decide +kernel
theorem dX4_look_92 : decode cX4_look 92 = .ok (.ireturn, 1) := by decide +kernel
theorem dX4_night_0 : decode cX4_night 0 = .ok (.aload_n 0, 1) := by decide +kernel
theorem dX4_night_1 : decode cX4_night 1 = .ok (.iconst 0, 1) := by decide +kernel
theorem dX4_night_2 : decode cX4_night 2 = .ok (.putfield 74, 3) := by decide +kernel
theorem dX4_night_5 : decode cX4_night 5 = .ok (.aload_n 0, 1) := by decide +kernel
theorem dX4_night_6 : decode cX4_night 6 = .ok (.getfield 77, 3) := by decide +kernel
theorem dX4_night_9 : decode cX4_night 9 = .ok (.ifCond .eq 13, 3) := by decide +kernel
theorem dX4_night_12 : decode cX4_night 12 = .ok (.aload_n 0, 1) := by decide +kernel
theorem dX4_night_13 : decode cX4_night 13 = .ok (.getfield 114, 3) := by decide +kernel
theorem dX4_night_16 : decode cX4_night 16 = .ok (.sipush 9999, 3) := by decide +kernel
theorem dX4_night_19 : decode cX4_night 19 = .ok (.if_icmp .ne 22, 3) := by decide +kernel
theorem dX4_night_22 : decode cX4_night 22 = .ok (.aload_n 0, 1) := by decide +kernel
theorem dX4_night_23 : decode cX4_night 23 = .ok (.aload_n 0, 1) := by decide +kernel
theorem dX4_night_24 : decode cX4_night 24 = .ok (.getfield 77, 3) := by decide +kernel
theorem dX4_night_27 : decode cX4_night 27 = .ok (.ifCond .ne 8, 3) := by decide +kernel
theorem dX4_night_30 : decode cX4_night 30 = .ok (.bipush (-3), 2) := by decide +kernel
theorem dX4_night_32 : decode cX4_night 32 = .ok (.goto 5, 3) := by decide +kernel
theorem dX4_night_35 : decode cX4_night 35 = .ok (.bipush (-6), 2) := by decide +kernel
theorem dX4_night_37 : decode cX4_night 37 = .ok (.invokevirtual 150, 3) := by decide +kernel
theorem dX4_night_40 : decode cX4_night 40 = .ok (.ireturn, 1) := by decide +kernel
theorem dX4_night_41 : decode cX4_night 41 = .ok (.aload_n 0, 1) := by decide +kernel
theorem dX4_night_42 : decode cX4_night 42 = .ok (.invokevirtual 202, 3) := by decide +kernel
theorem dX4_night_45 : decode cX4_night 45 = .ok (.ireturn, 1) := by decide +kernel
theorem dX4_tonight_0 : decode cX4_tonight 0 = .ok (.aload_n 0, 1) := by decide +kernel
theorem dX4_tonight_1 : decode cX4_tonight 1 = .ok (.iconst 0, 1) := by decide +kernel
theorem dX4_tonight_2 : decode cX4_tonight 2 = .ok (.putfield 74, 3) := by decide +kernel
theorem dX4_tonight_5 : decode cX4_tonight 5 = .ok (.iload_n 1, 1) := by decide +kernel
theorem dX4_tonight_6 : decode cX4_tonight 6 = .ok (.i2l, 1) := by decide +kernel
theorem dX4_tonight_7 : decode cX4_tonight 7 = .ok (.lconst 0, 1) := by decide +kernel
theorem dX4_tonight_8 : decode cX4_tonight 8 = .ok (.lconst 1, 1) := by decide +kernel
theorem dX4_tonight_9 : decode cX4_tonight 9 = .ok (.invokestatic 80, 3) := by decide +kernel
theorem dX4_tonight_12 : decode cX4_tonight 12 = .ok (.ifCond .eq 10, 3) := by decide +kernel
theorem dX4_tonight_15 : decode cX4_tonight 15 = .ok (.aload_n 0, 1) := by decide +kernel
theorem dX4_tonight_16 : decode cX4_tonight 16 = .ok (.getfield 77, 3) := by decide +kernel
theorem dX4_tonight_19 : decode cX4_tonight 19 = .ok (.ifCond .ne 25, 3) := by decide +kernel
theorem dX4_tonight_22 : decode cX4_tonight 22 = .ok (.aload_n 0, 1) := by decide +kernel
theorem dX4_tonight_23 : decode cX4_tonight 23 = .ok (.iload_n 1, 1) := by decide +kernel
theorem dX4_tonight_24 : decode cX4_tonight 24 = .ok (.i2l, 1) := by decide +kernel
theorem dX4_tonight_25 : decode cX4_tonight 25 = .ok (.lconst 0, 1) := by decide +kernel
theorem dX4_tonight_26 : decode cX4_tonight 26 = .ok (.lconst 1, 1) := by decide +kernel
theorem dX4_tonight_27 : decode cX4_tonight 27 = .ok (.invokestatic 80, 3) := by decide +kernel
theorem dX4_tonight_30 : decode cX4_tonight 30 = .ok (.ifCond .eq 8, 3) := by decide +kernel
theorem dX4_tonight_33 : decode cX4_tonight 33 = .ok (.bipush (-3), 2) := by decide +kernel
theorem dX4_tonight_35 : decode cX4_tonight 35 = .ok (.goto 5, 3) := by decide +kernel
theorem dX4_tonight_38 : decode cX4_tonight 38 = .ok (.bipush (-2), 2) := by decide +kernel
theorem dX4_tonight_40 : decode cX4_tonight 40 = .ok (.invokevirtual 150, 3) := by decide +kernel
theorem dX4_tonight_43 : decode cX4_tonight 43 = .ok (.ireturn, 1) := by decide +kernel
theorem dX4_tonight_44 : decode cX4_tonight 44 = .ok (.iload_n 1, 1) := by decide +kernel
theorem dX4_tonight_45 : decode cX4_tonight 45 = .ok (.ifCond .ne 10, 3) := by decide +kernel
theorem dX4_tonight_48 : decode cX4_tonight 48 = .ok (.aload_n 0, 1) := by decide +kernel
theorem dX4_tonight_49 : decode cX4_tonight 49 = .ok (.invokevirtual 120, 3) := by decide +kernel
theorem dX4_tonight_52 : decode cX4_tonight 52 = .ok (.goto 7, 3) := by decide +kernel
theorem dX4_tonight_55 : decode cX4_tonight 55 = .ok (.aload_n 0, 1) := by decide +kernel
theorem dX4_tonight_56 : decode cX4_tonight 56 = .ok (.invokevirtual 101, 3) := by decide +kernel
theorem dX4_tonight_59 : decode cX4_tonight 59 = .ok (.ireturn, 1) := by decide +kernel
theorem dX4_likely_0 : decode cX4_likely 0 = .ok (.aload_n 0, 1) := by decide +kernel
theorem dX4_likely_1 : decode cX4_likely 1 = .ok (.iconst 0, 1) := by decide +kernel
theorem dX4_likely_2 : decode cX4_likely 2 = .ok (.putfield 74, 3) := by decide +kernel
theorem dX4_likely_5 : decode cX4_likely 5 = .ok (.aload_n 0, 1) := by decide +kernel
theorem dX4_likely_6 : decode cX4_likely 6 = .ok (.iload_n 1, 1) := by decide +kernel
theorem dX4_likely_7 : decode cX4_likely 7 = .ok (.invokevirtual 175, 3) := by decide +kernel
theorem dX4_likely_10 : decode cX4_likely 10 = .ok (.ifCond .eq 13, 3) := by decide +kernel
theorem dX4_likely_13 : decode cX4_likely 13 = .ok (.iload_n 2, 1) := by decide +kernel
theorem dX4_likely_14 : decode cX4_likely 14 = .ok (.i2l, 1) := by decide +kernel
theorem dX4_likely_15 : decode cX4_likely 15 = .ok (.lconst 0, 1) := by decide +kernel
theorem dX4_likely_16 : decode cX4_likely 16 = .ok (.lconst 1, 1) := by decide +kernel
theorem dX4_likely_17 : decode cX4_likely 17 = .ok (.invokestatic 80, 3) := by decide +kernel
theorem dX4_likely_20 : decode cX4_likely 20 = .ok (.ifCond .ne 27, 3) := by decide +kernel
theorem dX4_likely_23 : decode cX4_likely 23 = .ok (.ldc2_w 205, 3) := by decide +kernel
theorem dX4_likely_26 : decode cX4_likely 26 = .ok (.aload_n 0, 1) := by decide +kernel
theorem dX4_likely_27 : decode cX4_likely 27 = .ok (.aload_n 0, 1) := by decide +kernel
theorem dX4_likely_28 : decode cX4_likely 28 = .ok (.iload_n 1, 1) := by decide +kernel
theorem dX4_likely_29 : decode cX4_likely 29 = .ok (.invokevirtual 175, 3) := by decide +kernel
theorem dX4_likely_32 : decode cX4_likely 32 = .ok (.ifCond .eq 8, 3) := by decide +kernel
theorem dX4_likely_35 : decode cX4_likely 35 = .ok (.bipush (-2), 2) := by decide +kernel
theorem dX4_likely_37 : decode cX4_likely 37 = .ok (.goto 4, 3) := by decide +kernel
theorem dX4_likely_40 : decode cX4_likely 40 = .ok (.iconst (-1), 1) := by decide +kernel
theorem dX4_likely_41 : decode cX4_likely 41 = .ok (.invokevirtual 150, 3) := by decide +kernel
theorem dX4_likely_44 : decode cX4_likely 44 = .ok (.i2l, 1) := by decide +kernel
theorem dX4_likely_45 : decode cX4_likely 45 = .ok (.lsub, 1) := by decide +kernel
theorem dX4_likely_46 : decode cX4_likely 46 = .ok (.lreturn, 1) := by decide +kernel
theorem dX4_likely_47 : decode cX4_likely 47 = .ok (.aload_n 0, 1) := by decide +kernel
theorem dX4_likely_48 : decode cX4_likely 48 = .ok (.invokevirtual 111, 3) := by decide +kernel
theorem dX4_likely_51 : decode cX4_likely 51 = .ok (.aload_n 0, 1) := by decide +kernel
theorem dX4_likely_52 : decode cX4_likely 52 = .ok (.getfield 41, 3) := by decide +kernel
theorem dX4_likely_55 : decode cX4_likely 55 = .ok (.iload_n 1, 1) := by decide +kernel
theorem dX4_likely_56 : decode cX4_likely 56 = .ok (.iaload, 1) := by decide +kernel
theorem dX4_likely_57 : decode cX4_likely 57 = .ok (.istore_n 3, 1) := by decide +kernel
theorem dX4_likely_58 : decode cX4_likely 58 = .ok (.aload_n 0, 1) := by decide +kernel
theorem dX4_likely_59 : decode cX4_likely 59 = .ok (.getfield 105, 3) := by decide +kernel
theorem dX4_likely_62 : decode cX4_likely 62 = .ok (.istore 4, 2) := by decide +kernel
theorem dX4_likely_64 : decode cX4_likely 64 = .ok (.iload 4, 2) := by decide +kernel
theorem dX4_likely_66 : decode cX4_likely 66 = .ok (.ifCond .eq 19, 3) := by decide +kernel
theorem dX4_likely_69 : decode cX4_likely 69 = .ok (.iload_n 3, 1) := by decide +kernel
theorem dX4_likely_70 : decode cX4_likely 70 = .ok (.iload 4, 2) := by decide +kernel
theorem dX4_likely_72 : decode cX4_likely 72 = .ok (.irem, 1) := by decide +kernel
theorem dX4_likely_73 : decode cX4_likely 73 = .ok (.istore 5, 2) := by decide +kernel
theorem dX4_likely_75 : decode cX4_likely 75 = .ok (.iload 4, 2) := by decide +kernel
theorem dX4_likely_77 : decode cX4_likely 77 = .ok (.istore_n 3, 1) := by decide +kernel
theorem dX4_likely_78 : decode cX4_likely 78 = .ok (.iload 5, 2) := by decide +kernel
theorem dX4_likely_80 : decode cX4_likely 80 = .ok (.istore 4, 2) := by decide +kernel
theorem dX4_likely_82 : decode cX4_likely 82 = .ok (.goto (-18), 3) := by decide +kernel
theorem dX4_likely_85 : decode cX4_likely 85 = .ok (.iload_n 2, 1) := by decide +kernel
theorem dX4_likely_86 : decode cX4_likely 86 = .ok (.ifCond .ne 15, 3) := by decide +kernel
theorem dX4_likely_89 : decode cX4_likely 89 = .ok (.aload_n 0, 1) := by decide +kernel
theorem dX4_likely_90 : decode cX4_likely 90 = .ok (.getfield 41, 3) := by decide +kernel
theorem dX4_likely_93 : decode cX4_likely 93 = .ok (.iload_n 1, 1) := by decide +kernel
theorem dX4_likely_94 : decode cX4_likely 94 = .ok (.iaload, 1) := by decide +kernel
theorem dX4_likely_95 : decode cX4_likely 95 = .ok (.iload_n 3, 1) := by decide +kernel
theorem dX4_likely_96 : decode cX4_likely 96 = .ok (.idiv, 1) := by decide +kernel
theorem dX4_likely_97 : decode cX4_likely 97 = .ok (.i2l, 1) := by decide +kernel
theorem dX4_likely_98 : decode cX4_likely 98 = .ok (.goto 10, 3) := by decide +kernel
theorem dX4_likely_101 : decode cX4_likely 101 = .ok (.aload_n 0, 1) := by decide +kernel
theorem dX4_likely_102 : decode cX4_likely 102 = .ok (.getfield 105, 3) := by decide +kernel
theorem dX4_likely_105 : decode cX4_likely 105 = .ok (.iload_n 3, 1) := by decide +kernel
theorem dX4_likely_106 : decode cX4_likely 106 = .ok (.idiv, 1) := by decide +kernel
theorem dX4_likely_107 : decode cX4_likely 107 = .ok (.i2l, 1) := by decide +kernel
theorem dX4_likely_108 : decode cX4_likely 108 = .ok (.lreturn, 1) := by decide +kernel
theorem dX4_allows_0 : decode cX4_allows 0 = .ok (.aload_n 0, 1) := by decide +kernel
theorem dX4_allows_1 : decode cX4_allows 1 = .ok (.iload_n 1, 1) := by decide +kernel
theorem dX4_allows_2 : decode cX4_allows 2 = .ok (.invokevirtual 196, 3) := by decide +kernel
theorem dX4_allows_5 : decode cX4_allows 5 = .ok (.aload_n 0, 1) := by decide +kernel
theorem dX4_allows_6 : decode cX4_allows 6 = .ok (.getfield 7, 3) := by decide +kernel
theorem dX4_allows_9 : decode cX4_allows 9 = .ok (.if_icmp .gt 7, 3) := by decide +kernel
theorem dX4_allows_12 : decode cX4_allows 12 = .ok (.iconst 1, 1) := by decide +kernel
theorem dX4_allows_13 : decode cX4_allows 13 = .ok (.goto 4, 3) := by decide +kernel
theorem dX4_allows_16 : decode cX4_allows 16 = .ok (.iconst 0, 1) := by decide +kernel
theorem dX4_allows_17 : decode cX4_allows 17 = .ok (.ireturn, 1) := by decide +kernel
theorem dX4_eggsOf_0 : decode cX4_eggsOf 0 = .ok (.iconst 0, 1) := by decide +kernel
theorem dX4_eggsOf_1 : decode cX4_eggsOf 1 = .ok (.istore_n 2, 1) := by decide +kernel
theorem dX4_eggsOf_2 : decode cX4_eggsOf 2 = .ok (.iconst 0, 1) := by decide +kernel
theorem dX4_eggsOf_3 : decode cX4_eggsOf 3 = .ok (.istore_n 3, 1) := by decide +kernel
theorem dX4_eggsOf_4 : decode cX4_eggsOf 4 = .ok (.iload_n 3, 1) := by decide +kernel
theorem dX4_eggsOf_5 : decode cX4_eggsOf 5 = .ok (.aload_n 0, 1) := by decide +kernel
theorem dX4_eggsOf_6 : decode cX4_eggsOf 6 = .ok (.getfield 77, 3) := by decide +kernel
theorem dX4_eggsOf_9 : decode cX4_eggsOf 9 = .ok (.if_icmp .ge 30, 3) := by decide +kernel
theorem dX4_eggsOf_12 : decode cX4_eggsOf 12 = .ok (.iload_n 2, 1) := by decide +kernel
theorem dX4_eggsOf_13 : decode cX4_eggsOf 13 = .ok (.iload_n 1, 1) := by decide +kernel
theorem dX4_eggsOf_14 : decode cX4_eggsOf 14 = .ok (.iload_n 3, 1) := by decide +kernel
theorem dX4_eggsOf_15 : decode cX4_eggsOf 15 = .ok (.ishr, 1) := by decide +kernel
theorem dX4_eggsOf_16 : decode cX4_eggsOf 16 = .ok (.iconst 1, 1) := by decide +kernel
theorem dX4_eggsOf_17 : decode cX4_eggsOf 17 = .ok (.iand, 1) := by decide +kernel
theorem dX4_eggsOf_18 : decode cX4_eggsOf 18 = .ok (.iconst 1, 1) := by decide +kernel
theorem dX4_eggsOf_19 : decode cX4_eggsOf 19 = .ok (.if_icmp .ne 11, 3) := by decide +kernel
theorem dX4_eggsOf_22 : decode cX4_eggsOf 22 = .ok (.aload_n 0, 1) := by decide +kernel
theorem dX4_eggsOf_23 : decode cX4_eggsOf 23 = .ok (.iload_n 3, 1) := by decide +kernel
theorem dX4_eggsOf_24 : decode cX4_eggsOf 24 = .ok (.invokevirtual 91, 3) := by decide +kernel
theorem dX4_eggsOf_27 : decode cX4_eggsOf 27 = .ok (.goto 4, 3) := by decide +kernel
theorem dX4_eggsOf_30 : decode cX4_eggsOf 30 = .ok (.iconst 0, 1) := by decide +kernel
theorem dX4_eggsOf_31 : decode cX4_eggsOf 31 = .ok (.iadd, 1) := by decide +kernel
theorem dX4_eggsOf_32 : decode cX4_eggsOf 32 = .ok (.istore_n 2, 1) := by decide +kernel
theorem dX4_eggsOf_33 : decode cX4_eggsOf 33 = .ok (.iinc 3 1, 3) := by decide +kernel
theorem dX4_eggsOf_36 : decode cX4_eggsOf 36 = .ok (.goto (-32), 3) := by decide +kernel
theorem dX4_eggsOf_39 : decode cX4_eggsOf 39 = .ok (.iload_n 2, 1) := by decide +kernel
theorem dX4_eggsOf_40 : decode cX4_eggsOf 40 = .ok (.ireturn, 1) := by decide +kernel
theorem dX4_bestOfDay_0 : decode cX4_bestOfDay 0 = .ok (.iconst 0, 1) := by decide +kernel
theorem dX4_bestOfDay_1 : decode cX4_bestOfDay 1 = .ok (.istore_n 1, 1) := by decide +kernel
theorem dX4_bestOfDay_2 : decode cX4_bestOfDay 2 = .ok (.iconst 0, 1) := by decide +kernel
theorem dX4_bestOfDay_3 : decode cX4_bestOfDay 3 = .ok (.istore_n 2, 1) := by decide +kernel
theorem dX4_bestOfDay_4 : decode cX4_bestOfDay 4 = .ok (.iload_n 2, 1) := by decide +kernel
theorem dX4_bestOfDay_5 : decode cX4_bestOfDay 5 = .ok (.iconst 1, 1) := by decide +kernel
theorem dX4_bestOfDay_6 : decode cX4_bestOfDay 6 = .ok (.aload_n 0, 1) := by decide +kernel
theorem dX4_bestOfDay_7 : decode cX4_bestOfDay 7 = .ok (.getfield 77, 3) := by decide +kernel
theorem dX4_bestOfDay_10 : decode cX4_bestOfDay 10 = .ok (.ishl, 1) := by decide +kernel
theorem dX4_bestOfDay_11 : decode cX4_bestOfDay 11 = .ok (.if_icmp .ge 38, 3) := by decide +kernel
theorem dX4_bestOfDay_14 : decode cX4_bestOfDay 14 = .ok (.aload_n 0, 1) := by decide +kernel
theorem dX4_bestOfDay_15 : decode cX4_bestOfDay 15 = .ok (.iload_n 2, 1) := by decide +kernel
theorem dX4_bestOfDay_16 : decode cX4_bestOfDay 16 = .ok (.invokevirtual 207, 3) := by decide +kernel
theorem dX4_bestOfDay_19 : decode cX4_bestOfDay 19 = .ok (.ifCond .eq 11, 3) := by decide +kernel
theorem dX4_bestOfDay_22 : decode cX4_bestOfDay 22 = .ok (.aload_n 0, 1) := by decide +kernel
theorem dX4_bestOfDay_23 : decode cX4_bestOfDay 23 = .ok (.iload_n 2, 1) := by decide +kernel
theorem dX4_bestOfDay_24 : decode cX4_bestOfDay 24 = .ok (.invokevirtual 210, 3) := by decide +kernel
theorem dX4_bestOfDay_27 : decode cX4_bestOfDay 27 = .ok (.goto 4, 3) := by decide +kernel
theorem dX4_bestOfDay_30 : decode cX4_bestOfDay 30 = .ok (.iconst 0, 1) := by decide +kernel
theorem dX4_bestOfDay_31 : decode cX4_bestOfDay 31 = .ok (.istore_n 3, 1) := by decide +kernel
theorem dX4_bestOfDay_32 : decode cX4_bestOfDay 32 = .ok (.iload_n 3, 1) := by decide +kernel
theorem dX4_bestOfDay_33 : decode cX4_bestOfDay 33 = .ok (.iload_n 1, 1) := by decide +kernel
theorem dX4_bestOfDay_34 : decode cX4_bestOfDay 34 = .ok (.if_icmp .le 7, 3) := by decide +kernel
theorem dX4_bestOfDay_37 : decode cX4_bestOfDay 37 = .ok (.iload_n 3, 1) := by decide +kernel
theorem dX4_bestOfDay_38 : decode cX4_bestOfDay 38 = .ok (.goto 4, 3) := by decide +kernel
theorem dX4_bestOfDay_41 : decode cX4_bestOfDay 41 = .ok (.iload_n 1, 1) := by decide +kernel
theorem dX4_bestOfDay_42 : decode cX4_bestOfDay 42 = .ok (.istore_n 1, 1) := by decide +kernel
theorem dX4_bestOfDay_43 : decode cX4_bestOfDay 43 = .ok (.iinc 2 1, 3) := by decide +kernel
theorem dX4_bestOfDay_46 : decode cX4_bestOfDay 46 = .ok (.goto (-42), 3) := by decide +kernel
theorem dX4_bestOfDay_49 : decode cX4_bestOfDay 49 = .ok (.iload_n 1, 1) := by decide +kernel
theorem dX4_bestOfDay_50 : decode cX4_bestOfDay 50 = .ok (.ireturn, 1) := by decide +kernel
theorem dX4_bestOfTwo_0 : decode cX4_bestOfTwo 0 = .ok (.aload_n 0, 1) := by decide +kernel
theorem dX4_bestOfTwo_1 : decode cX4_bestOfTwo 1 = .ok (.aload_n 0, 1) := by decide +kernel
theorem dX4_bestOfTwo_2 : decode cX4_bestOfTwo 2 = .ok (.getfield 50, 3) := by decide +kernel
theorem dX4_bestOfTwo_5 : decode cX4_bestOfTwo 5 = .ok (.iconst 1, 1) := by decide +kernel
theorem dX4_bestOfTwo_6 : decode cX4_bestOfTwo 6 = .ok (.invokevirtual 143, 3) := by decide +kernel
theorem dX4_bestOfTwo_9 : decode cX4_bestOfTwo 9 = .ok (.iconst 0, 1) := by decide +kernel
theorem dX4_bestOfTwo_10 : decode cX4_bestOfTwo 10 = .ok (.istore_n 1, 1) := by decide +kernel
theorem dX4_bestOfTwo_11 : decode cX4_bestOfTwo 11 = .ok (.iconst 0, 1) := by decide +kernel
theorem dX4_bestOfTwo_12 : decode cX4_bestOfTwo 12 = .ok (.istore_n 2, 1) := by decide +kernel
theorem dX4_bestOfTwo_13 : decode cX4_bestOfTwo 13 = .ok (.iload_n 2, 1) := by decide +kernel
theorem dX4_bestOfTwo_14 : decode cX4_bestOfTwo 14 = .ok (.iconst 1, 1) := by decide +kernel
theorem dX4_bestOfTwo_15 : decode cX4_bestOfTwo 15 = .ok (.aload_n 0, 1) := by decide +kernel
theorem dX4_bestOfTwo_16 : decode cX4_bestOfTwo 16 = .ok (.getfield 77, 3) := by decide +kernel
theorem dX4_bestOfTwo_19 : decode cX4_bestOfTwo 19 = .ok (.ishl, 1) := by decide +kernel
theorem dX4_bestOfTwo_20 : decode cX4_bestOfTwo 20 = .ok (.if_icmp .ge 55, 3) := by decide +kernel
theorem dX4_bestOfTwo_23 : decode cX4_bestOfTwo 23 = .ok (.aload_n 0, 1) := by decide +kernel
theorem dX4_bestOfTwo_24 : decode cX4_bestOfTwo 24 = .ok (.iload_n 2, 1) := by decide +kernel
theorem dX4_bestOfTwo_25 : decode cX4_bestOfTwo 25 = .ok (.invokevirtual 207, 3) := by decide +kernel
theorem dX4_bestOfTwo_28 : decode cX4_bestOfTwo 28 = .ok (.ifCond .eq 41, 3) := by decide +kernel
theorem dX4_bestOfTwo_31 : decode cX4_bestOfTwo 31 = .ok (.aload_n 0, 1) := by decide +kernel
theorem dX4_bestOfTwo_32 : decode cX4_bestOfTwo 32 = .ok (.iload_n 2, 1) := by decide +kernel
theorem dX4_bestOfTwo_33 : decode cX4_bestOfTwo 33 = .ok (.invokevirtual 199, 3) := by decide +kernel
theorem dX4_bestOfTwo_36 : decode cX4_bestOfTwo 36 = .ok (.istore_n 3, 1) := by decide +kernel
theorem dX4_bestOfTwo_37 : decode cX4_bestOfTwo 37 = .ok (.aload_n 0, 1) := by decide +kernel
theorem dX4_bestOfTwo_38 : decode cX4_bestOfTwo 38 = .ok (.invokevirtual 202, 3) := by decide +kernel
theorem dX4_bestOfTwo_41 : decode cX4_bestOfTwo 41 = .ok (.pop, 1) := by decide +kernel
theorem dX4_bestOfTwo_42 : decode cX4_bestOfTwo 42 = .ok (.iload_n 3, 1) := by decide +kernel
theorem dX4_bestOfTwo_43 : decode cX4_bestOfTwo 43 = .ok (.aload_n 0, 1) := by decide +kernel
theorem dX4_bestOfTwo_44 : decode cX4_bestOfTwo 44 = .ok (.invokevirtual 213, 3) := by decide +kernel
theorem dX4_bestOfTwo_47 : decode cX4_bestOfTwo 47 = .ok (.iadd, 1) := by decide +kernel
theorem dX4_bestOfTwo_48 : decode cX4_bestOfTwo 48 = .ok (.istore_n 3, 1) := by decide +kernel
theorem dX4_bestOfTwo_49 : decode cX4_bestOfTwo 49 = .ok (.iload_n 3, 1) := by decide +kernel
theorem dX4_bestOfTwo_50 : decode cX4_bestOfTwo 50 = .ok (.iload_n 1, 1) := by decide +kernel
theorem dX4_bestOfTwo_51 : decode cX4_bestOfTwo 51 = .ok (.if_icmp .le 7, 3) := by decide +kernel
theorem dX4_bestOfTwo_54 : decode cX4_bestOfTwo 54 = .ok (.iload_n 3, 1) := by decide +kernel
theorem dX4_bestOfTwo_55 : decode cX4_bestOfTwo 55 = .ok (.goto 4, 3) := by decide +kernel
theorem dX4_bestOfTwo_58 : decode cX4_bestOfTwo 58 = .ok (.iload_n 1, 1) := by decide +kernel
theorem dX4_bestOfTwo_59 : decode cX4_bestOfTwo 59 = .ok (.istore_n 1, 1) := by decide +kernel
theorem dX4_bestOfTwo_60 : decode cX4_bestOfTwo 60 = .ok (.aload_n 0, 1) := by decide +kernel
theorem dX4_bestOfTwo_61 : decode cX4_bestOfTwo 61 = .ok (.aload_n 0, 1) := by decide +kernel
theorem dX4_bestOfTwo_62 : decode cX4_bestOfTwo 62 = .ok (.getfield 50, 3) := by decide +kernel
theorem dX4_bestOfTwo_65 : decode cX4_bestOfTwo 65 = .ok (.iconst 0, 1) := by decide +kernel
theorem dX4_bestOfTwo_66 : decode cX4_bestOfTwo 66 = .ok (.invokevirtual 143, 3) := by decide +kernel
theorem dX4_bestOfTwo_69 : decode cX4_bestOfTwo 69 = .ok (.iinc 2 1, 3) := by decide +kernel
theorem dX4_bestOfTwo_72 : decode cX4_bestOfTwo 72 = .ok (.goto (-59), 3) := by decide +kernel
theorem dX4_bestOfTwo_75 : decode cX4_bestOfTwo 75 = .ok (.iload_n 1, 1) := by decide +kernel
theorem dX4_bestOfTwo_76 : decode cX4_bestOfTwo 76 = .ok (.ireturn, 1) := by decide +kernel
theorem dX4_plan_0 : decode cX4_plan 0 = .ok (.aload_n 0, 1) := by decide +kernel
theorem dX4_plan_1 : decode cX4_plan 1 = .ok (.iconst 0, 1) := by decide +kernel
theorem dX4_plan_2 : decode cX4_plan 2 = .ok (.putfield 74, 3) := by decide +kernel
theorem dX4_plan_5 : decode cX4_plan 5 = .ok (.iload_n 2, 1) := by decide +kernel
theorem dX4_plan_6 : decode cX4_plan 6 = .ok (.i2l, 1) := by decide +kernel
theorem dX4_plan_7 : decode cX4_plan 7 = .ok (.lconst 0, 1) := by decide +kernel
theorem dX4_plan_8 : decode cX4_plan 8 = .ok (.lconst 1, 1) := by decide +kernel
theorem dX4_plan_9 : decode cX4_plan 9 = .ok (.invokestatic 80, 3) := by decide +kernel
theorem dX4_plan_12 : decode cX4_plan 12 = .ok (.ifCond .ne 8, 3) := by decide +kernel
theorem dX4_plan_15 : decode cX4_plan 15 = .ok (.bipush (-2), 2) := by decide +kernel
theorem dX4_plan_17 : decode cX4_plan 17 = .ok (.goto 36, 3) := by decide +kernel
theorem dX4_plan_20 : decode cX4_plan 20 = .ok (.iload_n 1, 1) := by decide +kernel
theorem dX4_plan_21 : decode cX4_plan 21 = .ok (.iconst 1, 1) := by decide +kernel
theorem dX4_plan_22 : decode cX4_plan 22 = .ok (.if_icmp .ge 8, 3) := by decide +kernel
theorem dX4_plan_25 : decode cX4_plan 25 = .ok (.bipush (-4), 2) := by decide +kernel
theorem dX4_plan_27 : decode cX4_plan 27 = .ok (.goto 26, 3) := by decide +kernel
theorem dX4_plan_30 : decode cX4_plan 30 = .ok (.iload_n 1, 1) := by decide +kernel
theorem dX4_plan_31 : decode cX4_plan 31 = .ok (.iconst 3, 1) := by decide +kernel
theorem dX4_plan_32 : decode cX4_plan 32 = .ok (.if_icmp .le 8, 3) := by decide +kernel
theorem dX4_plan_35 : decode cX4_plan 35 = .ok (.bipush (-6), 2) := by decide +kernel
theorem dX4_plan_37 : decode cX4_plan 37 = .ok (.goto 16, 3) := by decide +kernel
theorem dX4_plan_40 : decode cX4_plan 40 = .ok (.aload_n 0, 1) := by decide +kernel
theorem dX4_plan_41 : decode cX4_plan 41 = .ok (.getfield 77, 3) := by decide +kernel
theorem dX4_plan_44 : decode cX4_plan 44 = .ok (.ifCond .ne 8, 3) := by decide +kernel
theorem dX4_plan_47 : decode cX4_plan 47 = .ok (.bipush (-3), 2) := by decide +kernel
theorem dX4_plan_49 : decode cX4_plan 49 = .ok (.goto 4, 3) := by decide +kernel
theorem dX4_plan_52 : decode cX4_plan 52 = .ok (.iconst 0, 1) := by decide +kernel
theorem dX4_plan_53 : decode cX4_plan 53 = .ok (.istore_n 3, 1) := by decide +kernel
theorem dX4_plan_54 : decode cX4_plan 54 = .ok (.iload_n 3, 1) := by decide +kernel
theorem dX4_plan_55 : decode cX4_plan 55 = .ok (.ifCond .ge 9, 3) := by decide +kernel
theorem dX4_plan_58 : decode cX4_plan 58 = .ok (.aload_n 0, 1) := by decide +kernel
theorem dX4_plan_59 : decode cX4_plan 59 = .ok (.iload_n 3, 1) := by decide +kernel
theorem dX4_plan_60 : decode cX4_plan 60 = .ok (.invokevirtual 150, 3) := by decide +kernel
theorem dX4_plan_63 : decode cX4_plan 63 = .ok (.ireturn, 1) := by decide +kernel
theorem dX4_plan_64 : decode cX4_plan 64 = .ok (.aload_n 0, 1) := by decide +kernel
theorem dX4_plan_65 : decode cX4_plan 65 = .ok (.invokevirtual 182, 3) := by decide +kernel
theorem dX4_plan_68 : decode cX4_plan 68 = .ok (.aload_n 0, 1) := by decide +kernel
theorem dX4_plan_69 : decode cX4_plan 69 = .ok (.iconst 0, 1) := by decide +kernel
theorem dX4_plan_70 : decode cX4_plan 70 = .ok (.putfield 84, 3) := by decide +kernel
theorem dX4_plan_73 : decode cX4_plan 73 = .ok (.aload_n 0, 1) := by decide +kernel
theorem dX4_plan_74 : decode cX4_plan 74 = .ok (.aload_n 0, 1) := by decide +kernel
theorem dX4_plan_75 : decode cX4_plan 75 = .ok (.getfield 47, 3) := by decide +kernel
theorem dX4_plan_78 : decode cX4_plan 78 = .ok (.iconst 1, 1) := by decide +kernel
theorem dX4_plan_79 : decode cX4_plan 79 = .ok (.invokevirtual 143, 3) := by decide +kernel
theorem dX4_plan_82 : decode cX4_plan 82 = .ok (.iconst (-1), 1) := by decide +kernel
theorem dX4_plan_83 : decode cX4_plan 83 = .ok (.istore 4, 2) := by decide +kernel
theorem dX4_plan_85 : decode cX4_plan 85 = .ok (.iconst 0, 1) := by decide +kernel
theorem dX4_plan_86 : decode cX4_plan 86 = .ok (.istore 5, 2) := by decide +kernel
theorem dX4_plan_88 : decode cX4_plan 88 = .ok (.iconst 0, 1) := by decide +kernel
theorem dX4_plan_89 : decode cX4_plan 89 = .ok (.istore 6, 2) := by decide +kernel
theorem dX4_plan_91 : decode cX4_plan 91 = .ok (.iload 6, 2) := by decide +kernel
theorem dX4_plan_93 : decode cX4_plan 93 = .ok (.iconst 1, 1) := by decide +kernel
theorem dX4_plan_94 : decode cX4_plan 94 = .ok (.aload_n 0, 1) := by decide +kernel
theorem dX4_plan_95 : decode cX4_plan 95 = .ok (.getfield 77, 3) := by decide +kernel
theorem dX4_plan_98 : decode cX4_plan 98 = .ok (.ishl, 1) := by decide +kernel
theorem dX4_plan_99 : decode cX4_plan 99 = .ok (.if_icmp .ge 98, 3) := by decide +kernel
theorem dX4_plan_102 : decode cX4_plan 102 = .ok (.aload_n 0, 1) := by decide +kernel
theorem dX4_plan_103 : decode cX4_plan 103 = .ok (.iload 6, 2) := by decide +kernel
theorem dX4_plan_105 : decode cX4_plan 105 = .ok (.invokevirtual 207, 3) := by decide +kernel
theorem dX4_plan_108 : decode cX4_plan 108 = .ok (.ifCond .eq 83, 3) := by decide +kernel
theorem dX4_plan_111 : decode cX4_plan 111 = .ok (.aload_n 0, 1) := by decide +kernel
theorem dX4_plan_112 : decode cX4_plan 112 = .ok (.iload 6, 2) := by decide +kernel
theorem dX4_plan_114 : decode cX4_plan 114 = .ok (.invokevirtual 199, 3) := by decide +kernel
theorem dX4_plan_117 : decode cX4_plan 117 = .ok (.istore 7, 2) := by decide +kernel
theorem dX4_plan_119 : decode cX4_plan 119 = .ok (.iload_n 1, 1) := by decide +kernel
theorem dX4_plan_120 : decode cX4_plan 120 = .ok (.iconst 1, 1) := by decide +kernel
theorem dX4_plan_121 : decode cX4_plan 121 = .ok (.if_icmp .le 29, 3) := by decide +kernel
theorem dX4_plan_124 : decode cX4_plan 124 = .ok (.aload_n 0, 1) := by decide +kernel
theorem dX4_plan_125 : decode cX4_plan 125 = .ok (.invokevirtual 202, 3) := by decide +kernel
theorem dX4_plan_128 : decode cX4_plan 128 = .ok (.pop, 1) := by decide +kernel
theorem dX4_plan_129 : decode cX4_plan 129 = .ok (.iload 7, 2) := by decide +kernel
theorem dX4_plan_131 : decode cX4_plan 131 = .ok (.iload_n 1, 1) := by decide +kernel
theorem dX4_plan_132 : decode cX4_plan 132 = .ok (.iconst 2, 1) := by decide +kernel
theorem dX4_plan_133 : decode cX4_plan 133 = .ok (.if_icmp .ne 10, 3) := by decide +kernel
theorem dX4_plan_136 : decode cX4_plan 136 = .ok (.aload_n 0, 1) := by decide +kernel
theorem dX4_plan_137 : decode cX4_plan 137 = .ok (.invokevirtual 213, 3) := by decide +kernel
theorem dX4_plan_140 : decode cX4_plan 140 = .ok (.goto 7, 3) := by decide +kernel
theorem dX4_plan_143 : decode cX4_plan 143 = .ok (.aload_n 0, 1) := by decide +kernel
theorem dX4_plan_144 : decode cX4_plan 144 = .ok (.invokevirtual 216, 3) := by decide +kernel
theorem dX4_plan_147 : decode cX4_plan 147 = .ok (.iadd, 1) := by decide +kernel
theorem dX4_plan_148 : decode cX4_plan 148 = .ok (.istore 7, 2) := by decide +kernel
theorem dX4_plan_150 : decode cX4_plan 150 = .ok (.aload_n 0, 1) := by decide +kernel
theorem dX4_plan_151 : decode cX4_plan 151 = .ok (.aload_n 0, 1) := by decide +kernel
theorem dX4_plan_152 : decode cX4_plan 152 = .ok (.getfield 47, 3) := by decide +kernel
theorem dX4_plan_155 : decode cX4_plan 155 = .ok (.iconst 0, 1) := by decide +kernel
theorem dX4_plan_156 : decode cX4_plan 156 = .ok (.invokevirtual 143, 3) := by decide +kernel
theorem dX4_plan_159 : decode cX4_plan 159 = .ok (.iload 7, 2) := by decide +kernel
theorem dX4_plan_161 : decode cX4_plan 161 = .ok (.iload 4, 2) := by decide +kernel
theorem dX4_plan_163 : decode cX4_plan 163 = .ok (.if_icmp .le 8, 3) := by decide +kernel
theorem dX4_plan_166 : decode cX4_plan 166 = .ok (.iload 6, 2) := by decide +kernel
theorem dX4_plan_168 : decode cX4_plan 168 = .ok (.goto 5, 3) := by decide +kernel
theorem dX4_plan_171 : decode cX4_plan 171 = .ok (.iload 5, 2) := by decide +kernel
theorem dX4_plan_173 : decode cX4_plan 173 = .ok (.istore 5, 2) := by decide +kernel
theorem dX4_plan_175 : decode cX4_plan 175 = .ok (.iload 7, 2) := by decide +kernel
theorem dX4_plan_177 : decode cX4_plan 177 = .ok (.iload 4, 2) := by decide +kernel
theorem dX4_plan_179 : decode cX4_plan 179 = .ok (.if_icmp .le 8, 3) := by decide +kernel
theorem dX4_plan_182 : decode cX4_plan 182 = .ok (.iload 7, 2) := by decide +kernel
theorem dX4_plan_184 : decode cX4_plan 184 = .ok (.goto 5, 3) := by decide +kernel
theorem dX4_plan_187 : decode cX4_plan 187 = .ok (.iload 4, 2) := by decide +kernel
theorem dX4_plan_189 : decode cX4_plan 189 = .ok (.istore 4, 2) := by decide +kernel
theorem dX4_plan_191 : decode cX4_plan 191 = .ok (.iinc 6 1, 3) := by decide +kernel
theorem dX4_plan_194 : decode cX4_plan 194 = .ok (.goto (-103), 3) := by decide +kernel
theorem dX4_plan_197 : decode cX4_plan 197 = .ok (.aload_n 0, 1) := by decide +kernel
theorem dX4_plan_198 : decode cX4_plan 198 = .ok (.invokevirtual 188, 3) := by decide +kernel
theorem dX4_plan_201 : decode cX4_plan 201 = .ok (.iload_n 2, 1) := by decide +kernel
theorem dX4_plan_202 : decode cX4_plan 202 = .ok (.ifCond .ne 8, 3) := by decide +kernel
theorem dX4_plan_205 : decode cX4_plan 205 = .ok (.iload 4, 2) := by decide +kernel
theorem dX4_plan_207 : decode cX4_plan 207 = .ok (.goto 5, 3) := by decide +kernel
theorem dX4_plan_210 : decode cX4_plan 210 = .ok (.iload 5, 2) := by decide +kernel
theorem dX4_plan_212 : decode cX4_plan 212 = .ok (.ireturn, 1) := by decide +kernel
theorem dX4_each_0 : decode cX4_each 0 = .ok (.aload_n 0, 1) := by decide +kernel
theorem dX4_each_1 : decode cX4_each 1 = .ok (.iconst 0, 1) := by decide +kernel
theorem dX4_each_2 : decode cX4_each 2 = .ok (.putfield 74, 3) := by decide +kernel
theorem dX4_each_5 : decode cX4_each 5 = .ok (.iload_n 1, 1) := by decide +kernel
theorem dX4_each_6 : decode cX4_each 6 = .ok (.ifCond .lt 12, 3) := by decide +kernel
theorem dX4_each_9 : decode cX4_each 9 = .ok (.iload_n 1, 1) := by decide +kernel
theorem dX4_each_10 : decode cX4_each 10 = .ok (.aload_n 0, 1) := by decide +kernel
theorem dX4_each_11 : decode cX4_each 11 = .ok (.getfield 77, 3) := by decide +kernel
theorem dX4_each_14 : decode cX4_each 14 = .ok (.ishr, 1) := by decide +kernel
theorem dX4_each_15 : decode cX4_each 15 = .ok (.ifCond .eq 7, 3) := by decide +kernel
theorem dX4_each_18 : decode cX4_each 18 = .ok (.iconst (-1), 1) := by decide +kernel
theorem dX4_each_19 : decode cX4_each 19 = .ok (.goto 37, 3) := by decide +kernel
theorem dX4_each_22 : decode cX4_each 22 = .ok (.iload_n 2, 1) := by decide +kernel
theorem dX4_each_23 : decode cX4_each 23 = .ok (.iconst 1, 1) := by decide +kernel
theorem dX4_each_24 : decode cX4_each 24 = .ok (.if_icmp .ge 8, 3) := by decide +kernel
theorem dX4_each_27 : decode cX4_each 27 = .ok (.bipush (-4), 2) := by decide +kernel
theorem dX4_each_29 : decode cX4_each 29 = .ok (.goto 27, 3) := by decide +kernel
theorem dX4_each_32 : decode cX4_each 32 = .ok (.iload_n 2, 1) := by decide +kernel
theorem dX4_each_33 : decode cX4_each 33 = .ok (.bipush 30, 2) := by decide +kernel
theorem dX4_each_35 : decode cX4_each 35 = .ok (.if_icmp .le 8, 3) := by decide +kernel
theorem dX4_each_38 : decode cX4_each 38 = .ok (.bipush (-6), 2) := by decide +kernel
theorem dX4_each_40 : decode cX4_each 40 = .ok (.goto 16, 3) := by decide +kernel
theorem dX4_each_43 : decode cX4_each 43 = .ok (.aload_n 0, 1) := by decide +kernel
theorem dX4_each_44 : decode cX4_each 44 = .ok (.getfield 77, 3) := by decide +kernel
theorem dX4_each_47 : decode cX4_each 47 = .ok (.ifCond .ne 8, 3) := by decide +kernel
theorem dX4_each_50 : decode cX4_each 50 = .ok (.bipush (-3), 2) := by decide +kernel
theorem dX4_each_52 : decode cX4_each 52 = .ok (.goto 4, 3) := by decide +kernel
theorem dX4_each_55 : decode cX4_each 55 = .ok (.iconst 0, 1) := by decide +kernel
theorem dX4_each_56 : decode cX4_each 56 = .ok (.istore_n 3, 1) := by decide +kernel
theorem dX4_each_57 : decode cX4_each 57 = .ok (.iload_n 3, 1) := by decide +kernel
theorem dX4_each_58 : decode cX4_each 58 = .ok (.ifCond .ge 9, 3) := by decide +kernel
theorem dX4_each_61 : decode cX4_each 61 = .ok (.aload_n 0, 1) := by decide +kernel
theorem dX4_each_62 : decode cX4_each 62 = .ok (.iload_n 3, 1) := by decide +kernel
theorem dX4_each_63 : decode cX4_each 63 = .ok (.invokevirtual 150, 3) := by decide +kernel
theorem dX4_each_66 : decode cX4_each 66 = .ok (.ireturn, 1) := by decide +kernel
theorem dX4_each_67 : decode cX4_each 67 = .ok (.aload_n 0, 1) := by decide +kernel
theorem dX4_each_68 : decode cX4_each 68 = .ok (.invokevirtual 182, 3) := by decide +kernel
theorem dX4_each_71 : decode cX4_each 71 = .ok (.aload_n 0, 1) := by decide +kernel
theorem dX4_each_72 : decode cX4_each 72 = .ok (.iconst 0, 1) := by decide +kernel
theorem dX4_each_73 : decode cX4_each 73 = .ok (.putfield 84, 3) := by decide +kernel
theorem dX4_each_76 : decode cX4_each 76 = .ok (.iconst 0, 1) := by decide +kernel
theorem dX4_each_77 : decode cX4_each 77 = .ok (.istore 4, 2) := by decide +kernel
theorem dX4_each_79 : decode cX4_each 79 = .ok (.iconst 0, 1) := by decide +kernel
theorem dX4_each_80 : decode cX4_each 80 = .ok (.istore 5, 2) := by decide +kernel
theorem dX4_each_82 : decode cX4_each 82 = .ok (.iload 5, 2) := by decide +kernel
theorem dX4_each_84 : decode cX4_each 84 = .ok (.iload_n 2, 1) := by decide +kernel
theorem dX4_each_85 : decode cX4_each 85 = .ok (.if_icmp .ge 24, 3) := by decide +kernel
theorem dX4_each_88 : decode cX4_each 88 = .ok (.iload 4, 2) := by decide +kernel
theorem dX4_each_90 : decode cX4_each 90 = .ok (.aload_n 0, 1) := by decide +kernel
theorem dX4_each_91 : decode cX4_each 91 = .ok (.iload_n 1, 1) := by decide +kernel
theorem dX4_each_92 : decode cX4_each 92 = .ok (.invokevirtual 199, 3) := by decide +kernel
theorem dX4_each_95 : decode cX4_each 95 = .ok (.iadd, 1) := by decide +kernel
theorem dX4_each_96 : decode cX4_each 96 = .ok (.istore 4, 2) := by decide +kernel
theorem dX4_each_98 : decode cX4_each 98 = .ok (.aload_n 0, 1) := by decide +kernel
theorem dX4_each_99 : decode cX4_each 99 = .ok (.invokevirtual 202, 3) := by decide +kernel
theorem dX4_each_102 : decode cX4_each 102 = .ok (.pop, 1) := by decide +kernel
theorem dX4_each_103 : decode cX4_each 103 = .ok (.iinc 5 1, 3) := by decide +kernel
theorem dX4_each_106 : decode cX4_each 106 = .ok (.goto (-24), 3) := by decide +kernel
theorem dX4_each_109 : decode cX4_each 109 = .ok (.aload_n 0, 1) := by decide +kernel
theorem dX4_each_110 : decode cX4_each 110 = .ok (.invokevirtual 188, 3) := by decide +kernel
theorem dX4_each_113 : decode cX4_each 113 = .ok (.iload 4, 2) := by decide +kernel
theorem dX4_each_115 : decode cX4_each 115 = .ok (.ireturn, 1) := by decide +kernel
theorem dX4_shut_0 : decode cX4_shut 0 = .ok (.aload_n 0, 1) := by decide +kernel
theorem dX4_shut_1 : decode cX4_shut 1 = .ok (.iconst 0, 1) := by decide +kernel
theorem dX4_shut_2 : decode cX4_shut 2 = .ok (.putfield 74, 3) := by decide +kernel
theorem dX4_shut_5 : decode cX4_shut 5 = .ok (.aload_n 0, 1) := by decide +kernel
theorem dX4_shut_6 : decode cX4_shut 6 = .ok (.getfield 77, 3) := by decide +kernel
theorem dX4_shut_9 : decode cX4_shut 9 = .ok (.ifCond .ne 10, 3) := by decide +kernel
theorem dX4_shut_12 : decode cX4_shut 12 = .ok (.aload_n 0, 1) := by decide +kernel
theorem dX4_shut_13 : decode cX4_shut 13 = .ok (.bipush (-3), 2) := by decide +kernel
theorem dX4_shut_15 : decode cX4_shut 15 = .ok (.invokevirtual 150, 3) := by decide +kernel
theorem dX4_shut_18 : decode cX4_shut 18 = .ok (.ireturn, 1) := by decide +kernel
theorem dX4_shut_19 : decode cX4_shut 19 = .ok (.iconst 0, 1) := by decide +kernel
theorem dX4_shut_20 : decode cX4_shut 20 = .ok (.istore_n 1, 1) := by decide +kernel
theorem dX4_shut_21 : decode cX4_shut 21 = .ok (.iload_n 1, 1) := by decide +kernel
theorem dX4_shut_22 : decode cX4_shut 22 = .ok (.iconst 1, 1) := by decide +kernel
theorem dX4_shut_23 : decode cX4_shut 23 = .ok (.aload_n 0, 1) := by decide +kernel
theorem dX4_shut_24 : decode cX4_shut 24 = .ok (.getfield 77, 3) := by decide +kernel
theorem dX4_shut_27 : decode cX4_shut 27 = .ok (.ishl, 1) := by decide +kernel
theorem dX4_shut_28 : decode cX4_shut 28 = .ok (.if_icmp .ge 58, 3) := by decide +kernel
theorem dX4_shut_31 : decode cX4_shut 31 = .ok (.iconst 0, 1) := by decide +kernel
theorem dX4_shut_32 : decode cX4_shut 32 = .ok (.istore_n 2, 1) := by decide +kernel
theorem dX4_shut_33 : decode cX4_shut 33 = .ok (.iconst 0, 1) := by decide +kernel
theorem dX4_shut_34 : decode cX4_shut 34 = .ok (.istore_n 3, 1) := by decide +kernel
theorem dX4_shut_35 : decode cX4_shut 35 = .ok (.iload_n 3, 1) := by decide +kernel
theorem dX4_shut_36 : decode cX4_shut 36 = .ok (.aload_n 0, 1) := by decide +kernel
theorem dX4_shut_37 : decode cX4_shut 37 = .ok (.getfield 77, 3) := by decide +kernel
theorem dX4_shut_40 : decode cX4_shut 40 = .ok (.if_icmp .ge 25, 3) := by decide +kernel
theorem dX4_shut_43 : decode cX4_shut 43 = .ok (.iload_n 2, 1) := by decide +kernel
theorem dX4_shut_44 : decode cX4_shut 44 = .ok (.iload_n 1, 1) := by decide +kernel
theorem dX4_shut_45 : decode cX4_shut 45 = .ok (.iload_n 3, 1) := by decide +kernel
theorem dX4_shut_46 : decode cX4_shut 46 = .ok (.ishr, 1) := by decide +kernel
theorem dX4_shut_47 : decode cX4_shut 47 = .ok (.iconst 1, 1) := by decide +kernel
theorem dX4_shut_48 : decode cX4_shut 48 = .ok (.iand, 1) := by decide +kernel
theorem dX4_shut_49 : decode cX4_shut 49 = .ok (.ifCond .ne 7, 3) := by decide +kernel
theorem dX4_shut_52 : decode cX4_shut 52 = .ok (.iconst 1, 1) := by decide +kernel
theorem dX4_shut_53 : decode cX4_shut 53 = .ok (.goto 4, 3) := by decide +kernel
theorem dX4_shut_56 : decode cX4_shut 56 = .ok (.iconst 0, 1) := by decide +kernel
theorem dX4_shut_57 : decode cX4_shut 57 = .ok (.iadd, 1) := by decide +kernel
theorem dX4_shut_58 : decode cX4_shut 58 = .ok (.istore_n 2, 1) := by decide +kernel
theorem dX4_shut_59 : decode cX4_shut 59 = .ok (.iinc 3 1, 3) := by decide +kernel
theorem dX4_shut_62 : decode cX4_shut 62 = .ok (.goto (-27), 3) := by decide +kernel
theorem dX4_shut_65 : decode cX4_shut 65 = .ok (.iload_n 2, 1) := by decide +kernel
theorem dX4_shut_66 : decode cX4_shut 66 = .ok (.iconst 1, 1) := by decide +kernel
theorem dX4_shut_67 : decode cX4_shut 67 = .ok (.if_icmp .ne 13, 3) := by decide +kernel
theorem dX4_shut_70 : decode cX4_shut 70 = .ok (.aload_n 0, 1) := by decide +kernel
theorem dX4_shut_71 : decode cX4_shut 71 = .ok (.iload_n 1, 1) := by decide +kernel
theorem dX4_shut_72 : decode cX4_shut 72 = .ok (.invokevirtual 207, 3) := by decide +kernel
theorem dX4_shut_75 : decode cX4_shut 75 = .ok (.ifCond .eq 5, 3) := by decide +kernel
theorem dX4_shut_78 : decode cX4_shut 78 = .ok (.iload_n 1, 1) := by decide +kernel
theorem dX4_shut_79 : decode cX4_shut 79 = .ok (.ireturn, 1) := by decide +kernel
theorem dX4_shut_80 : decode cX4_shut 80 = .ok (.iinc 1 1, 3) := by decide +kernel
theorem dX4_shut_83 : decode cX4_shut 83 = .ok (.goto (-62), 3) := by decide +kernel
theorem dX4_shut_86 : decode cX4_shut 86 = .ok (.bipush (-9), 2) := by decide +kernel
theorem dX4_shut_88 : decode cX4_shut 88 = .ok (.ireturn, 1) := by decide +kernel
theorem dX4_lead_0 : decode cX4_lead 0 = .ok (.aload_n 0, 1) := by decide +kernel
theorem dX4_lead_1 : decode cX4_lead 1 = .ok (.iconst 0, 1) := by decide +kernel
theorem dX4_lead_2 : decode cX4_lead 2 = .ok (.putfield 74, 3) := by decide +kernel
theorem dX4_lead_5 : decode cX4_lead 5 = .ok (.aload_n 0, 1) := by decide +kernel
theorem dX4_lead_6 : decode cX4_lead 6 = .ok (.iload_n 1, 1) := by decide +kernel
theorem dX4_lead_7 : decode cX4_lead 7 = .ok (.invokevirtual 175, 3) := by decide +kernel
theorem dX4_lead_10 : decode cX4_lead 10 = .ok (.ifCond .ne 9, 3) := by decide +kernel
theorem dX4_lead_13 : decode cX4_lead 13 = .ok (.aload_n 0, 1) := by decide +kernel
theorem dX4_lead_14 : decode cX4_lead 14 = .ok (.iconst (-1), 1) := by decide +kernel
theorem dX4_lead_15 : decode cX4_lead 15 = .ok (.invokevirtual 150, 3) := by decide +kernel
theorem dX4_lead_18 : decode cX4_lead 18 = .ok (.ireturn, 1) := by decide +kernel
theorem dX4_lead_19 : decode cX4_lead 19 = .ok (.aload_n 0, 1) := by decide +kernel
theorem dX4_lead_20 : decode cX4_lead 20 = .ok (.getfield 16, 3) := by decide +kernel
theorem dX4_lead_23 : decode cX4_lead 23 = .ok (.iload_n 1, 1) := by decide +kernel
theorem dX4_lead_24 : decode cX4_lead 24 = .ok (.if_icmp .ne 5, 3) := by decide +kernel
theorem dX4_lead_27 : decode cX4_lead 27 = .ok (.iconst 0, 1) := by decide +kernel
theorem dX4_lead_28 : decode cX4_lead 28 = .ok (.ireturn, 1) := by decide +kernel
theorem dX4_lead_29 : decode cX4_lead 29 = .ok (.aload_n 0, 1) := by decide +kernel
theorem dX4_lead_30 : decode cX4_lead 30 = .ok (.invokevirtual 182, 3) := by decide +kernel
theorem dX4_lead_33 : decode cX4_lead 33 = .ok (.aload_n 0, 1) := by decide +kernel
theorem dX4_lead_34 : decode cX4_lead 34 = .ok (.aload_n 0, 1) := by decide +kernel
theorem dX4_lead_35 : decode cX4_lead 35 = .ok (.getfield 95, 3) := by decide +kernel
theorem dX4_lead_38 : decode cX4_lead 38 = .ok (.iconst 4, 1) := by decide +kernel
theorem dX4_lead_39 : decode cX4_lead 39 = .ok (.if_icmp .ne 7, 3) := by decide +kernel
theorem dX4_lead_42 : decode cX4_lead 42 = .ok (.iconst 3, 1) := by decide +kernel
theorem dX4_lead_43 : decode cX4_lead 43 = .ok (.goto 7, 3) := by decide +kernel
theorem dX4_lead_46 : decode cX4_lead 46 = .ok (.aload_n 0, 1) := by decide +kernel
theorem dX4_lead_47 : decode cX4_lead 47 = .ok (.getfield 95, 3) := by decide +kernel
theorem dX4_lead_50 : decode cX4_lead 50 = .ok (.putfield 95, 3) := by decide +kernel
theorem dX4_lead_53 : decode cX4_lead 53 = .ok (.aload_n 0, 1) := by decide +kernel
theorem dX4_lead_54 : decode cX4_lead 54 = .ok (.getfield 16, 3) := by decide +kernel
theorem dX4_lead_57 : decode cX4_lead 57 = .ok (.ifCond .ge 7, 3) := by decide +kernel
theorem dX4_lead_60 : decode cX4_lead 60 = .ok (.iconst 0, 1) := by decide +kernel
theorem dX4_lead_61 : decode cX4_lead 61 = .ok (.goto 9, 3) := by decide +kernel
theorem dX4_lead_64 : decode cX4_lead 64 = .ok (.iconst 1, 1) := by decide +kernel
theorem dX4_lead_65 : decode cX4_lead 65 = .ok (.aload_n 0, 1) := by decide +kernel
theorem dX4_lead_66 : decode cX4_lead 66 = .ok (.getfield 16, 3) := by decide +kernel
theorem dX4_lead_69 : decode cX4_lead 69 = .ok (.ishl, 1) := by decide +kernel
theorem dX4_lead_70 : decode cX4_lead 70 = .ok (.istore_n 2, 1) := by decide +kernel
theorem dX4_lead_71 : decode cX4_lead 71 = .ok (.aload_n 0, 1) := by decide +kernel
theorem dX4_lead_72 : decode cX4_lead 72 = .ok (.getfield 16, 3) := by decide +kernel
theorem dX4_lead_75 : decode cX4_lead 75 = .ok (.ifCond .ge 7, 3) := by decide +kernel
theorem dX4_lead_78 : decode cX4_lead 78 = .ok (.iconst 1, 1) := by decide +kernel
theorem dX4_lead_79 : decode cX4_lead 79 = .ok (.goto 4, 3) := by decide +kernel
theorem dX4_lead_82 : decode cX4_lead 82 = .ok (.iconst 0, 1) := by decide +kernel
theorem dX4_lead_83 : decode cX4_lead 83 = .ok (.istore_n 3, 1) := by decide +kernel
theorem dX4_lead_84 : decode cX4_lead 84 = .ok (.bipush (-9), 2) := by decide +kernel
theorem dX4_lead_86 : decode cX4_lead 86 = .ok (.istore 4, 2) := by decide +kernel
theorem dX4_lead_88 : decode cX4_lead 88 = .ok (.iconst 1, 1) := by decide +kernel
theorem dX4_lead_89 : decode cX4_lead 89 = .ok (.istore 5, 2) := by decide +kernel
theorem dX4_lead_91 : decode cX4_lead 91 = .ok (.iload 5, 2) := by decide +kernel
theorem dX4_lead_93 : decode cX4_lead 93 = .ok (.bipush 7, 2) := by decide +kernel
theorem dX4_lead_95 : decode cX4_lead 95 = .ok (.if_icmp .ge 155, 3) := by decide +kernel
theorem dX4_lead_98 : decode cX4_lead 98 = .ok (.iload 4, 2) := by decide +kernel
theorem dX4_lead_100 : decode cX4_lead 100 = .ok (.ifCond .ge 150, 3) := by decide +kernel
theorem dX4_lead_103 : decode cX4_lead 103 = .ok (.iconst 0, 1) := by decide +kernel
theorem dX4_lead_104 : decode cX4_lead 104 = .ok (.istore 6, 2) := by decide +kernel
theorem dX4_lead_106 : decode cX4_lead 106 = .ok (.iconst (-1), 1) := by decide +kernel
theorem dX4_lead_107 : decode cX4_lead 107 = .ok (.istore 7, 2) := by decide +kernel
theorem dX4_lead_109 : decode cX4_lead 109 = .ok (.iload 7, 2) := by decide +kernel
theorem dX4_lead_111 : decode cX4_lead 111 = .ok (.aload_n 0, 1) := by decide +kernel
theorem dX4_lead_112 : decode cX4_lead 112 = .ok (.getfield 77, 3) := by decide +kernel
theorem dX4_lead_115 : decode cX4_lead 115 = .ok (.if_icmp .ge 96, 3) := by decide +kernel
theorem dX4_lead_118 : decode cX4_lead 118 = .ok (.iload 7, 2) := by decide +kernel
theorem dX4_lead_120 : decode cX4_lead 120 = .ok (.ifCond .ge 7, 3) := by decide +kernel
theorem dX4_lead_123 : decode cX4_lead 123 = .ok (.iload_n 3, 1) := by decide +kernel
theorem dX4_lead_124 : decode cX4_lead 124 = .ok (.goto 18, 3) := by decide +kernel
theorem dX4_lead_127 : decode cX4_lead 127 = .ok (.iload_n 2, 1) := by decide +kernel
theorem dX4_lead_128 : decode cX4_lead 128 = .ok (.iload 7, 2) := by decide +kernel
theorem dX4_lead_130 : decode cX4_lead 130 = .ok (.ishr, 1) := by decide +kernel
theorem dX4_lead_131 : decode cX4_lead 131 = .ok (.iconst 1, 1) := by decide +kernel
theorem dX4_lead_132 : decode cX4_lead 132 = .ok (.iand, 1) := by decide +kernel
theorem dX4_lead_133 : decode cX4_lead 133 = .ok (.iconst 1, 1) := by decide +kernel
theorem dX4_lead_134 : decode cX4_lead 134 = .ok (.if_icmp .ne 7, 3) := by decide +kernel
theorem dX4_lead_137 : decode cX4_lead 137 = .ok (.iconst 1, 1) := by decide +kernel
theorem dX4_lead_138 : decode cX4_lead 138 = .ok (.goto 4, 3) := by decide +kernel
theorem dX4_lead_141 : decode cX4_lead 141 = .ok (.iconst 0, 1) := by decide +kernel
theorem dX4_lead_142 : decode cX4_lead 142 = .ok (.istore 8, 2) := by decide +kernel
theorem dX4_lead_144 : decode cX4_lead 144 = .ok (.iconst 0, 1) := by decide +kernel
theorem dX4_lead_145 : decode cX4_lead 145 = .ok (.istore 9, 2) := by decide +kernel
theorem dX4_lead_147 : decode cX4_lead 147 = .ok (.iload 9, 2) := by decide +kernel
theorem dX4_lead_149 : decode cX4_lead 149 = .ok (.iconst 1, 1) := by decide +kernel
theorem dX4_lead_150 : decode cX4_lead 150 = .ok (.aload_n 0, 1) := by decide +kernel
theorem dX4_lead_151 : decode cX4_lead 151 = .ok (.getfield 77, 3) := by decide +kernel
theorem dX4_lead_154 : decode cX4_lead 154 = .ok (.ishl, 1) := by decide +kernel
theorem dX4_lead_155 : decode cX4_lead 155 = .ok (.if_icmp .ge 50, 3) := by decide +kernel
theorem dX4_lead_158 : decode cX4_lead 158 = .ok (.iload 8, 2) := by decide +kernel
theorem dX4_lead_160 : decode cX4_lead 160 = .ok (.ifCond .eq 45, 3) := by decide +kernel
theorem dX4_lead_163 : decode cX4_lead 163 = .ok (.aload_n 0, 1) := by decide +kernel
theorem dX4_lead_164 : decode cX4_lead 164 = .ok (.iload 7, 2) := by decide +kernel
theorem dX4_lead_166 : decode cX4_lead 166 = .ok (.putfield 16, 3) := by decide +kernel
theorem dX4_lead_169 : decode cX4_lead 169 = .ok (.aload_n 0, 1) := by decide +kernel
theorem dX4_lead_170 : decode cX4_lead 170 = .ok (.iload 9, 2) := by decide +kernel
theorem dX4_lead_172 : decode cX4_lead 172 = .ok (.putfield 84, 3) := by decide +kernel
theorem dX4_lead_175 : decode cX4_lead 175 = .ok (.iload 6, 2) := by decide +kernel
theorem dX4_lead_177 : decode cX4_lead 177 = .ok (.aload_n 0, 1) := by decide +kernel
theorem dX4_lead_178 : decode cX4_lead 178 = .ok (.iload 9, 2) := by decide +kernel
theorem dX4_lead_180 : decode cX4_lead 180 = .ok (.invokevirtual 207, 3) := by decide +kernel
theorem dX4_lead_183 : decode cX4_lead 183 = .ok (.ifCond .eq 12, 3) := by decide +kernel
theorem dX4_lead_186 : decode cX4_lead 186 = .ok (.iconst 1, 1) := by decide +kernel
theorem dX4_lead_187 : decode cX4_lead 187 = .ok (.aload_n 0, 1) := by decide +kernel
theorem dX4_lead_188 : decode cX4_lead 188 = .ok (.invokevirtual 120, 3) := by decide +kernel
theorem dX4_lead_191 : decode cX4_lead 191 = .ok (.ishl, 1) := by decide +kernel
theorem dX4_lead_192 : decode cX4_lead 192 = .ok (.goto 4, 3) := by decide +kernel
theorem dX4_lead_195 : decode cX4_lead 195 = .ok (.iconst 0, 1) := by decide +kernel
theorem dX4_lead_196 : decode cX4_lead 196 = .ok (.ior, 1) := by decide +kernel
theorem dX4_lead_197 : decode cX4_lead 197 = .ok (.istore 6, 2) := by decide +kernel
theorem dX4_lead_199 : decode cX4_lead 199 = .ok (.iinc 9 1, 3) := by decide +kernel
theorem dX4_lead_202 : decode cX4_lead 202 = .ok (.goto (-55), 3) := by decide +kernel
theorem dX4_lead_205 : decode cX4_lead 205 = .ok (.iinc 7 1, 3) := by decide +kernel
theorem dX4_lead_208 : decode cX4_lead 208 = .ok (.goto (-99), 3) := by decide +kernel
theorem dX4_lead_211 : decode cX4_lead 211 = .ok (.iconst 0, 1) := by decide +kernel
theorem dX4_lead_212 : decode cX4_lead 212 = .ok (.istore_n 3, 1) := by decide +kernel
theorem dX4_lead_213 : decode cX4_lead 213 = .ok (.iload 6, 2) := by decide +kernel
theorem dX4_lead_215 : decode cX4_lead 215 = .ok (.istore_n 2, 1) := by decide +kernel
theorem dX4_lead_216 : decode cX4_lead 216 = .ok (.aload_n 0, 1) := by decide +kernel
theorem dX4_lead_217 : decode cX4_lead 217 = .ok (.dup, 1) := by decide +kernel
theorem dX4_lead_218 : decode cX4_lead 218 = .ok (.getfield 114, 3) := by decide +kernel
theorem dX4_lead_221 : decode cX4_lead 221 = .ok (.iconst 1, 1) := by decide +kernel
theorem dX4_lead_222 : decode cX4_lead 222 = .ok (.iadd, 1) := by decide +kernel
theorem dX4_lead_223 : decode cX4_lead 223 = .ok (.putfield 114, 3) := by decide +kernel
theorem dX4_lead_226 : decode cX4_lead 226 = .ok (.iload_n 2, 1) := by decide +kernel
theorem dX4_lead_227 : decode cX4_lead 227 = .ok (.iload_n 1, 1) := by decide +kernel
theorem dX4_lead_228 : decode cX4_lead 228 = .ok (.ishr, 1) := by decide +kernel
theorem dX4_lead_229 : decode cX4_lead 229 = .ok (.iconst 1, 1) := by decide +kernel
theorem dX4_lead_230 : decode cX4_lead 230 = .ok (.iand, 1) := by decide +kernel
theorem dX4_lead_231 : decode cX4_lead 231 = .ok (.iconst 1, 1) := by decide +kernel
theorem dX4_lead_232 : decode cX4_lead 232 = .ok (.if_icmp .ne 8, 3) := by decide +kernel
theorem dX4_lead_235 : decode cX4_lead 235 = .ok (.iload 5, 2) := by decide +kernel
theorem dX4_lead_237 : decode cX4_lead 237 = .ok (.goto 5, 3) := by decide +kernel
theorem dX4_lead_240 : decode cX4_lead 240 = .ok (.bipush (-9), 2) := by decide +kernel
theorem dX4_lead_242 : decode cX4_lead 242 = .ok (.istore 4, 2) := by decide +kernel
theorem dX4_lead_244 : decode cX4_lead 244 = .ok (.iinc 5 1, 3) := by decide +kernel
theorem dX4_lead_247 : decode cX4_lead 247 = .ok (.goto (-156), 3) := by decide +kernel
theorem dX4_lead_250 : decode cX4_lead 250 = .ok (.aload_n 0, 1) := by decide +kernel
theorem dX4_lead_251 : decode cX4_lead 251 = .ok (.invokevirtual 188, 3) := by decide +kernel
theorem dX4_lead_254 : decode cX4_lead 254 = .ok (.iload 4, 2) := by decide +kernel
theorem dX4_lead_256 : decode cX4_lead 256 = .ok (.ireturn, 1) := by decide +kernel
theorem dX4_row_0 : decode cX4_row 0 = .ok (.aload_n 0, 1) := by decide +kernel
theorem dX4_row_1 : decode cX4_row 1 = .ok (.iconst 0, 1) := by decide +kernel
theorem dX4_row_2 : decode cX4_row 2 = .ok (.putfield 74, 3) := by decide +kernel
theorem dX4_row_5 : decode cX4_row 5 = .ok (.iload_n 1, 1) := by decide +kernel
theorem dX4_row_6 : decode cX4_row 6 = .ok (.ifCond .ge 10, 3) := by decide +kernel
theorem dX4_row_9 : decode cX4_row 9 = .ok (.aload_n 0, 1) := by decide +kernel
theorem dX4_row_10 : decode cX4_row 10 = .ok (.bipush (-4), 2) := by decide +kernel
theorem dX4_row_12 : decode cX4_row 12 = .ok (.invokevirtual 150, 3) := by decide +kernel
theorem dX4_row_15 : decode cX4_row 15 = .ok (.ireturn, 1) := by decide +kernel
theorem dX4_row_16 : decode cX4_row 16 = .ok (.iload_n 1, 1) := by decide +kernel
theorem dX4_row_17 : decode cX4_row 17 = .ok (.iconst 5, 1) := by decide +kernel
theorem dX4_row_18 : decode cX4_row 18 = .ok (.if_icmp .gt 12, 3) := by decide +kernel
theorem dX4_row_21 : decode cX4_row 21 = .ok (.aload_n 0, 1) := by decide +kernel
theorem dX4_row_22 : decode cX4_row 22 = .ok (.getfield 219, 3) := by decide +kernel
theorem dX4_row_25 : decode cX4_row 25 = .ok (.bipush 8, 2) := by decide +kernel
theorem dX4_row_27 : decode cX4_row 27 = .ok (.if_icmp .ne 10, 3) := by decide +kernel
theorem dX4_row_30 : decode cX4_row 30 = .ok (.aload_n 0, 1) := by decide +kernel
theorem dX4_row_31 : decode cX4_row 31 = .ok (.bipush (-6), 2) := by decide +kernel
theorem dX4_row_33 : decode cX4_row 33 = .ok (.invokevirtual 150, 3) := by decide +kernel
theorem dX4_row_36 : decode cX4_row 36 = .ok (.ireturn, 1) := by decide +kernel
theorem dX4_row_37 : decode cX4_row 37 = .ok (.aload_n 0, 1) := by decide +kernel
theorem dX4_row_38 : decode cX4_row 38 = .ok (.getfield 68, 3) := by decide +kernel
theorem dX4_row_41 : decode cX4_row 41 = .ok (.aload_n 0, 1) := by decide +kernel
theorem dX4_row_42 : decode cX4_row 42 = .ok (.getfield 219, 3) := by decide +kernel
theorem dX4_row_45 : decode cX4_row 45 = .ok (.iload_n 1, 1) := by decide +kernel
theorem dX4_row_46 : decode cX4_row 46 = .ok (.iastore, 1) := by decide +kernel
theorem dX4_row_47 : decode cX4_row 47 = .ok (.aload_n 0, 1) := by decide +kernel
theorem dX4_row_48 : decode cX4_row 48 = .ok (.dup, 1) := by decide +kernel
theorem dX4_row_49 : decode cX4_row 49 = .ok (.getfield 219, 3) := by decide +kernel
theorem dX4_row_52 : decode cX4_row 52 = .ok (.iconst 1, 1) := by decide +kernel
theorem dX4_row_53 : decode cX4_row 53 = .ok (.iadd, 1) := by decide +kernel
theorem dX4_row_54 : decode cX4_row 54 = .ok (.putfield 219, 3) := by decide +kernel
theorem dX4_row_57 : decode cX4_row 57 = .ok (.aload_n 0, 1) := by decide +kernel
theorem dX4_row_58 : decode cX4_row 58 = .ok (.getfield 219, 3) := by decide +kernel
theorem dX4_row_61 : decode cX4_row 61 = .ok (.ireturn, 1) := by decide +kernel
theorem dX4_firstUnlike_0 : decode cX4_firstUnlike 0 = .ok (.aload_n 0, 1) := by decide +kernel
theorem dX4_firstUnlike_1 : decode cX4_firstUnlike 1 = .ok (.invokevirtual 182, 3) := by decide +kernel
theorem dX4_firstUnlike_4 : decode cX4_firstUnlike 4 = .ok (.bipush (-9), 2) := by decide +kernel
theorem dX4_firstUnlike_6 : decode cX4_firstUnlike 6 = .ok (.istore_n 1, 1) := by decide +kernel
theorem dX4_firstUnlike_7 : decode cX4_firstUnlike 7 = .ok (.iconst 0, 1) := by decide +kernel
theorem dX4_firstUnlike_8 : decode cX4_firstUnlike 8 = .ok (.istore_n 2, 1) := by decide +kernel
theorem dX4_firstUnlike_9 : decode cX4_firstUnlike 9 = .ok (.iload_n 2, 1) := by decide +kernel
theorem dX4_firstUnlike_10 : decode cX4_firstUnlike 10 = .ok (.aload_n 0, 1) := by decide +kernel
theorem dX4_firstUnlike_11 : decode cX4_firstUnlike 11 = .ok (.getfield 219, 3) := by decide +kernel
theorem dX4_firstUnlike_14 : decode cX4_firstUnlike 14 = .ok (.if_icmp .ge 33, 3) := by decide +kernel
theorem dX4_firstUnlike_17 : decode cX4_firstUnlike 17 = .ok (.iload_n 1, 1) := by decide +kernel
theorem dX4_firstUnlike_18 : decode cX4_firstUnlike 18 = .ok (.ifCond .ge 29, 3) := by decide +kernel
theorem dX4_firstUnlike_21 : decode cX4_firstUnlike 21 = .ok (.aload_n 0, 1) := by decide +kernel
theorem dX4_firstUnlike_22 : decode cX4_firstUnlike 22 = .ok (.invokevirtual 202, 3) := by decide +kernel
theorem dX4_firstUnlike_25 : decode cX4_firstUnlike 25 = .ok (.aload_n 0, 1) := by decide +kernel
theorem dX4_firstUnlike_26 : decode cX4_firstUnlike 26 = .ok (.getfield 68, 3) := by decide +kernel
theorem dX4_firstUnlike_29 : decode cX4_firstUnlike 29 = .ok (.iload_n 2, 1) := by decide +kernel
theorem dX4_firstUnlike_30 : decode cX4_firstUnlike 30 = .ok (.iaload, 1) := by decide +kernel
theorem dX4_firstUnlike_31 : decode cX4_firstUnlike 31 = .ok (.if_icmp .ne 8, 3) := by decide +kernel
theorem dX4_firstUnlike_34 : decode cX4_firstUnlike 34 = .ok (.bipush (-9), 2) := by decide +kernel
theorem dX4_firstUnlike_36 : decode cX4_firstUnlike 36 = .ok (.goto 4, 3) := by decide +kernel
theorem dX4_firstUnlike_39 : decode cX4_firstUnlike 39 = .ok (.iload_n 2, 1) := by decide +kernel
theorem dX4_firstUnlike_40 : decode cX4_firstUnlike 40 = .ok (.istore_n 1, 1) := by decide +kernel
theorem dX4_firstUnlike_41 : decode cX4_firstUnlike 41 = .ok (.iinc 2 1, 3) := by decide +kernel
theorem dX4_firstUnlike_44 : decode cX4_firstUnlike 44 = .ok (.goto (-35), 3) := by decide +kernel
theorem dX4_firstUnlike_47 : decode cX4_firstUnlike 47 = .ok (.aload_n 0, 1) := by decide +kernel
theorem dX4_firstUnlike_48 : decode cX4_firstUnlike 48 = .ok (.invokevirtual 188, 3) := by decide +kernel
theorem dX4_firstUnlike_51 : decode cX4_firstUnlike 51 = .ok (.iload_n 1, 1) := by decide +kernel
theorem dX4_firstUnlike_52 : decode cX4_firstUnlike 52 = .ok (.ireturn, 1) := by decide +kernel
theorem dX4_ways_0 : decode cX4_ways 0 = .ok (.aload_n 0, 1) := by decide +kernel
theorem dX4_ways_1 : decode cX4_ways 1 = .ok (.iconst 0, 1) := by decide +kernel
theorem dX4_ways_2 : decode cX4_ways 2 = .ok (.putfield 74, 3) := by decide +kernel
theorem dX4_ways_5 : decode cX4_ways 5 = .ok (.aload_n 0, 1) := by decide +kernel
theorem dX4_ways_6 : decode cX4_ways 6 = .ok (.getfield 77, 3) := by decide +kernel
theorem dX4_ways_9 : decode cX4_ways 9 = .ok (.ifCond .ne 10, 3) := by decide +kernel
theorem dX4_ways_12 : decode cX4_ways 12 = .ok (.aload_n 0, 1) := by decide +kernel
theorem dX4_ways_13 : decode cX4_ways 13 = .ok (.bipush (-3), 2) := by decide +kernel
theorem dX4_ways_15 : decode cX4_ways 15 = .ok (.invokevirtual 150, 3) := by decide +kernel
theorem dX4_ways_18 : decode cX4_ways 18 = .ok (.ireturn, 1) := by decide +kernel
theorem dX4_ways_19 : decode cX4_ways 19 = .ok (.aload_n 0, 1) := by decide +kernel
theorem dX4_ways_20 : decode cX4_ways 20 = .ok (.getfield 95, 3) := by decide +kernel
theorem dX4_ways_23 : decode cX4_ways 23 = .ok (.istore_n 1, 1) := by decide +kernel
theorem dX4_ways_24 : decode cX4_ways 24 = .ok (.iconst 0, 1) := by decide +kernel
theorem dX4_ways_25 : decode cX4_ways 25 = .ok (.istore_n 2, 1) := by decide +kernel
theorem dX4_ways_26 : decode cX4_ways 26 = .ok (.iconst 0, 1) := by decide +kernel
theorem dX4_ways_27 : decode cX4_ways 27 = .ok (.istore_n 3, 1) := by decide +kernel
theorem dX4_ways_28 : decode cX4_ways 28 = .ok (.iload_n 3, 1) := by decide +kernel
theorem dX4_ways_29 : decode cX4_ways 29 = .ok (.bipush 6, 2) := by decide +kernel
theorem dX4_ways_31 : decode cX4_ways 31 = .ok (.if_icmp .ge 31, 3) := by decide +kernel
theorem dX4_ways_34 : decode cX4_ways 34 = .ok (.aload_n 0, 1) := by decide +kernel
theorem dX4_ways_35 : decode cX4_ways 35 = .ok (.iload_n 3, 1) := by decide +kernel
theorem dX4_ways_36 : decode cX4_ways 36 = .ok (.putfield 95, 3) := by decide +kernel
theorem dX4_ways_39 : decode cX4_ways 39 = .ok (.iload_n 2, 1) := by decide +kernel
theorem dX4_ways_40 : decode cX4_ways 40 = .ok (.aload_n 0, 1) := by decide +kernel
theorem dX4_ways_41 : decode cX4_ways 41 = .ok (.invokevirtual 222, 3) := by decide +kernel
theorem dX4_ways_44 : decode cX4_ways 44 = .ok (.ifCond .ge 9, 3) := by decide +kernel
theorem dX4_ways_47 : decode cX4_ways 47 = .ok (.iconst 1, 1) := by decide +kernel
theorem dX4_ways_48 : decode cX4_ways 48 = .ok (.iload_n 3, 1) := by decide +kernel
theorem dX4_ways_49 : decode cX4_ways 49 = .ok (.ishl, 1) := by decide +kernel
theorem dX4_ways_50 : decode cX4_ways 50 = .ok (.goto 4, 3) := by decide +kernel
theorem dX4_ways_53 : decode cX4_ways 53 = .ok (.iconst 0, 1) := by decide +kernel
theorem dX4_ways_54 : decode cX4_ways 54 = .ok (.ior, 1) := by decide +kernel
theorem dX4_ways_55 : decode cX4_ways 55 = .ok (.istore_n 2, 1) := by decide +kernel
theorem dX4_ways_56 : decode cX4_ways 56 = .ok (.iinc 3 1, 3) := by decide +kernel
theorem dX4_ways_59 : decode cX4_ways 59 = .ok (.goto (-31), 3) := by decide +kernel
theorem dX4_ways_62 : decode cX4_ways 62 = .ok (.aload_n 0, 1) := by decide +kernel
theorem dX4_ways_63 : decode cX4_ways 63 = .ok (.iload_n 1, 1) := by decide +kernel
theorem dX4_ways_64 : decode cX4_ways 64 = .ok (.putfield 95, 3) := by decide +kernel
theorem dX4_ways_67 : decode cX4_ways 67 = .ok (.iload_n 2, 1) := by decide +kernel
theorem dX4_ways_68 : decode cX4_ways 68 = .ok (.ireturn, 1) := by decide +kernel
theorem dX4_soon_0 : decode cX4_soon 0 = .ok (.aload_n 0, 1) := by decide +kernel
theorem dX4_soon_1 : decode cX4_soon 1 = .ok (.iconst 0, 1) := by decide +kernel
theorem dX4_soon_2 : decode cX4_soon 2 = .ok (.putfield 74, 3) := by decide +kernel
theorem dX4_soon_5 : decode cX4_soon 5 = .ok (.aload_n 0, 1) := by decide +kernel
theorem dX4_soon_6 : decode cX4_soon 6 = .ok (.getfield 77, 3) := by decide +kernel
theorem dX4_soon_9 : decode cX4_soon 9 = .ok (.ifCond .ne 10, 3) := by decide +kernel
theorem dX4_soon_12 : decode cX4_soon 12 = .ok (.aload_n 0, 1) := by decide +kernel
theorem dX4_soon_13 : decode cX4_soon 13 = .ok (.bipush (-3), 2) := by decide +kernel
theorem dX4_soon_15 : decode cX4_soon 15 = .ok (.invokevirtual 150, 3) := by decide +kernel
theorem dX4_soon_18 : decode cX4_soon 18 = .ok (.ireturn, 1) := by decide +kernel
theorem dX4_soon_19 : decode cX4_soon 19 = .ok (.iconst 0, 1) := by decide +kernel
theorem dX4_soon_20 : decode cX4_soon 20 = .ok (.istore_n 1, 1) := by decide +kernel
theorem dX4_soon_21 : decode cX4_soon 21 = .ok (.iload_n 1, 1) := by decide +kernel
theorem dX4_soon_22 : decode cX4_soon 22 = .ok (.bipush 6, 2) := by decide +kernel
theorem dX4_soon_24 : decode cX4_soon 24 = .ok (.if_icmp .ge 51, 3) := by decide +kernel
theorem dX4_soon_27 : decode cX4_soon 27 = .ok (.aload_n 0, 1) := by decide +kernel
theorem dX4_soon_28 : decode cX4_soon 28 = .ok (.invokevirtual 182, 3) := by decide +kernel
theorem dX4_soon_31 : decode cX4_soon 31 = .ok (.aload_n 0, 1) := by decide +kernel
theorem dX4_soon_32 : decode cX4_soon 32 = .ok (.iload_n 1, 1) := by decide +kernel
theorem dX4_soon_33 : decode cX4_soon 33 = .ok (.putfield 95, 3) := by decide +kernel
theorem dX4_soon_36 : decode cX4_soon 36 = .ok (.iconst 0, 1) := by decide +kernel
theorem dX4_soon_37 : decode cX4_soon 37 = .ok (.istore_n 2, 1) := by decide +kernel
theorem dX4_soon_38 : decode cX4_soon 38 = .ok (.iload_n 2, 1) := by decide +kernel
theorem dX4_soon_39 : decode cX4_soon 39 = .ok (.bipush 8, 2) := by decide +kernel
theorem dX4_soon_41 : decode cX4_soon 41 = .ok (.if_icmp .ge 24, 3) := by decide +kernel
theorem dX4_soon_44 : decode cX4_soon 44 = .ok (.aload_n 0, 1) := by decide +kernel
theorem dX4_soon_45 : decode cX4_soon 45 = .ok (.getfield 71, 3) := by decide +kernel
theorem dX4_soon_48 : decode cX4_soon 48 = .ok (.bipush 8, 2) := by decide +kernel
theorem dX4_soon_50 : decode cX4_soon 50 = .ok (.iload_n 1, 1) := by decide +kernel
theorem dX4_soon_51 : decode cX4_soon 51 = .ok (.imul, 1) := by decide +kernel
theorem dX4_soon_52 : decode cX4_soon 52 = .ok (.iload_n 2, 1) := by decide +kernel
theorem dX4_soon_53 : decode cX4_soon 53 = .ok (.iadd, 1) := by decide +kernel
theorem dX4_soon_54 : decode cX4_soon 54 = .ok (.aload_n 0, 1) := by decide +kernel
theorem dX4_soon_55 : decode cX4_soon 55 = .ok (.invokevirtual 202, 3) := by decide +kernel
theorem dX4_soon_58 : decode cX4_soon 58 = .ok (.iastore, 1) := by decide +kernel
theorem dX4_soon_59 : decode cX4_soon 59 = .ok (.iinc 2 1, 3) := by decide +kernel
theorem dX4_soon_62 : decode cX4_soon 62 = .ok (.goto (-24), 3) := by decide +kernel
theorem dX4_soon_65 : decode cX4_soon 65 = .ok (.aload_n 0, 1) := by decide +kernel
theorem dX4_soon_66 : decode cX4_soon 66 = .ok (.invokevirtual 188, 3) := by decide +kernel
theorem dX4_soon_69 : decode cX4_soon 69 = .ok (.iinc 1 1, 3) := by decide +kernel
theorem dX4_soon_72 : decode cX4_soon 72 = .ok (.goto (-51), 3) := by decide +kernel
theorem dX4_soon_75 : decode cX4_soon 75 = .ok (.iconst 0, 1) := by decide +kernel
theorem dX4_soon_76 : decode cX4_soon 76 = .ok (.istore_n 1, 1) := by decide +kernel
theorem dX4_soon_77 : decode cX4_soon 77 = .ok (.iconst 0, 1) := by decide +kernel
theorem dX4_soon_78 : decode cX4_soon 78 = .ok (.istore_n 2, 1) := by decide +kernel
theorem dX4_soon_79 : decode cX4_soon 79 = .ok (.iload_n 2, 1) := by decide +kernel
theorem dX4_soon_80 : decode cX4_soon 80 = .ok (.bipush 36, 2) := by decide +kernel
theorem dX4_soon_82 : decode cX4_soon 82 = .ok (.if_icmp .ge 90, 3) := by decide +kernel
theorem dX4_soon_85 : decode cX4_soon 85 = .ok (.iload_n 2, 1) := by decide +kernel
theorem dX4_soon_86 : decode cX4_soon 86 = .ok (.bipush 6, 2) := by decide +kernel
theorem dX4_soon_88 : decode cX4_soon 88 = .ok (.idiv, 1) := by decide +kernel
theorem dX4_soon_89 : decode cX4_soon 89 = .ok (.istore_n 3, 1) := by decide +kernel
theorem dX4_soon_90 : decode cX4_soon 90 = .ok (.iload_n 2, 1) := by decide +kernel
theorem dX4_soon_91 : decode cX4_soon 91 = .ok (.bipush 6, 2) := by decide +kernel
theorem dX4_soon_93 : decode cX4_soon 93 = .ok (.irem, 1) := by decide +kernel
theorem dX4_soon_94 : decode cX4_soon 94 = .ok (.istore 4, 2) := by decide +kernel
theorem dX4_soon_96 : decode cX4_soon 96 = .ok (.iconst 0, 1) := by decide +kernel
theorem dX4_soon_97 : decode cX4_soon 97 = .ok (.istore 5, 2) := by decide +kernel
theorem dX4_soon_99 : decode cX4_soon 99 = .ok (.bipush 7, 2) := by decide +kernel
theorem dX4_soon_101 : decode cX4_soon 101 = .ok (.istore 6, 2) := by decide +kernel
theorem dX4_soon_103 : decode cX4_soon 103 = .ok (.iload 6, 2) := by decide +kernel
theorem dX4_soon_105 : decode cX4_soon 105 = .ok (.ifCond .lt 48, 3) := by decide +kernel
theorem dX4_soon_108 : decode cX4_soon 108 = .ok (.aload_n 0, 1) := by decide +kernel
theorem dX4_soon_109 : decode cX4_soon 109 = .ok (.getfield 71, 3) := by decide +kernel
theorem dX4_soon_112 : decode cX4_soon 112 = .ok (.bipush 8, 2) := by decide +kernel
theorem dX4_soon_114 : decode cX4_soon 114 = .ok (.iload_n 3, 1) := by decide +kernel
theorem dX4_soon_115 : decode cX4_soon 115 = .ok (.imul, 1) := by decide +kernel
theorem dX4_soon_116 : decode cX4_soon 116 = .ok (.iload 6, 2) := by decide +kernel
theorem dX4_soon_118 : decode cX4_soon 118 = .ok (.iadd, 1) := by decide +kernel
theorem dX4_soon_119 : decode cX4_soon 119 = .ok (.iaload, 1) := by decide +kernel
theorem dX4_soon_120 : decode cX4_soon 120 = .ok (.aload_n 0, 1) := by decide +kernel
theorem dX4_soon_121 : decode cX4_soon 121 = .ok (.getfield 71, 3) := by decide +kernel
theorem dX4_soon_124 : decode cX4_soon 124 = .ok (.bipush 8, 2) := by decide +kernel
theorem dX4_soon_126 : decode cX4_soon 126 = .ok (.iload 4, 2) := by decide +kernel
theorem dX4_soon_128 : decode cX4_soon 128 = .ok (.imul, 1) := by decide +kernel
theorem dX4_soon_129 : decode cX4_soon 129 = .ok (.iload 6, 2) := by decide +kernel
theorem dX4_soon_131 : decode cX4_soon 131 = .ok (.iadd, 1) := by decide +kernel
theorem dX4_soon_132 : decode cX4_soon 132 = .ok (.iaload, 1) := by decide +kernel
theorem dX4_soon_133 : decode cX4_soon 133 = .ok (.if_icmp .ne 8, 3) := by decide +kernel
theorem dX4_soon_136 : decode cX4_soon 136 = .ok (.iload 5, 2) := by decide +kernel
theorem dX4_soon_138 : decode cX4_soon 138 = .ok (.goto 7, 3) := by decide +kernel
theorem dX4_soon_141 : decode cX4_soon 141 = .ok (.iload 6, 2) := by decide +kernel
theorem dX4_soon_143 : decode cX4_soon 143 = .ok (.iconst 1, 1) := by decide +kernel
theorem dX4_soon_144 : decode cX4_soon 144 = .ok (.iadd, 1) := by decide +kernel
theorem dX4_soon_145 : decode cX4_soon 145 = .ok (.istore 5, 2) := by decide +kernel
theorem dX4_soon_147 : decode cX4_soon 147 = .ok (.iinc 6 (-1), 3) := by decide +kernel
theorem dX4_soon_150 : decode cX4_soon 150 = .ok (.goto (-47), 3) := by decide +kernel
theorem dX4_soon_153 : decode cX4_soon 153 = .ok (.iload 5, 2) := by decide +kernel
theorem dX4_soon_155 : decode cX4_soon 155 = .ok (.iload_n 1, 1) := by decide +kernel
theorem dX4_soon_156 : decode cX4_soon 156 = .ok (.if_icmp .le 8, 3) := by decide +kernel
theorem dX4_soon_159 : decode cX4_soon 159 = .ok (.iload 5, 2) := by decide +kernel
theorem dX4_soon_161 : decode cX4_soon 161 = .ok (.goto 4, 3) := by decide +kernel
theorem dX4_soon_164 : decode cX4_soon 164 = .ok (.iload_n 1, 1) := by decide +kernel
theorem dX4_soon_165 : decode cX4_soon 165 = .ok (.istore_n 1, 1) := by decide +kernel
theorem dX4_soon_166 : decode cX4_soon 166 = .ok (.iinc 2 1, 3) := by decide +kernel
theorem dX4_soon_169 : decode cX4_soon 169 = .ok (.goto (-90), 3) := by decide +kernel
theorem dX4_soon_172 : decode cX4_soon 172 = .ok (.iload_n 1, 1) := by decide +kernel
theorem dX4_soon_173 : decode cX4_soon 173 = .ok (.ireturn, 1) := by decide +kernel
theorem dX4_eggsOfAll_0 : decode cX4_eggsOfAll 0 = .ok (.aload_n 0, 1) := by decide +kernel
theorem dX4_eggsOfAll_1 : decode cX4_eggsOfAll 1 = .ok (.iconst 1, 1) := by decide +kernel
theorem dX4_eggsOfAll_2 : decode cX4_eggsOfAll 2 = .ok (.aload_n 0, 1) := by decide +kernel
theorem dX4_eggsOfAll_3 : decode cX4_eggsOfAll 3 = .ok (.getfield 77, 3) := by decide +kernel
theorem dX4_eggsOfAll_6 : decode cX4_eggsOfAll 6 = .ok (.ishl, 1) := by decide +kernel
theorem dX4_eggsOfAll_7 : decode cX4_eggsOfAll 7 = .ok (.iconst 1, 1) := by decide +kernel
theorem dX4_eggsOfAll_8 : decode cX4_eggsOfAll 8 = .ok (.isub, 1) := by decide +kernel
theorem dX4_eggsOfAll_9 : decode cX4_eggsOfAll 9 = .ok (.invokevirtual 210, 3) := by decide +kernel
theorem dX4_eggsOfAll_12 : decode cX4_eggsOfAll 12 = .ok (.ireturn, 1) := by decide +kernel
theorem dX4_settle_0 : decode cX4_settle 0 = .ok (.aload_n 0, 1) := by decide +kernel
theorem dX4_settle_1 : decode cX4_settle 1 = .ok (.iconst 0, 1) := by decide +kernel
theorem dX4_settle_2 : decode cX4_settle 2 = .ok (.putfield 74, 3) := by decide +kernel
theorem dX4_settle_5 : decode cX4_settle 5 = .ok (.iload_n 1, 1) := by decide +kernel
theorem dX4_settle_6 : decode cX4_settle 6 = .ok (.ifCond .ge 8, 3) := by decide +kernel
theorem dX4_settle_9 : decode cX4_settle 9 = .ok (.bipush (-4), 2) := by decide +kernel
theorem dX4_settle_11 : decode cX4_settle 11 = .ok (.goto 27, 3) := by decide +kernel
theorem dX4_settle_14 : decode cX4_settle 14 = .ok (.iload_n 1, 1) := by decide +kernel
theorem dX4_settle_15 : decode cX4_settle 15 = .ok (.bipush 30, 2) := by decide +kernel
theorem dX4_settle_17 : decode cX4_settle 17 = .ok (.if_icmp .le 8, 3) := by decide +kernel
theorem dX4_settle_20 : decode cX4_settle 20 = .ok (.bipush (-6), 2) := by decide +kernel
theorem dX4_settle_22 : decode cX4_settle 22 = .ok (.goto 16, 3) := by decide +kernel
theorem dX4_settle_25 : decode cX4_settle 25 = .ok (.aload_n 0, 1) := by decide +kernel
theorem dX4_settle_26 : decode cX4_settle 26 = .ok (.getfield 77, 3) := by decide +kernel
theorem dX4_settle_29 : decode cX4_settle 29 = .ok (.ifCond .ne 8, 3) := by decide +kernel
theorem dX4_settle_32 : decode cX4_settle 32 = .ok (.bipush (-3), 2) := by decide +kernel
theorem dX4_settle_34 : decode cX4_settle 34 = .ok (.goto 4, 3) := by decide +kernel
theorem dX4_settle_37 : decode cX4_settle 37 = .ok (.iconst 0, 1) := by decide +kernel
theorem dX4_settle_38 : decode cX4_settle 38 = .ok (.istore_n 2, 1) := by decide +kernel
theorem dX4_settle_39 : decode cX4_settle 39 = .ok (.iload_n 2, 1) := by decide +kernel
theorem dX4_settle_40 : decode cX4_settle 40 = .ok (.ifCond .ge 9, 3) := by decide +kernel
theorem dX4_settle_43 : decode cX4_settle 43 = .ok (.aload_n 0, 1) := by decide +kernel
theorem dX4_settle_44 : decode cX4_settle 44 = .ok (.iload_n 2, 1) := by decide +kernel
theorem dX4_settle_45 : decode cX4_settle 45 = .ok (.invokevirtual 150, 3) := by decide +kernel
theorem dX4_settle_48 : decode cX4_settle 48 = .ok (.ireturn, 1) := by decide +kernel
theorem dX4_settle_49 : decode cX4_settle 49 = .ok (.aload_n 0, 1) := by decide +kernel
theorem dX4_settle_50 : decode cX4_settle 50 = .ok (.invokevirtual 182, 3) := by decide +kernel
theorem dX4_settle_53 : decode cX4_settle 53 = .ok (.iconst 0, 1) := by decide +kernel
theorem dX4_settle_54 : decode cX4_settle 54 = .ok (.istore_n 3, 1) := by decide +kernel
theorem dX4_settle_55 : decode cX4_settle 55 = .ok (.iload_n 3, 1) := by decide +kernel
theorem dX4_settle_56 : decode cX4_settle 56 = .ok (.iload_n 1, 1) := by decide +kernel
theorem dX4_settle_57 : decode cX4_settle 57 = .ok (.if_icmp .ge 14, 3) := by decide +kernel
theorem dX4_settle_60 : decode cX4_settle 60 = .ok (.aload_n 0, 1) := by decide +kernel
theorem dX4_settle_61 : decode cX4_settle 61 = .ok (.invokevirtual 202, 3) := by decide +kernel
theorem dX4_settle_64 : decode cX4_settle 64 = .ok (.pop, 1) := by decide +kernel
theorem dX4_settle_65 : decode cX4_settle 65 = .ok (.iinc 3 1, 3) := by decide +kernel
theorem dX4_settle_68 : decode cX4_settle 68 = .ok (.goto (-13), 3) := by decide +kernel
theorem dX4_settle_71 : decode cX4_settle 71 = .ok (.aload_n 0, 1) := by decide +kernel
theorem dX4_settle_72 : decode cX4_settle 72 = .ok (.invokevirtual 225, 3) := by decide +kernel
theorem dX4_settle_75 : decode cX4_settle 75 = .ok (.istore_n 3, 1) := by decide +kernel
theorem dX4_settle_76 : decode cX4_settle 76 = .ok (.aload_n 0, 1) := by decide +kernel
theorem dX4_settle_77 : decode cX4_settle 77 = .ok (.invokevirtual 188, 3) := by decide +kernel
theorem dX4_settle_80 : decode cX4_settle 80 = .ok (.iload_n 3, 1) := by decide +kernel
theorem dX4_settle_81 : decode cX4_settle 81 = .ok (.ireturn, 1) := by decide +kernel
theorem dX4_without_0 : decode cX4_without 0 = .ok (.aload_n 0, 1) := by decide +kernel
theorem dX4_without_1 : decode cX4_without 1 = .ok (.iconst 0, 1) := by decide +kernel
theorem dX4_without_2 : decode cX4_without 2 = .ok (.putfield 74, 3) := by decide +kernel
theorem dX4_without_5 : decode cX4_without 5 = .ok (.aload_n 0, 1) := by decide +kernel
theorem dX4_without_6 : decode cX4_without 6 = .ok (.iload_n 1, 1) := by decide +kernel
theorem dX4_without_7 : decode cX4_without 7 = .ok (.invokevirtual 175, 3) := by decide +kernel
theorem dX4_without_10 : decode cX4_without 10 = .ok (.ifCond .ne 9, 3) := by decide +kernel
theorem dX4_without_13 : decode cX4_without 13 = .ok (.aload_n 0, 1) := by decide +kernel
theorem dX4_without_14 : decode cX4_without 14 = .ok (.iconst (-1), 1) := by decide +kernel
theorem dX4_without_15 : decode cX4_without 15 = .ok (.invokevirtual 150, 3) := by decide +kernel
theorem dX4_without_18 : decode cX4_without 18 = .ok (.ireturn, 1) := by decide +kernel
theorem dX4_without_19 : decode cX4_without 19 = .ok (.aload_n 0, 1) := by decide +kernel
theorem dX4_without_20 : decode cX4_without 20 = .ok (.getfield 77, 3) := by decide +kernel
theorem dX4_without_23 : decode cX4_without 23 = .ok (.iconst 1, 1) := by decide +kernel
theorem dX4_without_24 : decode cX4_without 24 = .ok (.if_icmp .ne 6, 3) := by decide +kernel
theorem dX4_without_27 : decode cX4_without 27 = .ok (.bipush (-9), 2) := by decide +kernel
theorem dX4_without_29 : decode cX4_without 29 = .ok (.ireturn, 1) := by decide +kernel
theorem dX4_without_30 : decode cX4_without 30 = .ok (.aload_n 0, 1) := by decide +kernel
theorem dX4_without_31 : decode cX4_without 31 = .ok (.iload_n 1, 1) := by decide +kernel
theorem dX4_without_32 : decode cX4_without 32 = .ok (.putfield 38, 3) := by decide +kernel
theorem dX4_without_35 : decode cX4_without 35 = .ok (.aload_n 0, 1) := by decide +kernel
theorem dX4_without_36 : decode cX4_without 36 = .ok (.invokevirtual 120, 3) := by decide +kernel
theorem dX4_without_39 : decode cX4_without 39 = .ok (.istore_n 2, 1) := by decide +kernel
theorem dX4_without_40 : decode cX4_without 40 = .ok (.aload_n 0, 1) := by decide +kernel
theorem dX4_without_41 : decode cX4_without 41 = .ok (.iconst (-1), 1) := by decide +kernel
theorem dX4_without_42 : decode cX4_without 42 = .ok (.putfield 38, 3) := by decide +kernel
theorem dX4_without_45 : decode cX4_without 45 = .ok (.iload_n 2, 1) := by decide +kernel
theorem dX4_without_46 : decode cX4_without 46 = .ok (.ireturn, 1) := by decide +kernel
theorem dX4_put_0 : decode cX4_put 0 = .ok (.aload_n 0, 1) := by decide +kernel
theorem dX4_put_1 : decode cX4_put 1 = .ok (.iconst 0, 1) := by decide +kernel
theorem dX4_put_2 : decode cX4_put 2 = .ok (.putfield 74, 3) := by decide +kernel
theorem dX4_put_5 : decode cX4_put 5 = .ok (.iload_n 1, 1) := by decide +kernel
theorem dX4_put_6 : decode cX4_put 6 = .ok (.ifCond .lt 11, 3) := by decide +kernel
theorem dX4_put_9 : decode cX4_put 9 = .ok (.iload_n 2, 1) := by decide +kernel
theorem dX4_put_10 : decode cX4_put 10 = .ok (.ifCond .lt 7, 3) := by decide +kernel
theorem dX4_put_13 : decode cX4_put 13 = .ok (.iload_n 3, 1) := by decide +kernel
theorem dX4_put_14 : decode cX4_put 14 = .ok (.ifCond .ge 8, 3) := by decide +kernel
theorem dX4_put_17 : decode cX4_put 17 = .ok (.bipush (-4), 2) := by decide +kernel
theorem dX4_put_19 : decode cX4_put 19 = .ok (.goto 36, 3) := by decide +kernel
theorem dX4_put_22 : decode cX4_put 22 = .ok (.iload_n 1, 1) := by decide +kernel
theorem dX4_put_23 : decode cX4_put 23 = .ok (.bipush 9, 2) := by decide +kernel
theorem dX4_put_25 : decode cX4_put 25 = .ok (.if_icmp .gt 24, 3) := by decide +kernel
theorem dX4_put_28 : decode cX4_put 28 = .ok (.iload_n 2, 1) := by decide +kernel
theorem dX4_put_29 : decode cX4_put 29 = .ok (.bipush 9, 2) := by decide +kernel
theorem dX4_put_31 : decode cX4_put 31 = .ok (.if_icmp .gt 18, 3) := by decide +kernel
theorem dX4_put_34 : decode cX4_put 34 = .ok (.iload_n 3, 1) := by decide +kernel
theorem dX4_put_35 : decode cX4_put 35 = .ok (.bipush 9, 2) := by decide +kernel
theorem dX4_put_37 : decode cX4_put 37 = .ok (.if_icmp .gt 12, 3) := by decide +kernel
theorem dX4_put_40 : decode cX4_put 40 = .ok (.aload_n 0, 1) := by decide +kernel
theorem dX4_put_41 : decode cX4_put 41 = .ok (.getfield 77, 3) := by decide +kernel
theorem dX4_put_44 : decode cX4_put 44 = .ok (.bipush 6, 2) := by decide +kernel
theorem dX4_put_46 : decode cX4_put 46 = .ok (.if_icmp .ne 8, 3) := by decide +kernel
theorem dX4_put_49 : decode cX4_put 49 = .ok (.bipush (-6), 2) := by decide +kernel
theorem dX4_put_51 : decode cX4_put 51 = .ok (.goto 4, 3) := by decide +kernel
theorem dX4_put_54 : decode cX4_put 54 = .ok (.iconst 0, 1) := by decide +kernel
theorem dX4_put_55 : decode cX4_put 55 = .ok (.istore 4, 2) := by decide +kernel
theorem dX4_put_57 : decode cX4_put 57 = .ok (.iload 4, 2) := by decide +kernel
theorem dX4_put_59 : decode cX4_put 59 = .ok (.ifCond .ge 10, 3) := by decide +kernel
theorem dX4_put_62 : decode cX4_put 62 = .ok (.aload_n 0, 1) := by decide +kernel
theorem dX4_put_63 : decode cX4_put 63 = .ok (.iload 4, 2) := by decide +kernel
theorem dX4_put_65 : decode cX4_put 65 = .ok (.invokevirtual 150, 3) := by decide +kernel
theorem dX4_put_68 : decode cX4_put 68 = .ok (.ireturn, 1) := by decide +kernel
theorem dX4_put_69 : decode cX4_put 69 = .ok (.aload_n 0, 1) := by decide +kernel
theorem dX4_put_70 : decode cX4_put 70 = .ok (.invokevirtual 182, 3) := by decide +kernel
theorem dX4_put_73 : decode cX4_put 73 = .ok (.aload_n 0, 1) := by decide +kernel
theorem dX4_put_74 : decode cX4_put 74 = .ok (.getfield 19, 3) := by decide +kernel
theorem dX4_put_77 : decode cX4_put 77 = .ok (.aload_n 0, 1) := by decide +kernel
theorem dX4_put_78 : decode cX4_put 78 = .ok (.getfield 77, 3) := by decide +kernel
theorem dX4_put_81 : decode cX4_put 81 = .ok (.iload_n 1, 1) := by decide +kernel
theorem dX4_put_82 : decode cX4_put 82 = .ok (.iastore, 1) := by decide +kernel
theorem dX4_put_83 : decode cX4_put 83 = .ok (.aload_n 0, 1) := by decide +kernel
theorem dX4_put_84 : decode cX4_put 84 = .ok (.getfield 23, 3) := by decide +kernel
theorem dX4_put_87 : decode cX4_put 87 = .ok (.aload_n 0, 1) := by decide +kernel
theorem dX4_put_88 : decode cX4_put 88 = .ok (.getfield 77, 3) := by decide +kernel
theorem dX4_put_91 : decode cX4_put 91 = .ok (.iload_n 2, 1) := by decide +kernel
theorem dX4_put_92 : decode cX4_put 92 = .ok (.iastore, 1) := by decide +kernel
theorem dX4_put_93 : decode cX4_put 93 = .ok (.aload_n 0, 1) := by decide +kernel
theorem dX4_put_94 : decode cX4_put 94 = .ok (.getfield 29, 3) := by decide +kernel
theorem dX4_put_97 : decode cX4_put 97 = .ok (.aload_n 0, 1) := by decide +kernel
theorem dX4_put_98 : decode cX4_put 98 = .ok (.getfield 77, 3) := by decide +kernel
theorem dX4_put_101 : decode cX4_put 101 = .ok (.iload_n 3, 1) := by decide +kernel
theorem dX4_put_102 : decode cX4_put 102 = .ok (.iastore, 1) := by decide +kernel
theorem dX4_put_103 : decode cX4_put 103 = .ok (.iconst 0, 1) := by decide +kernel
theorem dX4_put_104 : decode cX4_put 104 = .ok (.istore 5, 2) := by decide +kernel
theorem dX4_put_106 : decode cX4_put 106 = .ok (.iload 5, 2) := by decide +kernel
theorem dX4_put_108 : decode cX4_put 108 = .ok (.bipush 10, 2) := by decide +kernel
theorem dX4_put_110 : decode cX4_put 110 = .ok (.if_icmp .ge 25, 3) := by decide +kernel
theorem dX4_put_113 : decode cX4_put 113 = .ok (.aload_n 0, 1) := by decide +kernel
theorem dX4_put_114 : decode cX4_put 114 = .ok (.getfield 32, 3) := by decide +kernel
theorem dX4_put_117 : decode cX4_put 117 = .ok (.bipush 10, 2) := by decide +kernel
theorem dX4_put_119 : decode cX4_put 119 = .ok (.aload_n 0, 1) := by decide +kernel
theorem dX4_put_120 : decode cX4_put 120 = .ok (.getfield 77, 3) := by decide +kernel
theorem dX4_put_123 : decode cX4_put 123 = .ok (.imul, 1) := by decide +kernel
theorem dX4_put_124 : decode cX4_put 124 = .ok (.iload 5, 2) := by decide +kernel
theorem dX4_put_126 : decode cX4_put 126 = .ok (.iadd, 1) := by decide +kernel
theorem dX4_put_127 : decode cX4_put 127 = .ok (.iconst 0, 1) := by decide +kernel
theorem dX4_put_128 : decode cX4_put 128 = .ok (.iastore, 1) := by decide +kernel
theorem dX4_put_129 : decode cX4_put 129 = .ok (.iinc 5 1, 3) := by decide +kernel
theorem dX4_put_132 : decode cX4_put 132 = .ok (.goto (-26), 3) := by decide +kernel
theorem dX4_put_135 : decode cX4_put 135 = .ok (.aload_n 0, 1) := by decide +kernel
theorem dX4_put_136 : decode cX4_put 136 = .ok (.dup, 1) := by decide +kernel
theorem dX4_put_137 : decode cX4_put 137 = .ok (.getfield 77, 3) := by decide +kernel
theorem dX4_put_140 : decode cX4_put 140 = .ok (.iconst 1, 1) := by decide +kernel
theorem dX4_put_141 : decode cX4_put 141 = .ok (.iadd, 1) := by decide +kernel
theorem dX4_put_142 : decode cX4_put 142 = .ok (.putfield 77, 3) := by decide +kernel
theorem dX4_put_145 : decode cX4_put 145 = .ok (.aload_n 0, 1) := by decide +kernel
theorem dX4_put_146 : decode cX4_put 146 = .ok (.invokevirtual 120, 3) := by decide +kernel
theorem dX4_put_149 : decode cX4_put 149 = .ok (.istore 5, 2) := by decide +kernel
theorem dX4_put_151 : decode cX4_put 151 = .ok (.aload_n 0, 1) := by decide +kernel
theorem dX4_put_152 : decode cX4_put 152 = .ok (.invokevirtual 188, 3) := by decide +kernel
theorem dX4_put_155 : decode cX4_put 155 = .ok (.iload 5, 2) := by decide +kernel
theorem dX4_put_157 : decode cX4_put 157 = .ok (.ireturn, 1) := by decide +kernel
theorem dX4_been_0 : decode cX4_been 0 = .ok (.aload_n 0, 1) := by decide +kernel
theorem dX4_been_1 : decode cX4_been 1 = .ok (.iconst 0, 1) := by decide +kernel
theorem dX4_been_2 : decode cX4_been 2 = .ok (.putfield 74, 3) := by decide +kernel
theorem dX4_been_5 : decode cX4_been 5 = .ok (.iload_n 1, 1) := by decide +kernel
theorem dX4_been_6 : decode cX4_been 6 = .ok (.ifCond .lt 9, 3) := by decide +kernel
theorem dX4_been_9 : decode cX4_been 9 = .ok (.iload_n 1, 1) := by decide +kernel
theorem dX4_been_10 : decode cX4_been 10 = .ok (.bipush 9, 2) := by decide +kernel
theorem dX4_been_12 : decode cX4_been 12 = .ok (.if_icmp .le 19, 3) := by decide +kernel
theorem dX4_been_15 : decode cX4_been 15 = .ok (.aload_n 0, 1) := by decide +kernel
theorem dX4_been_16 : decode cX4_been 16 = .ok (.iload_n 1, 1) := by decide +kernel
theorem dX4_been_17 : decode cX4_been 17 = .ok (.ifCond .ge 8, 3) := by decide +kernel
theorem dX4_been_20 : decode cX4_been 20 = .ok (.bipush (-4), 2) := by decide +kernel
theorem dX4_been_22 : decode cX4_been 22 = .ok (.goto 5, 3) := by decide +kernel
theorem dX4_been_25 : decode cX4_been 25 = .ok (.bipush (-6), 2) := by decide +kernel
theorem dX4_been_27 : decode cX4_been 27 = .ok (.invokevirtual 150, 3) := by decide +kernel
theorem dX4_been_30 : decode cX4_been 30 = .ok (.ireturn, 1) := by decide +kernel
theorem dX4_been_31 : decode cX4_been 31 = .ok (.iconst 0, 1) := by decide +kernel
theorem dX4_been_32 : decode cX4_been 32 = .ok (.istore_n 2, 1) := by decide +kernel
theorem dX4_been_33 : decode cX4_been 33 = .ok (.iload_n 2, 1) := by decide +kernel
theorem dX4_been_34 : decode cX4_been 34 = .ok (.aload_n 0, 1) := by decide +kernel
theorem dX4_been_35 : decode cX4_been 35 = .ok (.getfield 77, 3) := by decide +kernel
theorem dX4_been_38 : decode cX4_been 38 = .ok (.if_icmp .ge 25, 3) := by decide +kernel
theorem dX4_been_41 : decode cX4_been 41 = .ok (.aload_n 0, 1) := by decide +kernel
theorem dX4_been_42 : decode cX4_been 42 = .ok (.getfield 32, 3) := by decide +kernel
theorem dX4_been_45 : decode cX4_been 45 = .ok (.bipush 10, 2) := by decide +kernel
theorem dX4_been_47 : decode cX4_been 47 = .ok (.iload_n 2, 1) := by decide +kernel
theorem dX4_been_48 : decode cX4_been 48 = .ok (.imul, 1) := by decide +kernel
theorem dX4_been_49 : decode cX4_been 49 = .ok (.iload_n 1, 1) := by decide +kernel
theorem dX4_been_50 : decode cX4_been 50 = .ok (.iadd, 1) := by decide +kernel
theorem dX4_been_51 : decode cX4_been 51 = .ok (.iaload, 1) := by decide +kernel
theorem dX4_been_52 : decode cX4_been 52 = .ok (.ifCond .le 5, 3) := by decide +kernel
theorem dX4_been_55 : decode cX4_been 55 = .ok (.iload_n 2, 1) := by decide +kernel
theorem dX4_been_56 : decode cX4_been 56 = .ok (.ireturn, 1) := by decide +kernel
theorem dX4_been_57 : decode cX4_been 57 = .ok (.iinc 2 1, 3) := by decide +kernel
theorem dX4_been_60 : decode cX4_been 60 = .ok (.goto (-27), 3) := by decide +kernel
theorem dX4_been_63 : decode cX4_been 63 = .ok (.bipush (-9), 2) := by decide +kernel
theorem dX4_been_65 : decode cX4_been 65 = .ok (.ireturn, 1) := by decide +kernel
theorem dX4_judge_0 : decode cX4_judge 0 = .ok (.aload_n 0, 1) := by decide +kernel
theorem dX4_judge_1 : decode cX4_judge 1 = .ok (.iconst 0, 1) := by decide +kernel
theorem dX4_judge_2 : decode cX4_judge 2 = .ok (.putfield 74, 3) := by decide +kernel
theorem dX4_judge_5 : decode cX4_judge 5 = .ok (.aload_n 0, 1) := by decide +kernel
theorem dX4_judge_6 : decode cX4_judge 6 = .ok (.getfield 77, 3) := by decide +kernel
theorem dX4_judge_9 : decode cX4_judge 9 = .ok (.ifCond .ne 10, 3) := by decide +kernel
theorem dX4_judge_12 : decode cX4_judge 12 = .ok (.aload_n 0, 1) := by decide +kernel
theorem dX4_judge_13 : decode cX4_judge 13 = .ok (.bipush (-3), 2) := by decide +kernel
theorem dX4_judge_15 : decode cX4_judge 15 = .ok (.invokevirtual 150, 3) := by decide +kernel
theorem dX4_judge_18 : decode cX4_judge 18 = .ok (.ireturn, 1) := by decide +kernel
theorem dX4_judge_19 : decode cX4_judge 19 = .ok (.aload_n 0, 1) := by decide +kernel
theorem dX4_judge_20 : decode cX4_judge 20 = .ok (.invokevirtual 222, 3) := by decide +kernel
theorem dX4_judge_23 : decode cX4_judge 23 = .ok (.istore_n 1, 1) := by decide +kernel
theorem dX4_judge_24 : decode cX4_judge 24 = .ok (.aload_n 0, 1) := by decide +kernel
theorem dX4_judge_25 : decode cX4_judge 25 = .ok (.iconst 0, 1) := by decide +kernel
theorem dX4_judge_26 : decode cX4_judge 26 = .ok (.putfield 219, 3) := by decide +kernel
theorem dX4_judge_29 : decode cX4_judge 29 = .ok (.iload_n 1, 1) := by decide +kernel
theorem dX4_judge_30 : decode cX4_judge 30 = .ok (.ireturn, 1) := by decide +kernel
theorem dX4_draw_0 : decode cX4_draw 0 = .ok (.aload_n 0, 1) := by decide +kernel
theorem dX4_draw_1 : decode cX4_draw 1 = .ok (.aload_n 0, 1) := by decide +kernel
theorem dX4_draw_2 : decode cX4_draw 2 = .ok (.getfield 228, 3) := by decide +kernel
theorem dX4_draw_5 : decode cX4_draw 5 = .ok (.ldc 231, 2) := by decide +kernel
theorem dX4_draw_7 : decode cX4_draw 7 = .ok (.imul, 1) := by decide +kernel
theorem dX4_draw_8 : decode cX4_draw 8 = .ok (.sipush 12345, 3) := by decide +kernel
theorem dX4_draw_11 : decode cX4_draw 11 = .ok (.iadd, 1) := by decide +kernel
theorem dX4_draw_12 : decode cX4_draw 12 = .ok (.putfield 228, 3) := by decide +kernel
theorem dX4_draw_15 : decode cX4_draw 15 = .ok (.aload_n 0, 1) := by decide +kernel
theorem dX4_draw_16 : decode cX4_draw 16 = .ok (.getfield 228, 3) := by decide +kernel
theorem dX4_draw_19 : decode cX4_draw 19 = .ok (.ldc 232, 2) := by decide +kernel
theorem dX4_draw_21 : decode cX4_draw 21 = .ok (.iand, 1) := by decide +kernel
theorem dX4_draw_22 : decode cX4_draw 22 = .ok (.ldc 233, 2) := by decide +kernel
theorem dX4_draw_24 : decode cX4_draw 24 = .ok (.idiv, 1) := by decide +kernel
theorem dX4_draw_25 : decode cX4_draw 25 = .ok (.iload_n 1, 1) := by decide +kernel
theorem dX4_draw_26 : decode cX4_draw 26 = .ok (.irem, 1) := by decide +kernel
theorem dX4_draw_27 : decode cX4_draw 27 = .ok (.ireturn, 1) := by decide +kernel
theorem dX4_drawnNest_0 : decode cX4_drawnNest 0 = .ok (.aload_n 0, 1) := by decide +kernel
theorem dX4_drawnNest_1 : decode cX4_drawnNest 1 = .ok (.invokevirtual 111, 3) := by decide +kernel
theorem dX4_drawnNest_4 : decode cX4_drawnNest 4 = .ok (.aload_n 0, 1) := by decide +kernel
theorem dX4_drawnNest_5 : decode cX4_drawnNest 5 = .ok (.aload_n 0, 1) := by decide +kernel
theorem dX4_drawnNest_6 : decode cX4_drawnNest 6 = .ok (.getfield 105, 3) := by decide +kernel
theorem dX4_drawnNest_9 : decode cX4_drawnNest 9 = .ok (.invokevirtual 234, 3) := by decide +kernel
theorem dX4_drawnNest_12 : decode cX4_drawnNest 12 = .ok (.istore_n 1, 1) := by decide +kernel
theorem dX4_drawnNest_13 : decode cX4_drawnNest 13 = .ok (.iconst 0, 1) := by decide +kernel
theorem dX4_drawnNest_14 : decode cX4_drawnNest 14 = .ok (.istore_n 2, 1) := by decide +kernel
theorem dX4_drawnNest_15 : decode cX4_drawnNest 15 = .ok (.iload_n 1, 1) := by decide +kernel
theorem dX4_drawnNest_16 : decode cX4_drawnNest 16 = .ok (.aload_n 0, 1) := by decide +kernel
theorem dX4_drawnNest_17 : decode cX4_drawnNest 17 = .ok (.getfield 41, 3) := by decide +kernel
theorem dX4_drawnNest_20 : decode cX4_drawnNest 20 = .ok (.iload_n 2, 1) := by decide +kernel
theorem dX4_drawnNest_21 : decode cX4_drawnNest 21 = .ok (.iaload, 1) := by decide +kernel
theorem dX4_drawnNest_22 : decode cX4_drawnNest 22 = .ok (.if_icmp .lt 18, 3) := by decide +kernel
theorem dX4_drawnNest_25 : decode cX4_drawnNest 25 = .ok (.iload_n 1, 1) := by decide +kernel
theorem dX4_drawnNest_26 : decode cX4_drawnNest 26 = .ok (.aload_n 0, 1) := by decide +kernel
theorem dX4_drawnNest_27 : decode cX4_drawnNest 27 = .ok (.getfield 41, 3) := by decide +kernel
theorem dX4_drawnNest_30 : decode cX4_drawnNest 30 = .ok (.iload_n 2, 1) := by decide +kernel
theorem dX4_drawnNest_31 : decode cX4_drawnNest 31 = .ok (.iaload, 1) := by decide +kernel
theorem dX4_drawnNest_32 : decode cX4_drawnNest 32 = .ok (.isub, 1) := by decide +kernel
theorem dX4_drawnNest_33 : decode cX4_drawnNest 33 = .ok (.istore_n 1, 1) := by decide +kernel
theorem dX4_drawnNest_34 : decode cX4_drawnNest 34 = .ok (.iinc 2 1, 3) := by decide +kernel
theorem dX4_drawnNest_37 : decode cX4_drawnNest 37 = .ok (.goto (-22), 3) := by decide +kernel
theorem dX4_drawnNest_40 : decode cX4_drawnNest 40 = .ok (.iload_n 2, 1) := by decide +kernel
theorem dX4_drawnNest_41 : decode cX4_drawnNest 41 = .ok (.ireturn, 1) := by decide +kernel
theorem dX4_seeds_0 : decode cX4_seeds 0 = .ok (.aload_n 0, 1) := by decide +kernel
theorem dX4_seeds_1 : decode cX4_seeds 1 = .ok (.iconst 0, 1) := by decide +kernel
theorem dX4_seeds_2 : decode cX4_seeds 2 = .ok (.putfield 74, 3) := by decide +kernel
theorem dX4_seeds_5 : decode cX4_seeds 5 = .ok (.iload_n 1, 1) := by decide +kernel
theorem dX4_seeds_6 : decode cX4_seeds 6 = .ok (.iconst 1, 1) := by decide +kernel
theorem dX4_seeds_7 : decode cX4_seeds 7 = .ok (.if_icmp .ge 8, 3) := by decide +kernel
theorem dX4_seeds_10 : decode cX4_seeds 10 = .ok (.bipush (-4), 2) := by decide +kernel
theorem dX4_seeds_12 : decode cX4_seeds 12 = .ok (.goto 27, 3) := by decide +kernel
theorem dX4_seeds_15 : decode cX4_seeds 15 = .ok (.iload_n 1, 1) := by decide +kernel
theorem dX4_seeds_16 : decode cX4_seeds 16 = .ok (.bipush 60, 2) := by decide +kernel
theorem dX4_seeds_18 : decode cX4_seeds 18 = .ok (.if_icmp .le 8, 3) := by decide +kernel
theorem dX4_seeds_21 : decode cX4_seeds 21 = .ok (.bipush (-6), 2) := by decide +kernel
theorem dX4_seeds_23 : decode cX4_seeds 23 = .ok (.goto 16, 3) := by decide +kernel
theorem dX4_seeds_26 : decode cX4_seeds 26 = .ok (.aload_n 0, 1) := by decide +kernel
theorem dX4_seeds_27 : decode cX4_seeds 27 = .ok (.getfield 77, 3) := by decide +kernel
theorem dX4_seeds_30 : decode cX4_seeds 30 = .ok (.ifCond .ne 8, 3) := by decide +kernel
theorem dX4_seeds_33 : decode cX4_seeds 33 = .ok (.bipush (-3), 2) := by decide +kernel
theorem dX4_seeds_35 : decode cX4_seeds 35 = .ok (.goto 4, 3) := by decide +kernel
theorem dX4_seeds_38 : decode cX4_seeds 38 = .ok (.iconst 0, 1) := by decide +kernel
theorem dX4_seeds_39 : decode cX4_seeds 39 = .ok (.istore_n 3, 1) := by decide +kernel
theorem dX4_seeds_40 : decode cX4_seeds 40 = .ok (.iload_n 3, 1) := by decide +kernel
theorem dX4_seeds_41 : decode cX4_seeds 41 = .ok (.ifCond .ge 9, 3) := by decide +kernel
theorem dX4_seeds_44 : decode cX4_seeds 44 = .ok (.aload_n 0, 1) := by decide +kernel
theorem dX4_seeds_45 : decode cX4_seeds 45 = .ok (.iload_n 3, 1) := by decide +kernel
theorem dX4_seeds_46 : decode cX4_seeds 46 = .ok (.invokevirtual 150, 3) := by decide +kernel
theorem dX4_seeds_49 : decode cX4_seeds 49 = .ok (.ireturn, 1) := by decide +kernel
theorem dX4_seeds_50 : decode cX4_seeds 50 = .ok (.aload_n 0, 1) := by decide +kernel
theorem dX4_seeds_51 : decode cX4_seeds 51 = .ok (.invokevirtual 182, 3) := by decide +kernel
theorem dX4_seeds_54 : decode cX4_seeds 54 = .ok (.aload_n 0, 1) := by decide +kernel
theorem dX4_seeds_55 : decode cX4_seeds 55 = .ok (.iload_n 2, 1) := by decide +kernel
theorem dX4_seeds_56 : decode cX4_seeds 56 = .ok (.putfield 228, 3) := by decide +kernel
theorem dX4_seeds_59 : decode cX4_seeds 59 = .ok (.iconst 0, 1) := by decide +kernel
theorem dX4_seeds_60 : decode cX4_seeds 60 = .ok (.istore 4, 2) := by decide +kernel
theorem dX4_seeds_62 : decode cX4_seeds 62 = .ok (.iconst 0, 1) := by decide +kernel
theorem dX4_seeds_63 : decode cX4_seeds 63 = .ok (.istore 5, 2) := by decide +kernel
theorem dX4_seeds_65 : decode cX4_seeds 65 = .ok (.iload 5, 2) := by decide +kernel
theorem dX4_seeds_67 : decode cX4_seeds 67 = .ok (.iload_n 1, 1) := by decide +kernel
theorem dX4_seeds_68 : decode cX4_seeds 68 = .ok (.if_icmp .ge 36, 3) := by decide +kernel
theorem dX4_seeds_71 : decode cX4_seeds 71 = .ok (.iload 4, 2) := by decide +kernel
theorem dX4_seeds_73 : decode cX4_seeds 73 = .ok (.aload_n 0, 1) := by decide +kernel
theorem dX4_seeds_74 : decode cX4_seeds 74 = .ok (.iconst 1, 1) := by decide +kernel
theorem dX4_seeds_75 : decode cX4_seeds 75 = .ok (.aload_n 0, 1) := by decide +kernel
theorem dX4_seeds_76 : decode cX4_seeds 76 = .ok (.aload_n 0, 1) := by decide +kernel
theorem dX4_seeds_77 : decode cX4_seeds 77 = .ok (.getfield 77, 3) := by decide +kernel
theorem dX4_seeds_80 : decode cX4_seeds 80 = .ok (.invokevirtual 234, 3) := by decide +kernel
theorem dX4_seeds_83 : decode cX4_seeds 83 = .ok (.ishl, 1) := by decide +kernel
theorem dX4_seeds_84 : decode cX4_seeds 84 = .ok (.invokevirtual 199, 3) := by decide +kernel
theorem dX4_seeds_87 : decode cX4_seeds 87 = .ok (.iadd, 1) := by decide +kernel
theorem dX4_seeds_88 : decode cX4_seeds 88 = .ok (.istore 4, 2) := by decide +kernel
theorem dX4_seeds_90 : decode cX4_seeds 90 = .ok (.aload_n 0, 1) := by decide +kernel
theorem dX4_seeds_91 : decode cX4_seeds 91 = .ok (.aload_n 0, 1) := by decide +kernel
theorem dX4_seeds_92 : decode cX4_seeds 92 = .ok (.invokevirtual 237, 3) := by decide +kernel
theorem dX4_seeds_95 : decode cX4_seeds 95 = .ok (.invokevirtual 123, 3) := by decide +kernel
theorem dX4_seeds_98 : decode cX4_seeds 98 = .ok (.iinc 5 1, 3) := by decide +kernel
theorem dX4_seeds_101 : decode cX4_seeds 101 = .ok (.goto (-36), 3) := by decide +kernel
theorem dX4_seeds_104 : decode cX4_seeds 104 = .ok (.aload_n 0, 1) := by decide +kernel
theorem dX4_seeds_105 : decode cX4_seeds 105 = .ok (.invokevirtual 188, 3) := by decide +kernel
theorem dX4_seeds_108 : decode cX4_seeds 108 = .ok (.iload 4, 2) := by decide +kernel
theorem dX4_seeds_110 : decode cX4_seeds 110 = .ok (.ireturn, 1) := by decide +kernel
theorem dX4_clear_0 : decode cX4_clear 0 = .ok (.aload_n 0, 1) := by decide +kernel
theorem dX4_clear_1 : decode cX4_clear 1 = .ok (.iconst 0, 1) := by decide +kernel
theorem dX4_clear_2 : decode cX4_clear 2 = .ok (.putfield 74, 3) := by decide +kernel
theorem dX4_clear_5 : decode cX4_clear 5 = .ok (.aload_n 0, 1) := by decide +kernel
theorem dX4_clear_6 : decode cX4_clear 6 = .ok (.getfield 219, 3) := by decide +kernel
theorem dX4_clear_9 : decode cX4_clear 9 = .ok (.istore_n 1, 1) := by decide +kernel
theorem dX4_clear_10 : decode cX4_clear 10 = .ok (.aload_n 0, 1) := by decide +kernel
theorem dX4_clear_11 : decode cX4_clear 11 = .ok (.iconst 0, 1) := by decide +kernel
theorem dX4_clear_12 : decode cX4_clear 12 = .ok (.putfield 219, 3) := by decide +kernel
theorem dX4_clear_15 : decode cX4_clear 15 = .ok (.iload_n 1, 1) := by decide +kernel
theorem dX4_clear_16 : decode cX4_clear 16 = .ok (.ireturn, 1) := by decide +kernel
theorem dX4_count_0 : decode cX4_count 0 = .ok (.aload_n 0, 1) := by decide +kernel
theorem dX4_count_1 : decode cX4_count 1 = .ok (.iconst 0, 1) := by decide +kernel
theorem dX4_count_2 : decode cX4_count 2 = .ok (.putfield 74, 3) := by decide +kernel
theorem dX4_count_5 : decode cX4_count 5 = .ok (.iload_n 1, 1) := by decide +kernel
theorem dX4_count_6 : decode cX4_count 6 = .ok (.tableswitch 125 0 9 #[54, 59, 64, 69, 86, 91, 96, 110, 115, 120], 54) := by decide +kernel
theorem dX4_count_60 : decode cX4_count 60 = .ok (.aload_n 0, 1) := by decide +kernel
theorem dX4_count_61 : decode cX4_count 61 = .ok (.getfield 77, 3) := by decide +kernel
theorem dX4_count_64 : decode cX4_count 64 = .ok (.ireturn, 1) := by decide +kernel
theorem dX4_count_65 : decode cX4_count 65 = .ok (.aload_n 0, 1) := by decide +kernel
theorem dX4_count_66 : decode cX4_count 66 = .ok (.getfield 114, 3) := by decide +kernel
theorem dX4_count_69 : decode cX4_count 69 = .ok (.ireturn, 1) := by decide +kernel
theorem dX4_count_70 : decode cX4_count 70 = .ok (.aload_n 0, 1) := by decide +kernel
theorem dX4_count_71 : decode cX4_count 71 = .ok (.invokevirtual 225, 3) := by decide +kernel
theorem dX4_count_74 : decode cX4_count 74 = .ok (.ireturn, 1) := by decide +kernel
theorem dX4_count_75 : decode cX4_count 75 = .ok (.aload_n 0, 1) := by decide +kernel
theorem dX4_count_76 : decode cX4_count 76 = .ok (.getfield 16, 3) := by decide +kernel
theorem dX4_count_79 : decode cX4_count 79 = .ok (.ifCond .ge 8, 3) := by decide +kernel
theorem dX4_count_82 : decode cX4_count 82 = .ok (.bipush (-9), 2) := by decide +kernel
theorem dX4_count_84 : decode cX4_count 84 = .ok (.goto 7, 3) := by decide +kernel
theorem dX4_count_87 : decode cX4_count 87 = .ok (.aload_n 0, 1) := by decide +kernel
theorem dX4_count_88 : decode cX4_count 88 = .ok (.getfield 16, 3) := by decide +kernel
theorem dX4_count_91 : decode cX4_count 91 = .ok (.ireturn, 1) := by decide +kernel
theorem dX4_count_92 : decode cX4_count 92 = .ok (.aload_n 0, 1) := by decide +kernel
theorem dX4_count_93 : decode cX4_count 93 = .ok (.getfield 84, 3) := by decide +kernel
theorem dX4_count_96 : decode cX4_count 96 = .ok (.ireturn, 1) := by decide +kernel
theorem dX4_count_97 : decode cX4_count 97 = .ok (.aload_n 0, 1) := by decide +kernel
theorem dX4_count_98 : decode cX4_count 98 = .ok (.getfield 117, 3) := by decide +kernel
theorem dX4_count_101 : decode cX4_count 101 = .ok (.ireturn, 1) := by decide +kernel
theorem dX4_count_102 : decode cX4_count 102 = .ok (.aload_n 0, 1) := by decide +kernel
theorem dX4_count_103 : decode cX4_count 103 = .ok (.getfield 7, 3) := by decide +kernel
theorem dX4_count_106 : decode cX4_count 106 = .ok (.aload_n 0, 1) := by decide +kernel
theorem dX4_count_107 : decode cX4_count 107 = .ok (.aload_n 0, 1) := by decide +kernel
theorem dX4_count_108 : decode cX4_count 108 = .ok (.getfield 84, 3) := by decide +kernel
theorem dX4_count_111 : decode cX4_count 111 = .ok (.invokevirtual 196, 3) := by decide +kernel
theorem dX4_count_114 : decode cX4_count 114 = .ok (.isub, 1) := by decide +kernel
theorem dX4_count_115 : decode cX4_count 115 = .ok (.ireturn, 1) := by decide +kernel
theorem dX4_count_116 : decode cX4_count 116 = .ok (.aload_n 0, 1) := by decide +kernel
theorem dX4_count_117 : decode cX4_count 117 = .ok (.getfield 153, 3) := by decide +kernel
theorem dX4_count_120 : decode cX4_count 120 = .ok (.ireturn, 1) := by decide +kernel
theorem dX4_count_121 : decode cX4_count 121 = .ok (.aload_n 0, 1) := by decide +kernel
theorem dX4_count_122 : decode cX4_count 122 = .ok (.getfield 219, 3) := by decide +kernel
theorem dX4_count_125 : decode cX4_count 125 = .ok (.ireturn, 1) := by decide +kernel
theorem dX4_count_126 : decode cX4_count 126 = .ok (.aload_n 0, 1) := by decide +kernel
theorem dX4_count_127 : decode cX4_count 127 = .ok (.getfield 140, 3) := by decide +kernel
theorem dX4_count_130 : decode cX4_count 130 = .ok (.ireturn, 1) := by decide +kernel
theorem dX4_count_131 : decode cX4_count 131 = .ok (.iload_n 1, 1) := by decide +kernel
theorem dX4_count_132 : decode cX4_count 132 = .ok (.i2l, 1) := by decide +kernel
theorem dX4_count_133 : decode cX4_count 133 = .ok (.ldc2_w 240, 3) := by decide +kernel
theorem dX4_count_136 : decode cX4_count 136 = .ok (.ldc2_w 242, 3) := by decide +kernel
theorem dX4_count_139 : decode cX4_count 139 = .ok (.invokestatic 80, 3) := by decide +kernel
theorem dX4_count_142 : decode cX4_count 142 = .ok (.ifCond .eq 15, 3) := by decide +kernel
theorem dX4_count_145 : decode cX4_count 145 = .ok (.aload_n 0, 1) := by decide +kernel
theorem dX4_count_146 : decode cX4_count 146 = .ok (.getfield 35, 3) := by decide +kernel
theorem dX4_count_149 : decode cX4_count 149 = .ok (.iload_n 1, 1) := by decide +kernel
theorem dX4_count_150 : decode cX4_count 150 = .ok (.bipush 10, 2) := by decide +kernel
theorem dX4_count_152 : decode cX4_count 152 = .ok (.isub, 1) := by decide +kernel
theorem dX4_count_153 : decode cX4_count 153 = .ok (.iaload, 1) := by decide +kernel
theorem dX4_count_154 : decode cX4_count 154 = .ok (.goto 5, 3) := by decide +kernel
theorem dX4_count_157 : decode cX4_count 157 = .ok (.bipush (-9), 2) := by decide +kernel
theorem dX4_count_159 : decode cX4_count 159 = .ok (.ireturn, 1) := by decide +kernel
theorem dJ6_numberOfTrailingZeros_0f7a4_0 : decode cJ6_numberOfTrailingZeros_0f7a4 0 = .ok (.iload_n 0, 1) := by decide +kernel
theorem dJ6_numberOfTrailingZeros_0f7a4_1 : decode cJ6_numberOfTrailingZeros_0f7a4 1 = .ok (.iconst (-1), 1) := by decide +kernel
theorem dJ6_numberOfTrailingZeros_0f7a4_2 : decode cJ6_numberOfTrailingZeros_0f7a4 2 = .ok (.ixor, 1) := by decide +kernel
theorem dJ6_numberOfTrailingZeros_0f7a4_3 : decode cJ6_numberOfTrailingZeros_0f7a4 3 = .ok (.iload_n 0, 1) := by decide +kernel
theorem dJ6_numberOfTrailingZeros_0f7a4_4 : decode cJ6_numberOfTrailingZeros_0f7a4 4 = .ok (.iconst 1, 1) := by decide +kernel
theorem dJ6_numberOfTrailingZeros_0f7a4_5 : decode cJ6_numberOfTrailingZeros_0f7a4 5 = .ok (.isub, 1) := by decide +kernel
theorem dJ6_numberOfTrailingZeros_0f7a4_6 : decode cJ6_numberOfTrailingZeros_0f7a4 6 = .ok (.iand, 1) := by decide +kernel
theorem dJ6_numberOfTrailingZeros_0f7a4_7 : decode cJ6_numberOfTrailingZeros_0f7a4 7 = .ok (.istore_n 0, 1) := by decide +kernel
theorem dJ6_numberOfTrailingZeros_0f7a4_8 : decode cJ6_numberOfTrailingZeros_0f7a4 8 = .ok (.iload_n 0, 1) := by decide +kernel
theorem dJ6_numberOfTrailingZeros_0f7a4_9 : decode cJ6_numberOfTrailingZeros_0f7a4 9 = .ok (.ifCond .gt 8, 3) := by decide +kernel
theorem dJ6_numberOfTrailingZeros_0f7a4_12 : decode cJ6_numberOfTrailingZeros_0f7a4 12 = .ok (.iload_n 0, 1) := by decide +kernel
theorem dJ6_numberOfTrailingZeros_0f7a4_13 : decode cJ6_numberOfTrailingZeros_0f7a4 13 = .ok (.bipush 32, 2) := by decide +kernel
theorem dJ6_numberOfTrailingZeros_0f7a4_15 : decode cJ6_numberOfTrailingZeros_0f7a4 15 = .ok (.iand, 1) := by decide +kernel
theorem dJ6_numberOfTrailingZeros_0f7a4_16 : decode cJ6_numberOfTrailingZeros_0f7a4 16 = .ok (.ireturn, 1) := by decide +kernel
theorem dJ6_numberOfTrailingZeros_0f7a4_17 : decode cJ6_numberOfTrailingZeros_0f7a4 17 = .ok (.iconst 1, 1) := by decide +kernel
theorem dJ6_numberOfTrailingZeros_0f7a4_18 : decode cJ6_numberOfTrailingZeros_0f7a4 18 = .ok (.istore_n 1, 1) := by decide +kernel
theorem dJ6_numberOfTrailingZeros_0f7a4_19 : decode cJ6_numberOfTrailingZeros_0f7a4 19 = .ok (.iload_n 0, 1) := by decide +kernel
theorem dJ6_numberOfTrailingZeros_0f7a4_20 : decode cJ6_numberOfTrailingZeros_0f7a4 20 = .ok (.ldc_w 264, 3) := by decide +kernel
theorem dJ6_numberOfTrailingZeros_0f7a4_23 : decode cJ6_numberOfTrailingZeros_0f7a4 23 = .ok (.if_icmp .le 11, 3) := by decide +kernel
theorem dJ6_numberOfTrailingZeros_0f7a4_26 : decode cJ6_numberOfTrailingZeros_0f7a4 26 = .ok (.iinc 1 16, 3) := by decide +kernel
theorem dJ6_numberOfTrailingZeros_0f7a4_29 : decode cJ6_numberOfTrailingZeros_0f7a4 29 = .ok (.iload_n 0, 1) := by decide +kernel
theorem dJ6_numberOfTrailingZeros_0f7a4_30 : decode cJ6_numberOfTrailingZeros_0f7a4 30 = .ok (.bipush 16, 2) := by decide +kernel
theorem dJ6_numberOfTrailingZeros_0f7a4_32 : decode cJ6_numberOfTrailingZeros_0f7a4 32 = .ok (.iushr, 1) := by decide +kernel
theorem dJ6_numberOfTrailingZeros_0f7a4_33 : decode cJ6_numberOfTrailingZeros_0f7a4 33 = .ok (.istore_n 0, 1) := by decide +kernel
theorem dJ6_numberOfTrailingZeros_0f7a4_34 : decode cJ6_numberOfTrailingZeros_0f7a4 34 = .ok (.iload_n 0, 1) := by decide +kernel
theorem dJ6_numberOfTrailingZeros_0f7a4_35 : decode cJ6_numberOfTrailingZeros_0f7a4 35 = .ok (.sipush 256, 3) := by decide +kernel
theorem dJ6_numberOfTrailingZeros_0f7a4_38 : decode cJ6_numberOfTrailingZeros_0f7a4 38 = .ok (.if_icmp .le 11, 3) := by decide +kernel
theorem dJ6_numberOfTrailingZeros_0f7a4_41 : decode cJ6_numberOfTrailingZeros_0f7a4 41 = .ok (.iinc 1 8, 3) := by decide +kernel
theorem dJ6_numberOfTrailingZeros_0f7a4_44 : decode cJ6_numberOfTrailingZeros_0f7a4 44 = .ok (.iload_n 0, 1) := by decide +kernel
theorem dJ6_numberOfTrailingZeros_0f7a4_45 : decode cJ6_numberOfTrailingZeros_0f7a4 45 = .ok (.bipush 8, 2) := by decide +kernel
theorem dJ6_numberOfTrailingZeros_0f7a4_47 : decode cJ6_numberOfTrailingZeros_0f7a4 47 = .ok (.iushr, 1) := by decide +kernel
theorem dJ6_numberOfTrailingZeros_0f7a4_48 : decode cJ6_numberOfTrailingZeros_0f7a4 48 = .ok (.istore_n 0, 1) := by decide +kernel
theorem dJ6_numberOfTrailingZeros_0f7a4_49 : decode cJ6_numberOfTrailingZeros_0f7a4 49 = .ok (.iload_n 0, 1) := by decide +kernel
theorem dJ6_numberOfTrailingZeros_0f7a4_50 : decode cJ6_numberOfTrailingZeros_0f7a4 50 = .ok (.bipush 16, 2) := by decide +kernel
theorem dJ6_numberOfTrailingZeros_0f7a4_52 : decode cJ6_numberOfTrailingZeros_0f7a4 52 = .ok (.if_icmp .le 10, 3) := by decide +kernel
theorem dJ6_numberOfTrailingZeros_0f7a4_55 : decode cJ6_numberOfTrailingZeros_0f7a4 55 = .ok (.iinc 1 4, 3) := by decide +kernel
theorem dJ6_numberOfTrailingZeros_0f7a4_58 : decode cJ6_numberOfTrailingZeros_0f7a4 58 = .ok (.iload_n 0, 1) := by decide +kernel
theorem dJ6_numberOfTrailingZeros_0f7a4_59 : decode cJ6_numberOfTrailingZeros_0f7a4 59 = .ok (.iconst 4, 1) := by decide +kernel
theorem dJ6_numberOfTrailingZeros_0f7a4_60 : decode cJ6_numberOfTrailingZeros_0f7a4 60 = .ok (.iushr, 1) := by decide +kernel
theorem dJ6_numberOfTrailingZeros_0f7a4_61 : decode cJ6_numberOfTrailingZeros_0f7a4 61 = .ok (.istore_n 0, 1) := by decide +kernel
theorem dJ6_numberOfTrailingZeros_0f7a4_62 : decode cJ6_numberOfTrailingZeros_0f7a4 62 = .ok (.iload_n 0, 1) := by decide +kernel
theorem dJ6_numberOfTrailingZeros_0f7a4_63 : decode cJ6_numberOfTrailingZeros_0f7a4 63 = .ok (.iconst 4, 1) := by decide +kernel
theorem dJ6_numberOfTrailingZeros_0f7a4_64 : decode cJ6_numberOfTrailingZeros_0f7a4 64 = .ok (.if_icmp .le 10, 3) := by decide +kernel
theorem dJ6_numberOfTrailingZeros_0f7a4_67 : decode cJ6_numberOfTrailingZeros_0f7a4 67 = .ok (.iinc 1 2, 3) := by decide +kernel
theorem dJ6_numberOfTrailingZeros_0f7a4_70 : decode cJ6_numberOfTrailingZeros_0f7a4 70 = .ok (.iload_n 0, 1) := by decide +kernel
theorem dJ6_numberOfTrailingZeros_0f7a4_71 : decode cJ6_numberOfTrailingZeros_0f7a4 71 = .ok (.iconst 2, 1) := by decide +kernel
theorem dJ6_numberOfTrailingZeros_0f7a4_72 : decode cJ6_numberOfTrailingZeros_0f7a4 72 = .ok (.iushr, 1) := by decide +kernel
theorem dJ6_numberOfTrailingZeros_0f7a4_73 : decode cJ6_numberOfTrailingZeros_0f7a4 73 = .ok (.istore_n 0, 1) := by decide +kernel
theorem dJ6_numberOfTrailingZeros_0f7a4_74 : decode cJ6_numberOfTrailingZeros_0f7a4 74 = .ok (.iload_n 1, 1) := by decide +kernel
theorem dJ6_numberOfTrailingZeros_0f7a4_75 : decode cJ6_numberOfTrailingZeros_0f7a4 75 = .ok (.iload_n 0, 1) := by decide +kernel
theorem dJ6_numberOfTrailingZeros_0f7a4_76 : decode cJ6_numberOfTrailingZeros_0f7a4 76 = .ok (.iconst 1, 1) := by decide +kernel
theorem dJ6_numberOfTrailingZeros_0f7a4_77 : decode cJ6_numberOfTrailingZeros_0f7a4 77 = .ok (.iushr, 1) := by decide +kernel
theorem dJ6_numberOfTrailingZeros_0f7a4_78 : decode cJ6_numberOfTrailingZeros_0f7a4 78 = .ok (.iadd, 1) := by decide +kernel
theorem dJ6_numberOfTrailingZeros_0f7a4_79 : decode cJ6_numberOfTrailingZeros_0f7a4 79 = .ok (.ireturn, 1) := by decide +kernel
theorem dJ6_bitCount_0f7a4_0 : decode cJ6_bitCount_0f7a4 0 = .ok (.iload_n 0, 1) := by decide +kernel
theorem dJ6_bitCount_0f7a4_1 : decode cJ6_bitCount_0f7a4 1 = .ok (.iload_n 0, 1) := by decide +kernel
theorem dJ6_bitCount_0f7a4_2 : decode cJ6_bitCount_0f7a4 2 = .ok (.iconst 1, 1) := by decide +kernel
theorem dJ6_bitCount_0f7a4_3 : decode cJ6_bitCount_0f7a4 3 = .ok (.iushr, 1) := by decide +kernel
theorem dJ6_bitCount_0f7a4_4 : decode cJ6_bitCount_0f7a4 4 = .ok (.ldc_w 265, 3) := by decide +kernel
theorem dJ6_bitCount_0f7a4_7 : decode cJ6_bitCount_0f7a4 7 = .ok (.iand, 1) := by decide +kernel
theorem dJ6_bitCount_0f7a4_8 : decode cJ6_bitCount_0f7a4 8 = .ok (.isub, 1) := by decide +kernel
theorem dJ6_bitCount_0f7a4_9 : decode cJ6_bitCount_0f7a4 9 = .ok (.istore_n 0, 1) := by decide +kernel
theorem dJ6_bitCount_0f7a4_10 : decode cJ6_bitCount_0f7a4 10 = .ok (.iload_n 0, 1) := by decide +kernel
theorem dJ6_bitCount_0f7a4_11 : decode cJ6_bitCount_0f7a4 11 = .ok (.ldc_w 266, 3) := by decide +kernel
theorem dJ6_bitCount_0f7a4_14 : decode cJ6_bitCount_0f7a4 14 = .ok (.iand, 1) := by decide +kernel
theorem dJ6_bitCount_0f7a4_15 : decode cJ6_bitCount_0f7a4 15 = .ok (.iload_n 0, 1) := by decide +kernel
theorem dJ6_bitCount_0f7a4_16 : decode cJ6_bitCount_0f7a4 16 = .ok (.iconst 2, 1) := by decide +kernel
theorem dJ6_bitCount_0f7a4_17 : decode cJ6_bitCount_0f7a4 17 = .ok (.iushr, 1) := by decide +kernel
theorem dJ6_bitCount_0f7a4_18 : decode cJ6_bitCount_0f7a4 18 = .ok (.ldc_w 266, 3) := by decide +kernel
theorem dJ6_bitCount_0f7a4_21 : decode cJ6_bitCount_0f7a4 21 = .ok (.iand, 1) := by decide +kernel
theorem dJ6_bitCount_0f7a4_22 : decode cJ6_bitCount_0f7a4 22 = .ok (.iadd, 1) := by decide +kernel
theorem dJ6_bitCount_0f7a4_23 : decode cJ6_bitCount_0f7a4 23 = .ok (.istore_n 0, 1) := by decide +kernel
theorem dJ6_bitCount_0f7a4_24 : decode cJ6_bitCount_0f7a4 24 = .ok (.iload_n 0, 1) := by decide +kernel
theorem dJ6_bitCount_0f7a4_25 : decode cJ6_bitCount_0f7a4 25 = .ok (.iload_n 0, 1) := by decide +kernel
theorem dJ6_bitCount_0f7a4_26 : decode cJ6_bitCount_0f7a4 26 = .ok (.iconst 4, 1) := by decide +kernel
theorem dJ6_bitCount_0f7a4_27 : decode cJ6_bitCount_0f7a4 27 = .ok (.iushr, 1) := by decide +kernel
theorem dJ6_bitCount_0f7a4_28 : decode cJ6_bitCount_0f7a4 28 = .ok (.iadd, 1) := by decide +kernel
theorem dJ6_bitCount_0f7a4_29 : decode cJ6_bitCount_0f7a4 29 = .ok (.ldc_w 267, 3) := by decide +kernel
theorem dJ6_bitCount_0f7a4_32 : decode cJ6_bitCount_0f7a4 32 = .ok (.iand, 1) := by decide +kernel
theorem dJ6_bitCount_0f7a4_33 : decode cJ6_bitCount_0f7a4 33 = .ok (.istore_n 0, 1) := by decide +kernel
theorem dJ6_bitCount_0f7a4_34 : decode cJ6_bitCount_0f7a4 34 = .ok (.iload_n 0, 1) := by decide +kernel
theorem dJ6_bitCount_0f7a4_35 : decode cJ6_bitCount_0f7a4 35 = .ok (.iload_n 0, 1) := by decide +kernel
theorem dJ6_bitCount_0f7a4_36 : decode cJ6_bitCount_0f7a4 36 = .ok (.bipush 8, 2) := by decide +kernel
theorem dJ6_bitCount_0f7a4_38 : decode cJ6_bitCount_0f7a4 38 = .ok (.iushr, 1) := by decide +kernel
theorem dJ6_bitCount_0f7a4_39 : decode cJ6_bitCount_0f7a4 39 = .ok (.iadd, 1) := by decide +kernel
theorem dJ6_bitCount_0f7a4_40 : decode cJ6_bitCount_0f7a4 40 = .ok (.istore_n 0, 1) := by decide +kernel
theorem dJ6_bitCount_0f7a4_41 : decode cJ6_bitCount_0f7a4 41 = .ok (.iload_n 0, 1) := by decide +kernel
theorem dJ6_bitCount_0f7a4_42 : decode cJ6_bitCount_0f7a4 42 = .ok (.iload_n 0, 1) := by decide +kernel
theorem dJ6_bitCount_0f7a4_43 : decode cJ6_bitCount_0f7a4 43 = .ok (.bipush 16, 2) := by decide +kernel
theorem dJ6_bitCount_0f7a4_45 : decode cJ6_bitCount_0f7a4 45 = .ok (.iushr, 1) := by decide +kernel
theorem dJ6_bitCount_0f7a4_46 : decode cJ6_bitCount_0f7a4 46 = .ok (.iadd, 1) := by decide +kernel
theorem dJ6_bitCount_0f7a4_47 : decode cJ6_bitCount_0f7a4 47 = .ok (.istore_n 0, 1) := by decide +kernel
theorem dJ6_bitCount_0f7a4_48 : decode cJ6_bitCount_0f7a4 48 = .ok (.iload_n 0, 1) := by decide +kernel
theorem dJ6_bitCount_0f7a4_49 : decode cJ6_bitCount_0f7a4 49 = .ok (.bipush 63, 2) := by decide +kernel
theorem dJ6_bitCount_0f7a4_51 : decode cJ6_bitCount_0f7a4 51 = .ok (.iand, 1) := by decide +kernel
theorem dJ6_bitCount_0f7a4_52 : decode cJ6_bitCount_0f7a4 52 = .ok (.ireturn, 1) := by decide +kernel
theorem dJ9_abs_0f7a4_0 : decode cJ9_abs_0f7a4 0 = .ok (.iload_n 0, 1) := by decide +kernel
theorem dJ9_abs_0f7a4_1 : decode cJ9_abs_0f7a4 1 = .ok (.ifCond .ge 8, 3) := by decide +kernel
theorem dJ9_abs_0f7a4_4 : decode cJ9_abs_0f7a4 4 = .ok (.iload_n 0, 1) := by decide +kernel
theorem dJ9_abs_0f7a4_5 : decode cJ9_abs_0f7a4 5 = .ok (.ineg, 1) := by decide +kernel
theorem dJ9_abs_0f7a4_6 : decode cJ9_abs_0f7a4 6 = .ok (.goto 4, 3) := by decide +kernel
theorem dJ9_abs_0f7a4_9 : decode cJ9_abs_0f7a4 9 = .ok (.iload_n 0, 1) := by decide +kernel
theorem dJ9_abs_0f7a4_10 : decode cJ9_abs_0f7a4 10 = .ok (.ireturn, 1) := by decide +kernel
theorem dJ9_max_7cf53_0 : decode cJ9_max_7cf53 0 = .ok (.iload_n 0, 1) := by decide +kernel
theorem dJ9_max_7cf53_1 : decode cJ9_max_7cf53 1 = .ok (.iload_n 1, 1) := by decide +kernel
theorem dJ9_max_7cf53_2 : decode cJ9_max_7cf53 2 = .ok (.if_icmp .lt 7, 3) := by decide +kernel
theorem dJ9_max_7cf53_5 : decode cJ9_max_7cf53 5 = .ok (.iload_n 0, 1) := by decide +kernel
theorem dJ9_max_7cf53_6 : decode cJ9_max_7cf53 6 = .ok (.goto 4, 3) := by decide +kernel
theorem dJ9_max_7cf53_9 : decode cJ9_max_7cf53 9 = .ok (.iload_n 1, 1) := by decide +kernel
theorem dJ9_max_7cf53_10 : decode cJ9_max_7cf53 10 = .ok (.ireturn, 1) := by decide +kernel
theorem dL_law_0 : decode cL_law 0 = .ok (.new 7, 3) := by decide +kernel
theorem dL_law_3 : decode cL_law 3 = .ok (.dup, 1) := by decide +kernel
theorem dL_law_4 : decode cL_law 4 = .ok (.invokespecial 9, 3) := by decide +kernel
theorem dL_law_7 : decode cL_law 7 = .ok (.astore_n 1, 1) := by decide +kernel
theorem dL_law_8 : decode cL_law 8 = .ok (.new 10, 3) := by decide +kernel
theorem dL_law_11 : decode cL_law 11 = .ok (.dup, 1) := by decide +kernel
theorem dL_law_12 : decode cL_law 12 = .ok (.invokespecial 12, 3) := by decide +kernel
theorem dL_law_15 : decode cL_law 15 = .ok (.astore_n 2, 1) := by decide +kernel
theorem dL_law_16 : decode cL_law 16 = .ok (.iconst 0, 1) := by decide +kernel
theorem dL_law_17 : decode cL_law 17 = .ok (.istore_n 3, 1) := by decide +kernel
theorem dL_law_18 : decode cL_law 18 = .ok (.iload_n 3, 1) := by decide +kernel
theorem dL_law_19 : decode cL_law 19 = .ok (.aload_n 0, 1) := by decide +kernel
theorem dL_law_20 : decode cL_law 20 = .ok (.arraylength, 1) := by decide +kernel
theorem dL_law_21 : decode cL_law 21 = .ok (.iconst 4, 1) := by decide +kernel
theorem dL_law_22 : decode cL_law 22 = .ok (.isub, 1) := by decide +kernel
theorem dL_law_23 : decode cL_law 23 = .ok (.if_icmp .gt 697, 3) := by decide +kernel
theorem dL_law_26 : decode cL_law 26 = .ok (.aload_n 0, 1) := by decide +kernel
theorem dL_law_27 : decode cL_law 27 = .ok (.iload_n 3, 1) := by decide +kernel
theorem dL_law_28 : decode cL_law 28 = .ok (.iaload, 1) := by decide +kernel
theorem dL_law_29 : decode cL_law 29 = .ok (.bipush 31, 2) := by decide +kernel
theorem dL_law_31 : decode cL_law 31 = .ok (.iand, 1) := by decide +kernel
theorem dL_law_32 : decode cL_law 32 = .ok (.tableswitch 682 0 24 #[116, 139, 152, 185, 218, 241, 254, 277, 311, 344, 377, 390, 413, 436, 449, 462, 485, 508, 551, 574, 587, 620, 633, 646, 659], 116) := by decide +kernel
theorem dL_law_148 : decode cL_law 148 = .ok (.aload_n 1, 1) := by decide +kernel
theorem dL_law_149 : decode cL_law 149 = .ok (.aload_n 0, 1) := by decide +kernel
theorem dL_law_150 : decode cL_law 150 = .ok (.iload_n 3, 1) := by decide +kernel
theorem dL_law_151 : decode cL_law 151 = .ok (.iconst 1, 1) := by decide +kernel
theorem dL_law_152 : decode cL_law 152 = .ok (.iadd, 1) := by decide +kernel
theorem dL_law_153 : decode cL_law 153 = .ok (.iaload, 1) := by decide +kernel
theorem dL_law_154 : decode cL_law 154 = .ok (.invokevirtual 13, 3) := by decide +kernel
theorem dL_law_157 : decode cL_law 157 = .ok (.aload_n 2, 1) := by decide +kernel
theorem dL_law_158 : decode cL_law 158 = .ok (.aload_n 0, 1) := by decide +kernel
theorem dL_law_159 : decode cL_law 159 = .ok (.iload_n 3, 1) := by decide +kernel
theorem dL_law_160 : decode cL_law 160 = .ok (.iconst 1, 1) := by decide +kernel
theorem dL_law_161 : decode cL_law 161 = .ok (.iadd, 1) := by decide +kernel
theorem dL_law_162 : decode cL_law 162 = .ok (.iaload, 1) := by decide +kernel
theorem dL_law_163 : decode cL_law 163 = .ok (.invokevirtual 17, 3) := by decide +kernel
theorem dL_law_166 : decode cL_law 166 = .ok (.if_icmp .eq 548, 3) := by decide +kernel
theorem dL_law_169 : decode cL_law 169 = .ok (.iconst 0, 1) := by decide +kernel
theorem dL_law_170 : decode cL_law 170 = .ok (.ireturn, 1) := by decide +kernel
theorem dL_law_171 : decode cL_law 171 = .ok (.aload_n 1, 1) := by decide +kernel
theorem dL_law_172 : decode cL_law 172 = .ok (.invokevirtual 18, 3) := by decide +kernel
theorem dL_law_175 : decode cL_law 175 = .ok (.aload_n 2, 1) := by decide +kernel
theorem dL_law_176 : decode cL_law 176 = .ok (.invokevirtual 22, 3) := by decide +kernel
theorem dL_law_179 : decode cL_law 179 = .ok (.if_icmp .eq 535, 3) := by decide +kernel
theorem dL_law_182 : decode cL_law 182 = .ok (.iconst 0, 1) := by decide +kernel
theorem dL_law_183 : decode cL_law 183 = .ok (.ireturn, 1) := by decide +kernel
theorem dL_law_184 : decode cL_law 184 = .ok (.aload_n 1, 1) := by decide +kernel
theorem dL_law_185 : decode cL_law 185 = .ok (.aload_n 0, 1) := by decide +kernel
theorem dL_law_186 : decode cL_law 186 = .ok (.iload_n 3, 1) := by decide +kernel
theorem dL_law_187 : decode cL_law 187 = .ok (.iconst 1, 1) := by decide +kernel
theorem dL_law_188 : decode cL_law 188 = .ok (.iadd, 1) := by decide +kernel
theorem dL_law_189 : decode cL_law 189 = .ok (.iaload, 1) := by decide +kernel
theorem dL_law_190 : decode cL_law 190 = .ok (.aload_n 0, 1) := by decide +kernel
theorem dL_law_191 : decode cL_law 191 = .ok (.iload_n 3, 1) := by decide +kernel
theorem dL_law_192 : decode cL_law 192 = .ok (.iconst 2, 1) := by decide +kernel
theorem dL_law_193 : decode cL_law 193 = .ok (.iadd, 1) := by decide +kernel
theorem dL_law_194 : decode cL_law 194 = .ok (.iaload, 1) := by decide +kernel
theorem dL_law_195 : decode cL_law 195 = .ok (.invokevirtual 23, 3) := by decide +kernel
theorem dL_law_198 : decode cL_law 198 = .ok (.aload_n 2, 1) := by decide +kernel
theorem dL_law_199 : decode cL_law 199 = .ok (.aload_n 0, 1) := by decide +kernel
theorem dL_law_200 : decode cL_law 200 = .ok (.iload_n 3, 1) := by decide +kernel
theorem dL_law_201 : decode cL_law 201 = .ok (.iconst 1, 1) := by decide +kernel
theorem dL_law_202 : decode cL_law 202 = .ok (.iadd, 1) := by decide +kernel
theorem dL_law_203 : decode cL_law 203 = .ok (.iaload, 1) := by decide +kernel
theorem dL_law_204 : decode cL_law 204 = .ok (.aload_n 0, 1) := by decide +kernel
theorem dL_law_205 : decode cL_law 205 = .ok (.iload_n 3, 1) := by decide +kernel
theorem dL_law_206 : decode cL_law 206 = .ok (.iconst 2, 1) := by decide +kernel
theorem dL_law_207 : decode cL_law 207 = .ok (.iadd, 1) := by decide +kernel
theorem dL_law_208 : decode cL_law 208 = .ok (.iaload, 1) := by decide +kernel
theorem dL_law_209 : decode cL_law 209 = .ok (.invokevirtual 27, 3) := by decide +kernel
theorem dL_law_212 : decode cL_law 212 = .ok (.if_icmp .eq 502, 3) := by decide +kernel
theorem dL_law_215 : decode cL_law 215 = .ok (.iconst 0, 1) := by decide +kernel
theorem dL_law_216 : decode cL_law 216 = .ok (.ireturn, 1) := by decide +kernel
theorem dL_law_217 : decode cL_law 217 = .ok (.aload_n 1, 1) := by decide +kernel
theorem dL_law_218 : decode cL_law 218 = .ok (.aload_n 0, 1) := by decide +kernel
theorem dL_law_219 : decode cL_law 219 = .ok (.iload_n 3, 1) := by decide +kernel
theorem dL_law_220 : decode cL_law 220 = .ok (.iconst 1, 1) := by decide +kernel
theorem dL_law_221 : decode cL_law 221 = .ok (.iadd, 1) := by decide +kernel
theorem dL_law_222 : decode cL_law 222 = .ok (.iaload, 1) := by decide +kernel
theorem dL_law_223 : decode cL_law 223 = .ok (.aload_n 0, 1) := by decide +kernel
theorem dL_law_224 : decode cL_law 224 = .ok (.iload_n 3, 1) := by decide +kernel
theorem dL_law_225 : decode cL_law 225 = .ok (.iconst 2, 1) := by decide +kernel
theorem dL_law_226 : decode cL_law 226 = .ok (.iadd, 1) := by decide +kernel
theorem dL_law_227 : decode cL_law 227 = .ok (.iaload, 1) := by decide +kernel
theorem dL_law_228 : decode cL_law 228 = .ok (.invokevirtual 28, 3) := by decide +kernel
theorem dL_law_231 : decode cL_law 231 = .ok (.aload_n 2, 1) := by decide +kernel
theorem dL_law_232 : decode cL_law 232 = .ok (.aload_n 0, 1) := by decide +kernel
theorem dL_law_233 : decode cL_law 233 = .ok (.iload_n 3, 1) := by decide +kernel
theorem dL_law_234 : decode cL_law 234 = .ok (.iconst 1, 1) := by decide +kernel
theorem dL_law_235 : decode cL_law 235 = .ok (.iadd, 1) := by decide +kernel
theorem dL_law_236 : decode cL_law 236 = .ok (.iaload, 1) := by decide +kernel
theorem dL_law_237 : decode cL_law 237 = .ok (.aload_n 0, 1) := by decide +kernel
theorem dL_law_238 : decode cL_law 238 = .ok (.iload_n 3, 1) := by decide +kernel
theorem dL_law_239 : decode cL_law 239 = .ok (.iconst 2, 1) := by decide +kernel
theorem dL_law_240 : decode cL_law 240 = .ok (.iadd, 1) := by decide +kernel
theorem dL_law_241 : decode cL_law 241 = .ok (.iaload, 1) := by decide +kernel
theorem dL_law_242 : decode cL_law 242 = .ok (.invokevirtual 31, 3) := by decide +kernel
theorem dL_law_245 : decode cL_law 245 = .ok (.if_icmp .eq 469, 3) := by decide +kernel
theorem dL_law_248 : decode cL_law 248 = .ok (.iconst 0, 1) := by decide +kernel
theorem dL_law_249 : decode cL_law 249 = .ok (.ireturn, 1) := by decide +kernel
theorem dL_law_250 : decode cL_law 250 = .ok (.aload_n 1, 1) := by decide +kernel
theorem dL_law_251 : decode cL_law 251 = .ok (.aload_n 0, 1) := by decide +kernel
theorem dL_law_252 : decode cL_law 252 = .ok (.iload_n 3, 1) := by decide +kernel
theorem dL_law_253 : decode cL_law 253 = .ok (.iconst 1, 1) := by decide +kernel
theorem dL_law_254 : decode cL_law 254 = .ok (.iadd, 1) := by decide +kernel
theorem dL_law_255 : decode cL_law 255 = .ok (.iaload, 1) := by decide +kernel
theorem dL_law_256 : decode cL_law 256 = .ok (.invokevirtual 32, 3) := by decide +kernel
theorem dL_law_259 : decode cL_law 259 = .ok (.aload_n 2, 1) := by decide +kernel
theorem dL_law_260 : decode cL_law 260 = .ok (.aload_n 0, 1) := by decide +kernel
theorem dL_law_261 : decode cL_law 261 = .ok (.iload_n 3, 1) := by decide +kernel
theorem dL_law_262 : decode cL_law 262 = .ok (.iconst 1, 1) := by decide +kernel
theorem dL_law_263 : decode cL_law 263 = .ok (.iadd, 1) := by decide +kernel
theorem dL_law_264 : decode cL_law 264 = .ok (.iaload, 1) := by decide +kernel
theorem dL_law_265 : decode cL_law 265 = .ok (.invokevirtual 35, 3) := by decide +kernel
theorem dL_law_268 : decode cL_law 268 = .ok (.if_icmp .eq 446, 3) := by decide +kernel
theorem dL_law_271 : decode cL_law 271 = .ok (.iconst 0, 1) := by decide +kernel
theorem dL_law_272 : decode cL_law 272 = .ok (.ireturn, 1) := by decide +kernel
theorem dL_law_273 : decode cL_law 273 = .ok (.aload_n 1, 1) := by decide +kernel
theorem dL_law_274 : decode cL_law 274 = .ok (.invokevirtual 36, 3) := by decide +kernel
theorem dL_law_277 : decode cL_law 277 = .ok (.aload_n 2, 1) := by decide +kernel
theorem dL_law_278 : decode cL_law 278 = .ok (.invokevirtual 39, 3) := by decide +kernel
theorem dL_law_281 : decode cL_law 281 = .ok (.if_icmp .eq 433, 3) := by decide +kernel
theorem dL_law_284 : decode cL_law 284 = .ok (.iconst 0, 1) := by decide +kernel
theorem dL_law_285 : decode cL_law 285 = .ok (.ireturn, 1) := by decide +kernel
theorem dL_law_286 : decode cL_law 286 = .ok (.aload_n 1, 1) := by decide +kernel
theorem dL_law_287 : decode cL_law 287 = .ok (.aload_n 0, 1) := by decide +kernel
theorem dL_law_288 : decode cL_law 288 = .ok (.iload_n 3, 1) := by decide +kernel
theorem dL_law_289 : decode cL_law 289 = .ok (.iconst 1, 1) := by decide +kernel
theorem dL_law_290 : decode cL_law 290 = .ok (.iadd, 1) := by decide +kernel
theorem dL_law_291 : decode cL_law 291 = .ok (.iaload, 1) := by decide +kernel
theorem dL_law_292 : decode cL_law 292 = .ok (.invokevirtual 40, 3) := by decide +kernel
theorem dL_law_295 : decode cL_law 295 = .ok (.aload_n 2, 1) := by decide +kernel
theorem dL_law_296 : decode cL_law 296 = .ok (.aload_n 0, 1) := by decide +kernel
theorem dL_law_297 : decode cL_law 297 = .ok (.iload_n 3, 1) := by decide +kernel
theorem dL_law_298 : decode cL_law 298 = .ok (.iconst 1, 1) := by decide +kernel
theorem dL_law_299 : decode cL_law 299 = .ok (.iadd, 1) := by decide +kernel
theorem dL_law_300 : decode cL_law 300 = .ok (.iaload, 1) := by decide +kernel
theorem dL_law_301 : decode cL_law 301 = .ok (.invokevirtual 43, 3) := by decide +kernel
theorem dL_law_304 : decode cL_law 304 = .ok (.if_icmp .eq 410, 3) := by decide +kernel
theorem dL_law_307 : decode cL_law 307 = .ok (.iconst 0, 1) := by decide +kernel
theorem dL_law_308 : decode cL_law 308 = .ok (.ireturn, 1) := by decide +kernel
theorem dL_law_309 : decode cL_law 309 = .ok (.aload_n 1, 1) := by decide +kernel
theorem dL_law_310 : decode cL_law 310 = .ok (.aload_n 0, 1) := by decide +kernel
theorem dL_law_311 : decode cL_law 311 = .ok (.iload_n 3, 1) := by decide +kernel
theorem dL_law_312 : decode cL_law 312 = .ok (.iconst 1, 1) := by decide +kernel
theorem dL_law_313 : decode cL_law 313 = .ok (.iadd, 1) := by decide +kernel
theorem dL_law_314 : decode cL_law 314 = .ok (.iaload, 1) := by decide +kernel
theorem dL_law_315 : decode cL_law 315 = .ok (.aload_n 0, 1) := by decide +kernel
theorem dL_law_316 : decode cL_law 316 = .ok (.iload_n 3, 1) := by decide +kernel
theorem dL_law_317 : decode cL_law 317 = .ok (.iconst 2, 1) := by decide +kernel
theorem dL_law_318 : decode cL_law 318 = .ok (.iadd, 1) := by decide +kernel
theorem dL_law_319 : decode cL_law 319 = .ok (.iaload, 1) := by decide +kernel
theorem dL_law_320 : decode cL_law 320 = .ok (.invokevirtual 44, 3) := by decide +kernel
theorem dL_law_323 : decode cL_law 323 = .ok (.aload_n 2, 1) := by decide +kernel
theorem dL_law_324 : decode cL_law 324 = .ok (.aload_n 0, 1) := by decide +kernel
theorem dL_law_325 : decode cL_law 325 = .ok (.iload_n 3, 1) := by decide +kernel
theorem dL_law_326 : decode cL_law 326 = .ok (.iconst 1, 1) := by decide +kernel
theorem dL_law_327 : decode cL_law 327 = .ok (.iadd, 1) := by decide +kernel
theorem dL_law_328 : decode cL_law 328 = .ok (.iaload, 1) := by decide +kernel
theorem dL_law_329 : decode cL_law 329 = .ok (.aload_n 0, 1) := by decide +kernel
theorem dL_law_330 : decode cL_law 330 = .ok (.iload_n 3, 1) := by decide +kernel
theorem dL_law_331 : decode cL_law 331 = .ok (.iconst 2, 1) := by decide +kernel
theorem dL_law_332 : decode cL_law 332 = .ok (.iadd, 1) := by decide +kernel
theorem dL_law_333 : decode cL_law 333 = .ok (.iaload, 1) := by decide +kernel
theorem dL_law_334 : decode cL_law 334 = .ok (.invokevirtual 48, 3) := by decide +kernel
theorem dL_law_337 : decode cL_law 337 = .ok (.lcmp, 1) := by decide +kernel
theorem dL_law_338 : decode cL_law 338 = .ok (.ifCond .eq 376, 3) := by decide +kernel
theorem dL_law_341 : decode cL_law 341 = .ok (.iconst 0, 1) := by decide +kernel
theorem dL_law_342 : decode cL_law 342 = .ok (.ireturn, 1) := by decide +kernel
theorem dL_law_343 : decode cL_law 343 = .ok (.aload_n 1, 1) := by decide +kernel
theorem dL_law_344 : decode cL_law 344 = .ok (.aload_n 0, 1) := by decide +kernel
theorem dL_law_345 : decode cL_law 345 = .ok (.iload_n 3, 1) := by decide +kernel
theorem dL_law_346 : decode cL_law 346 = .ok (.iconst 1, 1) := by decide +kernel
theorem dL_law_347 : decode cL_law 347 = .ok (.iadd, 1) := by decide +kernel
theorem dL_law_348 : decode cL_law 348 = .ok (.iaload, 1) := by decide +kernel
theorem dL_law_349 : decode cL_law 349 = .ok (.aload_n 0, 1) := by decide +kernel
theorem dL_law_350 : decode cL_law 350 = .ok (.iload_n 3, 1) := by decide +kernel
theorem dL_law_351 : decode cL_law 351 = .ok (.iconst 2, 1) := by decide +kernel
theorem dL_law_352 : decode cL_law 352 = .ok (.iadd, 1) := by decide +kernel
theorem dL_law_353 : decode cL_law 353 = .ok (.iaload, 1) := by decide +kernel
theorem dL_law_354 : decode cL_law 354 = .ok (.invokevirtual 49, 3) := by decide +kernel
theorem dL_law_357 : decode cL_law 357 = .ok (.aload_n 2, 1) := by decide +kernel
theorem dL_law_358 : decode cL_law 358 = .ok (.aload_n 0, 1) := by decide +kernel
theorem dL_law_359 : decode cL_law 359 = .ok (.iload_n 3, 1) := by decide +kernel
theorem dL_law_360 : decode cL_law 360 = .ok (.iconst 1, 1) := by decide +kernel
theorem dL_law_361 : decode cL_law 361 = .ok (.iadd, 1) := by decide +kernel
theorem dL_law_362 : decode cL_law 362 = .ok (.iaload, 1) := by decide +kernel
theorem dL_law_363 : decode cL_law 363 = .ok (.aload_n 0, 1) := by decide +kernel
theorem dL_law_364 : decode cL_law 364 = .ok (.iload_n 3, 1) := by decide +kernel
theorem dL_law_365 : decode cL_law 365 = .ok (.iconst 2, 1) := by decide +kernel
theorem dL_law_366 : decode cL_law 366 = .ok (.iadd, 1) := by decide +kernel
theorem dL_law_367 : decode cL_law 367 = .ok (.iaload, 1) := by decide +kernel
theorem dL_law_368 : decode cL_law 368 = .ok (.invokevirtual 52, 3) := by decide +kernel
theorem dL_law_371 : decode cL_law 371 = .ok (.if_icmp .eq 343, 3) := by decide +kernel
theorem dL_law_374 : decode cL_law 374 = .ok (.iconst 0, 1) := by decide +kernel
theorem dL_law_375 : decode cL_law 375 = .ok (.ireturn, 1) := by decide +kernel
theorem dL_law_376 : decode cL_law 376 = .ok (.aload_n 1, 1) := by decide +kernel
theorem dL_law_377 : decode cL_law 377 = .ok (.aload_n 0, 1) := by decide +kernel
theorem dL_law_378 : decode cL_law 378 = .ok (.iload_n 3, 1) := by decide +kernel
theorem dL_law_379 : decode cL_law 379 = .ok (.iconst 1, 1) := by decide +kernel
theorem dL_law_380 : decode cL_law 380 = .ok (.iadd, 1) := by decide +kernel
theorem dL_law_381 : decode cL_law 381 = .ok (.iaload, 1) := by decide +kernel
theorem dL_law_382 : decode cL_law 382 = .ok (.aload_n 0, 1) := by decide +kernel
theorem dL_law_383 : decode cL_law 383 = .ok (.iload_n 3, 1) := by decide +kernel
theorem dL_law_384 : decode cL_law 384 = .ok (.iconst 2, 1) := by decide +kernel
theorem dL_law_385 : decode cL_law 385 = .ok (.iadd, 1) := by decide +kernel
theorem dL_law_386 : decode cL_law 386 = .ok (.iaload, 1) := by decide +kernel
theorem dL_law_387 : decode cL_law 387 = .ok (.invokevirtual 53, 3) := by decide +kernel
theorem dL_law_390 : decode cL_law 390 = .ok (.aload_n 2, 1) := by decide +kernel
theorem dL_law_391 : decode cL_law 391 = .ok (.aload_n 0, 1) := by decide +kernel
theorem dL_law_392 : decode cL_law 392 = .ok (.iload_n 3, 1) := by decide +kernel
theorem dL_law_393 : decode cL_law 393 = .ok (.iconst 1, 1) := by decide +kernel
theorem dL_law_394 : decode cL_law 394 = .ok (.iadd, 1) := by decide +kernel
theorem dL_law_395 : decode cL_law 395 = .ok (.iaload, 1) := by decide +kernel
theorem dL_law_396 : decode cL_law 396 = .ok (.aload_n 0, 1) := by decide +kernel
theorem dL_law_397 : decode cL_law 397 = .ok (.iload_n 3, 1) := by decide +kernel
theorem dL_law_398 : decode cL_law 398 = .ok (.iconst 2, 1) := by decide +kernel
theorem dL_law_399 : decode cL_law 399 = .ok (.iadd, 1) := by decide +kernel
theorem dL_law_400 : decode cL_law 400 = .ok (.iaload, 1) := by decide +kernel
theorem dL_law_401 : decode cL_law 401 = .ok (.invokevirtual 56, 3) := by decide +kernel
theorem dL_law_404 : decode cL_law 404 = .ok (.if_icmp .eq 310, 3) := by decide +kernel
theorem dL_law_407 : decode cL_law 407 = .ok (.iconst 0, 1) := by decide +kernel
theorem dL_law_408 : decode cL_law 408 = .ok (.ireturn, 1) := by decide +kernel
theorem dL_law_409 : decode cL_law 409 = .ok (.aload_n 1, 1) := by decide +kernel
theorem dL_law_410 : decode cL_law 410 = .ok (.invokevirtual 57, 3) := by decide +kernel
theorem dL_law_413 : decode cL_law 413 = .ok (.aload_n 2, 1) := by decide +kernel
theorem dL_law_414 : decode cL_law 414 = .ok (.invokevirtual 60, 3) := by decide +kernel
theorem dL_law_417 : decode cL_law 417 = .ok (.if_icmp .eq 297, 3) := by decide +kernel
theorem dL_law_420 : decode cL_law 420 = .ok (.iconst 0, 1) := by decide +kernel
theorem dL_law_421 : decode cL_law 421 = .ok (.ireturn, 1) := by decide +kernel
theorem dL_law_422 : decode cL_law 422 = .ok (.aload_n 1, 1) := by decide +kernel
theorem dL_law_423 : decode cL_law 423 = .ok (.aload_n 0, 1) := by decide +kernel
theorem dL_law_424 : decode cL_law 424 = .ok (.iload_n 3, 1) := by decide +kernel
theorem dL_law_425 : decode cL_law 425 = .ok (.iconst 1, 1) := by decide +kernel
theorem dL_law_426 : decode cL_law 426 = .ok (.iadd, 1) := by decide +kernel
theorem dL_law_427 : decode cL_law 427 = .ok (.iaload, 1) := by decide +kernel
theorem dL_law_428 : decode cL_law 428 = .ok (.invokevirtual 61, 3) := by decide +kernel
theorem dL_law_431 : decode cL_law 431 = .ok (.aload_n 2, 1) := by decide +kernel
theorem dL_law_432 : decode cL_law 432 = .ok (.aload_n 0, 1) := by decide +kernel
theorem dL_law_433 : decode cL_law 433 = .ok (.iload_n 3, 1) := by decide +kernel
theorem dL_law_434 : decode cL_law 434 = .ok (.iconst 1, 1) := by decide +kernel
theorem dL_law_435 : decode cL_law 435 = .ok (.iadd, 1) := by decide +kernel
theorem dL_law_436 : decode cL_law 436 = .ok (.iaload, 1) := by decide +kernel
theorem dL_law_437 : decode cL_law 437 = .ok (.invokevirtual 64, 3) := by decide +kernel
theorem dL_law_440 : decode cL_law 440 = .ok (.if_icmp .eq 274, 3) := by decide +kernel
theorem dL_law_443 : decode cL_law 443 = .ok (.iconst 0, 1) := by decide +kernel
theorem dL_law_444 : decode cL_law 444 = .ok (.ireturn, 1) := by decide +kernel
theorem dL_law_445 : decode cL_law 445 = .ok (.aload_n 1, 1) := by decide +kernel
theorem dL_law_446 : decode cL_law 446 = .ok (.aload_n 0, 1) := by decide +kernel
theorem dL_law_447 : decode cL_law 447 = .ok (.iload_n 3, 1) := by decide +kernel
theorem dL_law_448 : decode cL_law 448 = .ok (.iconst 1, 1) := by decide +kernel
theorem dL_law_449 : decode cL_law 449 = .ok (.iadd, 1) := by decide +kernel
theorem dL_law_450 : decode cL_law 450 = .ok (.iaload, 1) := by decide +kernel
theorem dL_law_451 : decode cL_law 451 = .ok (.invokevirtual 65, 3) := by decide +kernel
theorem dL_law_454 : decode cL_law 454 = .ok (.aload_n 2, 1) := by decide +kernel
theorem dL_law_455 : decode cL_law 455 = .ok (.aload_n 0, 1) := by decide +kernel
theorem dL_law_456 : decode cL_law 456 = .ok (.iload_n 3, 1) := by decide +kernel
theorem dL_law_457 : decode cL_law 457 = .ok (.iconst 1, 1) := by decide +kernel
theorem dL_law_458 : decode cL_law 458 = .ok (.iadd, 1) := by decide +kernel
theorem dL_law_459 : decode cL_law 459 = .ok (.iaload, 1) := by decide +kernel
theorem dL_law_460 : decode cL_law 460 = .ok (.invokevirtual 68, 3) := by decide +kernel
theorem dL_law_463 : decode cL_law 463 = .ok (.if_icmp .eq 251, 3) := by decide +kernel
theorem dL_law_466 : decode cL_law 466 = .ok (.iconst 0, 1) := by decide +kernel
theorem dL_law_467 : decode cL_law 467 = .ok (.ireturn, 1) := by decide +kernel
theorem dL_law_468 : decode cL_law 468 = .ok (.aload_n 1, 1) := by decide +kernel
theorem dL_law_469 : decode cL_law 469 = .ok (.invokevirtual 69, 3) := by decide +kernel
theorem dL_law_472 : decode cL_law 472 = .ok (.aload_n 2, 1) := by decide +kernel
theorem dL_law_473 : decode cL_law 473 = .ok (.invokevirtual 72, 3) := by decide +kernel
theorem dL_law_476 : decode cL_law 476 = .ok (.if_icmp .eq 238, 3) := by decide +kernel
theorem dL_law_479 : decode cL_law 479 = .ok (.iconst 0, 1) := by decide +kernel
theorem dL_law_480 : decode cL_law 480 = .ok (.ireturn, 1) := by decide +kernel
theorem dL_law_481 : decode cL_law 481 = .ok (.aload_n 1, 1) := by decide +kernel
theorem dL_law_482 : decode cL_law 482 = .ok (.invokevirtual 73, 3) := by decide +kernel
theorem dL_law_485 : decode cL_law 485 = .ok (.aload_n 2, 1) := by decide +kernel
theorem dL_law_486 : decode cL_law 486 = .ok (.invokevirtual 76, 3) := by decide +kernel
theorem dL_law_489 : decode cL_law 489 = .ok (.if_icmp .eq 225, 3) := by decide +kernel
theorem dL_law_492 : decode cL_law 492 = .ok (.iconst 0, 1) := by decide +kernel
theorem dL_law_493 : decode cL_law 493 = .ok (.ireturn, 1) := by decide +kernel
theorem dL_law_494 : decode cL_law 494 = .ok (.aload_n 1, 1) := by decide +kernel
theorem dL_law_495 : decode cL_law 495 = .ok (.aload_n 0, 1) := by decide +kernel
theorem dL_law_496 : decode cL_law 496 = .ok (.iload_n 3, 1) := by decide +kernel
theorem dL_law_497 : decode cL_law 497 = .ok (.iconst 1, 1) := by decide +kernel
theorem dL_law_498 : decode cL_law 498 = .ok (.iadd, 1) := by decide +kernel
theorem dL_law_499 : decode cL_law 499 = .ok (.iaload, 1) := by decide +kernel
theorem dL_law_500 : decode cL_law 500 = .ok (.invokevirtual 77, 3) := by decide +kernel
theorem dL_law_503 : decode cL_law 503 = .ok (.aload_n 2, 1) := by decide +kernel
theorem dL_law_504 : decode cL_law 504 = .ok (.aload_n 0, 1) := by decide +kernel
theorem dL_law_505 : decode cL_law 505 = .ok (.iload_n 3, 1) := by decide +kernel
theorem dL_law_506 : decode cL_law 506 = .ok (.iconst 1, 1) := by decide +kernel
theorem dL_law_507 : decode cL_law 507 = .ok (.iadd, 1) := by decide +kernel
theorem dL_law_508 : decode cL_law 508 = .ok (.iaload, 1) := by decide +kernel
theorem dL_law_509 : decode cL_law 509 = .ok (.invokevirtual 80, 3) := by decide +kernel
theorem dL_law_512 : decode cL_law 512 = .ok (.if_icmp .eq 202, 3) := by decide +kernel
theorem dL_law_515 : decode cL_law 515 = .ok (.iconst 0, 1) := by decide +kernel
theorem dL_law_516 : decode cL_law 516 = .ok (.ireturn, 1) := by decide +kernel
theorem dL_law_517 : decode cL_law 517 = .ok (.aload_n 1, 1) := by decide +kernel
theorem dL_law_518 : decode cL_law 518 = .ok (.aload_n 0, 1) := by decide +kernel
theorem dL_law_519 : decode cL_law 519 = .ok (.iload_n 3, 1) := by decide +kernel
theorem dL_law_520 : decode cL_law 520 = .ok (.iconst 1, 1) := by decide +kernel
theorem dL_law_521 : decode cL_law 521 = .ok (.iadd, 1) := by decide +kernel
theorem dL_law_522 : decode cL_law 522 = .ok (.iaload, 1) := by decide +kernel
theorem dL_law_523 : decode cL_law 523 = .ok (.invokevirtual 81, 3) := by decide +kernel
theorem dL_law_526 : decode cL_law 526 = .ok (.aload_n 2, 1) := by decide +kernel
theorem dL_law_527 : decode cL_law 527 = .ok (.aload_n 0, 1) := by decide +kernel
theorem dL_law_528 : decode cL_law 528 = .ok (.iload_n 3, 1) := by decide +kernel
theorem dL_law_529 : decode cL_law 529 = .ok (.iconst 1, 1) := by decide +kernel
theorem dL_law_530 : decode cL_law 530 = .ok (.iadd, 1) := by decide +kernel
theorem dL_law_531 : decode cL_law 531 = .ok (.iaload, 1) := by decide +kernel
theorem dL_law_532 : decode cL_law 532 = .ok (.invokevirtual 84, 3) := by decide +kernel
theorem dL_law_535 : decode cL_law 535 = .ok (.if_icmp .eq 179, 3) := by decide +kernel
theorem dL_law_538 : decode cL_law 538 = .ok (.iconst 0, 1) := by decide +kernel
theorem dL_law_539 : decode cL_law 539 = .ok (.ireturn, 1) := by decide +kernel
theorem dL_law_540 : decode cL_law 540 = .ok (.aload_n 1, 1) := by decide +kernel
theorem dL_law_541 : decode cL_law 541 = .ok (.aload_n 0, 1) := by decide +kernel
theorem dL_law_542 : decode cL_law 542 = .ok (.iload_n 3, 1) := by decide +kernel
theorem dL_law_543 : decode cL_law 543 = .ok (.iconst 1, 1) := by decide +kernel
theorem dL_law_544 : decode cL_law 544 = .ok (.iadd, 1) := by decide +kernel
theorem dL_law_545 : decode cL_law 545 = .ok (.iaload, 1) := by decide +kernel
theorem dL_law_546 : decode cL_law 546 = .ok (.aload_n 0, 1) := by decide +kernel
theorem dL_law_547 : decode cL_law 547 = .ok (.iload_n 3, 1) := by decide +kernel
theorem dL_law_548 : decode cL_law 548 = .ok (.iconst 2, 1) := by decide +kernel
theorem dL_law_549 : decode cL_law 549 = .ok (.iadd, 1) := by decide +kernel
theorem dL_law_550 : decode cL_law 550 = .ok (.iaload, 1) := by decide +kernel
theorem dL_law_551 : decode cL_law 551 = .ok (.aload_n 0, 1) := by decide +kernel
theorem dL_law_552 : decode cL_law 552 = .ok (.iload_n 3, 1) := by decide +kernel
theorem dL_law_553 : decode cL_law 553 = .ok (.iconst 3, 1) := by decide +kernel
theorem dL_law_554 : decode cL_law 554 = .ok (.iadd, 1) := by decide +kernel
theorem dL_law_555 : decode cL_law 555 = .ok (.iaload, 1) := by decide +kernel
theorem dL_law_556 : decode cL_law 556 = .ok (.invokevirtual 85, 3) := by decide +kernel
theorem dL_law_559 : decode cL_law 559 = .ok (.aload_n 2, 1) := by decide +kernel
theorem dL_law_560 : decode cL_law 560 = .ok (.aload_n 0, 1) := by decide +kernel
theorem dL_law_561 : decode cL_law 561 = .ok (.iload_n 3, 1) := by decide +kernel
theorem dL_law_562 : decode cL_law 562 = .ok (.iconst 1, 1) := by decide +kernel
theorem dL_law_563 : decode cL_law 563 = .ok (.iadd, 1) := by decide +kernel
theorem dL_law_564 : decode cL_law 564 = .ok (.iaload, 1) := by decide +kernel
theorem dL_law_565 : decode cL_law 565 = .ok (.aload_n 0, 1) := by decide +kernel
theorem dL_law_566 : decode cL_law 566 = .ok (.iload_n 3, 1) := by decide +kernel
theorem dL_law_567 : decode cL_law 567 = .ok (.iconst 2, 1) := by decide +kernel
theorem dL_law_568 : decode cL_law 568 = .ok (.iadd, 1) := by decide +kernel
theorem dL_law_569 : decode cL_law 569 = .ok (.iaload, 1) := by decide +kernel
theorem dL_law_570 : decode cL_law 570 = .ok (.aload_n 0, 1) := by decide +kernel
theorem dL_law_571 : decode cL_law 571 = .ok (.iload_n 3, 1) := by decide +kernel
theorem dL_law_572 : decode cL_law 572 = .ok (.iconst 3, 1) := by decide +kernel
theorem dL_law_573 : decode cL_law 573 = .ok (.iadd, 1) := by decide +kernel
theorem dL_law_574 : decode cL_law 574 = .ok (.iaload, 1) := by decide +kernel
theorem dL_law_575 : decode cL_law 575 = .ok (.invokevirtual 89, 3) := by decide +kernel
theorem dL_law_578 : decode cL_law 578 = .ok (.if_icmp .eq 136, 3) := by decide +kernel
theorem dL_law_581 : decode cL_law 581 = .ok (.iconst 0, 1) := by decide +kernel
theorem dL_law_582 : decode cL_law 582 = .ok (.ireturn, 1) := by decide +kernel
theorem dL_law_583 : decode cL_law 583 = .ok (.aload_n 1, 1) := by decide +kernel
theorem dL_law_584 : decode cL_law 584 = .ok (.aload_n 0, 1) := by decide +kernel
theorem dL_law_585 : decode cL_law 585 = .ok (.iload_n 3, 1) := by decide +kernel
theorem dL_law_586 : decode cL_law 586 = .ok (.iconst 1, 1) := by decide +kernel
theorem dL_law_587 : decode cL_law 587 = .ok (.iadd, 1) := by decide +kernel
theorem dL_law_588 : decode cL_law 588 = .ok (.iaload, 1) := by decide +kernel
theorem dL_law_589 : decode cL_law 589 = .ok (.invokevirtual 90, 3) := by decide +kernel
theorem dL_law_592 : decode cL_law 592 = .ok (.aload_n 2, 1) := by decide +kernel
theorem dL_law_593 : decode cL_law 593 = .ok (.aload_n 0, 1) := by decide +kernel
theorem dL_law_594 : decode cL_law 594 = .ok (.iload_n 3, 1) := by decide +kernel
theorem dL_law_595 : decode cL_law 595 = .ok (.iconst 1, 1) := by decide +kernel
theorem dL_law_596 : decode cL_law 596 = .ok (.iadd, 1) := by decide +kernel
theorem dL_law_597 : decode cL_law 597 = .ok (.iaload, 1) := by decide +kernel
theorem dL_law_598 : decode cL_law 598 = .ok (.invokevirtual 93, 3) := by decide +kernel
theorem dL_law_601 : decode cL_law 601 = .ok (.if_icmp .eq 113, 3) := by decide +kernel
theorem dL_law_604 : decode cL_law 604 = .ok (.iconst 0, 1) := by decide +kernel
theorem dL_law_605 : decode cL_law 605 = .ok (.ireturn, 1) := by decide +kernel
theorem dL_law_606 : decode cL_law 606 = .ok (.aload_n 1, 1) := by decide +kernel
theorem dL_law_607 : decode cL_law 607 = .ok (.invokevirtual 94, 3) := by decide +kernel
theorem dL_law_610 : decode cL_law 610 = .ok (.aload_n 2, 1) := by decide +kernel
theorem dL_law_611 : decode cL_law 611 = .ok (.invokevirtual 97, 3) := by decide +kernel
theorem dL_law_614 : decode cL_law 614 = .ok (.if_icmp .eq 100, 3) := by decide +kernel
theorem dL_law_617 : decode cL_law 617 = .ok (.iconst 0, 1) := by decide +kernel
theorem dL_law_618 : decode cL_law 618 = .ok (.ireturn, 1) := by decide +kernel
theorem dL_law_619 : decode cL_law 619 = .ok (.aload_n 1, 1) := by decide +kernel
theorem dL_law_620 : decode cL_law 620 = .ok (.aload_n 0, 1) := by decide +kernel
theorem dL_law_621 : decode cL_law 621 = .ok (.iload_n 3, 1) := by decide +kernel
theorem dL_law_622 : decode cL_law 622 = .ok (.iconst 1, 1) := by decide +kernel
theorem dL_law_623 : decode cL_law 623 = .ok (.iadd, 1) := by decide +kernel
theorem dL_law_624 : decode cL_law 624 = .ok (.iaload, 1) := by decide +kernel
theorem dL_law_625 : decode cL_law 625 = .ok (.aload_n 0, 1) := by decide +kernel
theorem dL_law_626 : decode cL_law 626 = .ok (.iload_n 3, 1) := by decide +kernel
theorem dL_law_627 : decode cL_law 627 = .ok (.iconst 2, 1) := by decide +kernel
theorem dL_law_628 : decode cL_law 628 = .ok (.iadd, 1) := by decide +kernel
theorem dL_law_629 : decode cL_law 629 = .ok (.iaload, 1) := by decide +kernel
theorem dL_law_630 : decode cL_law 630 = .ok (.invokevirtual 98, 3) := by decide +kernel
theorem dL_law_633 : decode cL_law 633 = .ok (.aload_n 2, 1) := by decide +kernel
theorem dL_law_634 : decode cL_law 634 = .ok (.aload_n 0, 1) := by decide +kernel
theorem dL_law_635 : decode cL_law 635 = .ok (.iload_n 3, 1) := by decide +kernel
theorem dL_law_636 : decode cL_law 636 = .ok (.iconst 1, 1) := by decide +kernel
theorem dL_law_637 : decode cL_law 637 = .ok (.iadd, 1) := by decide +kernel
theorem dL_law_638 : decode cL_law 638 = .ok (.iaload, 1) := by decide +kernel
theorem dL_law_639 : decode cL_law 639 = .ok (.aload_n 0, 1) := by decide +kernel
theorem dL_law_640 : decode cL_law 640 = .ok (.iload_n 3, 1) := by decide +kernel
theorem dL_law_641 : decode cL_law 641 = .ok (.iconst 2, 1) := by decide +kernel
theorem dL_law_642 : decode cL_law 642 = .ok (.iadd, 1) := by decide +kernel
theorem dL_law_643 : decode cL_law 643 = .ok (.iaload, 1) := by decide +kernel
theorem dL_law_644 : decode cL_law 644 = .ok (.invokevirtual 101, 3) := by decide +kernel
theorem dL_law_647 : decode cL_law 647 = .ok (.if_icmp .eq 67, 3) := by decide +kernel
theorem dL_law_650 : decode cL_law 650 = .ok (.iconst 0, 1) := by decide +kernel
theorem dL_law_651 : decode cL_law 651 = .ok (.ireturn, 1) := by decide +kernel
theorem dL_law_652 : decode cL_law 652 = .ok (.aload_n 1, 1) := by decide +kernel
theorem dL_law_653 : decode cL_law 653 = .ok (.invokevirtual 102, 3) := by decide +kernel
theorem dL_law_656 : decode cL_law 656 = .ok (.aload_n 2, 1) := by decide +kernel
theorem dL_law_657 : decode cL_law 657 = .ok (.invokevirtual 105, 3) := by decide +kernel
theorem dL_law_660 : decode cL_law 660 = .ok (.if_icmp .eq 54, 3) := by decide +kernel
theorem dL_law_663 : decode cL_law 663 = .ok (.iconst 0, 1) := by decide +kernel
theorem dL_law_664 : decode cL_law 664 = .ok (.ireturn, 1) := by decide +kernel
theorem dL_law_665 : decode cL_law 665 = .ok (.aload_n 1, 1) := by decide +kernel
theorem dL_law_666 : decode cL_law 666 = .ok (.invokevirtual 106, 3) := by decide +kernel
theorem dL_law_669 : decode cL_law 669 = .ok (.aload_n 2, 1) := by decide +kernel
theorem dL_law_670 : decode cL_law 670 = .ok (.invokevirtual 109, 3) := by decide +kernel
theorem dL_law_673 : decode cL_law 673 = .ok (.if_icmp .eq 41, 3) := by decide +kernel
theorem dL_law_676 : decode cL_law 676 = .ok (.iconst 0, 1) := by decide +kernel
theorem dL_law_677 : decode cL_law 677 = .ok (.ireturn, 1) := by decide +kernel
theorem dL_law_678 : decode cL_law 678 = .ok (.aload_n 1, 1) := by decide +kernel
theorem dL_law_679 : decode cL_law 679 = .ok (.invokevirtual 110, 3) := by decide +kernel
theorem dL_law_682 : decode cL_law 682 = .ok (.aload_n 2, 1) := by decide +kernel
theorem dL_law_683 : decode cL_law 683 = .ok (.invokevirtual 113, 3) := by decide +kernel
theorem dL_law_686 : decode cL_law 686 = .ok (.if_icmp .eq 28, 3) := by decide +kernel
theorem dL_law_689 : decode cL_law 689 = .ok (.iconst 0, 1) := by decide +kernel
theorem dL_law_690 : decode cL_law 690 = .ok (.ireturn, 1) := by decide +kernel
theorem dL_law_691 : decode cL_law 691 = .ok (.aload_n 1, 1) := by decide +kernel
theorem dL_law_692 : decode cL_law 692 = .ok (.aload_n 0, 1) := by decide +kernel
theorem dL_law_693 : decode cL_law 693 = .ok (.iload_n 3, 1) := by decide +kernel
theorem dL_law_694 : decode cL_law 694 = .ok (.iconst 1, 1) := by decide +kernel
theorem dL_law_695 : decode cL_law 695 = .ok (.iadd, 1) := by decide +kernel
theorem dL_law_696 : decode cL_law 696 = .ok (.iaload, 1) := by decide +kernel
theorem dL_law_697 : decode cL_law 697 = .ok (.invokevirtual 114, 3) := by decide +kernel
theorem dL_law_700 : decode cL_law 700 = .ok (.aload_n 2, 1) := by decide +kernel
theorem dL_law_701 : decode cL_law 701 = .ok (.aload_n 0, 1) := by decide +kernel
theorem dL_law_702 : decode cL_law 702 = .ok (.iload_n 3, 1) := by decide +kernel
theorem dL_law_703 : decode cL_law 703 = .ok (.iconst 1, 1) := by decide +kernel
theorem dL_law_704 : decode cL_law 704 = .ok (.iadd, 1) := by decide +kernel
theorem dL_law_705 : decode cL_law 705 = .ok (.iaload, 1) := by decide +kernel
theorem dL_law_706 : decode cL_law 706 = .ok (.invokevirtual 117, 3) := by decide +kernel
theorem dL_law_709 : decode cL_law 709 = .ok (.if_icmp .eq 5, 3) := by decide +kernel
theorem dL_law_712 : decode cL_law 712 = .ok (.iconst 0, 1) := by decide +kernel
theorem dL_law_713 : decode cL_law 713 = .ok (.ireturn, 1) := by decide +kernel
theorem dL_law_714 : decode cL_law 714 = .ok (.iinc 3 4, 3) := by decide +kernel
theorem dL_law_717 : decode cL_law 717 = .ok (.goto (-699), 3) := by decide +kernel
theorem dL_law_720 : decode cL_law 720 = .ok (.iconst 1, 1) := by decide +kernel
theorem dL_law_721 : decode cL_law 721 = .ok (.ireturn, 1) := by decide +kernel
