/-! decode rows of the class -/
theorem dX0_init_0 : decode cX0_init 0 = .ok (.aload_n 0, 1) := by decide +kernel
theorem dX0_init_1 : decode cX0_init 1 = .ok (.invokespecial 3, 3) := by decide +kernel
theorem dX0_init_4 : decode cX0_init 4 = .ok (.aload_n 0, 1) := by decide +kernel
theorem dX0_init_5 : decode cX0_init 5 = .ok (.bipush 80, 2) := by decide +kernel
theorem dX0_init_7 : decode cX0_init 7 = .ok (.newarray .int, 2) := by decide +kernel
theorem dX0_init_9 : decode cX0_init 9 = .ok (.putfield 9, 3) := by decide +kernel
theorem dX0_init_12 : decode cX0_init 12 = .ok (.return_, 1) := by decide +kernel
theorem dX0_append_0 : decode cX0_append 0 = .ok (.aload_n 0, 1) := by decide +kernel
theorem dX0_append_1 : decode cX0_append 1 = .ok (.getfield 15, 3) := by decide +kernel
theorem dX0_append_4 : decode cX0_append 4 = .ok (.bipush 80, 2) := by decide +kernel
theorem dX0_append_6 : decode cX0_append 6 = .ok (.if_icmp .ge 23, 3) := by decide +kernel
theorem dX0_append_9 : decode cX0_append 9 = .ok (.aload_n 0, 1) := by decide +kernel
theorem dX0_append_10 : decode cX0_append 10 = .ok (.getfield 9, 3) := by decide +kernel
theorem dX0_append_13 : decode cX0_append 13 = .ok (.aload_n 0, 1) := by decide +kernel
theorem dX0_append_14 : decode cX0_append 14 = .ok (.getfield 15, 3) := by decide +kernel
theorem dX0_append_17 : decode cX0_append 17 = .ok (.iload_n 1, 1) := by decide +kernel
theorem dX0_append_18 : decode cX0_append 18 = .ok (.iastore, 1) := by decide +kernel
theorem dX0_append_19 : decode cX0_append 19 = .ok (.aload_n 0, 1) := by decide +kernel
theorem dX0_append_20 : decode cX0_append 20 = .ok (.dup, 1) := by decide +kernel
theorem dX0_append_21 : decode cX0_append 21 = .ok (.getfield 15, 3) := by decide +kernel
theorem dX0_append_24 : decode cX0_append 24 = .ok (.iconst 1, 1) := by decide +kernel
theorem dX0_append_25 : decode cX0_append 25 = .ok (.iadd, 1) := by decide +kernel
theorem dX0_append_26 : decode cX0_append 26 = .ok (.putfield 15, 3) := by decide +kernel
theorem dX0_append_29 : decode cX0_append 29 = .ok (.aload_n 0, 1) := by decide +kernel
theorem dX0_append_30 : decode cX0_append 30 = .ok (.getfield 15, 3) := by decide +kernel
theorem dX0_append_33 : decode cX0_append 33 = .ok (.ireturn, 1) := by decide +kernel
theorem dX0_readInto_0 : decode cX0_readInto 0 = .ok (.aload_n 0, 1) := by decide +kernel
theorem dX0_readInto_1 : decode cX0_readInto 1 = .ok (.invokevirtual 19, 3) := by decide +kernel
theorem dX0_readInto_4 : decode cX0_readInto 4 = .ok (.istore_n 2, 1) := by decide +kernel
theorem dX0_readInto_5 : decode cX0_readInto 5 = .ok (.iload_n 2, 1) := by decide +kernel
theorem dX0_readInto_6 : decode cX0_readInto 6 = .ok (.bipush (-9), 2) := by decide +kernel
theorem dX0_readInto_8 : decode cX0_readInto 8 = .ok (.if_icmp .eq 9, 3) := by decide +kernel
theorem dX0_readInto_11 : decode cX0_readInto 11 = .ok (.sipush (-1000), 3) := by decide +kernel
theorem dX0_readInto_14 : decode cX0_readInto 14 = .ok (.iload_n 2, 1) := by decide +kernel
theorem dX0_readInto_15 : decode cX0_readInto 15 = .ok (.isub, 1) := by decide +kernel
theorem dX0_readInto_16 : decode cX0_readInto 16 = .ok (.ireturn, 1) := by decide +kernel
theorem dX0_readInto_17 : decode cX0_readInto 17 = .ok (.iconst 0, 1) := by decide +kernel
theorem dX0_readInto_18 : decode cX0_readInto 18 = .ok (.istore_n 3, 1) := by decide +kernel
theorem dX0_readInto_19 : decode cX0_readInto 19 = .ok (.iconst 0, 1) := by decide +kernel
theorem dX0_readInto_20 : decode cX0_readInto 20 = .ok (.istore 4, 2) := by decide +kernel
theorem dX0_readInto_22 : decode cX0_readInto 22 = .ok (.iload 4, 2) := by decide +kernel
theorem dX0_readInto_24 : decode cX0_readInto 24 = .ok (.aload_n 0, 1) := by decide +kernel
theorem dX0_readInto_25 : decode cX0_readInto 25 = .ok (.getfield 15, 3) := by decide +kernel
theorem dX0_readInto_28 : decode cX0_readInto 28 = .ok (.if_icmp .ge 45, 3) := by decide +kernel
theorem dX0_readInto_31 : decode cX0_readInto 31 = .ok (.aload_n 0, 1) := by decide +kernel
theorem dX0_readInto_32 : decode cX0_readInto 32 = .ok (.iload 4, 2) := by decide +kernel
theorem dX0_readInto_34 : decode cX0_readInto 34 = .ok (.invokevirtual 23, 3) := by decide +kernel
theorem dX0_readInto_37 : decode cX0_readInto 37 = .ok (.istore 5, 2) := by decide +kernel
theorem dX0_readInto_39 : decode cX0_readInto 39 = .ok (.aload_n 0, 1) := by decide +kernel
theorem dX0_readInto_40 : decode cX0_readInto 40 = .ok (.aload_n 1, 1) := by decide +kernel
theorem dX0_readInto_41 : decode cX0_readInto 41 = .ok (.iload 4, 2) := by decide +kernel
theorem dX0_readInto_43 : decode cX0_readInto 43 = .ok (.iload 5, 2) := by decide +kernel
theorem dX0_readInto_45 : decode cX0_readInto 45 = .ok (.invokevirtual 27, 3) := by decide +kernel
theorem dX0_readInto_48 : decode cX0_readInto 48 = .ok (.ifCond .ne 10, 3) := by decide +kernel
theorem dX0_readInto_51 : decode cX0_readInto 51 = .ok (.sipush (-2000), 3) := by decide +kernel
theorem dX0_readInto_54 : decode cX0_readInto 54 = .ok (.iload 4, 2) := by decide +kernel
theorem dX0_readInto_56 : decode cX0_readInto 56 = .ok (.isub, 1) := by decide +kernel
theorem dX0_readInto_57 : decode cX0_readInto 57 = .ok (.ireturn, 1) := by decide +kernel
theorem dX0_readInto_58 : decode cX0_readInto 58 = .ok (.iinc 3 1, 3) := by decide +kernel
theorem dX0_readInto_61 : decode cX0_readInto 61 = .ok (.iload 4, 2) := by decide +kernel
theorem dX0_readInto_63 : decode cX0_readInto 63 = .ok (.iload 5, 2) := by decide +kernel
theorem dX0_readInto_65 : decode cX0_readInto 65 = .ok (.iconst 2, 1) := by decide +kernel
theorem dX0_readInto_66 : decode cX0_readInto 66 = .ok (.iadd, 1) := by decide +kernel
theorem dX0_readInto_67 : decode cX0_readInto 67 = .ok (.iadd, 1) := by decide +kernel
theorem dX0_readInto_68 : decode cX0_readInto 68 = .ok (.istore 4, 2) := by decide +kernel
theorem dX0_readInto_70 : decode cX0_readInto 70 = .ok (.goto (-48), 3) := by decide +kernel
theorem dX0_readInto_73 : decode cX0_readInto 73 = .ok (.iload_n 3, 1) := by decide +kernel
theorem dX0_readInto_74 : decode cX0_readInto 74 = .ok (.ireturn, 1) := by decide +kernel
theorem dX0_firstUnfit_0 : decode cX0_firstUnfit 0 = .ok (.aload_n 0, 1) := by decide +kernel
theorem dX0_firstUnfit_1 : decode cX0_firstUnfit 1 = .ok (.getfield 15, 3) := by decide +kernel
theorem dX0_firstUnfit_4 : decode cX0_firstUnfit 4 = .ok (.ifCond .ne 5, 3) := by decide +kernel
theorem dX0_firstUnfit_7 : decode cX0_firstUnfit 7 = .ok (.iconst 0, 1) := by decide +kernel
theorem dX0_firstUnfit_8 : decode cX0_firstUnfit 8 = .ok (.ireturn, 1) := by decide +kernel
theorem dX0_firstUnfit_9 : decode cX0_firstUnfit 9 = .ok (.iconst 0, 1) := by decide +kernel
theorem dX0_firstUnfit_10 : decode cX0_firstUnfit 10 = .ok (.istore_n 1, 1) := by decide +kernel
theorem dX0_firstUnfit_11 : decode cX0_firstUnfit 11 = .ok (.iload_n 1, 1) := by decide +kernel
theorem dX0_firstUnfit_12 : decode cX0_firstUnfit 12 = .ok (.aload_n 0, 1) := by decide +kernel
theorem dX0_firstUnfit_13 : decode cX0_firstUnfit 13 = .ok (.getfield 15, 3) := by decide +kernel
theorem dX0_firstUnfit_16 : decode cX0_firstUnfit 16 = .ok (.if_icmp .ge 54, 3) := by decide +kernel
theorem dX0_firstUnfit_19 : decode cX0_firstUnfit 19 = .ok (.aload_n 0, 1) := by decide +kernel
theorem dX0_firstUnfit_20 : decode cX0_firstUnfit 20 = .ok (.getfield 9, 3) := by decide +kernel
theorem dX0_firstUnfit_23 : decode cX0_firstUnfit 23 = .ok (.iload_n 1, 1) := by decide +kernel
theorem dX0_firstUnfit_24 : decode cX0_firstUnfit 24 = .ok (.iaload, 1) := by decide +kernel
theorem dX0_firstUnfit_25 : decode cX0_firstUnfit 25 = .ok (.invokestatic 31, 3) := by decide +kernel
theorem dX0_firstUnfit_28 : decode cX0_firstUnfit 28 = .ok (.istore_n 2, 1) := by decide +kernel
theorem dX0_firstUnfit_29 : decode cX0_firstUnfit 29 = .ok (.iload_n 2, 1) := by decide +kernel
theorem dX0_firstUnfit_30 : decode cX0_firstUnfit 30 = .ok (.ifCond .ne 5, 3) := by decide +kernel
theorem dX0_firstUnfit_33 : decode cX0_firstUnfit 33 = .ok (.iload_n 1, 1) := by decide +kernel
theorem dX0_firstUnfit_34 : decode cX0_firstUnfit 34 = .ok (.ireturn, 1) := by decide +kernel
theorem dX0_firstUnfit_35 : decode cX0_firstUnfit 35 = .ok (.aload_n 0, 1) := by decide +kernel
theorem dX0_firstUnfit_36 : decode cX0_firstUnfit 36 = .ok (.iload_n 1, 1) := by decide +kernel
theorem dX0_firstUnfit_37 : decode cX0_firstUnfit 37 = .ok (.invokevirtual 23, 3) := by decide +kernel
theorem dX0_firstUnfit_40 : decode cX0_firstUnfit 40 = .ok (.istore_n 3, 1) := by decide +kernel
theorem dX0_firstUnfit_41 : decode cX0_firstUnfit 41 = .ok (.iload_n 1, 1) := by decide +kernel
theorem dX0_firstUnfit_42 : decode cX0_firstUnfit 42 = .ok (.iload_n 3, 1) := by decide +kernel
theorem dX0_firstUnfit_43 : decode cX0_firstUnfit 43 = .ok (.iconst 1, 1) := by decide +kernel
theorem dX0_firstUnfit_44 : decode cX0_firstUnfit 44 = .ok (.iadd, 1) := by decide +kernel
theorem dX0_firstUnfit_45 : decode cX0_firstUnfit 45 = .ok (.iadd, 1) := by decide +kernel
theorem dX0_firstUnfit_46 : decode cX0_firstUnfit 46 = .ok (.istore_n 1, 1) := by decide +kernel
theorem dX0_firstUnfit_47 : decode cX0_firstUnfit 47 = .ok (.iload_n 3, 1) := by decide +kernel
theorem dX0_firstUnfit_48 : decode cX0_firstUnfit 48 = .ok (.iload_n 2, 1) := by decide +kernel
theorem dX0_firstUnfit_49 : decode cX0_firstUnfit 49 = .ok (.if_icmp .lt 13, 3) := by decide +kernel
theorem dX0_firstUnfit_52 : decode cX0_firstUnfit 52 = .ok (.aload_n 0, 1) := by decide +kernel
theorem dX0_firstUnfit_53 : decode cX0_firstUnfit 53 = .ok (.iload_n 1, 1) := by decide +kernel
theorem dX0_firstUnfit_54 : decode cX0_firstUnfit 54 = .ok (.invokevirtual 34, 3) := by decide +kernel
theorem dX0_firstUnfit_57 : decode cX0_firstUnfit 57 = .ok (.bipush 59, 2) := by decide +kernel
theorem dX0_firstUnfit_59 : decode cX0_firstUnfit 59 = .ok (.if_icmp .eq 5, 3) := by decide +kernel
theorem dX0_firstUnfit_62 : decode cX0_firstUnfit 62 = .ok (.iload_n 1, 1) := by decide +kernel
theorem dX0_firstUnfit_63 : decode cX0_firstUnfit 63 = .ok (.ireturn, 1) := by decide +kernel
theorem dX0_firstUnfit_64 : decode cX0_firstUnfit 64 = .ok (.iinc 1 1, 3) := by decide +kernel
theorem dX0_firstUnfit_67 : decode cX0_firstUnfit 67 = .ok (.goto (-56), 3) := by decide +kernel
theorem dX0_firstUnfit_70 : decode cX0_firstUnfit 70 = .ok (.bipush (-9), 2) := by decide +kernel
theorem dX0_firstUnfit_72 : decode cX0_firstUnfit 72 = .ok (.ireturn, 1) := by decide +kernel
theorem dX0_applyStatement_0 : decode cX0_applyStatement 0 = .ok (.aload_n 0, 1) := by decide +kernel
theorem dX0_applyStatement_1 : decode cX0_applyStatement 1 = .ok (.iload_n 2, 1) := by decide +kernel
theorem dX0_applyStatement_2 : decode cX0_applyStatement 2 = .ok (.iconst 1, 1) := by decide +kernel
theorem dX0_applyStatement_3 : decode cX0_applyStatement 3 = .ok (.iadd, 1) := by decide +kernel
theorem dX0_applyStatement_4 : decode cX0_applyStatement 4 = .ok (.invokevirtual 37, 3) := by decide +kernel
theorem dX0_applyStatement_7 : decode cX0_applyStatement 7 = .ok (.istore 4, 2) := by decide +kernel
theorem dX0_applyStatement_9 : decode cX0_applyStatement 9 = .ok (.aload_n 0, 1) := by decide +kernel
theorem dX0_applyStatement_10 : decode cX0_applyStatement 10 = .ok (.iload_n 2, 1) := by decide +kernel
theorem dX0_applyStatement_11 : decode cX0_applyStatement 11 = .ok (.iconst 2, 1) := by decide +kernel
theorem dX0_applyStatement_12 : decode cX0_applyStatement 12 = .ok (.iadd, 1) := by decide +kernel
theorem dX0_applyStatement_13 : decode cX0_applyStatement 13 = .ok (.invokevirtual 37, 3) := by decide +kernel
theorem dX0_applyStatement_16 : decode cX0_applyStatement 16 = .ok (.istore 5, 2) := by decide +kernel
theorem dX0_applyStatement_18 : decode cX0_applyStatement 18 = .ok (.aload_n 0, 1) := by decide +kernel
theorem dX0_applyStatement_19 : decode cX0_applyStatement 19 = .ok (.iload_n 2, 1) := by decide +kernel
theorem dX0_applyStatement_20 : decode cX0_applyStatement 20 = .ok (.invokevirtual 34, 3) := by decide +kernel
theorem dX0_applyStatement_23 : decode cX0_applyStatement 23 = .ok (.lookupswitch 139 #[(101, 130), (104, 72), (110, 49), (114, 122), (116, 98)], 49) := by decide +kernel
theorem dX0_applyStatement_72 : decode cX0_applyStatement 72 = .ok (.aload_n 1, 1) := by decide +kernel
theorem dX0_applyStatement_73 : decode cX0_applyStatement 73 = .ok (.iload 4, 2) := by decide +kernel
theorem dX0_applyStatement_75 : decode cX0_applyStatement 75 = .ok (.iload 5, 2) := by decide +kernel
theorem dX0_applyStatement_77 : decode cX0_applyStatement 77 = .ok (.aload_n 0, 1) := by decide +kernel
theorem dX0_applyStatement_78 : decode cX0_applyStatement 78 = .ok (.iload_n 2, 1) := by decide +kernel
theorem dX0_applyStatement_79 : decode cX0_applyStatement 79 = .ok (.iconst 3, 1) := by decide +kernel
theorem dX0_applyStatement_80 : decode cX0_applyStatement 80 = .ok (.iadd, 1) := by decide +kernel
theorem dX0_applyStatement_81 : decode cX0_applyStatement 81 = .ok (.invokevirtual 37, 3) := by decide +kernel
theorem dX0_applyStatement_84 : decode cX0_applyStatement 84 = .ok (.aload_n 0, 1) := by decide +kernel
theorem dX0_applyStatement_85 : decode cX0_applyStatement 85 = .ok (.iload_n 2, 1) := by decide +kernel
theorem dX0_applyStatement_86 : decode cX0_applyStatement 86 = .ok (.iconst 4, 1) := by decide +kernel
theorem dX0_applyStatement_87 : decode cX0_applyStatement 87 = .ok (.iadd, 1) := by decide +kernel
theorem dX0_applyStatement_88 : decode cX0_applyStatement 88 = .ok (.invokevirtual 37, 3) := by decide +kernel
theorem dX0_applyStatement_91 : decode cX0_applyStatement 91 = .ok (.invokevirtual 40, 3) := by decide +kernel
theorem dX0_applyStatement_94 : decode cX0_applyStatement 94 = .ok (.ireturn, 1) := by decide +kernel
theorem dX0_applyStatement_95 : decode cX0_applyStatement 95 = .ok (.aload_n 1, 1) := by decide +kernel
theorem dX0_applyStatement_96 : decode cX0_applyStatement 96 = .ok (.iconst 0, 1) := by decide +kernel
theorem dX0_applyStatement_97 : decode cX0_applyStatement 97 = .ok (.iload 4, 2) := by decide +kernel
theorem dX0_applyStatement_99 : decode cX0_applyStatement 99 = .ok (.invokevirtual 46, 3) := by decide +kernel
theorem dX0_applyStatement_102 : decode cX0_applyStatement 102 = .ok (.ifCond .eq 17, 3) := by decide +kernel
theorem dX0_applyStatement_105 : decode cX0_applyStatement 105 = .ok (.aload_n 1, 1) := by decide +kernel
theorem dX0_applyStatement_106 : decode cX0_applyStatement 106 = .ok (.iconst 1, 1) := by decide +kernel
theorem dX0_applyStatement_107 : decode cX0_applyStatement 107 = .ok (.iload 5, 2) := by decide +kernel
theorem dX0_applyStatement_109 : decode cX0_applyStatement 109 = .ok (.invokevirtual 46, 3) := by decide +kernel
theorem dX0_applyStatement_112 : decode cX0_applyStatement 112 = .ok (.ifCond .eq 7, 3) := by decide +kernel
theorem dX0_applyStatement_115 : decode cX0_applyStatement 115 = .ok (.iconst 1, 1) := by decide +kernel
theorem dX0_applyStatement_116 : decode cX0_applyStatement 116 = .ok (.goto 4, 3) := by decide +kernel
theorem dX0_applyStatement_119 : decode cX0_applyStatement 119 = .ok (.iconst 0, 1) := by decide +kernel
theorem dX0_applyStatement_120 : decode cX0_applyStatement 120 = .ok (.ireturn, 1) := by decide +kernel
theorem dX0_applyStatement_121 : decode cX0_applyStatement 121 = .ok (.aload_n 1, 1) := by decide +kernel
theorem dX0_applyStatement_122 : decode cX0_applyStatement 122 = .ok (.iconst 2, 1) := by decide +kernel
theorem dX0_applyStatement_123 : decode cX0_applyStatement 123 = .ok (.iload_n 3, 1) := by decide +kernel
theorem dX0_applyStatement_124 : decode cX0_applyStatement 124 = .ok (.iconst 1, 1) := by decide +kernel
theorem dX0_applyStatement_125 : decode cX0_applyStatement 125 = .ok (.if_icmp .ne 8, 3) := by decide +kernel
theorem dX0_applyStatement_128 : decode cX0_applyStatement 128 = .ok (.iload 4, 2) := by decide +kernel
theorem dX0_applyStatement_130 : decode cX0_applyStatement 130 = .ok (.goto 11, 3) := by decide +kernel
theorem dX0_applyStatement_133 : decode cX0_applyStatement 133 = .ok (.iload 4, 2) := by decide +kernel
theorem dX0_applyStatement_135 : decode cX0_applyStatement 135 = .ok (.bipush 10, 2) := by decide +kernel
theorem dX0_applyStatement_137 : decode cX0_applyStatement 137 = .ok (.imul, 1) := by decide +kernel
theorem dX0_applyStatement_138 : decode cX0_applyStatement 138 = .ok (.iload 5, 2) := by decide +kernel
theorem dX0_applyStatement_140 : decode cX0_applyStatement 140 = .ok (.iadd, 1) := by decide +kernel
theorem dX0_applyStatement_141 : decode cX0_applyStatement 141 = .ok (.invokevirtual 46, 3) := by decide +kernel
theorem dX0_applyStatement_144 : decode cX0_applyStatement 144 = .ok (.ireturn, 1) := by decide +kernel
theorem dX0_applyStatement_145 : decode cX0_applyStatement 145 = .ok (.aload_n 1, 1) := by decide +kernel
theorem dX0_applyStatement_146 : decode cX0_applyStatement 146 = .ok (.iconst 3, 1) := by decide +kernel
theorem dX0_applyStatement_147 : decode cX0_applyStatement 147 = .ok (.iload 4, 2) := by decide +kernel
theorem dX0_applyStatement_149 : decode cX0_applyStatement 149 = .ok (.invokevirtual 46, 3) := by decide +kernel
theorem dX0_applyStatement_152 : decode cX0_applyStatement 152 = .ok (.ireturn, 1) := by decide +kernel
theorem dX0_applyStatement_153 : decode cX0_applyStatement 153 = .ok (.aload_n 1, 1) := by decide +kernel
theorem dX0_applyStatement_154 : decode cX0_applyStatement 154 = .ok (.iload 4, 2) := by decide +kernel
theorem dX0_applyStatement_156 : decode cX0_applyStatement 156 = .ok (.iload 5, 2) := by decide +kernel
theorem dX0_applyStatement_158 : decode cX0_applyStatement 158 = .ok (.invokevirtual 50, 3) := by decide +kernel
theorem dX0_applyStatement_161 : decode cX0_applyStatement 161 = .ok (.ireturn, 1) := by decide +kernel
theorem dX0_applyStatement_162 : decode cX0_applyStatement 162 = .ok (.iconst 0, 1) := by decide +kernel
theorem dX0_applyStatement_163 : decode cX0_applyStatement 163 = .ok (.ireturn, 1) := by decide +kernel
theorem dX0_leastDigits_0 : decode cX0_leastDigits 0 = .ok (.iload_n 0, 1) := by decide +kernel
theorem dX0_leastDigits_1 : decode cX0_leastDigits 1 = .ok (.lookupswitch 61 #[(101, 55), (104, 53), (110, 51), (114, 59), (116, 57)], 51) := by decide +kernel
theorem dX0_leastDigits_52 : decode cX0_leastDigits 52 = .ok (.iconst 4, 1) := by decide +kernel
theorem dX0_leastDigits_53 : decode cX0_leastDigits 53 = .ok (.ireturn, 1) := by decide +kernel
theorem dX0_leastDigits_54 : decode cX0_leastDigits 54 = .ok (.iconst 2, 1) := by decide +kernel
theorem dX0_leastDigits_55 : decode cX0_leastDigits 55 = .ok (.ireturn, 1) := by decide +kernel
theorem dX0_leastDigits_56 : decode cX0_leastDigits 56 = .ok (.iconst 2, 1) := by decide +kernel
theorem dX0_leastDigits_57 : decode cX0_leastDigits 57 = .ok (.ireturn, 1) := by decide +kernel
theorem dX0_leastDigits_58 : decode cX0_leastDigits 58 = .ok (.iconst 1, 1) := by decide +kernel
theorem dX0_leastDigits_59 : decode cX0_leastDigits 59 = .ok (.ireturn, 1) := by decide +kernel
theorem dX0_leastDigits_60 : decode cX0_leastDigits 60 = .ok (.iconst 1, 1) := by decide +kernel
theorem dX0_leastDigits_61 : decode cX0_leastDigits 61 = .ok (.ireturn, 1) := by decide +kernel
theorem dX0_leastDigits_62 : decode cX0_leastDigits 62 = .ok (.iconst 0, 1) := by decide +kernel
theorem dX0_leastDigits_63 : decode cX0_leastDigits 63 = .ok (.ireturn, 1) := by decide +kernel
theorem dX0_digitsBehind_0 : decode cX0_digitsBehind 0 = .ok (.aload_n 0, 1) := by decide +kernel
theorem dX0_digitsBehind_1 : decode cX0_digitsBehind 1 = .ok (.iload_n 1, 1) := by decide +kernel
theorem dX0_digitsBehind_2 : decode cX0_digitsBehind 2 = .ok (.invokevirtual 34, 3) := by decide +kernel
theorem dX0_digitsBehind_5 : decode cX0_digitsBehind 5 = .ok (.istore_n 2, 1) := by decide +kernel
theorem dX0_digitsBehind_6 : decode cX0_digitsBehind 6 = .ok (.iload_n 2, 1) := by decide +kernel
theorem dX0_digitsBehind_7 : decode cX0_digitsBehind 7 = .ok (.bipush 116, 2) := by decide +kernel
theorem dX0_digitsBehind_9 : decode cX0_digitsBehind 9 = .ok (.if_icmp .ne 7, 3) := by decide +kernel
theorem dX0_digitsBehind_12 : decode cX0_digitsBehind 12 = .ok (.iconst 2, 1) := by decide +kernel
theorem dX0_digitsBehind_13 : decode cX0_digitsBehind 13 = .ok (.goto 7, 3) := by decide +kernel
theorem dX0_digitsBehind_16 : decode cX0_digitsBehind 16 = .ok (.iload_n 2, 1) := by decide +kernel
theorem dX0_digitsBehind_17 : decode cX0_digitsBehind 17 = .ok (.invokestatic 31, 3) := by decide +kernel
theorem dX0_digitsBehind_20 : decode cX0_digitsBehind 20 = .ok (.istore_n 3, 1) := by decide +kernel
theorem dX0_digitsBehind_21 : decode cX0_digitsBehind 21 = .ok (.iconst 0, 1) := by decide +kernel
theorem dX0_digitsBehind_22 : decode cX0_digitsBehind 22 = .ok (.istore 4, 2) := by decide +kernel
theorem dX0_digitsBehind_24 : decode cX0_digitsBehind 24 = .ok (.iload 4, 2) := by decide +kernel
theorem dX0_digitsBehind_26 : decode cX0_digitsBehind 26 = .ok (.iload_n 3, 1) := by decide +kernel
theorem dX0_digitsBehind_27 : decode cX0_digitsBehind 27 = .ok (.if_icmp .ge 22, 3) := by decide +kernel
theorem dX0_digitsBehind_30 : decode cX0_digitsBehind 30 = .ok (.aload_n 0, 1) := by decide +kernel
theorem dX0_digitsBehind_31 : decode cX0_digitsBehind 31 = .ok (.iload_n 1, 1) := by decide +kernel
theorem dX0_digitsBehind_32 : decode cX0_digitsBehind 32 = .ok (.iconst 1, 1) := by decide +kernel
theorem dX0_digitsBehind_33 : decode cX0_digitsBehind 33 = .ok (.iadd, 1) := by decide +kernel
theorem dX0_digitsBehind_34 : decode cX0_digitsBehind 34 = .ok (.iload 4, 2) := by decide +kernel
theorem dX0_digitsBehind_36 : decode cX0_digitsBehind 36 = .ok (.iadd, 1) := by decide +kernel
theorem dX0_digitsBehind_37 : decode cX0_digitsBehind 37 = .ok (.invokevirtual 37, 3) := by decide +kernel
theorem dX0_digitsBehind_40 : decode cX0_digitsBehind 40 = .ok (.ifCond .lt 9, 3) := by decide +kernel
theorem dX0_digitsBehind_43 : decode cX0_digitsBehind 43 = .ok (.iinc 4 1, 3) := by decide +kernel
theorem dX0_digitsBehind_46 : decode cX0_digitsBehind 46 = .ok (.goto (-22), 3) := by decide +kernel
theorem dX0_digitsBehind_49 : decode cX0_digitsBehind 49 = .ok (.iload 4, 2) := by decide +kernel
theorem dX0_digitsBehind_51 : decode cX0_digitsBehind 51 = .ok (.ireturn, 1) := by decide +kernel
theorem dX0_digitAt_0 : decode cX0_digitAt 0 = .ok (.aload_n 0, 1) := by decide +kernel
theorem dX0_digitAt_1 : decode cX0_digitAt 1 = .ok (.iload_n 1, 1) := by decide +kernel
theorem dX0_digitAt_2 : decode cX0_digitAt 2 = .ok (.invokevirtual 34, 3) := by decide +kernel
theorem dX0_digitAt_5 : decode cX0_digitAt 5 = .ok (.istore_n 2, 1) := by decide +kernel
theorem dX0_digitAt_6 : decode cX0_digitAt 6 = .ok (.iload_n 2, 1) := by decide +kernel
theorem dX0_digitAt_7 : decode cX0_digitAt 7 = .ok (.bipush 48, 2) := by decide +kernel
theorem dX0_digitAt_9 : decode cX0_digitAt 9 = .ok (.if_icmp .lt 16, 3) := by decide +kernel
theorem dX0_digitAt_12 : decode cX0_digitAt 12 = .ok (.iload_n 2, 1) := by decide +kernel
theorem dX0_digitAt_13 : decode cX0_digitAt 13 = .ok (.bipush 57, 2) := by decide +kernel
theorem dX0_digitAt_15 : decode cX0_digitAt 15 = .ok (.if_icmp .gt 10, 3) := by decide +kernel
theorem dX0_digitAt_18 : decode cX0_digitAt 18 = .ok (.iload_n 2, 1) := by decide +kernel
theorem dX0_digitAt_19 : decode cX0_digitAt 19 = .ok (.bipush 48, 2) := by decide +kernel
theorem dX0_digitAt_21 : decode cX0_digitAt 21 = .ok (.isub, 1) := by decide +kernel
theorem dX0_digitAt_22 : decode cX0_digitAt 22 = .ok (.goto 5, 3) := by decide +kernel
theorem dX0_digitAt_25 : decode cX0_digitAt 25 = .ok (.bipush (-9), 2) := by decide +kernel
theorem dX0_digitAt_27 : decode cX0_digitAt 27 = .ok (.ireturn, 1) := by decide +kernel
theorem dX0_letterAt_0 : decode cX0_letterAt 0 = .ok (.iload_n 1, 1) := by decide +kernel
theorem dX0_letterAt_1 : decode cX0_letterAt 1 = .ok (.ifCond .lt 20, 3) := by decide +kernel
theorem dX0_letterAt_4 : decode cX0_letterAt 4 = .ok (.iload_n 1, 1) := by decide +kernel
theorem dX0_letterAt_5 : decode cX0_letterAt 5 = .ok (.aload_n 0, 1) := by decide +kernel
theorem dX0_letterAt_6 : decode cX0_letterAt 6 = .ok (.getfield 15, 3) := by decide +kernel
theorem dX0_letterAt_9 : decode cX0_letterAt 9 = .ok (.if_icmp .ge 12, 3) := by decide +kernel
theorem dX0_letterAt_12 : decode cX0_letterAt 12 = .ok (.aload_n 0, 1) := by decide +kernel
theorem dX0_letterAt_13 : decode cX0_letterAt 13 = .ok (.getfield 9, 3) := by decide +kernel
theorem dX0_letterAt_16 : decode cX0_letterAt 16 = .ok (.iload_n 1, 1) := by decide +kernel
theorem dX0_letterAt_17 : decode cX0_letterAt 17 = .ok (.iaload, 1) := by decide +kernel
theorem dX0_letterAt_18 : decode cX0_letterAt 18 = .ok (.goto 5, 3) := by decide +kernel
theorem dX0_letterAt_21 : decode cX0_letterAt 21 = .ok (.bipush (-9), 2) := by decide +kernel
theorem dX0_letterAt_23 : decode cX0_letterAt 23 = .ok (.ireturn, 1) := by decide +kernel
theorem dX1_init_0 : decode cX1_init 0 = .ok (.aload_n 0, 1) := by decide +kernel
theorem dX1_init_1 : decode cX1_init 1 = .ok (.invokespecial 3, 3) := by decide +kernel
theorem dX1_init_4 : decode cX1_init 4 = .ok (.aload_n 0, 1) := by decide +kernel
theorem dX1_init_5 : decode cX1_init 5 = .ok (.iconst 3, 1) := by decide +kernel
theorem dX1_init_6 : decode cX1_init 6 = .ok (.anewarray 9, 3) := by decide +kernel
theorem dX1_init_9 : decode cX1_init 9 = .ok (.dup, 1) := by decide +kernel
theorem dX1_init_10 : decode cX1_init 10 = .ok (.iconst 0, 1) := by decide +kernel
theorem dX1_init_11 : decode cX1_init 11 = .ok (.new 9, 3) := by decide +kernel
theorem dX1_init_14 : decode cX1_init 14 = .ok (.dup, 1) := by decide +kernel
theorem dX1_init_15 : decode cX1_init 15 = .ok (.invokespecial 11, 3) := by decide +kernel
theorem dX1_init_18 : decode cX1_init 18 = .ok (.aastore, 1) := by decide +kernel
theorem dX1_init_19 : decode cX1_init 19 = .ok (.dup, 1) := by decide +kernel
theorem dX1_init_20 : decode cX1_init 20 = .ok (.iconst 1, 1) := by decide +kernel
theorem dX1_init_21 : decode cX1_init 21 = .ok (.new 9, 3) := by decide +kernel
theorem dX1_init_24 : decode cX1_init 24 = .ok (.dup, 1) := by decide +kernel
theorem dX1_init_25 : decode cX1_init 25 = .ok (.invokespecial 11, 3) := by decide +kernel
theorem dX1_init_28 : decode cX1_init 28 = .ok (.aastore, 1) := by decide +kernel
theorem dX1_init_29 : decode cX1_init 29 = .ok (.dup, 1) := by decide +kernel
theorem dX1_init_30 : decode cX1_init 30 = .ok (.iconst 2, 1) := by decide +kernel
theorem dX1_init_31 : decode cX1_init 31 = .ok (.new 9, 3) := by decide +kernel
theorem dX1_init_34 : decode cX1_init 34 = .ok (.dup, 1) := by decide +kernel
theorem dX1_init_35 : decode cX1_init 35 = .ok (.invokespecial 11, 3) := by decide +kernel
theorem dX1_init_38 : decode cX1_init 38 = .ok (.aastore, 1) := by decide +kernel
theorem dX1_init_39 : decode cX1_init 39 = .ok (.putfield 12, 3) := by decide +kernel
theorem dX1_init_42 : decode cX1_init 42 = .ok (.aload_n 0, 1) := by decide +kernel
theorem dX1_init_43 : decode cX1_init 43 = .ok (.bipush 64, 2) := by decide +kernel
theorem dX1_init_45 : decode cX1_init 45 = .ok (.newarray .int, 2) := by decide +kernel
theorem dX1_init_47 : decode cX1_init 47 = .ok (.putfield 18, 3) := by decide +kernel
theorem dX1_init_50 : decode cX1_init 50 = .ok (.aload_n 0, 1) := by decide +kernel
theorem dX1_init_51 : decode cX1_init 51 = .ok (.bipush 6, 2) := by decide +kernel
theorem dX1_init_53 : decode cX1_init 53 = .ok (.newarray .int, 2) := by decide +kernel
theorem dX1_init_55 : decode cX1_init 55 = .ok (.putfield 22, 3) := by decide +kernel
theorem dX1_init_58 : decode cX1_init 58 = .ok (.aload_n 0, 1) := by decide +kernel
theorem dX1_init_59 : decode cX1_init 59 = .ok (.bipush 64, 2) := by decide +kernel
theorem dX1_init_61 : decode cX1_init 61 = .ok (.newarray .int, 2) := by decide +kernel
theorem dX1_init_63 : decode cX1_init 63 = .ok (.putfield 25, 3) := by decide +kernel
theorem dX1_init_66 : decode cX1_init 66 = .ok (.return_, 1) := by decide +kernel
theorem dX1_listAllowed_0 : decode cX1_listAllowed 0 = .ok (.iconst 1, 1) := by decide +kernel
theorem dX1_listAllowed_1 : decode cX1_listAllowed 1 = .ok (.aload_n 1, 1) := by decide +kernel
theorem dX1_listAllowed_2 : decode cX1_listAllowed 2 = .ok (.getfield 28, 3) := by decide +kernel
theorem dX1_listAllowed_5 : decode cX1_listAllowed 5 = .ok (.ishl, 1) := by decide +kernel
theorem dX1_listAllowed_6 : decode cX1_listAllowed 6 = .ok (.istore_n 2, 1) := by decide +kernel
theorem dX1_listAllowed_7 : decode cX1_listAllowed 7 = .ok (.aload_n 0, 1) := by decide +kernel
theorem dX1_listAllowed_8 : decode cX1_listAllowed 8 = .ok (.iconst 0, 1) := by decide +kernel
theorem dX1_listAllowed_9 : decode cX1_listAllowed 9 = .ok (.putfield 32, 3) := by decide +kernel
theorem dX1_listAllowed_12 : decode cX1_listAllowed 12 = .ok (.iconst 0, 1) := by decide +kernel
theorem dX1_listAllowed_13 : decode cX1_listAllowed 13 = .ok (.istore_n 3, 1) := by decide +kernel
theorem dX1_listAllowed_14 : decode cX1_listAllowed 14 = .ok (.iload_n 3, 1) := by decide +kernel
theorem dX1_listAllowed_15 : decode cX1_listAllowed 15 = .ok (.iload_n 2, 1) := by decide +kernel
theorem dX1_listAllowed_16 : decode cX1_listAllowed 16 = .ok (.if_icmp .ge 43, 3) := by decide +kernel
theorem dX1_listAllowed_19 : decode cX1_listAllowed 19 = .ok (.aload_n 1, 1) := by decide +kernel
theorem dX1_listAllowed_20 : decode cX1_listAllowed 20 = .ok (.iload_n 3, 1) := by decide +kernel
theorem dX1_listAllowed_21 : decode cX1_listAllowed 21 = .ok (.invokevirtual 35, 3) := by decide +kernel
theorem dX1_listAllowed_24 : decode cX1_listAllowed 24 = .ok (.aload_n 1, 1) := by decide +kernel
theorem dX1_listAllowed_25 : decode cX1_listAllowed 25 = .ok (.getfield 39, 3) := by decide +kernel
theorem dX1_listAllowed_28 : decode cX1_listAllowed 28 = .ok (.iconst 2, 1) := by decide +kernel
theorem dX1_listAllowed_29 : decode cX1_listAllowed 29 = .ok (.iaload, 1) := by decide +kernel
theorem dX1_listAllowed_30 : decode cX1_listAllowed 30 = .ok (.if_icmp .gt 23, 3) := by decide +kernel
theorem dX1_listAllowed_33 : decode cX1_listAllowed 33 = .ok (.aload_n 0, 1) := by decide +kernel
theorem dX1_listAllowed_34 : decode cX1_listAllowed 34 = .ok (.getfield 18, 3) := by decide +kernel
theorem dX1_listAllowed_37 : decode cX1_listAllowed 37 = .ok (.aload_n 0, 1) := by decide +kernel
theorem dX1_listAllowed_38 : decode cX1_listAllowed 38 = .ok (.getfield 32, 3) := by decide +kernel
theorem dX1_listAllowed_41 : decode cX1_listAllowed 41 = .ok (.iload_n 3, 1) := by decide +kernel
theorem dX1_listAllowed_42 : decode cX1_listAllowed 42 = .ok (.iastore, 1) := by decide +kernel
theorem dX1_listAllowed_43 : decode cX1_listAllowed 43 = .ok (.aload_n 0, 1) := by decide +kernel
theorem dX1_listAllowed_44 : decode cX1_listAllowed 44 = .ok (.dup, 1) := by decide +kernel
theorem dX1_listAllowed_45 : decode cX1_listAllowed 45 = .ok (.getfield 32, 3) := by decide +kernel
theorem dX1_listAllowed_48 : decode cX1_listAllowed 48 = .ok (.iconst 1, 1) := by decide +kernel
theorem dX1_listAllowed_49 : decode cX1_listAllowed 49 = .ok (.iadd, 1) := by decide +kernel
theorem dX1_listAllowed_50 : decode cX1_listAllowed 50 = .ok (.putfield 32, 3) := by decide +kernel
theorem dX1_listAllowed_53 : decode cX1_listAllowed 53 = .ok (.iinc 3 1, 3) := by decide +kernel
theorem dX1_listAllowed_56 : decode cX1_listAllowed 56 = .ok (.goto (-42), 3) := by decide +kernel
theorem dX1_listAllowed_59 : decode cX1_listAllowed 59 = .ok (.return_, 1) := by decide +kernel
theorem dX1_mostFound_0 : decode cX1_mostFound 0 = .ok (.aload_n 0, 1) := by decide +kernel
theorem dX1_mostFound_1 : decode cX1_mostFound 1 = .ok (.aload_n 1, 1) := by decide +kernel
theorem dX1_mostFound_2 : decode cX1_mostFound 2 = .ok (.invokevirtual 42, 3) := by decide +kernel
theorem dX1_mostFound_5 : decode cX1_mostFound 5 = .ok (.iconst 0, 1) := by decide +kernel
theorem dX1_mostFound_6 : decode cX1_mostFound 6 = .ok (.istore_n 3, 1) := by decide +kernel
theorem dX1_mostFound_7 : decode cX1_mostFound 7 = .ok (.iload_n 3, 1) := by decide +kernel
theorem dX1_mostFound_8 : decode cX1_mostFound 8 = .ok (.aload_n 0, 1) := by decide +kernel
theorem dX1_mostFound_9 : decode cX1_mostFound 9 = .ok (.getfield 12, 3) := by decide +kernel
theorem dX1_mostFound_12 : decode cX1_mostFound 12 = .ok (.arraylength, 1) := by decide +kernel
theorem dX1_mostFound_13 : decode cX1_mostFound 13 = .ok (.if_icmp .ge 19, 3) := by decide +kernel
theorem dX1_mostFound_16 : decode cX1_mostFound 16 = .ok (.aload_n 0, 1) := by decide +kernel
theorem dX1_mostFound_17 : decode cX1_mostFound 17 = .ok (.getfield 12, 3) := by decide +kernel
theorem dX1_mostFound_20 : decode cX1_mostFound 20 = .ok (.iload_n 3, 1) := by decide +kernel
theorem dX1_mostFound_21 : decode cX1_mostFound 21 = .ok (.aaload, 1) := by decide +kernel
theorem dX1_mostFound_22 : decode cX1_mostFound 22 = .ok (.aload_n 1, 1) := by decide +kernel
theorem dX1_mostFound_23 : decode cX1_mostFound 23 = .ok (.invokevirtual 46, 3) := by decide +kernel
theorem dX1_mostFound_26 : decode cX1_mostFound 26 = .ok (.iinc 3 1, 3) := by decide +kernel
theorem dX1_mostFound_29 : decode cX1_mostFound 29 = .ok (.goto (-22), 3) := by decide +kernel
theorem dX1_mostFound_32 : decode cX1_mostFound 32 = .ok (.aload_n 0, 1) := by decide +kernel
theorem dX1_mostFound_33 : decode cX1_mostFound 33 = .ok (.getfield 12, 3) := by decide +kernel
theorem dX1_mostFound_36 : decode cX1_mostFound 36 = .ok (.iconst 0, 1) := by decide +kernel
theorem dX1_mostFound_37 : decode cX1_mostFound 37 = .ok (.aaload, 1) := by decide +kernel
theorem dX1_mostFound_38 : decode cX1_mostFound 38 = .ok (.iconst 0, 1) := by decide +kernel
theorem dX1_mostFound_39 : decode cX1_mostFound 39 = .ok (.putfield 49, 3) := by decide +kernel
theorem dX1_mostFound_42 : decode cX1_mostFound 42 = .ok (.aload_n 0, 1) := by decide +kernel
theorem dX1_mostFound_43 : decode cX1_mostFound 43 = .ok (.iconst 0, 1) := by decide +kernel
theorem dX1_mostFound_44 : decode cX1_mostFound 44 = .ok (.iload_n 2, 1) := by decide +kernel
theorem dX1_mostFound_45 : decode cX1_mostFound 45 = .ok (.invokestatic 52, 3) := by decide +kernel
theorem dX1_mostFound_48 : decode cX1_mostFound 48 = .ok (.ireturn, 1) := by decide +kernel
theorem dX1_mostFrom_0 : decode cX1_mostFrom 0 = .ok (.iload_n 1, 1) := by decide +kernel
theorem dX1_mostFrom_1 : decode cX1_mostFrom 1 = .ok (.ifCond .lt 12, 3) := by decide +kernel
theorem dX1_mostFrom_4 : decode cX1_mostFrom 4 = .ok (.iload_n 1, 1) := by decide +kernel
theorem dX1_mostFrom_5 : decode cX1_mostFrom 5 = .ok (.aload_n 0, 1) := by decide +kernel
theorem dX1_mostFrom_6 : decode cX1_mostFrom 6 = .ok (.getfield 12, 3) := by decide +kernel
theorem dX1_mostFrom_9 : decode cX1_mostFrom 9 = .ok (.arraylength, 1) := by decide +kernel
theorem dX1_mostFrom_10 : decode cX1_mostFrom 10 = .ok (.if_icmp .lt 5, 3) := by decide +kernel
theorem dX1_mostFrom_13 : decode cX1_mostFrom 13 = .ok (.iconst 0, 1) := by decide +kernel
theorem dX1_mostFrom_14 : decode cX1_mostFrom 14 = .ok (.ireturn, 1) := by decide +kernel
theorem dX1_mostFrom_15 : decode cX1_mostFrom 15 = .ok (.iload_n 2, 1) := by decide +kernel
theorem dX1_mostFrom_16 : decode cX1_mostFrom 16 = .ok (.iconst 1, 1) := by decide +kernel
theorem dX1_mostFrom_17 : decode cX1_mostFrom 17 = .ok (.if_icmp .le 14, 3) := by decide +kernel
theorem dX1_mostFrom_20 : decode cX1_mostFrom 20 = .ok (.iload_n 1, 1) := by decide +kernel
theorem dX1_mostFrom_21 : decode cX1_mostFrom 21 = .ok (.iconst 1, 1) := by decide +kernel
theorem dX1_mostFrom_22 : decode cX1_mostFrom 22 = .ok (.iadd, 1) := by decide +kernel
theorem dX1_mostFrom_23 : decode cX1_mostFrom 23 = .ok (.aload_n 0, 1) := by decide +kernel
theorem dX1_mostFrom_24 : decode cX1_mostFrom 24 = .ok (.getfield 12, 3) := by decide +kernel
theorem dX1_mostFrom_27 : decode cX1_mostFrom 27 = .ok (.arraylength, 1) := by decide +kernel
theorem dX1_mostFrom_28 : decode cX1_mostFrom 28 = .ok (.if_icmp .ne 9, 3) := by decide +kernel
theorem dX1_mostFrom_31 : decode cX1_mostFrom 31 = .ok (.aload_n 0, 1) := by decide +kernel
theorem dX1_mostFrom_32 : decode cX1_mostFrom 32 = .ok (.iload_n 1, 1) := by decide +kernel
theorem dX1_mostFrom_33 : decode cX1_mostFrom 33 = .ok (.invokevirtual 56, 3) := by decide +kernel
theorem dX1_mostFrom_36 : decode cX1_mostFrom 36 = .ok (.ireturn, 1) := by decide +kernel
theorem dX1_mostFrom_37 : decode cX1_mostFrom 37 = .ok (.aload_n 0, 1) := by decide +kernel
theorem dX1_mostFrom_38 : decode cX1_mostFrom 38 = .ok (.getfield 12, 3) := by decide +kernel
theorem dX1_mostFrom_41 : decode cX1_mostFrom 41 = .ok (.iload_n 1, 1) := by decide +kernel
theorem dX1_mostFrom_42 : decode cX1_mostFrom 42 = .ok (.aaload, 1) := by decide +kernel
theorem dX1_mostFrom_43 : decode cX1_mostFrom 43 = .ok (.astore_n 3, 1) := by decide +kernel
theorem dX1_mostFrom_44 : decode cX1_mostFrom 44 = .ok (.aload_n 0, 1) := by decide +kernel
theorem dX1_mostFrom_45 : decode cX1_mostFrom 45 = .ok (.getfield 12, 3) := by decide +kernel
theorem dX1_mostFrom_48 : decode cX1_mostFrom 48 = .ok (.iload_n 1, 1) := by decide +kernel
theorem dX1_mostFrom_49 : decode cX1_mostFrom 49 = .ok (.iconst 1, 1) := by decide +kernel
theorem dX1_mostFrom_50 : decode cX1_mostFrom 50 = .ok (.iadd, 1) := by decide +kernel
theorem dX1_mostFrom_51 : decode cX1_mostFrom 51 = .ok (.aaload, 1) := by decide +kernel
theorem dX1_mostFrom_52 : decode cX1_mostFrom 52 = .ok (.astore 4, 2) := by decide +kernel
theorem dX1_mostFrom_54 : decode cX1_mostFrom 54 = .ok (.aload_n 3, 1) := by decide +kernel
theorem dX1_mostFrom_55 : decode cX1_mostFrom 55 = .ok (.invokevirtual 59, 3) := by decide +kernel
theorem dX1_mostFrom_58 : decode cX1_mostFrom 58 = .ok (.iload_n 2, 1) := by decide +kernel
theorem dX1_mostFrom_59 : decode cX1_mostFrom 59 = .ok (.iadd, 1) := by decide +kernel
theorem dX1_mostFrom_60 : decode cX1_mostFrom 60 = .ok (.iconst 1, 1) := by decide +kernel
theorem dX1_mostFrom_61 : decode cX1_mostFrom 61 = .ok (.isub, 1) := by decide +kernel
theorem dX1_mostFrom_62 : decode cX1_mostFrom 62 = .ok (.istore 5, 2) := by decide +kernel
theorem dX1_mostFrom_64 : decode cX1_mostFrom 64 = .ok (.iconst (-1), 1) := by decide +kernel
theorem dX1_mostFrom_65 : decode cX1_mostFrom 65 = .ok (.istore 6, 2) := by decide +kernel
theorem dX1_mostFrom_67 : decode cX1_mostFrom 67 = .ok (.iconst 0, 1) := by decide +kernel
theorem dX1_mostFrom_68 : decode cX1_mostFrom 68 = .ok (.istore 7, 2) := by decide +kernel
theorem dX1_mostFrom_70 : decode cX1_mostFrom 70 = .ok (.iload 7, 2) := by decide +kernel
theorem dX1_mostFrom_72 : decode cX1_mostFrom 72 = .ok (.aload_n 0, 1) := by decide +kernel
theorem dX1_mostFrom_73 : decode cX1_mostFrom 73 = .ok (.getfield 32, 3) := by decide +kernel
theorem dX1_mostFrom_76 : decode cX1_mostFrom 76 = .ok (.if_icmp .ge 89, 3) := by decide +kernel
theorem dX1_mostFrom_79 : decode cX1_mostFrom 79 = .ok (.iload 6, 2) := by decide +kernel
theorem dX1_mostFrom_81 : decode cX1_mostFrom 81 = .ok (.iload 5, 2) := by decide +kernel
theorem dX1_mostFrom_83 : decode cX1_mostFrom 83 = .ok (.if_icmp .ge 82, 3) := by decide +kernel
theorem dX1_mostFrom_86 : decode cX1_mostFrom 86 = .ok (.aload 4, 2) := by decide +kernel
theorem dX1_mostFrom_88 : decode cX1_mostFrom 88 = .ok (.aload_n 3, 1) := by decide +kernel
theorem dX1_mostFrom_89 : decode cX1_mostFrom 89 = .ok (.invokevirtual 63, 3) := by decide +kernel
theorem dX1_mostFrom_92 : decode cX1_mostFrom 92 = .ok (.aload 4, 2) := by decide +kernel
theorem dX1_mostFrom_94 : decode cX1_mostFrom 94 = .ok (.aload_n 0, 1) := by decide +kernel
theorem dX1_mostFrom_95 : decode cX1_mostFrom 95 = .ok (.getfield 18, 3) := by decide +kernel
theorem dX1_mostFrom_98 : decode cX1_mostFrom 98 = .ok (.iload 7, 2) := by decide +kernel
theorem dX1_mostFrom_100 : decode cX1_mostFrom 100 = .ok (.iaload, 1) := by decide +kernel
theorem dX1_mostFrom_101 : decode cX1_mostFrom 101 = .ok (.invokevirtual 66, 3) := by decide +kernel
theorem dX1_mostFrom_104 : decode cX1_mostFrom 104 = .ok (.istore 8, 2) := by decide +kernel
theorem dX1_mostFrom_106 : decode cX1_mostFrom 106 = .ok (.aload 4, 2) := by decide +kernel
theorem dX1_mostFrom_108 : decode cX1_mostFrom 108 = .ok (.aload 4, 2) := by decide +kernel
theorem dX1_mostFrom_110 : decode cX1_mostFrom 110 = .ok (.aload 4, 2) := by decide +kernel
theorem dX1_mostFrom_112 : decode cX1_mostFrom 112 = .ok (.invokevirtual 69, 3) := by decide +kernel
theorem dX1_mostFrom_115 : decode cX1_mostFrom 115 = .ok (.invokevirtual 72, 3) := by decide +kernel
theorem dX1_mostFrom_118 : decode cX1_mostFrom 118 = .ok (.invokevirtual 75, 3) := by decide +kernel
theorem dX1_mostFrom_121 : decode cX1_mostFrom 121 = .ok (.iload 8, 2) := by decide +kernel
theorem dX1_mostFrom_123 : decode cX1_mostFrom 123 = .ok (.aload_n 0, 1) := by decide +kernel
theorem dX1_mostFrom_124 : decode cX1_mostFrom 124 = .ok (.iload_n 1, 1) := by decide +kernel
theorem dX1_mostFrom_125 : decode cX1_mostFrom 125 = .ok (.iconst 1, 1) := by decide +kernel
theorem dX1_mostFrom_126 : decode cX1_mostFrom 126 = .ok (.iadd, 1) := by decide +kernel
theorem dX1_mostFrom_127 : decode cX1_mostFrom 127 = .ok (.iload_n 2, 1) := by decide +kernel
theorem dX1_mostFrom_128 : decode cX1_mostFrom 128 = .ok (.iconst 1, 1) := by decide +kernel
theorem dX1_mostFrom_129 : decode cX1_mostFrom 129 = .ok (.isub, 1) := by decide +kernel
theorem dX1_mostFrom_130 : decode cX1_mostFrom 130 = .ok (.invokestatic 52, 3) := by decide +kernel
theorem dX1_mostFrom_133 : decode cX1_mostFrom 133 = .ok (.iadd, 1) := by decide +kernel
theorem dX1_mostFrom_134 : decode cX1_mostFrom 134 = .ok (.istore 8, 2) := by decide +kernel
theorem dX1_mostFrom_136 : decode cX1_mostFrom 136 = .ok (.iload 8, 2) := by decide +kernel
theorem dX1_mostFrom_138 : decode cX1_mostFrom 138 = .ok (.iload 6, 2) := by decide +kernel
theorem dX1_mostFrom_140 : decode cX1_mostFrom 140 = .ok (.if_icmp .le 19, 3) := by decide +kernel
theorem dX1_mostFrom_143 : decode cX1_mostFrom 143 = .ok (.iload 8, 2) := by decide +kernel
theorem dX1_mostFrom_145 : decode cX1_mostFrom 145 = .ok (.istore 6, 2) := by decide +kernel
theorem dX1_mostFrom_147 : decode cX1_mostFrom 147 = .ok (.aload_n 0, 1) := by decide +kernel
theorem dX1_mostFrom_148 : decode cX1_mostFrom 148 = .ok (.iload_n 1, 1) := by decide +kernel
theorem dX1_mostFrom_149 : decode cX1_mostFrom 149 = .ok (.aload_n 0, 1) := by decide +kernel
theorem dX1_mostFrom_150 : decode cX1_mostFrom 150 = .ok (.getfield 18, 3) := by decide +kernel
theorem dX1_mostFrom_153 : decode cX1_mostFrom 153 = .ok (.iload 7, 2) := by decide +kernel
theorem dX1_mostFrom_155 : decode cX1_mostFrom 155 = .ok (.iaload, 1) := by decide +kernel
theorem dX1_mostFrom_156 : decode cX1_mostFrom 156 = .ok (.invokevirtual 79, 3) := by decide +kernel
theorem dX1_mostFrom_159 : decode cX1_mostFrom 159 = .ok (.iinc 7 1, 3) := by decide +kernel
theorem dX1_mostFrom_162 : decode cX1_mostFrom 162 = .ok (.goto (-92), 3) := by decide +kernel
theorem dX1_mostFrom_165 : decode cX1_mostFrom 165 = .ok (.iload 6, 2) := by decide +kernel
theorem dX1_mostFrom_167 : decode cX1_mostFrom 167 = .ok (.ireturn, 1) := by decide +kernel
theorem dX1_noteFirst_0 : decode cX1_noteFirst 0 = .ok (.iload_n 1, 1) := by decide +kernel
theorem dX1_noteFirst_1 : decode cX1_noteFirst 1 = .ok (.ifCond .ne 8, 3) := by decide +kernel
theorem dX1_noteFirst_4 : decode cX1_noteFirst 4 = .ok (.aload_n 0, 1) := by decide +kernel
theorem dX1_noteFirst_5 : decode cX1_noteFirst 5 = .ok (.iload_n 2, 1) := by decide +kernel
theorem dX1_noteFirst_6 : decode cX1_noteFirst 6 = .ok (.putfield 83, 3) := by decide +kernel
theorem dX1_noteFirst_9 : decode cX1_noteFirst 9 = .ok (.return_, 1) := by decide +kernel
theorem dX1_mostToday_0 : decode cX1_mostToday 0 = .ok (.aload_n 0, 1) := by decide +kernel
theorem dX1_mostToday_1 : decode cX1_mostToday 1 = .ok (.getfield 12, 3) := by decide +kernel
theorem dX1_mostToday_4 : decode cX1_mostToday 4 = .ok (.iload_n 1, 1) := by decide +kernel
theorem dX1_mostToday_5 : decode cX1_mostToday 5 = .ok (.aaload, 1) := by decide +kernel
theorem dX1_mostToday_6 : decode cX1_mostToday 6 = .ok (.astore_n 2, 1) := by decide +kernel
theorem dX1_mostToday_7 : decode cX1_mostToday 7 = .ok (.iconst 0, 1) := by decide +kernel
theorem dX1_mostToday_8 : decode cX1_mostToday 8 = .ok (.istore_n 3, 1) := by decide +kernel
theorem dX1_mostToday_9 : decode cX1_mostToday 9 = .ok (.iload_n 3, 1) := by decide +kernel
theorem dX1_mostToday_10 : decode cX1_mostToday 10 = .ok (.aload_n 2, 1) := by decide +kernel
theorem dX1_mostToday_11 : decode cX1_mostToday 11 = .ok (.getfield 28, 3) := by decide +kernel
theorem dX1_mostToday_14 : decode cX1_mostToday 14 = .ok (.if_icmp .ge 20, 3) := by decide +kernel
theorem dX1_mostToday_17 : decode cX1_mostToday 17 = .ok (.aload_n 0, 1) := by decide +kernel
theorem dX1_mostToday_18 : decode cX1_mostToday 18 = .ok (.getfield 22, 3) := by decide +kernel
theorem dX1_mostToday_21 : decode cX1_mostToday 21 = .ok (.iload_n 3, 1) := by decide +kernel
theorem dX1_mostToday_22 : decode cX1_mostToday 22 = .ok (.aload_n 2, 1) := by decide +kernel
theorem dX1_mostToday_23 : decode cX1_mostToday 23 = .ok (.iload_n 3, 1) := by decide +kernel
theorem dX1_mostToday_24 : decode cX1_mostToday 24 = .ok (.invokevirtual 86, 3) := by decide +kernel
theorem dX1_mostToday_27 : decode cX1_mostToday 27 = .ok (.iastore, 1) := by decide +kernel
theorem dX1_mostToday_28 : decode cX1_mostToday 28 = .ok (.iinc 3 1, 3) := by decide +kernel
theorem dX1_mostToday_31 : decode cX1_mostToday 31 = .ok (.goto (-22), 3) := by decide +kernel
theorem dX1_mostToday_34 : decode cX1_mostToday 34 = .ok (.iconst 0, 1) := by decide +kernel
theorem dX1_mostToday_35 : decode cX1_mostToday 35 = .ok (.istore_n 3, 1) := by decide +kernel
theorem dX1_mostToday_36 : decode cX1_mostToday 36 = .ok (.aload_n 0, 1) := by decide +kernel
theorem dX1_mostToday_37 : decode cX1_mostToday 37 = .ok (.iload_n 1, 1) := by decide +kernel
theorem dX1_mostToday_38 : decode cX1_mostToday 38 = .ok (.iconst 0, 1) := by decide +kernel
theorem dX1_mostToday_39 : decode cX1_mostToday 39 = .ok (.invokevirtual 79, 3) := by decide +kernel
theorem dX1_mostToday_42 : decode cX1_mostToday 42 = .ok (.iconst 1, 1) := by decide +kernel
theorem dX1_mostToday_43 : decode cX1_mostToday 43 = .ok (.istore 4, 2) := by decide +kernel
theorem dX1_mostToday_45 : decode cX1_mostToday 45 = .ok (.iload 4, 2) := by decide +kernel
theorem dX1_mostToday_47 : decode cX1_mostToday 47 = .ok (.aload_n 0, 1) := by decide +kernel
theorem dX1_mostToday_48 : decode cX1_mostToday 48 = .ok (.getfield 32, 3) := by decide +kernel
theorem dX1_mostToday_51 : decode cX1_mostToday 51 = .ok (.if_icmp .ge 74, 3) := by decide +kernel
theorem dX1_mostToday_54 : decode cX1_mostToday 54 = .ok (.aload_n 0, 1) := by decide +kernel
theorem dX1_mostToday_55 : decode cX1_mostToday 55 = .ok (.getfield 18, 3) := by decide +kernel
theorem dX1_mostToday_58 : decode cX1_mostToday 58 = .ok (.iload 4, 2) := by decide +kernel
theorem dX1_mostToday_60 : decode cX1_mostToday 60 = .ok (.iaload, 1) := by decide +kernel
theorem dX1_mostToday_61 : decode cX1_mostToday 61 = .ok (.istore 5, 2) := by decide +kernel
theorem dX1_mostToday_63 : decode cX1_mostToday 63 = .ok (.aload_n 0, 1) := by decide +kernel
theorem dX1_mostToday_64 : decode cX1_mostToday 64 = .ok (.getfield 25, 3) := by decide +kernel
theorem dX1_mostToday_67 : decode cX1_mostToday 67 = .ok (.iload 5, 2) := by decide +kernel
theorem dX1_mostToday_69 : decode cX1_mostToday 69 = .ok (.aload_n 0, 1) := by decide +kernel
theorem dX1_mostToday_70 : decode cX1_mostToday 70 = .ok (.getfield 25, 3) := by decide +kernel
theorem dX1_mostToday_73 : decode cX1_mostToday 73 = .ok (.iload 5, 2) := by decide +kernel
theorem dX1_mostToday_75 : decode cX1_mostToday 75 = .ok (.iload 5, 2) := by decide +kernel
theorem dX1_mostToday_77 : decode cX1_mostToday 77 = .ok (.iconst 1, 1) := by decide +kernel
theorem dX1_mostToday_78 : decode cX1_mostToday 78 = .ok (.isub, 1) := by decide +kernel
theorem dX1_mostToday_79 : decode cX1_mostToday 79 = .ok (.iand, 1) := by decide +kernel
theorem dX1_mostToday_80 : decode cX1_mostToday 80 = .ok (.iaload, 1) := by decide +kernel
theorem dX1_mostToday_81 : decode cX1_mostToday 81 = .ok (.aload_n 0, 1) := by decide +kernel
theorem dX1_mostToday_82 : decode cX1_mostToday 82 = .ok (.getfield 22, 3) := by decide +kernel
theorem dX1_mostToday_85 : decode cX1_mostToday 85 = .ok (.iload 5, 2) := by decide +kernel
theorem dX1_mostToday_87 : decode cX1_mostToday 87 = .ok (.invokestatic 89, 3) := by decide +kernel
theorem dX1_mostToday_90 : decode cX1_mostToday 90 = .ok (.iaload, 1) := by decide +kernel
theorem dX1_mostToday_91 : decode cX1_mostToday 91 = .ok (.iadd, 1) := by decide +kernel
theorem dX1_mostToday_92 : decode cX1_mostToday 92 = .ok (.iastore, 1) := by decide +kernel
theorem dX1_mostToday_93 : decode cX1_mostToday 93 = .ok (.aload_n 0, 1) := by decide +kernel
theorem dX1_mostToday_94 : decode cX1_mostToday 94 = .ok (.getfield 25, 3) := by decide +kernel
theorem dX1_mostToday_97 : decode cX1_mostToday 97 = .ok (.iload 5, 2) := by decide +kernel
theorem dX1_mostToday_99 : decode cX1_mostToday 99 = .ok (.iaload, 1) := by decide +kernel
theorem dX1_mostToday_100 : decode cX1_mostToday 100 = .ok (.iload_n 3, 1) := by decide +kernel
theorem dX1_mostToday_101 : decode cX1_mostToday 101 = .ok (.if_icmp .le 18, 3) := by decide +kernel
theorem dX1_mostToday_104 : decode cX1_mostToday 104 = .ok (.aload_n 0, 1) := by decide +kernel
theorem dX1_mostToday_105 : decode cX1_mostToday 105 = .ok (.getfield 25, 3) := by decide +kernel
theorem dX1_mostToday_108 : decode cX1_mostToday 108 = .ok (.iload 5, 2) := by decide +kernel
theorem dX1_mostToday_110 : decode cX1_mostToday 110 = .ok (.iaload, 1) := by decide +kernel
theorem dX1_mostToday_111 : decode cX1_mostToday 111 = .ok (.istore_n 3, 1) := by decide +kernel
theorem dX1_mostToday_112 : decode cX1_mostToday 112 = .ok (.aload_n 0, 1) := by decide +kernel
theorem dX1_mostToday_113 : decode cX1_mostToday 113 = .ok (.iload_n 1, 1) := by decide +kernel
theorem dX1_mostToday_114 : decode cX1_mostToday 114 = .ok (.iload 5, 2) := by decide +kernel
theorem dX1_mostToday_116 : decode cX1_mostToday 116 = .ok (.invokevirtual 79, 3) := by decide +kernel
theorem dX1_mostToday_119 : decode cX1_mostToday 119 = .ok (.iinc 4 1, 3) := by decide +kernel
theorem dX1_mostToday_122 : decode cX1_mostToday 122 = .ok (.goto (-77), 3) := by decide +kernel
theorem dX1_mostToday_125 : decode cX1_mostToday 125 = .ok (.iload_n 3, 1) := by decide +kernel
theorem dX1_mostToday_126 : decode cX1_mostToday 126 = .ok (.ireturn, 1) := by decide +kernel
theorem dX1_leastShutting_0 : decode cX1_leastShutting 0 = .ok (.aload_n 0, 1) := by decide +kernel
theorem dX1_leastShutting_1 : decode cX1_leastShutting 1 = .ok (.aload_n 1, 1) := by decide +kernel
theorem dX1_leastShutting_2 : decode cX1_leastShutting 2 = .ok (.invokevirtual 42, 3) := by decide +kernel
theorem dX1_leastShutting_5 : decode cX1_leastShutting 5 = .ok (.iconst 0, 1) := by decide +kernel
theorem dX1_leastShutting_6 : decode cX1_leastShutting 6 = .ok (.istore_n 2, 1) := by decide +kernel
theorem dX1_leastShutting_7 : decode cX1_leastShutting 7 = .ok (.iload_n 2, 1) := by decide +kernel
theorem dX1_leastShutting_8 : decode cX1_leastShutting 8 = .ok (.aload_n 0, 1) := by decide +kernel
theorem dX1_leastShutting_9 : decode cX1_leastShutting 9 = .ok (.getfield 32, 3) := by decide +kernel
theorem dX1_leastShutting_12 : decode cX1_leastShutting 12 = .ok (.if_icmp .ge 34, 3) := by decide +kernel
theorem dX1_leastShutting_15 : decode cX1_leastShutting 15 = .ok (.aload_n 1, 1) := by decide +kernel
theorem dX1_leastShutting_16 : decode cX1_leastShutting 16 = .ok (.getfield 28, 3) := by decide +kernel
theorem dX1_leastShutting_19 : decode cX1_leastShutting 19 = .ok (.aload_n 0, 1) := by decide +kernel
theorem dX1_leastShutting_20 : decode cX1_leastShutting 20 = .ok (.getfield 18, 3) := by decide +kernel
theorem dX1_leastShutting_23 : decode cX1_leastShutting 23 = .ok (.iload_n 2, 1) := by decide +kernel
theorem dX1_leastShutting_24 : decode cX1_leastShutting 24 = .ok (.iaload, 1) := by decide +kernel
theorem dX1_leastShutting_25 : decode cX1_leastShutting 25 = .ok (.invokestatic 94, 3) := by decide +kernel
theorem dX1_leastShutting_28 : decode cX1_leastShutting 28 = .ok (.isub, 1) := by decide +kernel
theorem dX1_leastShutting_29 : decode cX1_leastShutting 29 = .ok (.iconst 1, 1) := by decide +kernel
theorem dX1_leastShutting_30 : decode cX1_leastShutting 30 = .ok (.if_icmp .ne 10, 3) := by decide +kernel
theorem dX1_leastShutting_33 : decode cX1_leastShutting 33 = .ok (.aload_n 0, 1) := by decide +kernel
theorem dX1_leastShutting_34 : decode cX1_leastShutting 34 = .ok (.getfield 18, 3) := by decide +kernel
theorem dX1_leastShutting_37 : decode cX1_leastShutting 37 = .ok (.iload_n 2, 1) := by decide +kernel
theorem dX1_leastShutting_38 : decode cX1_leastShutting 38 = .ok (.iaload, 1) := by decide +kernel
theorem dX1_leastShutting_39 : decode cX1_leastShutting 39 = .ok (.ireturn, 1) := by decide +kernel
theorem dX1_leastShutting_40 : decode cX1_leastShutting 40 = .ok (.iinc 2 1, 3) := by decide +kernel
theorem dX1_leastShutting_43 : decode cX1_leastShutting 43 = .ok (.goto (-36), 3) := by decide +kernel
theorem dX1_leastShutting_46 : decode cX1_leastShutting 46 = .ok (.bipush (-9), 2) := by decide +kernel
theorem dX1_leastShutting_48 : decode cX1_leastShutting 48 = .ok (.ireturn, 1) := by decide +kernel
theorem dX1_fewestDays_0 : decode cX1_fewestDays 0 = .ok (.aload_n 1, 1) := by decide +kernel
theorem dX1_fewestDays_1 : decode cX1_fewestDays 1 = .ok (.getfield 97, 3) := by decide +kernel
theorem dX1_fewestDays_4 : decode cX1_fewestDays 4 = .ok (.iload_n 2, 1) := by decide +kernel
theorem dX1_fewestDays_5 : decode cX1_fewestDays 5 = .ok (.if_icmp .ne 5, 3) := by decide +kernel
theorem dX1_fewestDays_8 : decode cX1_fewestDays 8 = .ok (.iconst 0, 1) := by decide +kernel
theorem dX1_fewestDays_9 : decode cX1_fewestDays 9 = .ok (.ireturn, 1) := by decide +kernel
theorem dX1_fewestDays_10 : decode cX1_fewestDays 10 = .ok (.aload_n 0, 1) := by decide +kernel
theorem dX1_fewestDays_11 : decode cX1_fewestDays 11 = .ok (.aload_n 1, 1) := by decide +kernel
theorem dX1_fewestDays_12 : decode cX1_fewestDays 12 = .ok (.invokevirtual 42, 3) := by decide +kernel
theorem dX1_fewestDays_15 : decode cX1_fewestDays 15 = .ok (.aload_n 0, 1) := by decide +kernel
theorem dX1_fewestDays_16 : decode cX1_fewestDays 16 = .ok (.getfield 12, 3) := by decide +kernel
theorem dX1_fewestDays_19 : decode cX1_fewestDays 19 = .ok (.iconst 0, 1) := by decide +kernel
theorem dX1_fewestDays_20 : decode cX1_fewestDays 20 = .ok (.aaload, 1) := by decide +kernel
theorem dX1_fewestDays_21 : decode cX1_fewestDays 21 = .ok (.astore_n 3, 1) := by decide +kernel
theorem dX1_fewestDays_22 : decode cX1_fewestDays 22 = .ok (.aload_n 3, 1) := by decide +kernel
theorem dX1_fewestDays_23 : decode cX1_fewestDays 23 = .ok (.aload_n 1, 1) := by decide +kernel
theorem dX1_fewestDays_24 : decode cX1_fewestDays 24 = .ok (.invokevirtual 46, 3) := by decide +kernel
theorem dX1_fewestDays_27 : decode cX1_fewestDays 27 = .ok (.aload_n 3, 1) := by decide +kernel
theorem dX1_fewestDays_28 : decode cX1_fewestDays 28 = .ok (.getfield 39, 3) := by decide +kernel
theorem dX1_fewestDays_31 : decode cX1_fewestDays 31 = .ok (.iconst 0, 1) := by decide +kernel
theorem dX1_fewestDays_32 : decode cX1_fewestDays 32 = .ok (.iaload, 1) := by decide +kernel
theorem dX1_fewestDays_33 : decode cX1_fewestDays 33 = .ok (.iconst 4, 1) := by decide +kernel
theorem dX1_fewestDays_34 : decode cX1_fewestDays 34 = .ok (.if_icmp .ne 10, 3) := by decide +kernel
theorem dX1_fewestDays_37 : decode cX1_fewestDays 37 = .ok (.aload_n 3, 1) := by decide +kernel
theorem dX1_fewestDays_38 : decode cX1_fewestDays 38 = .ok (.getfield 39, 3) := by decide +kernel
theorem dX1_fewestDays_41 : decode cX1_fewestDays 41 = .ok (.iconst 0, 1) := by decide +kernel
theorem dX1_fewestDays_42 : decode cX1_fewestDays 42 = .ok (.iconst 3, 1) := by decide +kernel
theorem dX1_fewestDays_43 : decode cX1_fewestDays 43 = .ok (.iastore, 1) := by decide +kernel
theorem dX1_fewestDays_44 : decode cX1_fewestDays 44 = .ok (.aload_n 0, 1) := by decide +kernel
theorem dX1_fewestDays_45 : decode cX1_fewestDays 45 = .ok (.aload_n 3, 1) := by decide +kernel
theorem dX1_fewestDays_46 : decode cX1_fewestDays 46 = .ok (.invokevirtual 100, 3) := by decide +kernel
theorem dX1_fewestDays_49 : decode cX1_fewestDays 49 = .ok (.istore 4, 2) := by decide +kernel
theorem dX1_fewestDays_51 : decode cX1_fewestDays 51 = .ok (.iconst 1, 1) := by decide +kernel
theorem dX1_fewestDays_52 : decode cX1_fewestDays 52 = .ok (.istore 5, 2) := by decide +kernel
theorem dX1_fewestDays_54 : decode cX1_fewestDays 54 = .ok (.iload 5, 2) := by decide +kernel
theorem dX1_fewestDays_56 : decode cX1_fewestDays 56 = .ok (.bipush 6, 2) := by decide +kernel
theorem dX1_fewestDays_58 : decode cX1_fewestDays 58 = .ok (.if_icmp .gt 88, 3) := by decide +kernel
theorem dX1_fewestDays_61 : decode cX1_fewestDays 61 = .ok (.iload 4, 2) := by decide +kernel
theorem dX1_fewestDays_63 : decode cX1_fewestDays 63 = .ok (.iload_n 2, 1) := by decide +kernel
theorem dX1_fewestDays_64 : decode cX1_fewestDays 64 = .ok (.ishr, 1) := by decide +kernel
theorem dX1_fewestDays_65 : decode cX1_fewestDays 65 = .ok (.iconst 1, 1) := by decide +kernel
theorem dX1_fewestDays_66 : decode cX1_fewestDays 66 = .ok (.iand, 1) := by decide +kernel
theorem dX1_fewestDays_67 : decode cX1_fewestDays 67 = .ok (.iconst 1, 1) := by decide +kernel
theorem dX1_fewestDays_68 : decode cX1_fewestDays 68 = .ok (.if_icmp .ne 6, 3) := by decide +kernel
theorem dX1_fewestDays_71 : decode cX1_fewestDays 71 = .ok (.iload 5, 2) := by decide +kernel
theorem dX1_fewestDays_73 : decode cX1_fewestDays 73 = .ok (.ireturn, 1) := by decide +kernel
theorem dX1_fewestDays_74 : decode cX1_fewestDays 74 = .ok (.iconst 0, 1) := by decide +kernel
theorem dX1_fewestDays_75 : decode cX1_fewestDays 75 = .ok (.istore 6, 2) := by decide +kernel
theorem dX1_fewestDays_77 : decode cX1_fewestDays 77 = .ok (.aload_n 3, 1) := by decide +kernel
theorem dX1_fewestDays_78 : decode cX1_fewestDays 78 = .ok (.dup, 1) := by decide +kernel
theorem dX1_fewestDays_79 : decode cX1_fewestDays 79 = .ok (.getfield 104, 3) := by decide +kernel
theorem dX1_fewestDays_82 : decode cX1_fewestDays 82 = .ok (.iconst 1, 1) := by decide +kernel
theorem dX1_fewestDays_83 : decode cX1_fewestDays 83 = .ok (.iadd, 1) := by decide +kernel
theorem dX1_fewestDays_84 : decode cX1_fewestDays 84 = .ok (.putfield 104, 3) := by decide +kernel
theorem dX1_fewestDays_87 : decode cX1_fewestDays 87 = .ok (.iconst 0, 1) := by decide +kernel
theorem dX1_fewestDays_88 : decode cX1_fewestDays 88 = .ok (.istore 7, 2) := by decide +kernel
theorem dX1_fewestDays_90 : decode cX1_fewestDays 90 = .ok (.iload 7, 2) := by decide +kernel
theorem dX1_fewestDays_92 : decode cX1_fewestDays 92 = .ok (.aload_n 3, 1) := by decide +kernel
theorem dX1_fewestDays_93 : decode cX1_fewestDays 93 = .ok (.getfield 28, 3) := by decide +kernel
theorem dX1_fewestDays_96 : decode cX1_fewestDays 96 = .ok (.if_icmp .ge 40, 3) := by decide +kernel
theorem dX1_fewestDays_99 : decode cX1_fewestDays 99 = .ok (.aload_n 3, 1) := by decide +kernel
theorem dX1_fewestDays_100 : decode cX1_fewestDays 100 = .ok (.iload 7, 2) := by decide +kernel
theorem dX1_fewestDays_102 : decode cX1_fewestDays 102 = .ok (.putfield 97, 3) := by decide +kernel
theorem dX1_fewestDays_105 : decode cX1_fewestDays 105 = .ok (.iload 6, 2) := by decide +kernel
theorem dX1_fewestDays_107 : decode cX1_fewestDays 107 = .ok (.iload 4, 2) := by decide +kernel
theorem dX1_fewestDays_109 : decode cX1_fewestDays 109 = .ok (.iload 7, 2) := by decide +kernel
theorem dX1_fewestDays_111 : decode cX1_fewestDays 111 = .ok (.ishr, 1) := by decide +kernel
theorem dX1_fewestDays_112 : decode cX1_fewestDays 112 = .ok (.iconst 1, 1) := by decide +kernel
theorem dX1_fewestDays_113 : decode cX1_fewestDays 113 = .ok (.iand, 1) := by decide +kernel
theorem dX1_fewestDays_114 : decode cX1_fewestDays 114 = .ok (.iconst 1, 1) := by decide +kernel
theorem dX1_fewestDays_115 : decode cX1_fewestDays 115 = .ok (.if_icmp .ne 11, 3) := by decide +kernel
theorem dX1_fewestDays_118 : decode cX1_fewestDays 118 = .ok (.aload_n 0, 1) := by decide +kernel
theorem dX1_fewestDays_119 : decode cX1_fewestDays 119 = .ok (.aload_n 3, 1) := by decide +kernel
theorem dX1_fewestDays_120 : decode cX1_fewestDays 120 = .ok (.invokevirtual 100, 3) := by decide +kernel
theorem dX1_fewestDays_123 : decode cX1_fewestDays 123 = .ok (.goto 4, 3) := by decide +kernel
theorem dX1_fewestDays_126 : decode cX1_fewestDays 126 = .ok (.iconst 0, 1) := by decide +kernel
theorem dX1_fewestDays_127 : decode cX1_fewestDays 127 = .ok (.ior, 1) := by decide +kernel
theorem dX1_fewestDays_128 : decode cX1_fewestDays 128 = .ok (.istore 6, 2) := by decide +kernel
theorem dX1_fewestDays_130 : decode cX1_fewestDays 130 = .ok (.iinc 7 1, 3) := by decide +kernel
theorem dX1_fewestDays_133 : decode cX1_fewestDays 133 = .ok (.goto (-43), 3) := by decide +kernel
theorem dX1_fewestDays_136 : decode cX1_fewestDays 136 = .ok (.iload 6, 2) := by decide +kernel
theorem dX1_fewestDays_138 : decode cX1_fewestDays 138 = .ok (.istore 4, 2) := by decide +kernel
theorem dX1_fewestDays_140 : decode cX1_fewestDays 140 = .ok (.iinc 5 1, 3) := by decide +kernel
theorem dX1_fewestDays_143 : decode cX1_fewestDays 143 = .ok (.goto (-89), 3) := by decide +kernel
theorem dX1_fewestDays_146 : decode cX1_fewestDays 146 = .ok (.bipush (-9), 2) := by decide +kernel
theorem dX1_fewestDays_148 : decode cX1_fewestDays 148 = .ok (.ireturn, 1) := by decide +kernel
theorem dX1_laidByAnySet_0 : decode cX1_laidByAnySet 0 = .ok (.aload_n 1, 1) := by decide +kernel
theorem dX1_laidByAnySet_1 : decode cX1_laidByAnySet 1 = .ok (.invokevirtual 69, 3) := by decide +kernel
theorem dX1_laidByAnySet_4 : decode cX1_laidByAnySet 4 = .ok (.istore_n 2, 1) := by decide +kernel
theorem dX1_laidByAnySet_5 : decode cX1_laidByAnySet 5 = .ok (.iconst 0, 1) := by decide +kernel
theorem dX1_laidByAnySet_6 : decode cX1_laidByAnySet 6 = .ok (.istore_n 3, 1) := by decide +kernel
theorem dX1_laidByAnySet_7 : decode cX1_laidByAnySet 7 = .ok (.iconst 0, 1) := by decide +kernel
theorem dX1_laidByAnySet_8 : decode cX1_laidByAnySet 8 = .ok (.istore 4, 2) := by decide +kernel
theorem dX1_laidByAnySet_10 : decode cX1_laidByAnySet 10 = .ok (.iload 4, 2) := by decide +kernel
theorem dX1_laidByAnySet_12 : decode cX1_laidByAnySet 12 = .ok (.aload_n 0, 1) := by decide +kernel
theorem dX1_laidByAnySet_13 : decode cX1_laidByAnySet 13 = .ok (.getfield 32, 3) := by decide +kernel
theorem dX1_laidByAnySet_16 : decode cX1_laidByAnySet 16 = .ok (.if_icmp .ge 39, 3) := by decide +kernel
theorem dX1_laidByAnySet_19 : decode cX1_laidByAnySet 19 = .ok (.aload_n 1, 1) := by decide +kernel
theorem dX1_laidByAnySet_20 : decode cX1_laidByAnySet 20 = .ok (.aload_n 0, 1) := by decide +kernel
theorem dX1_laidByAnySet_21 : decode cX1_laidByAnySet 21 = .ok (.getfield 18, 3) := by decide +kernel
theorem dX1_laidByAnySet_24 : decode cX1_laidByAnySet 24 = .ok (.iload 4, 2) := by decide +kernel
theorem dX1_laidByAnySet_26 : decode cX1_laidByAnySet 26 = .ok (.iaload, 1) := by decide +kernel
theorem dX1_laidByAnySet_27 : decode cX1_laidByAnySet 27 = .ok (.putfield 49, 3) := by decide +kernel
theorem dX1_laidByAnySet_30 : decode cX1_laidByAnySet 30 = .ok (.aload_n 1, 1) := by decide +kernel
theorem dX1_laidByAnySet_31 : decode cX1_laidByAnySet 31 = .ok (.iload_n 2, 1) := by decide +kernel
theorem dX1_laidByAnySet_32 : decode cX1_laidByAnySet 32 = .ok (.invokevirtual 72, 3) := by decide +kernel
theorem dX1_laidByAnySet_35 : decode cX1_laidByAnySet 35 = .ok (.istore 5, 2) := by decide +kernel
theorem dX1_laidByAnySet_37 : decode cX1_laidByAnySet 37 = .ok (.iload 5, 2) := by decide +kernel
theorem dX1_laidByAnySet_39 : decode cX1_laidByAnySet 39 = .ok (.ifCond .lt 10, 3) := by decide +kernel
theorem dX1_laidByAnySet_42 : decode cX1_laidByAnySet 42 = .ok (.iload_n 3, 1) := by decide +kernel
theorem dX1_laidByAnySet_43 : decode cX1_laidByAnySet 43 = .ok (.iconst 1, 1) := by decide +kernel
theorem dX1_laidByAnySet_44 : decode cX1_laidByAnySet 44 = .ok (.iload 5, 2) := by decide +kernel
theorem dX1_laidByAnySet_46 : decode cX1_laidByAnySet 46 = .ok (.ishl, 1) := by decide +kernel
theorem dX1_laidByAnySet_47 : decode cX1_laidByAnySet 47 = .ok (.ior, 1) := by decide +kernel
theorem dX1_laidByAnySet_48 : decode cX1_laidByAnySet 48 = .ok (.istore_n 3, 1) := by decide +kernel
theorem dX1_laidByAnySet_49 : decode cX1_laidByAnySet 49 = .ok (.iinc 4 1, 3) := by decide +kernel
theorem dX1_laidByAnySet_52 : decode cX1_laidByAnySet 52 = .ok (.goto (-42), 3) := by decide +kernel
theorem dX1_laidByAnySet_55 : decode cX1_laidByAnySet 55 = .ok (.iload_n 3, 1) := by decide +kernel
theorem dX1_laidByAnySet_56 : decode cX1_laidByAnySet 56 = .ok (.ireturn, 1) := by decide +kernel
theorem dX2_init_0 : decode cX2_init 0 = .ok (.aload_n 0, 1) := by decide +kernel
theorem dX2_init_1 : decode cX2_init 1 = .ok (.invokespecial 3, 3) := by decide +kernel
theorem dX2_init_4 : decode cX2_init 4 = .ok (.aload_n 0, 1) := by decide +kernel
theorem dX2_init_5 : decode cX2_init 5 = .ok (.bipush 6, 2) := by decide +kernel
theorem dX2_init_7 : decode cX2_init 7 = .ok (.newarray .int, 2) := by decide +kernel
theorem dX2_init_9 : decode cX2_init 9 = .ok (.putfield 9, 3) := by decide +kernel
theorem dX2_init_12 : decode cX2_init 12 = .ok (.aload_n 0, 1) := by decide +kernel
theorem dX2_init_13 : decode cX2_init 13 = .ok (.bipush 6, 2) := by decide +kernel
theorem dX2_init_15 : decode cX2_init 15 = .ok (.newarray .int, 2) := by decide +kernel
theorem dX2_init_17 : decode cX2_init 17 = .ok (.putfield 15, 3) := by decide +kernel
theorem dX2_init_20 : decode cX2_init 20 = .ok (.aload_n 0, 1) := by decide +kernel
theorem dX2_init_21 : decode cX2_init 21 = .ok (.bipush 6, 2) := by decide +kernel
theorem dX2_init_23 : decode cX2_init 23 = .ok (.newarray .int, 2) := by decide +kernel
theorem dX2_init_25 : decode cX2_init 25 = .ok (.putfield 18, 3) := by decide +kernel
theorem dX2_init_28 : decode cX2_init 28 = .ok (.aload_n 0, 1) := by decide +kernel
theorem dX2_init_29 : decode cX2_init 29 = .ok (.bipush 6, 2) := by decide +kernel
theorem dX2_init_31 : decode cX2_init 31 = .ok (.newarray .int, 2) := by decide +kernel
theorem dX2_init_33 : decode cX2_init 33 = .ok (.putfield 21, 3) := by decide +kernel
theorem dX2_init_36 : decode cX2_init 36 = .ok (.aload_n 0, 1) := by decide +kernel
theorem dX2_init_37 : decode cX2_init 37 = .ok (.bipush 60, 2) := by decide +kernel
theorem dX2_init_39 : decode cX2_init 39 = .ok (.newarray .int, 2) := by decide +kernel
theorem dX2_init_41 : decode cX2_init 41 = .ok (.putfield 24, 3) := by decide +kernel
theorem dX2_init_44 : decode cX2_init 44 = .ok (.aload_n 0, 1) := by decide +kernel
theorem dX2_init_45 : decode cX2_init 45 = .ok (.iconst 4, 1) := by decide +kernel
theorem dX2_init_46 : decode cX2_init 46 = .ok (.newarray .int, 2) := by decide +kernel
theorem dX2_init_48 : decode cX2_init 48 = .ok (.dup, 1) := by decide +kernel
theorem dX2_init_49 : decode cX2_init 49 = .ok (.iconst 0, 1) := by decide +kernel
theorem dX2_init_50 : decode cX2_init 50 = .ok (.iconst 0, 1) := by decide +kernel
theorem dX2_init_51 : decode cX2_init 51 = .ok (.iastore, 1) := by decide +kernel
theorem dX2_init_52 : decode cX2_init 52 = .ok (.dup, 1) := by decide +kernel
theorem dX2_init_53 : decode cX2_init 53 = .ok (.iconst 1, 1) := by decide +kernel
theorem dX2_init_54 : decode cX2_init 54 = .ok (.iconst 0, 1) := by decide +kernel
theorem dX2_init_55 : decode cX2_init 55 = .ok (.iastore, 1) := by decide +kernel
theorem dX2_init_56 : decode cX2_init 56 = .ok (.dup, 1) := by decide +kernel
theorem dX2_init_57 : decode cX2_init 57 = .ok (.iconst 2, 1) := by decide +kernel
theorem dX2_init_58 : decode cX2_init 58 = .ok (.bipush 10, 2) := by decide +kernel
theorem dX2_init_60 : decode cX2_init 60 = .ok (.iastore, 1) := by decide +kernel
theorem dX2_init_61 : decode cX2_init 61 = .ok (.dup, 1) := by decide +kernel
theorem dX2_init_62 : decode cX2_init 62 = .ok (.iconst 3, 1) := by decide +kernel
theorem dX2_init_63 : decode cX2_init 63 = .ok (.bipush 9, 2) := by decide +kernel
theorem dX2_init_65 : decode cX2_init 65 = .ok (.iastore, 1) := by decide +kernel
theorem dX2_init_66 : decode cX2_init 66 = .ok (.putfield 27, 3) := by decide +kernel
theorem dX2_init_69 : decode cX2_init 69 = .ok (.aload_n 0, 1) := by decide +kernel
theorem dX2_init_70 : decode cX2_init 70 = .ok (.bipush 6, 2) := by decide +kernel
theorem dX2_init_72 : decode cX2_init 72 = .ok (.newarray .int, 2) := by decide +kernel
theorem dX2_init_74 : decode cX2_init 74 = .ok (.putfield 30, 3) := by decide +kernel
theorem dX2_init_77 : decode cX2_init 77 = .ok (.aload_n 0, 1) := by decide +kernel
theorem dX2_init_78 : decode cX2_init 78 = .ok (.bipush (-9), 2) := by decide +kernel
theorem dX2_init_80 : decode cX2_init 80 = .ok (.putfield 33, 3) := by decide +kernel
theorem dX2_init_83 : decode cX2_init 83 = .ok (.return_, 1) := by decide +kernel
theorem dX2_copyFrom_0 : decode cX2_copyFrom 0 = .ok (.aload_n 1, 1) := by decide +kernel
theorem dX2_copyFrom_1 : decode cX2_copyFrom 1 = .ok (.getfield 9, 3) := by decide +kernel
theorem dX2_copyFrom_4 : decode cX2_copyFrom 4 = .ok (.iconst 0, 1) := by decide +kernel
theorem dX2_copyFrom_5 : decode cX2_copyFrom 5 = .ok (.aload_n 0, 1) := by decide +kernel
theorem dX2_copyFrom_6 : decode cX2_copyFrom 6 = .ok (.getfield 9, 3) := by decide +kernel
theorem dX2_copyFrom_9 : decode cX2_copyFrom 9 = .ok (.iconst 0, 1) := by decide +kernel
theorem dX2_copyFrom_10 : decode cX2_copyFrom 10 = .ok (.bipush 6, 2) := by decide +kernel
theorem dX2_copyFrom_12 : decode cX2_copyFrom 12 = .ok (.invokestatic 37, 3) := by decide +kernel
theorem dX2_copyFrom_15 : decode cX2_copyFrom 15 = .ok (.aload_n 1, 1) := by decide +kernel
theorem dX2_copyFrom_16 : decode cX2_copyFrom 16 = .ok (.getfield 15, 3) := by decide +kernel
theorem dX2_copyFrom_19 : decode cX2_copyFrom 19 = .ok (.iconst 0, 1) := by decide +kernel
theorem dX2_copyFrom_20 : decode cX2_copyFrom 20 = .ok (.aload_n 0, 1) := by decide +kernel
theorem dX2_copyFrom_21 : decode cX2_copyFrom 21 = .ok (.getfield 15, 3) := by decide +kernel
theorem dX2_copyFrom_24 : decode cX2_copyFrom 24 = .ok (.iconst 0, 1) := by decide +kernel
theorem dX2_copyFrom_25 : decode cX2_copyFrom 25 = .ok (.bipush 6, 2) := by decide +kernel
theorem dX2_copyFrom_27 : decode cX2_copyFrom 27 = .ok (.invokestatic 37, 3) := by decide +kernel
theorem dX2_copyFrom_30 : decode cX2_copyFrom 30 = .ok (.aload_n 1, 1) := by decide +kernel
theorem dX2_copyFrom_31 : decode cX2_copyFrom 31 = .ok (.getfield 18, 3) := by decide +kernel
theorem dX2_copyFrom_34 : decode cX2_copyFrom 34 = .ok (.iconst 0, 1) := by decide +kernel
theorem dX2_copyFrom_35 : decode cX2_copyFrom 35 = .ok (.aload_n 0, 1) := by decide +kernel
theorem dX2_copyFrom_36 : decode cX2_copyFrom 36 = .ok (.getfield 18, 3) := by decide +kernel
theorem dX2_copyFrom_39 : decode cX2_copyFrom 39 = .ok (.iconst 0, 1) := by decide +kernel
theorem dX2_copyFrom_40 : decode cX2_copyFrom 40 = .ok (.bipush 6, 2) := by decide +kernel
theorem dX2_copyFrom_42 : decode cX2_copyFrom 42 = .ok (.invokestatic 37, 3) := by decide +kernel
theorem dX2_copyFrom_45 : decode cX2_copyFrom 45 = .ok (.aload_n 1, 1) := by decide +kernel
theorem dX2_copyFrom_46 : decode cX2_copyFrom 46 = .ok (.getfield 21, 3) := by decide +kernel
theorem dX2_copyFrom_49 : decode cX2_copyFrom 49 = .ok (.iconst 0, 1) := by decide +kernel
theorem dX2_copyFrom_50 : decode cX2_copyFrom 50 = .ok (.aload_n 0, 1) := by decide +kernel
theorem dX2_copyFrom_51 : decode cX2_copyFrom 51 = .ok (.getfield 21, 3) := by decide +kernel
theorem dX2_copyFrom_54 : decode cX2_copyFrom 54 = .ok (.iconst 0, 1) := by decide +kernel
theorem dX2_copyFrom_55 : decode cX2_copyFrom 55 = .ok (.bipush 6, 2) := by decide +kernel
theorem dX2_copyFrom_57 : decode cX2_copyFrom 57 = .ok (.invokestatic 37, 3) := by decide +kernel
theorem dX2_copyFrom_60 : decode cX2_copyFrom 60 = .ok (.aload_n 1, 1) := by decide +kernel
theorem dX2_copyFrom_61 : decode cX2_copyFrom 61 = .ok (.getfield 27, 3) := by decide +kernel
theorem dX2_copyFrom_64 : decode cX2_copyFrom 64 = .ok (.iconst 0, 1) := by decide +kernel
theorem dX2_copyFrom_65 : decode cX2_copyFrom 65 = .ok (.aload_n 0, 1) := by decide +kernel
theorem dX2_copyFrom_66 : decode cX2_copyFrom 66 = .ok (.getfield 27, 3) := by decide +kernel
theorem dX2_copyFrom_69 : decode cX2_copyFrom 69 = .ok (.iconst 0, 1) := by decide +kernel
theorem dX2_copyFrom_70 : decode cX2_copyFrom 70 = .ok (.iconst 4, 1) := by decide +kernel
theorem dX2_copyFrom_71 : decode cX2_copyFrom 71 = .ok (.invokestatic 37, 3) := by decide +kernel
theorem dX2_copyFrom_74 : decode cX2_copyFrom 74 = .ok (.aload_n 0, 1) := by decide +kernel
theorem dX2_copyFrom_75 : decode cX2_copyFrom 75 = .ok (.aload_n 1, 1) := by decide +kernel
theorem dX2_copyFrom_76 : decode cX2_copyFrom 76 = .ok (.getfield 43, 3) := by decide +kernel
theorem dX2_copyFrom_79 : decode cX2_copyFrom 79 = .ok (.putfield 43, 3) := by decide +kernel
theorem dX2_copyFrom_82 : decode cX2_copyFrom 82 = .ok (.aload_n 0, 1) := by decide +kernel
theorem dX2_copyFrom_83 : decode cX2_copyFrom 83 = .ok (.aload_n 1, 1) := by decide +kernel
theorem dX2_copyFrom_84 : decode cX2_copyFrom 84 = .ok (.getfield 46, 3) := by decide +kernel
theorem dX2_copyFrom_87 : decode cX2_copyFrom 87 = .ok (.putfield 46, 3) := by decide +kernel
theorem dX2_copyFrom_90 : decode cX2_copyFrom 90 = .ok (.aload_n 0, 1) := by decide +kernel
theorem dX2_copyFrom_91 : decode cX2_copyFrom 91 = .ok (.aload_n 1, 1) := by decide +kernel
theorem dX2_copyFrom_92 : decode cX2_copyFrom 92 = .ok (.getfield 49, 3) := by decide +kernel
theorem dX2_copyFrom_95 : decode cX2_copyFrom 95 = .ok (.putfield 49, 3) := by decide +kernel
theorem dX2_copyFrom_98 : decode cX2_copyFrom 98 = .ok (.aload_n 0, 1) := by decide +kernel
theorem dX2_copyFrom_99 : decode cX2_copyFrom 99 = .ok (.aload_n 1, 1) := by decide +kernel
theorem dX2_copyFrom_100 : decode cX2_copyFrom 100 = .ok (.invokevirtual 52, 3) := by decide +kernel
theorem dX2_copyFrom_103 : decode cX2_copyFrom 103 = .ok (.return_, 1) := by decide +kernel
theorem dX2_copyCourse_0 : decode cX2_copyCourse 0 = .ok (.aload_n 1, 1) := by decide +kernel
theorem dX2_copyCourse_1 : decode cX2_copyCourse 1 = .ok (.getfield 24, 3) := by decide +kernel
theorem dX2_copyCourse_4 : decode cX2_copyCourse 4 = .ok (.iconst 0, 1) := by decide +kernel
theorem dX2_copyCourse_5 : decode cX2_copyCourse 5 = .ok (.aload_n 0, 1) := by decide +kernel
theorem dX2_copyCourse_6 : decode cX2_copyCourse 6 = .ok (.getfield 24, 3) := by decide +kernel
theorem dX2_copyCourse_9 : decode cX2_copyCourse 9 = .ok (.iconst 0, 1) := by decide +kernel
theorem dX2_copyCourse_10 : decode cX2_copyCourse 10 = .ok (.bipush 60, 2) := by decide +kernel
theorem dX2_copyCourse_12 : decode cX2_copyCourse 12 = .ok (.invokestatic 37, 3) := by decide +kernel
theorem dX2_copyCourse_15 : decode cX2_copyCourse 15 = .ok (.aload_n 0, 1) := by decide +kernel
theorem dX2_copyCourse_16 : decode cX2_copyCourse 16 = .ok (.aload_n 1, 1) := by decide +kernel
theorem dX2_copyCourse_17 : decode cX2_copyCourse 17 = .ok (.getfield 33, 3) := by decide +kernel
theorem dX2_copyCourse_20 : decode cX2_copyCourse 20 = .ok (.putfield 33, 3) := by decide +kernel
theorem dX2_copyCourse_23 : decode cX2_copyCourse 23 = .ok (.aload_n 0, 1) := by decide +kernel
theorem dX2_copyCourse_24 : decode cX2_copyCourse 24 = .ok (.aload_n 1, 1) := by decide +kernel
theorem dX2_copyCourse_25 : decode cX2_copyCourse 25 = .ok (.getfield 56, 3) := by decide +kernel
theorem dX2_copyCourse_28 : decode cX2_copyCourse 28 = .ok (.putfield 56, 3) := by decide +kernel
theorem dX2_copyCourse_31 : decode cX2_copyCourse 31 = .ok (.aload_n 0, 1) := by decide +kernel
theorem dX2_copyCourse_32 : decode cX2_copyCourse 32 = .ok (.aload_n 1, 1) := by decide +kernel
theorem dX2_copyCourse_33 : decode cX2_copyCourse 33 = .ok (.getfield 59, 3) := by decide +kernel
theorem dX2_copyCourse_36 : decode cX2_copyCourse 36 = .ok (.putfield 59, 3) := by decide +kernel
theorem dX2_copyCourse_39 : decode cX2_copyCourse 39 = .ok (.return_, 1) := by decide +kernel
theorem dX2_addNest_0 : decode cX2_addNest 0 = .ok (.aload_n 0, 1) := by decide +kernel
theorem dX2_addNest_1 : decode cX2_addNest 1 = .ok (.getfield 43, 3) := by decide +kernel
theorem dX2_addNest_4 : decode cX2_addNest 4 = .ok (.bipush 6, 2) := by decide +kernel
theorem dX2_addNest_6 : decode cX2_addNest 6 = .ok (.if_icmp .lt 5, 3) := by decide +kernel
theorem dX2_addNest_9 : decode cX2_addNest 9 = .ok (.iconst 0, 1) := by decide +kernel
theorem dX2_addNest_10 : decode cX2_addNest 10 = .ok (.ireturn, 1) := by decide +kernel
theorem dX2_addNest_11 : decode cX2_addNest 11 = .ok (.aload_n 0, 1) := by decide +kernel
theorem dX2_addNest_12 : decode cX2_addNest 12 = .ok (.getfield 9, 3) := by decide +kernel
theorem dX2_addNest_15 : decode cX2_addNest 15 = .ok (.aload_n 0, 1) := by decide +kernel
theorem dX2_addNest_16 : decode cX2_addNest 16 = .ok (.getfield 43, 3) := by decide +kernel
theorem dX2_addNest_19 : decode cX2_addNest 19 = .ok (.iload_n 1, 1) := by decide +kernel
theorem dX2_addNest_20 : decode cX2_addNest 20 = .ok (.iastore, 1) := by decide +kernel
theorem dX2_addNest_21 : decode cX2_addNest 21 = .ok (.aload_n 0, 1) := by decide +kernel
theorem dX2_addNest_22 : decode cX2_addNest 22 = .ok (.getfield 15, 3) := by decide +kernel
theorem dX2_addNest_25 : decode cX2_addNest 25 = .ok (.aload_n 0, 1) := by decide +kernel
theorem dX2_addNest_26 : decode cX2_addNest 26 = .ok (.getfield 43, 3) := by decide +kernel
theorem dX2_addNest_29 : decode cX2_addNest 29 = .ok (.iload_n 2, 1) := by decide +kernel
theorem dX2_addNest_30 : decode cX2_addNest 30 = .ok (.iastore, 1) := by decide +kernel
theorem dX2_addNest_31 : decode cX2_addNest 31 = .ok (.aload_n 0, 1) := by decide +kernel
theorem dX2_addNest_32 : decode cX2_addNest 32 = .ok (.getfield 18, 3) := by decide +kernel
theorem dX2_addNest_35 : decode cX2_addNest 35 = .ok (.aload_n 0, 1) := by decide +kernel
theorem dX2_addNest_36 : decode cX2_addNest 36 = .ok (.getfield 43, 3) := by decide +kernel
theorem dX2_addNest_39 : decode cX2_addNest 39 = .ok (.iload_n 3, 1) := by decide +kernel
theorem dX2_addNest_40 : decode cX2_addNest 40 = .ok (.iastore, 1) := by decide +kernel
theorem dX2_addNest_41 : decode cX2_addNest 41 = .ok (.aload_n 0, 1) := by decide +kernel
theorem dX2_addNest_42 : decode cX2_addNest 42 = .ok (.getfield 21, 3) := by decide +kernel
theorem dX2_addNest_45 : decode cX2_addNest 45 = .ok (.aload_n 0, 1) := by decide +kernel
theorem dX2_addNest_46 : decode cX2_addNest 46 = .ok (.getfield 43, 3) := by decide +kernel
theorem dX2_addNest_49 : decode cX2_addNest 49 = .ok (.iload 4, 2) := by decide +kernel
theorem dX2_addNest_51 : decode cX2_addNest 51 = .ok (.iastore, 1) := by decide +kernel
theorem dX2_addNest_52 : decode cX2_addNest 52 = .ok (.aload_n 0, 1) := by decide +kernel
theorem dX2_addNest_53 : decode cX2_addNest 53 = .ok (.dup, 1) := by decide +kernel
theorem dX2_addNest_54 : decode cX2_addNest 54 = .ok (.getfield 43, 3) := by decide +kernel
theorem dX2_addNest_57 : decode cX2_addNest 57 = .ok (.iconst 1, 1) := by decide +kernel
theorem dX2_addNest_58 : decode cX2_addNest 58 = .ok (.iadd, 1) := by decide +kernel
theorem dX2_addNest_59 : decode cX2_addNest 59 = .ok (.putfield 43, 3) := by decide +kernel
theorem dX2_addNest_62 : decode cX2_addNest 62 = .ok (.iconst 1, 1) := by decide +kernel
theorem dX2_addNest_63 : decode cX2_addNest 63 = .ok (.ireturn, 1) := by decide +kernel
theorem dX2_addEgg_0 : decode cX2_addEgg 0 = .ok (.iload_n 1, 1) := by decide +kernel
theorem dX2_addEgg_1 : decode cX2_addEgg 1 = .ok (.ifCond .lt 21, 3) := by decide +kernel
theorem dX2_addEgg_4 : decode cX2_addEgg 4 = .ok (.iload_n 1, 1) := by decide +kernel
theorem dX2_addEgg_5 : decode cX2_addEgg 5 = .ok (.aload_n 0, 1) := by decide +kernel
theorem dX2_addEgg_6 : decode cX2_addEgg 6 = .ok (.getfield 43, 3) := by decide +kernel
theorem dX2_addEgg_9 : decode cX2_addEgg 9 = .ok (.if_icmp .ge 13, 3) := by decide +kernel
theorem dX2_addEgg_12 : decode cX2_addEgg 12 = .ok (.iload_n 2, 1) := by decide +kernel
theorem dX2_addEgg_13 : decode cX2_addEgg 13 = .ok (.ifCond .lt 9, 3) := by decide +kernel
theorem dX2_addEgg_16 : decode cX2_addEgg 16 = .ok (.iload_n 2, 1) := by decide +kernel
theorem dX2_addEgg_17 : decode cX2_addEgg 17 = .ok (.bipush 10, 2) := by decide +kernel
theorem dX2_addEgg_19 : decode cX2_addEgg 19 = .ok (.if_icmp .lt 5, 3) := by decide +kernel
theorem dX2_addEgg_22 : decode cX2_addEgg 22 = .ok (.iconst 0, 1) := by decide +kernel
theorem dX2_addEgg_23 : decode cX2_addEgg 23 = .ok (.ireturn, 1) := by decide +kernel
theorem dX2_addEgg_24 : decode cX2_addEgg 24 = .ok (.iload_n 1, 1) := by decide +kernel
theorem dX2_addEgg_25 : decode cX2_addEgg 25 = .ok (.bipush 10, 2) := by decide +kernel
theorem dX2_addEgg_27 : decode cX2_addEgg 27 = .ok (.imul, 1) := by decide +kernel
theorem dX2_addEgg_28 : decode cX2_addEgg 28 = .ok (.iload_n 2, 1) := by decide +kernel
theorem dX2_addEgg_29 : decode cX2_addEgg 29 = .ok (.iadd, 1) := by decide +kernel
theorem dX2_addEgg_30 : decode cX2_addEgg 30 = .ok (.istore_n 3, 1) := by decide +kernel
theorem dX2_addEgg_31 : decode cX2_addEgg 31 = .ok (.aload_n 0, 1) := by decide +kernel
theorem dX2_addEgg_32 : decode cX2_addEgg 32 = .ok (.getfield 24, 3) := by decide +kernel
theorem dX2_addEgg_35 : decode cX2_addEgg 35 = .ok (.iload_n 3, 1) := by decide +kernel
theorem dX2_addEgg_36 : decode cX2_addEgg 36 = .ok (.iaload, 1) := by decide +kernel
theorem dX2_addEgg_37 : decode cX2_addEgg 37 = .ok (.bipush 9, 2) := by decide +kernel
theorem dX2_addEgg_39 : decode cX2_addEgg 39 = .ok (.if_icmp .lt 5, 3) := by decide +kernel
theorem dX2_addEgg_42 : decode cX2_addEgg 42 = .ok (.iconst 0, 1) := by decide +kernel
theorem dX2_addEgg_43 : decode cX2_addEgg 43 = .ok (.ireturn, 1) := by decide +kernel
theorem dX2_addEgg_44 : decode cX2_addEgg 44 = .ok (.aload_n 0, 1) := by decide +kernel
theorem dX2_addEgg_45 : decode cX2_addEgg 45 = .ok (.getfield 24, 3) := by decide +kernel
theorem dX2_addEgg_48 : decode cX2_addEgg 48 = .ok (.iload_n 3, 1) := by decide +kernel
theorem dX2_addEgg_49 : decode cX2_addEgg 49 = .ok (.dup2, 1) := by decide +kernel
theorem dX2_addEgg_50 : decode cX2_addEgg 50 = .ok (.iaload, 1) := by decide +kernel
theorem dX2_addEgg_51 : decode cX2_addEgg 51 = .ok (.iconst 1, 1) := by decide +kernel
theorem dX2_addEgg_52 : decode cX2_addEgg 52 = .ok (.iadd, 1) := by decide +kernel
theorem dX2_addEgg_53 : decode cX2_addEgg 53 = .ok (.iastore, 1) := by decide +kernel
theorem dX2_addEgg_54 : decode cX2_addEgg 54 = .ok (.iconst 1, 1) := by decide +kernel
theorem dX2_addEgg_55 : decode cX2_addEgg 55 = .ok (.ireturn, 1) := by decide +kernel
theorem dX2_change_0 : decode cX2_change 0 = .ok (.iload_n 2, 1) := by decide +kernel
theorem dX2_change_1 : decode cX2_change 1 = .ok (.getstatic 62, 3) := by decide +kernel
theorem dX2_change_4 : decode cX2_change 4 = .ok (.iload_n 1, 1) := by decide +kernel
theorem dX2_change_5 : decode cX2_change 5 = .ok (.iaload, 1) := by decide +kernel
theorem dX2_change_6 : decode cX2_change 6 = .ok (.if_icmp .lt 12, 3) := by decide +kernel
theorem dX2_change_9 : decode cX2_change 9 = .ok (.iload_n 2, 1) := by decide +kernel
theorem dX2_change_10 : decode cX2_change 10 = .ok (.getstatic 65, 3) := by decide +kernel
theorem dX2_change_13 : decode cX2_change 13 = .ok (.iload_n 1, 1) := by decide +kernel
theorem dX2_change_14 : decode cX2_change 14 = .ok (.iaload, 1) := by decide +kernel
theorem dX2_change_15 : decode cX2_change 15 = .ok (.if_icmp .le 5, 3) := by decide +kernel
theorem dX2_change_18 : decode cX2_change 18 = .ok (.iconst 0, 1) := by decide +kernel
theorem dX2_change_19 : decode cX2_change 19 = .ok (.ireturn, 1) := by decide +kernel
theorem dX2_change_20 : decode cX2_change 20 = .ok (.aload_n 0, 1) := by decide +kernel
theorem dX2_change_21 : decode cX2_change 21 = .ok (.getfield 27, 3) := by decide +kernel
theorem dX2_change_24 : decode cX2_change 24 = .ok (.iload_n 1, 1) := by decide +kernel
theorem dX2_change_25 : decode cX2_change 25 = .ok (.iload_n 2, 1) := by decide +kernel
theorem dX2_change_26 : decode cX2_change 26 = .ok (.iastore, 1) := by decide +kernel
theorem dX2_change_27 : decode cX2_change 27 = .ok (.iconst 1, 1) := by decide +kernel
theorem dX2_change_28 : decode cX2_change 28 = .ok (.ireturn, 1) := by decide +kernel
theorem dX2_allNests_0 : decode cX2_allNests 0 = .ok (.iconst 1, 1) := by decide +kernel
theorem dX2_allNests_1 : decode cX2_allNests 1 = .ok (.aload_n 0, 1) := by decide +kernel
theorem dX2_allNests_2 : decode cX2_allNests 2 = .ok (.getfield 43, 3) := by decide +kernel
theorem dX2_allNests_5 : decode cX2_allNests 5 = .ok (.ishl, 1) := by decide +kernel
theorem dX2_allNests_6 : decode cX2_allNests 6 = .ok (.iconst 1, 1) := by decide +kernel
theorem dX2_allNests_7 : decode cX2_allNests 7 = .ok (.isub, 1) := by decide +kernel
theorem dX2_allNests_8 : decode cX2_allNests 8 = .ok (.ireturn, 1) := by decide +kernel
theorem dX2_eggsAt_0 : decode cX2_eggsAt 0 = .ok (.iconst 0, 1) := by decide +kernel
theorem dX2_eggsAt_1 : decode cX2_eggsAt 1 = .ok (.istore_n 2, 1) := by decide +kernel
theorem dX2_eggsAt_2 : decode cX2_eggsAt 2 = .ok (.iload_n 1, 1) := by decide +kernel
theorem dX2_eggsAt_3 : decode cX2_eggsAt 3 = .ok (.iconst 1, 1) := by decide +kernel
theorem dX2_eggsAt_4 : decode cX2_eggsAt 4 = .ok (.iadd, 1) := by decide +kernel
theorem dX2_eggsAt_5 : decode cX2_eggsAt 5 = .ok (.bipush 10, 2) := by decide +kernel
theorem dX2_eggsAt_7 : decode cX2_eggsAt 7 = .ok (.imul, 1) := by decide +kernel
theorem dX2_eggsAt_8 : decode cX2_eggsAt 8 = .ok (.istore_n 3, 1) := by decide +kernel
theorem dX2_eggsAt_9 : decode cX2_eggsAt 9 = .ok (.iload_n 1, 1) := by decide +kernel
theorem dX2_eggsAt_10 : decode cX2_eggsAt 10 = .ok (.bipush 10, 2) := by decide +kernel
theorem dX2_eggsAt_12 : decode cX2_eggsAt 12 = .ok (.imul, 1) := by decide +kernel
theorem dX2_eggsAt_13 : decode cX2_eggsAt 13 = .ok (.istore 4, 2) := by decide +kernel
theorem dX2_eggsAt_15 : decode cX2_eggsAt 15 = .ok (.iload 4, 2) := by decide +kernel
theorem dX2_eggsAt_17 : decode cX2_eggsAt 17 = .ok (.iload_n 3, 1) := by decide +kernel
theorem dX2_eggsAt_18 : decode cX2_eggsAt 18 = .ok (.if_icmp .ge 19, 3) := by decide +kernel
theorem dX2_eggsAt_21 : decode cX2_eggsAt 21 = .ok (.iload_n 2, 1) := by decide +kernel
theorem dX2_eggsAt_22 : decode cX2_eggsAt 22 = .ok (.aload_n 0, 1) := by decide +kernel
theorem dX2_eggsAt_23 : decode cX2_eggsAt 23 = .ok (.getfield 24, 3) := by decide +kernel
theorem dX2_eggsAt_26 : decode cX2_eggsAt 26 = .ok (.iload 4, 2) := by decide +kernel
theorem dX2_eggsAt_28 : decode cX2_eggsAt 28 = .ok (.iaload, 1) := by decide +kernel
theorem dX2_eggsAt_29 : decode cX2_eggsAt 29 = .ok (.iadd, 1) := by decide +kernel
theorem dX2_eggsAt_30 : decode cX2_eggsAt 30 = .ok (.istore_n 2, 1) := by decide +kernel
theorem dX2_eggsAt_31 : decode cX2_eggsAt 31 = .ok (.iinc 4 1, 3) := by decide +kernel
theorem dX2_eggsAt_34 : decode cX2_eggsAt 34 = .ok (.goto (-19), 3) := by decide +kernel
theorem dX2_eggsAt_37 : decode cX2_eggsAt 37 = .ok (.iload_n 2, 1) := by decide +kernel
theorem dX2_eggsAt_38 : decode cX2_eggsAt 38 = .ok (.ireturn, 1) := by decide +kernel
theorem dX2_allEggs_0 : decode cX2_allEggs 0 = .ok (.iconst 0, 1) := by decide +kernel
theorem dX2_allEggs_1 : decode cX2_allEggs 1 = .ok (.istore_n 1, 1) := by decide +kernel
theorem dX2_allEggs_2 : decode cX2_allEggs 2 = .ok (.iconst 0, 1) := by decide +kernel
theorem dX2_allEggs_3 : decode cX2_allEggs 3 = .ok (.istore_n 2, 1) := by decide +kernel
theorem dX2_allEggs_4 : decode cX2_allEggs 4 = .ok (.iload_n 2, 1) := by decide +kernel
theorem dX2_allEggs_5 : decode cX2_allEggs 5 = .ok (.aload_n 0, 1) := by decide +kernel
theorem dX2_allEggs_6 : decode cX2_allEggs 6 = .ok (.getfield 43, 3) := by decide +kernel
theorem dX2_allEggs_9 : decode cX2_allEggs 9 = .ok (.if_icmp .ge 17, 3) := by decide +kernel
theorem dX2_allEggs_12 : decode cX2_allEggs 12 = .ok (.iload_n 1, 1) := by decide +kernel
theorem dX2_allEggs_13 : decode cX2_allEggs 13 = .ok (.aload_n 0, 1) := by decide +kernel
theorem dX2_allEggs_14 : decode cX2_allEggs 14 = .ok (.iload_n 2, 1) := by decide +kernel
theorem dX2_allEggs_15 : decode cX2_allEggs 15 = .ok (.invokevirtual 68, 3) := by decide +kernel
theorem dX2_allEggs_18 : decode cX2_allEggs 18 = .ok (.iadd, 1) := by decide +kernel
theorem dX2_allEggs_19 : decode cX2_allEggs 19 = .ok (.istore_n 1, 1) := by decide +kernel
theorem dX2_allEggs_20 : decode cX2_allEggs 20 = .ok (.iinc 2 1, 3) := by decide +kernel
theorem dX2_allEggs_23 : decode cX2_allEggs 23 = .ok (.goto (-19), 3) := by decide +kernel
theorem dX2_allEggs_26 : decode cX2_allEggs 26 = .ok (.iload_n 1, 1) := by decide +kernel
theorem dX2_allEggs_27 : decode cX2_allEggs 27 = .ok (.ireturn, 1) := by decide +kernel
theorem dX2_greatestAge_0 : decode cX2_greatestAge 0 = .ok (.bipush 9, 2) := by decide +kernel
theorem dX2_greatestAge_2 : decode cX2_greatestAge 2 = .ok (.istore_n 2, 1) := by decide +kernel
theorem dX2_greatestAge_3 : decode cX2_greatestAge 3 = .ok (.iload_n 2, 1) := by decide +kernel
theorem dX2_greatestAge_4 : decode cX2_greatestAge 4 = .ok (.ifCond .lt 25, 3) := by decide +kernel
theorem dX2_greatestAge_7 : decode cX2_greatestAge 7 = .ok (.aload_n 0, 1) := by decide +kernel
theorem dX2_greatestAge_8 : decode cX2_greatestAge 8 = .ok (.getfield 24, 3) := by decide +kernel
theorem dX2_greatestAge_11 : decode cX2_greatestAge 11 = .ok (.iload_n 1, 1) := by decide +kernel
theorem dX2_greatestAge_12 : decode cX2_greatestAge 12 = .ok (.bipush 10, 2) := by decide +kernel
theorem dX2_greatestAge_14 : decode cX2_greatestAge 14 = .ok (.imul, 1) := by decide +kernel
theorem dX2_greatestAge_15 : decode cX2_greatestAge 15 = .ok (.iload_n 2, 1) := by decide +kernel
theorem dX2_greatestAge_16 : decode cX2_greatestAge 16 = .ok (.iadd, 1) := by decide +kernel
theorem dX2_greatestAge_17 : decode cX2_greatestAge 17 = .ok (.iaload, 1) := by decide +kernel
theorem dX2_greatestAge_18 : decode cX2_greatestAge 18 = .ok (.ifCond .le 5, 3) := by decide +kernel
theorem dX2_greatestAge_21 : decode cX2_greatestAge 21 = .ok (.iload_n 2, 1) := by decide +kernel
theorem dX2_greatestAge_22 : decode cX2_greatestAge 22 = .ok (.ireturn, 1) := by decide +kernel
theorem dX2_greatestAge_23 : decode cX2_greatestAge 23 = .ok (.iinc 2 (-1), 3) := by decide +kernel
theorem dX2_greatestAge_26 : decode cX2_greatestAge 26 = .ok (.goto (-23), 3) := by decide +kernel
theorem dX2_greatestAge_29 : decode cX2_greatestAge 29 = .ok (.bipush (-9), 2) := by decide +kernel
theorem dX2_greatestAge_31 : decode cX2_greatestAge 31 = .ok (.ireturn, 1) := by decide +kernel
theorem dX2_minutesOf_0 : decode cX2_minutesOf 0 = .ok (.iconst 0, 1) := by decide +kernel
theorem dX2_minutesOf_1 : decode cX2_minutesOf 1 = .ok (.istore_n 2, 1) := by decide +kernel
theorem dX2_minutesOf_2 : decode cX2_minutesOf 2 = .ok (.iconst 0, 1) := by decide +kernel
theorem dX2_minutesOf_3 : decode cX2_minutesOf 3 = .ok (.istore_n 3, 1) := by decide +kernel
theorem dX2_minutesOf_4 : decode cX2_minutesOf 4 = .ok (.iload_n 3, 1) := by decide +kernel
theorem dX2_minutesOf_5 : decode cX2_minutesOf 5 = .ok (.aload_n 0, 1) := by decide +kernel
theorem dX2_minutesOf_6 : decode cX2_minutesOf 6 = .ok (.getfield 43, 3) := by decide +kernel
theorem dX2_minutesOf_9 : decode cX2_minutesOf 9 = .ok (.if_icmp .ge 27, 3) := by decide +kernel
theorem dX2_minutesOf_12 : decode cX2_minutesOf 12 = .ok (.iload_n 1, 1) := by decide +kernel
theorem dX2_minutesOf_13 : decode cX2_minutesOf 13 = .ok (.iload_n 3, 1) := by decide +kernel
theorem dX2_minutesOf_14 : decode cX2_minutesOf 14 = .ok (.ishr, 1) := by decide +kernel
theorem dX2_minutesOf_15 : decode cX2_minutesOf 15 = .ok (.iconst 1, 1) := by decide +kernel
theorem dX2_minutesOf_16 : decode cX2_minutesOf 16 = .ok (.iand, 1) := by decide +kernel
theorem dX2_minutesOf_17 : decode cX2_minutesOf 17 = .ok (.iconst 1, 1) := by decide +kernel
theorem dX2_minutesOf_18 : decode cX2_minutesOf 18 = .ok (.if_icmp .ne 12, 3) := by decide +kernel
theorem dX2_minutesOf_21 : decode cX2_minutesOf 21 = .ok (.iload_n 2, 1) := by decide +kernel
theorem dX2_minutesOf_22 : decode cX2_minutesOf 22 = .ok (.aload_n 0, 1) := by decide +kernel
theorem dX2_minutesOf_23 : decode cX2_minutesOf 23 = .ok (.getfield 18, 3) := by decide +kernel
theorem dX2_minutesOf_26 : decode cX2_minutesOf 26 = .ok (.iload_n 3, 1) := by decide +kernel
theorem dX2_minutesOf_27 : decode cX2_minutesOf 27 = .ok (.iaload, 1) := by decide +kernel
theorem dX2_minutesOf_28 : decode cX2_minutesOf 28 = .ok (.iadd, 1) := by decide +kernel
theorem dX2_minutesOf_29 : decode cX2_minutesOf 29 = .ok (.istore_n 2, 1) := by decide +kernel
theorem dX2_minutesOf_30 : decode cX2_minutesOf 30 = .ok (.iinc 3 1, 3) := by decide +kernel
theorem dX2_minutesOf_33 : decode cX2_minutesOf 33 = .ok (.goto (-29), 3) := by decide +kernel
theorem dX2_minutesOf_36 : decode cX2_minutesOf 36 = .ok (.iload_n 2, 1) := by decide +kernel
theorem dX2_minutesOf_37 : decode cX2_minutesOf 37 = .ok (.ireturn, 1) := by decide +kernel
theorem dX2_timeLeft_0 : decode cX2_timeLeft 0 = .ok (.aload_n 0, 1) := by decide +kernel
theorem dX2_timeLeft_1 : decode cX2_timeLeft 1 = .ok (.getfield 27, 3) := by decide +kernel
theorem dX2_timeLeft_4 : decode cX2_timeLeft 4 = .ok (.iconst 2, 1) := by decide +kernel
theorem dX2_timeLeft_5 : decode cX2_timeLeft 5 = .ok (.iaload, 1) := by decide +kernel
theorem dX2_timeLeft_6 : decode cX2_timeLeft 6 = .ok (.aload_n 0, 1) := by decide +kernel
theorem dX2_timeLeft_7 : decode cX2_timeLeft 7 = .ok (.aload_n 0, 1) := by decide +kernel
theorem dX2_timeLeft_8 : decode cX2_timeLeft 8 = .ok (.getfield 56, 3) := by decide +kernel
theorem dX2_timeLeft_11 : decode cX2_timeLeft 11 = .ok (.invokevirtual 72, 3) := by decide +kernel
theorem dX2_timeLeft_14 : decode cX2_timeLeft 14 = .ok (.isub, 1) := by decide +kernel
theorem dX2_timeLeft_15 : decode cX2_timeLeft 15 = .ok (.ireturn, 1) := by decide +kernel
theorem dX2_takeEggs_0 : decode cX2_takeEggs 0 = .ok (.iconst 0, 1) := by decide +kernel
theorem dX2_takeEggs_1 : decode cX2_takeEggs 1 = .ok (.istore_n 2, 1) := by decide +kernel
theorem dX2_takeEggs_2 : decode cX2_takeEggs 2 = .ok (.iconst 0, 1) := by decide +kernel
theorem dX2_takeEggs_3 : decode cX2_takeEggs 3 = .ok (.istore_n 3, 1) := by decide +kernel
theorem dX2_takeEggs_4 : decode cX2_takeEggs 4 = .ok (.iload_n 3, 1) := by decide +kernel
theorem dX2_takeEggs_5 : decode cX2_takeEggs 5 = .ok (.aload_n 0, 1) := by decide +kernel
theorem dX2_takeEggs_6 : decode cX2_takeEggs 6 = .ok (.getfield 43, 3) := by decide +kernel
theorem dX2_takeEggs_9 : decode cX2_takeEggs 9 = .ok (.if_icmp .ge 26, 3) := by decide +kernel
theorem dX2_takeEggs_12 : decode cX2_takeEggs 12 = .ok (.iload_n 1, 1) := by decide +kernel
theorem dX2_takeEggs_13 : decode cX2_takeEggs 13 = .ok (.iload_n 3, 1) := by decide +kernel
theorem dX2_takeEggs_14 : decode cX2_takeEggs 14 = .ok (.ishr, 1) := by decide +kernel
theorem dX2_takeEggs_15 : decode cX2_takeEggs 15 = .ok (.iconst 1, 1) := by decide +kernel
theorem dX2_takeEggs_16 : decode cX2_takeEggs 16 = .ok (.iand, 1) := by decide +kernel
theorem dX2_takeEggs_17 : decode cX2_takeEggs 17 = .ok (.iconst 1, 1) := by decide +kernel
theorem dX2_takeEggs_18 : decode cX2_takeEggs 18 = .ok (.if_icmp .ne 11, 3) := by decide +kernel
theorem dX2_takeEggs_21 : decode cX2_takeEggs 21 = .ok (.iload_n 2, 1) := by decide +kernel
theorem dX2_takeEggs_22 : decode cX2_takeEggs 22 = .ok (.aload_n 0, 1) := by decide +kernel
theorem dX2_takeEggs_23 : decode cX2_takeEggs 23 = .ok (.iload_n 3, 1) := by decide +kernel
theorem dX2_takeEggs_24 : decode cX2_takeEggs 24 = .ok (.invokevirtual 75, 3) := by decide +kernel
theorem dX2_takeEggs_27 : decode cX2_takeEggs 27 = .ok (.iadd, 1) := by decide +kernel
theorem dX2_takeEggs_28 : decode cX2_takeEggs 28 = .ok (.istore_n 2, 1) := by decide +kernel
theorem dX2_takeEggs_29 : decode cX2_takeEggs 29 = .ok (.iinc 3 1, 3) := by decide +kernel
theorem dX2_takeEggs_32 : decode cX2_takeEggs 32 = .ok (.goto (-28), 3) := by decide +kernel
theorem dX2_takeEggs_35 : decode cX2_takeEggs 35 = .ok (.aload_n 0, 1) := by decide +kernel
theorem dX2_takeEggs_36 : decode cX2_takeEggs 36 = .ok (.dup, 1) := by decide +kernel
theorem dX2_takeEggs_37 : decode cX2_takeEggs 37 = .ok (.getfield 56, 3) := by decide +kernel
theorem dX2_takeEggs_40 : decode cX2_takeEggs 40 = .ok (.iload_n 1, 1) := by decide +kernel
theorem dX2_takeEggs_41 : decode cX2_takeEggs 41 = .ok (.ior, 1) := by decide +kernel
theorem dX2_takeEggs_42 : decode cX2_takeEggs 42 = .ok (.putfield 56, 3) := by decide +kernel
theorem dX2_takeEggs_45 : decode cX2_takeEggs 45 = .ok (.iload_n 2, 1) := by decide +kernel
theorem dX2_takeEggs_46 : decode cX2_takeEggs 46 = .ok (.ireturn, 1) := by decide +kernel
theorem dX2_emptyNest_0 : decode cX2_emptyNest 0 = .ok (.iconst 0, 1) := by decide +kernel
theorem dX2_emptyNest_1 : decode cX2_emptyNest 1 = .ok (.istore_n 2, 1) := by decide +kernel
theorem dX2_emptyNest_2 : decode cX2_emptyNest 2 = .ok (.iload_n 1, 1) := by decide +kernel
theorem dX2_emptyNest_3 : decode cX2_emptyNest 3 = .ok (.iconst 1, 1) := by decide +kernel
theorem dX2_emptyNest_4 : decode cX2_emptyNest 4 = .ok (.iadd, 1) := by decide +kernel
theorem dX2_emptyNest_5 : decode cX2_emptyNest 5 = .ok (.bipush 10, 2) := by decide +kernel
theorem dX2_emptyNest_7 : decode cX2_emptyNest 7 = .ok (.imul, 1) := by decide +kernel
theorem dX2_emptyNest_8 : decode cX2_emptyNest 8 = .ok (.istore_n 3, 1) := by decide +kernel
theorem dX2_emptyNest_9 : decode cX2_emptyNest 9 = .ok (.iload_n 1, 1) := by decide +kernel
theorem dX2_emptyNest_10 : decode cX2_emptyNest 10 = .ok (.bipush 10, 2) := by decide +kernel
theorem dX2_emptyNest_12 : decode cX2_emptyNest 12 = .ok (.imul, 1) := by decide +kernel
theorem dX2_emptyNest_13 : decode cX2_emptyNest 13 = .ok (.istore 4, 2) := by decide +kernel
theorem dX2_emptyNest_15 : decode cX2_emptyNest 15 = .ok (.iload 4, 2) := by decide +kernel
theorem dX2_emptyNest_17 : decode cX2_emptyNest 17 = .ok (.iload_n 3, 1) := by decide +kernel
theorem dX2_emptyNest_18 : decode cX2_emptyNest 18 = .ok (.if_icmp .ge 27, 3) := by decide +kernel
theorem dX2_emptyNest_21 : decode cX2_emptyNest 21 = .ok (.iload_n 2, 1) := by decide +kernel
theorem dX2_emptyNest_22 : decode cX2_emptyNest 22 = .ok (.aload_n 0, 1) := by decide +kernel
theorem dX2_emptyNest_23 : decode cX2_emptyNest 23 = .ok (.getfield 24, 3) := by decide +kernel
theorem dX2_emptyNest_26 : decode cX2_emptyNest 26 = .ok (.iload 4, 2) := by decide +kernel
theorem dX2_emptyNest_28 : decode cX2_emptyNest 28 = .ok (.iaload, 1) := by decide +kernel
theorem dX2_emptyNest_29 : decode cX2_emptyNest 29 = .ok (.iadd, 1) := by decide +kernel
theorem dX2_emptyNest_30 : decode cX2_emptyNest 30 = .ok (.istore_n 2, 1) := by decide +kernel
theorem dX2_emptyNest_31 : decode cX2_emptyNest 31 = .ok (.aload_n 0, 1) := by decide +kernel
theorem dX2_emptyNest_32 : decode cX2_emptyNest 32 = .ok (.getfield 24, 3) := by decide +kernel
theorem dX2_emptyNest_35 : decode cX2_emptyNest 35 = .ok (.iload 4, 2) := by decide +kernel
theorem dX2_emptyNest_37 : decode cX2_emptyNest 37 = .ok (.iconst 0, 1) := by decide +kernel
theorem dX2_emptyNest_38 : decode cX2_emptyNest 38 = .ok (.iastore, 1) := by decide +kernel
theorem dX2_emptyNest_39 : decode cX2_emptyNest 39 = .ok (.iinc 4 1, 3) := by decide +kernel
theorem dX2_emptyNest_42 : decode cX2_emptyNest 42 = .ok (.goto (-27), 3) := by decide +kernel
theorem dX2_emptyNest_45 : decode cX2_emptyNest 45 = .ok (.iload_n 2, 1) := by decide +kernel
theorem dX2_emptyNest_46 : decode cX2_emptyNest 46 = .ok (.ireturn, 1) := by decide +kernel
theorem dX2_mayAmong_0 : decode cX2_mayAmong 0 = .ok (.iload_n 1, 1) := by decide +kernel
theorem dX2_mayAmong_1 : decode cX2_mayAmong 1 = .ok (.aload_n 0, 1) := by decide +kernel
theorem dX2_mayAmong_2 : decode cX2_mayAmong 2 = .ok (.getfield 56, 3) := by decide +kernel
theorem dX2_mayAmong_5 : decode cX2_mayAmong 5 = .ok (.iconst (-1), 1) := by decide +kernel
theorem dX2_mayAmong_6 : decode cX2_mayAmong 6 = .ok (.ixor, 1) := by decide +kernel
theorem dX2_mayAmong_7 : decode cX2_mayAmong 7 = .ok (.iand, 1) := by decide +kernel
theorem dX2_mayAmong_8 : decode cX2_mayAmong 8 = .ok (.istore_n 2, 1) := by decide +kernel
theorem dX2_mayAmong_9 : decode cX2_mayAmong 9 = .ok (.iload_n 2, 1) := by decide +kernel
theorem dX2_mayAmong_10 : decode cX2_mayAmong 10 = .ok (.ifCond .eq 7, 3) := by decide +kernel
theorem dX2_mayAmong_13 : decode cX2_mayAmong 13 = .ok (.iload_n 2, 1) := by decide +kernel
theorem dX2_mayAmong_14 : decode cX2_mayAmong 14 = .ok (.goto 4, 3) := by decide +kernel
theorem dX2_mayAmong_17 : decode cX2_mayAmong 17 = .ok (.iload_n 1, 1) := by decide +kernel
theorem dX2_mayAmong_18 : decode cX2_mayAmong 18 = .ok (.ireturn, 1) := by decide +kernel
theorem dX2_weigh_0 : decode cX2_weigh 0 = .ok (.iconst 0, 1) := by decide +kernel
theorem dX2_weigh_1 : decode cX2_weigh 1 = .ok (.istore_n 2, 1) := by decide +kernel
theorem dX2_weigh_2 : decode cX2_weigh 2 = .ok (.iconst 0, 1) := by decide +kernel
theorem dX2_weigh_3 : decode cX2_weigh 3 = .ok (.istore_n 3, 1) := by decide +kernel
theorem dX2_weigh_4 : decode cX2_weigh 4 = .ok (.iload_n 3, 1) := by decide +kernel
theorem dX2_weigh_5 : decode cX2_weigh 5 = .ok (.aload_n 0, 1) := by decide +kernel
theorem dX2_weigh_6 : decode cX2_weigh 6 = .ok (.getfield 43, 3) := by decide +kernel
theorem dX2_weigh_9 : decode cX2_weigh 9 = .ok (.if_icmp .ge 42, 3) := by decide +kernel
theorem dX2_weigh_12 : decode cX2_weigh 12 = .ok (.aload_n 0, 1) := by decide +kernel
theorem dX2_weigh_13 : decode cX2_weigh 13 = .ok (.getfield 30, 3) := by decide +kernel
theorem dX2_weigh_16 : decode cX2_weigh 16 = .ok (.iload_n 3, 1) := by decide +kernel
theorem dX2_weigh_17 : decode cX2_weigh 17 = .ok (.iload_n 1, 1) := by decide +kernel
theorem dX2_weigh_18 : decode cX2_weigh 18 = .ok (.iload_n 3, 1) := by decide +kernel
theorem dX2_weigh_19 : decode cX2_weigh 19 = .ok (.ishr, 1) := by decide +kernel
theorem dX2_weigh_20 : decode cX2_weigh 20 = .ok (.iconst 1, 1) := by decide +kernel
theorem dX2_weigh_21 : decode cX2_weigh 21 = .ok (.iand, 1) := by decide +kernel
theorem dX2_weigh_22 : decode cX2_weigh 22 = .ok (.iconst 1, 1) := by decide +kernel
theorem dX2_weigh_23 : decode cX2_weigh 23 = .ok (.if_icmp .ne 11, 3) := by decide +kernel
theorem dX2_weigh_26 : decode cX2_weigh 26 = .ok (.aload_n 0, 1) := by decide +kernel
theorem dX2_weigh_27 : decode cX2_weigh 27 = .ok (.iload_n 3, 1) := by decide +kernel
theorem dX2_weigh_28 : decode cX2_weigh 28 = .ok (.invokevirtual 78, 3) := by decide +kernel
theorem dX2_weigh_31 : decode cX2_weigh 31 = .ok (.goto 4, 3) := by decide +kernel
theorem dX2_weigh_34 : decode cX2_weigh 34 = .ok (.iconst 0, 1) := by decide +kernel
theorem dX2_weigh_35 : decode cX2_weigh 35 = .ok (.iastore, 1) := by decide +kernel
theorem dX2_weigh_36 : decode cX2_weigh 36 = .ok (.iload_n 2, 1) := by decide +kernel
theorem dX2_weigh_37 : decode cX2_weigh 37 = .ok (.aload_n 0, 1) := by decide +kernel
theorem dX2_weigh_38 : decode cX2_weigh 38 = .ok (.getfield 30, 3) := by decide +kernel
theorem dX2_weigh_41 : decode cX2_weigh 41 = .ok (.iload_n 3, 1) := by decide +kernel
theorem dX2_weigh_42 : decode cX2_weigh 42 = .ok (.iaload, 1) := by decide +kernel
theorem dX2_weigh_43 : decode cX2_weigh 43 = .ok (.iadd, 1) := by decide +kernel
theorem dX2_weigh_44 : decode cX2_weigh 44 = .ok (.istore_n 2, 1) := by decide +kernel
theorem dX2_weigh_45 : decode cX2_weigh 45 = .ok (.iinc 3 1, 3) := by decide +kernel
theorem dX2_weigh_48 : decode cX2_weigh 48 = .ok (.goto (-44), 3) := by decide +kernel
theorem dX2_weigh_51 : decode cX2_weigh 51 = .ok (.iload_n 2, 1) := by decide +kernel
theorem dX2_weigh_52 : decode cX2_weigh 52 = .ok (.ifCond .le 7, 3) := by decide +kernel
theorem dX2_weigh_55 : decode cX2_weigh 55 = .ok (.iload_n 2, 1) := by decide +kernel
theorem dX2_weigh_56 : decode cX2_weigh 56 = .ok (.goto 8, 3) := by decide +kernel
theorem dX2_weigh_59 : decode cX2_weigh 59 = .ok (.aload_n 0, 1) := by decide +kernel
theorem dX2_weigh_60 : decode cX2_weigh 60 = .ok (.iload_n 1, 1) := by decide +kernel
theorem dX2_weigh_61 : decode cX2_weigh 61 = .ok (.invokevirtual 81, 3) := by decide +kernel
theorem dX2_weigh_64 : decode cX2_weigh 64 = .ok (.ireturn, 1) := by decide +kernel
theorem dX2_weighAlike_0 : decode cX2_weighAlike 0 = .ok (.iconst 0, 1) := by decide +kernel
theorem dX2_weighAlike_1 : decode cX2_weighAlike 1 = .ok (.istore_n 2, 1) := by decide +kernel
theorem dX2_weighAlike_2 : decode cX2_weighAlike 2 = .ok (.iload_n 2, 1) := by decide +kernel
theorem dX2_weighAlike_3 : decode cX2_weighAlike 3 = .ok (.aload_n 0, 1) := by decide +kernel
theorem dX2_weighAlike_4 : decode cX2_weighAlike 4 = .ok (.getfield 43, 3) := by decide +kernel
theorem dX2_weighAlike_7 : decode cX2_weighAlike 7 = .ok (.if_icmp .ge 20, 3) := by decide +kernel
theorem dX2_weighAlike_10 : decode cX2_weighAlike 10 = .ok (.aload_n 0, 1) := by decide +kernel
theorem dX2_weighAlike_11 : decode cX2_weighAlike 11 = .ok (.getfield 30, 3) := by decide +kernel
theorem dX2_weighAlike_14 : decode cX2_weighAlike 14 = .ok (.iload_n 2, 1) := by decide +kernel
theorem dX2_weighAlike_15 : decode cX2_weighAlike 15 = .ok (.iload_n 1, 1) := by decide +kernel
theorem dX2_weighAlike_16 : decode cX2_weighAlike 16 = .ok (.iload_n 2, 1) := by decide +kernel
theorem dX2_weighAlike_17 : decode cX2_weighAlike 17 = .ok (.ishr, 1) := by decide +kernel
theorem dX2_weighAlike_18 : decode cX2_weighAlike 18 = .ok (.iconst 1, 1) := by decide +kernel
theorem dX2_weighAlike_19 : decode cX2_weighAlike 19 = .ok (.iand, 1) := by decide +kernel
theorem dX2_weighAlike_20 : decode cX2_weighAlike 20 = .ok (.iastore, 1) := by decide +kernel
theorem dX2_weighAlike_21 : decode cX2_weighAlike 21 = .ok (.iinc 2 1, 3) := by decide +kernel
theorem dX2_weighAlike_24 : decode cX2_weighAlike 24 = .ok (.goto (-22), 3) := by decide +kernel
theorem dX2_weighAlike_27 : decode cX2_weighAlike 27 = .ok (.iload_n 1, 1) := by decide +kernel
theorem dX2_weighAlike_28 : decode cX2_weighAlike 28 = .ok (.invokestatic 84, 3) := by decide +kernel
theorem dX2_weighAlike_31 : decode cX2_weighAlike 31 = .ok (.ireturn, 1) := by decide +kernel
theorem dX2_weightOf_0 : decode cX2_weightOf 0 = .ok (.aload_n 0, 1) := by decide +kernel
theorem dX2_weightOf_1 : decode cX2_weightOf 1 = .ok (.getfield 33, 3) := by decide +kernel
theorem dX2_weightOf_4 : decode cX2_weightOf 4 = .ok (.ifCond .lt 21, 3) := by decide +kernel
theorem dX2_weightOf_7 : decode cX2_weightOf 7 = .ok (.aload_n 0, 1) := by decide +kernel
theorem dX2_weightOf_8 : decode cX2_weightOf 8 = .ok (.getfield 33, 3) := by decide +kernel
theorem dX2_weightOf_11 : decode cX2_weightOf 11 = .ok (.aload_n 0, 1) := by decide +kernel
theorem dX2_weightOf_12 : decode cX2_weightOf 12 = .ok (.getfield 43, 3) := by decide +kernel
theorem dX2_weightOf_15 : decode cX2_weightOf 15 = .ok (.if_icmp .ge 10, 3) := by decide +kernel
theorem dX2_weightOf_18 : decode cX2_weightOf 18 = .ok (.aload_n 0, 1) := by decide +kernel
theorem dX2_weightOf_19 : decode cX2_weightOf 19 = .ok (.getfield 33, 3) := by decide +kernel
theorem dX2_weightOf_22 : decode cX2_weightOf 22 = .ok (.goto 4, 3) := by decide +kernel
theorem dX2_weightOf_25 : decode cX2_weightOf 25 = .ok (.iconst 0, 1) := by decide +kernel
theorem dX2_weightOf_26 : decode cX2_weightOf 26 = .ok (.istore_n 2, 1) := by decide +kernel
theorem dX2_weightOf_27 : decode cX2_weightOf 27 = .ok (.bipush 20, 2) := by decide +kernel
theorem dX2_weightOf_29 : decode cX2_weightOf 29 = .ok (.aload_n 0, 1) := by decide +kernel
theorem dX2_weightOf_30 : decode cX2_weightOf 30 = .ok (.getfield 9, 3) := by decide +kernel
theorem dX2_weightOf_33 : decode cX2_weightOf 33 = .ok (.iload_n 1, 1) := by decide +kernel
theorem dX2_weightOf_34 : decode cX2_weightOf 34 = .ok (.iaload, 1) := by decide +kernel
theorem dX2_weightOf_35 : decode cX2_weightOf 35 = .ok (.aload_n 0, 1) := by decide +kernel
theorem dX2_weightOf_36 : decode cX2_weightOf 36 = .ok (.getfield 9, 3) := by decide +kernel
theorem dX2_weightOf_39 : decode cX2_weightOf 39 = .ok (.iload_n 2, 1) := by decide +kernel
theorem dX2_weightOf_40 : decode cX2_weightOf 40 = .ok (.iaload, 1) := by decide +kernel
theorem dX2_weightOf_41 : decode cX2_weightOf 41 = .ok (.isub, 1) := by decide +kernel
theorem dX2_weightOf_42 : decode cX2_weightOf 42 = .ok (.invokestatic 89, 3) := by decide +kernel
theorem dX2_weightOf_45 : decode cX2_weightOf 45 = .ok (.isub, 1) := by decide +kernel
theorem dX2_weightOf_46 : decode cX2_weightOf 46 = .ok (.aload_n 0, 1) := by decide +kernel
theorem dX2_weightOf_47 : decode cX2_weightOf 47 = .ok (.getfield 15, 3) := by decide +kernel
theorem dX2_weightOf_50 : decode cX2_weightOf 50 = .ok (.iload_n 1, 1) := by decide +kernel
theorem dX2_weightOf_51 : decode cX2_weightOf 51 = .ok (.iaload, 1) := by decide +kernel
theorem dX2_weightOf_52 : decode cX2_weightOf 52 = .ok (.aload_n 0, 1) := by decide +kernel
theorem dX2_weightOf_53 : decode cX2_weightOf 53 = .ok (.getfield 15, 3) := by decide +kernel
theorem dX2_weightOf_56 : decode cX2_weightOf 56 = .ok (.iload_n 2, 1) := by decide +kernel
theorem dX2_weightOf_57 : decode cX2_weightOf 57 = .ok (.iaload, 1) := by decide +kernel
theorem dX2_weightOf_58 : decode cX2_weightOf 58 = .ok (.isub, 1) := by decide +kernel
theorem dX2_weightOf_59 : decode cX2_weightOf 59 = .ok (.invokestatic 89, 3) := by decide +kernel
theorem dX2_weightOf_62 : decode cX2_weightOf 62 = .ok (.isub, 1) := by decide +kernel
theorem dX2_weightOf_63 : decode cX2_weightOf 63 = .ok (.istore_n 3, 1) := by decide +kernel
theorem dX2_weightOf_64 : decode cX2_weightOf 64 = .ok (.iload_n 1, 1) := by decide +kernel
theorem dX2_weightOf_65 : decode cX2_weightOf 65 = .ok (.aload_n 0, 1) := by decide +kernel
theorem dX2_weightOf_66 : decode cX2_weightOf 66 = .ok (.getfield 33, 3) := by decide +kernel
theorem dX2_weightOf_69 : decode cX2_weightOf 69 = .ok (.if_icmp .ne 7, 3) := by decide +kernel
theorem dX2_weightOf_72 : decode cX2_weightOf 72 = .ok (.iconst 0, 1) := by decide +kernel
theorem dX2_weightOf_73 : decode cX2_weightOf 73 = .ok (.goto 4, 3) := by decide +kernel
theorem dX2_weightOf_76 : decode cX2_weightOf 76 = .ok (.iload_n 3, 1) := by decide +kernel
theorem dX2_weightOf_77 : decode cX2_weightOf 77 = .ok (.istore 4, 2) := by decide +kernel
theorem dX2_weightOf_79 : decode cX2_weightOf 79 = .ok (.aload_n 0, 1) := by decide +kernel
theorem dX2_weightOf_80 : decode cX2_weightOf 80 = .ok (.getfield 27, 3) := by decide +kernel
theorem dX2_weightOf_83 : decode cX2_weightOf 83 = .ok (.iconst 0, 1) := by decide +kernel
theorem dX2_weightOf_84 : decode cX2_weightOf 84 = .ok (.iaload, 1) := by decide +kernel
theorem dX2_weightOf_85 : decode cX2_weightOf 85 = .ok (.tableswitch 94 1 5 #[35, 42, 44, 47, 70], 35) := by decide +kernel
theorem dX2_weightOf_120 : decode cX2_weightOf 120 = .ok (.aload_n 0, 1) := by decide +kernel
theorem dX2_weightOf_121 : decode cX2_weightOf 121 = .ok (.getfield 21, 3) := by decide +kernel
theorem dX2_weightOf_124 : decode cX2_weightOf 124 = .ok (.iload_n 1, 1) := by decide +kernel
theorem dX2_weightOf_125 : decode cX2_weightOf 125 = .ok (.iaload, 1) := by decide +kernel
theorem dX2_weightOf_126 : decode cX2_weightOf 126 = .ok (.ireturn, 1) := by decide +kernel
theorem dX2_weightOf_127 : decode cX2_weightOf 127 = .ok (.iconst 1, 1) := by decide +kernel
theorem dX2_weightOf_128 : decode cX2_weightOf 128 = .ok (.ireturn, 1) := by decide +kernel
theorem dX2_weightOf_129 : decode cX2_weightOf 129 = .ok (.iload 4, 2) := by decide +kernel
theorem dX2_weightOf_131 : decode cX2_weightOf 131 = .ok (.ireturn, 1) := by decide +kernel
theorem dX2_weightOf_132 : decode cX2_weightOf 132 = .ok (.iload 4, 2) := by decide +kernel
theorem dX2_weightOf_134 : decode cX2_weightOf 134 = .ok (.aload_n 0, 1) := by decide +kernel
theorem dX2_weightOf_135 : decode cX2_weightOf 135 = .ok (.getfield 27, 3) := by decide +kernel
theorem dX2_weightOf_138 : decode cX2_weightOf 138 = .ok (.iconst 1, 1) := by decide +kernel
theorem dX2_weightOf_139 : decode cX2_weightOf 139 = .ok (.iaload, 1) := by decide +kernel
theorem dX2_weightOf_140 : decode cX2_weightOf 140 = .ok (.iconst 0, 1) := by decide +kernel
theorem dX2_weightOf_141 : decode cX2_weightOf 141 = .ok (.bipush 9, 2) := by decide +kernel
theorem dX2_weightOf_143 : decode cX2_weightOf 143 = .ok (.aload_n 0, 1) := by decide +kernel
theorem dX2_weightOf_144 : decode cX2_weightOf 144 = .ok (.iload_n 1, 1) := by decide +kernel
theorem dX2_weightOf_145 : decode cX2_weightOf 145 = .ok (.invokevirtual 68, 3) := by decide +kernel
theorem dX2_weightOf_148 : decode cX2_weightOf 148 = .ok (.isub, 1) := by decide +kernel
theorem dX2_weightOf_149 : decode cX2_weightOf 149 = .ok (.invokestatic 94, 3) := by decide +kernel
theorem dX2_weightOf_152 : decode cX2_weightOf 152 = .ok (.imul, 1) := by decide +kernel
theorem dX2_weightOf_153 : decode cX2_weightOf 153 = .ok (.iadd, 1) := by decide +kernel
theorem dX2_weightOf_154 : decode cX2_weightOf 154 = .ok (.ireturn, 1) := by decide +kernel
theorem dX2_weightOf_155 : decode cX2_weightOf 155 = .ok (.aload_n 0, 1) := by decide +kernel
theorem dX2_weightOf_156 : decode cX2_weightOf 156 = .ok (.getfield 21, 3) := by decide +kernel
theorem dX2_weightOf_159 : decode cX2_weightOf 159 = .ok (.iload_n 1, 1) := by decide +kernel
theorem dX2_weightOf_160 : decode cX2_weightOf 160 = .ok (.iaload, 1) := by decide +kernel
theorem dX2_weightOf_161 : decode cX2_weightOf 161 = .ok (.iload_n 1, 1) := by decide +kernel
theorem dX2_weightOf_162 : decode cX2_weightOf 162 = .ok (.aload_n 0, 1) := by decide +kernel
theorem dX2_weightOf_163 : decode cX2_weightOf 163 = .ok (.getfield 27, 3) := by decide +kernel
theorem dX2_weightOf_166 : decode cX2_weightOf 166 = .ok (.iconst 1, 1) := by decide +kernel
theorem dX2_weightOf_167 : decode cX2_weightOf 167 = .ok (.iaload, 1) := by decide +kernel
theorem dX2_weightOf_168 : decode cX2_weightOf 168 = .ok (.if_icmp .ne 8, 3) := by decide +kernel
theorem dX2_weightOf_171 : decode cX2_weightOf 171 = .ok (.bipush 10, 2) := by decide +kernel
theorem dX2_weightOf_173 : decode cX2_weightOf 173 = .ok (.goto 4, 3) := by decide +kernel
theorem dX2_weightOf_176 : decode cX2_weightOf 176 = .ok (.iconst 0, 1) := by decide +kernel
theorem dX2_weightOf_177 : decode cX2_weightOf 177 = .ok (.iadd, 1) := by decide +kernel
theorem dX2_weightOf_178 : decode cX2_weightOf 178 = .ok (.ireturn, 1) := by decide +kernel
theorem dX2_weightOf_179 : decode cX2_weightOf 179 = .ok (.iload_n 3, 1) := by decide +kernel
theorem dX2_weightOf_180 : decode cX2_weightOf 180 = .ok (.ireturn, 1) := by decide +kernel
theorem dX2_laysAmong_0 : decode cX2_laysAmong 0 = .ok (.aload_n 0, 1) := by decide +kernel
theorem dX2_laysAmong_1 : decode cX2_laysAmong 1 = .ok (.iload_n 1, 1) := by decide +kernel
theorem dX2_laysAmong_2 : decode cX2_laysAmong 2 = .ok (.invokevirtual 98, 3) := by decide +kernel
theorem dX2_laysAmong_5 : decode cX2_laysAmong 5 = .ok (.istore_n 2, 1) := by decide +kernel
theorem dX2_laysAmong_6 : decode cX2_laysAmong 6 = .ok (.aload_n 0, 1) := by decide +kernel
theorem dX2_laysAmong_7 : decode cX2_laysAmong 7 = .ok (.getfield 27, 3) := by decide +kernel
theorem dX2_laysAmong_10 : decode cX2_laysAmong 10 = .ok (.iconst 0, 1) := by decide +kernel
theorem dX2_laysAmong_11 : decode cX2_laysAmong 11 = .ok (.iaload, 1) := by decide +kernel
theorem dX2_laysAmong_12 : decode cX2_laysAmong 12 = .ok (.iconst 2, 1) := by decide +kernel
theorem dX2_laysAmong_13 : decode cX2_laysAmong 13 = .ok (.if_icmp .ne 9, 3) := by decide +kernel
theorem dX2_laysAmong_16 : decode cX2_laysAmong 16 = .ok (.aload_n 0, 1) := by decide +kernel
theorem dX2_laysAmong_17 : decode cX2_laysAmong 17 = .ok (.iload_n 2, 1) := by decide +kernel
theorem dX2_laysAmong_18 : decode cX2_laysAmong 18 = .ok (.invokevirtual 101, 3) := by decide +kernel
theorem dX2_laysAmong_21 : decode cX2_laysAmong 21 = .ok (.ireturn, 1) := by decide +kernel
theorem dX2_laysAmong_22 : decode cX2_laysAmong 22 = .ok (.aload_n 0, 1) := by decide +kernel
theorem dX2_laysAmong_23 : decode cX2_laysAmong 23 = .ok (.iload_n 2, 1) := by decide +kernel
theorem dX2_laysAmong_24 : decode cX2_laysAmong 24 = .ok (.invokevirtual 104, 3) := by decide +kernel
theorem dX2_laysAmong_27 : decode cX2_laysAmong 27 = .ok (.pop, 1) := by decide +kernel
theorem dX2_laysAmong_28 : decode cX2_laysAmong 28 = .ok (.bipush (-9), 2) := by decide +kernel
theorem dX2_laysAmong_30 : decode cX2_laysAmong 30 = .ok (.istore_n 3, 1) := by decide +kernel
theorem dX2_laysAmong_31 : decode cX2_laysAmong 31 = .ok (.iconst 0, 1) := by decide +kernel
theorem dX2_laysAmong_32 : decode cX2_laysAmong 32 = .ok (.istore 4, 2) := by decide +kernel
theorem dX2_laysAmong_34 : decode cX2_laysAmong 34 = .ok (.iconst 0, 1) := by decide +kernel
theorem dX2_laysAmong_35 : decode cX2_laysAmong 35 = .ok (.istore 5, 2) := by decide +kernel
theorem dX2_laysAmong_37 : decode cX2_laysAmong 37 = .ok (.iload 5, 2) := by decide +kernel
theorem dX2_laysAmong_39 : decode cX2_laysAmong 39 = .ok (.aload_n 0, 1) := by decide +kernel
theorem dX2_laysAmong_40 : decode cX2_laysAmong 40 = .ok (.getfield 43, 3) := by decide +kernel
theorem dX2_laysAmong_43 : decode cX2_laysAmong 43 = .ok (.if_icmp .ge 33, 3) := by decide +kernel
theorem dX2_laysAmong_46 : decode cX2_laysAmong 46 = .ok (.aload_n 0, 1) := by decide +kernel
theorem dX2_laysAmong_47 : decode cX2_laysAmong 47 = .ok (.getfield 30, 3) := by decide +kernel
theorem dX2_laysAmong_50 : decode cX2_laysAmong 50 = .ok (.iload 5, 2) := by decide +kernel
theorem dX2_laysAmong_52 : decode cX2_laysAmong 52 = .ok (.iaload, 1) := by decide +kernel
theorem dX2_laysAmong_53 : decode cX2_laysAmong 53 = .ok (.iload 4, 2) := by decide +kernel
theorem dX2_laysAmong_55 : decode cX2_laysAmong 55 = .ok (.if_icmp .le 15, 3) := by decide +kernel
theorem dX2_laysAmong_58 : decode cX2_laysAmong 58 = .ok (.aload_n 0, 1) := by decide +kernel
theorem dX2_laysAmong_59 : decode cX2_laysAmong 59 = .ok (.getfield 30, 3) := by decide +kernel
theorem dX2_laysAmong_62 : decode cX2_laysAmong 62 = .ok (.iload 5, 2) := by decide +kernel
theorem dX2_laysAmong_64 : decode cX2_laysAmong 64 = .ok (.iaload, 1) := by decide +kernel
theorem dX2_laysAmong_65 : decode cX2_laysAmong 65 = .ok (.istore 4, 2) := by decide +kernel
theorem dX2_laysAmong_67 : decode cX2_laysAmong 67 = .ok (.iload 5, 2) := by decide +kernel
theorem dX2_laysAmong_69 : decode cX2_laysAmong 69 = .ok (.istore_n 3, 1) := by decide +kernel
theorem dX2_laysAmong_70 : decode cX2_laysAmong 70 = .ok (.iinc 5 1, 3) := by decide +kernel
theorem dX2_laysAmong_73 : decode cX2_laysAmong 73 = .ok (.goto (-36), 3) := by decide +kernel
theorem dX2_laysAmong_76 : decode cX2_laysAmong 76 = .ok (.iload_n 3, 1) := by decide +kernel
theorem dX2_laysAmong_77 : decode cX2_laysAmong 77 = .ok (.ireturn, 1) := by decide +kernel
theorem dX2_nestByLot_0 : decode cX2_nestByLot 0 = .ok (.iload_n 1, 1) := by decide +kernel
theorem dX2_nestByLot_1 : decode cX2_nestByLot 1 = .ok (.invokestatic 84, 3) := by decide +kernel
theorem dX2_nestByLot_4 : decode cX2_nestByLot 4 = .ok (.istore_n 2, 1) := by decide +kernel
theorem dX2_nestByLot_5 : decode cX2_nestByLot 5 = .ok (.iload_n 2, 1) := by decide +kernel
theorem dX2_nestByLot_6 : decode cX2_nestByLot 6 = .ok (.ifCond .ne 6, 3) := by decide +kernel
theorem dX2_nestByLot_9 : decode cX2_nestByLot 9 = .ok (.bipush (-9), 2) := by decide +kernel
theorem dX2_nestByLot_11 : decode cX2_nestByLot 11 = .ok (.ireturn, 1) := by decide +kernel
theorem dX2_nestByLot_12 : decode cX2_nestByLot 12 = .ok (.aload_n 0, 1) := by decide +kernel
theorem dX2_nestByLot_13 : decode cX2_nestByLot 13 = .ok (.getfield 59, 3) := by decide +kernel
theorem dX2_nestByLot_16 : decode cX2_nestByLot 16 = .ok (.aload_n 0, 1) := by decide +kernel
theorem dX2_nestByLot_17 : decode cX2_nestByLot 17 = .ok (.getfield 27, 3) := by decide +kernel
theorem dX2_nestByLot_20 : decode cX2_nestByLot 20 = .ok (.iconst 1, 1) := by decide +kernel
theorem dX2_nestByLot_21 : decode cX2_nestByLot 21 = .ok (.iaload, 1) := by decide +kernel
theorem dX2_nestByLot_22 : decode cX2_nestByLot 22 = .ok (.iconst 1, 1) := by decide +kernel
theorem dX2_nestByLot_23 : decode cX2_nestByLot 23 = .ok (.iadd, 1) := by decide +kernel
theorem dX2_nestByLot_24 : decode cX2_nestByLot 24 = .ok (.imul, 1) := by decide +kernel
theorem dX2_nestByLot_25 : decode cX2_nestByLot 25 = .ok (.iload_n 2, 1) := by decide +kernel
theorem dX2_nestByLot_26 : decode cX2_nestByLot 26 = .ok (.irem, 1) := by decide +kernel
theorem dX2_nestByLot_27 : decode cX2_nestByLot 27 = .ok (.istore_n 3, 1) := by decide +kernel
theorem dX2_nestByLot_28 : decode cX2_nestByLot 28 = .ok (.iconst 0, 1) := by decide +kernel
theorem dX2_nestByLot_29 : decode cX2_nestByLot 29 = .ok (.istore 4, 2) := by decide +kernel
theorem dX2_nestByLot_31 : decode cX2_nestByLot 31 = .ok (.iload 4, 2) := by decide +kernel
theorem dX2_nestByLot_33 : decode cX2_nestByLot 33 = .ok (.aload_n 0, 1) := by decide +kernel
theorem dX2_nestByLot_34 : decode cX2_nestByLot 34 = .ok (.getfield 43, 3) := by decide +kernel
theorem dX2_nestByLot_37 : decode cX2_nestByLot 37 = .ok (.if_icmp .ge 29, 3) := by decide +kernel
theorem dX2_nestByLot_40 : decode cX2_nestByLot 40 = .ok (.iload_n 1, 1) := by decide +kernel
theorem dX2_nestByLot_41 : decode cX2_nestByLot 41 = .ok (.iload 4, 2) := by decide +kernel
theorem dX2_nestByLot_43 : decode cX2_nestByLot 43 = .ok (.ishr, 1) := by decide +kernel
theorem dX2_nestByLot_44 : decode cX2_nestByLot 44 = .ok (.iconst 1, 1) := by decide +kernel
theorem dX2_nestByLot_45 : decode cX2_nestByLot 45 = .ok (.iand, 1) := by decide +kernel
theorem dX2_nestByLot_46 : decode cX2_nestByLot 46 = .ok (.iconst 1, 1) := by decide +kernel
theorem dX2_nestByLot_47 : decode cX2_nestByLot 47 = .ok (.if_icmp .ne 13, 3) := by decide +kernel
theorem dX2_nestByLot_50 : decode cX2_nestByLot 50 = .ok (.iload_n 3, 1) := by decide +kernel
theorem dX2_nestByLot_51 : decode cX2_nestByLot 51 = .ok (.ifCond .ne 6, 3) := by decide +kernel
theorem dX2_nestByLot_54 : decode cX2_nestByLot 54 = .ok (.iload 4, 2) := by decide +kernel
theorem dX2_nestByLot_56 : decode cX2_nestByLot 56 = .ok (.ireturn, 1) := by decide +kernel
theorem dX2_nestByLot_57 : decode cX2_nestByLot 57 = .ok (.iinc 3 (-1), 3) := by decide +kernel
theorem dX2_nestByLot_60 : decode cX2_nestByLot 60 = .ok (.iinc 4 1, 3) := by decide +kernel
theorem dX2_nestByLot_63 : decode cX2_nestByLot 63 = .ok (.goto (-32), 3) := by decide +kernel
theorem dX2_nestByLot_66 : decode cX2_nestByLot 66 = .ok (.bipush (-9), 2) := by decide +kernel
theorem dX2_nestByLot_68 : decode cX2_nestByLot 68 = .ok (.ireturn, 1) := by decide +kernel
theorem dX2_nestAtWeight_0 : decode cX2_nestAtWeight 0 = .ok (.iload_n 1, 1) := by decide +kernel
theorem dX2_nestAtWeight_1 : decode cX2_nestAtWeight 1 = .ok (.istore_n 2, 1) := by decide +kernel
theorem dX2_nestAtWeight_2 : decode cX2_nestAtWeight 2 = .ok (.iconst 0, 1) := by decide +kernel
theorem dX2_nestAtWeight_3 : decode cX2_nestAtWeight 3 = .ok (.istore_n 3, 1) := by decide +kernel
theorem dX2_nestAtWeight_4 : decode cX2_nestAtWeight 4 = .ok (.iload_n 3, 1) := by decide +kernel
theorem dX2_nestAtWeight_5 : decode cX2_nestAtWeight 5 = .ok (.aload_n 0, 1) := by decide +kernel
theorem dX2_nestAtWeight_6 : decode cX2_nestAtWeight 6 = .ok (.getfield 43, 3) := by decide +kernel
theorem dX2_nestAtWeight_9 : decode cX2_nestAtWeight 9 = .ok (.if_icmp .ge 30, 3) := by decide +kernel
theorem dX2_nestAtWeight_12 : decode cX2_nestAtWeight 12 = .ok (.iload_n 2, 1) := by decide +kernel
theorem dX2_nestAtWeight_13 : decode cX2_nestAtWeight 13 = .ok (.aload_n 0, 1) := by decide +kernel
theorem dX2_nestAtWeight_14 : decode cX2_nestAtWeight 14 = .ok (.getfield 30, 3) := by decide +kernel
theorem dX2_nestAtWeight_17 : decode cX2_nestAtWeight 17 = .ok (.iload_n 3, 1) := by decide +kernel
theorem dX2_nestAtWeight_18 : decode cX2_nestAtWeight 18 = .ok (.iaload, 1) := by decide +kernel
theorem dX2_nestAtWeight_19 : decode cX2_nestAtWeight 19 = .ok (.if_icmp .ge 5, 3) := by decide +kernel
theorem dX2_nestAtWeight_22 : decode cX2_nestAtWeight 22 = .ok (.iload_n 3, 1) := by decide +kernel
theorem dX2_nestAtWeight_23 : decode cX2_nestAtWeight 23 = .ok (.ireturn, 1) := by decide +kernel
theorem dX2_nestAtWeight_24 : decode cX2_nestAtWeight 24 = .ok (.iload_n 2, 1) := by decide +kernel
theorem dX2_nestAtWeight_25 : decode cX2_nestAtWeight 25 = .ok (.aload_n 0, 1) := by decide +kernel
theorem dX2_nestAtWeight_26 : decode cX2_nestAtWeight 26 = .ok (.getfield 30, 3) := by decide +kernel
theorem dX2_nestAtWeight_29 : decode cX2_nestAtWeight 29 = .ok (.iload_n 3, 1) := by decide +kernel
theorem dX2_nestAtWeight_30 : decode cX2_nestAtWeight 30 = .ok (.iaload, 1) := by decide +kernel
theorem dX2_nestAtWeight_31 : decode cX2_nestAtWeight 31 = .ok (.isub, 1) := by decide +kernel
theorem dX2_nestAtWeight_32 : decode cX2_nestAtWeight 32 = .ok (.istore_n 2, 1) := by decide +kernel
theorem dX2_nestAtWeight_33 : decode cX2_nestAtWeight 33 = .ok (.iinc 3 1, 3) := by decide +kernel
theorem dX2_nestAtWeight_36 : decode cX2_nestAtWeight 36 = .ok (.goto (-32), 3) := by decide +kernel
theorem dX2_nestAtWeight_39 : decode cX2_nestAtWeight 39 = .ok (.bipush (-9), 2) := by decide +kernel
theorem dX2_nestAtWeight_41 : decode cX2_nestAtWeight 41 = .ok (.ireturn, 1) := by decide +kernel
theorem dX2_passNight_0 : decode cX2_passNight 0 = .ok (.iconst 0, 1) := by decide +kernel
theorem dX2_passNight_1 : decode cX2_passNight 1 = .ok (.istore_n 2, 1) := by decide +kernel
theorem dX2_passNight_2 : decode cX2_passNight 2 = .ok (.iload_n 2, 1) := by decide +kernel
theorem dX2_passNight_3 : decode cX2_passNight 3 = .ok (.aload_n 0, 1) := by decide +kernel
theorem dX2_passNight_4 : decode cX2_passNight 4 = .ok (.getfield 43, 3) := by decide +kernel
theorem dX2_passNight_7 : decode cX2_passNight 7 = .ok (.if_icmp .ge 17, 3) := by decide +kernel
theorem dX2_passNight_10 : decode cX2_passNight 10 = .ok (.aload_n 0, 1) := by decide +kernel
theorem dX2_passNight_11 : decode cX2_passNight 11 = .ok (.iload_n 2, 1) := by decide +kernel
theorem dX2_passNight_12 : decode cX2_passNight 12 = .ok (.bipush 10, 2) := by decide +kernel
theorem dX2_passNight_14 : decode cX2_passNight 14 = .ok (.imul, 1) := by decide +kernel
theorem dX2_passNight_15 : decode cX2_passNight 15 = .ok (.invokevirtual 107, 3) := by decide +kernel
theorem dX2_passNight_18 : decode cX2_passNight 18 = .ok (.iinc 2 1, 3) := by decide +kernel
theorem dX2_passNight_21 : decode cX2_passNight 21 = .ok (.goto (-19), 3) := by decide +kernel
theorem dX2_passNight_24 : decode cX2_passNight 24 = .ok (.iload_n 1, 1) := by decide +kernel
theorem dX2_passNight_25 : decode cX2_passNight 25 = .ok (.ifCond .lt 26, 3) := by decide +kernel
theorem dX2_passNight_28 : decode cX2_passNight 28 = .ok (.iload_n 1, 1) := by decide +kernel
theorem dX2_passNight_29 : decode cX2_passNight 29 = .ok (.aload_n 0, 1) := by decide +kernel
theorem dX2_passNight_30 : decode cX2_passNight 30 = .ok (.getfield 43, 3) := by decide +kernel
theorem dX2_passNight_33 : decode cX2_passNight 33 = .ok (.if_icmp .ge 18, 3) := by decide +kernel
theorem dX2_passNight_36 : decode cX2_passNight 36 = .ok (.aload_n 0, 1) := by decide +kernel
theorem dX2_passNight_37 : decode cX2_passNight 37 = .ok (.getfield 24, 3) := by decide +kernel
theorem dX2_passNight_40 : decode cX2_passNight 40 = .ok (.iload_n 1, 1) := by decide +kernel
theorem dX2_passNight_41 : decode cX2_passNight 41 = .ok (.bipush 10, 2) := by decide +kernel
theorem dX2_passNight_43 : decode cX2_passNight 43 = .ok (.imul, 1) := by decide +kernel
theorem dX2_passNight_44 : decode cX2_passNight 44 = .ok (.iconst 1, 1) := by decide +kernel
theorem dX2_passNight_45 : decode cX2_passNight 45 = .ok (.iastore, 1) := by decide +kernel
theorem dX2_passNight_46 : decode cX2_passNight 46 = .ok (.aload_n 0, 1) := by decide +kernel
theorem dX2_passNight_47 : decode cX2_passNight 47 = .ok (.iload_n 1, 1) := by decide +kernel
theorem dX2_passNight_48 : decode cX2_passNight 48 = .ok (.putfield 33, 3) := by decide +kernel
theorem dX2_passNight_51 : decode cX2_passNight 51 = .ok (.aload_n 0, 1) := by decide +kernel
theorem dX2_passNight_52 : decode cX2_passNight 52 = .ok (.aload_n 0, 1) := by decide +kernel
theorem dX2_passNight_53 : decode cX2_passNight 53 = .ok (.getfield 56, 3) := by decide +kernel
theorem dX2_passNight_56 : decode cX2_passNight 56 = .ok (.putfield 46, 3) := by decide +kernel
theorem dX2_passNight_59 : decode cX2_passNight 59 = .ok (.aload_n 0, 1) := by decide +kernel
theorem dX2_passNight_60 : decode cX2_passNight 60 = .ok (.iconst 0, 1) := by decide +kernel
theorem dX2_passNight_61 : decode cX2_passNight 61 = .ok (.putfield 56, 3) := by decide +kernel
theorem dX2_passNight_64 : decode cX2_passNight 64 = .ok (.aload_n 0, 1) := by decide +kernel
theorem dX2_passNight_65 : decode cX2_passNight 65 = .ok (.dup, 1) := by decide +kernel
theorem dX2_passNight_66 : decode cX2_passNight 66 = .ok (.getfield 59, 3) := by decide +kernel
theorem dX2_passNight_69 : decode cX2_passNight 69 = .ok (.iconst 1, 1) := by decide +kernel
theorem dX2_passNight_70 : decode cX2_passNight 70 = .ok (.iadd, 1) := by decide +kernel
theorem dX2_passNight_71 : decode cX2_passNight 71 = .ok (.putfield 59, 3) := by decide +kernel
theorem dX2_passNight_74 : decode cX2_passNight 74 = .ok (.return_, 1) := by decide +kernel
theorem dX2_ageEggs_0 : decode cX2_ageEggs 0 = .ok (.bipush 9, 2) := by decide +kernel
theorem dX2_ageEggs_2 : decode cX2_ageEggs 2 = .ok (.istore_n 2, 1) := by decide +kernel
theorem dX2_ageEggs_3 : decode cX2_ageEggs 3 = .ok (.iload_n 2, 1) := by decide +kernel
theorem dX2_ageEggs_4 : decode cX2_ageEggs 4 = .ok (.ifCond .le 41, 3) := by decide +kernel
theorem dX2_ageEggs_7 : decode cX2_ageEggs 7 = .ok (.aload_n 0, 1) := by decide +kernel
theorem dX2_ageEggs_8 : decode cX2_ageEggs 8 = .ok (.getfield 24, 3) := by decide +kernel
theorem dX2_ageEggs_11 : decode cX2_ageEggs 11 = .ok (.iload_n 1, 1) := by decide +kernel
theorem dX2_ageEggs_12 : decode cX2_ageEggs 12 = .ok (.iload_n 2, 1) := by decide +kernel
theorem dX2_ageEggs_13 : decode cX2_ageEggs 13 = .ok (.iadd, 1) := by decide +kernel
theorem dX2_ageEggs_14 : decode cX2_ageEggs 14 = .ok (.iload_n 2, 1) := by decide +kernel
theorem dX2_ageEggs_15 : decode cX2_ageEggs 15 = .ok (.aload_n 0, 1) := by decide +kernel
theorem dX2_ageEggs_16 : decode cX2_ageEggs 16 = .ok (.getfield 27, 3) := by decide +kernel
theorem dX2_ageEggs_19 : decode cX2_ageEggs 19 = .ok (.iconst 3, 1) := by decide +kernel
theorem dX2_ageEggs_20 : decode cX2_ageEggs 20 = .ok (.iaload, 1) := by decide +kernel
theorem dX2_ageEggs_21 : decode cX2_ageEggs 21 = .ok (.if_icmp .ge 16, 3) := by decide +kernel
theorem dX2_ageEggs_24 : decode cX2_ageEggs 24 = .ok (.aload_n 0, 1) := by decide +kernel
theorem dX2_ageEggs_25 : decode cX2_ageEggs 25 = .ok (.getfield 24, 3) := by decide +kernel
theorem dX2_ageEggs_28 : decode cX2_ageEggs 28 = .ok (.iload_n 1, 1) := by decide +kernel
theorem dX2_ageEggs_29 : decode cX2_ageEggs 29 = .ok (.iload_n 2, 1) := by decide +kernel
theorem dX2_ageEggs_30 : decode cX2_ageEggs 30 = .ok (.iadd, 1) := by decide +kernel
theorem dX2_ageEggs_31 : decode cX2_ageEggs 31 = .ok (.iconst 1, 1) := by decide +kernel
theorem dX2_ageEggs_32 : decode cX2_ageEggs 32 = .ok (.isub, 1) := by decide +kernel
theorem dX2_ageEggs_33 : decode cX2_ageEggs 33 = .ok (.iaload, 1) := by decide +kernel
theorem dX2_ageEggs_34 : decode cX2_ageEggs 34 = .ok (.goto 4, 3) := by decide +kernel
theorem dX2_ageEggs_37 : decode cX2_ageEggs 37 = .ok (.iconst 0, 1) := by decide +kernel
theorem dX2_ageEggs_38 : decode cX2_ageEggs 38 = .ok (.iastore, 1) := by decide +kernel
theorem dX2_ageEggs_39 : decode cX2_ageEggs 39 = .ok (.iinc 2 (-1), 3) := by decide +kernel
theorem dX2_ageEggs_42 : decode cX2_ageEggs 42 = .ok (.goto (-39), 3) := by decide +kernel
theorem dX2_ageEggs_45 : decode cX2_ageEggs 45 = .ok (.aload_n 0, 1) := by decide +kernel
theorem dX2_ageEggs_46 : decode cX2_ageEggs 46 = .ok (.getfield 24, 3) := by decide +kernel
theorem dX2_ageEggs_49 : decode cX2_ageEggs 49 = .ok (.iload_n 1, 1) := by decide +kernel
theorem dX2_ageEggs_50 : decode cX2_ageEggs 50 = .ok (.iconst 0, 1) := by decide +kernel
theorem dX2_ageEggs_51 : decode cX2_ageEggs 51 = .ok (.iastore, 1) := by decide +kernel
theorem dX2_ageEggs_52 : decode cX2_ageEggs 52 = .ok (.return_, 1) := by decide +kernel
theorem dX3_init_0 : decode cX3_init 0 = .ok (.aload_n 0, 1) := by decide +kernel
theorem dX3_init_1 : decode cX3_init 1 = .ok (.invokespecial 1, 3) := by decide +kernel
theorem dX3_init_4 : decode cX3_init 4 = .ok (.aload_n 0, 1) := by decide +kernel
theorem dX3_init_5 : decode cX3_init 5 = .ok (.new 7, 3) := by decide +kernel
theorem dX3_init_8 : decode cX3_init 8 = .ok (.dup, 1) := by decide +kernel
theorem dX3_init_9 : decode cX3_init 9 = .ok (.invokespecial 9, 3) := by decide +kernel
theorem dX3_init_12 : decode cX3_init 12 = .ok (.putfield 10, 3) := by decide +kernel
theorem dX3_init_15 : decode cX3_init 15 = .ok (.aload_n 0, 1) := by decide +kernel
theorem dX3_init_16 : decode cX3_init 16 = .ok (.new 7, 3) := by decide +kernel
theorem dX3_init_19 : decode cX3_init 19 = .ok (.dup, 1) := by decide +kernel
theorem dX3_init_20 : decode cX3_init 20 = .ok (.invokespecial 9, 3) := by decide +kernel
theorem dX3_init_23 : decode cX3_init 23 = .ok (.putfield 16, 3) := by decide +kernel
theorem dX3_init_26 : decode cX3_init 26 = .ok (.aload_n 0, 1) := by decide +kernel
theorem dX3_init_27 : decode cX3_init 27 = .ok (.new 7, 3) := by decide +kernel
theorem dX3_init_30 : decode cX3_init 30 = .ok (.dup, 1) := by decide +kernel
theorem dX3_init_31 : decode cX3_init 31 = .ok (.invokespecial 9, 3) := by decide +kernel
theorem dX3_init_34 : decode cX3_init 34 = .ok (.putfield 19, 3) := by decide +kernel
theorem dX3_init_37 : decode cX3_init 37 = .ok (.aload_n 0, 1) := by decide +kernel
theorem dX3_init_38 : decode cX3_init 38 = .ok (.new 22, 3) := by decide +kernel
theorem dX3_init_41 : decode cX3_init 41 = .ok (.dup, 1) := by decide +kernel
theorem dX3_init_42 : decode cX3_init 42 = .ok (.invokespecial 24, 3) := by decide +kernel
theorem dX3_init_45 : decode cX3_init 45 = .ok (.putfield 25, 3) := by decide +kernel
theorem dX3_init_48 : decode cX3_init 48 = .ok (.aload_n 0, 1) := by decide +kernel
theorem dX3_init_49 : decode cX3_init 49 = .ok (.new 29, 3) := by decide +kernel
theorem dX3_init_52 : decode cX3_init 52 = .ok (.dup, 1) := by decide +kernel
theorem dX3_init_53 : decode cX3_init 53 = .ok (.invokespecial 31, 3) := by decide +kernel
theorem dX3_init_56 : decode cX3_init 56 = .ok (.putfield 32, 3) := by decide +kernel
theorem dX3_init_59 : decode cX3_init 59 = .ok (.aload_n 0, 1) := by decide +kernel
theorem dX3_init_60 : decode cX3_init 60 = .ok (.bipush 8, 2) := by decide +kernel
theorem dX3_init_62 : decode cX3_init 62 = .ok (.newarray .int, 2) := by decide +kernel
theorem dX3_init_64 : decode cX3_init 64 = .ok (.putfield 36, 3) := by decide +kernel
theorem dX3_init_67 : decode cX3_init 67 = .ok (.aload_n 0, 1) := by decide +kernel
theorem dX3_init_68 : decode cX3_init 68 = .ok (.bipush 48, 2) := by decide +kernel
theorem dX3_init_70 : decode cX3_init 70 = .ok (.newarray .int, 2) := by decide +kernel
theorem dX3_init_72 : decode cX3_init 72 = .ok (.putfield 40, 3) := by decide +kernel
theorem dX3_init_75 : decode cX3_init 75 = .ok (.aload_n 0, 1) := by decide +kernel
theorem dX3_init_76 : decode cX3_init 76 = .ok (.bipush 7, 2) := by decide +kernel
theorem dX3_init_78 : decode cX3_init 78 = .ok (.newarray .int, 2) := by decide +kernel
theorem dX3_init_80 : decode cX3_init 80 = .ok (.putfield 43, 3) := by decide +kernel
theorem dX3_init_83 : decode cX3_init 83 = .ok (.return_, 1) := by decide +kernel
theorem dX3_feed_0 : decode cX3_feed 0 = .ok (.iload_n 1, 1) := by decide +kernel
theorem dX3_feed_1 : decode cX3_feed 1 = .ok (.ifCond .ge 10, 3) := by decide +kernel
theorem dX3_feed_4 : decode cX3_feed 4 = .ok (.aload_n 0, 1) := by decide +kernel
theorem dX3_feed_5 : decode cX3_feed 5 = .ok (.bipush (-4), 2) := by decide +kernel
theorem dX3_feed_7 : decode cX3_feed 7 = .ok (.invokevirtual 46, 3) := by decide +kernel
theorem dX3_feed_10 : decode cX3_feed 10 = .ok (.ireturn, 1) := by decide +kernel
theorem dX3_feed_11 : decode cX3_feed 11 = .ok (.iload_n 1, 1) := by decide +kernel
theorem dX3_feed_12 : decode cX3_feed 12 = .ok (.sipush 255, 3) := by decide +kernel
theorem dX3_feed_15 : decode cX3_feed 15 = .ok (.if_icmp .gt 15, 3) := by decide +kernel
theorem dX3_feed_18 : decode cX3_feed 18 = .ok (.aload_n 0, 1) := by decide +kernel
theorem dX3_feed_19 : decode cX3_feed 19 = .ok (.getfield 32, 3) := by decide +kernel
theorem dX3_feed_22 : decode cX3_feed 22 = .ok (.getfield 50, 3) := by decide +kernel
theorem dX3_feed_25 : decode cX3_feed 25 = .ok (.bipush 80, 2) := by decide +kernel
theorem dX3_feed_27 : decode cX3_feed 27 = .ok (.if_icmp .lt 10, 3) := by decide +kernel
theorem dX3_feed_30 : decode cX3_feed 30 = .ok (.aload_n 0, 1) := by decide +kernel
theorem dX3_feed_31 : decode cX3_feed 31 = .ok (.bipush (-6), 2) := by decide +kernel
theorem dX3_feed_33 : decode cX3_feed 33 = .ok (.invokevirtual 46, 3) := by decide +kernel
theorem dX3_feed_36 : decode cX3_feed 36 = .ok (.ireturn, 1) := by decide +kernel
theorem dX3_feed_37 : decode cX3_feed 37 = .ok (.aload_n 0, 1) := by decide +kernel
theorem dX3_feed_38 : decode cX3_feed 38 = .ok (.getfield 32, 3) := by decide +kernel
theorem dX3_feed_41 : decode cX3_feed 41 = .ok (.iload_n 1, 1) := by decide +kernel
theorem dX3_feed_42 : decode cX3_feed 42 = .ok (.invokevirtual 54, 3) := by decide +kernel
theorem dX3_feed_45 : decode cX3_feed 45 = .ok (.ireturn, 1) := by decide +kernel
theorem dX3_farm_0 : decode cX3_farm 0 = .ok (.aload_n 0, 1) := by decide +kernel
theorem dX3_farm_1 : decode cX3_farm 1 = .ok (.getfield 19, 3) := by decide +kernel
theorem dX3_farm_4 : decode cX3_farm 4 = .ok (.aload_n 0, 1) := by decide +kernel
theorem dX3_farm_5 : decode cX3_farm 5 = .ok (.getfield 10, 3) := by decide +kernel
theorem dX3_farm_8 : decode cX3_farm 8 = .ok (.invokevirtual 57, 3) := by decide +kernel
theorem dX3_farm_11 : decode cX3_farm 11 = .ok (.aload_n 0, 1) := by decide +kernel
theorem dX3_farm_12 : decode cX3_farm 12 = .ok (.getfield 32, 3) := by decide +kernel
theorem dX3_farm_15 : decode cX3_farm 15 = .ok (.aload_n 0, 1) := by decide +kernel
theorem dX3_farm_16 : decode cX3_farm 16 = .ok (.getfield 19, 3) := by decide +kernel
theorem dX3_farm_19 : decode cX3_farm 19 = .ok (.invokevirtual 61, 3) := by decide +kernel
theorem dX3_farm_22 : decode cX3_farm 22 = .ok (.istore_n 1, 1) := by decide +kernel
theorem dX3_farm_23 : decode cX3_farm 23 = .ok (.aload_n 0, 1) := by decide +kernel
theorem dX3_farm_24 : decode cX3_farm 24 = .ok (.getfield 32, 3) := by decide +kernel
theorem dX3_farm_27 : decode cX3_farm 27 = .ok (.iconst 0, 1) := by decide +kernel
theorem dX3_farm_28 : decode cX3_farm 28 = .ok (.putfield 50, 3) := by decide +kernel
theorem dX3_farm_31 : decode cX3_farm 31 = .ok (.iload_n 1, 1) := by decide +kernel
theorem dX3_farm_32 : decode cX3_farm 32 = .ok (.ifCond .le 14, 3) := by decide +kernel
theorem dX3_farm_35 : decode cX3_farm 35 = .ok (.aload_n 0, 1) := by decide +kernel
theorem dX3_farm_36 : decode cX3_farm 36 = .ok (.getfield 10, 3) := by decide +kernel
theorem dX3_farm_39 : decode cX3_farm 39 = .ok (.aload_n 0, 1) := by decide +kernel
theorem dX3_farm_40 : decode cX3_farm 40 = .ok (.getfield 19, 3) := by decide +kernel
theorem dX3_farm_43 : decode cX3_farm 43 = .ok (.invokevirtual 57, 3) := by decide +kernel
theorem dX3_farm_46 : decode cX3_farm 46 = .ok (.iload_n 1, 1) := by decide +kernel
theorem dX3_farm_47 : decode cX3_farm 47 = .ok (.ireturn, 1) := by decide +kernel
theorem dX3_nest_0 : decode cX3_nest 0 = .ok (.aload_n 0, 1) := by decide +kernel
theorem dX3_nest_1 : decode cX3_nest 1 = .ok (.iload_n 1, 1) := by decide +kernel
theorem dX3_nest_2 : decode cX3_nest 2 = .ok (.invokevirtual 65, 3) := by decide +kernel
theorem dX3_nest_5 : decode cX3_nest 5 = .ok (.ifCond .eq 9, 3) := by decide +kernel
theorem dX3_nest_8 : decode cX3_nest 8 = .ok (.aload_n 0, 1) := by decide +kernel
theorem dX3_nest_9 : decode cX3_nest 9 = .ok (.iconst (-1), 1) := by decide +kernel
theorem dX3_nest_10 : decode cX3_nest 10 = .ok (.invokevirtual 46, 3) := by decide +kernel
theorem dX3_nest_13 : decode cX3_nest 13 = .ok (.ireturn, 1) := by decide +kernel
theorem dX3_nest_14 : decode cX3_nest 14 = .ok (.iload_n 2, 1) := by decide +kernel
theorem dX3_nest_15 : decode cX3_nest 15 = .ok (.tableswitch 121 0 7 #[45, 55, 65, 75, 85, 94, 103, 109], 45) := by decide +kernel
theorem dX3_nest_60 : decode cX3_nest 60 = .ok (.aload_n 0, 1) := by decide +kernel
theorem dX3_nest_61 : decode cX3_nest 61 = .ok (.getfield 10, 3) := by decide +kernel
theorem dX3_nest_64 : decode cX3_nest 64 = .ok (.getfield 69, 3) := by decide +kernel
theorem dX3_nest_67 : decode cX3_nest 67 = .ok (.iload_n 1, 1) := by decide +kernel
theorem dX3_nest_68 : decode cX3_nest 68 = .ok (.iaload, 1) := by decide +kernel
theorem dX3_nest_69 : decode cX3_nest 69 = .ok (.ireturn, 1) := by decide +kernel
theorem dX3_nest_70 : decode cX3_nest 70 = .ok (.aload_n 0, 1) := by decide +kernel
theorem dX3_nest_71 : decode cX3_nest 71 = .ok (.getfield 10, 3) := by decide +kernel
theorem dX3_nest_74 : decode cX3_nest 74 = .ok (.getfield 72, 3) := by decide +kernel
theorem dX3_nest_77 : decode cX3_nest 77 = .ok (.iload_n 1, 1) := by decide +kernel
theorem dX3_nest_78 : decode cX3_nest 78 = .ok (.iaload, 1) := by decide +kernel
theorem dX3_nest_79 : decode cX3_nest 79 = .ok (.ireturn, 1) := by decide +kernel
theorem dX3_nest_80 : decode cX3_nest 80 = .ok (.aload_n 0, 1) := by decide +kernel
theorem dX3_nest_81 : decode cX3_nest 81 = .ok (.getfield 10, 3) := by decide +kernel
theorem dX3_nest_84 : decode cX3_nest 84 = .ok (.getfield 75, 3) := by decide +kernel
theorem dX3_nest_87 : decode cX3_nest 87 = .ok (.iload_n 1, 1) := by decide +kernel
theorem dX3_nest_88 : decode cX3_nest 88 = .ok (.iaload, 1) := by decide +kernel
theorem dX3_nest_89 : decode cX3_nest 89 = .ok (.ireturn, 1) := by decide +kernel
theorem dX3_nest_90 : decode cX3_nest 90 = .ok (.aload_n 0, 1) := by decide +kernel
theorem dX3_nest_91 : decode cX3_nest 91 = .ok (.getfield 10, 3) := by decide +kernel
theorem dX3_nest_94 : decode cX3_nest 94 = .ok (.getfield 78, 3) := by decide +kernel
theorem dX3_nest_97 : decode cX3_nest 97 = .ok (.iload_n 1, 1) := by decide +kernel
theorem dX3_nest_98 : decode cX3_nest 98 = .ok (.iaload, 1) := by decide +kernel
theorem dX3_nest_99 : decode cX3_nest 99 = .ok (.ireturn, 1) := by decide +kernel
theorem dX3_nest_100 : decode cX3_nest 100 = .ok (.aload_n 0, 1) := by decide +kernel
theorem dX3_nest_101 : decode cX3_nest 101 = .ok (.getfield 10, 3) := by decide +kernel
theorem dX3_nest_104 : decode cX3_nest 104 = .ok (.iload_n 1, 1) := by decide +kernel
theorem dX3_nest_105 : decode cX3_nest 105 = .ok (.invokevirtual 81, 3) := by decide +kernel
theorem dX3_nest_108 : decode cX3_nest 108 = .ok (.ireturn, 1) := by decide +kernel
theorem dX3_nest_109 : decode cX3_nest 109 = .ok (.aload_n 0, 1) := by decide +kernel
theorem dX3_nest_110 : decode cX3_nest 110 = .ok (.getfield 10, 3) := by decide +kernel
theorem dX3_nest_113 : decode cX3_nest 113 = .ok (.iload_n 1, 1) := by decide +kernel
theorem dX3_nest_114 : decode cX3_nest 114 = .ok (.invokevirtual 84, 3) := by decide +kernel
theorem dX3_nest_117 : decode cX3_nest 117 = .ok (.ireturn, 1) := by decide +kernel
theorem dX3_nest_118 : decode cX3_nest 118 = .ok (.aload_n 0, 1) := by decide +kernel
theorem dX3_nest_119 : decode cX3_nest 119 = .ok (.iload_n 1, 1) := by decide +kernel
theorem dX3_nest_120 : decode cX3_nest 120 = .ok (.invokevirtual 87, 3) := by decide +kernel
theorem dX3_nest_123 : decode cX3_nest 123 = .ok (.ireturn, 1) := by decide +kernel
theorem dX3_nest_124 : decode cX3_nest 124 = .ok (.aload_n 0, 1) := by decide +kernel
theorem dX3_nest_125 : decode cX3_nest 125 = .ok (.getfield 10, 3) := by decide +kernel
theorem dX3_nest_128 : decode cX3_nest 128 = .ok (.getfield 90, 3) := by decide +kernel
theorem dX3_nest_131 : decode cX3_nest 131 = .ok (.iload_n 1, 1) := by decide +kernel
theorem dX3_nest_132 : decode cX3_nest 132 = .ok (.ishr, 1) := by decide +kernel
theorem dX3_nest_133 : decode cX3_nest 133 = .ok (.iconst 1, 1) := by decide +kernel
theorem dX3_nest_134 : decode cX3_nest 134 = .ok (.iand, 1) := by decide +kernel
theorem dX3_nest_135 : decode cX3_nest 135 = .ok (.ireturn, 1) := by decide +kernel
theorem dX3_nest_136 : decode cX3_nest 136 = .ok (.aload_n 0, 1) := by decide +kernel
theorem dX3_nest_137 : decode cX3_nest 137 = .ok (.bipush (-2), 2) := by decide +kernel
theorem dX3_nest_139 : decode cX3_nest 139 = .ok (.invokevirtual 46, 3) := by decide +kernel
theorem dX3_nest_142 : decode cX3_nest 142 = .ok (.ireturn, 1) := by decide +kernel
theorem dX3_set_0 : decode cX3_set 0 = .ok (.iload_n 1, 1) := by decide +kernel
theorem dX3_set_1 : decode cX3_set 1 = .ok (.ifCond .lt 8, 3) := by decide +kernel
theorem dX3_set_4 : decode cX3_set 4 = .ok (.iload_n 1, 1) := by decide +kernel
theorem dX3_set_5 : decode cX3_set 5 = .ok (.iconst 4, 1) := by decide +kernel
theorem dX3_set_6 : decode cX3_set 6 = .ok (.if_icmp .lt 10, 3) := by decide +kernel
theorem dX3_set_9 : decode cX3_set 9 = .ok (.aload_n 0, 1) := by decide +kernel
theorem dX3_set_10 : decode cX3_set 10 = .ok (.bipush (-2), 2) := by decide +kernel
theorem dX3_set_12 : decode cX3_set 12 = .ok (.invokevirtual 46, 3) := by decide +kernel
theorem dX3_set_15 : decode cX3_set 15 = .ok (.ireturn, 1) := by decide +kernel
theorem dX3_set_16 : decode cX3_set 16 = .ok (.iload_n 2, 1) := by decide +kernel
theorem dX3_set_17 : decode cX3_set 17 = .ok (.getstatic 93, 3) := by decide +kernel
theorem dX3_set_20 : decode cX3_set 20 = .ok (.iload_n 1, 1) := by decide +kernel
theorem dX3_set_21 : decode cX3_set 21 = .ok (.iaload, 1) := by decide +kernel
theorem dX3_set_22 : decode cX3_set 22 = .ok (.if_icmp .ge 10, 3) := by decide +kernel
theorem dX3_set_25 : decode cX3_set 25 = .ok (.aload_n 0, 1) := by decide +kernel
theorem dX3_set_26 : decode cX3_set 26 = .ok (.bipush (-4), 2) := by decide +kernel
theorem dX3_set_28 : decode cX3_set 28 = .ok (.invokevirtual 46, 3) := by decide +kernel
theorem dX3_set_31 : decode cX3_set 31 = .ok (.ireturn, 1) := by decide +kernel
theorem dX3_set_32 : decode cX3_set 32 = .ok (.iload_n 2, 1) := by decide +kernel
theorem dX3_set_33 : decode cX3_set 33 = .ok (.getstatic 96, 3) := by decide +kernel
theorem dX3_set_36 : decode cX3_set 36 = .ok (.iload_n 1, 1) := by decide +kernel
theorem dX3_set_37 : decode cX3_set 37 = .ok (.iaload, 1) := by decide +kernel
theorem dX3_set_38 : decode cX3_set 38 = .ok (.if_icmp .le 10, 3) := by decide +kernel
theorem dX3_set_41 : decode cX3_set 41 = .ok (.aload_n 0, 1) := by decide +kernel
theorem dX3_set_42 : decode cX3_set 42 = .ok (.bipush (-6), 2) := by decide +kernel
theorem dX3_set_44 : decode cX3_set 44 = .ok (.invokevirtual 46, 3) := by decide +kernel
theorem dX3_set_47 : decode cX3_set 47 = .ok (.ireturn, 1) := by decide +kernel
theorem dX3_set_48 : decode cX3_set 48 = .ok (.aload_n 0, 1) := by decide +kernel
theorem dX3_set_49 : decode cX3_set 49 = .ok (.getfield 10, 3) := by decide +kernel
theorem dX3_set_52 : decode cX3_set 52 = .ok (.getfield 99, 3) := by decide +kernel
theorem dX3_set_55 : decode cX3_set 55 = .ok (.iload_n 1, 1) := by decide +kernel
theorem dX3_set_56 : decode cX3_set 56 = .ok (.iaload, 1) := by decide +kernel
theorem dX3_set_57 : decode cX3_set 57 = .ok (.istore_n 3, 1) := by decide +kernel
theorem dX3_set_58 : decode cX3_set 58 = .ok (.aload_n 0, 1) := by decide +kernel
theorem dX3_set_59 : decode cX3_set 59 = .ok (.getfield 10, 3) := by decide +kernel
theorem dX3_set_62 : decode cX3_set 62 = .ok (.getfield 99, 3) := by decide +kernel
theorem dX3_set_65 : decode cX3_set 65 = .ok (.iload_n 1, 1) := by decide +kernel
theorem dX3_set_66 : decode cX3_set 66 = .ok (.iload_n 2, 1) := by decide +kernel
theorem dX3_set_67 : decode cX3_set 67 = .ok (.iastore, 1) := by decide +kernel
theorem dX3_set_68 : decode cX3_set 68 = .ok (.iload_n 3, 1) := by decide +kernel
theorem dX3_set_69 : decode cX3_set 69 = .ok (.ireturn, 1) := by decide +kernel
theorem dX3_look_0 : decode cX3_look 0 = .ok (.aload_n 0, 1) := by decide +kernel
theorem dX3_look_1 : decode cX3_look 1 = .ok (.iload_n 1, 1) := by decide +kernel
theorem dX3_look_2 : decode cX3_look 2 = .ok (.invokevirtual 65, 3) := by decide +kernel
theorem dX3_look_5 : decode cX3_look 5 = .ok (.ifCond .eq 9, 3) := by decide +kernel
theorem dX3_look_8 : decode cX3_look 8 = .ok (.aload_n 0, 1) := by decide +kernel
theorem dX3_look_9 : decode cX3_look 9 = .ok (.iconst (-1), 1) := by decide +kernel
theorem dX3_look_10 : decode cX3_look 10 = .ok (.invokevirtual 46, 3) := by decide +kernel
theorem dX3_look_13 : decode cX3_look 13 = .ok (.ireturn, 1) := by decide +kernel
theorem dX3_look_14 : decode cX3_look 14 = .ok (.iconst 1, 1) := by decide +kernel
theorem dX3_look_15 : decode cX3_look 15 = .ok (.iload_n 1, 1) := by decide +kernel
theorem dX3_look_16 : decode cX3_look 16 = .ok (.ishl, 1) := by decide +kernel
theorem dX3_look_17 : decode cX3_look 17 = .ok (.istore_n 2, 1) := by decide +kernel
theorem dX3_look_18 : decode cX3_look 18 = .ok (.aload_n 0, 1) := by decide +kernel
theorem dX3_look_19 : decode cX3_look 19 = .ok (.getfield 10, 3) := by decide +kernel
theorem dX3_look_22 : decode cX3_look 22 = .ok (.getfield 90, 3) := by decide +kernel
theorem dX3_look_25 : decode cX3_look 25 = .ok (.iload_n 2, 1) := by decide +kernel
theorem dX3_look_26 : decode cX3_look 26 = .ok (.iand, 1) := by decide +kernel
theorem dX3_look_27 : decode cX3_look 27 = .ok (.ifCond .eq 10, 3) := by decide +kernel
theorem dX3_look_30 : decode cX3_look 30 = .ok (.aload_n 0, 1) := by decide +kernel
theorem dX3_look_31 : decode cX3_look 31 = .ok (.bipush (-3), 2) := by decide +kernel
theorem dX3_look_33 : decode cX3_look 33 = .ok (.invokevirtual 46, 3) := by decide +kernel
theorem dX3_look_36 : decode cX3_look 36 = .ok (.ireturn, 1) := by decide +kernel
theorem dX3_look_37 : decode cX3_look 37 = .ok (.aload_n 0, 1) := by decide +kernel
theorem dX3_look_38 : decode cX3_look 38 = .ok (.getfield 10, 3) := by decide +kernel
theorem dX3_look_41 : decode cX3_look 41 = .ok (.getfield 75, 3) := by decide +kernel
theorem dX3_look_44 : decode cX3_look 44 = .ok (.iload_n 1, 1) := by decide +kernel
theorem dX3_look_45 : decode cX3_look 45 = .ok (.iaload, 1) := by decide +kernel
theorem dX3_look_46 : decode cX3_look 46 = .ok (.aload_n 0, 1) := by decide +kernel
theorem dX3_look_47 : decode cX3_look 47 = .ok (.getfield 10, 3) := by decide +kernel
theorem dX3_look_50 : decode cX3_look 50 = .ok (.invokevirtual 102, 3) := by decide +kernel
theorem dX3_look_53 : decode cX3_look 53 = .ok (.if_icmp .le 10, 3) := by decide +kernel
theorem dX3_look_56 : decode cX3_look 56 = .ok (.aload_n 0, 1) := by decide +kernel
theorem dX3_look_57 : decode cX3_look 57 = .ok (.bipush (-6), 2) := by decide +kernel
theorem dX3_look_59 : decode cX3_look 59 = .ok (.invokevirtual 46, 3) := by decide +kernel
theorem dX3_look_62 : decode cX3_look 62 = .ok (.ireturn, 1) := by decide +kernel
theorem dX3_look_63 : decode cX3_look 63 = .ok (.aload_n 0, 1) := by decide +kernel
theorem dX3_look_64 : decode cX3_look 64 = .ok (.getfield 10, 3) := by decide +kernel
theorem dX3_look_67 : decode cX3_look 67 = .ok (.iload_n 2, 1) := by decide +kernel
theorem dX3_look_68 : decode cX3_look 68 = .ok (.invokevirtual 106, 3) := by decide +kernel
theorem dX3_look_71 : decode cX3_look 71 = .ok (.istore_n 3, 1) := by decide +kernel
theorem dX3_look_72 : decode cX3_look 72 = .ok (.aload_n 0, 1) := by decide +kernel
theorem dX3_look_73 : decode cX3_look 73 = .ok (.getfield 10, 3) := by decide +kernel
theorem dX3_look_76 : decode cX3_look 76 = .ok (.dup, 1) := by decide +kernel
theorem dX3_look_77 : decode cX3_look 77 = .ok (.getfield 109, 3) := by decide +kernel
theorem dX3_look_80 : decode cX3_look 80 = .ok (.iload_n 3, 1) := by decide +kernel
theorem dX3_look_81 : decode cX3_look 81 = .ok (.iadd, 1) := by decide +kernel
theorem dX3_look_82 : decode cX3_look 82 = .ok (.putfield 109, 3) := by decide +kernel
theorem dX3_look_85 : decode cX3_look 85 = .ok (.iload_n 3, 1) := by decide +kernel
theorem dX3_look_86 : decode cX3_look 86 = .ok (.ireturn, 1) := by decide +kernel
theorem dX3_night_0 : decode cX3_night 0 = .ok (.aload_n 0, 1) := by decide +kernel
theorem dX3_night_1 : decode cX3_night 1 = .ok (.getfield 10, 3) := by decide +kernel
theorem dX3_night_4 : decode cX3_night 4 = .ok (.getfield 112, 3) := by decide +kernel
theorem dX3_night_7 : decode cX3_night 7 = .ok (.ifCond .ne 10, 3) := by decide +kernel
theorem dX3_night_10 : decode cX3_night 10 = .ok (.aload_n 0, 1) := by decide +kernel
theorem dX3_night_11 : decode cX3_night 11 = .ok (.bipush (-3), 2) := by decide +kernel
theorem dX3_night_13 : decode cX3_night 13 = .ok (.invokevirtual 46, 3) := by decide +kernel
theorem dX3_night_16 : decode cX3_night 16 = .ok (.ireturn, 1) := by decide +kernel
theorem dX3_night_17 : decode cX3_night 17 = .ok (.aload_n 0, 1) := by decide +kernel
theorem dX3_night_18 : decode cX3_night 18 = .ok (.getfield 10, 3) := by decide +kernel
theorem dX3_night_21 : decode cX3_night 21 = .ok (.getfield 115, 3) := by decide +kernel
theorem dX3_night_24 : decode cX3_night 24 = .ok (.sipush 9999, 3) := by decide +kernel
theorem dX3_night_27 : decode cX3_night 27 = .ok (.if_icmp .lt 10, 3) := by decide +kernel
theorem dX3_night_30 : decode cX3_night 30 = .ok (.aload_n 0, 1) := by decide +kernel
theorem dX3_night_31 : decode cX3_night 31 = .ok (.bipush (-6), 2) := by decide +kernel
theorem dX3_night_33 : decode cX3_night 33 = .ok (.invokevirtual 46, 3) := by decide +kernel
theorem dX3_night_36 : decode cX3_night 36 = .ok (.ireturn, 1) := by decide +kernel
theorem dX3_night_37 : decode cX3_night 37 = .ok (.aload_n 0, 1) := by decide +kernel
theorem dX3_night_38 : decode cX3_night 38 = .ok (.getfield 10, 3) := by decide +kernel
theorem dX3_night_41 : decode cX3_night 41 = .ok (.aload_n 0, 1) := by decide +kernel
theorem dX3_night_42 : decode cX3_night 42 = .ok (.getfield 10, 3) := by decide +kernel
theorem dX3_night_45 : decode cX3_night 45 = .ok (.invokevirtual 118, 3) := by decide +kernel
theorem dX3_night_48 : decode cX3_night 48 = .ok (.invokevirtual 121, 3) := by decide +kernel
theorem dX3_night_51 : decode cX3_night 51 = .ok (.istore_n 1, 1) := by decide +kernel
theorem dX3_night_52 : decode cX3_night 52 = .ok (.aload_n 0, 1) := by decide +kernel
theorem dX3_night_53 : decode cX3_night 53 = .ok (.getfield 10, 3) := by decide +kernel
theorem dX3_night_56 : decode cX3_night 56 = .ok (.iload_n 1, 1) := by decide +kernel
theorem dX3_night_57 : decode cX3_night 57 = .ok (.invokevirtual 124, 3) := by decide +kernel
theorem dX3_night_60 : decode cX3_night 60 = .ok (.iload_n 1, 1) := by decide +kernel
theorem dX3_night_61 : decode cX3_night 61 = .ok (.ireturn, 1) := by decide +kernel
theorem dX3_tonight_0 : decode cX3_tonight 0 = .ok (.iload_n 1, 1) := by decide +kernel
theorem dX3_tonight_1 : decode cX3_tonight 1 = .ok (.ifCond .lt 8, 3) := by decide +kernel
theorem dX3_tonight_4 : decode cX3_tonight 4 = .ok (.iload_n 1, 1) := by decide +kernel
theorem dX3_tonight_5 : decode cX3_tonight 5 = .ok (.iconst 1, 1) := by decide +kernel
theorem dX3_tonight_6 : decode cX3_tonight 6 = .ok (.if_icmp .le 10, 3) := by decide +kernel
theorem dX3_tonight_9 : decode cX3_tonight 9 = .ok (.aload_n 0, 1) := by decide +kernel
theorem dX3_tonight_10 : decode cX3_tonight 10 = .ok (.bipush (-2), 2) := by decide +kernel
theorem dX3_tonight_12 : decode cX3_tonight 12 = .ok (.invokevirtual 46, 3) := by decide +kernel
theorem dX3_tonight_15 : decode cX3_tonight 15 = .ok (.ireturn, 1) := by decide +kernel
theorem dX3_tonight_16 : decode cX3_tonight 16 = .ok (.aload_n 0, 1) := by decide +kernel
theorem dX3_tonight_17 : decode cX3_tonight 17 = .ok (.getfield 10, 3) := by decide +kernel
theorem dX3_tonight_20 : decode cX3_tonight 20 = .ok (.getfield 112, 3) := by decide +kernel
theorem dX3_tonight_23 : decode cX3_tonight 23 = .ok (.ifCond .ne 10, 3) := by decide +kernel
theorem dX3_tonight_26 : decode cX3_tonight 26 = .ok (.aload_n 0, 1) := by decide +kernel
theorem dX3_tonight_27 : decode cX3_tonight 27 = .ok (.bipush (-3), 2) := by decide +kernel
theorem dX3_tonight_29 : decode cX3_tonight 29 = .ok (.invokevirtual 46, 3) := by decide +kernel
theorem dX3_tonight_32 : decode cX3_tonight 32 = .ok (.ireturn, 1) := by decide +kernel
theorem dX3_tonight_33 : decode cX3_tonight 33 = .ok (.aload_n 0, 1) := by decide +kernel
theorem dX3_tonight_34 : decode cX3_tonight 34 = .ok (.getfield 10, 3) := by decide +kernel
theorem dX3_tonight_37 : decode cX3_tonight 37 = .ok (.invokevirtual 118, 3) := by decide +kernel
theorem dX3_tonight_40 : decode cX3_tonight 40 = .ok (.istore_n 2, 1) := by decide +kernel
theorem dX3_tonight_41 : decode cX3_tonight 41 = .ok (.iload_n 1, 1) := by decide +kernel
theorem dX3_tonight_42 : decode cX3_tonight 42 = .ok (.ifCond .ne 14, 3) := by decide +kernel
theorem dX3_tonight_45 : decode cX3_tonight 45 = .ok (.aload_n 0, 1) := by decide +kernel
theorem dX3_tonight_46 : decode cX3_tonight 46 = .ok (.getfield 10, 3) := by decide +kernel
theorem dX3_tonight_49 : decode cX3_tonight 49 = .ok (.iload_n 2, 1) := by decide +kernel
theorem dX3_tonight_50 : decode cX3_tonight 50 = .ok (.invokevirtual 121, 3) := by decide +kernel
theorem dX3_tonight_53 : decode cX3_tonight 53 = .ok (.goto 11, 3) := by decide +kernel
theorem dX3_tonight_56 : decode cX3_tonight 56 = .ok (.aload_n 0, 1) := by decide +kernel
theorem dX3_tonight_57 : decode cX3_tonight 57 = .ok (.getfield 10, 3) := by decide +kernel
theorem dX3_tonight_60 : decode cX3_tonight 60 = .ok (.iload_n 2, 1) := by decide +kernel
theorem dX3_tonight_61 : decode cX3_tonight 61 = .ok (.invokevirtual 128, 3) := by decide +kernel
theorem dX3_tonight_64 : decode cX3_tonight 64 = .ok (.ireturn, 1) := by decide +kernel
theorem dX3_likely_0 : decode cX3_likely 0 = .ok (.aload_n 0, 1) := by decide +kernel
theorem dX3_likely_1 : decode cX3_likely 1 = .ok (.iload_n 1, 1) := by decide +kernel
theorem dX3_likely_2 : decode cX3_likely 2 = .ok (.invokevirtual 65, 3) := by decide +kernel
theorem dX3_likely_5 : decode cX3_likely 5 = .ok (.ifCond .eq 14, 3) := by decide +kernel
theorem dX3_likely_8 : decode cX3_likely 8 = .ok (.ldc2_w 131, 3) := by decide +kernel
theorem dX3_likely_11 : decode cX3_likely 11 = .ok (.aload_n 0, 1) := by decide +kernel
theorem dX3_likely_12 : decode cX3_likely 12 = .ok (.iconst (-1), 1) := by decide +kernel
theorem dX3_likely_13 : decode cX3_likely 13 = .ok (.invokevirtual 46, 3) := by decide +kernel
theorem dX3_likely_16 : decode cX3_likely 16 = .ok (.i2l, 1) := by decide +kernel
theorem dX3_likely_17 : decode cX3_likely 17 = .ok (.lsub, 1) := by decide +kernel
theorem dX3_likely_18 : decode cX3_likely 18 = .ok (.lreturn, 1) := by decide +kernel
theorem dX3_likely_19 : decode cX3_likely 19 = .ok (.iload_n 2, 1) := by decide +kernel
theorem dX3_likely_20 : decode cX3_likely 20 = .ok (.ifCond .lt 8, 3) := by decide +kernel
theorem dX3_likely_23 : decode cX3_likely 23 = .ok (.iload_n 2, 1) := by decide +kernel
theorem dX3_likely_24 : decode cX3_likely 24 = .ok (.iconst 1, 1) := by decide +kernel
theorem dX3_likely_25 : decode cX3_likely 25 = .ok (.if_icmp .le 15, 3) := by decide +kernel
theorem dX3_likely_28 : decode cX3_likely 28 = .ok (.ldc2_w 131, 3) := by decide +kernel
theorem dX3_likely_31 : decode cX3_likely 31 = .ok (.aload_n 0, 1) := by decide +kernel
theorem dX3_likely_32 : decode cX3_likely 32 = .ok (.bipush (-2), 2) := by decide +kernel
theorem dX3_likely_34 : decode cX3_likely 34 = .ok (.invokevirtual 46, 3) := by decide +kernel
theorem dX3_likely_37 : decode cX3_likely 37 = .ok (.i2l, 1) := by decide +kernel
theorem dX3_likely_38 : decode cX3_likely 38 = .ok (.lsub, 1) := by decide +kernel
theorem dX3_likely_39 : decode cX3_likely 39 = .ok (.lreturn, 1) := by decide +kernel
theorem dX3_likely_40 : decode cX3_likely 40 = .ok (.aload_n 0, 1) := by decide +kernel
theorem dX3_likely_41 : decode cX3_likely 41 = .ok (.getfield 10, 3) := by decide +kernel
theorem dX3_likely_44 : decode cX3_likely 44 = .ok (.aload_n 0, 1) := by decide +kernel
theorem dX3_likely_45 : decode cX3_likely 45 = .ok (.getfield 10, 3) := by decide +kernel
theorem dX3_likely_48 : decode cX3_likely 48 = .ok (.aload_n 0, 1) := by decide +kernel
theorem dX3_likely_49 : decode cX3_likely 49 = .ok (.getfield 10, 3) := by decide +kernel
theorem dX3_likely_52 : decode cX3_likely 52 = .ok (.invokevirtual 118, 3) := by decide +kernel
theorem dX3_likely_55 : decode cX3_likely 55 = .ok (.invokevirtual 128, 3) := by decide +kernel
theorem dX3_likely_58 : decode cX3_likely 58 = .ok (.invokevirtual 133, 3) := by decide +kernel
theorem dX3_likely_61 : decode cX3_likely 61 = .ok (.istore_n 3, 1) := by decide +kernel
theorem dX3_likely_62 : decode cX3_likely 62 = .ok (.aload_n 0, 1) := by decide +kernel
theorem dX3_likely_63 : decode cX3_likely 63 = .ok (.getfield 10, 3) := by decide +kernel
theorem dX3_likely_66 : decode cX3_likely 66 = .ok (.getfield 136, 3) := by decide +kernel
theorem dX3_likely_69 : decode cX3_likely 69 = .ok (.iload_n 1, 1) := by decide +kernel
theorem dX3_likely_70 : decode cX3_likely 70 = .ok (.iaload, 1) := by decide +kernel
theorem dX3_likely_71 : decode cX3_likely 71 = .ok (.iload_n 3, 1) := by decide +kernel
theorem dX3_likely_72 : decode cX3_likely 72 = .ok (.invokestatic 139, 3) := by decide +kernel
theorem dX3_likely_75 : decode cX3_likely 75 = .ok (.istore 4, 2) := by decide +kernel
theorem dX3_likely_77 : decode cX3_likely 77 = .ok (.iload 4, 2) := by decide +kernel
theorem dX3_likely_79 : decode cX3_likely 79 = .ok (.iconst 1, 1) := by decide +kernel
theorem dX3_likely_80 : decode cX3_likely 80 = .ok (.if_icmp .ge 5, 3) := by decide +kernel
theorem dX3_likely_83 : decode cX3_likely 83 = .ok (.lconst 0, 1) := by decide +kernel
theorem dX3_likely_84 : decode cX3_likely 84 = .ok (.lreturn, 1) := by decide +kernel
theorem dX3_likely_85 : decode cX3_likely 85 = .ok (.iload_n 2, 1) := by decide +kernel
theorem dX3_likely_86 : decode cX3_likely 86 = .ok (.ifCond .ne 15, 3) := by decide +kernel
theorem dX3_likely_89 : decode cX3_likely 89 = .ok (.aload_n 0, 1) := by decide +kernel
theorem dX3_likely_90 : decode cX3_likely 90 = .ok (.getfield 10, 3) := by decide +kernel
theorem dX3_likely_93 : decode cX3_likely 93 = .ok (.getfield 136, 3) := by decide +kernel
theorem dX3_likely_96 : decode cX3_likely 96 = .ok (.iload_n 1, 1) := by decide +kernel
theorem dX3_likely_97 : decode cX3_likely 97 = .ok (.iaload, 1) := by decide +kernel
theorem dX3_likely_98 : decode cX3_likely 98 = .ok (.goto 4, 3) := by decide +kernel
theorem dX3_likely_101 : decode cX3_likely 101 = .ok (.iload_n 3, 1) := by decide +kernel
theorem dX3_likely_102 : decode cX3_likely 102 = .ok (.iload 4, 2) := by decide +kernel
theorem dX3_likely_104 : decode cX3_likely 104 = .ok (.idiv, 1) := by decide +kernel
theorem dX3_likely_105 : decode cX3_likely 105 = .ok (.i2l, 1) := by decide +kernel
theorem dX3_likely_106 : decode cX3_likely 106 = .ok (.lreturn, 1) := by decide +kernel
theorem dX3_plan_0 : decode cX3_plan 0 = .ok (.iload_n 2, 1) := by decide +kernel
theorem dX3_plan_1 : decode cX3_plan 1 = .ok (.ifCond .lt 8, 3) := by decide +kernel
theorem dX3_plan_4 : decode cX3_plan 4 = .ok (.iload_n 2, 1) := by decide +kernel
theorem dX3_plan_5 : decode cX3_plan 5 = .ok (.iconst 1, 1) := by decide +kernel
theorem dX3_plan_6 : decode cX3_plan 6 = .ok (.if_icmp .le 10, 3) := by decide +kernel
theorem dX3_plan_9 : decode cX3_plan 9 = .ok (.aload_n 0, 1) := by decide +kernel
theorem dX3_plan_10 : decode cX3_plan 10 = .ok (.bipush (-2), 2) := by decide +kernel
theorem dX3_plan_12 : decode cX3_plan 12 = .ok (.invokevirtual 46, 3) := by decide +kernel
theorem dX3_plan_15 : decode cX3_plan 15 = .ok (.ireturn, 1) := by decide +kernel
theorem dX3_plan_16 : decode cX3_plan 16 = .ok (.iload_n 1, 1) := by decide +kernel
theorem dX3_plan_17 : decode cX3_plan 17 = .ok (.iconst 1, 1) := by decide +kernel
theorem dX3_plan_18 : decode cX3_plan 18 = .ok (.if_icmp .ge 10, 3) := by decide +kernel
theorem dX3_plan_21 : decode cX3_plan 21 = .ok (.aload_n 0, 1) := by decide +kernel
theorem dX3_plan_22 : decode cX3_plan 22 = .ok (.bipush (-4), 2) := by decide +kernel
theorem dX3_plan_24 : decode cX3_plan 24 = .ok (.invokevirtual 46, 3) := by decide +kernel
theorem dX3_plan_27 : decode cX3_plan 27 = .ok (.ireturn, 1) := by decide +kernel
theorem dX3_plan_28 : decode cX3_plan 28 = .ok (.iload_n 1, 1) := by decide +kernel
theorem dX3_plan_29 : decode cX3_plan 29 = .ok (.iconst 3, 1) := by decide +kernel
theorem dX3_plan_30 : decode cX3_plan 30 = .ok (.if_icmp .le 10, 3) := by decide +kernel
theorem dX3_plan_33 : decode cX3_plan 33 = .ok (.aload_n 0, 1) := by decide +kernel
theorem dX3_plan_34 : decode cX3_plan 34 = .ok (.bipush (-6), 2) := by decide +kernel
theorem dX3_plan_36 : decode cX3_plan 36 = .ok (.invokevirtual 46, 3) := by decide +kernel
theorem dX3_plan_39 : decode cX3_plan 39 = .ok (.ireturn, 1) := by decide +kernel
theorem dX3_plan_40 : decode cX3_plan 40 = .ok (.aload_n 0, 1) := by decide +kernel
theorem dX3_plan_41 : decode cX3_plan 41 = .ok (.getfield 10, 3) := by decide +kernel
theorem dX3_plan_44 : decode cX3_plan 44 = .ok (.getfield 112, 3) := by decide +kernel
theorem dX3_plan_47 : decode cX3_plan 47 = .ok (.ifCond .ne 10, 3) := by decide +kernel
theorem dX3_plan_50 : decode cX3_plan 50 = .ok (.aload_n 0, 1) := by decide +kernel
theorem dX3_plan_51 : decode cX3_plan 51 = .ok (.bipush (-3), 2) := by decide +kernel
theorem dX3_plan_53 : decode cX3_plan 53 = .ok (.invokevirtual 46, 3) := by decide +kernel
theorem dX3_plan_56 : decode cX3_plan 56 = .ok (.ireturn, 1) := by decide +kernel
theorem dX3_plan_57 : decode cX3_plan 57 = .ok (.aload_n 0, 1) := by decide +kernel
theorem dX3_plan_58 : decode cX3_plan 58 = .ok (.getfield 25, 3) := by decide +kernel
theorem dX3_plan_61 : decode cX3_plan 61 = .ok (.aload_n 0, 1) := by decide +kernel
theorem dX3_plan_62 : decode cX3_plan 62 = .ok (.getfield 10, 3) := by decide +kernel
theorem dX3_plan_65 : decode cX3_plan 65 = .ok (.iload_n 1, 1) := by decide +kernel
theorem dX3_plan_66 : decode cX3_plan 66 = .ok (.invokevirtual 143, 3) := by decide +kernel
theorem dX3_plan_69 : decode cX3_plan 69 = .ok (.istore_n 3, 1) := by decide +kernel
theorem dX3_plan_70 : decode cX3_plan 70 = .ok (.iload_n 2, 1) := by decide +kernel
theorem dX3_plan_71 : decode cX3_plan 71 = .ok (.ifCond .ne 7, 3) := by decide +kernel
theorem dX3_plan_74 : decode cX3_plan 74 = .ok (.iload_n 3, 1) := by decide +kernel
theorem dX3_plan_75 : decode cX3_plan 75 = .ok (.goto 10, 3) := by decide +kernel
theorem dX3_plan_78 : decode cX3_plan 78 = .ok (.aload_n 0, 1) := by decide +kernel
theorem dX3_plan_79 : decode cX3_plan 79 = .ok (.getfield 25, 3) := by decide +kernel
theorem dX3_plan_82 : decode cX3_plan 82 = .ok (.getfield 147, 3) := by decide +kernel
theorem dX3_plan_85 : decode cX3_plan 85 = .ok (.ireturn, 1) := by decide +kernel
theorem dX3_each_0 : decode cX3_each 0 = .ok (.iload_n 1, 1) := by decide +kernel
theorem dX3_each_1 : decode cX3_each 1 = .ok (.aload_n 0, 1) := by decide +kernel
theorem dX3_each_2 : decode cX3_each 2 = .ok (.getfield 10, 3) := by decide +kernel
theorem dX3_each_5 : decode cX3_each 5 = .ok (.getfield 112, 3) := by decide +kernel
theorem dX3_each_8 : decode cX3_each 8 = .ok (.ishr, 1) := by decide +kernel
theorem dX3_each_9 : decode cX3_each 9 = .ok (.ifCond .eq 9, 3) := by decide +kernel
theorem dX3_each_12 : decode cX3_each 12 = .ok (.aload_n 0, 1) := by decide +kernel
theorem dX3_each_13 : decode cX3_each 13 = .ok (.iconst (-1), 1) := by decide +kernel
theorem dX3_each_14 : decode cX3_each 14 = .ok (.invokevirtual 46, 3) := by decide +kernel
theorem dX3_each_17 : decode cX3_each 17 = .ok (.ireturn, 1) := by decide +kernel
theorem dX3_each_18 : decode cX3_each 18 = .ok (.iload_n 2, 1) := by decide +kernel
theorem dX3_each_19 : decode cX3_each 19 = .ok (.iconst 1, 1) := by decide +kernel
theorem dX3_each_20 : decode cX3_each 20 = .ok (.if_icmp .ge 10, 3) := by decide +kernel
theorem dX3_each_23 : decode cX3_each 23 = .ok (.aload_n 0, 1) := by decide +kernel
theorem dX3_each_24 : decode cX3_each 24 = .ok (.bipush (-4), 2) := by decide +kernel
theorem dX3_each_26 : decode cX3_each 26 = .ok (.invokevirtual 46, 3) := by decide +kernel
theorem dX3_each_29 : decode cX3_each 29 = .ok (.ireturn, 1) := by decide +kernel
theorem dX3_each_30 : decode cX3_each 30 = .ok (.iload_n 2, 1) := by decide +kernel
theorem dX3_each_31 : decode cX3_each 31 = .ok (.bipush 30, 2) := by decide +kernel
theorem dX3_each_33 : decode cX3_each 33 = .ok (.if_icmp .le 10, 3) := by decide +kernel
theorem dX3_each_36 : decode cX3_each 36 = .ok (.aload_n 0, 1) := by decide +kernel
theorem dX3_each_37 : decode cX3_each 37 = .ok (.bipush (-6), 2) := by decide +kernel
theorem dX3_each_39 : decode cX3_each 39 = .ok (.invokevirtual 46, 3) := by decide +kernel
theorem dX3_each_42 : decode cX3_each 42 = .ok (.ireturn, 1) := by decide +kernel
theorem dX3_each_43 : decode cX3_each 43 = .ok (.aload_n 0, 1) := by decide +kernel
theorem dX3_each_44 : decode cX3_each 44 = .ok (.getfield 10, 3) := by decide +kernel
theorem dX3_each_47 : decode cX3_each 47 = .ok (.getfield 112, 3) := by decide +kernel
theorem dX3_each_50 : decode cX3_each 50 = .ok (.ifCond .ne 10, 3) := by decide +kernel
theorem dX3_each_53 : decode cX3_each 53 = .ok (.aload_n 0, 1) := by decide +kernel
theorem dX3_each_54 : decode cX3_each 54 = .ok (.bipush (-3), 2) := by decide +kernel
theorem dX3_each_56 : decode cX3_each 56 = .ok (.invokevirtual 46, 3) := by decide +kernel
theorem dX3_each_59 : decode cX3_each 59 = .ok (.ireturn, 1) := by decide +kernel
theorem dX3_each_60 : decode cX3_each 60 = .ok (.aload_n 0, 1) := by decide +kernel
theorem dX3_each_61 : decode cX3_each 61 = .ok (.getfield 19, 3) := by decide +kernel
theorem dX3_each_64 : decode cX3_each 64 = .ok (.aload_n 0, 1) := by decide +kernel
theorem dX3_each_65 : decode cX3_each 65 = .ok (.getfield 10, 3) := by decide +kernel
theorem dX3_each_68 : decode cX3_each 68 = .ok (.invokevirtual 57, 3) := by decide +kernel
theorem dX3_each_71 : decode cX3_each 71 = .ok (.aload_n 0, 1) := by decide +kernel
theorem dX3_each_72 : decode cX3_each 72 = .ok (.getfield 19, 3) := by decide +kernel
theorem dX3_each_75 : decode cX3_each 75 = .ok (.iconst 0, 1) := by decide +kernel
theorem dX3_each_76 : decode cX3_each 76 = .ok (.putfield 90, 3) := by decide +kernel
theorem dX3_each_79 : decode cX3_each 79 = .ok (.iconst 0, 1) := by decide +kernel
theorem dX3_each_80 : decode cX3_each 80 = .ok (.istore_n 3, 1) := by decide +kernel
theorem dX3_each_81 : decode cX3_each 81 = .ok (.iconst 0, 1) := by decide +kernel
theorem dX3_each_82 : decode cX3_each 82 = .ok (.istore 4, 2) := by decide +kernel
theorem dX3_each_84 : decode cX3_each 84 = .ok (.iload 4, 2) := by decide +kernel
theorem dX3_each_86 : decode cX3_each 86 = .ok (.iload_n 2, 1) := by decide +kernel
theorem dX3_each_87 : decode cX3_each 87 = .ok (.if_icmp .ge 41, 3) := by decide +kernel
theorem dX3_each_90 : decode cX3_each 90 = .ok (.iload_n 3, 1) := by decide +kernel
theorem dX3_each_91 : decode cX3_each 91 = .ok (.aload_n 0, 1) := by decide +kernel
theorem dX3_each_92 : decode cX3_each 92 = .ok (.getfield 19, 3) := by decide +kernel
theorem dX3_each_95 : decode cX3_each 95 = .ok (.iload_n 1, 1) := by decide +kernel
theorem dX3_each_96 : decode cX3_each 96 = .ok (.invokevirtual 106, 3) := by decide +kernel
theorem dX3_each_99 : decode cX3_each 99 = .ok (.iadd, 1) := by decide +kernel
theorem dX3_each_100 : decode cX3_each 100 = .ok (.istore_n 3, 1) := by decide +kernel
theorem dX3_each_101 : decode cX3_each 101 = .ok (.aload_n 0, 1) := by decide +kernel
theorem dX3_each_102 : decode cX3_each 102 = .ok (.getfield 19, 3) := by decide +kernel
theorem dX3_each_105 : decode cX3_each 105 = .ok (.aload_n 0, 1) := by decide +kernel
theorem dX3_each_106 : decode cX3_each 106 = .ok (.getfield 19, 3) := by decide +kernel
theorem dX3_each_109 : decode cX3_each 109 = .ok (.aload_n 0, 1) := by decide +kernel
theorem dX3_each_110 : decode cX3_each 110 = .ok (.getfield 19, 3) := by decide +kernel
theorem dX3_each_113 : decode cX3_each 113 = .ok (.invokevirtual 118, 3) := by decide +kernel
theorem dX3_each_116 : decode cX3_each 116 = .ok (.invokevirtual 121, 3) := by decide +kernel
theorem dX3_each_119 : decode cX3_each 119 = .ok (.invokevirtual 124, 3) := by decide +kernel
theorem dX3_each_122 : decode cX3_each 122 = .ok (.iinc 4 1, 3) := by decide +kernel
theorem dX3_each_125 : decode cX3_each 125 = .ok (.goto (-41), 3) := by decide +kernel
theorem dX3_each_128 : decode cX3_each 128 = .ok (.iload_n 3, 1) := by decide +kernel
theorem dX3_each_129 : decode cX3_each 129 = .ok (.ireturn, 1) := by decide +kernel
theorem dX3_shut_0 : decode cX3_shut 0 = .ok (.aload_n 0, 1) := by decide +kernel
theorem dX3_shut_1 : decode cX3_shut 1 = .ok (.getfield 10, 3) := by decide +kernel
theorem dX3_shut_4 : decode cX3_shut 4 = .ok (.getfield 112, 3) := by decide +kernel
theorem dX3_shut_7 : decode cX3_shut 7 = .ok (.ifCond .ne 12, 3) := by decide +kernel
theorem dX3_shut_10 : decode cX3_shut 10 = .ok (.aload_n 0, 1) := by decide +kernel
theorem dX3_shut_11 : decode cX3_shut 11 = .ok (.bipush (-3), 2) := by decide +kernel
theorem dX3_shut_13 : decode cX3_shut 13 = .ok (.invokevirtual 46, 3) := by decide +kernel
theorem dX3_shut_16 : decode cX3_shut 16 = .ok (.goto 14, 3) := by decide +kernel
theorem dX3_shut_19 : decode cX3_shut 19 = .ok (.aload_n 0, 1) := by decide +kernel
theorem dX3_shut_20 : decode cX3_shut 20 = .ok (.getfield 25, 3) := by decide +kernel
theorem dX3_shut_23 : decode cX3_shut 23 = .ok (.aload_n 0, 1) := by decide +kernel
theorem dX3_shut_24 : decode cX3_shut 24 = .ok (.getfield 10, 3) := by decide +kernel
theorem dX3_shut_27 : decode cX3_shut 27 = .ok (.invokevirtual 150, 3) := by decide +kernel
theorem dX3_shut_30 : decode cX3_shut 30 = .ok (.ireturn, 1) := by decide +kernel
theorem dX3_lead_0 : decode cX3_lead 0 = .ok (.aload_n 0, 1) := by decide +kernel
theorem dX3_lead_1 : decode cX3_lead 1 = .ok (.iload_n 1, 1) := by decide +kernel
theorem dX3_lead_2 : decode cX3_lead 2 = .ok (.invokevirtual 65, 3) := by decide +kernel
theorem dX3_lead_5 : decode cX3_lead 5 = .ok (.ifCond .eq 11, 3) := by decide +kernel
theorem dX3_lead_8 : decode cX3_lead 8 = .ok (.aload_n 0, 1) := by decide +kernel
theorem dX3_lead_9 : decode cX3_lead 9 = .ok (.iconst (-1), 1) := by decide +kernel
theorem dX3_lead_10 : decode cX3_lead 10 = .ok (.invokevirtual 46, 3) := by decide +kernel
theorem dX3_lead_13 : decode cX3_lead 13 = .ok (.goto 15, 3) := by decide +kernel
theorem dX3_lead_16 : decode cX3_lead 16 = .ok (.aload_n 0, 1) := by decide +kernel
theorem dX3_lead_17 : decode cX3_lead 17 = .ok (.getfield 25, 3) := by decide +kernel
theorem dX3_lead_20 : decode cX3_lead 20 = .ok (.aload_n 0, 1) := by decide +kernel
theorem dX3_lead_21 : decode cX3_lead 21 = .ok (.getfield 10, 3) := by decide +kernel
theorem dX3_lead_24 : decode cX3_lead 24 = .ok (.iload_n 1, 1) := by decide +kernel
theorem dX3_lead_25 : decode cX3_lead 25 = .ok (.invokevirtual 153, 3) := by decide +kernel
theorem dX3_lead_28 : decode cX3_lead 28 = .ok (.ireturn, 1) := by decide +kernel
theorem dX3_row_0 : decode cX3_row 0 = .ok (.iload_n 1, 1) := by decide +kernel
theorem dX3_row_1 : decode cX3_row 1 = .ok (.ifCond .ge 10, 3) := by decide +kernel
theorem dX3_row_4 : decode cX3_row 4 = .ok (.aload_n 0, 1) := by decide +kernel
theorem dX3_row_5 : decode cX3_row 5 = .ok (.bipush (-4), 2) := by decide +kernel
theorem dX3_row_7 : decode cX3_row 7 = .ok (.invokevirtual 46, 3) := by decide +kernel
theorem dX3_row_10 : decode cX3_row 10 = .ok (.ireturn, 1) := by decide +kernel
theorem dX3_row_11 : decode cX3_row 11 = .ok (.iload_n 1, 1) := by decide +kernel
theorem dX3_row_12 : decode cX3_row 12 = .ok (.bipush 6, 2) := by decide +kernel
theorem dX3_row_14 : decode cX3_row 14 = .ok (.if_icmp .ge 12, 3) := by decide +kernel
theorem dX3_row_17 : decode cX3_row 17 = .ok (.aload_n 0, 1) := by decide +kernel
theorem dX3_row_18 : decode cX3_row 18 = .ok (.getfield 156, 3) := by decide +kernel
theorem dX3_row_21 : decode cX3_row 21 = .ok (.bipush 8, 2) := by decide +kernel
theorem dX3_row_23 : decode cX3_row 23 = .ok (.if_icmp .lt 10, 3) := by decide +kernel
theorem dX3_row_26 : decode cX3_row 26 = .ok (.aload_n 0, 1) := by decide +kernel
theorem dX3_row_27 : decode cX3_row 27 = .ok (.bipush (-6), 2) := by decide +kernel
theorem dX3_row_29 : decode cX3_row 29 = .ok (.invokevirtual 46, 3) := by decide +kernel
theorem dX3_row_32 : decode cX3_row 32 = .ok (.ireturn, 1) := by decide +kernel
theorem dX3_row_33 : decode cX3_row 33 = .ok (.aload_n 0, 1) := by decide +kernel
theorem dX3_row_34 : decode cX3_row 34 = .ok (.getfield 36, 3) := by decide +kernel
theorem dX3_row_37 : decode cX3_row 37 = .ok (.aload_n 0, 1) := by decide +kernel
theorem dX3_row_38 : decode cX3_row 38 = .ok (.getfield 156, 3) := by decide +kernel
theorem dX3_row_41 : decode cX3_row 41 = .ok (.iload_n 1, 1) := by decide +kernel
theorem dX3_row_42 : decode cX3_row 42 = .ok (.iastore, 1) := by decide +kernel
theorem dX3_row_43 : decode cX3_row 43 = .ok (.aload_n 0, 1) := by decide +kernel
theorem dX3_row_44 : decode cX3_row 44 = .ok (.dup, 1) := by decide +kernel
theorem dX3_row_45 : decode cX3_row 45 = .ok (.getfield 156, 3) := by decide +kernel
theorem dX3_row_48 : decode cX3_row 48 = .ok (.iconst 1, 1) := by decide +kernel
theorem dX3_row_49 : decode cX3_row 49 = .ok (.iadd, 1) := by decide +kernel
theorem dX3_row_50 : decode cX3_row 50 = .ok (.putfield 156, 3) := by decide +kernel
theorem dX3_row_53 : decode cX3_row 53 = .ok (.aload_n 0, 1) := by decide +kernel
theorem dX3_row_54 : decode cX3_row 54 = .ok (.getfield 156, 3) := by decide +kernel
theorem dX3_row_57 : decode cX3_row 57 = .ok (.ireturn, 1) := by decide +kernel
theorem dX3_ways_0 : decode cX3_ways 0 = .ok (.aload_n 0, 1) := by decide +kernel
theorem dX3_ways_1 : decode cX3_ways 1 = .ok (.getfield 10, 3) := by decide +kernel
theorem dX3_ways_4 : decode cX3_ways 4 = .ok (.getfield 112, 3) := by decide +kernel
theorem dX3_ways_7 : decode cX3_ways 7 = .ok (.ifCond .ne 10, 3) := by decide +kernel
theorem dX3_ways_10 : decode cX3_ways 10 = .ok (.aload_n 0, 1) := by decide +kernel
theorem dX3_ways_11 : decode cX3_ways 11 = .ok (.bipush (-3), 2) := by decide +kernel
theorem dX3_ways_13 : decode cX3_ways 13 = .ok (.invokevirtual 46, 3) := by decide +kernel
theorem dX3_ways_16 : decode cX3_ways 16 = .ok (.ireturn, 1) := by decide +kernel
theorem dX3_ways_17 : decode cX3_ways 17 = .ok (.iconst 0, 1) := by decide +kernel
theorem dX3_ways_18 : decode cX3_ways 18 = .ok (.istore_n 1, 1) := by decide +kernel
theorem dX3_ways_19 : decode cX3_ways 19 = .ok (.iconst 0, 1) := by decide +kernel
theorem dX3_ways_20 : decode cX3_ways 20 = .ok (.istore_n 2, 1) := by decide +kernel
theorem dX3_ways_21 : decode cX3_ways 21 = .ok (.iload_n 2, 1) := by decide +kernel
theorem dX3_ways_22 : decode cX3_ways 22 = .ok (.bipush 6, 2) := by decide +kernel
theorem dX3_ways_24 : decode cX3_ways 24 = .ok (.if_icmp .ge 30, 3) := by decide +kernel
theorem dX3_ways_27 : decode cX3_ways 27 = .ok (.aload_n 0, 1) := by decide +kernel
theorem dX3_ways_28 : decode cX3_ways 28 = .ok (.iload_n 2, 1) := by decide +kernel
theorem dX3_ways_29 : decode cX3_ways 29 = .ok (.invokevirtual 159, 3) := by decide +kernel
theorem dX3_ways_32 : decode cX3_ways 32 = .ok (.aload_n 0, 1) := by decide +kernel
theorem dX3_ways_33 : decode cX3_ways 33 = .ok (.iload_n 2, 1) := by decide +kernel
theorem dX3_ways_34 : decode cX3_ways 34 = .ok (.invokevirtual 162, 3) := by decide +kernel
theorem dX3_ways_37 : decode cX3_ways 37 = .ok (.bipush (-9), 2) := by decide +kernel
theorem dX3_ways_39 : decode cX3_ways 39 = .ok (.if_icmp .ne 9, 3) := by decide +kernel
theorem dX3_ways_42 : decode cX3_ways 42 = .ok (.iload_n 1, 1) := by decide +kernel
theorem dX3_ways_43 : decode cX3_ways 43 = .ok (.iconst 1, 1) := by decide +kernel
theorem dX3_ways_44 : decode cX3_ways 44 = .ok (.iload_n 2, 1) := by decide +kernel
theorem dX3_ways_45 : decode cX3_ways 45 = .ok (.ishl, 1) := by decide +kernel
theorem dX3_ways_46 : decode cX3_ways 46 = .ok (.ior, 1) := by decide +kernel
theorem dX3_ways_47 : decode cX3_ways 47 = .ok (.istore_n 1, 1) := by decide +kernel
theorem dX3_ways_48 : decode cX3_ways 48 = .ok (.iinc 2 1, 3) := by decide +kernel
theorem dX3_ways_51 : decode cX3_ways 51 = .ok (.goto (-30), 3) := by decide +kernel
theorem dX3_ways_54 : decode cX3_ways 54 = .ok (.iload_n 1, 1) := by decide +kernel
theorem dX3_ways_55 : decode cX3_ways 55 = .ok (.ireturn, 1) := by decide +kernel
theorem dX3_soon_0 : decode cX3_soon 0 = .ok (.aload_n 0, 1) := by decide +kernel
theorem dX3_soon_1 : decode cX3_soon 1 = .ok (.getfield 10, 3) := by decide +kernel
theorem dX3_soon_4 : decode cX3_soon 4 = .ok (.getfield 112, 3) := by decide +kernel
theorem dX3_soon_7 : decode cX3_soon 7 = .ok (.ifCond .ne 10, 3) := by decide +kernel
theorem dX3_soon_10 : decode cX3_soon 10 = .ok (.aload_n 0, 1) := by decide +kernel
theorem dX3_soon_11 : decode cX3_soon 11 = .ok (.bipush (-3), 2) := by decide +kernel
theorem dX3_soon_13 : decode cX3_soon 13 = .ok (.invokevirtual 46, 3) := by decide +kernel
theorem dX3_soon_16 : decode cX3_soon 16 = .ok (.ireturn, 1) := by decide +kernel
theorem dX3_soon_17 : decode cX3_soon 17 = .ok (.iconst 0, 1) := by decide +kernel
theorem dX3_soon_18 : decode cX3_soon 18 = .ok (.istore_n 1, 1) := by decide +kernel
theorem dX3_soon_19 : decode cX3_soon 19 = .ok (.iconst 0, 1) := by decide +kernel
theorem dX3_soon_20 : decode cX3_soon 20 = .ok (.istore_n 2, 1) := by decide +kernel
theorem dX3_soon_21 : decode cX3_soon 21 = .ok (.iload_n 2, 1) := by decide +kernel
theorem dX3_soon_22 : decode cX3_soon 22 = .ok (.bipush 6, 2) := by decide +kernel
theorem dX3_soon_24 : decode cX3_soon 24 = .ok (.if_icmp .ge 38, 3) := by decide +kernel
theorem dX3_soon_27 : decode cX3_soon 27 = .ok (.aload_n 0, 1) := by decide +kernel
theorem dX3_soon_28 : decode cX3_soon 28 = .ok (.iload_n 2, 1) := by decide +kernel
theorem dX3_soon_29 : decode cX3_soon 29 = .ok (.invokevirtual 159, 3) := by decide +kernel
theorem dX3_soon_32 : decode cX3_soon 32 = .ok (.iconst 0, 1) := by decide +kernel
theorem dX3_soon_33 : decode cX3_soon 33 = .ok (.istore_n 3, 1) := by decide +kernel
theorem dX3_soon_34 : decode cX3_soon 34 = .ok (.iload_n 3, 1) := by decide +kernel
theorem dX3_soon_35 : decode cX3_soon 35 = .ok (.iload_n 2, 1) := by decide +kernel
theorem dX3_soon_36 : decode cX3_soon 36 = .ok (.if_icmp .ge 20, 3) := by decide +kernel
theorem dX3_soon_39 : decode cX3_soon 39 = .ok (.iload_n 1, 1) := by decide +kernel
theorem dX3_soon_40 : decode cX3_soon 40 = .ok (.aload_n 0, 1) := by decide +kernel
theorem dX3_soon_41 : decode cX3_soon 41 = .ok (.iload_n 2, 1) := by decide +kernel
theorem dX3_soon_42 : decode cX3_soon 42 = .ok (.iload_n 3, 1) := by decide +kernel
theorem dX3_soon_43 : decode cX3_soon 43 = .ok (.invokevirtual 165, 3) := by decide +kernel
theorem dX3_soon_46 : decode cX3_soon 46 = .ok (.invokestatic 168, 3) := by decide +kernel
theorem dX3_soon_49 : decode cX3_soon 49 = .ok (.istore_n 1, 1) := by decide +kernel
theorem dX3_soon_50 : decode cX3_soon 50 = .ok (.iinc 3 1, 3) := by decide +kernel
theorem dX3_soon_53 : decode cX3_soon 53 = .ok (.goto (-19), 3) := by decide +kernel
theorem dX3_soon_56 : decode cX3_soon 56 = .ok (.iinc 2 1, 3) := by decide +kernel
theorem dX3_soon_59 : decode cX3_soon 59 = .ok (.goto (-38), 3) := by decide +kernel
theorem dX3_soon_62 : decode cX3_soon 62 = .ok (.iload_n 1, 1) := by decide +kernel
theorem dX3_soon_63 : decode cX3_soon 63 = .ok (.ireturn, 1) := by decide +kernel
theorem dX3_settle_0 : decode cX3_settle 0 = .ok (.iload_n 1, 1) := by decide +kernel
theorem dX3_settle_1 : decode cX3_settle 1 = .ok (.ifCond .ge 10, 3) := by decide +kernel
theorem dX3_settle_4 : decode cX3_settle 4 = .ok (.aload_n 0, 1) := by decide +kernel
theorem dX3_settle_5 : decode cX3_settle 5 = .ok (.bipush (-4), 2) := by decide +kernel
theorem dX3_settle_7 : decode cX3_settle 7 = .ok (.invokevirtual 46, 3) := by decide +kernel
theorem dX3_settle_10 : decode cX3_settle 10 = .ok (.ireturn, 1) := by decide +kernel
theorem dX3_settle_11 : decode cX3_settle 11 = .ok (.iload_n 1, 1) := by decide +kernel
theorem dX3_settle_12 : decode cX3_settle 12 = .ok (.bipush 30, 2) := by decide +kernel
theorem dX3_settle_14 : decode cX3_settle 14 = .ok (.if_icmp .le 10, 3) := by decide +kernel
theorem dX3_settle_17 : decode cX3_settle 17 = .ok (.aload_n 0, 1) := by decide +kernel
theorem dX3_settle_18 : decode cX3_settle 18 = .ok (.bipush (-6), 2) := by decide +kernel
theorem dX3_settle_20 : decode cX3_settle 20 = .ok (.invokevirtual 46, 3) := by decide +kernel
theorem dX3_settle_23 : decode cX3_settle 23 = .ok (.ireturn, 1) := by decide +kernel
theorem dX3_settle_24 : decode cX3_settle 24 = .ok (.aload_n 0, 1) := by decide +kernel
theorem dX3_settle_25 : decode cX3_settle 25 = .ok (.getfield 10, 3) := by decide +kernel
theorem dX3_settle_28 : decode cX3_settle 28 = .ok (.getfield 112, 3) := by decide +kernel
theorem dX3_settle_31 : decode cX3_settle 31 = .ok (.ifCond .ne 10, 3) := by decide +kernel
theorem dX3_settle_34 : decode cX3_settle 34 = .ok (.aload_n 0, 1) := by decide +kernel
theorem dX3_settle_35 : decode cX3_settle 35 = .ok (.bipush (-3), 2) := by decide +kernel
theorem dX3_settle_37 : decode cX3_settle 37 = .ok (.invokevirtual 46, 3) := by decide +kernel
theorem dX3_settle_40 : decode cX3_settle 40 = .ok (.ireturn, 1) := by decide +kernel
theorem dX3_settle_41 : decode cX3_settle 41 = .ok (.aload_n 0, 1) := by decide +kernel
theorem dX3_settle_42 : decode cX3_settle 42 = .ok (.getfield 19, 3) := by decide +kernel
theorem dX3_settle_45 : decode cX3_settle 45 = .ok (.aload_n 0, 1) := by decide +kernel
theorem dX3_settle_46 : decode cX3_settle 46 = .ok (.getfield 10, 3) := by decide +kernel
theorem dX3_settle_49 : decode cX3_settle 49 = .ok (.invokevirtual 57, 3) := by decide +kernel
theorem dX3_settle_52 : decode cX3_settle 52 = .ok (.iconst 0, 1) := by decide +kernel
theorem dX3_settle_53 : decode cX3_settle 53 = .ok (.istore_n 2, 1) := by decide +kernel
theorem dX3_settle_54 : decode cX3_settle 54 = .ok (.iload_n 2, 1) := by decide +kernel
theorem dX3_settle_55 : decode cX3_settle 55 = .ok (.iload_n 1, 1) := by decide +kernel
theorem dX3_settle_56 : decode cX3_settle 56 = .ok (.if_icmp .ge 30, 3) := by decide +kernel
theorem dX3_settle_59 : decode cX3_settle 59 = .ok (.aload_n 0, 1) := by decide +kernel
theorem dX3_settle_60 : decode cX3_settle 60 = .ok (.getfield 19, 3) := by decide +kernel
theorem dX3_settle_63 : decode cX3_settle 63 = .ok (.aload_n 0, 1) := by decide +kernel
theorem dX3_settle_64 : decode cX3_settle 64 = .ok (.getfield 19, 3) := by decide +kernel
theorem dX3_settle_67 : decode cX3_settle 67 = .ok (.aload_n 0, 1) := by decide +kernel
theorem dX3_settle_68 : decode cX3_settle 68 = .ok (.getfield 19, 3) := by decide +kernel
theorem dX3_settle_71 : decode cX3_settle 71 = .ok (.invokevirtual 118, 3) := by decide +kernel
theorem dX3_settle_74 : decode cX3_settle 74 = .ok (.invokevirtual 121, 3) := by decide +kernel
theorem dX3_settle_77 : decode cX3_settle 77 = .ok (.invokevirtual 124, 3) := by decide +kernel
theorem dX3_settle_80 : decode cX3_settle 80 = .ok (.iinc 2 1, 3) := by decide +kernel
theorem dX3_settle_83 : decode cX3_settle 83 = .ok (.goto (-29), 3) := by decide +kernel
theorem dX3_settle_86 : decode cX3_settle 86 = .ok (.aload_n 0, 1) := by decide +kernel
theorem dX3_settle_87 : decode cX3_settle 87 = .ok (.getfield 19, 3) := by decide +kernel
theorem dX3_settle_90 : decode cX3_settle 90 = .ok (.invokevirtual 173, 3) := by decide +kernel
theorem dX3_settle_93 : decode cX3_settle 93 = .ok (.ireturn, 1) := by decide +kernel
theorem dX3_without_0 : decode cX3_without 0 = .ok (.aload_n 0, 1) := by decide +kernel
theorem dX3_without_1 : decode cX3_without 1 = .ok (.iload_n 1, 1) := by decide +kernel
theorem dX3_without_2 : decode cX3_without 2 = .ok (.invokevirtual 65, 3) := by decide +kernel
theorem dX3_without_5 : decode cX3_without 5 = .ok (.ifCond .eq 9, 3) := by decide +kernel
theorem dX3_without_8 : decode cX3_without 8 = .ok (.aload_n 0, 1) := by decide +kernel
theorem dX3_without_9 : decode cX3_without 9 = .ok (.iconst (-1), 1) := by decide +kernel
theorem dX3_without_10 : decode cX3_without 10 = .ok (.invokevirtual 46, 3) := by decide +kernel
theorem dX3_without_13 : decode cX3_without 13 = .ok (.ireturn, 1) := by decide +kernel
theorem dX3_without_14 : decode cX3_without 14 = .ok (.aload_n 0, 1) := by decide +kernel
theorem dX3_without_15 : decode cX3_without 15 = .ok (.getfield 10, 3) := by decide +kernel
theorem dX3_without_18 : decode cX3_without 18 = .ok (.aload_n 0, 1) := by decide +kernel
theorem dX3_without_19 : decode cX3_without 19 = .ok (.getfield 10, 3) := by decide +kernel
theorem dX3_without_22 : decode cX3_without 22 = .ok (.invokevirtual 118, 3) := by decide +kernel
theorem dX3_without_25 : decode cX3_without 25 = .ok (.iconst 1, 1) := by decide +kernel
theorem dX3_without_26 : decode cX3_without 26 = .ok (.iload_n 1, 1) := by decide +kernel
theorem dX3_without_27 : decode cX3_without 27 = .ok (.ishl, 1) := by decide +kernel
theorem dX3_without_28 : decode cX3_without 28 = .ok (.iconst (-1), 1) := by decide +kernel
theorem dX3_without_29 : decode cX3_without 29 = .ok (.ixor, 1) := by decide +kernel
theorem dX3_without_30 : decode cX3_without 30 = .ok (.iand, 1) := by decide +kernel
theorem dX3_without_31 : decode cX3_without 31 = .ok (.invokevirtual 121, 3) := by decide +kernel
theorem dX3_without_34 : decode cX3_without 34 = .ok (.ireturn, 1) := by decide +kernel
theorem dX3_put_0 : decode cX3_put 0 = .ok (.iload_n 1, 1) := by decide +kernel
theorem dX3_put_1 : decode cX3_put 1 = .ok (.ifCond .lt 11, 3) := by decide +kernel
theorem dX3_put_4 : decode cX3_put 4 = .ok (.iload_n 2, 1) := by decide +kernel
theorem dX3_put_5 : decode cX3_put 5 = .ok (.ifCond .lt 7, 3) := by decide +kernel
theorem dX3_put_8 : decode cX3_put 8 = .ok (.iload_n 3, 1) := by decide +kernel
theorem dX3_put_9 : decode cX3_put 9 = .ok (.ifCond .ge 10, 3) := by decide +kernel
theorem dX3_put_12 : decode cX3_put 12 = .ok (.aload_n 0, 1) := by decide +kernel
theorem dX3_put_13 : decode cX3_put 13 = .ok (.bipush (-4), 2) := by decide +kernel
theorem dX3_put_15 : decode cX3_put 15 = .ok (.invokevirtual 46, 3) := by decide +kernel
theorem dX3_put_18 : decode cX3_put 18 = .ok (.ireturn, 1) := by decide +kernel
theorem dX3_put_19 : decode cX3_put 19 = .ok (.iload_n 1, 1) := by decide +kernel
theorem dX3_put_20 : decode cX3_put 20 = .ok (.bipush 9, 2) := by decide +kernel
theorem dX3_put_22 : decode cX3_put 22 = .ok (.if_icmp .gt 15, 3) := by decide +kernel
theorem dX3_put_25 : decode cX3_put 25 = .ok (.iload_n 2, 1) := by decide +kernel
theorem dX3_put_26 : decode cX3_put 26 = .ok (.bipush 9, 2) := by decide +kernel
theorem dX3_put_28 : decode cX3_put 28 = .ok (.if_icmp .gt 9, 3) := by decide +kernel
theorem dX3_put_31 : decode cX3_put 31 = .ok (.iload_n 3, 1) := by decide +kernel
theorem dX3_put_32 : decode cX3_put 32 = .ok (.bipush 9, 2) := by decide +kernel
theorem dX3_put_34 : decode cX3_put 34 = .ok (.if_icmp .le 10, 3) := by decide +kernel
theorem dX3_put_37 : decode cX3_put 37 = .ok (.aload_n 0, 1) := by decide +kernel
theorem dX3_put_38 : decode cX3_put 38 = .ok (.bipush (-6), 2) := by decide +kernel
theorem dX3_put_40 : decode cX3_put 40 = .ok (.invokevirtual 46, 3) := by decide +kernel
theorem dX3_put_43 : decode cX3_put 43 = .ok (.ireturn, 1) := by decide +kernel
theorem dX3_put_44 : decode cX3_put 44 = .ok (.aload_n 0, 1) := by decide +kernel
theorem dX3_put_45 : decode cX3_put 45 = .ok (.getfield 19, 3) := by decide +kernel
theorem dX3_put_48 : decode cX3_put 48 = .ok (.aload_n 0, 1) := by decide +kernel
theorem dX3_put_49 : decode cX3_put 49 = .ok (.getfield 10, 3) := by decide +kernel
theorem dX3_put_52 : decode cX3_put 52 = .ok (.invokevirtual 57, 3) := by decide +kernel
theorem dX3_put_55 : decode cX3_put 55 = .ok (.aload_n 0, 1) := by decide +kernel
theorem dX3_put_56 : decode cX3_put 56 = .ok (.getfield 19, 3) := by decide +kernel
theorem dX3_put_59 : decode cX3_put 59 = .ok (.iload_n 1, 1) := by decide +kernel
theorem dX3_put_60 : decode cX3_put 60 = .ok (.iload_n 2, 1) := by decide +kernel
theorem dX3_put_61 : decode cX3_put 61 = .ok (.iconst 0, 1) := by decide +kernel
theorem dX3_put_62 : decode cX3_put 62 = .ok (.iload_n 3, 1) := by decide +kernel
theorem dX3_put_63 : decode cX3_put 63 = .ok (.invokevirtual 176, 3) := by decide +kernel
theorem dX3_put_66 : decode cX3_put 66 = .ok (.ifCond .ne 10, 3) := by decide +kernel
theorem dX3_put_69 : decode cX3_put 69 = .ok (.aload_n 0, 1) := by decide +kernel
theorem dX3_put_70 : decode cX3_put 70 = .ok (.bipush (-6), 2) := by decide +kernel
theorem dX3_put_72 : decode cX3_put 72 = .ok (.invokevirtual 46, 3) := by decide +kernel
theorem dX3_put_75 : decode cX3_put 75 = .ok (.ireturn, 1) := by decide +kernel
theorem dX3_put_76 : decode cX3_put 76 = .ok (.aload_n 0, 1) := by decide +kernel
theorem dX3_put_77 : decode cX3_put 77 = .ok (.getfield 19, 3) := by decide +kernel
theorem dX3_put_80 : decode cX3_put 80 = .ok (.aload_n 0, 1) := by decide +kernel
theorem dX3_put_81 : decode cX3_put 81 = .ok (.getfield 19, 3) := by decide +kernel
theorem dX3_put_84 : decode cX3_put 84 = .ok (.invokevirtual 118, 3) := by decide +kernel
theorem dX3_put_87 : decode cX3_put 87 = .ok (.invokevirtual 121, 3) := by decide +kernel
theorem dX3_put_90 : decode cX3_put 90 = .ok (.ireturn, 1) := by decide +kernel
theorem dX3_been_0 : decode cX3_been 0 = .ok (.iload_n 1, 1) := by decide +kernel
theorem dX3_been_1 : decode cX3_been 1 = .ok (.ifCond .ge 10, 3) := by decide +kernel
theorem dX3_been_4 : decode cX3_been 4 = .ok (.aload_n 0, 1) := by decide +kernel
theorem dX3_been_5 : decode cX3_been 5 = .ok (.bipush (-4), 2) := by decide +kernel
theorem dX3_been_7 : decode cX3_been 7 = .ok (.invokevirtual 46, 3) := by decide +kernel
theorem dX3_been_10 : decode cX3_been 10 = .ok (.ireturn, 1) := by decide +kernel
theorem dX3_been_11 : decode cX3_been 11 = .ok (.iload_n 1, 1) := by decide +kernel
theorem dX3_been_12 : decode cX3_been 12 = .ok (.bipush 10, 2) := by decide +kernel
theorem dX3_been_14 : decode cX3_been 14 = .ok (.if_icmp .lt 10, 3) := by decide +kernel
theorem dX3_been_17 : decode cX3_been 17 = .ok (.aload_n 0, 1) := by decide +kernel
theorem dX3_been_18 : decode cX3_been 18 = .ok (.bipush (-6), 2) := by decide +kernel
theorem dX3_been_20 : decode cX3_been 20 = .ok (.invokevirtual 46, 3) := by decide +kernel
theorem dX3_been_23 : decode cX3_been 23 = .ok (.ireturn, 1) := by decide +kernel
theorem dX3_been_24 : decode cX3_been 24 = .ok (.iconst 0, 1) := by decide +kernel
theorem dX3_been_25 : decode cX3_been 25 = .ok (.istore_n 2, 1) := by decide +kernel
theorem dX3_been_26 : decode cX3_been 26 = .ok (.iload_n 2, 1) := by decide +kernel
theorem dX3_been_27 : decode cX3_been 27 = .ok (.aload_n 0, 1) := by decide +kernel
theorem dX3_been_28 : decode cX3_been 28 = .ok (.getfield 10, 3) := by decide +kernel
theorem dX3_been_31 : decode cX3_been 31 = .ok (.getfield 112, 3) := by decide +kernel
theorem dX3_been_34 : decode cX3_been 34 = .ok (.if_icmp .ge 28, 3) := by decide +kernel
theorem dX3_been_37 : decode cX3_been 37 = .ok (.aload_n 0, 1) := by decide +kernel
theorem dX3_been_38 : decode cX3_been 38 = .ok (.getfield 10, 3) := by decide +kernel
theorem dX3_been_41 : decode cX3_been 41 = .ok (.getfield 180, 3) := by decide +kernel
theorem dX3_been_44 : decode cX3_been 44 = .ok (.iload_n 2, 1) := by decide +kernel
theorem dX3_been_45 : decode cX3_been 45 = .ok (.bipush 10, 2) := by decide +kernel
theorem dX3_been_47 : decode cX3_been 47 = .ok (.imul, 1) := by decide +kernel
theorem dX3_been_48 : decode cX3_been 48 = .ok (.iload_n 1, 1) := by decide +kernel
theorem dX3_been_49 : decode cX3_been 49 = .ok (.iadd, 1) := by decide +kernel
theorem dX3_been_50 : decode cX3_been 50 = .ok (.iaload, 1) := by decide +kernel
theorem dX3_been_51 : decode cX3_been 51 = .ok (.ifCond .le 5, 3) := by decide +kernel
theorem dX3_been_54 : decode cX3_been 54 = .ok (.iload_n 2, 1) := by decide +kernel
theorem dX3_been_55 : decode cX3_been 55 = .ok (.ireturn, 1) := by decide +kernel
theorem dX3_been_56 : decode cX3_been 56 = .ok (.iinc 2 1, 3) := by decide +kernel
theorem dX3_been_59 : decode cX3_been 59 = .ok (.goto (-33), 3) := by decide +kernel
theorem dX3_been_62 : decode cX3_been 62 = .ok (.bipush (-9), 2) := by decide +kernel
theorem dX3_been_64 : decode cX3_been 64 = .ok (.ireturn, 1) := by decide +kernel
theorem dX3_judge_0 : decode cX3_judge 0 = .ok (.aload_n 0, 1) := by decide +kernel
theorem dX3_judge_1 : decode cX3_judge 1 = .ok (.getfield 10, 3) := by decide +kernel
theorem dX3_judge_4 : decode cX3_judge 4 = .ok (.getfield 112, 3) := by decide +kernel
theorem dX3_judge_7 : decode cX3_judge 7 = .ok (.ifCond .ne 10, 3) := by decide +kernel
theorem dX3_judge_10 : decode cX3_judge 10 = .ok (.aload_n 0, 1) := by decide +kernel
theorem dX3_judge_11 : decode cX3_judge 11 = .ok (.bipush (-3), 2) := by decide +kernel
theorem dX3_judge_13 : decode cX3_judge 13 = .ok (.invokevirtual 46, 3) := by decide +kernel
theorem dX3_judge_16 : decode cX3_judge 16 = .ok (.ireturn, 1) := by decide +kernel
theorem dX3_judge_17 : decode cX3_judge 17 = .ok (.aload_n 0, 1) := by decide +kernel
theorem dX3_judge_18 : decode cX3_judge 18 = .ok (.getfield 10, 3) := by decide +kernel
theorem dX3_judge_21 : decode cX3_judge 21 = .ok (.getfield 99, 3) := by decide +kernel
theorem dX3_judge_24 : decode cX3_judge 24 = .ok (.iconst 0, 1) := by decide +kernel
theorem dX3_judge_25 : decode cX3_judge 25 = .ok (.iaload, 1) := by decide +kernel
theorem dX3_judge_26 : decode cX3_judge 26 = .ok (.istore_n 1, 1) := by decide +kernel
theorem dX3_judge_27 : decode cX3_judge 27 = .ok (.aload_n 0, 1) := by decide +kernel
theorem dX3_judge_28 : decode cX3_judge 28 = .ok (.iload_n 1, 1) := by decide +kernel
theorem dX3_judge_29 : decode cX3_judge 29 = .ok (.invokevirtual 159, 3) := by decide +kernel
theorem dX3_judge_32 : decode cX3_judge 32 = .ok (.aload_n 0, 1) := by decide +kernel
theorem dX3_judge_33 : decode cX3_judge 33 = .ok (.iload_n 1, 1) := by decide +kernel
theorem dX3_judge_34 : decode cX3_judge 34 = .ok (.invokevirtual 162, 3) := by decide +kernel
theorem dX3_judge_37 : decode cX3_judge 37 = .ok (.istore_n 2, 1) := by decide +kernel
theorem dX3_judge_38 : decode cX3_judge 38 = .ok (.aload_n 0, 1) := by decide +kernel
theorem dX3_judge_39 : decode cX3_judge 39 = .ok (.iconst 0, 1) := by decide +kernel
theorem dX3_judge_40 : decode cX3_judge 40 = .ok (.putfield 156, 3) := by decide +kernel
theorem dX3_judge_43 : decode cX3_judge 43 = .ok (.iload_n 2, 1) := by decide +kernel
theorem dX3_judge_44 : decode cX3_judge 44 = .ok (.ireturn, 1) := by decide +kernel
theorem dX3_seeds_0 : decode cX3_seeds 0 = .ok (.iload_n 1, 1) := by decide +kernel
theorem dX3_seeds_1 : decode cX3_seeds 1 = .ok (.iconst 1, 1) := by decide +kernel
theorem dX3_seeds_2 : decode cX3_seeds 2 = .ok (.if_icmp .ge 10, 3) := by decide +kernel
theorem dX3_seeds_5 : decode cX3_seeds 5 = .ok (.aload_n 0, 1) := by decide +kernel
theorem dX3_seeds_6 : decode cX3_seeds 6 = .ok (.bipush (-4), 2) := by decide +kernel
theorem dX3_seeds_8 : decode cX3_seeds 8 = .ok (.invokevirtual 46, 3) := by decide +kernel
theorem dX3_seeds_11 : decode cX3_seeds 11 = .ok (.ireturn, 1) := by decide +kernel
theorem dX3_seeds_12 : decode cX3_seeds 12 = .ok (.iload_n 1, 1) := by decide +kernel
theorem dX3_seeds_13 : decode cX3_seeds 13 = .ok (.bipush 60, 2) := by decide +kernel
theorem dX3_seeds_15 : decode cX3_seeds 15 = .ok (.if_icmp .le 10, 3) := by decide +kernel
theorem dX3_seeds_18 : decode cX3_seeds 18 = .ok (.aload_n 0, 1) := by decide +kernel
theorem dX3_seeds_19 : decode cX3_seeds 19 = .ok (.bipush (-6), 2) := by decide +kernel
theorem dX3_seeds_21 : decode cX3_seeds 21 = .ok (.invokevirtual 46, 3) := by decide +kernel
theorem dX3_seeds_24 : decode cX3_seeds 24 = .ok (.ireturn, 1) := by decide +kernel
theorem dX3_seeds_25 : decode cX3_seeds 25 = .ok (.aload_n 0, 1) := by decide +kernel
theorem dX3_seeds_26 : decode cX3_seeds 26 = .ok (.getfield 10, 3) := by decide +kernel
theorem dX3_seeds_29 : decode cX3_seeds 29 = .ok (.getfield 112, 3) := by decide +kernel
theorem dX3_seeds_32 : decode cX3_seeds 32 = .ok (.ifCond .ne 10, 3) := by decide +kernel
theorem dX3_seeds_35 : decode cX3_seeds 35 = .ok (.aload_n 0, 1) := by decide +kernel
theorem dX3_seeds_36 : decode cX3_seeds 36 = .ok (.bipush (-3), 2) := by decide +kernel
theorem dX3_seeds_38 : decode cX3_seeds 38 = .ok (.invokevirtual 46, 3) := by decide +kernel
theorem dX3_seeds_41 : decode cX3_seeds 41 = .ok (.ireturn, 1) := by decide +kernel
theorem dX3_seeds_42 : decode cX3_seeds 42 = .ok (.aload_n 0, 1) := by decide +kernel
theorem dX3_seeds_43 : decode cX3_seeds 43 = .ok (.getfield 19, 3) := by decide +kernel
theorem dX3_seeds_46 : decode cX3_seeds 46 = .ok (.aload_n 0, 1) := by decide +kernel
theorem dX3_seeds_47 : decode cX3_seeds 47 = .ok (.getfield 10, 3) := by decide +kernel
theorem dX3_seeds_50 : decode cX3_seeds 50 = .ok (.invokevirtual 57, 3) := by decide +kernel
theorem dX3_seeds_53 : decode cX3_seeds 53 = .ok (.iload_n 2, 1) := by decide +kernel
theorem dX3_seeds_54 : decode cX3_seeds 54 = .ok (.istore_n 3, 1) := by decide +kernel
theorem dX3_seeds_55 : decode cX3_seeds 55 = .ok (.iconst 0, 1) := by decide +kernel
theorem dX3_seeds_56 : decode cX3_seeds 56 = .ok (.istore 4, 2) := by decide +kernel
theorem dX3_seeds_58 : decode cX3_seeds 58 = .ok (.iconst 0, 1) := by decide +kernel
theorem dX3_seeds_59 : decode cX3_seeds 59 = .ok (.istore 5, 2) := by decide +kernel
theorem dX3_seeds_61 : decode cX3_seeds 61 = .ok (.iload 5, 2) := by decide +kernel
theorem dX3_seeds_63 : decode cX3_seeds 63 = .ok (.iload_n 1, 1) := by decide +kernel
theorem dX3_seeds_64 : decode cX3_seeds 64 = .ok (.if_icmp .ge 87, 3) := by decide +kernel
theorem dX3_seeds_67 : decode cX3_seeds 67 = .ok (.iload_n 3, 1) := by decide +kernel
theorem dX3_seeds_68 : decode cX3_seeds 68 = .ok (.invokestatic 183, 3) := by decide +kernel
theorem dX3_seeds_71 : decode cX3_seeds 71 = .ok (.istore_n 3, 1) := by decide +kernel
theorem dX3_seeds_72 : decode cX3_seeds 72 = .ok (.iload 4, 2) := by decide +kernel
theorem dX3_seeds_74 : decode cX3_seeds 74 = .ok (.aload_n 0, 1) := by decide +kernel
theorem dX3_seeds_75 : decode cX3_seeds 75 = .ok (.getfield 19, 3) := by decide +kernel
theorem dX3_seeds_78 : decode cX3_seeds 78 = .ok (.iconst 1, 1) := by decide +kernel
theorem dX3_seeds_79 : decode cX3_seeds 79 = .ok (.aload_n 0, 1) := by decide +kernel
theorem dX3_seeds_80 : decode cX3_seeds 80 = .ok (.getfield 19, 3) := by decide +kernel
theorem dX3_seeds_83 : decode cX3_seeds 83 = .ok (.getfield 112, 3) := by decide +kernel
theorem dX3_seeds_86 : decode cX3_seeds 86 = .ok (.iload_n 3, 1) := by decide +kernel
theorem dX3_seeds_87 : decode cX3_seeds 87 = .ok (.invokestatic 186, 3) := by decide +kernel
theorem dX3_seeds_90 : decode cX3_seeds 90 = .ok (.ishl, 1) := by decide +kernel
theorem dX3_seeds_91 : decode cX3_seeds 91 = .ok (.invokevirtual 106, 3) := by decide +kernel
theorem dX3_seeds_94 : decode cX3_seeds 94 = .ok (.iadd, 1) := by decide +kernel
theorem dX3_seeds_95 : decode cX3_seeds 95 = .ok (.istore 4, 2) := by decide +kernel
theorem dX3_seeds_97 : decode cX3_seeds 97 = .ok (.iload_n 3, 1) := by decide +kernel
theorem dX3_seeds_98 : decode cX3_seeds 98 = .ok (.invokestatic 183, 3) := by decide +kernel
theorem dX3_seeds_101 : decode cX3_seeds 101 = .ok (.istore_n 3, 1) := by decide +kernel
theorem dX3_seeds_102 : decode cX3_seeds 102 = .ok (.aload_n 0, 1) := by decide +kernel
theorem dX3_seeds_103 : decode cX3_seeds 103 = .ok (.getfield 19, 3) := by decide +kernel
theorem dX3_seeds_106 : decode cX3_seeds 106 = .ok (.aload_n 0, 1) := by decide +kernel
theorem dX3_seeds_107 : decode cX3_seeds 107 = .ok (.getfield 19, 3) := by decide +kernel
theorem dX3_seeds_110 : decode cX3_seeds 110 = .ok (.aload_n 0, 1) := by decide +kernel
theorem dX3_seeds_111 : decode cX3_seeds 111 = .ok (.getfield 19, 3) := by decide +kernel
theorem dX3_seeds_114 : decode cX3_seeds 114 = .ok (.invokevirtual 118, 3) := by decide +kernel
theorem dX3_seeds_117 : decode cX3_seeds 117 = .ok (.invokevirtual 128, 3) := by decide +kernel
theorem dX3_seeds_120 : decode cX3_seeds 120 = .ok (.invokevirtual 133, 3) := by decide +kernel
theorem dX3_seeds_123 : decode cX3_seeds 123 = .ok (.istore 6, 2) := by decide +kernel
theorem dX3_seeds_125 : decode cX3_seeds 125 = .ok (.aload_n 0, 1) := by decide +kernel
theorem dX3_seeds_126 : decode cX3_seeds 126 = .ok (.getfield 19, 3) := by decide +kernel
theorem dX3_seeds_129 : decode cX3_seeds 129 = .ok (.aload_n 0, 1) := by decide +kernel
theorem dX3_seeds_130 : decode cX3_seeds 130 = .ok (.getfield 19, 3) := by decide +kernel
theorem dX3_seeds_133 : decode cX3_seeds 133 = .ok (.iload 6, 2) := by decide +kernel
theorem dX3_seeds_135 : decode cX3_seeds 135 = .ok (.iload_n 3, 1) := by decide +kernel
theorem dX3_seeds_136 : decode cX3_seeds 136 = .ok (.invokestatic 186, 3) := by decide +kernel
theorem dX3_seeds_139 : decode cX3_seeds 139 = .ok (.invokevirtual 189, 3) := by decide +kernel
theorem dX3_seeds_142 : decode cX3_seeds 142 = .ok (.invokevirtual 124, 3) := by decide +kernel
theorem dX3_seeds_145 : decode cX3_seeds 145 = .ok (.iinc 5 1, 3) := by decide +kernel
theorem dX3_seeds_148 : decode cX3_seeds 148 = .ok (.goto (-87), 3) := by decide +kernel
theorem dX3_seeds_151 : decode cX3_seeds 151 = .ok (.iload 4, 2) := by decide +kernel
theorem dX3_seeds_153 : decode cX3_seeds 153 = .ok (.ireturn, 1) := by decide +kernel
theorem dX3_clear_0 : decode cX3_clear 0 = .ok (.aload_n 0, 1) := by decide +kernel
theorem dX3_clear_1 : decode cX3_clear 1 = .ok (.getfield 156, 3) := by decide +kernel
theorem dX3_clear_4 : decode cX3_clear 4 = .ok (.istore_n 1, 1) := by decide +kernel
theorem dX3_clear_5 : decode cX3_clear 5 = .ok (.aload_n 0, 1) := by decide +kernel
theorem dX3_clear_6 : decode cX3_clear 6 = .ok (.iconst 0, 1) := by decide +kernel
theorem dX3_clear_7 : decode cX3_clear 7 = .ok (.putfield 156, 3) := by decide +kernel
theorem dX3_clear_10 : decode cX3_clear 10 = .ok (.iload_n 1, 1) := by decide +kernel
theorem dX3_clear_11 : decode cX3_clear 11 = .ok (.ireturn, 1) := by decide +kernel
theorem dX3_image_0 : decode cX3_image 0 = .ok (.aload_n 0, 1) := by decide +kernel
theorem dX3_image_1 : decode cX3_image 1 = .ok (.getfield 16, 3) := by decide +kernel
theorem dX3_image_4 : decode cX3_image 4 = .ok (.aload_n 0, 1) := by decide +kernel
theorem dX3_image_5 : decode cX3_image 5 = .ok (.getfield 10, 3) := by decide +kernel
theorem dX3_image_8 : decode cX3_image 8 = .ok (.invokevirtual 57, 3) := by decide +kernel
theorem dX3_image_11 : decode cX3_image 11 = .ok (.aload_n 0, 1) := by decide +kernel
theorem dX3_image_12 : decode cX3_image 12 = .ok (.iconst 1, 1) := by decide +kernel
theorem dX3_image_13 : decode cX3_image 13 = .ok (.putfield 192, 3) := by decide +kernel
theorem dX3_image_16 : decode cX3_image 16 = .ok (.aload_n 0, 1) := by decide +kernel
theorem dX3_image_17 : decode cX3_image 17 = .ok (.getfield 10, 3) := by decide +kernel
theorem dX3_image_20 : decode cX3_image 20 = .ok (.getfield 115, 3) := by decide +kernel
theorem dX3_image_23 : decode cX3_image 23 = .ok (.ireturn, 1) := by decide +kernel
theorem dX3_restore_0 : decode cX3_restore 0 = .ok (.aload_n 0, 1) := by decide +kernel
theorem dX3_restore_1 : decode cX3_restore 1 = .ok (.getfield 192, 3) := by decide +kernel
theorem dX3_restore_4 : decode cX3_restore 4 = .ok (.ifCond .ne 10, 3) := by decide +kernel
theorem dX3_restore_7 : decode cX3_restore 7 = .ok (.aload_n 0, 1) := by decide +kernel
theorem dX3_restore_8 : decode cX3_restore 8 = .ok (.bipush (-3), 2) := by decide +kernel
theorem dX3_restore_10 : decode cX3_restore 10 = .ok (.invokevirtual 46, 3) := by decide +kernel
theorem dX3_restore_13 : decode cX3_restore 13 = .ok (.ireturn, 1) := by decide +kernel
theorem dX3_restore_14 : decode cX3_restore 14 = .ok (.aload_n 0, 1) := by decide +kernel
theorem dX3_restore_15 : decode cX3_restore 15 = .ok (.getfield 10, 3) := by decide +kernel
theorem dX3_restore_18 : decode cX3_restore 18 = .ok (.aload_n 0, 1) := by decide +kernel
theorem dX3_restore_19 : decode cX3_restore 19 = .ok (.getfield 16, 3) := by decide +kernel
theorem dX3_restore_22 : decode cX3_restore 22 = .ok (.invokevirtual 57, 3) := by decide +kernel
theorem dX3_restore_25 : decode cX3_restore 25 = .ok (.aload_n 0, 1) := by decide +kernel
theorem dX3_restore_26 : decode cX3_restore 26 = .ok (.getfield 10, 3) := by decide +kernel
theorem dX3_restore_29 : decode cX3_restore 29 = .ok (.getfield 115, 3) := by decide +kernel
theorem dX3_restore_32 : decode cX3_restore 32 = .ok (.ireturn, 1) := by decide +kernel
theorem dX3_count_0 : decode cX3_count 0 = .ok (.iload_n 1, 1) := by decide +kernel
theorem dX3_count_1 : decode cX3_count 1 = .ok (.tableswitch 132 0 9 #[55, 63, 71, 79, 87, 95, 103, 111, 119, 124], 55) := by decide +kernel
theorem dX3_count_56 : decode cX3_count 56 = .ok (.aload_n 0, 1) := by decide +kernel
theorem dX3_count_57 : decode cX3_count 57 = .ok (.getfield 10, 3) := by decide +kernel
theorem dX3_count_60 : decode cX3_count 60 = .ok (.getfield 112, 3) := by decide +kernel
theorem dX3_count_63 : decode cX3_count 63 = .ok (.ireturn, 1) := by decide +kernel
theorem dX3_count_64 : decode cX3_count 64 = .ok (.aload_n 0, 1) := by decide +kernel
theorem dX3_count_65 : decode cX3_count 65 = .ok (.getfield 10, 3) := by decide +kernel
theorem dX3_count_68 : decode cX3_count 68 = .ok (.getfield 115, 3) := by decide +kernel
theorem dX3_count_71 : decode cX3_count 71 = .ok (.ireturn, 1) := by decide +kernel
theorem dX3_count_72 : decode cX3_count 72 = .ok (.aload_n 0, 1) := by decide +kernel
theorem dX3_count_73 : decode cX3_count 73 = .ok (.getfield 10, 3) := by decide +kernel
theorem dX3_count_76 : decode cX3_count 76 = .ok (.invokevirtual 173, 3) := by decide +kernel
theorem dX3_count_79 : decode cX3_count 79 = .ok (.ireturn, 1) := by decide +kernel
theorem dX3_count_80 : decode cX3_count 80 = .ok (.aload_n 0, 1) := by decide +kernel
theorem dX3_count_81 : decode cX3_count 81 = .ok (.getfield 10, 3) := by decide +kernel
theorem dX3_count_84 : decode cX3_count 84 = .ok (.getfield 196, 3) := by decide +kernel
theorem dX3_count_87 : decode cX3_count 87 = .ok (.ireturn, 1) := by decide +kernel
theorem dX3_count_88 : decode cX3_count 88 = .ok (.aload_n 0, 1) := by decide +kernel
theorem dX3_count_89 : decode cX3_count 89 = .ok (.getfield 10, 3) := by decide +kernel
theorem dX3_count_92 : decode cX3_count 92 = .ok (.getfield 90, 3) := by decide +kernel
theorem dX3_count_95 : decode cX3_count 95 = .ok (.ireturn, 1) := by decide +kernel
theorem dX3_count_96 : decode cX3_count 96 = .ok (.aload_n 0, 1) := by decide +kernel
theorem dX3_count_97 : decode cX3_count 97 = .ok (.getfield 10, 3) := by decide +kernel
theorem dX3_count_100 : decode cX3_count 100 = .ok (.getfield 199, 3) := by decide +kernel
theorem dX3_count_103 : decode cX3_count 103 = .ok (.ireturn, 1) := by decide +kernel
theorem dX3_count_104 : decode cX3_count 104 = .ok (.aload_n 0, 1) := by decide +kernel
theorem dX3_count_105 : decode cX3_count 105 = .ok (.getfield 10, 3) := by decide +kernel
theorem dX3_count_108 : decode cX3_count 108 = .ok (.invokevirtual 102, 3) := by decide +kernel
theorem dX3_count_111 : decode cX3_count 111 = .ok (.ireturn, 1) := by decide +kernel
theorem dX3_count_112 : decode cX3_count 112 = .ok (.aload_n 0, 1) := by decide +kernel
theorem dX3_count_113 : decode cX3_count 113 = .ok (.getfield 32, 3) := by decide +kernel
theorem dX3_count_116 : decode cX3_count 116 = .ok (.getfield 50, 3) := by decide +kernel
theorem dX3_count_119 : decode cX3_count 119 = .ok (.ireturn, 1) := by decide +kernel
theorem dX3_count_120 : decode cX3_count 120 = .ok (.aload_n 0, 1) := by decide +kernel
theorem dX3_count_121 : decode cX3_count 121 = .ok (.getfield 156, 3) := by decide +kernel
theorem dX3_count_124 : decode cX3_count 124 = .ok (.ireturn, 1) := by decide +kernel
theorem dX3_count_125 : decode cX3_count 125 = .ok (.aload_n 0, 1) := by decide +kernel
theorem dX3_count_126 : decode cX3_count 126 = .ok (.getfield 10, 3) := by decide +kernel
theorem dX3_count_129 : decode cX3_count 129 = .ok (.getfield 109, 3) := by decide +kernel
theorem dX3_count_132 : decode cX3_count 132 = .ok (.ireturn, 1) := by decide +kernel
theorem dX3_count_133 : decode cX3_count 133 = .ok (.iload_n 1, 1) := by decide +kernel
theorem dX3_count_134 : decode cX3_count 134 = .ok (.bipush 11, 2) := by decide +kernel
theorem dX3_count_136 : decode cX3_count 136 = .ok (.if_icmp .lt 21, 3) := by decide +kernel
theorem dX3_count_139 : decode cX3_count 139 = .ok (.iload_n 1, 1) := by decide +kernel
theorem dX3_count_140 : decode cX3_count 140 = .ok (.bipush 16, 2) := by decide +kernel
theorem dX3_count_142 : decode cX3_count 142 = .ok (.if_icmp .gt 15, 3) := by decide +kernel
theorem dX3_count_145 : decode cX3_count 145 = .ok (.aload_n 0, 1) := by decide +kernel
theorem dX3_count_146 : decode cX3_count 146 = .ok (.getfield 43, 3) := by decide +kernel
theorem dX3_count_149 : decode cX3_count 149 = .ok (.iload_n 1, 1) := by decide +kernel
theorem dX3_count_150 : decode cX3_count 150 = .ok (.bipush 10, 2) := by decide +kernel
theorem dX3_count_152 : decode cX3_count 152 = .ok (.isub, 1) := by decide +kernel
theorem dX3_count_153 : decode cX3_count 153 = .ok (.iaload, 1) := by decide +kernel
theorem dX3_count_154 : decode cX3_count 154 = .ok (.goto 5, 3) := by decide +kernel
theorem dX3_count_157 : decode cX3_count 157 = .ok (.bipush (-9), 2) := by decide +kernel
theorem dX3_count_159 : decode cX3_count 159 = .ok (.ireturn, 1) := by decide +kernel
theorem dX3_refuse_0 : decode cX3_refuse 0 = .ok (.iload_n 1, 1) := by decide +kernel
theorem dX3_refuse_1 : decode cX3_refuse 1 = .ok (.ineg, 1) := by decide +kernel
theorem dX3_refuse_2 : decode cX3_refuse 2 = .ok (.istore_n 2, 1) := by decide +kernel
theorem dX3_refuse_3 : decode cX3_refuse 3 = .ok (.iload_n 2, 1) := by decide +kernel
theorem dX3_refuse_4 : decode cX3_refuse 4 = .ok (.ifCond .lt 22, 3) := by decide +kernel
theorem dX3_refuse_7 : decode cX3_refuse 7 = .ok (.iload_n 2, 1) := by decide +kernel
theorem dX3_refuse_8 : decode cX3_refuse 8 = .ok (.aload_n 0, 1) := by decide +kernel
theorem dX3_refuse_9 : decode cX3_refuse 9 = .ok (.getfield 43, 3) := by decide +kernel
theorem dX3_refuse_12 : decode cX3_refuse 12 = .ok (.arraylength, 1) := by decide +kernel
theorem dX3_refuse_13 : decode cX3_refuse 13 = .ok (.if_icmp .ge 13, 3) := by decide +kernel
theorem dX3_refuse_16 : decode cX3_refuse 16 = .ok (.aload_n 0, 1) := by decide +kernel
theorem dX3_refuse_17 : decode cX3_refuse 17 = .ok (.getfield 43, 3) := by decide +kernel
theorem dX3_refuse_20 : decode cX3_refuse 20 = .ok (.iload_n 2, 1) := by decide +kernel
theorem dX3_refuse_21 : decode cX3_refuse 21 = .ok (.dup2, 1) := by decide +kernel
theorem dX3_refuse_22 : decode cX3_refuse 22 = .ok (.iaload, 1) := by decide +kernel
theorem dX3_refuse_23 : decode cX3_refuse 23 = .ok (.iconst 1, 1) := by decide +kernel
theorem dX3_refuse_24 : decode cX3_refuse 24 = .ok (.iadd, 1) := by decide +kernel
theorem dX3_refuse_25 : decode cX3_refuse 25 = .ok (.iastore, 1) := by decide +kernel
theorem dX3_refuse_26 : decode cX3_refuse 26 = .ok (.iload_n 1, 1) := by decide +kernel
theorem dX3_refuse_27 : decode cX3_refuse 27 = .ok (.ireturn, 1) := by decide +kernel
theorem dX3_isNoNest_0 : decode cX3_isNoNest 0 = .ok (.iload_n 1, 1) := by decide +kernel
theorem dX3_isNoNest_1 : decode cX3_isNoNest 1 = .ok (.ifCond .lt 14, 3) := by decide +kernel
theorem dX3_isNoNest_4 : decode cX3_isNoNest 4 = .ok (.iload_n 1, 1) := by decide +kernel
theorem dX3_isNoNest_5 : decode cX3_isNoNest 5 = .ok (.aload_n 0, 1) := by decide +kernel
theorem dX3_isNoNest_6 : decode cX3_isNoNest 6 = .ok (.getfield 10, 3) := by decide +kernel
theorem dX3_isNoNest_9 : decode cX3_isNoNest 9 = .ok (.getfield 112, 3) := by decide +kernel
theorem dX3_isNoNest_12 : decode cX3_isNoNest 12 = .ok (.if_icmp .lt 7, 3) := by decide +kernel
theorem dX3_isNoNest_15 : decode cX3_isNoNest 15 = .ok (.iconst 1, 1) := by decide +kernel
theorem dX3_isNoNest_16 : decode cX3_isNoNest 16 = .ok (.goto 4, 3) := by decide +kernel
theorem dX3_isNoNest_19 : decode cX3_isNoNest 19 = .ok (.iconst 0, 1) := by decide +kernel
theorem dX3_isNoNest_20 : decode cX3_isNoNest 20 = .ok (.ireturn, 1) := by decide +kernel
theorem dX3_weightTonight_0 : decode cX3_weightTonight 0 = .ok (.aload_n 0, 1) := by decide +kernel
theorem dX3_weightTonight_1 : decode cX3_weightTonight 1 = .ok (.getfield 10, 3) := by decide +kernel
theorem dX3_weightTonight_4 : decode cX3_weightTonight 4 = .ok (.aload_n 0, 1) := by decide +kernel
theorem dX3_weightTonight_5 : decode cX3_weightTonight 5 = .ok (.getfield 10, 3) := by decide +kernel
theorem dX3_weightTonight_8 : decode cX3_weightTonight 8 = .ok (.aload_n 0, 1) := by decide +kernel
theorem dX3_weightTonight_9 : decode cX3_weightTonight 9 = .ok (.getfield 10, 3) := by decide +kernel
theorem dX3_weightTonight_12 : decode cX3_weightTonight 12 = .ok (.invokevirtual 118, 3) := by decide +kernel
theorem dX3_weightTonight_15 : decode cX3_weightTonight 15 = .ok (.invokevirtual 128, 3) := by decide +kernel
theorem dX3_weightTonight_18 : decode cX3_weightTonight 18 = .ok (.invokevirtual 133, 3) := by decide +kernel
theorem dX3_weightTonight_21 : decode cX3_weightTonight 21 = .ok (.pop, 1) := by decide +kernel
theorem dX3_weightTonight_22 : decode cX3_weightTonight 22 = .ok (.aload_n 0, 1) := by decide +kernel
theorem dX3_weightTonight_23 : decode cX3_weightTonight 23 = .ok (.getfield 10, 3) := by decide +kernel
theorem dX3_weightTonight_26 : decode cX3_weightTonight 26 = .ok (.getfield 136, 3) := by decide +kernel
theorem dX3_weightTonight_29 : decode cX3_weightTonight 29 = .ok (.iload_n 1, 1) := by decide +kernel
theorem dX3_weightTonight_30 : decode cX3_weightTonight 30 = .ok (.iaload, 1) := by decide +kernel
theorem dX3_weightTonight_31 : decode cX3_weightTonight 31 = .ok (.ireturn, 1) := by decide +kernel
theorem dX3_layRow_0 : decode cX3_layRow 0 = .ok (.aload_n 0, 1) := by decide +kernel
theorem dX3_layRow_1 : decode cX3_layRow 1 = .ok (.getfield 19, 3) := by decide +kernel
theorem dX3_layRow_4 : decode cX3_layRow 4 = .ok (.aload_n 0, 1) := by decide +kernel
theorem dX3_layRow_5 : decode cX3_layRow 5 = .ok (.getfield 10, 3) := by decide +kernel
theorem dX3_layRow_8 : decode cX3_layRow 8 = .ok (.invokevirtual 57, 3) := by decide +kernel
theorem dX3_layRow_11 : decode cX3_layRow 11 = .ok (.aload_n 0, 1) := by decide +kernel
theorem dX3_layRow_12 : decode cX3_layRow 12 = .ok (.getfield 19, 3) := by decide +kernel
theorem dX3_layRow_15 : decode cX3_layRow 15 = .ok (.getfield 99, 3) := by decide +kernel
theorem dX3_layRow_18 : decode cX3_layRow 18 = .ok (.iconst 0, 1) := by decide +kernel
theorem dX3_layRow_19 : decode cX3_layRow 19 = .ok (.iload_n 1, 1) := by decide +kernel
theorem dX3_layRow_20 : decode cX3_layRow 20 = .ok (.iastore, 1) := by decide +kernel
theorem dX3_layRow_21 : decode cX3_layRow 21 = .ok (.iconst 0, 1) := by decide +kernel
theorem dX3_layRow_22 : decode cX3_layRow 22 = .ok (.istore_n 2, 1) := by decide +kernel
theorem dX3_layRow_23 : decode cX3_layRow 23 = .ok (.iload_n 2, 1) := by decide +kernel
theorem dX3_layRow_24 : decode cX3_layRow 24 = .ok (.bipush 8, 2) := by decide +kernel
theorem dX3_layRow_26 : decode cX3_layRow 26 = .ok (.if_icmp .ge 44, 3) := by decide +kernel
theorem dX3_layRow_29 : decode cX3_layRow 29 = .ok (.aload_n 0, 1) := by decide +kernel
theorem dX3_layRow_30 : decode cX3_layRow 30 = .ok (.getfield 19, 3) := by decide +kernel
theorem dX3_layRow_33 : decode cX3_layRow 33 = .ok (.aload_n 0, 1) := by decide +kernel
theorem dX3_layRow_34 : decode cX3_layRow 34 = .ok (.getfield 19, 3) := by decide +kernel
theorem dX3_layRow_37 : decode cX3_layRow 37 = .ok (.invokevirtual 118, 3) := by decide +kernel
theorem dX3_layRow_40 : decode cX3_layRow 40 = .ok (.invokevirtual 121, 3) := by decide +kernel
theorem dX3_layRow_43 : decode cX3_layRow 43 = .ok (.istore_n 3, 1) := by decide +kernel
theorem dX3_layRow_44 : decode cX3_layRow 44 = .ok (.aload_n 0, 1) := by decide +kernel
theorem dX3_layRow_45 : decode cX3_layRow 45 = .ok (.getfield 40, 3) := by decide +kernel
theorem dX3_layRow_48 : decode cX3_layRow 48 = .ok (.iload_n 1, 1) := by decide +kernel
theorem dX3_layRow_49 : decode cX3_layRow 49 = .ok (.bipush 8, 2) := by decide +kernel
theorem dX3_layRow_51 : decode cX3_layRow 51 = .ok (.imul, 1) := by decide +kernel
theorem dX3_layRow_52 : decode cX3_layRow 52 = .ok (.iload_n 2, 1) := by decide +kernel
theorem dX3_layRow_53 : decode cX3_layRow 53 = .ok (.iadd, 1) := by decide +kernel
theorem dX3_layRow_54 : decode cX3_layRow 54 = .ok (.iload_n 3, 1) := by decide +kernel
theorem dX3_layRow_55 : decode cX3_layRow 55 = .ok (.iastore, 1) := by decide +kernel
theorem dX3_layRow_56 : decode cX3_layRow 56 = .ok (.aload_n 0, 1) := by decide +kernel
theorem dX3_layRow_57 : decode cX3_layRow 57 = .ok (.getfield 19, 3) := by decide +kernel
theorem dX3_layRow_60 : decode cX3_layRow 60 = .ok (.iload_n 3, 1) := by decide +kernel
theorem dX3_layRow_61 : decode cX3_layRow 61 = .ok (.invokevirtual 124, 3) := by decide +kernel
theorem dX3_layRow_64 : decode cX3_layRow 64 = .ok (.iinc 2 1, 3) := by decide +kernel
theorem dX3_layRow_67 : decode cX3_layRow 67 = .ok (.goto (-44), 3) := by decide +kernel
theorem dX3_layRow_70 : decode cX3_layRow 70 = .ok (.return_, 1) := by decide +kernel
theorem dX3_firstUntrue_0 : decode cX3_firstUntrue 0 = .ok (.iconst 0, 1) := by decide +kernel
theorem dX3_firstUntrue_1 : decode cX3_firstUntrue 1 = .ok (.istore_n 2, 1) := by decide +kernel
theorem dX3_firstUntrue_2 : decode cX3_firstUntrue 2 = .ok (.iload_n 2, 1) := by decide +kernel
theorem dX3_firstUntrue_3 : decode cX3_firstUntrue 3 = .ok (.aload_n 0, 1) := by decide +kernel
theorem dX3_firstUntrue_4 : decode cX3_firstUntrue 4 = .ok (.getfield 156, 3) := by decide +kernel
theorem dX3_firstUntrue_7 : decode cX3_firstUntrue 7 = .ok (.if_icmp .ge 31, 3) := by decide +kernel
theorem dX3_firstUntrue_10 : decode cX3_firstUntrue 10 = .ok (.aload_n 0, 1) := by decide +kernel
theorem dX3_firstUntrue_11 : decode cX3_firstUntrue 11 = .ok (.getfield 36, 3) := by decide +kernel
theorem dX3_firstUntrue_14 : decode cX3_firstUntrue 14 = .ok (.iload_n 2, 1) := by decide +kernel
theorem dX3_firstUntrue_15 : decode cX3_firstUntrue 15 = .ok (.iaload, 1) := by decide +kernel
theorem dX3_firstUntrue_16 : decode cX3_firstUntrue 16 = .ok (.aload_n 0, 1) := by decide +kernel
theorem dX3_firstUntrue_17 : decode cX3_firstUntrue 17 = .ok (.getfield 40, 3) := by decide +kernel
theorem dX3_firstUntrue_20 : decode cX3_firstUntrue 20 = .ok (.iload_n 1, 1) := by decide +kernel
theorem dX3_firstUntrue_21 : decode cX3_firstUntrue 21 = .ok (.bipush 8, 2) := by decide +kernel
theorem dX3_firstUntrue_23 : decode cX3_firstUntrue 23 = .ok (.imul, 1) := by decide +kernel
theorem dX3_firstUntrue_24 : decode cX3_firstUntrue 24 = .ok (.iload_n 2, 1) := by decide +kernel
theorem dX3_firstUntrue_25 : decode cX3_firstUntrue 25 = .ok (.iadd, 1) := by decide +kernel
theorem dX3_firstUntrue_26 : decode cX3_firstUntrue 26 = .ok (.iaload, 1) := by decide +kernel
theorem dX3_firstUntrue_27 : decode cX3_firstUntrue 27 = .ok (.if_icmp .eq 5, 3) := by decide +kernel
theorem dX3_firstUntrue_30 : decode cX3_firstUntrue 30 = .ok (.iload_n 2, 1) := by decide +kernel
theorem dX3_firstUntrue_31 : decode cX3_firstUntrue 31 = .ok (.ireturn, 1) := by decide +kernel
theorem dX3_firstUntrue_32 : decode cX3_firstUntrue 32 = .ok (.iinc 2 1, 3) := by decide +kernel
theorem dX3_firstUntrue_35 : decode cX3_firstUntrue 35 = .ok (.goto (-33), 3) := by decide +kernel
theorem dX3_firstUntrue_38 : decode cX3_firstUntrue 38 = .ok (.bipush (-9), 2) := by decide +kernel
theorem dX3_firstUntrue_40 : decode cX3_firstUntrue 40 = .ok (.ireturn, 1) := by decide +kernel
theorem dX3_nightsUntilUnlike_0 : decode cX3_nightsUntilUnlike 0 = .ok (.iconst 0, 1) := by decide +kernel
theorem dX3_nightsUntilUnlike_1 : decode cX3_nightsUntilUnlike 1 = .ok (.istore_n 3, 1) := by decide +kernel
theorem dX3_nightsUntilUnlike_2 : decode cX3_nightsUntilUnlike 2 = .ok (.iload_n 3, 1) := by decide +kernel
theorem dX3_nightsUntilUnlike_3 : decode cX3_nightsUntilUnlike 3 = .ok (.bipush 8, 2) := by decide +kernel
theorem dX3_nightsUntilUnlike_5 : decode cX3_nightsUntilUnlike 5 = .ok (.if_icmp .ge 38, 3) := by decide +kernel
theorem dX3_nightsUntilUnlike_8 : decode cX3_nightsUntilUnlike 8 = .ok (.aload_n 0, 1) := by decide +kernel
theorem dX3_nightsUntilUnlike_9 : decode cX3_nightsUntilUnlike 9 = .ok (.getfield 40, 3) := by decide +kernel
theorem dX3_nightsUntilUnlike_12 : decode cX3_nightsUntilUnlike 12 = .ok (.iload_n 1, 1) := by decide +kernel
theorem dX3_nightsUntilUnlike_13 : decode cX3_nightsUntilUnlike 13 = .ok (.bipush 8, 2) := by decide +kernel
theorem dX3_nightsUntilUnlike_15 : decode cX3_nightsUntilUnlike 15 = .ok (.imul, 1) := by decide +kernel
theorem dX3_nightsUntilUnlike_16 : decode cX3_nightsUntilUnlike 16 = .ok (.iload_n 3, 1) := by decide +kernel
theorem dX3_nightsUntilUnlike_17 : decode cX3_nightsUntilUnlike 17 = .ok (.iadd, 1) := by decide +kernel
theorem dX3_nightsUntilUnlike_18 : decode cX3_nightsUntilUnlike 18 = .ok (.iaload, 1) := by decide +kernel
theorem dX3_nightsUntilUnlike_19 : decode cX3_nightsUntilUnlike 19 = .ok (.aload_n 0, 1) := by decide +kernel
theorem dX3_nightsUntilUnlike_20 : decode cX3_nightsUntilUnlike 20 = .ok (.getfield 40, 3) := by decide +kernel
theorem dX3_nightsUntilUnlike_23 : decode cX3_nightsUntilUnlike 23 = .ok (.iload_n 2, 1) := by decide +kernel
theorem dX3_nightsUntilUnlike_24 : decode cX3_nightsUntilUnlike 24 = .ok (.bipush 8, 2) := by decide +kernel
theorem dX3_nightsUntilUnlike_26 : decode cX3_nightsUntilUnlike 26 = .ok (.imul, 1) := by decide +kernel
theorem dX3_nightsUntilUnlike_27 : decode cX3_nightsUntilUnlike 27 = .ok (.iload_n 3, 1) := by decide +kernel
theorem dX3_nightsUntilUnlike_28 : decode cX3_nightsUntilUnlike 28 = .ok (.iadd, 1) := by decide +kernel
theorem dX3_nightsUntilUnlike_29 : decode cX3_nightsUntilUnlike 29 = .ok (.iaload, 1) := by decide +kernel
theorem dX3_nightsUntilUnlike_30 : decode cX3_nightsUntilUnlike 30 = .ok (.if_icmp .eq 7, 3) := by decide +kernel
theorem dX3_nightsUntilUnlike_33 : decode cX3_nightsUntilUnlike 33 = .ok (.iload_n 3, 1) := by decide +kernel
theorem dX3_nightsUntilUnlike_34 : decode cX3_nightsUntilUnlike 34 = .ok (.iconst 1, 1) := by decide +kernel
theorem dX3_nightsUntilUnlike_35 : decode cX3_nightsUntilUnlike 35 = .ok (.iadd, 1) := by decide +kernel
theorem dX3_nightsUntilUnlike_36 : decode cX3_nightsUntilUnlike 36 = .ok (.ireturn, 1) := by decide +kernel
theorem dX3_nightsUntilUnlike_37 : decode cX3_nightsUntilUnlike 37 = .ok (.iinc 3 1, 3) := by decide +kernel
theorem dX3_nightsUntilUnlike_40 : decode cX3_nightsUntilUnlike 40 = .ok (.goto (-38), 3) := by decide +kernel
theorem dX3_nightsUntilUnlike_43 : decode cX3_nightsUntilUnlike 43 = .ok (.iconst 0, 1) := by decide +kernel
theorem dX3_nightsUntilUnlike_44 : decode cX3_nightsUntilUnlike 44 = .ok (.ireturn, 1) := by decide +kernel
theorem dX3_nextSeed_0 : decode cX3_nextSeed 0 = .ok (.iload_n 0, 1) := by decide +kernel
theorem dX3_nextSeed_1 : decode cX3_nextSeed 1 = .ok (.ldc 202, 2) := by decide +kernel
theorem dX3_nextSeed_3 : decode cX3_nextSeed 3 = .ok (.imul, 1) := by decide +kernel
theorem dX3_nextSeed_4 : decode cX3_nextSeed 4 = .ok (.sipush 12345, 3) := by decide +kernel
theorem dX3_nextSeed_7 : decode cX3_nextSeed 7 = .ok (.iadd, 1) := by decide +kernel
theorem dX3_nextSeed_8 : decode cX3_nextSeed 8 = .ok (.ireturn, 1) := by decide +kernel
theorem dX3_drawBelow_0 : decode cX3_drawBelow 0 = .ok (.iload_n 0, 1) := by decide +kernel
theorem dX3_drawBelow_1 : decode cX3_drawBelow 1 = .ok (.iconst 1, 1) := by decide +kernel
theorem dX3_drawBelow_2 : decode cX3_drawBelow 2 = .ok (.if_icmp .ge 7, 3) := by decide +kernel
theorem dX3_drawBelow_5 : decode cX3_drawBelow 5 = .ok (.iconst 0, 1) := by decide +kernel
theorem dX3_drawBelow_6 : decode cX3_drawBelow 6 = .ok (.goto 12, 3) := by decide +kernel
theorem dX3_drawBelow_9 : decode cX3_drawBelow 9 = .ok (.iload_n 1, 1) := by decide +kernel
theorem dX3_drawBelow_10 : decode cX3_drawBelow 10 = .ok (.ldc 203, 2) := by decide +kernel
theorem dX3_drawBelow_12 : decode cX3_drawBelow 12 = .ok (.iand, 1) := by decide +kernel
theorem dX3_drawBelow_13 : decode cX3_drawBelow 13 = .ok (.ldc 204, 2) := by decide +kernel
theorem dX3_drawBelow_15 : decode cX3_drawBelow 15 = .ok (.idiv, 1) := by decide +kernel
theorem dX3_drawBelow_16 : decode cX3_drawBelow 16 = .ok (.iload_n 0, 1) := by decide +kernel
theorem dX3_drawBelow_17 : decode cX3_drawBelow 17 = .ok (.irem, 1) := by decide +kernel
theorem dX3_drawBelow_18 : decode cX3_drawBelow 18 = .ok (.ireturn, 1) := by decide +kernel
theorem dX3_commonDivisor_0 : decode cX3_commonDivisor 0 = .ok (.iload_n 0, 1) := by decide +kernel
theorem dX3_commonDivisor_1 : decode cX3_commonDivisor 1 = .ok (.istore_n 2, 1) := by decide +kernel
theorem dX3_commonDivisor_2 : decode cX3_commonDivisor 2 = .ok (.iload_n 1, 1) := by decide +kernel
theorem dX3_commonDivisor_3 : decode cX3_commonDivisor 3 = .ok (.istore_n 3, 1) := by decide +kernel
theorem dX3_commonDivisor_4 : decode cX3_commonDivisor 4 = .ok (.iconst 0, 1) := by decide +kernel
theorem dX3_commonDivisor_5 : decode cX3_commonDivisor 5 = .ok (.istore 4, 2) := by decide +kernel
theorem dX3_commonDivisor_7 : decode cX3_commonDivisor 7 = .ok (.iload 4, 2) := by decide +kernel
theorem dX3_commonDivisor_9 : decode cX3_commonDivisor 9 = .ok (.bipush 64, 2) := by decide +kernel
theorem dX3_commonDivisor_11 : decode cX3_commonDivisor 11 = .ok (.if_icmp .ge 23, 3) := by decide +kernel
theorem dX3_commonDivisor_14 : decode cX3_commonDivisor 14 = .ok (.iload_n 3, 1) := by decide +kernel
theorem dX3_commonDivisor_15 : decode cX3_commonDivisor 15 = .ok (.ifCond .eq 19, 3) := by decide +kernel
theorem dX3_commonDivisor_18 : decode cX3_commonDivisor 18 = .ok (.iload_n 2, 1) := by decide +kernel
theorem dX3_commonDivisor_19 : decode cX3_commonDivisor 19 = .ok (.iload_n 3, 1) := by decide +kernel
theorem dX3_commonDivisor_20 : decode cX3_commonDivisor 20 = .ok (.irem, 1) := by decide +kernel
theorem dX3_commonDivisor_21 : decode cX3_commonDivisor 21 = .ok (.istore 5, 2) := by decide +kernel
theorem dX3_commonDivisor_23 : decode cX3_commonDivisor 23 = .ok (.iload_n 3, 1) := by decide +kernel
theorem dX3_commonDivisor_24 : decode cX3_commonDivisor 24 = .ok (.istore_n 2, 1) := by decide +kernel
theorem dX3_commonDivisor_25 : decode cX3_commonDivisor 25 = .ok (.iload 5, 2) := by decide +kernel
theorem dX3_commonDivisor_27 : decode cX3_commonDivisor 27 = .ok (.istore_n 3, 1) := by decide +kernel
theorem dX3_commonDivisor_28 : decode cX3_commonDivisor 28 = .ok (.iinc 4 1, 3) := by decide +kernel
theorem dX3_commonDivisor_31 : decode cX3_commonDivisor 31 = .ok (.goto (-24), 3) := by decide +kernel
theorem dX3_commonDivisor_34 : decode cX3_commonDivisor 34 = .ok (.iload_n 2, 1) := by decide +kernel
theorem dX3_commonDivisor_35 : decode cX3_commonDivisor 35 = .ok (.ireturn, 1) := by decide +kernel
