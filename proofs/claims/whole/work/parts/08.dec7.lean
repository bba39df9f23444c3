theorem dX7_init_0 : decode cX7_init 0 = .ok (.aload_n 0, 1) := by decide +kernel
theorem dX7_init_1 : decode cX7_init 1 = .ok (.invokespecial 1, 3) := by decide +kernel
theorem dX7_init_4 : decode cX7_init 4 = .ok (.aload_n 0, 1) := by decide +kernel
theorem dX7_init_5 : decode cX7_init 5 = .ok (.bipush 26, 2) := by decide +kernel
theorem dX7_init_7 : decode cX7_init 7 = .ok (.newarray .int, 2) := by decide +kernel
theorem dX7_init_9 : decode cX7_init 9 = .ok (.putfield 7, 3) := by decide +kernel
theorem dX7_init_12 : decode cX7_init 12 = .ok (.aload_n 0, 1) := by decide +kernel
theorem dX7_init_13 : decode cX7_init 13 = .ok (.sipush 156, 3) := by decide +kernel
theorem dX7_init_16 : decode cX7_init 16 = .ok (.newarray .int, 2) := by decide +kernel
theorem dX7_init_18 : decode cX7_init 18 = .ok (.putfield 13, 3) := by decide +kernel
theorem dX7_init_21 : decode cX7_init 21 = .ok (.aload_n 0, 1) := by decide +kernel
theorem dX7_init_22 : decode cX7_init 22 = .ok (.bipush 52, 2) := by decide +kernel
theorem dX7_init_24 : decode cX7_init 24 = .ok (.newarray .int, 2) := by decide +kernel
theorem dX7_init_26 : decode cX7_init 26 = .ok (.putfield 16, 3) := by decide +kernel
theorem dX7_init_29 : decode cX7_init 29 = .ok (.aload_n 0, 1) := by decide +kernel
theorem dX7_init_30 : decode cX7_init 30 = .ok (.iconst 2, 1) := by decide +kernel
theorem dX7_init_31 : decode cX7_init 31 = .ok (.newarray .boolean, 2) := by decide +kernel
theorem dX7_init_33 : decode cX7_init 33 = .ok (.putfield 19, 3) := by decide +kernel
theorem dX7_init_36 : decode cX7_init 36 = .ok (.aload_n 0, 1) := by decide +kernel
theorem dX7_init_37 : decode cX7_init 37 = .ok (.bipush 20, 2) := by decide +kernel
theorem dX7_init_39 : decode cX7_init 39 = .ok (.newarray .int, 2) := by decide +kernel
theorem dX7_init_41 : decode cX7_init 41 = .ok (.putfield 23, 3) := by decide +kernel
theorem dX7_init_44 : decode cX7_init 44 = .ok (.aload_n 0, 1) := by decide +kernel
theorem dX7_init_45 : decode cX7_init 45 = .ok (.bipush 16, 2) := by decide +kernel
theorem dX7_init_47 : decode cX7_init 47 = .ok (.newarray .int, 2) := by decide +kernel
theorem dX7_init_49 : decode cX7_init 49 = .ok (.putfield 26, 3) := by decide +kernel
theorem dX7_init_52 : decode cX7_init 52 = .ok (.aload_n 0, 1) := by decide +kernel
theorem dX7_init_53 : decode cX7_init 53 = .ok (.bipush 16, 2) := by decide +kernel
theorem dX7_init_55 : decode cX7_init 55 = .ok (.newarray .int, 2) := by decide +kernel
theorem dX7_init_57 : decode cX7_init 57 = .ok (.putfield 29, 3) := by decide +kernel
theorem dX7_init_60 : decode cX7_init 60 = .ok (.aload_n 0, 1) := by decide +kernel
theorem dX7_init_61 : decode cX7_init 61 = .ok (.bipush 16, 2) := by decide +kernel
theorem dX7_init_63 : decode cX7_init 63 = .ok (.newarray .int, 2) := by decide +kernel
theorem dX7_init_65 : decode cX7_init 65 = .ok (.putfield 32, 3) := by decide +kernel
theorem dX7_init_68 : decode cX7_init 68 = .ok (.aload_n 0, 1) := by decide +kernel
theorem dX7_init_69 : decode cX7_init 69 = .ok (.bipush 12, 2) := by decide +kernel
theorem dX7_init_71 : decode cX7_init 71 = .ok (.newarray .int, 2) := by decide +kernel
theorem dX7_init_73 : decode cX7_init 73 = .ok (.putfield 35, 3) := by decide +kernel
theorem dX7_init_76 : decode cX7_init 76 = .ok (.aload_n 0, 1) := by decide +kernel
theorem dX7_init_77 : decode cX7_init 77 = .ok (.bipush 12, 2) := by decide +kernel
theorem dX7_init_79 : decode cX7_init 79 = .ok (.newarray .int, 2) := by decide +kernel
theorem dX7_init_81 : decode cX7_init 81 = .ok (.putfield 38, 3) := by decide +kernel
theorem dX7_init_84 : decode cX7_init 84 = .ok (.aload_n 0, 1) := by decide +kernel
theorem dX7_init_85 : decode cX7_init 85 = .ok (.bipush 12, 2) := by decide +kernel
theorem dX7_init_87 : decode cX7_init 87 = .ok (.newarray .int, 2) := by decide +kernel
theorem dX7_init_89 : decode cX7_init 89 = .ok (.putfield 41, 3) := by decide +kernel
theorem dX7_init_92 : decode cX7_init 92 = .ok (.aload_n 0, 1) := by decide +kernel
theorem dX7_init_93 : decode cX7_init 93 = .ok (.sipush 4800, 3) := by decide +kernel
theorem dX7_init_96 : decode cX7_init 96 = .ok (.newarray .int, 2) := by decide +kernel
theorem dX7_init_98 : decode cX7_init 98 = .ok (.putfield 44, 3) := by decide +kernel
theorem dX7_init_101 : decode cX7_init 101 = .ok (.aload_n 0, 1) := by decide +kernel
theorem dX7_init_102 : decode cX7_init 102 = .ok (.sipush 400, 3) := by decide +kernel
theorem dX7_init_105 : decode cX7_init 105 = .ok (.newarray .int, 2) := by decide +kernel
theorem dX7_init_107 : decode cX7_init 107 = .ok (.putfield 47, 3) := by decide +kernel
theorem dX7_init_110 : decode cX7_init 110 = .ok (.aload_n 0, 1) := by decide +kernel
theorem dX7_init_111 : decode cX7_init 111 = .ok (.sipush 169, 3) := by decide +kernel
theorem dX7_init_114 : decode cX7_init 114 = .ok (.newarray .int, 2) := by decide +kernel
theorem dX7_init_116 : decode cX7_init 116 = .ok (.putfield 50, 3) := by decide +kernel
theorem dX7_init_119 : decode cX7_init 119 = .ok (.aload_n 0, 1) := by decide +kernel
theorem dX7_init_120 : decode cX7_init 120 = .ok (.sipush 169, 3) := by decide +kernel
theorem dX7_init_123 : decode cX7_init 123 = .ok (.newarray .int, 2) := by decide +kernel
theorem dX7_init_125 : decode cX7_init 125 = .ok (.putfield 53, 3) := by decide +kernel
theorem dX7_init_128 : decode cX7_init 128 = .ok (.aload_n 0, 1) := by decide +kernel
theorem dX7_init_129 : decode cX7_init 129 = .ok (.sipush 169, 3) := by decide +kernel
theorem dX7_init_132 : decode cX7_init 132 = .ok (.newarray .int, 2) := by decide +kernel
theorem dX7_init_134 : decode cX7_init 134 = .ok (.putfield 56, 3) := by decide +kernel
theorem dX7_init_137 : decode cX7_init 137 = .ok (.aload_n 0, 1) := by decide +kernel
theorem dX7_init_138 : decode cX7_init 138 = .ok (.sipush 169, 3) := by decide +kernel
theorem dX7_init_141 : decode cX7_init 141 = .ok (.newarray .int, 2) := by decide +kernel
theorem dX7_init_143 : decode cX7_init 143 = .ok (.putfield 59, 3) := by decide +kernel
theorem dX7_init_146 : decode cX7_init 146 = .ok (.aload_n 0, 1) := by decide +kernel
theorem dX7_init_147 : decode cX7_init 147 = .ok (.sipush 169, 3) := by decide +kernel
theorem dX7_init_150 : decode cX7_init 150 = .ok (.newarray .int, 2) := by decide +kernel
theorem dX7_init_152 : decode cX7_init 152 = .ok (.putfield 62, 3) := by decide +kernel
theorem dX7_init_155 : decode cX7_init 155 = .ok (.aload_n 0, 1) := by decide +kernel
theorem dX7_init_156 : decode cX7_init 156 = .ok (.sipush 169, 3) := by decide +kernel
theorem dX7_init_159 : decode cX7_init 159 = .ok (.newarray .int, 2) := by decide +kernel
theorem dX7_init_161 : decode cX7_init 161 = .ok (.putfield 65, 3) := by decide +kernel
theorem dX7_init_164 : decode cX7_init 164 = .ok (.aload_n 0, 1) := by decide +kernel
theorem dX7_init_165 : decode cX7_init 165 = .ok (.iconst 0, 1) := by decide +kernel
theorem dX7_init_166 : decode cX7_init 166 = .ok (.putfield 68, 3) := by decide +kernel
theorem dX7_init_169 : decode cX7_init 169 = .ok (.aload_n 0, 1) := by decide +kernel
theorem dX7_init_170 : decode cX7_init 170 = .ok (.getfield 7, 3) := by decide +kernel
theorem dX7_init_173 : decode cX7_init 173 = .ok (.iconst 1, 1) := by decide +kernel
theorem dX7_init_174 : decode cX7_init 174 = .ok (.iconst 0, 1) := by decide +kernel
theorem dX7_init_175 : decode cX7_init 175 = .ok (.iastore, 1) := by decide +kernel
theorem dX7_init_176 : decode cX7_init 176 = .ok (.return_, 1) := by decide +kernel
theorem dX7_thrown_0 : decode cX7_thrown 0 = .ok (.aload_n 0, 1) := by decide +kernel
theorem dX7_thrown_1 : decode cX7_thrown 1 = .ok (.getfield 68, 3) := by decide +kernel
theorem dX7_thrown_4 : decode cX7_thrown 4 = .ok (.ireturn, 1) := by decide +kernel
theorem dX7_in_0 : decode cX7_in 0 = .ok (.iload_n 0, 1) := by decide +kernel
theorem dX7_in_1 : decode cX7_in 1 = .ok (.iload_n 1, 1) := by decide +kernel
theorem dX7_in_2 : decode cX7_in 2 = .ok (.if_icmp .lt 12, 3) := by decide +kernel
theorem dX7_in_5 : decode cX7_in 5 = .ok (.iload_n 0, 1) := by decide +kernel
theorem dX7_in_6 : decode cX7_in 6 = .ok (.iload_n 2, 1) := by decide +kernel
theorem dX7_in_7 : decode cX7_in 7 = .ok (.if_icmp .gt 7, 3) := by decide +kernel
theorem dX7_in_10 : decode cX7_in 10 = .ok (.iconst 1, 1) := by decide +kernel
theorem dX7_in_11 : decode cX7_in 11 = .ok (.goto 4, 3) := by decide +kernel
theorem dX7_in_14 : decode cX7_in 14 = .ok (.iconst 0, 1) := by decide +kernel
theorem dX7_in_15 : decode cX7_in 15 = .ok (.ireturn, 1) := by decide +kernel
theorem dX7_fails_0 : decode cX7_fails 0 = .ok (.aload_n 0, 1) := by decide +kernel
theorem dX7_fails_1 : decode cX7_fails 1 = .ok (.iload_n 1, 1) := by decide +kernel
theorem dX7_fails_2 : decode cX7_fails 2 = .ok (.putfield 68, 3) := by decide +kernel
theorem dX7_fails_5 : decode cX7_fails 5 = .ok (.iconst 0, 1) := by decide +kernel
theorem dX7_fails_6 : decode cX7_fails 6 = .ok (.ireturn, 1) := by decide +kernel
theorem dX7_kind_0 : decode cX7_kind 0 = .ok (.aload_n 0, 1) := by decide +kernel
theorem dX7_kind_1 : decode cX7_kind 1 = .ok (.getfield 7, 3) := by decide +kernel
theorem dX7_kind_4 : decode cX7_kind 4 = .ok (.iconst 2, 1) := by decide +kernel
theorem dX7_kind_5 : decode cX7_kind 5 = .ok (.iload_n 1, 1) := by decide +kernel
theorem dX7_kind_6 : decode cX7_kind 6 = .ok (.iadd, 1) := by decide +kernel
theorem dX7_kind_7 : decode cX7_kind 7 = .ok (.iaload, 1) := by decide +kernel
theorem dX7_kind_8 : decode cX7_kind 8 = .ok (.ireturn, 1) := by decide +kernel
theorem dX7_isWord_0 : decode cX7_isWord 0 = .ok (.iload_n 1, 1) := by decide +kernel
theorem dX7_isWord_1 : decode cX7_isWord 1 = .ok (.iconst 0, 1) := by decide +kernel
theorem dX7_isWord_2 : decode cX7_isWord 2 = .ok (.aload_n 0, 1) := by decide +kernel
theorem dX7_isWord_3 : decode cX7_isWord 3 = .ok (.getfield 7, 3) := by decide +kernel
theorem dX7_isWord_6 : decode cX7_isWord 6 = .ok (.iconst 0, 1) := by decide +kernel
theorem dX7_isWord_7 : decode cX7_isWord 7 = .ok (.iaload, 1) := by decide +kernel
theorem dX7_isWord_8 : decode cX7_isWord 8 = .ok (.iconst 1, 1) := by decide +kernel
theorem dX7_isWord_9 : decode cX7_isWord 9 = .ok (.isub, 1) := by decide +kernel
theorem dX7_isWord_10 : decode cX7_isWord 10 = .ok (.invokestatic 72, 3) := by decide +kernel
theorem dX7_isWord_13 : decode cX7_isWord 13 = .ok (.ireturn, 1) := by decide +kernel
theorem dX7_saves_0 : decode cX7_saves 0 = .ok (.aload_n 0, 1) := by decide +kernel
theorem dX7_saves_1 : decode cX7_saves 1 = .ok (.getfield 76, 3) := by decide +kernel
theorem dX7_saves_4 : decode cX7_saves 4 = .ok (.bipush 6, 2) := by decide +kernel
theorem dX7_saves_6 : decode cX7_saves 6 = .ok (.if_icmp .ne 43, 3) := by decide +kernel
theorem dX7_saves_9 : decode cX7_saves 9 = .ok (.iconst 0, 1) := by decide +kernel
theorem dX7_saves_10 : decode cX7_saves 10 = .ok (.istore_n 1, 1) := by decide +kernel
theorem dX7_saves_11 : decode cX7_saves 11 = .ok (.iload_n 1, 1) := by decide +kernel
theorem dX7_saves_12 : decode cX7_saves 12 = .ok (.sipush 130, 3) := by decide +kernel
theorem dX7_saves_15 : decode cX7_saves 15 = .ok (.if_icmp .ge 24, 3) := by decide +kernel
theorem dX7_saves_18 : decode cX7_saves 18 = .ok (.aload_n 0, 1) := by decide +kernel
theorem dX7_saves_19 : decode cX7_saves 19 = .ok (.getfield 13, 3) := by decide +kernel
theorem dX7_saves_22 : decode cX7_saves 22 = .ok (.iload_n 1, 1) := by decide +kernel
theorem dX7_saves_23 : decode cX7_saves 23 = .ok (.aload_n 0, 1) := by decide +kernel
theorem dX7_saves_24 : decode cX7_saves 24 = .ok (.getfield 13, 3) := by decide +kernel
theorem dX7_saves_27 : decode cX7_saves 27 = .ok (.iload_n 1, 1) := by decide +kernel
theorem dX7_saves_28 : decode cX7_saves 28 = .ok (.bipush 26, 2) := by decide +kernel
theorem dX7_saves_30 : decode cX7_saves 30 = .ok (.iadd, 1) := by decide +kernel
theorem dX7_saves_31 : decode cX7_saves 31 = .ok (.iaload, 1) := by decide +kernel
theorem dX7_saves_32 : decode cX7_saves 32 = .ok (.iastore, 1) := by decide +kernel
theorem dX7_saves_33 : decode cX7_saves 33 = .ok (.iinc 1 1, 3) := by decide +kernel
theorem dX7_saves_36 : decode cX7_saves 36 = .ok (.goto (-25), 3) := by decide +kernel
theorem dX7_saves_39 : decode cX7_saves 39 = .ok (.aload_n 0, 1) := by decide +kernel
theorem dX7_saves_40 : decode cX7_saves 40 = .ok (.dup, 1) := by decide +kernel
theorem dX7_saves_41 : decode cX7_saves 41 = .ok (.getfield 76, 3) := by decide +kernel
theorem dX7_saves_44 : decode cX7_saves 44 = .ok (.iconst 1, 1) := by decide +kernel
theorem dX7_saves_45 : decode cX7_saves 45 = .ok (.isub, 1) := by decide +kernel
theorem dX7_saves_46 : decode cX7_saves 46 = .ok (.putfield 76, 3) := by decide +kernel
theorem dX7_saves_49 : decode cX7_saves 49 = .ok (.iconst 0, 1) := by decide +kernel
theorem dX7_saves_50 : decode cX7_saves 50 = .ok (.istore_n 1, 1) := by decide +kernel
theorem dX7_saves_51 : decode cX7_saves 51 = .ok (.iload_n 1, 1) := by decide +kernel
theorem dX7_saves_52 : decode cX7_saves 52 = .ok (.bipush 26, 2) := by decide +kernel
theorem dX7_saves_54 : decode cX7_saves 54 = .ok (.if_icmp .ge 29, 3) := by decide +kernel
theorem dX7_saves_57 : decode cX7_saves 57 = .ok (.aload_n 0, 1) := by decide +kernel
theorem dX7_saves_58 : decode cX7_saves 58 = .ok (.getfield 13, 3) := by decide +kernel
theorem dX7_saves_61 : decode cX7_saves 61 = .ok (.bipush 26, 2) := by decide +kernel
theorem dX7_saves_63 : decode cX7_saves 63 = .ok (.aload_n 0, 1) := by decide +kernel
theorem dX7_saves_64 : decode cX7_saves 64 = .ok (.getfield 76, 3) := by decide +kernel
theorem dX7_saves_67 : decode cX7_saves 67 = .ok (.imul, 1) := by decide +kernel
theorem dX7_saves_68 : decode cX7_saves 68 = .ok (.iload_n 1, 1) := by decide +kernel
theorem dX7_saves_69 : decode cX7_saves 69 = .ok (.iadd, 1) := by decide +kernel
theorem dX7_saves_70 : decode cX7_saves 70 = .ok (.aload_n 0, 1) := by decide +kernel
theorem dX7_saves_71 : decode cX7_saves 71 = .ok (.getfield 7, 3) := by decide +kernel
theorem dX7_saves_74 : decode cX7_saves 74 = .ok (.iload_n 1, 1) := by decide +kernel
theorem dX7_saves_75 : decode cX7_saves 75 = .ok (.iaload, 1) := by decide +kernel
theorem dX7_saves_76 : decode cX7_saves 76 = .ok (.iastore, 1) := by decide +kernel
theorem dX7_saves_77 : decode cX7_saves 77 = .ok (.iinc 1 1, 3) := by decide +kernel
theorem dX7_saves_80 : decode cX7_saves 80 = .ok (.goto (-29), 3) := by decide +kernel
theorem dX7_saves_83 : decode cX7_saves 83 = .ok (.aload_n 0, 1) := by decide +kernel
theorem dX7_saves_84 : decode cX7_saves 84 = .ok (.dup, 1) := by decide +kernel
theorem dX7_saves_85 : decode cX7_saves 85 = .ok (.getfield 76, 3) := by decide +kernel
theorem dX7_saves_88 : decode cX7_saves 88 = .ok (.iconst 1, 1) := by decide +kernel
theorem dX7_saves_89 : decode cX7_saves 89 = .ok (.iadd, 1) := by decide +kernel
theorem dX7_saves_90 : decode cX7_saves 90 = .ok (.putfield 76, 3) := by decide +kernel
theorem dX7_saves_93 : decode cX7_saves 93 = .ok (.return_, 1) := by decide +kernel
theorem dX7_opens_0 : decode cX7_opens 0 = .ok (.aload_n 0, 1) := by decide +kernel
theorem dX7_opens_1 : decode cX7_opens 1 = .ok (.getfield 26, 3) := by decide +kernel
theorem dX7_opens_4 : decode cX7_opens 4 = .ok (.aload_n 0, 1) := by decide +kernel
theorem dX7_opens_5 : decode cX7_opens 5 = .ok (.getfield 79, 3) := by decide +kernel
theorem dX7_opens_8 : decode cX7_opens 8 = .ok (.iload_n 1, 1) := by decide +kernel
theorem dX7_opens_9 : decode cX7_opens 9 = .ok (.iastore, 1) := by decide +kernel
theorem dX7_opens_10 : decode cX7_opens 10 = .ok (.aload_n 0, 1) := by decide +kernel
theorem dX7_opens_11 : decode cX7_opens 11 = .ok (.getfield 29, 3) := by decide +kernel
theorem dX7_opens_14 : decode cX7_opens 14 = .ok (.aload_n 0, 1) := by decide +kernel
theorem dX7_opens_15 : decode cX7_opens 15 = .ok (.getfield 79, 3) := by decide +kernel
theorem dX7_opens_18 : decode cX7_opens 18 = .ok (.iload_n 2, 1) := by decide +kernel
theorem dX7_opens_19 : decode cX7_opens 19 = .ok (.iastore, 1) := by decide +kernel
theorem dX7_opens_20 : decode cX7_opens 20 = .ok (.aload_n 0, 1) := by decide +kernel
theorem dX7_opens_21 : decode cX7_opens 21 = .ok (.getfield 32, 3) := by decide +kernel
theorem dX7_opens_24 : decode cX7_opens 24 = .ok (.aload_n 0, 1) := by decide +kernel
theorem dX7_opens_25 : decode cX7_opens 25 = .ok (.getfield 79, 3) := by decide +kernel
theorem dX7_opens_28 : decode cX7_opens 28 = .ok (.iload_n 3, 1) := by decide +kernel
theorem dX7_opens_29 : decode cX7_opens 29 = .ok (.iastore, 1) := by decide +kernel
theorem dX7_opens_30 : decode cX7_opens 30 = .ok (.aload_n 0, 1) := by decide +kernel
theorem dX7_opens_31 : decode cX7_opens 31 = .ok (.dup, 1) := by decide +kernel
theorem dX7_opens_32 : decode cX7_opens 32 = .ok (.getfield 79, 3) := by decide +kernel
theorem dX7_opens_35 : decode cX7_opens 35 = .ok (.iconst 1, 1) := by decide +kernel
theorem dX7_opens_36 : decode cX7_opens 36 = .ok (.iadd, 1) := by decide +kernel
theorem dX7_opens_37 : decode cX7_opens 37 = .ok (.putfield 79, 3) := by decide +kernel
theorem dX7_opens_40 : decode cX7_opens 40 = .ok (.return_, 1) := by decide +kernel
theorem dX7_isComplete_0 : decode cX7_isComplete 0 = .ok (.aload_n 0, 1) := by decide +kernel
theorem dX7_isComplete_1 : decode cX7_isComplete 1 = .ok (.getfield 26, 3) := by decide +kernel
theorem dX7_isComplete_4 : decode cX7_isComplete 4 = .ok (.iload_n 1, 1) := by decide +kernel
theorem dX7_isComplete_5 : decode cX7_isComplete 5 = .ok (.iaload, 1) := by decide +kernel
theorem dX7_isComplete_6 : decode cX7_isComplete 6 = .ok (.iconst 5, 1) := by decide +kernel
theorem dX7_isComplete_7 : decode cX7_isComplete 7 = .ok (.if_icmp .eq 23, 3) := by decide +kernel
theorem dX7_isComplete_10 : decode cX7_isComplete 10 = .ok (.aload_n 0, 1) := by decide +kernel
theorem dX7_isComplete_11 : decode cX7_isComplete 11 = .ok (.getfield 26, 3) := by decide +kernel
theorem dX7_isComplete_14 : decode cX7_isComplete 14 = .ok (.iload_n 1, 1) := by decide +kernel
theorem dX7_isComplete_15 : decode cX7_isComplete 15 = .ok (.iaload, 1) := by decide +kernel
theorem dX7_isComplete_16 : decode cX7_isComplete 16 = .ok (.iconst 2, 1) := by decide +kernel
theorem dX7_isComplete_17 : decode cX7_isComplete 17 = .ok (.if_icmp .eq 13, 3) := by decide +kernel
theorem dX7_isComplete_20 : decode cX7_isComplete 20 = .ok (.aload_n 0, 1) := by decide +kernel
theorem dX7_isComplete_21 : decode cX7_isComplete 21 = .ok (.getfield 26, 3) := by decide +kernel
theorem dX7_isComplete_24 : decode cX7_isComplete 24 = .ok (.iload_n 1, 1) := by decide +kernel
theorem dX7_isComplete_25 : decode cX7_isComplete 25 = .ok (.iaload, 1) := by decide +kernel
theorem dX7_isComplete_26 : decode cX7_isComplete 26 = .ok (.iconst 3, 1) := by decide +kernel
theorem dX7_isComplete_27 : decode cX7_isComplete 27 = .ok (.if_icmp .ne 7, 3) := by decide +kernel
theorem dX7_isComplete_30 : decode cX7_isComplete 30 = .ok (.iconst 1, 1) := by decide +kernel
theorem dX7_isComplete_31 : decode cX7_isComplete 31 = .ok (.goto 4, 3) := by decide +kernel
theorem dX7_isComplete_34 : decode cX7_isComplete 34 = .ok (.iconst 0, 1) := by decide +kernel
theorem dX7_isComplete_35 : decode cX7_isComplete 35 = .ok (.ireturn, 1) := by decide +kernel
theorem dX7_canHold_0 : decode cX7_canHold 0 = .ok (.iload_n 2, 1) := by decide +kernel
theorem dX7_canHold_1 : decode cX7_canHold 1 = .ok (.iconst 5, 1) := by decide +kernel
theorem dX7_canHold_2 : decode cX7_canHold 2 = .ok (.if_icmp .ne 29, 3) := by decide +kernel
theorem dX7_canHold_5 : decode cX7_canHold 5 = .ok (.aload_n 0, 1) := by decide +kernel
theorem dX7_canHold_6 : decode cX7_canHold 6 = .ok (.getfield 26, 3) := by decide +kernel
theorem dX7_canHold_9 : decode cX7_canHold 9 = .ok (.iload_n 1, 1) := by decide +kernel
theorem dX7_canHold_10 : decode cX7_canHold 10 = .ok (.iaload, 1) := by decide +kernel
theorem dX7_canHold_11 : decode cX7_canHold 11 = .ok (.iconst 5, 1) := by decide +kernel
theorem dX7_canHold_12 : decode cX7_canHold 12 = .ok (.if_icmp .ne 17, 3) := by decide +kernel
theorem dX7_canHold_15 : decode cX7_canHold 15 = .ok (.aload_n 0, 1) := by decide +kernel
theorem dX7_canHold_16 : decode cX7_canHold 16 = .ok (.getfield 32, 3) := by decide +kernel
theorem dX7_canHold_19 : decode cX7_canHold 19 = .ok (.iload_n 1, 1) := by decide +kernel
theorem dX7_canHold_20 : decode cX7_canHold 20 = .ok (.iaload, 1) := by decide +kernel
theorem dX7_canHold_21 : decode cX7_canHold 21 = .ok (.iconst 1, 1) := by decide +kernel
theorem dX7_canHold_22 : decode cX7_canHold 22 = .ok (.if_icmp .ne 7, 3) := by decide +kernel
theorem dX7_canHold_25 : decode cX7_canHold 25 = .ok (.iconst 1, 1) := by decide +kernel
theorem dX7_canHold_26 : decode cX7_canHold 26 = .ok (.goto 4, 3) := by decide +kernel
theorem dX7_canHold_29 : decode cX7_canHold 29 = .ok (.iconst 0, 1) := by decide +kernel
theorem dX7_canHold_30 : decode cX7_canHold 30 = .ok (.ireturn, 1) := by decide +kernel
theorem dX7_canHold_31 : decode cX7_canHold 31 = .ok (.aload_n 0, 1) := by decide +kernel
theorem dX7_canHold_32 : decode cX7_canHold 32 = .ok (.getfield 26, 3) := by decide +kernel
theorem dX7_canHold_35 : decode cX7_canHold 35 = .ok (.iload_n 1, 1) := by decide +kernel
theorem dX7_canHold_36 : decode cX7_canHold 36 = .ok (.iaload, 1) := by decide +kernel
theorem dX7_canHold_37 : decode cX7_canHold 37 = .ok (.iconst 5, 1) := by decide +kernel
theorem dX7_canHold_38 : decode cX7_canHold 38 = .ok (.if_icmp .ne 8, 3) := by decide +kernel
theorem dX7_canHold_41 : decode cX7_canHold 41 = .ok (.iload_n 2, 1) := by decide +kernel
theorem dX7_canHold_42 : decode cX7_canHold 42 = .ok (.iconst 4, 1) := by decide +kernel
theorem dX7_canHold_43 : decode cX7_canHold 43 = .ok (.if_icmp .ne 7, 3) := by decide +kernel
theorem dX7_canHold_46 : decode cX7_canHold 46 = .ok (.iconst 1, 1) := by decide +kernel
theorem dX7_canHold_47 : decode cX7_canHold 47 = .ok (.goto 4, 3) := by decide +kernel
theorem dX7_canHold_50 : decode cX7_canHold 50 = .ok (.iconst 0, 1) := by decide +kernel
theorem dX7_canHold_51 : decode cX7_canHold 51 = .ok (.ireturn, 1) := by decide +kernel
theorem dX7_chosen_0 : decode cX7_chosen 0 = .ok (.iconst 0, 1) := by decide +kernel
theorem dX7_chosen_1 : decode cX7_chosen 1 = .ok (.istore_n 2, 1) := by decide +kernel
theorem dX7_chosen_2 : decode cX7_chosen 2 = .ok (.iconst (-1), 1) := by decide +kernel
theorem dX7_chosen_3 : decode cX7_chosen 3 = .ok (.istore_n 3, 1) := by decide +kernel
theorem dX7_chosen_4 : decode cX7_chosen 4 = .ok (.aload_n 0, 1) := by decide +kernel
theorem dX7_chosen_5 : decode cX7_chosen 5 = .ok (.getfield 79, 3) := by decide +kernel
theorem dX7_chosen_8 : decode cX7_chosen 8 = .ok (.iconst 1, 1) := by decide +kernel
theorem dX7_chosen_9 : decode cX7_chosen 9 = .ok (.isub, 1) := by decide +kernel
theorem dX7_chosen_10 : decode cX7_chosen 10 = .ok (.istore 4, 2) := by decide +kernel
theorem dX7_chosen_12 : decode cX7_chosen 12 = .ok (.iload 4, 2) := by decide +kernel
theorem dX7_chosen_14 : decode cX7_chosen 14 = .ok (.ifCond .lt 52, 3) := by decide +kernel
theorem dX7_chosen_17 : decode cX7_chosen 17 = .ok (.aload_n 0, 1) := by decide +kernel
theorem dX7_chosen_18 : decode cX7_chosen 18 = .ok (.iload 4, 2) := by decide +kernel
theorem dX7_chosen_20 : decode cX7_chosen 20 = .ok (.invokevirtual 82, 3) := by decide +kernel
theorem dX7_chosen_23 : decode cX7_chosen 23 = .ok (.ifCond .eq 43, 3) := by decide +kernel
theorem dX7_chosen_26 : decode cX7_chosen 26 = .ok (.aload_n 0, 1) := by decide +kernel
theorem dX7_chosen_27 : decode cX7_chosen 27 = .ok (.iload 4, 2) := by decide +kernel
theorem dX7_chosen_29 : decode cX7_chosen 29 = .ok (.aload_n 0, 1) := by decide +kernel
theorem dX7_chosen_30 : decode cX7_chosen 30 = .ok (.iload_n 1, 1) := by decide +kernel
theorem dX7_chosen_31 : decode cX7_chosen 31 = .ok (.invokevirtual 86, 3) := by decide +kernel
theorem dX7_chosen_34 : decode cX7_chosen 34 = .ok (.invokevirtual 90, 3) := by decide +kernel
theorem dX7_chosen_37 : decode cX7_chosen 37 = .ok (.ifCond .eq 23, 3) := by decide +kernel
theorem dX7_chosen_40 : decode cX7_chosen 40 = .ok (.iload_n 2, 1) := by decide +kernel
theorem dX7_chosen_41 : decode cX7_chosen 41 = .ok (.aload_n 0, 1) := by decide +kernel
theorem dX7_chosen_42 : decode cX7_chosen 42 = .ok (.getfield 35, 3) := by decide +kernel
theorem dX7_chosen_45 : decode cX7_chosen 45 = .ok (.iload_n 1, 1) := by decide +kernel
theorem dX7_chosen_46 : decode cX7_chosen 46 = .ok (.iaload, 1) := by decide +kernel
theorem dX7_chosen_47 : decode cX7_chosen 47 = .ok (.if_icmp .ne 8, 3) := by decide +kernel
theorem dX7_chosen_50 : decode cX7_chosen 50 = .ok (.iload 4, 2) := by decide +kernel
theorem dX7_chosen_52 : decode cX7_chosen 52 = .ok (.goto 4, 3) := by decide +kernel
theorem dX7_chosen_55 : decode cX7_chosen 55 = .ok (.iload_n 3, 1) := by decide +kernel
theorem dX7_chosen_56 : decode cX7_chosen 56 = .ok (.istore_n 3, 1) := by decide +kernel
theorem dX7_chosen_57 : decode cX7_chosen 57 = .ok (.iinc 2 1, 3) := by decide +kernel
theorem dX7_chosen_60 : decode cX7_chosen 60 = .ok (.iinc 4 (-1), 3) := by decide +kernel
theorem dX7_chosen_63 : decode cX7_chosen 63 = .ok (.goto (-51), 3) := by decide +kernel
theorem dX7_chosen_66 : decode cX7_chosen 66 = .ok (.aload_n 0, 1) := by decide +kernel
theorem dX7_chosen_67 : decode cX7_chosen 67 = .ok (.getfield 38, 3) := by decide +kernel
theorem dX7_chosen_70 : decode cX7_chosen 70 = .ok (.iload_n 1, 1) := by decide +kernel
theorem dX7_chosen_71 : decode cX7_chosen 71 = .ok (.iload_n 2, 1) := by decide +kernel
theorem dX7_chosen_72 : decode cX7_chosen 72 = .ok (.iastore, 1) := by decide +kernel
theorem dX7_chosen_73 : decode cX7_chosen 73 = .ok (.iload_n 3, 1) := by decide +kernel
theorem dX7_chosen_74 : decode cX7_chosen 74 = .ok (.ireturn, 1) := by decide +kernel
theorem dX7_wantsName_0 : decode cX7_wantsName 0 = .ok (.aload_n 0, 1) := by decide +kernel
theorem dX7_wantsName_1 : decode cX7_wantsName 1 = .ok (.getfield 26, 3) := by decide +kernel
theorem dX7_wantsName_4 : decode cX7_wantsName 4 = .ok (.aload_n 0, 1) := by decide +kernel
theorem dX7_wantsName_5 : decode cX7_wantsName 5 = .ok (.getfield 79, 3) := by decide +kernel
theorem dX7_wantsName_8 : decode cX7_wantsName 8 = .ok (.iconst 1, 1) := by decide +kernel
theorem dX7_wantsName_9 : decode cX7_wantsName 9 = .ok (.isub, 1) := by decide +kernel
theorem dX7_wantsName_10 : decode cX7_wantsName 10 = .ok (.iaload, 1) := by decide +kernel
theorem dX7_wantsName_11 : decode cX7_wantsName 11 = .ok (.istore_n 1, 1) := by decide +kernel
theorem dX7_wantsName_12 : decode cX7_wantsName 12 = .ok (.iload_n 1, 1) := by decide +kernel
theorem dX7_wantsName_13 : decode cX7_wantsName 13 = .ok (.ifCond .eq 20, 3) := by decide +kernel
theorem dX7_wantsName_16 : decode cX7_wantsName 16 = .ok (.iload_n 1, 1) := by decide +kernel
theorem dX7_wantsName_17 : decode cX7_wantsName 17 = .ok (.iconst 2, 1) := by decide +kernel
theorem dX7_wantsName_18 : decode cX7_wantsName 18 = .ok (.if_icmp .eq 15, 3) := by decide +kernel
theorem dX7_wantsName_21 : decode cX7_wantsName 21 = .ok (.iload_n 1, 1) := by decide +kernel
theorem dX7_wantsName_22 : decode cX7_wantsName 22 = .ok (.bipush 7, 2) := by decide +kernel
theorem dX7_wantsName_24 : decode cX7_wantsName 24 = .ok (.if_icmp .eq 9, 3) := by decide +kernel
theorem dX7_wantsName_27 : decode cX7_wantsName 27 = .ok (.iload_n 1, 1) := by decide +kernel
theorem dX7_wantsName_28 : decode cX7_wantsName 28 = .ok (.bipush 6, 2) := by decide +kernel
theorem dX7_wantsName_30 : decode cX7_wantsName 30 = .ok (.if_icmp .ne 7, 3) := by decide +kernel
theorem dX7_wantsName_33 : decode cX7_wantsName 33 = .ok (.iconst 1, 1) := by decide +kernel
theorem dX7_wantsName_34 : decode cX7_wantsName 34 = .ok (.goto 4, 3) := by decide +kernel
theorem dX7_wantsName_37 : decode cX7_wantsName 37 = .ok (.iconst 0, 1) := by decide +kernel
theorem dX7_wantsName_38 : decode cX7_wantsName 38 = .ok (.ireturn, 1) := by decide +kernel
theorem dX7_takesAdjective_0 : decode cX7_takesAdjective 0 = .ok (.aload_n 0, 1) := by decide +kernel
theorem dX7_takesAdjective_1 : decode cX7_takesAdjective 1 = .ok (.getfield 26, 3) := by decide +kernel
theorem dX7_takesAdjective_4 : decode cX7_takesAdjective 4 = .ok (.aload_n 0, 1) := by decide +kernel
theorem dX7_takesAdjective_5 : decode cX7_takesAdjective 5 = .ok (.getfield 79, 3) := by decide +kernel
theorem dX7_takesAdjective_8 : decode cX7_takesAdjective 8 = .ok (.iconst 1, 1) := by decide +kernel
theorem dX7_takesAdjective_9 : decode cX7_takesAdjective 9 = .ok (.isub, 1) := by decide +kernel
theorem dX7_takesAdjective_10 : decode cX7_takesAdjective 10 = .ok (.iaload, 1) := by decide +kernel
theorem dX7_takesAdjective_11 : decode cX7_takesAdjective 11 = .ok (.iconst 4, 1) := by decide +kernel
theorem dX7_takesAdjective_12 : decode cX7_takesAdjective 12 = .ok (.if_icmp .ne 5, 3) := by decide +kernel
theorem dX7_takesAdjective_15 : decode cX7_takesAdjective 15 = .ok (.iconst 1, 1) := by decide +kernel
theorem dX7_takesAdjective_16 : decode cX7_takesAdjective 16 = .ok (.ireturn, 1) := by decide +kernel
theorem dX7_takesAdjective_17 : decode cX7_takesAdjective 17 = .ok (.aload_n 0, 1) := by decide +kernel
theorem dX7_takesAdjective_18 : decode cX7_takesAdjective 18 = .ok (.invokevirtual 94, 3) := by decide +kernel
theorem dX7_takesAdjective_21 : decode cX7_takesAdjective 21 = .ok (.ifCond .ne 5, 3) := by decide +kernel
theorem dX7_takesAdjective_24 : decode cX7_takesAdjective 24 = .ok (.iconst 0, 1) := by decide +kernel
theorem dX7_takesAdjective_25 : decode cX7_takesAdjective 25 = .ok (.ireturn, 1) := by decide +kernel
theorem dX7_takesAdjective_26 : decode cX7_takesAdjective 26 = .ok (.aload_n 0, 1) := by decide +kernel
theorem dX7_takesAdjective_27 : decode cX7_takesAdjective 27 = .ok (.iconst 4, 1) := by decide +kernel
theorem dX7_takesAdjective_28 : decode cX7_takesAdjective 28 = .ok (.iload_n 1, 1) := by decide +kernel
theorem dX7_takesAdjective_29 : decode cX7_takesAdjective 29 = .ok (.iconst 0, 1) := by decide +kernel
theorem dX7_takesAdjective_30 : decode cX7_takesAdjective 30 = .ok (.invokevirtual 98, 3) := by decide +kernel
theorem dX7_takesAdjective_33 : decode cX7_takesAdjective 33 = .ok (.iconst 1, 1) := by decide +kernel
theorem dX7_takesAdjective_34 : decode cX7_takesAdjective 34 = .ok (.ireturn, 1) := by decide +kernel
theorem dX7_takesNoun_0 : decode cX7_takesNoun 0 = .ok (.iload_n 1, 1) := by decide +kernel
theorem dX7_takesNoun_1 : decode cX7_takesNoun 1 = .ok (.istore_n 2, 1) := by decide +kernel
theorem dX7_takesNoun_2 : decode cX7_takesNoun 2 = .ok (.aload_n 0, 1) := by decide +kernel
theorem dX7_takesNoun_3 : decode cX7_takesNoun 3 = .ok (.getfield 26, 3) := by decide +kernel
theorem dX7_takesNoun_6 : decode cX7_takesNoun 6 = .ok (.aload_n 0, 1) := by decide +kernel
theorem dX7_takesNoun_7 : decode cX7_takesNoun 7 = .ok (.getfield 79, 3) := by decide +kernel
theorem dX7_takesNoun_10 : decode cX7_takesNoun 10 = .ok (.iconst 1, 1) := by decide +kernel
theorem dX7_takesNoun_11 : decode cX7_takesNoun 11 = .ok (.isub, 1) := by decide +kernel
theorem dX7_takesNoun_12 : decode cX7_takesNoun 12 = .ok (.iaload, 1) := by decide +kernel
theorem dX7_takesNoun_13 : decode cX7_takesNoun 13 = .ok (.iconst 4, 1) := by decide +kernel
theorem dX7_takesNoun_14 : decode cX7_takesNoun 14 = .ok (.if_icmp .ne 23, 3) := by decide +kernel
theorem dX7_takesNoun_17 : decode cX7_takesNoun 17 = .ok (.aload_n 0, 1) := by decide +kernel
theorem dX7_takesNoun_18 : decode cX7_takesNoun 18 = .ok (.dup, 1) := by decide +kernel
theorem dX7_takesNoun_19 : decode cX7_takesNoun 19 = .ok (.getfield 79, 3) := by decide +kernel
theorem dX7_takesNoun_22 : decode cX7_takesNoun 22 = .ok (.iconst 1, 1) := by decide +kernel
theorem dX7_takesNoun_23 : decode cX7_takesNoun 23 = .ok (.isub, 1) := by decide +kernel
theorem dX7_takesNoun_24 : decode cX7_takesNoun 24 = .ok (.putfield 79, 3) := by decide +kernel
theorem dX7_takesNoun_27 : decode cX7_takesNoun 27 = .ok (.aload_n 0, 1) := by decide +kernel
theorem dX7_takesNoun_28 : decode cX7_takesNoun 28 = .ok (.getfield 29, 3) := by decide +kernel
theorem dX7_takesNoun_31 : decode cX7_takesNoun 31 = .ok (.aload_n 0, 1) := by decide +kernel
theorem dX7_takesNoun_32 : decode cX7_takesNoun 32 = .ok (.getfield 79, 3) := by decide +kernel
theorem dX7_takesNoun_35 : decode cX7_takesNoun 35 = .ok (.iaload, 1) := by decide +kernel
theorem dX7_takesNoun_36 : decode cX7_takesNoun 36 = .ok (.istore_n 2, 1) := by decide +kernel
theorem dX7_takesNoun_37 : decode cX7_takesNoun 37 = .ok (.aload_n 0, 1) := by decide +kernel
theorem dX7_takesNoun_38 : decode cX7_takesNoun 38 = .ok (.invokevirtual 94, 3) := by decide +kernel
theorem dX7_takesNoun_41 : decode cX7_takesNoun 41 = .ok (.ifCond .ne 5, 3) := by decide +kernel
theorem dX7_takesNoun_44 : decode cX7_takesNoun 44 = .ok (.iconst 0, 1) := by decide +kernel
theorem dX7_takesNoun_45 : decode cX7_takesNoun 45 = .ok (.ireturn, 1) := by decide +kernel
theorem dX7_takesNoun_46 : decode cX7_takesNoun 46 = .ok (.iload_n 2, 1) := by decide +kernel
theorem dX7_takesNoun_47 : decode cX7_takesNoun 47 = .ok (.istore_n 3, 1) := by decide +kernel
theorem dX7_takesNoun_48 : decode cX7_takesNoun 48 = .ok (.iload_n 3, 1) := by decide +kernel
theorem dX7_takesNoun_49 : decode cX7_takesNoun 49 = .ok (.iload_n 1, 1) := by decide +kernel
theorem dX7_takesNoun_50 : decode cX7_takesNoun 50 = .ok (.if_icmp .ge 16, 3) := by decide +kernel
theorem dX7_takesNoun_53 : decode cX7_takesNoun 53 = .ok (.aload_n 0, 1) := by decide +kernel
theorem dX7_takesNoun_54 : decode cX7_takesNoun 54 = .ok (.getfield 41, 3) := by decide +kernel
theorem dX7_takesNoun_57 : decode cX7_takesNoun 57 = .ok (.iload_n 3, 1) := by decide +kernel
theorem dX7_takesNoun_58 : decode cX7_takesNoun 58 = .ok (.iload_n 1, 1) := by decide +kernel
theorem dX7_takesNoun_59 : decode cX7_takesNoun 59 = .ok (.iastore, 1) := by decide +kernel
theorem dX7_takesNoun_60 : decode cX7_takesNoun 60 = .ok (.iinc 3 1, 3) := by decide +kernel
theorem dX7_takesNoun_63 : decode cX7_takesNoun 63 = .ok (.goto (-15), 3) := by decide +kernel
theorem dX7_takesNoun_66 : decode cX7_takesNoun 66 = .ok (.aload_n 0, 1) := by decide +kernel
theorem dX7_takesNoun_67 : decode cX7_takesNoun 67 = .ok (.getfield 79, 3) := by decide +kernel
theorem dX7_takesNoun_70 : decode cX7_takesNoun 70 = .ok (.iconst 1, 1) := by decide +kernel
theorem dX7_takesNoun_71 : decode cX7_takesNoun 71 = .ok (.isub, 1) := by decide +kernel
theorem dX7_takesNoun_72 : decode cX7_takesNoun 72 = .ok (.istore_n 3, 1) := by decide +kernel
theorem dX7_takesNoun_73 : decode cX7_takesNoun 73 = .ok (.aload_n 0, 1) := by decide +kernel
theorem dX7_takesNoun_74 : decode cX7_takesNoun 74 = .ok (.getfield 26, 3) := by decide +kernel
theorem dX7_takesNoun_77 : decode cX7_takesNoun 77 = .ok (.iload_n 3, 1) := by decide +kernel
theorem dX7_takesNoun_78 : decode cX7_takesNoun 78 = .ok (.iaload, 1) := by decide +kernel
theorem dX7_takesNoun_79 : decode cX7_takesNoun 79 = .ok (.ifCond .ne 27, 3) := by decide +kernel
theorem dX7_takesNoun_82 : decode cX7_takesNoun 82 = .ok (.aload_n 0, 1) := by decide +kernel
theorem dX7_takesNoun_83 : decode cX7_takesNoun 83 = .ok (.getfield 26, 3) := by decide +kernel
theorem dX7_takesNoun_86 : decode cX7_takesNoun 86 = .ok (.iload_n 3, 1) := by decide +kernel
theorem dX7_takesNoun_87 : decode cX7_takesNoun 87 = .ok (.iconst 1, 1) := by decide +kernel
theorem dX7_takesNoun_88 : decode cX7_takesNoun 88 = .ok (.iastore, 1) := by decide +kernel
theorem dX7_takesNoun_89 : decode cX7_takesNoun 89 = .ok (.aload_n 0, 1) := by decide +kernel
theorem dX7_takesNoun_90 : decode cX7_takesNoun 90 = .ok (.getfield 29, 3) := by decide +kernel
theorem dX7_takesNoun_93 : decode cX7_takesNoun 93 = .ok (.iload_n 3, 1) := by decide +kernel
theorem dX7_takesNoun_94 : decode cX7_takesNoun 94 = .ok (.iload_n 1, 1) := by decide +kernel
theorem dX7_takesNoun_95 : decode cX7_takesNoun 95 = .ok (.iastore, 1) := by decide +kernel
theorem dX7_takesNoun_96 : decode cX7_takesNoun 96 = .ok (.aload_n 0, 1) := by decide +kernel
theorem dX7_takesNoun_97 : decode cX7_takesNoun 97 = .ok (.iconst 5, 1) := by decide +kernel
theorem dX7_takesNoun_98 : decode cX7_takesNoun 98 = .ok (.iload_n 1, 1) := by decide +kernel
theorem dX7_takesNoun_99 : decode cX7_takesNoun 99 = .ok (.iconst 1, 1) := by decide +kernel
theorem dX7_takesNoun_100 : decode cX7_takesNoun 100 = .ok (.invokevirtual 98, 3) := by decide +kernel
theorem dX7_takesNoun_103 : decode cX7_takesNoun 103 = .ok (.goto 90, 3) := by decide +kernel
theorem dX7_takesNoun_106 : decode cX7_takesNoun 106 = .ok (.aload_n 0, 1) := by decide +kernel
theorem dX7_takesNoun_107 : decode cX7_takesNoun 107 = .ok (.getfield 26, 3) := by decide +kernel
theorem dX7_takesNoun_110 : decode cX7_takesNoun 110 = .ok (.iload_n 3, 1) := by decide +kernel
theorem dX7_takesNoun_111 : decode cX7_takesNoun 111 = .ok (.iaload, 1) := by decide +kernel
theorem dX7_takesNoun_112 : decode cX7_takesNoun 112 = .ok (.iconst 2, 1) := by decide +kernel
theorem dX7_takesNoun_113 : decode cX7_takesNoun 113 = .ok (.if_icmp .ne 32, 3) := by decide +kernel
theorem dX7_takesNoun_116 : decode cX7_takesNoun 116 = .ok (.aload_n 0, 1) := by decide +kernel
theorem dX7_takesNoun_117 : decode cX7_takesNoun 117 = .ok (.getfield 41, 3) := by decide +kernel
theorem dX7_takesNoun_120 : decode cX7_takesNoun 120 = .ok (.iload_n 1, 1) := by decide +kernel
theorem dX7_takesNoun_121 : decode cX7_takesNoun 121 = .ok (.aload_n 0, 1) := by decide +kernel
theorem dX7_takesNoun_122 : decode cX7_takesNoun 122 = .ok (.getfield 29, 3) := by decide +kernel
theorem dX7_takesNoun_125 : decode cX7_takesNoun 125 = .ok (.iload_n 3, 1) := by decide +kernel
theorem dX7_takesNoun_126 : decode cX7_takesNoun 126 = .ok (.iaload, 1) := by decide +kernel
theorem dX7_takesNoun_127 : decode cX7_takesNoun 127 = .ok (.iastore, 1) := by decide +kernel
theorem dX7_takesNoun_128 : decode cX7_takesNoun 128 = .ok (.aload_n 0, 1) := by decide +kernel
theorem dX7_takesNoun_129 : decode cX7_takesNoun 129 = .ok (.getfield 26, 3) := by decide +kernel
theorem dX7_takesNoun_132 : decode cX7_takesNoun 132 = .ok (.iload_n 3, 1) := by decide +kernel
theorem dX7_takesNoun_133 : decode cX7_takesNoun 133 = .ok (.iconst 3, 1) := by decide +kernel
theorem dX7_takesNoun_134 : decode cX7_takesNoun 134 = .ok (.iastore, 1) := by decide +kernel
theorem dX7_takesNoun_135 : decode cX7_takesNoun 135 = .ok (.aload_n 0, 1) := by decide +kernel
theorem dX7_takesNoun_136 : decode cX7_takesNoun 136 = .ok (.iconst 5, 1) := by decide +kernel
theorem dX7_takesNoun_137 : decode cX7_takesNoun 137 = .ok (.iload_n 1, 1) := by decide +kernel
theorem dX7_takesNoun_138 : decode cX7_takesNoun 138 = .ok (.iconst 1, 1) := by decide +kernel
theorem dX7_takesNoun_139 : decode cX7_takesNoun 139 = .ok (.invokevirtual 98, 3) := by decide +kernel
theorem dX7_takesNoun_142 : decode cX7_takesNoun 142 = .ok (.goto 51, 3) := by decide +kernel
theorem dX7_takesNoun_145 : decode cX7_takesNoun 145 = .ok (.aload_n 0, 1) := by decide +kernel
theorem dX7_takesNoun_146 : decode cX7_takesNoun 146 = .ok (.getfield 41, 3) := by decide +kernel
theorem dX7_takesNoun_149 : decode cX7_takesNoun 149 = .ok (.iload_n 1, 1) := by decide +kernel
theorem dX7_takesNoun_150 : decode cX7_takesNoun 150 = .ok (.aload_n 0, 1) := by decide +kernel
theorem dX7_takesNoun_151 : decode cX7_takesNoun 151 = .ok (.getfield 29, 3) := by decide +kernel
theorem dX7_takesNoun_154 : decode cX7_takesNoun 154 = .ok (.iload_n 3, 1) := by decide +kernel
theorem dX7_takesNoun_155 : decode cX7_takesNoun 155 = .ok (.iaload, 1) := by decide +kernel
theorem dX7_takesNoun_156 : decode cX7_takesNoun 156 = .ok (.iastore, 1) := by decide +kernel
theorem dX7_takesNoun_157 : decode cX7_takesNoun 157 = .ok (.aload_n 0, 1) := by decide +kernel
theorem dX7_takesNoun_158 : decode cX7_takesNoun 158 = .ok (.getfield 32, 3) := by decide +kernel
theorem dX7_takesNoun_161 : decode cX7_takesNoun 161 = .ok (.iload_n 3, 1) := by decide +kernel
theorem dX7_takesNoun_162 : decode cX7_takesNoun 162 = .ok (.aload_n 0, 1) := by decide +kernel
theorem dX7_takesNoun_163 : decode cX7_takesNoun 163 = .ok (.getfield 26, 3) := by decide +kernel
theorem dX7_takesNoun_166 : decode cX7_takesNoun 166 = .ok (.iload_n 3, 1) := by decide +kernel
theorem dX7_takesNoun_167 : decode cX7_takesNoun 167 = .ok (.iaload, 1) := by decide +kernel
theorem dX7_takesNoun_168 : decode cX7_takesNoun 168 = .ok (.bipush 7, 2) := by decide +kernel
theorem dX7_takesNoun_170 : decode cX7_takesNoun 170 = .ok (.if_icmp .ne 7, 3) := by decide +kernel
theorem dX7_takesNoun_173 : decode cX7_takesNoun 173 = .ok (.iconst 1, 1) := by decide +kernel
theorem dX7_takesNoun_174 : decode cX7_takesNoun 174 = .ok (.goto 4, 3) := by decide +kernel
theorem dX7_takesNoun_177 : decode cX7_takesNoun 177 = .ok (.iconst 0, 1) := by decide +kernel
theorem dX7_takesNoun_178 : decode cX7_takesNoun 178 = .ok (.iastore, 1) := by decide +kernel
theorem dX7_takesNoun_179 : decode cX7_takesNoun 179 = .ok (.aload_n 0, 1) := by decide +kernel
theorem dX7_takesNoun_180 : decode cX7_takesNoun 180 = .ok (.getfield 26, 3) := by decide +kernel
theorem dX7_takesNoun_183 : decode cX7_takesNoun 183 = .ok (.iload_n 3, 1) := by decide +kernel
theorem dX7_takesNoun_184 : decode cX7_takesNoun 184 = .ok (.iconst 5, 1) := by decide +kernel
theorem dX7_takesNoun_185 : decode cX7_takesNoun 185 = .ok (.iastore, 1) := by decide +kernel
theorem dX7_takesNoun_186 : decode cX7_takesNoun 186 = .ok (.aload_n 0, 1) := by decide +kernel
theorem dX7_takesNoun_187 : decode cX7_takesNoun 187 = .ok (.getfield 29, 3) := by decide +kernel
theorem dX7_takesNoun_190 : decode cX7_takesNoun 190 = .ok (.iload_n 3, 1) := by decide +kernel
theorem dX7_takesNoun_191 : decode cX7_takesNoun 191 = .ok (.iload_n 1, 1) := by decide +kernel
theorem dX7_takesNoun_192 : decode cX7_takesNoun 192 = .ok (.iastore, 1) := by decide +kernel
theorem dX7_takesNoun_193 : decode cX7_takesNoun 193 = .ok (.iconst 1, 1) := by decide +kernel
theorem dX7_takesNoun_194 : decode cX7_takesNoun 194 = .ok (.ireturn, 1) := by decide +kernel
theorem dX7_takesVerb_0 : decode cX7_takesVerb 0 = .ok (.aload_n 0, 1) := by decide +kernel
theorem dX7_takesVerb_1 : decode cX7_takesVerb 1 = .ok (.getfield 79, 3) := by decide +kernel
theorem dX7_takesVerb_4 : decode cX7_takesVerb 4 = .ok (.iconst 1, 1) := by decide +kernel
theorem dX7_takesVerb_5 : decode cX7_takesVerb 5 = .ok (.isub, 1) := by decide +kernel
theorem dX7_takesVerb_6 : decode cX7_takesVerb 6 = .ok (.istore_n 2, 1) := by decide +kernel
theorem dX7_takesVerb_7 : decode cX7_takesVerb 7 = .ok (.iload_n 2, 1) := by decide +kernel
theorem dX7_takesVerb_8 : decode cX7_takesVerb 8 = .ok (.ifCond .lt 19, 3) := by decide +kernel
theorem dX7_takesVerb_11 : decode cX7_takesVerb 11 = .ok (.aload_n 0, 1) := by decide +kernel
theorem dX7_takesVerb_12 : decode cX7_takesVerb 12 = .ok (.getfield 26, 3) := by decide +kernel
theorem dX7_takesVerb_15 : decode cX7_takesVerb 15 = .ok (.iload_n 2, 1) := by decide +kernel
theorem dX7_takesVerb_16 : decode cX7_takesVerb 16 = .ok (.iaload, 1) := by decide +kernel
theorem dX7_takesVerb_17 : decode cX7_takesVerb 17 = .ok (.iconst 5, 1) := by decide +kernel
theorem dX7_takesVerb_18 : decode cX7_takesVerb 18 = .ok (.if_icmp .ne 9, 3) := by decide +kernel
theorem dX7_takesVerb_21 : decode cX7_takesVerb 21 = .ok (.iinc 2 (-1), 3) := by decide +kernel
theorem dX7_takesVerb_24 : decode cX7_takesVerb 24 = .ok (.goto (-17), 3) := by decide +kernel
theorem dX7_takesVerb_27 : decode cX7_takesVerb 27 = .ok (.iload_n 2, 1) := by decide +kernel
theorem dX7_takesVerb_28 : decode cX7_takesVerb 28 = .ok (.ifCond .lt 13, 3) := by decide +kernel
theorem dX7_takesVerb_31 : decode cX7_takesVerb 31 = .ok (.aload_n 0, 1) := by decide +kernel
theorem dX7_takesVerb_32 : decode cX7_takesVerb 32 = .ok (.getfield 26, 3) := by decide +kernel
theorem dX7_takesVerb_35 : decode cX7_takesVerb 35 = .ok (.iload_n 2, 1) := by decide +kernel
theorem dX7_takesVerb_36 : decode cX7_takesVerb 36 = .ok (.iaload, 1) := by decide +kernel
theorem dX7_takesVerb_37 : decode cX7_takesVerb 37 = .ok (.iconst 1, 1) := by decide +kernel
theorem dX7_takesVerb_38 : decode cX7_takesVerb 38 = .ok (.if_icmp .eq 5, 3) := by decide +kernel
theorem dX7_takesVerb_41 : decode cX7_takesVerb 41 = .ok (.iconst 0, 1) := by decide +kernel
theorem dX7_takesVerb_42 : decode cX7_takesVerb 42 = .ok (.ireturn, 1) := by decide +kernel
theorem dX7_takesVerb_43 : decode cX7_takesVerb 43 = .ok (.aload_n 0, 1) := by decide +kernel
theorem dX7_takesVerb_44 : decode cX7_takesVerb 44 = .ok (.getfield 41, 3) := by decide +kernel
theorem dX7_takesVerb_47 : decode cX7_takesVerb 47 = .ok (.aload_n 0, 1) := by decide +kernel
theorem dX7_takesVerb_48 : decode cX7_takesVerb 48 = .ok (.getfield 29, 3) := by decide +kernel
theorem dX7_takesVerb_51 : decode cX7_takesVerb 51 = .ok (.iload_n 2, 1) := by decide +kernel
theorem dX7_takesVerb_52 : decode cX7_takesVerb 52 = .ok (.iaload, 1) := by decide +kernel
theorem dX7_takesVerb_53 : decode cX7_takesVerb 53 = .ok (.iload_n 1, 1) := by decide +kernel
theorem dX7_takesVerb_54 : decode cX7_takesVerb 54 = .ok (.iastore, 1) := by decide +kernel
theorem dX7_takesVerb_55 : decode cX7_takesVerb 55 = .ok (.aload_n 0, 1) := by decide +kernel
theorem dX7_takesVerb_56 : decode cX7_takesVerb 56 = .ok (.getfield 41, 3) := by decide +kernel
theorem dX7_takesVerb_59 : decode cX7_takesVerb 59 = .ok (.iload_n 1, 1) := by decide +kernel
theorem dX7_takesVerb_60 : decode cX7_takesVerb 60 = .ok (.aload_n 0, 1) := by decide +kernel
theorem dX7_takesVerb_61 : decode cX7_takesVerb 61 = .ok (.getfield 32, 3) := by decide +kernel
theorem dX7_takesVerb_64 : decode cX7_takesVerb 64 = .ok (.iload_n 2, 1) := by decide +kernel
theorem dX7_takesVerb_65 : decode cX7_takesVerb 65 = .ok (.iaload, 1) := by decide +kernel
theorem dX7_takesVerb_66 : decode cX7_takesVerb 66 = .ok (.iastore, 1) := by decide +kernel
theorem dX7_takesVerb_67 : decode cX7_takesVerb 67 = .ok (.aload_n 0, 1) := by decide +kernel
theorem dX7_takesVerb_68 : decode cX7_takesVerb 68 = .ok (.getfield 26, 3) := by decide +kernel
theorem dX7_takesVerb_71 : decode cX7_takesVerb 71 = .ok (.iload_n 2, 1) := by decide +kernel
theorem dX7_takesVerb_72 : decode cX7_takesVerb 72 = .ok (.iconst 2, 1) := by decide +kernel
theorem dX7_takesVerb_73 : decode cX7_takesVerb 73 = .ok (.iastore, 1) := by decide +kernel
theorem dX7_takesVerb_74 : decode cX7_takesVerb 74 = .ok (.aload_n 0, 1) := by decide +kernel
theorem dX7_takesVerb_75 : decode cX7_takesVerb 75 = .ok (.getfield 29, 3) := by decide +kernel
theorem dX7_takesVerb_78 : decode cX7_takesVerb 78 = .ok (.iload_n 2, 1) := by decide +kernel
theorem dX7_takesVerb_79 : decode cX7_takesVerb 79 = .ok (.iload_n 1, 1) := by decide +kernel
theorem dX7_takesVerb_80 : decode cX7_takesVerb 80 = .ok (.iastore, 1) := by decide +kernel
theorem dX7_takesVerb_81 : decode cX7_takesVerb 81 = .ok (.aload_n 0, 1) := by decide +kernel
theorem dX7_takesVerb_82 : decode cX7_takesVerb 82 = .ok (.iload_n 2, 1) := by decide +kernel
theorem dX7_takesVerb_83 : decode cX7_takesVerb 83 = .ok (.iconst 1, 1) := by decide +kernel
theorem dX7_takesVerb_84 : decode cX7_takesVerb 84 = .ok (.iadd, 1) := by decide +kernel
theorem dX7_takesVerb_85 : decode cX7_takesVerb 85 = .ok (.putfield 79, 3) := by decide +kernel
theorem dX7_takesVerb_88 : decode cX7_takesVerb 88 = .ok (.iconst 1, 1) := by decide +kernel
theorem dX7_takesVerb_89 : decode cX7_takesVerb 89 = .ok (.ireturn, 1) := by decide +kernel
theorem dX7_takesHanging_0 : decode cX7_takesHanging 0 = .ok (.aload_n 0, 1) := by decide +kernel
theorem dX7_takesHanging_1 : decode cX7_takesHanging 1 = .ok (.iload_n 1, 1) := by decide +kernel
theorem dX7_takesHanging_2 : decode cX7_takesHanging 2 = .ok (.invokevirtual 102, 3) := by decide +kernel
theorem dX7_takesHanging_5 : decode cX7_takesHanging 5 = .ok (.istore_n 2, 1) := by decide +kernel
theorem dX7_takesHanging_6 : decode cX7_takesHanging 6 = .ok (.iload_n 2, 1) := by decide +kernel
theorem dX7_takesHanging_7 : decode cX7_takesHanging 7 = .ok (.iconst (-1), 1) := by decide +kernel
theorem dX7_takesHanging_8 : decode cX7_takesHanging 8 = .ok (.if_icmp .ne 5, 3) := by decide +kernel
theorem dX7_takesHanging_11 : decode cX7_takesHanging 11 = .ok (.iconst 0, 1) := by decide +kernel
theorem dX7_takesHanging_12 : decode cX7_takesHanging 12 = .ok (.ireturn, 1) := by decide +kernel
theorem dX7_takesHanging_13 : decode cX7_takesHanging 13 = .ok (.aload_n 0, 1) := by decide +kernel
theorem dX7_takesHanging_14 : decode cX7_takesHanging 14 = .ok (.iload_n 2, 1) := by decide +kernel
theorem dX7_takesHanging_15 : decode cX7_takesHanging 15 = .ok (.iconst 1, 1) := by decide +kernel
theorem dX7_takesHanging_16 : decode cX7_takesHanging 16 = .ok (.iadd, 1) := by decide +kernel
theorem dX7_takesHanging_17 : decode cX7_takesHanging 17 = .ok (.putfield 79, 3) := by decide +kernel
theorem dX7_takesHanging_20 : decode cX7_takesHanging 20 = .ok (.aload_n 0, 1) := by decide +kernel
theorem dX7_takesHanging_21 : decode cX7_takesHanging 21 = .ok (.getfield 41, 3) := by decide +kernel
theorem dX7_takesHanging_24 : decode cX7_takesHanging 24 = .ok (.iload_n 1, 1) := by decide +kernel
theorem dX7_takesHanging_25 : decode cX7_takesHanging 25 = .ok (.aload_n 0, 1) := by decide +kernel
theorem dX7_takesHanging_26 : decode cX7_takesHanging 26 = .ok (.getfield 29, 3) := by decide +kernel
theorem dX7_takesHanging_29 : decode cX7_takesHanging 29 = .ok (.iload_n 2, 1) := by decide +kernel
theorem dX7_takesHanging_30 : decode cX7_takesHanging 30 = .ok (.iaload, 1) := by decide +kernel
theorem dX7_takesHanging_31 : decode cX7_takesHanging 31 = .ok (.iastore, 1) := by decide +kernel
theorem dX7_takesHanging_32 : decode cX7_takesHanging 32 = .ok (.aload_n 0, 1) := by decide +kernel
theorem dX7_takesHanging_33 : decode cX7_takesHanging 33 = .ok (.getfield 26, 3) := by decide +kernel
theorem dX7_takesHanging_36 : decode cX7_takesHanging 36 = .ok (.iload_n 2, 1) := by decide +kernel
theorem dX7_takesHanging_37 : decode cX7_takesHanging 37 = .ok (.aload_n 0, 1) := by decide +kernel
theorem dX7_takesHanging_38 : decode cX7_takesHanging 38 = .ok (.getfield 26, 3) := by decide +kernel
theorem dX7_takesHanging_41 : decode cX7_takesHanging 41 = .ok (.iload_n 2, 1) := by decide +kernel
theorem dX7_takesHanging_42 : decode cX7_takesHanging 42 = .ok (.iaload, 1) := by decide +kernel
theorem dX7_takesHanging_43 : decode cX7_takesHanging 43 = .ok (.iconst 2, 1) := by decide +kernel
theorem dX7_takesHanging_44 : decode cX7_takesHanging 44 = .ok (.if_icmp .ne 7, 3) := by decide +kernel
theorem dX7_takesHanging_47 : decode cX7_takesHanging 47 = .ok (.iconst 3, 1) := by decide +kernel
theorem dX7_takesHanging_48 : decode cX7_takesHanging 48 = .ok (.goto 9, 3) := by decide +kernel
theorem dX7_takesHanging_51 : decode cX7_takesHanging 51 = .ok (.aload_n 0, 1) := by decide +kernel
theorem dX7_takesHanging_52 : decode cX7_takesHanging 52 = .ok (.getfield 26, 3) := by decide +kernel
theorem dX7_takesHanging_55 : decode cX7_takesHanging 55 = .ok (.iload_n 2, 1) := by decide +kernel
theorem dX7_takesHanging_56 : decode cX7_takesHanging 56 = .ok (.iaload, 1) := by decide +kernel
theorem dX7_takesHanging_57 : decode cX7_takesHanging 57 = .ok (.iastore, 1) := by decide +kernel
theorem dX7_takesHanging_58 : decode cX7_takesHanging 58 = .ok (.aload_n 0, 1) := by decide +kernel
theorem dX7_takesHanging_59 : decode cX7_takesHanging 59 = .ok (.iload_n 1, 1) := by decide +kernel
theorem dX7_takesHanging_60 : decode cX7_takesHanging 60 = .ok (.invokevirtual 86, 3) := by decide +kernel
theorem dX7_takesHanging_63 : decode cX7_takesHanging 63 = .ok (.iconst 4, 1) := by decide +kernel
theorem dX7_takesHanging_64 : decode cX7_takesHanging 64 = .ok (.if_icmp .ne 14, 3) := by decide +kernel
theorem dX7_takesHanging_67 : decode cX7_takesHanging 67 = .ok (.aload_n 0, 1) := by decide +kernel
theorem dX7_takesHanging_68 : decode cX7_takesHanging 68 = .ok (.bipush 7, 2) := by decide +kernel
theorem dX7_takesHanging_70 : decode cX7_takesHanging 70 = .ok (.iload_n 1, 1) := by decide +kernel
theorem dX7_takesHanging_71 : decode cX7_takesHanging 71 = .ok (.iconst 0, 1) := by decide +kernel
theorem dX7_takesHanging_72 : decode cX7_takesHanging 72 = .ok (.invokevirtual 98, 3) := by decide +kernel
theorem dX7_takesHanging_75 : decode cX7_takesHanging 75 = .ok (.goto 27, 3) := by decide +kernel
theorem dX7_takesHanging_78 : decode cX7_takesHanging 78 = .ok (.aload_n 0, 1) := by decide +kernel
theorem dX7_takesHanging_79 : decode cX7_takesHanging 79 = .ok (.iload_n 1, 1) := by decide +kernel
theorem dX7_takesHanging_80 : decode cX7_takesHanging 80 = .ok (.invokevirtual 86, 3) := by decide +kernel
theorem dX7_takesHanging_83 : decode cX7_takesHanging 83 = .ok (.iconst 5, 1) := by decide +kernel
theorem dX7_takesHanging_84 : decode cX7_takesHanging 84 = .ok (.if_icmp .ne 18, 3) := by decide +kernel
theorem dX7_takesHanging_87 : decode cX7_takesHanging 87 = .ok (.aload_n 0, 1) := by decide +kernel
theorem dX7_takesHanging_88 : decode cX7_takesHanging 88 = .ok (.getfield 26, 3) := by decide +kernel
theorem dX7_takesHanging_91 : decode cX7_takesHanging 91 = .ok (.iload_n 2, 1) := by decide +kernel
theorem dX7_takesHanging_92 : decode cX7_takesHanging 92 = .ok (.bipush 6, 2) := by decide +kernel
theorem dX7_takesHanging_94 : decode cX7_takesHanging 94 = .ok (.iastore, 1) := by decide +kernel
theorem dX7_takesHanging_95 : decode cX7_takesHanging 95 = .ok (.aload_n 0, 1) := by decide +kernel
theorem dX7_takesHanging_96 : decode cX7_takesHanging 96 = .ok (.getfield 29, 3) := by decide +kernel
theorem dX7_takesHanging_99 : decode cX7_takesHanging 99 = .ok (.iload_n 2, 1) := by decide +kernel
theorem dX7_takesHanging_100 : decode cX7_takesHanging 100 = .ok (.iload_n 1, 1) := by decide +kernel
theorem dX7_takesHanging_101 : decode cX7_takesHanging 101 = .ok (.iastore, 1) := by decide +kernel
theorem dX7_takesHanging_102 : decode cX7_takesHanging 102 = .ok (.iconst 1, 1) := by decide +kernel
theorem dX7_takesHanging_103 : decode cX7_takesHanging 103 = .ok (.ireturn, 1) := by decide +kernel
theorem dX7_takesOpener_0 : decode cX7_takesOpener 0 = .ok (.aload_n 0, 1) := by decide +kernel
theorem dX7_takesOpener_1 : decode cX7_takesOpener 1 = .ok (.getfield 79, 3) := by decide +kernel
theorem dX7_takesOpener_4 : decode cX7_takesOpener 4 = .ok (.iconst 1, 1) := by decide +kernel
theorem dX7_takesOpener_5 : decode cX7_takesOpener 5 = .ok (.isub, 1) := by decide +kernel
theorem dX7_takesOpener_6 : decode cX7_takesOpener 6 = .ok (.istore_n 2, 1) := by decide +kernel
theorem dX7_takesOpener_7 : decode cX7_takesOpener 7 = .ok (.aload_n 0, 1) := by decide +kernel
theorem dX7_takesOpener_8 : decode cX7_takesOpener 8 = .ok (.getfield 26, 3) := by decide +kernel
theorem dX7_takesOpener_11 : decode cX7_takesOpener 11 = .ok (.iload_n 2, 1) := by decide +kernel
theorem dX7_takesOpener_12 : decode cX7_takesOpener 12 = .ok (.iaload, 1) := by decide +kernel
theorem dX7_takesOpener_13 : decode cX7_takesOpener 13 = .ok (.iconst 2, 1) := by decide +kernel
theorem dX7_takesOpener_14 : decode cX7_takesOpener 14 = .ok (.if_icmp .eq 5, 3) := by decide +kernel
theorem dX7_takesOpener_17 : decode cX7_takesOpener 17 = .ok (.iconst 0, 1) := by decide +kernel
theorem dX7_takesOpener_18 : decode cX7_takesOpener 18 = .ok (.ireturn, 1) := by decide +kernel
theorem dX7_takesOpener_19 : decode cX7_takesOpener 19 = .ok (.aload_n 0, 1) := by decide +kernel
theorem dX7_takesOpener_20 : decode cX7_takesOpener 20 = .ok (.getfield 41, 3) := by decide +kernel
theorem dX7_takesOpener_23 : decode cX7_takesOpener 23 = .ok (.iload_n 1, 1) := by decide +kernel
theorem dX7_takesOpener_24 : decode cX7_takesOpener 24 = .ok (.aload_n 0, 1) := by decide +kernel
theorem dX7_takesOpener_25 : decode cX7_takesOpener 25 = .ok (.getfield 29, 3) := by decide +kernel
theorem dX7_takesOpener_28 : decode cX7_takesOpener 28 = .ok (.iload_n 2, 1) := by decide +kernel
theorem dX7_takesOpener_29 : decode cX7_takesOpener 29 = .ok (.iaload, 1) := by decide +kernel
theorem dX7_takesOpener_30 : decode cX7_takesOpener 30 = .ok (.iastore, 1) := by decide +kernel
theorem dX7_takesOpener_31 : decode cX7_takesOpener 31 = .ok (.aload_n 0, 1) := by decide +kernel
theorem dX7_takesOpener_32 : decode cX7_takesOpener 32 = .ok (.getfield 26, 3) := by decide +kernel
theorem dX7_takesOpener_35 : decode cX7_takesOpener 35 = .ok (.iload_n 2, 1) := by decide +kernel
theorem dX7_takesOpener_36 : decode cX7_takesOpener 36 = .ok (.iconst 3, 1) := by decide +kernel
theorem dX7_takesOpener_37 : decode cX7_takesOpener 37 = .ok (.iastore, 1) := by decide +kernel
theorem dX7_takesOpener_38 : decode cX7_takesOpener 38 = .ok (.aload_n 0, 1) := by decide +kernel
theorem dX7_takesOpener_39 : decode cX7_takesOpener 39 = .ok (.iconst 0, 1) := by decide +kernel
theorem dX7_takesOpener_40 : decode cX7_takesOpener 40 = .ok (.iconst 0, 1) := by decide +kernel
theorem dX7_takesOpener_41 : decode cX7_takesOpener 41 = .ok (.iload_n 1, 1) := by decide +kernel
theorem dX7_takesOpener_42 : decode cX7_takesOpener 42 = .ok (.invokevirtual 98, 3) := by decide +kernel
theorem dX7_takesOpener_45 : decode cX7_takesOpener 45 = .ok (.iconst 1, 1) := by decide +kernel
theorem dX7_takesOpener_46 : decode cX7_takesOpener 46 = .ok (.ireturn, 1) := by decide +kernel
theorem dX7_takes_0 : decode cX7_takes 0 = .ok (.aload_n 0, 1) := by decide +kernel
theorem dX7_takes_1 : decode cX7_takes 1 = .ok (.getfield 38, 3) := by decide +kernel
theorem dX7_takes_4 : decode cX7_takes 4 = .ok (.iload_n 1, 1) := by decide +kernel
theorem dX7_takes_5 : decode cX7_takes 5 = .ok (.iconst 1, 1) := by decide +kernel
theorem dX7_takes_6 : decode cX7_takes 6 = .ok (.iastore, 1) := by decide +kernel
theorem dX7_takes_7 : decode cX7_takes 7 = .ok (.aload_n 0, 1) := by decide +kernel
theorem dX7_takes_8 : decode cX7_takes 8 = .ok (.iload_n 1, 1) := by decide +kernel
theorem dX7_takes_9 : decode cX7_takes 9 = .ok (.invokevirtual 86, 3) := by decide +kernel
theorem dX7_takes_12 : decode cX7_takes 12 = .ok (.tableswitch 68 0 6 #[44, 50, 56, 68, 68, 68, 62], 44) := by decide +kernel
theorem dX7_takes_56 : decode cX7_takes 56 = .ok (.aload_n 0, 1) := by decide +kernel
theorem dX7_takes_57 : decode cX7_takes 57 = .ok (.iload_n 1, 1) := by decide +kernel
theorem dX7_takes_58 : decode cX7_takes 58 = .ok (.invokevirtual 105, 3) := by decide +kernel
theorem dX7_takes_61 : decode cX7_takes 61 = .ok (.ireturn, 1) := by decide +kernel
theorem dX7_takes_62 : decode cX7_takes 62 = .ok (.aload_n 0, 1) := by decide +kernel
theorem dX7_takes_63 : decode cX7_takes 63 = .ok (.iload_n 1, 1) := by decide +kernel
theorem dX7_takes_64 : decode cX7_takes 64 = .ok (.invokevirtual 108, 3) := by decide +kernel
theorem dX7_takes_67 : decode cX7_takes 67 = .ok (.ireturn, 1) := by decide +kernel
theorem dX7_takes_68 : decode cX7_takes 68 = .ok (.aload_n 0, 1) := by decide +kernel
theorem dX7_takes_69 : decode cX7_takes 69 = .ok (.iload_n 1, 1) := by decide +kernel
theorem dX7_takes_70 : decode cX7_takes 70 = .ok (.invokevirtual 111, 3) := by decide +kernel
theorem dX7_takes_73 : decode cX7_takes 73 = .ok (.ireturn, 1) := by decide +kernel
theorem dX7_takes_74 : decode cX7_takes 74 = .ok (.aload_n 0, 1) := by decide +kernel
theorem dX7_takes_75 : decode cX7_takes 75 = .ok (.iload_n 1, 1) := by decide +kernel
theorem dX7_takes_76 : decode cX7_takes 76 = .ok (.invokevirtual 114, 3) := by decide +kernel
theorem dX7_takes_79 : decode cX7_takes 79 = .ok (.ireturn, 1) := by decide +kernel
theorem dX7_takes_80 : decode cX7_takes 80 = .ok (.aload_n 0, 1) := by decide +kernel
theorem dX7_takes_81 : decode cX7_takes 81 = .ok (.iload_n 1, 1) := by decide +kernel
theorem dX7_takes_82 : decode cX7_takes 82 = .ok (.invokevirtual 117, 3) := by decide +kernel
theorem dX7_takes_85 : decode cX7_takes 85 = .ok (.ireturn, 1) := by decide +kernel
theorem dX7_reads_0 : decode cX7_reads 0 = .ok (.aload_n 0, 1) := by decide +kernel
theorem dX7_reads_1 : decode cX7_reads 1 = .ok (.iconst 0, 1) := by decide +kernel
theorem dX7_reads_2 : decode cX7_reads 2 = .ok (.putfield 79, 3) := by decide +kernel
theorem dX7_reads_5 : decode cX7_reads 5 = .ok (.aload_n 0, 1) := by decide +kernel
theorem dX7_reads_6 : decode cX7_reads 6 = .ok (.iconst 0, 1) := by decide +kernel
theorem dX7_reads_7 : decode cX7_reads 7 = .ok (.iconst 0, 1) := by decide +kernel
theorem dX7_reads_8 : decode cX7_reads 8 = .ok (.iconst (-1), 1) := by decide +kernel
theorem dX7_reads_9 : decode cX7_reads 9 = .ok (.invokevirtual 98, 3) := by decide +kernel
theorem dX7_reads_12 : decode cX7_reads 12 = .ok (.iconst 0, 1) := by decide +kernel
theorem dX7_reads_13 : decode cX7_reads 13 = .ok (.istore_n 1, 1) := by decide +kernel
theorem dX7_reads_14 : decode cX7_reads 14 = .ok (.iload_n 1, 1) := by decide +kernel
theorem dX7_reads_15 : decode cX7_reads 15 = .ok (.aload_n 0, 1) := by decide +kernel
theorem dX7_reads_16 : decode cX7_reads 16 = .ok (.getfield 7, 3) := by decide +kernel
theorem dX7_reads_19 : decode cX7_reads 19 = .ok (.iconst 0, 1) := by decide +kernel
theorem dX7_reads_20 : decode cX7_reads 20 = .ok (.iaload, 1) := by decide +kernel
theorem dX7_reads_21 : decode cX7_reads 21 = .ok (.if_icmp .ge 17, 3) := by decide +kernel
theorem dX7_reads_24 : decode cX7_reads 24 = .ok (.aload_n 0, 1) := by decide +kernel
theorem dX7_reads_25 : decode cX7_reads 25 = .ok (.iload_n 1, 1) := by decide +kernel
theorem dX7_reads_26 : decode cX7_reads 26 = .ok (.invokevirtual 120, 3) := by decide +kernel
theorem dX7_reads_29 : decode cX7_reads 29 = .ok (.ifCond .eq 9, 3) := by decide +kernel
theorem dX7_reads_32 : decode cX7_reads 32 = .ok (.iinc 1 1, 3) := by decide +kernel
theorem dX7_reads_35 : decode cX7_reads 35 = .ok (.goto (-21), 3) := by decide +kernel
theorem dX7_reads_38 : decode cX7_reads 38 = .ok (.iload_n 1, 1) := by decide +kernel
theorem dX7_reads_39 : decode cX7_reads 39 = .ok (.ireturn, 1) := by decide +kernel
theorem dX7_isWhole_0 : decode cX7_isWhole 0 = .ok (.aload_n 0, 1) := by decide +kernel
theorem dX7_isWhole_1 : decode cX7_isWhole 1 = .ok (.getfield 7, 3) := by decide +kernel
theorem dX7_isWhole_4 : decode cX7_isWhole 4 = .ok (.iconst 0, 1) := by decide +kernel
theorem dX7_isWhole_5 : decode cX7_isWhole 5 = .ok (.iaload, 1) := by decide +kernel
theorem dX7_isWhole_6 : decode cX7_isWhole 6 = .ok (.ifCond .le 7, 3) := by decide +kernel
theorem dX7_isWhole_9 : decode cX7_isWhole 9 = .ok (.iconst 1, 1) := by decide +kernel
theorem dX7_isWhole_10 : decode cX7_isWhole 10 = .ok (.goto 4, 3) := by decide +kernel
theorem dX7_isWhole_13 : decode cX7_isWhole 13 = .ok (.iconst 0, 1) := by decide +kernel
theorem dX7_isWhole_14 : decode cX7_isWhole 14 = .ok (.istore_n 1, 1) := by decide +kernel
theorem dX7_isWhole_15 : decode cX7_isWhole 15 = .ok (.iconst 0, 1) := by decide +kernel
theorem dX7_isWhole_16 : decode cX7_isWhole 16 = .ok (.istore_n 2, 1) := by decide +kernel
theorem dX7_isWhole_17 : decode cX7_isWhole 17 = .ok (.iload_n 2, 1) := by decide +kernel
theorem dX7_isWhole_18 : decode cX7_isWhole 18 = .ok (.aload_n 0, 1) := by decide +kernel
theorem dX7_isWhole_19 : decode cX7_isWhole 19 = .ok (.getfield 79, 3) := by decide +kernel
theorem dX7_isWhole_22 : decode cX7_isWhole 22 = .ok (.if_icmp .ge 27, 3) := by decide +kernel
theorem dX7_isWhole_25 : decode cX7_isWhole 25 = .ok (.iload_n 1, 1) := by decide +kernel
theorem dX7_isWhole_26 : decode cX7_isWhole 26 = .ok (.ifCond .eq 15, 3) := by decide +kernel
theorem dX7_isWhole_29 : decode cX7_isWhole 29 = .ok (.aload_n 0, 1) := by decide +kernel
theorem dX7_isWhole_30 : decode cX7_isWhole 30 = .ok (.iload_n 2, 1) := by decide +kernel
theorem dX7_isWhole_31 : decode cX7_isWhole 31 = .ok (.invokevirtual 82, 3) := by decide +kernel
theorem dX7_isWhole_34 : decode cX7_isWhole 34 = .ok (.ifCond .eq 7, 3) := by decide +kernel
theorem dX7_isWhole_37 : decode cX7_isWhole 37 = .ok (.iconst 1, 1) := by decide +kernel
theorem dX7_isWhole_38 : decode cX7_isWhole 38 = .ok (.goto 4, 3) := by decide +kernel
theorem dX7_isWhole_41 : decode cX7_isWhole 41 = .ok (.iconst 0, 1) := by decide +kernel
theorem dX7_isWhole_42 : decode cX7_isWhole 42 = .ok (.istore_n 1, 1) := by decide +kernel
theorem dX7_isWhole_43 : decode cX7_isWhole 43 = .ok (.iinc 2 1, 3) := by decide +kernel
theorem dX7_isWhole_46 : decode cX7_isWhole 46 = .ok (.goto (-29), 3) := by decide +kernel
theorem dX7_isWhole_49 : decode cX7_isWhole 49 = .ok (.iload_n 1, 1) := by decide +kernel
theorem dX7_isWhole_50 : decode cX7_isWhole 50 = .ok (.ireturn, 1) := by decide +kernel
theorem dX7_isAhead_0 : decode cX7_isAhead 0 = .ok (.iconst 0, 1) := by decide +kernel
theorem dX7_isAhead_1 : decode cX7_isAhead 1 = .ok (.istore_n 2, 1) := by decide +kernel
theorem dX7_isAhead_2 : decode cX7_isAhead 2 = .ok (.iload_n 2, 1) := by decide +kernel
theorem dX7_isAhead_3 : decode cX7_isAhead 3 = .ok (.aload_n 0, 1) := by decide +kernel
theorem dX7_isAhead_4 : decode cX7_isAhead 4 = .ok (.getfield 7, 3) := by decide +kernel
theorem dX7_isAhead_7 : decode cX7_isAhead 7 = .ok (.iconst 0, 1) := by decide +kernel
theorem dX7_isAhead_8 : decode cX7_isAhead 8 = .ok (.iaload, 1) := by decide +kernel
theorem dX7_isAhead_9 : decode cX7_isAhead 9 = .ok (.if_icmp .ge 47, 3) := by decide +kernel
theorem dX7_isAhead_12 : decode cX7_isAhead 12 = .ok (.aload_n 0, 1) := by decide +kernel
theorem dX7_isAhead_13 : decode cX7_isAhead 13 = .ok (.getfield 44, 3) := by decide +kernel
theorem dX7_isAhead_16 : decode cX7_isAhead 16 = .ok (.bipush 12, 2) := by decide +kernel
theorem dX7_isAhead_18 : decode cX7_isAhead 18 = .ok (.iload_n 1, 1) := by decide +kernel
theorem dX7_isAhead_19 : decode cX7_isAhead 19 = .ok (.imul, 1) := by decide +kernel
theorem dX7_isAhead_20 : decode cX7_isAhead 20 = .ok (.iload_n 2, 1) := by decide +kernel
theorem dX7_isAhead_21 : decode cX7_isAhead 21 = .ok (.iadd, 1) := by decide +kernel
theorem dX7_isAhead_22 : decode cX7_isAhead 22 = .ok (.iaload, 1) := by decide +kernel
theorem dX7_isAhead_23 : decode cX7_isAhead 23 = .ok (.istore_n 3, 1) := by decide +kernel
theorem dX7_isAhead_24 : decode cX7_isAhead 24 = .ok (.aload_n 0, 1) := by decide +kernel
theorem dX7_isAhead_25 : decode cX7_isAhead 25 = .ok (.getfield 41, 3) := by decide +kernel
theorem dX7_isAhead_28 : decode cX7_isAhead 28 = .ok (.iload_n 2, 1) := by decide +kernel
theorem dX7_isAhead_29 : decode cX7_isAhead 29 = .ok (.iaload, 1) := by decide +kernel
theorem dX7_isAhead_30 : decode cX7_isAhead 30 = .ok (.iload_n 3, 1) := by decide +kernel
theorem dX7_isAhead_31 : decode cX7_isAhead 31 = .ok (.if_icmp .eq 19, 3) := by decide +kernel
theorem dX7_isAhead_34 : decode cX7_isAhead 34 = .ok (.aload_n 0, 1) := by decide +kernel
theorem dX7_isAhead_35 : decode cX7_isAhead 35 = .ok (.getfield 41, 3) := by decide +kernel
theorem dX7_isAhead_38 : decode cX7_isAhead 38 = .ok (.iload_n 2, 1) := by decide +kernel
theorem dX7_isAhead_39 : decode cX7_isAhead 39 = .ok (.iaload, 1) := by decide +kernel
theorem dX7_isAhead_40 : decode cX7_isAhead 40 = .ok (.iload_n 3, 1) := by decide +kernel
theorem dX7_isAhead_41 : decode cX7_isAhead 41 = .ok (.if_icmp .ge 7, 3) := by decide +kernel
theorem dX7_isAhead_44 : decode cX7_isAhead 44 = .ok (.iconst 1, 1) := by decide +kernel
theorem dX7_isAhead_45 : decode cX7_isAhead 45 = .ok (.goto 4, 3) := by decide +kernel
theorem dX7_isAhead_48 : decode cX7_isAhead 48 = .ok (.iconst 0, 1) := by decide +kernel
theorem dX7_isAhead_49 : decode cX7_isAhead 49 = .ok (.ireturn, 1) := by decide +kernel
theorem dX7_isAhead_50 : decode cX7_isAhead 50 = .ok (.iinc 2 1, 3) := by decide +kernel
theorem dX7_isAhead_53 : decode cX7_isAhead 53 = .ok (.goto (-51), 3) := by decide +kernel
theorem dX7_isAhead_56 : decode cX7_isAhead 56 = .ok (.iconst 0, 1) := by decide +kernel
theorem dX7_isAhead_57 : decode cX7_isAhead 57 = .ok (.ireturn, 1) := by decide +kernel
theorem dX7_laysReading_0 : decode cX7_laysReading 0 = .ok (.aload_n 0, 1) := by decide +kernel
theorem dX7_laysReading_1 : decode cX7_laysReading 1 = .ok (.getfield 123, 3) := by decide +kernel
theorem dX7_laysReading_4 : decode cX7_laysReading 4 = .ok (.sipush 400, 3) := by decide +kernel
theorem dX7_laysReading_7 : decode cX7_laysReading 7 = .ok (.if_icmp .ge 10, 3) := by decide +kernel
theorem dX7_laysReading_10 : decode cX7_laysReading 10 = .ok (.aload_n 0, 1) := by decide +kernel
theorem dX7_laysReading_11 : decode cX7_laysReading 11 = .ok (.getfield 123, 3) := by decide +kernel
theorem dX7_laysReading_14 : decode cX7_laysReading 14 = .ok (.goto 6, 3) := by decide +kernel
theorem dX7_laysReading_17 : decode cX7_laysReading 17 = .ok (.sipush 399, 3) := by decide +kernel
theorem dX7_laysReading_20 : decode cX7_laysReading 20 = .ok (.istore_n 1, 1) := by decide +kernel
theorem dX7_laysReading_21 : decode cX7_laysReading 21 = .ok (.iload_n 1, 1) := by decide +kernel
theorem dX7_laysReading_22 : decode cX7_laysReading 22 = .ok (.ifCond .le 57, 3) := by decide +kernel
theorem dX7_laysReading_25 : decode cX7_laysReading 25 = .ok (.aload_n 0, 1) := by decide +kernel
theorem dX7_laysReading_26 : decode cX7_laysReading 26 = .ok (.iload_n 1, 1) := by decide +kernel
theorem dX7_laysReading_27 : decode cX7_laysReading 27 = .ok (.iconst 1, 1) := by decide +kernel
theorem dX7_laysReading_28 : decode cX7_laysReading 28 = .ok (.isub, 1) := by decide +kernel
theorem dX7_laysReading_29 : decode cX7_laysReading 29 = .ok (.invokevirtual 126, 3) := by decide +kernel
theorem dX7_laysReading_32 : decode cX7_laysReading 32 = .ok (.ifCond .eq 47, 3) := by decide +kernel
theorem dX7_laysReading_35 : decode cX7_laysReading 35 = .ok (.iconst 0, 1) := by decide +kernel
theorem dX7_laysReading_36 : decode cX7_laysReading 36 = .ok (.istore_n 2, 1) := by decide +kernel
theorem dX7_laysReading_37 : decode cX7_laysReading 37 = .ok (.iload_n 2, 1) := by decide +kernel
theorem dX7_laysReading_38 : decode cX7_laysReading 38 = .ok (.bipush 12, 2) := by decide +kernel
theorem dX7_laysReading_40 : decode cX7_laysReading 40 = .ok (.if_icmp .ge 33, 3) := by decide +kernel
theorem dX7_laysReading_43 : decode cX7_laysReading 43 = .ok (.aload_n 0, 1) := by decide +kernel
theorem dX7_laysReading_44 : decode cX7_laysReading 44 = .ok (.getfield 44, 3) := by decide +kernel
theorem dX7_laysReading_47 : decode cX7_laysReading 47 = .ok (.bipush 12, 2) := by decide +kernel
theorem dX7_laysReading_49 : decode cX7_laysReading 49 = .ok (.iload_n 1, 1) := by decide +kernel
theorem dX7_laysReading_50 : decode cX7_laysReading 50 = .ok (.imul, 1) := by decide +kernel
theorem dX7_laysReading_51 : decode cX7_laysReading 51 = .ok (.iload_n 2, 1) := by decide +kernel
theorem dX7_laysReading_52 : decode cX7_laysReading 52 = .ok (.iadd, 1) := by decide +kernel
theorem dX7_laysReading_53 : decode cX7_laysReading 53 = .ok (.aload_n 0, 1) := by decide +kernel
theorem dX7_laysReading_54 : decode cX7_laysReading 54 = .ok (.getfield 44, 3) := by decide +kernel
theorem dX7_laysReading_57 : decode cX7_laysReading 57 = .ok (.bipush 12, 2) := by decide +kernel
theorem dX7_laysReading_59 : decode cX7_laysReading 59 = .ok (.iload_n 1, 1) := by decide +kernel
theorem dX7_laysReading_60 : decode cX7_laysReading 60 = .ok (.iconst 1, 1) := by decide +kernel
theorem dX7_laysReading_61 : decode cX7_laysReading 61 = .ok (.isub, 1) := by decide +kernel
theorem dX7_laysReading_62 : decode cX7_laysReading 62 = .ok (.imul, 1) := by decide +kernel
theorem dX7_laysReading_63 : decode cX7_laysReading 63 = .ok (.iload_n 2, 1) := by decide +kernel
theorem dX7_laysReading_64 : decode cX7_laysReading 64 = .ok (.iadd, 1) := by decide +kernel
theorem dX7_laysReading_65 : decode cX7_laysReading 65 = .ok (.iaload, 1) := by decide +kernel
theorem dX7_laysReading_66 : decode cX7_laysReading 66 = .ok (.iastore, 1) := by decide +kernel
theorem dX7_laysReading_67 : decode cX7_laysReading 67 = .ok (.iinc 2 1, 3) := by decide +kernel
theorem dX7_laysReading_70 : decode cX7_laysReading 70 = .ok (.goto (-33), 3) := by decide +kernel
theorem dX7_laysReading_73 : decode cX7_laysReading 73 = .ok (.iinc 1 (-1), 3) := by decide +kernel
theorem dX7_laysReading_76 : decode cX7_laysReading 76 = .ok (.goto (-55), 3) := by decide +kernel
theorem dX7_laysReading_79 : decode cX7_laysReading 79 = .ok (.iconst 0, 1) := by decide +kernel
theorem dX7_laysReading_80 : decode cX7_laysReading 80 = .ok (.istore_n 2, 1) := by decide +kernel
theorem dX7_laysReading_81 : decode cX7_laysReading 81 = .ok (.iload_n 2, 1) := by decide +kernel
theorem dX7_laysReading_82 : decode cX7_laysReading 82 = .ok (.bipush 12, 2) := by decide +kernel
theorem dX7_laysReading_84 : decode cX7_laysReading 84 = .ok (.if_icmp .ge 40, 3) := by decide +kernel
theorem dX7_laysReading_87 : decode cX7_laysReading 87 = .ok (.aload_n 0, 1) := by decide +kernel
theorem dX7_laysReading_88 : decode cX7_laysReading 88 = .ok (.getfield 44, 3) := by decide +kernel
theorem dX7_laysReading_91 : decode cX7_laysReading 91 = .ok (.bipush 12, 2) := by decide +kernel
theorem dX7_laysReading_93 : decode cX7_laysReading 93 = .ok (.iload_n 1, 1) := by decide +kernel
theorem dX7_laysReading_94 : decode cX7_laysReading 94 = .ok (.imul, 1) := by decide +kernel
theorem dX7_laysReading_95 : decode cX7_laysReading 95 = .ok (.iload_n 2, 1) := by decide +kernel
theorem dX7_laysReading_96 : decode cX7_laysReading 96 = .ok (.iadd, 1) := by decide +kernel
theorem dX7_laysReading_97 : decode cX7_laysReading 97 = .ok (.iload_n 2, 1) := by decide +kernel
theorem dX7_laysReading_98 : decode cX7_laysReading 98 = .ok (.aload_n 0, 1) := by decide +kernel
theorem dX7_laysReading_99 : decode cX7_laysReading 99 = .ok (.getfield 7, 3) := by decide +kernel
theorem dX7_laysReading_102 : decode cX7_laysReading 102 = .ok (.iconst 0, 1) := by decide +kernel
theorem dX7_laysReading_103 : decode cX7_laysReading 103 = .ok (.iaload, 1) := by decide +kernel
theorem dX7_laysReading_104 : decode cX7_laysReading 104 = .ok (.if_icmp .ge 12, 3) := by decide +kernel
theorem dX7_laysReading_107 : decode cX7_laysReading 107 = .ok (.aload_n 0, 1) := by decide +kernel
theorem dX7_laysReading_108 : decode cX7_laysReading 108 = .ok (.getfield 41, 3) := by decide +kernel
theorem dX7_laysReading_111 : decode cX7_laysReading 111 = .ok (.iload_n 2, 1) := by decide +kernel
theorem dX7_laysReading_112 : decode cX7_laysReading 112 = .ok (.iaload, 1) := by decide +kernel
theorem dX7_laysReading_113 : decode cX7_laysReading 113 = .ok (.goto 4, 3) := by decide +kernel
theorem dX7_laysReading_116 : decode cX7_laysReading 116 = .ok (.iconst 0, 1) := by decide +kernel
theorem dX7_laysReading_117 : decode cX7_laysReading 117 = .ok (.iastore, 1) := by decide +kernel
theorem dX7_laysReading_118 : decode cX7_laysReading 118 = .ok (.iinc 2 1, 3) := by decide +kernel
theorem dX7_laysReading_121 : decode cX7_laysReading 121 = .ok (.goto (-40), 3) := by decide +kernel
theorem dX7_laysReading_124 : decode cX7_laysReading 124 = .ok (.aload_n 0, 1) := by decide +kernel
theorem dX7_laysReading_125 : decode cX7_laysReading 125 = .ok (.dup, 1) := by decide +kernel
theorem dX7_laysReading_126 : decode cX7_laysReading 126 = .ok (.getfield 123, 3) := by decide +kernel
theorem dX7_laysReading_129 : decode cX7_laysReading 129 = .ok (.aload_n 0, 1) := by decide +kernel
theorem dX7_laysReading_130 : decode cX7_laysReading 130 = .ok (.getfield 123, 3) := by decide +kernel
theorem dX7_laysReading_133 : decode cX7_laysReading 133 = .ok (.sipush 400, 3) := by decide +kernel
theorem dX7_laysReading_136 : decode cX7_laysReading 136 = .ok (.if_icmp .ge 7, 3) := by decide +kernel
theorem dX7_laysReading_139 : decode cX7_laysReading 139 = .ok (.iconst 1, 1) := by decide +kernel
theorem dX7_laysReading_140 : decode cX7_laysReading 140 = .ok (.goto 4, 3) := by decide +kernel
theorem dX7_laysReading_143 : decode cX7_laysReading 143 = .ok (.iconst 0, 1) := by decide +kernel
theorem dX7_laysReading_144 : decode cX7_laysReading 144 = .ok (.iadd, 1) := by decide +kernel
theorem dX7_laysReading_145 : decode cX7_laysReading 145 = .ok (.putfield 123, 3) := by decide +kernel
theorem dX7_laysReading_148 : decode cX7_laysReading 148 = .ok (.return_, 1) := by decide +kernel
theorem dX7_choosesNext_0 : decode cX7_choosesNext 0 = .ok (.iload_n 1, 1) := by decide +kernel
theorem dX7_choosesNext_1 : decode cX7_choosesNext 1 = .ok (.aload_n 0, 1) := by decide +kernel
theorem dX7_choosesNext_2 : decode cX7_choosesNext 2 = .ok (.getfield 7, 3) := by decide +kernel
theorem dX7_choosesNext_5 : decode cX7_choosesNext 5 = .ok (.iconst 0, 1) := by decide +kernel
theorem dX7_choosesNext_6 : decode cX7_choosesNext 6 = .ok (.iaload, 1) := by decide +kernel
theorem dX7_choosesNext_7 : decode cX7_choosesNext 7 = .ok (.if_icmp .ge 9, 3) := by decide +kernel
theorem dX7_choosesNext_10 : decode cX7_choosesNext 10 = .ok (.iload_n 1, 1) := by decide +kernel
theorem dX7_choosesNext_11 : decode cX7_choosesNext 11 = .ok (.iconst 1, 1) := by decide +kernel
theorem dX7_choosesNext_12 : decode cX7_choosesNext 12 = .ok (.isub, 1) := by decide +kernel
theorem dX7_choosesNext_13 : decode cX7_choosesNext 13 = .ok (.goto 11, 3) := by decide +kernel
theorem dX7_choosesNext_16 : decode cX7_choosesNext 16 = .ok (.aload_n 0, 1) := by decide +kernel
theorem dX7_choosesNext_17 : decode cX7_choosesNext 17 = .ok (.getfield 7, 3) := by decide +kernel
theorem dX7_choosesNext_20 : decode cX7_choosesNext 20 = .ok (.iconst 0, 1) := by decide +kernel
theorem dX7_choosesNext_21 : decode cX7_choosesNext 21 = .ok (.iaload, 1) := by decide +kernel
theorem dX7_choosesNext_22 : decode cX7_choosesNext 22 = .ok (.iconst 1, 1) := by decide +kernel
theorem dX7_choosesNext_23 : decode cX7_choosesNext 23 = .ok (.isub, 1) := by decide +kernel
theorem dX7_choosesNext_24 : decode cX7_choosesNext 24 = .ok (.istore_n 2, 1) := by decide +kernel
theorem dX7_choosesNext_25 : decode cX7_choosesNext 25 = .ok (.iload_n 2, 1) := by decide +kernel
theorem dX7_choosesNext_26 : decode cX7_choosesNext 26 = .ok (.ifCond .lt 26, 3) := by decide +kernel
theorem dX7_choosesNext_29 : decode cX7_choosesNext 29 = .ok (.aload_n 0, 1) := by decide +kernel
theorem dX7_choosesNext_30 : decode cX7_choosesNext 30 = .ok (.getfield 35, 3) := by decide +kernel
theorem dX7_choosesNext_33 : decode cX7_choosesNext 33 = .ok (.iload_n 2, 1) := by decide +kernel
theorem dX7_choosesNext_34 : decode cX7_choosesNext 34 = .ok (.iaload, 1) := by decide +kernel
theorem dX7_choosesNext_35 : decode cX7_choosesNext 35 = .ok (.iconst 1, 1) := by decide +kernel
theorem dX7_choosesNext_36 : decode cX7_choosesNext 36 = .ok (.iadd, 1) := by decide +kernel
theorem dX7_choosesNext_37 : decode cX7_choosesNext 37 = .ok (.aload_n 0, 1) := by decide +kernel
theorem dX7_choosesNext_38 : decode cX7_choosesNext 38 = .ok (.getfield 38, 3) := by decide +kernel
theorem dX7_choosesNext_41 : decode cX7_choosesNext 41 = .ok (.iload_n 2, 1) := by decide +kernel
theorem dX7_choosesNext_42 : decode cX7_choosesNext 42 = .ok (.iaload, 1) := by decide +kernel
theorem dX7_choosesNext_43 : decode cX7_choosesNext 43 = .ok (.if_icmp .lt 9, 3) := by decide +kernel
theorem dX7_choosesNext_46 : decode cX7_choosesNext 46 = .ok (.iinc 2 (-1), 3) := by decide +kernel
theorem dX7_choosesNext_49 : decode cX7_choosesNext 49 = .ok (.goto (-24), 3) := by decide +kernel
theorem dX7_choosesNext_52 : decode cX7_choosesNext 52 = .ok (.iload_n 2, 1) := by decide +kernel
theorem dX7_choosesNext_53 : decode cX7_choosesNext 53 = .ok (.ifCond .ge 5, 3) := by decide +kernel
theorem dX7_choosesNext_56 : decode cX7_choosesNext 56 = .ok (.iconst 0, 1) := by decide +kernel
theorem dX7_choosesNext_57 : decode cX7_choosesNext 57 = .ok (.ireturn, 1) := by decide +kernel
theorem dX7_choosesNext_58 : decode cX7_choosesNext 58 = .ok (.aload_n 0, 1) := by decide +kernel
theorem dX7_choosesNext_59 : decode cX7_choosesNext 59 = .ok (.getfield 35, 3) := by decide +kernel
theorem dX7_choosesNext_62 : decode cX7_choosesNext 62 = .ok (.iload_n 2, 1) := by decide +kernel
theorem dX7_choosesNext_63 : decode cX7_choosesNext 63 = .ok (.dup2, 1) := by decide +kernel
theorem dX7_choosesNext_64 : decode cX7_choosesNext 64 = .ok (.iaload, 1) := by decide +kernel
theorem dX7_choosesNext_65 : decode cX7_choosesNext 65 = .ok (.iconst 1, 1) := by decide +kernel
theorem dX7_choosesNext_66 : decode cX7_choosesNext 66 = .ok (.iadd, 1) := by decide +kernel
theorem dX7_choosesNext_67 : decode cX7_choosesNext 67 = .ok (.iastore, 1) := by decide +kernel
theorem dX7_choosesNext_68 : decode cX7_choosesNext 68 = .ok (.iload_n 2, 1) := by decide +kernel
theorem dX7_choosesNext_69 : decode cX7_choosesNext 69 = .ok (.iconst 1, 1) := by decide +kernel
theorem dX7_choosesNext_70 : decode cX7_choosesNext 70 = .ok (.iadd, 1) := by decide +kernel
theorem dX7_choosesNext_71 : decode cX7_choosesNext 71 = .ok (.istore_n 3, 1) := by decide +kernel
theorem dX7_choosesNext_72 : decode cX7_choosesNext 72 = .ok (.iload_n 3, 1) := by decide +kernel
theorem dX7_choosesNext_73 : decode cX7_choosesNext 73 = .ok (.bipush 12, 2) := by decide +kernel
theorem dX7_choosesNext_75 : decode cX7_choosesNext 75 = .ok (.if_icmp .ge 16, 3) := by decide +kernel
theorem dX7_choosesNext_78 : decode cX7_choosesNext 78 = .ok (.aload_n 0, 1) := by decide +kernel
theorem dX7_choosesNext_79 : decode cX7_choosesNext 79 = .ok (.getfield 35, 3) := by decide +kernel
theorem dX7_choosesNext_82 : decode cX7_choosesNext 82 = .ok (.iload_n 3, 1) := by decide +kernel
theorem dX7_choosesNext_83 : decode cX7_choosesNext 83 = .ok (.iconst 0, 1) := by decide +kernel
theorem dX7_choosesNext_84 : decode cX7_choosesNext 84 = .ok (.iastore, 1) := by decide +kernel
theorem dX7_choosesNext_85 : decode cX7_choosesNext 85 = .ok (.iinc 3 1, 3) := by decide +kernel
theorem dX7_choosesNext_88 : decode cX7_choosesNext 88 = .ok (.goto (-16), 3) := by decide +kernel
theorem dX7_choosesNext_91 : decode cX7_choosesNext 91 = .ok (.iconst 1, 1) := by decide +kernel
theorem dX7_choosesNext_92 : decode cX7_choosesNext 92 = .ok (.ireturn, 1) := by decide +kernel
theorem dX7_isLeft_0 : decode cX7_isLeft 0 = .ok (.iconst 1, 1) := by decide +kernel
theorem dX7_isLeft_1 : decode cX7_isLeft 1 = .ok (.istore_n 3, 1) := by decide +kernel
theorem dX7_isLeft_2 : decode cX7_isLeft 2 = .ok (.iconst 0, 1) := by decide +kernel
theorem dX7_isLeft_3 : decode cX7_isLeft 3 = .ok (.istore 4, 2) := by decide +kernel
theorem dX7_isLeft_5 : decode cX7_isLeft 5 = .ok (.iload 4, 2) := by decide +kernel
theorem dX7_isLeft_7 : decode cX7_isLeft 7 = .ok (.aload_n 0, 1) := by decide +kernel
theorem dX7_isLeft_8 : decode cX7_isLeft 8 = .ok (.getfield 7, 3) := by decide +kernel
theorem dX7_isLeft_11 : decode cX7_isLeft 11 = .ok (.iconst 0, 1) := by decide +kernel
theorem dX7_isLeft_12 : decode cX7_isLeft 12 = .ok (.iaload, 1) := by decide +kernel
theorem dX7_isLeft_13 : decode cX7_isLeft 13 = .ok (.if_icmp .ge 77, 3) := by decide +kernel
theorem dX7_isLeft_16 : decode cX7_isLeft 16 = .ok (.aload_n 0, 1) := by decide +kernel
theorem dX7_isLeft_17 : decode cX7_isLeft 17 = .ok (.getfield 7, 3) := by decide +kernel
theorem dX7_isLeft_20 : decode cX7_isLeft 20 = .ok (.bipush 14, 2) := by decide +kernel
theorem dX7_isLeft_22 : decode cX7_isLeft 22 = .ok (.iload 4, 2) := by decide +kernel
theorem dX7_isLeft_24 : decode cX7_isLeft 24 = .ok (.iadd, 1) := by decide +kernel
theorem dX7_isLeft_25 : decode cX7_isLeft 25 = .ok (.iaload, 1) := by decide +kernel
theorem dX7_isLeft_26 : decode cX7_isLeft 26 = .ok (.ifCond .le 13, 3) := by decide +kernel
theorem dX7_isLeft_29 : decode cX7_isLeft 29 = .ok (.iload 4, 2) := by decide +kernel
theorem dX7_isLeft_31 : decode cX7_isLeft 31 = .ok (.iload_n 2, 1) := by decide +kernel
theorem dX7_isLeft_32 : decode cX7_isLeft 32 = .ok (.if_icmp .eq 7, 3) := by decide +kernel
theorem dX7_isLeft_35 : decode cX7_isLeft 35 = .ok (.iconst 1, 1) := by decide +kernel
theorem dX7_isLeft_36 : decode cX7_isLeft 36 = .ok (.goto 4, 3) := by decide +kernel
theorem dX7_isLeft_39 : decode cX7_isLeft 39 = .ok (.iconst 0, 1) := by decide +kernel
theorem dX7_isLeft_40 : decode cX7_isLeft 40 = .ok (.istore 5, 2) := by decide +kernel
theorem dX7_isLeft_42 : decode cX7_isLeft 42 = .ok (.iload_n 3, 1) := by decide +kernel
theorem dX7_isLeft_43 : decode cX7_isLeft 43 = .ok (.ifCond .eq 39, 3) := by decide +kernel
theorem dX7_isLeft_46 : decode cX7_isLeft 46 = .ok (.iload 5, 2) := by decide +kernel
theorem dX7_isLeft_48 : decode cX7_isLeft 48 = .ok (.ifCond .eq 30, 3) := by decide +kernel
theorem dX7_isLeft_51 : decode cX7_isLeft 51 = .ok (.aload_n 0, 1) := by decide +kernel
theorem dX7_isLeft_52 : decode cX7_isLeft 52 = .ok (.getfield 44, 3) := by decide +kernel
theorem dX7_isLeft_55 : decode cX7_isLeft 55 = .ok (.bipush 12, 2) := by decide +kernel
theorem dX7_isLeft_57 : decode cX7_isLeft 57 = .ok (.iload_n 1, 1) := by decide +kernel
theorem dX7_isLeft_58 : decode cX7_isLeft 58 = .ok (.imul, 1) := by decide +kernel
theorem dX7_isLeft_59 : decode cX7_isLeft 59 = .ok (.iload 4, 2) := by decide +kernel
theorem dX7_isLeft_61 : decode cX7_isLeft 61 = .ok (.iadd, 1) := by decide +kernel
theorem dX7_isLeft_62 : decode cX7_isLeft 62 = .ok (.iaload, 1) := by decide +kernel
theorem dX7_isLeft_63 : decode cX7_isLeft 63 = .ok (.aload_n 0, 1) := by decide +kernel
theorem dX7_isLeft_64 : decode cX7_isLeft 64 = .ok (.getfield 7, 3) := by decide +kernel
theorem dX7_isLeft_67 : decode cX7_isLeft 67 = .ok (.bipush 14, 2) := by decide +kernel
theorem dX7_isLeft_69 : decode cX7_isLeft 69 = .ok (.iload 4, 2) := by decide +kernel
theorem dX7_isLeft_71 : decode cX7_isLeft 71 = .ok (.iadd, 1) := by decide +kernel
theorem dX7_isLeft_72 : decode cX7_isLeft 72 = .ok (.iaload, 1) := by decide +kernel
theorem dX7_isLeft_73 : decode cX7_isLeft 73 = .ok (.iconst 2, 1) := by decide +kernel
theorem dX7_isLeft_74 : decode cX7_isLeft 74 = .ok (.isub, 1) := by decide +kernel
theorem dX7_isLeft_75 : decode cX7_isLeft 75 = .ok (.if_icmp .ne 7, 3) := by decide +kernel
theorem dX7_isLeft_78 : decode cX7_isLeft 78 = .ok (.iconst 1, 1) := by decide +kernel
theorem dX7_isLeft_79 : decode cX7_isLeft 79 = .ok (.goto 4, 3) := by decide +kernel
theorem dX7_isLeft_82 : decode cX7_isLeft 82 = .ok (.iconst 0, 1) := by decide +kernel
theorem dX7_isLeft_83 : decode cX7_isLeft 83 = .ok (.istore_n 3, 1) := by decide +kernel
theorem dX7_isLeft_84 : decode cX7_isLeft 84 = .ok (.iinc 4 1, 3) := by decide +kernel
theorem dX7_isLeft_87 : decode cX7_isLeft 87 = .ok (.goto (-82), 3) := by decide +kernel
theorem dX7_isLeft_90 : decode cX7_isLeft 90 = .ok (.iload_n 3, 1) := by decide +kernel
theorem dX7_isLeft_91 : decode cX7_isLeft 91 = .ok (.ireturn, 1) := by decide +kernel
theorem dX7_laysAll_0 : decode cX7_laysAll 0 = .ok (.aload_n 0, 1) := by decide +kernel
theorem dX7_laysAll_1 : decode cX7_laysAll 1 = .ok (.iconst 0, 1) := by decide +kernel
theorem dX7_laysAll_2 : decode cX7_laysAll 2 = .ok (.putfield 123, 3) := by decide +kernel
theorem dX7_laysAll_5 : decode cX7_laysAll 5 = .ok (.iconst 0, 1) := by decide +kernel
theorem dX7_laysAll_6 : decode cX7_laysAll 6 = .ok (.istore_n 1, 1) := by decide +kernel
theorem dX7_laysAll_7 : decode cX7_laysAll 7 = .ok (.iload_n 1, 1) := by decide +kernel
theorem dX7_laysAll_8 : decode cX7_laysAll 8 = .ok (.bipush 12, 2) := by decide +kernel
theorem dX7_laysAll_10 : decode cX7_laysAll 10 = .ok (.if_icmp .ge 16, 3) := by decide +kernel
theorem dX7_laysAll_13 : decode cX7_laysAll 13 = .ok (.aload_n 0, 1) := by decide +kernel
theorem dX7_laysAll_14 : decode cX7_laysAll 14 = .ok (.getfield 35, 3) := by decide +kernel
theorem dX7_laysAll_17 : decode cX7_laysAll 17 = .ok (.iload_n 1, 1) := by decide +kernel
theorem dX7_laysAll_18 : decode cX7_laysAll 18 = .ok (.iconst 0, 1) := by decide +kernel
theorem dX7_laysAll_19 : decode cX7_laysAll 19 = .ok (.iastore, 1) := by decide +kernel
theorem dX7_laysAll_20 : decode cX7_laysAll 20 = .ok (.iinc 1 1, 3) := by decide +kernel
theorem dX7_laysAll_23 : decode cX7_laysAll 23 = .ok (.goto (-16), 3) := by decide +kernel
theorem dX7_laysAll_26 : decode cX7_laysAll 26 = .ok (.iconst 1, 1) := by decide +kernel
theorem dX7_laysAll_27 : decode cX7_laysAll 27 = .ok (.istore_n 1, 1) := by decide +kernel
theorem dX7_laysAll_28 : decode cX7_laysAll 28 = .ok (.iload_n 1, 1) := by decide +kernel
theorem dX7_laysAll_29 : decode cX7_laysAll 29 = .ok (.ifCond .eq 38, 3) := by decide +kernel
theorem dX7_laysAll_32 : decode cX7_laysAll 32 = .ok (.aload_n 0, 1) := by decide +kernel
theorem dX7_laysAll_33 : decode cX7_laysAll 33 = .ok (.invokevirtual 129, 3) := by decide +kernel
theorem dX7_laysAll_36 : decode cX7_laysAll 36 = .ok (.istore_n 2, 1) := by decide +kernel
theorem dX7_laysAll_37 : decode cX7_laysAll 37 = .ok (.iload_n 2, 1) := by decide +kernel
theorem dX7_laysAll_38 : decode cX7_laysAll 38 = .ok (.aload_n 0, 1) := by decide +kernel
theorem dX7_laysAll_39 : decode cX7_laysAll 39 = .ok (.getfield 7, 3) := by decide +kernel
theorem dX7_laysAll_42 : decode cX7_laysAll 42 = .ok (.iconst 0, 1) := by decide +kernel
theorem dX7_laysAll_43 : decode cX7_laysAll 43 = .ok (.iaload, 1) := by decide +kernel
theorem dX7_laysAll_44 : decode cX7_laysAll 44 = .ok (.if_icmp .ne 14, 3) := by decide +kernel
theorem dX7_laysAll_47 : decode cX7_laysAll 47 = .ok (.aload_n 0, 1) := by decide +kernel
theorem dX7_laysAll_48 : decode cX7_laysAll 48 = .ok (.invokevirtual 133, 3) := by decide +kernel
theorem dX7_laysAll_51 : decode cX7_laysAll 51 = .ok (.ifCond .eq 7, 3) := by decide +kernel
theorem dX7_laysAll_54 : decode cX7_laysAll 54 = .ok (.aload_n 0, 1) := by decide +kernel
theorem dX7_laysAll_55 : decode cX7_laysAll 55 = .ok (.invokevirtual 136, 3) := by decide +kernel
theorem dX7_laysAll_58 : decode cX7_laysAll 58 = .ok (.aload_n 0, 1) := by decide +kernel
theorem dX7_laysAll_59 : decode cX7_laysAll 59 = .ok (.iload_n 2, 1) := by decide +kernel
theorem dX7_laysAll_60 : decode cX7_laysAll 60 = .ok (.invokevirtual 139, 3) := by decide +kernel
theorem dX7_laysAll_63 : decode cX7_laysAll 63 = .ok (.istore_n 1, 1) := by decide +kernel
theorem dX7_laysAll_64 : decode cX7_laysAll 64 = .ok (.goto (-36), 3) := by decide +kernel
theorem dX7_laysAll_67 : decode cX7_laysAll 67 = .ok (.aload_n 0, 1) := by decide +kernel
theorem dX7_laysAll_68 : decode cX7_laysAll 68 = .ok (.iconst 0, 1) := by decide +kernel
theorem dX7_laysAll_69 : decode cX7_laysAll 69 = .ok (.putfield 142, 3) := by decide +kernel
theorem dX7_laysAll_72 : decode cX7_laysAll 72 = .ok (.iconst 0, 1) := by decide +kernel
theorem dX7_laysAll_73 : decode cX7_laysAll 73 = .ok (.istore_n 2, 1) := by decide +kernel
theorem dX7_laysAll_74 : decode cX7_laysAll 74 = .ok (.iload_n 2, 1) := by decide +kernel
theorem dX7_laysAll_75 : decode cX7_laysAll 75 = .ok (.aload_n 0, 1) := by decide +kernel
theorem dX7_laysAll_76 : decode cX7_laysAll 76 = .ok (.getfield 123, 3) := by decide +kernel
theorem dX7_laysAll_79 : decode cX7_laysAll 79 = .ok (.if_icmp .ge 38, 3) := by decide +kernel
theorem dX7_laysAll_82 : decode cX7_laysAll 82 = .ok (.aload_n 0, 1) := by decide +kernel
theorem dX7_laysAll_83 : decode cX7_laysAll 83 = .ok (.iload_n 2, 1) := by decide +kernel
theorem dX7_laysAll_84 : decode cX7_laysAll 84 = .ok (.iconst (-1), 1) := by decide +kernel
theorem dX7_laysAll_85 : decode cX7_laysAll 85 = .ok (.invokevirtual 145, 3) := by decide +kernel
theorem dX7_laysAll_88 : decode cX7_laysAll 88 = .ok (.ifCond .eq 23, 3) := by decide +kernel
theorem dX7_laysAll_91 : decode cX7_laysAll 91 = .ok (.aload_n 0, 1) := by decide +kernel
theorem dX7_laysAll_92 : decode cX7_laysAll 92 = .ok (.getfield 47, 3) := by decide +kernel
theorem dX7_laysAll_95 : decode cX7_laysAll 95 = .ok (.aload_n 0, 1) := by decide +kernel
theorem dX7_laysAll_96 : decode cX7_laysAll 96 = .ok (.getfield 142, 3) := by decide +kernel
theorem dX7_laysAll_99 : decode cX7_laysAll 99 = .ok (.iload_n 2, 1) := by decide +kernel
theorem dX7_laysAll_100 : decode cX7_laysAll 100 = .ok (.iastore, 1) := by decide +kernel
theorem dX7_laysAll_101 : decode cX7_laysAll 101 = .ok (.aload_n 0, 1) := by decide +kernel
theorem dX7_laysAll_102 : decode cX7_laysAll 102 = .ok (.dup, 1) := by decide +kernel
theorem dX7_laysAll_103 : decode cX7_laysAll 103 = .ok (.getfield 142, 3) := by decide +kernel
theorem dX7_laysAll_106 : decode cX7_laysAll 106 = .ok (.iconst 1, 1) := by decide +kernel
theorem dX7_laysAll_107 : decode cX7_laysAll 107 = .ok (.iadd, 1) := by decide +kernel
theorem dX7_laysAll_108 : decode cX7_laysAll 108 = .ok (.putfield 142, 3) := by decide +kernel
theorem dX7_laysAll_111 : decode cX7_laysAll 111 = .ok (.iinc 2 1, 3) := by decide +kernel
theorem dX7_laysAll_114 : decode cX7_laysAll 114 = .ok (.goto (-40), 3) := by decide +kernel
theorem dX7_laysAll_117 : decode cX7_laysAll 117 = .ok (.return_, 1) := by decide +kernel
theorem dX7_head_0 : decode cX7_head 0 = .ok (.aload_n 0, 1) := by decide +kernel
theorem dX7_head_1 : decode cX7_head 1 = .ok (.getfield 44, 3) := by decide +kernel
theorem dX7_head_4 : decode cX7_head 4 = .ok (.bipush 12, 2) := by decide +kernel
theorem dX7_head_6 : decode cX7_head 6 = .ok (.iload_n 1, 1) := by decide +kernel
theorem dX7_head_7 : decode cX7_head 7 = .ok (.imul, 1) := by decide +kernel
theorem dX7_head_8 : decode cX7_head 8 = .ok (.iload_n 2, 1) := by decide +kernel
theorem dX7_head_9 : decode cX7_head 9 = .ok (.iadd, 1) := by decide +kernel
theorem dX7_head_10 : decode cX7_head 10 = .ok (.iaload, 1) := by decide +kernel
theorem dX7_head_11 : decode cX7_head 11 = .ok (.ireturn, 1) := by decide +kernel
theorem dX7_heldBy_0 : decode cX7_heldBy 0 = .ok (.aload_n 0, 1) := by decide +kernel
theorem dX7_heldBy_1 : decode cX7_heldBy 1 = .ok (.iload_n 1, 1) := by decide +kernel
theorem dX7_heldBy_2 : decode cX7_heldBy 2 = .ok (.iload_n 2, 1) := by decide +kernel
theorem dX7_heldBy_3 : decode cX7_heldBy 3 = .ok (.invokevirtual 148, 3) := by decide +kernel
theorem dX7_heldBy_6 : decode cX7_heldBy 6 = .ok (.istore_n 3, 1) := by decide +kernel
theorem dX7_heldBy_7 : decode cX7_heldBy 7 = .ok (.iload_n 3, 1) := by decide +kernel
theorem dX7_heldBy_8 : decode cX7_heldBy 8 = .ok (.iconst (-1), 1) := by decide +kernel
theorem dX7_heldBy_9 : decode cX7_heldBy 9 = .ok (.if_icmp .ne 5, 3) := by decide +kernel
theorem dX7_heldBy_12 : decode cX7_heldBy 12 = .ok (.iconst 0, 1) := by decide +kernel
theorem dX7_heldBy_13 : decode cX7_heldBy 13 = .ok (.ireturn, 1) := by decide +kernel
theorem dX7_heldBy_14 : decode cX7_heldBy 14 = .ok (.aload_n 0, 1) := by decide +kernel
theorem dX7_heldBy_15 : decode cX7_heldBy 15 = .ok (.iload_n 2, 1) := by decide +kernel
theorem dX7_heldBy_16 : decode cX7_heldBy 16 = .ok (.invokevirtual 86, 3) := by decide +kernel
theorem dX7_heldBy_19 : decode cX7_heldBy 19 = .ok (.tableswitch 83 0 6 #[41, 79, 83, 83, 83, 81, 79], 41) := by decide +kernel
theorem dX7_heldBy_60 : decode cX7_heldBy 60 = .ok (.aload_n 0, 1) := by decide +kernel
theorem dX7_heldBy_61 : decode cX7_heldBy 61 = .ok (.iload_n 3, 1) := by decide +kernel
theorem dX7_heldBy_62 : decode cX7_heldBy 62 = .ok (.invokevirtual 86, 3) := by decide +kernel
theorem dX7_heldBy_65 : decode cX7_heldBy 65 = .ok (.iconst 5, 1) := by decide +kernel
theorem dX7_heldBy_66 : decode cX7_heldBy 66 = .ok (.if_icmp .ne 7, 3) := by decide +kernel
theorem dX7_heldBy_69 : decode cX7_heldBy 69 = .ok (.iconst 4, 1) := by decide +kernel
theorem dX7_heldBy_70 : decode cX7_heldBy 70 = .ok (.goto 27, 3) := by decide +kernel
theorem dX7_heldBy_73 : decode cX7_heldBy 73 = .ok (.aload_n 0, 1) := by decide +kernel
theorem dX7_heldBy_74 : decode cX7_heldBy 74 = .ok (.iload_n 3, 1) := by decide +kernel
theorem dX7_heldBy_75 : decode cX7_heldBy 75 = .ok (.invokevirtual 86, 3) := by decide +kernel
theorem dX7_heldBy_78 : decode cX7_heldBy 78 = .ok (.iconst 4, 1) := by decide +kernel
theorem dX7_heldBy_79 : decode cX7_heldBy 79 = .ok (.if_icmp .ne 8, 3) := by decide +kernel
theorem dX7_heldBy_82 : decode cX7_heldBy 82 = .ok (.bipush 6, 2) := by decide +kernel
theorem dX7_heldBy_84 : decode cX7_heldBy 84 = .ok (.goto 13, 3) := by decide +kernel
theorem dX7_heldBy_87 : decode cX7_heldBy 87 = .ok (.iload_n 2, 1) := by decide +kernel
theorem dX7_heldBy_88 : decode cX7_heldBy 88 = .ok (.iload_n 3, 1) := by decide +kernel
theorem dX7_heldBy_89 : decode cX7_heldBy 89 = .ok (.if_icmp .ge 7, 3) := by decide +kernel
theorem dX7_heldBy_92 : decode cX7_heldBy 92 = .ok (.iconst 1, 1) := by decide +kernel
theorem dX7_heldBy_93 : decode cX7_heldBy 93 = .ok (.goto 4, 3) := by decide +kernel
theorem dX7_heldBy_96 : decode cX7_heldBy 96 = .ok (.iconst 2, 1) := by decide +kernel
theorem dX7_heldBy_97 : decode cX7_heldBy 97 = .ok (.ireturn, 1) := by decide +kernel
theorem dX7_heldBy_98 : decode cX7_heldBy 98 = .ok (.iconst 5, 1) := by decide +kernel
theorem dX7_heldBy_99 : decode cX7_heldBy 99 = .ok (.ireturn, 1) := by decide +kernel
theorem dX7_heldBy_100 : decode cX7_heldBy 100 = .ok (.iconst 4, 1) := by decide +kernel
theorem dX7_heldBy_101 : decode cX7_heldBy 101 = .ok (.ireturn, 1) := by decide +kernel
theorem dX7_heldBy_102 : decode cX7_heldBy 102 = .ok (.iconst 3, 1) := by decide +kernel
theorem dX7_heldBy_103 : decode cX7_heldBy 103 = .ok (.ireturn, 1) := by decide +kernel
theorem dX7_step_0 : decode cX7_step 0 = .ok (.aload_n 0, 1) := by decide +kernel
theorem dX7_step_1 : decode cX7_step 1 = .ok (.iload_n 1, 1) := by decide +kernel
theorem dX7_step_2 : decode cX7_step 2 = .ok (.iload_n 2, 1) := by decide +kernel
theorem dX7_step_3 : decode cX7_step 3 = .ok (.invokevirtual 152, 3) := by decide +kernel
theorem dX7_step_6 : decode cX7_step 6 = .ok (.istore_n 3, 1) := by decide +kernel
theorem dX7_step_7 : decode cX7_step 7 = .ok (.iload_n 3, 1) := by decide +kernel
theorem dX7_step_8 : decode cX7_step 8 = .ok (.iconst 3, 1) := by decide +kernel
theorem dX7_step_9 : decode cX7_step 9 = .ok (.if_icmp .eq 9, 3) := by decide +kernel
theorem dX7_step_12 : decode cX7_step 12 = .ok (.iload_n 3, 1) := by decide +kernel
theorem dX7_step_13 : decode cX7_step 13 = .ok (.bipush 6, 2) := by decide +kernel
theorem dX7_step_15 : decode cX7_step 15 = .ok (.if_icmp .ne 7, 3) := by decide +kernel
theorem dX7_step_18 : decode cX7_step 18 = .ok (.iconst (-1), 1) := by decide +kernel
theorem dX7_step_19 : decode cX7_step 19 = .ok (.goto 18, 3) := by decide +kernel
theorem dX7_step_22 : decode cX7_step 22 = .ok (.aload_n 0, 1) := by decide +kernel
theorem dX7_step_23 : decode cX7_step 23 = .ok (.iload_n 2, 1) := by decide +kernel
theorem dX7_step_24 : decode cX7_step 24 = .ok (.invokevirtual 86, 3) := by decide +kernel
theorem dX7_step_27 : decode cX7_step 27 = .ok (.bipush 6, 2) := by decide +kernel
theorem dX7_step_29 : decode cX7_step 29 = .ok (.if_icmp .ne 7, 3) := by decide +kernel
theorem dX7_step_32 : decode cX7_step 32 = .ok (.iconst 1, 1) := by decide +kernel
theorem dX7_step_33 : decode cX7_step 33 = .ok (.goto 4, 3) := by decide +kernel
theorem dX7_step_36 : decode cX7_step 36 = .ok (.iconst 0, 1) := by decide +kernel
theorem dX7_step_37 : decode cX7_step 37 = .ok (.ireturn, 1) := by decide +kernel
theorem dX7_level_0 : decode cX7_level 0 = .ok (.iconst 0, 1) := by decide +kernel
theorem dX7_level_1 : decode cX7_level 1 = .ok (.istore_n 3, 1) := by decide +kernel
theorem dX7_level_2 : decode cX7_level 2 = .ok (.iload_n 2, 1) := by decide +kernel
theorem dX7_level_3 : decode cX7_level 3 = .ok (.istore 4, 2) := by decide +kernel
theorem dX7_level_5 : decode cX7_level 5 = .ok (.aload_n 0, 1) := by decide +kernel
theorem dX7_level_6 : decode cX7_level 6 = .ok (.iload_n 1, 1) := by decide +kernel
theorem dX7_level_7 : decode cX7_level 7 = .ok (.iload 4, 2) := by decide +kernel
theorem dX7_level_9 : decode cX7_level 9 = .ok (.invokevirtual 148, 3) := by decide +kernel
theorem dX7_level_12 : decode cX7_level 12 = .ok (.iconst (-1), 1) := by decide +kernel
theorem dX7_level_13 : decode cX7_level 13 = .ok (.if_icmp .eq 25, 3) := by decide +kernel
theorem dX7_level_16 : decode cX7_level 16 = .ok (.iload_n 3, 1) := by decide +kernel
theorem dX7_level_17 : decode cX7_level 17 = .ok (.aload_n 0, 1) := by decide +kernel
theorem dX7_level_18 : decode cX7_level 18 = .ok (.iload_n 1, 1) := by decide +kernel
theorem dX7_level_19 : decode cX7_level 19 = .ok (.iload 4, 2) := by decide +kernel
theorem dX7_level_21 : decode cX7_level 21 = .ok (.invokevirtual 155, 3) := by decide +kernel
theorem dX7_level_24 : decode cX7_level 24 = .ok (.iadd, 1) := by decide +kernel
theorem dX7_level_25 : decode cX7_level 25 = .ok (.istore_n 3, 1) := by decide +kernel
theorem dX7_level_26 : decode cX7_level 26 = .ok (.aload_n 0, 1) := by decide +kernel
theorem dX7_level_27 : decode cX7_level 27 = .ok (.iload_n 1, 1) := by decide +kernel
theorem dX7_level_28 : decode cX7_level 28 = .ok (.iload 4, 2) := by decide +kernel
theorem dX7_level_30 : decode cX7_level 30 = .ok (.invokevirtual 148, 3) := by decide +kernel
theorem dX7_level_33 : decode cX7_level 33 = .ok (.istore 4, 2) := by decide +kernel
theorem dX7_level_35 : decode cX7_level 35 = .ok (.goto (-30), 3) := by decide +kernel
theorem dX7_level_38 : decode cX7_level 38 = .ok (.iload_n 3, 1) := by decide +kernel
theorem dX7_level_39 : decode cX7_level 39 = .ok (.ireturn, 1) := by decide +kernel
theorem dX7_height_0 : decode cX7_height 0 = .ok (.iconst 0, 1) := by decide +kernel
theorem dX7_height_1 : decode cX7_height 1 = .ok (.istore_n 2, 1) := by decide +kernel
theorem dX7_height_2 : decode cX7_height 2 = .ok (.iconst 0, 1) := by decide +kernel
theorem dX7_height_3 : decode cX7_height 3 = .ok (.istore_n 3, 1) := by decide +kernel
theorem dX7_height_4 : decode cX7_height 4 = .ok (.iconst 0, 1) := by decide +kernel
theorem dX7_height_5 : decode cX7_height 5 = .ok (.istore 4, 2) := by decide +kernel
theorem dX7_height_7 : decode cX7_height 7 = .ok (.iload 4, 2) := by decide +kernel
theorem dX7_height_9 : decode cX7_height 9 = .ok (.aload_n 0, 1) := by decide +kernel
theorem dX7_height_10 : decode cX7_height 10 = .ok (.getfield 7, 3) := by decide +kernel
theorem dX7_height_13 : decode cX7_height 13 = .ok (.iconst 0, 1) := by decide +kernel
theorem dX7_height_14 : decode cX7_height 14 = .ok (.iaload, 1) := by decide +kernel
theorem dX7_height_15 : decode cX7_height 15 = .ok (.if_icmp .ge 44, 3) := by decide +kernel
theorem dX7_height_18 : decode cX7_height 18 = .ok (.aload_n 0, 1) := by decide +kernel
theorem dX7_height_19 : decode cX7_height 19 = .ok (.iload_n 1, 1) := by decide +kernel
theorem dX7_height_20 : decode cX7_height 20 = .ok (.iload 4, 2) := by decide +kernel
theorem dX7_height_22 : decode cX7_height 22 = .ok (.invokevirtual 158, 3) := by decide +kernel
theorem dX7_height_25 : decode cX7_height 25 = .ok (.istore 5, 2) := by decide +kernel
theorem dX7_height_27 : decode cX7_height 27 = .ok (.iload 5, 2) := by decide +kernel
theorem dX7_height_29 : decode cX7_height 29 = .ok (.iload_n 2, 1) := by decide +kernel
theorem dX7_height_30 : decode cX7_height 30 = .ok (.if_icmp .ge 8, 3) := by decide +kernel
theorem dX7_height_33 : decode cX7_height 33 = .ok (.iload 5, 2) := by decide +kernel
theorem dX7_height_35 : decode cX7_height 35 = .ok (.goto 4, 3) := by decide +kernel
theorem dX7_height_38 : decode cX7_height 38 = .ok (.iload_n 2, 1) := by decide +kernel
theorem dX7_height_39 : decode cX7_height 39 = .ok (.istore_n 2, 1) := by decide +kernel
theorem dX7_height_40 : decode cX7_height 40 = .ok (.iload 5, 2) := by decide +kernel
theorem dX7_height_42 : decode cX7_height 42 = .ok (.iload_n 3, 1) := by decide +kernel
theorem dX7_height_43 : decode cX7_height 43 = .ok (.if_icmp .le 8, 3) := by decide +kernel
theorem dX7_height_46 : decode cX7_height 46 = .ok (.iload 5, 2) := by decide +kernel
theorem dX7_height_48 : decode cX7_height 48 = .ok (.goto 4, 3) := by decide +kernel
theorem dX7_height_51 : decode cX7_height 51 = .ok (.iload_n 3, 1) := by decide +kernel
theorem dX7_height_52 : decode cX7_height 52 = .ok (.istore_n 3, 1) := by decide +kernel
theorem dX7_height_53 : decode cX7_height 53 = .ok (.iinc 4 1, 3) := by decide +kernel
theorem dX7_height_56 : decode cX7_height 56 = .ok (.goto (-49), 3) := by decide +kernel
theorem dX7_height_59 : decode cX7_height 59 = .ok (.iload_n 3, 1) := by decide +kernel
theorem dX7_height_60 : decode cX7_height 60 = .ok (.iload_n 2, 1) := by decide +kernel
theorem dX7_height_61 : decode cX7_height 61 = .ok (.isub, 1) := by decide +kernel
theorem dX7_height_62 : decode cX7_height 62 = .ok (.iconst 1, 1) := by decide +kernel
theorem dX7_height_63 : decode cX7_height 63 = .ok (.iadd, 1) := by decide +kernel
theorem dX7_height_64 : decode cX7_height 64 = .ok (.ireturn, 1) := by decide +kernel
theorem dX7_holds_0 : decode cX7_holds 0 = .ok (.iconst 0, 1) := by decide +kernel
theorem dX7_holds_1 : decode cX7_holds 1 = .ok (.istore_n 3, 1) := by decide +kernel
theorem dX7_holds_2 : decode cX7_holds 2 = .ok (.iconst 0, 1) := by decide +kernel
theorem dX7_holds_3 : decode cX7_holds 3 = .ok (.istore 4, 2) := by decide +kernel
theorem dX7_holds_5 : decode cX7_holds 5 = .ok (.iload 4, 2) := by decide +kernel
theorem dX7_holds_7 : decode cX7_holds 7 = .ok (.aload_n 0, 1) := by decide +kernel
theorem dX7_holds_8 : decode cX7_holds 8 = .ok (.getfield 7, 3) := by decide +kernel
theorem dX7_holds_11 : decode cX7_holds 11 = .ok (.iconst 0, 1) := by decide +kernel
theorem dX7_holds_12 : decode cX7_holds 12 = .ok (.iaload, 1) := by decide +kernel
theorem dX7_holds_13 : decode cX7_holds 13 = .ok (.if_icmp .ge 28, 3) := by decide +kernel
theorem dX7_holds_16 : decode cX7_holds 16 = .ok (.iload_n 3, 1) := by decide +kernel
theorem dX7_holds_17 : decode cX7_holds 17 = .ok (.aload_n 0, 1) := by decide +kernel
theorem dX7_holds_18 : decode cX7_holds 18 = .ok (.iload_n 1, 1) := by decide +kernel
theorem dX7_holds_19 : decode cX7_holds 19 = .ok (.iload 4, 2) := by decide +kernel
theorem dX7_holds_21 : decode cX7_holds 21 = .ok (.invokevirtual 148, 3) := by decide +kernel
theorem dX7_holds_24 : decode cX7_holds 24 = .ok (.iload_n 2, 1) := by decide +kernel
theorem dX7_holds_25 : decode cX7_holds 25 = .ok (.if_icmp .ne 7, 3) := by decide +kernel
theorem dX7_holds_28 : decode cX7_holds 28 = .ok (.iconst 1, 1) := by decide +kernel
theorem dX7_holds_29 : decode cX7_holds 29 = .ok (.goto 4, 3) := by decide +kernel
theorem dX7_holds_32 : decode cX7_holds 32 = .ok (.iconst 0, 1) := by decide +kernel
theorem dX7_holds_33 : decode cX7_holds 33 = .ok (.iadd, 1) := by decide +kernel
theorem dX7_holds_34 : decode cX7_holds 34 = .ok (.istore_n 3, 1) := by decide +kernel
theorem dX7_holds_35 : decode cX7_holds 35 = .ok (.iinc 4 1, 3) := by decide +kernel
theorem dX7_holds_38 : decode cX7_holds 38 = .ok (.goto (-33), 3) := by decide +kernel
theorem dX7_holds_41 : decode cX7_holds 41 = .ok (.iload_n 3, 1) := by decide +kernel
theorem dX7_holds_42 : decode cX7_holds 42 = .ok (.ireturn, 1) := by decide +kernel
theorem dX7_span_0 : decode cX7_span 0 = .ok (.bipush 13, 2) := by decide +kernel
theorem dX7_span_2 : decode cX7_span 2 = .ok (.iload_n 0, 1) := by decide +kernel
theorem dX7_span_3 : decode cX7_span 3 = .ok (.imul, 1) := by decide +kernel
theorem dX7_span_4 : decode cX7_span 4 = .ok (.iload_n 1, 1) := by decide +kernel
theorem dX7_span_5 : decode cX7_span 5 = .ok (.iadd, 1) := by decide +kernel
theorem dX7_span_6 : decode cX7_span 6 = .ok (.ireturn, 1) := by decide +kernel
theorem dX7_rowsOf_0 : decode cX7_rowsOf 0 = .ok (.iload_n 1, 1) := by decide +kernel
theorem dX7_rowsOf_1 : decode cX7_rowsOf 1 = .ok (.iload_n 2, 1) := by decide +kernel
theorem dX7_rowsOf_2 : decode cX7_rowsOf 2 = .ok (.if_icmp .ne 5, 3) := by decide +kernel
theorem dX7_rowsOf_5 : decode cX7_rowsOf 5 = .ok (.iconst 1, 1) := by decide +kernel
theorem dX7_rowsOf_6 : decode cX7_rowsOf 6 = .ok (.ireturn, 1) := by decide +kernel
theorem dX7_rowsOf_7 : decode cX7_rowsOf 7 = .ok (.iload_n 3, 1) := by decide +kernel
theorem dX7_rowsOf_8 : decode cX7_rowsOf 8 = .ok (.ifCond .eq 27, 3) := by decide +kernel
theorem dX7_rowsOf_11 : decode cX7_rowsOf 11 = .ok (.aload_n 0, 1) := by decide +kernel
theorem dX7_rowsOf_12 : decode cX7_rowsOf 12 = .ok (.iload_n 1, 1) := by decide +kernel
theorem dX7_rowsOf_13 : decode cX7_rowsOf 13 = .ok (.invokevirtual 86, 3) := by decide +kernel
theorem dX7_rowsOf_16 : decode cX7_rowsOf 16 = .ok (.iconst 3, 1) := by decide +kernel
theorem dX7_rowsOf_17 : decode cX7_rowsOf 17 = .ok (.if_icmp .ne 18, 3) := by decide +kernel
theorem dX7_rowsOf_20 : decode cX7_rowsOf 20 = .ok (.aload_n 0, 1) := by decide +kernel
theorem dX7_rowsOf_21 : decode cX7_rowsOf 21 = .ok (.getfield 62, 3) := by decide +kernel
theorem dX7_rowsOf_24 : decode cX7_rowsOf 24 = .ok (.iload_n 1, 1) := by decide +kernel
theorem dX7_rowsOf_25 : decode cX7_rowsOf 25 = .ok (.iconst 1, 1) := by decide +kernel
theorem dX7_rowsOf_26 : decode cX7_rowsOf 26 = .ok (.iadd, 1) := by decide +kernel
theorem dX7_rowsOf_27 : decode cX7_rowsOf 27 = .ok (.iload_n 2, 1) := by decide +kernel
theorem dX7_rowsOf_28 : decode cX7_rowsOf 28 = .ok (.invokestatic 161, 3) := by decide +kernel
theorem dX7_rowsOf_31 : decode cX7_rowsOf 31 = .ok (.iaload, 1) := by decide +kernel
theorem dX7_rowsOf_32 : decode cX7_rowsOf 32 = .ok (.goto 4, 3) := by decide +kernel
theorem dX7_rowsOf_35 : decode cX7_rowsOf 35 = .ok (.iconst 0, 1) := by decide +kernel
theorem dX7_rowsOf_36 : decode cX7_rowsOf 36 = .ok (.istore 4, 2) := by decide +kernel
theorem dX7_rowsOf_38 : decode cX7_rowsOf 38 = .ok (.iload_n 1, 1) := by decide +kernel
theorem dX7_rowsOf_39 : decode cX7_rowsOf 39 = .ok (.iconst 1, 1) := by decide +kernel
theorem dX7_rowsOf_40 : decode cX7_rowsOf 40 = .ok (.iadd, 1) := by decide +kernel
theorem dX7_rowsOf_41 : decode cX7_rowsOf 41 = .ok (.istore 5, 2) := by decide +kernel
theorem dX7_rowsOf_43 : decode cX7_rowsOf 43 = .ok (.iload 5, 2) := by decide +kernel
theorem dX7_rowsOf_45 : decode cX7_rowsOf 45 = .ok (.iload_n 2, 1) := by decide +kernel
theorem dX7_rowsOf_46 : decode cX7_rowsOf 46 = .ok (.if_icmp .gt 59, 3) := by decide +kernel
theorem dX7_rowsOf_49 : decode cX7_rowsOf 49 = .ok (.iload_n 3, 1) := by decide +kernel
theorem dX7_rowsOf_50 : decode cX7_rowsOf 50 = .ok (.ifCond .eq 17, 3) := by decide +kernel
theorem dX7_rowsOf_53 : decode cX7_rowsOf 53 = .ok (.aload_n 0, 1) := by decide +kernel
theorem dX7_rowsOf_54 : decode cX7_rowsOf 54 = .ok (.getfield 62, 3) := by decide +kernel
theorem dX7_rowsOf_57 : decode cX7_rowsOf 57 = .ok (.iload 5, 2) := by decide +kernel
theorem dX7_rowsOf_59 : decode cX7_rowsOf 59 = .ok (.iload_n 2, 1) := by decide +kernel
theorem dX7_rowsOf_60 : decode cX7_rowsOf 60 = .ok (.invokestatic 161, 3) := by decide +kernel
theorem dX7_rowsOf_63 : decode cX7_rowsOf 63 = .ok (.iaload, 1) := by decide +kernel
theorem dX7_rowsOf_64 : decode cX7_rowsOf 64 = .ok (.goto 14, 3) := by decide +kernel
theorem dX7_rowsOf_67 : decode cX7_rowsOf 67 = .ok (.aload_n 0, 1) := by decide +kernel
theorem dX7_rowsOf_68 : decode cX7_rowsOf 68 = .ok (.getfield 50, 3) := by decide +kernel
theorem dX7_rowsOf_71 : decode cX7_rowsOf 71 = .ok (.iload 5, 2) := by decide +kernel
theorem dX7_rowsOf_73 : decode cX7_rowsOf 73 = .ok (.iload_n 2, 1) := by decide +kernel
theorem dX7_rowsOf_74 : decode cX7_rowsOf 74 = .ok (.invokestatic 161, 3) := by decide +kernel
theorem dX7_rowsOf_77 : decode cX7_rowsOf 77 = .ok (.iaload, 1) := by decide +kernel
theorem dX7_rowsOf_78 : decode cX7_rowsOf 78 = .ok (.istore 6, 2) := by decide +kernel
theorem dX7_rowsOf_80 : decode cX7_rowsOf 80 = .ok (.iload 4, 2) := by decide +kernel
theorem dX7_rowsOf_82 : decode cX7_rowsOf 82 = .ok (.aload_n 0, 1) := by decide +kernel
theorem dX7_rowsOf_83 : decode cX7_rowsOf 83 = .ok (.getfield 59, 3) := by decide +kernel
theorem dX7_rowsOf_86 : decode cX7_rowsOf 86 = .ok (.iload_n 1, 1) := by decide +kernel
theorem dX7_rowsOf_87 : decode cX7_rowsOf 87 = .ok (.iload 5, 2) := by decide +kernel
theorem dX7_rowsOf_89 : decode cX7_rowsOf 89 = .ok (.invokestatic 161, 3) := by decide +kernel
theorem dX7_rowsOf_92 : decode cX7_rowsOf 92 = .ok (.iaload, 1) := by decide +kernel
theorem dX7_rowsOf_93 : decode cX7_rowsOf 93 = .ok (.iload 6, 2) := by decide +kernel
theorem dX7_rowsOf_95 : decode cX7_rowsOf 95 = .ok (.imul, 1) := by decide +kernel
theorem dX7_rowsOf_96 : decode cX7_rowsOf 96 = .ok (.iadd, 1) := by decide +kernel
theorem dX7_rowsOf_97 : decode cX7_rowsOf 97 = .ok (.istore 4, 2) := by decide +kernel
theorem dX7_rowsOf_99 : decode cX7_rowsOf 99 = .ok (.iinc 5 1, 3) := by decide +kernel
theorem dX7_rowsOf_102 : decode cX7_rowsOf 102 = .ok (.goto (-59), 3) := by decide +kernel
theorem dX7_rowsOf_105 : decode cX7_rowsOf 105 = .ok (.iload 4, 2) := by decide +kernel
theorem dX7_rowsOf_107 : decode cX7_rowsOf 107 = .ok (.ireturn, 1) := by decide +kernel
theorem dX7_namesOf_0 : decode cX7_namesOf 0 = .ok (.iload_n 1, 1) := by decide +kernel
theorem dX7_namesOf_1 : decode cX7_namesOf 1 = .ok (.iload_n 2, 1) := by decide +kernel
theorem dX7_namesOf_2 : decode cX7_namesOf 2 = .ok (.if_icmp .ne 5, 3) := by decide +kernel
theorem dX7_namesOf_5 : decode cX7_namesOf 5 = .ok (.iconst 0, 1) := by decide +kernel
theorem dX7_namesOf_6 : decode cX7_namesOf 6 = .ok (.ireturn, 1) := by decide +kernel
theorem dX7_namesOf_7 : decode cX7_namesOf 7 = .ok (.aload_n 0, 1) := by decide +kernel
theorem dX7_namesOf_8 : decode cX7_namesOf 8 = .ok (.iload_n 1, 1) := by decide +kernel
theorem dX7_namesOf_9 : decode cX7_namesOf 9 = .ok (.invokevirtual 86, 3) := by decide +kernel
theorem dX7_namesOf_12 : decode cX7_namesOf 12 = .ok (.ifCond .ne 18, 3) := by decide +kernel
theorem dX7_namesOf_15 : decode cX7_namesOf 15 = .ok (.aload_n 0, 1) := by decide +kernel
theorem dX7_namesOf_16 : decode cX7_namesOf 16 = .ok (.getfield 50, 3) := by decide +kernel
theorem dX7_namesOf_19 : decode cX7_namesOf 19 = .ok (.iload_n 1, 1) := by decide +kernel
theorem dX7_namesOf_20 : decode cX7_namesOf 20 = .ok (.iconst 1, 1) := by decide +kernel
theorem dX7_namesOf_21 : decode cX7_namesOf 21 = .ok (.iadd, 1) := by decide +kernel
theorem dX7_namesOf_22 : decode cX7_namesOf 22 = .ok (.iload_n 2, 1) := by decide +kernel
theorem dX7_namesOf_23 : decode cX7_namesOf 23 = .ok (.invokestatic 161, 3) := by decide +kernel
theorem dX7_namesOf_26 : decode cX7_namesOf 26 = .ok (.iaload, 1) := by decide +kernel
theorem dX7_namesOf_27 : decode cX7_namesOf 27 = .ok (.goto 28, 3) := by decide +kernel
theorem dX7_namesOf_30 : decode cX7_namesOf 30 = .ok (.aload_n 0, 1) := by decide +kernel
theorem dX7_namesOf_31 : decode cX7_namesOf 31 = .ok (.iload_n 1, 1) := by decide +kernel
theorem dX7_namesOf_32 : decode cX7_namesOf 32 = .ok (.invokevirtual 86, 3) := by decide +kernel
theorem dX7_namesOf_35 : decode cX7_namesOf 35 = .ok (.iconst 2, 1) := by decide +kernel
theorem dX7_namesOf_36 : decode cX7_namesOf 36 = .ok (.if_icmp .ne 18, 3) := by decide +kernel
theorem dX7_namesOf_39 : decode cX7_namesOf 39 = .ok (.aload_n 0, 1) := by decide +kernel
theorem dX7_namesOf_40 : decode cX7_namesOf 40 = .ok (.getfield 53, 3) := by decide +kernel
theorem dX7_namesOf_43 : decode cX7_namesOf 43 = .ok (.iload_n 1, 1) := by decide +kernel
theorem dX7_namesOf_44 : decode cX7_namesOf 44 = .ok (.iconst 1, 1) := by decide +kernel
theorem dX7_namesOf_45 : decode cX7_namesOf 45 = .ok (.iadd, 1) := by decide +kernel
theorem dX7_namesOf_46 : decode cX7_namesOf 46 = .ok (.iload_n 2, 1) := by decide +kernel
theorem dX7_namesOf_47 : decode cX7_namesOf 47 = .ok (.invokestatic 161, 3) := by decide +kernel
theorem dX7_namesOf_50 : decode cX7_namesOf 50 = .ok (.iaload, 1) := by decide +kernel
theorem dX7_namesOf_51 : decode cX7_namesOf 51 = .ok (.goto 4, 3) := by decide +kernel
theorem dX7_namesOf_54 : decode cX7_namesOf 54 = .ok (.iconst 0, 1) := by decide +kernel
theorem dX7_namesOf_55 : decode cX7_namesOf 55 = .ok (.ireturn, 1) := by decide +kernel
theorem dX7_groupsOf_0 : decode cX7_groupsOf 0 = .ok (.aload_n 0, 1) := by decide +kernel
theorem dX7_groupsOf_1 : decode cX7_groupsOf 1 = .ok (.getfield 53, 3) := by decide +kernel
theorem dX7_groupsOf_4 : decode cX7_groupsOf 4 = .ok (.iload_n 1, 1) := by decide +kernel
theorem dX7_groupsOf_5 : decode cX7_groupsOf 5 = .ok (.iload_n 2, 1) := by decide +kernel
theorem dX7_groupsOf_6 : decode cX7_groupsOf 6 = .ok (.invokestatic 161, 3) := by decide +kernel
theorem dX7_groupsOf_9 : decode cX7_groupsOf 9 = .ok (.iaload, 1) := by decide +kernel
theorem dX7_groupsOf_10 : decode cX7_groupsOf 10 = .ok (.istore_n 3, 1) := by decide +kernel
theorem dX7_groupsOf_11 : decode cX7_groupsOf 11 = .ok (.iload_n 1, 1) := by decide +kernel
theorem dX7_groupsOf_12 : decode cX7_groupsOf 12 = .ok (.iconst 1, 1) := by decide +kernel
theorem dX7_groupsOf_13 : decode cX7_groupsOf 13 = .ok (.iadd, 1) := by decide +kernel
theorem dX7_groupsOf_14 : decode cX7_groupsOf 14 = .ok (.istore 4, 2) := by decide +kernel
theorem dX7_groupsOf_16 : decode cX7_groupsOf 16 = .ok (.iload 4, 2) := by decide +kernel
theorem dX7_groupsOf_18 : decode cX7_groupsOf 18 = .ok (.iload_n 2, 1) := by decide +kernel
theorem dX7_groupsOf_19 : decode cX7_groupsOf 19 = .ok (.if_icmp .ge 51, 3) := by decide +kernel
theorem dX7_groupsOf_22 : decode cX7_groupsOf 22 = .ok (.iload_n 3, 1) := by decide +kernel
theorem dX7_groupsOf_23 : decode cX7_groupsOf 23 = .ok (.aload_n 0, 1) := by decide +kernel
theorem dX7_groupsOf_24 : decode cX7_groupsOf 24 = .ok (.iload 4, 2) := by decide +kernel
theorem dX7_groupsOf_26 : decode cX7_groupsOf 26 = .ok (.invokevirtual 86, 3) := by decide +kernel
theorem dX7_groupsOf_29 : decode cX7_groupsOf 29 = .ok (.iconst 5, 1) := by decide +kernel
theorem dX7_groupsOf_30 : decode cX7_groupsOf 30 = .ok (.if_icmp .ne 31, 3) := by decide +kernel
theorem dX7_groupsOf_33 : decode cX7_groupsOf 33 = .ok (.aload_n 0, 1) := by decide +kernel
theorem dX7_groupsOf_34 : decode cX7_groupsOf 34 = .ok (.getfield 53, 3) := by decide +kernel
theorem dX7_groupsOf_37 : decode cX7_groupsOf 37 = .ok (.iload_n 1, 1) := by decide +kernel
theorem dX7_groupsOf_38 : decode cX7_groupsOf 38 = .ok (.iload 4, 2) := by decide +kernel
theorem dX7_groupsOf_40 : decode cX7_groupsOf 40 = .ok (.invokestatic 161, 3) := by decide +kernel
theorem dX7_groupsOf_43 : decode cX7_groupsOf 43 = .ok (.iaload, 1) := by decide +kernel
theorem dX7_groupsOf_44 : decode cX7_groupsOf 44 = .ok (.aload_n 0, 1) := by decide +kernel
theorem dX7_groupsOf_45 : decode cX7_groupsOf 45 = .ok (.getfield 53, 3) := by decide +kernel
theorem dX7_groupsOf_48 : decode cX7_groupsOf 48 = .ok (.iload 4, 2) := by decide +kernel
theorem dX7_groupsOf_50 : decode cX7_groupsOf 50 = .ok (.iconst 1, 1) := by decide +kernel
theorem dX7_groupsOf_51 : decode cX7_groupsOf 51 = .ok (.iadd, 1) := by decide +kernel
theorem dX7_groupsOf_52 : decode cX7_groupsOf 52 = .ok (.iload_n 2, 1) := by decide +kernel
theorem dX7_groupsOf_53 : decode cX7_groupsOf 53 = .ok (.invokestatic 161, 3) := by decide +kernel
theorem dX7_groupsOf_56 : decode cX7_groupsOf 56 = .ok (.iaload, 1) := by decide +kernel
theorem dX7_groupsOf_57 : decode cX7_groupsOf 57 = .ok (.imul, 1) := by decide +kernel
theorem dX7_groupsOf_58 : decode cX7_groupsOf 58 = .ok (.goto 4, 3) := by decide +kernel
theorem dX7_groupsOf_61 : decode cX7_groupsOf 61 = .ok (.iconst 0, 1) := by decide +kernel
theorem dX7_groupsOf_62 : decode cX7_groupsOf 62 = .ok (.iadd, 1) := by decide +kernel
theorem dX7_groupsOf_63 : decode cX7_groupsOf 63 = .ok (.istore_n 3, 1) := by decide +kernel
theorem dX7_groupsOf_64 : decode cX7_groupsOf 64 = .ok (.iinc 4 1, 3) := by decide +kernel
theorem dX7_groupsOf_67 : decode cX7_groupsOf 67 = .ok (.goto (-51), 3) := by decide +kernel
theorem dX7_groupsOf_70 : decode cX7_groupsOf 70 = .ok (.iload_n 3, 1) := by decide +kernel
theorem dX7_groupsOf_71 : decode cX7_groupsOf 71 = .ok (.ireturn, 1) := by decide +kernel
theorem dX7_restsOf_0 : decode cX7_restsOf 0 = .ok (.aload_n 0, 1) := by decide +kernel
theorem dX7_restsOf_1 : decode cX7_restsOf 1 = .ok (.getfield 62, 3) := by decide +kernel
theorem dX7_restsOf_4 : decode cX7_restsOf 4 = .ok (.iload_n 1, 1) := by decide +kernel
theorem dX7_restsOf_5 : decode cX7_restsOf 5 = .ok (.iload_n 2, 1) := by decide +kernel
theorem dX7_restsOf_6 : decode cX7_restsOf 6 = .ok (.invokestatic 161, 3) := by decide +kernel
theorem dX7_restsOf_9 : decode cX7_restsOf 9 = .ok (.iaload, 1) := by decide +kernel
theorem dX7_restsOf_10 : decode cX7_restsOf 10 = .ok (.istore_n 3, 1) := by decide +kernel
theorem dX7_restsOf_11 : decode cX7_restsOf 11 = .ok (.iload_n 1, 1) := by decide +kernel
theorem dX7_restsOf_12 : decode cX7_restsOf 12 = .ok (.iconst 1, 1) := by decide +kernel
theorem dX7_restsOf_13 : decode cX7_restsOf 13 = .ok (.iadd, 1) := by decide +kernel
theorem dX7_restsOf_14 : decode cX7_restsOf 14 = .ok (.istore 4, 2) := by decide +kernel
theorem dX7_restsOf_16 : decode cX7_restsOf 16 = .ok (.iload 4, 2) := by decide +kernel
theorem dX7_restsOf_18 : decode cX7_restsOf 18 = .ok (.iload_n 2, 1) := by decide +kernel
theorem dX7_restsOf_19 : decode cX7_restsOf 19 = .ok (.if_icmp .gt 67, 3) := by decide +kernel
theorem dX7_restsOf_22 : decode cX7_restsOf 22 = .ok (.aload_n 0, 1) := by decide +kernel
theorem dX7_restsOf_23 : decode cX7_restsOf 23 = .ok (.getfield 56, 3) := by decide +kernel
theorem dX7_restsOf_26 : decode cX7_restsOf 26 = .ok (.iload_n 1, 1) := by decide +kernel
theorem dX7_restsOf_27 : decode cX7_restsOf 27 = .ok (.iload 4, 2) := by decide +kernel
theorem dX7_restsOf_29 : decode cX7_restsOf 29 = .ok (.invokestatic 161, 3) := by decide +kernel
theorem dX7_restsOf_32 : decode cX7_restsOf 32 = .ok (.iaload, 1) := by decide +kernel
theorem dX7_restsOf_33 : decode cX7_restsOf 33 = .ok (.aload_n 0, 1) := by decide +kernel
theorem dX7_restsOf_34 : decode cX7_restsOf 34 = .ok (.iload_n 1, 1) := by decide +kernel
theorem dX7_restsOf_35 : decode cX7_restsOf 35 = .ok (.invokevirtual 86, 3) := by decide +kernel
theorem dX7_restsOf_38 : decode cX7_restsOf 38 = .ok (.bipush 6, 2) := by decide +kernel
theorem dX7_restsOf_40 : decode cX7_restsOf 40 = .ok (.if_icmp .ne 19, 3) := by decide +kernel
theorem dX7_restsOf_43 : decode cX7_restsOf 43 = .ok (.aload_n 0, 1) := by decide +kernel
theorem dX7_restsOf_44 : decode cX7_restsOf 44 = .ok (.getfield 65, 3) := by decide +kernel
theorem dX7_restsOf_47 : decode cX7_restsOf 47 = .ok (.iload_n 1, 1) := by decide +kernel
theorem dX7_restsOf_48 : decode cX7_restsOf 48 = .ok (.iconst 1, 1) := by decide +kernel
theorem dX7_restsOf_49 : decode cX7_restsOf 49 = .ok (.iadd, 1) := by decide +kernel
theorem dX7_restsOf_50 : decode cX7_restsOf 50 = .ok (.iload 4, 2) := by decide +kernel
theorem dX7_restsOf_52 : decode cX7_restsOf 52 = .ok (.invokestatic 161, 3) := by decide +kernel
theorem dX7_restsOf_55 : decode cX7_restsOf 55 = .ok (.iaload, 1) := by decide +kernel
theorem dX7_restsOf_56 : decode cX7_restsOf 56 = .ok (.goto 4, 3) := by decide +kernel
theorem dX7_restsOf_59 : decode cX7_restsOf 59 = .ok (.iconst 0, 1) := by decide +kernel
theorem dX7_restsOf_60 : decode cX7_restsOf 60 = .ok (.iadd, 1) := by decide +kernel
theorem dX7_restsOf_61 : decode cX7_restsOf 61 = .ok (.istore 5, 2) := by decide +kernel
theorem dX7_restsOf_63 : decode cX7_restsOf 63 = .ok (.iload_n 3, 1) := by decide +kernel
theorem dX7_restsOf_64 : decode cX7_restsOf 64 = .ok (.iload 5, 2) := by decide +kernel
theorem dX7_restsOf_66 : decode cX7_restsOf 66 = .ok (.aload_n 0, 1) := by decide +kernel
theorem dX7_restsOf_67 : decode cX7_restsOf 67 = .ok (.getfield 62, 3) := by decide +kernel
theorem dX7_restsOf_70 : decode cX7_restsOf 70 = .ok (.iload 4, 2) := by decide +kernel
theorem dX7_restsOf_72 : decode cX7_restsOf 72 = .ok (.iload_n 2, 1) := by decide +kernel
theorem dX7_restsOf_73 : decode cX7_restsOf 73 = .ok (.invokestatic 161, 3) := by decide +kernel
theorem dX7_restsOf_76 : decode cX7_restsOf 76 = .ok (.iaload, 1) := by decide +kernel
theorem dX7_restsOf_77 : decode cX7_restsOf 77 = .ok (.imul, 1) := by decide +kernel
theorem dX7_restsOf_78 : decode cX7_restsOf 78 = .ok (.iadd, 1) := by decide +kernel
theorem dX7_restsOf_79 : decode cX7_restsOf 79 = .ok (.istore_n 3, 1) := by decide +kernel
theorem dX7_restsOf_80 : decode cX7_restsOf 80 = .ok (.iinc 4 1, 3) := by decide +kernel
theorem dX7_restsOf_83 : decode cX7_restsOf 83 = .ok (.goto (-67), 3) := by decide +kernel
theorem dX7_restsOf_86 : decode cX7_restsOf 86 = .ok (.iload_n 3, 1) := by decide +kernel
theorem dX7_restsOf_87 : decode cX7_restsOf 87 = .ok (.ireturn, 1) := by decide +kernel
theorem dX7_clausesOf_0 : decode cX7_clausesOf 0 = .ok (.iconst 0, 1) := by decide +kernel
theorem dX7_clausesOf_1 : decode cX7_clausesOf 1 = .ok (.istore_n 3, 1) := by decide +kernel
theorem dX7_clausesOf_2 : decode cX7_clausesOf 2 = .ok (.iload_n 1, 1) := by decide +kernel
theorem dX7_clausesOf_3 : decode cX7_clausesOf 3 = .ok (.iconst 1, 1) := by decide +kernel
theorem dX7_clausesOf_4 : decode cX7_clausesOf 4 = .ok (.iadd, 1) := by decide +kernel
theorem dX7_clausesOf_5 : decode cX7_clausesOf 5 = .ok (.istore 4, 2) := by decide +kernel
theorem dX7_clausesOf_7 : decode cX7_clausesOf 7 = .ok (.iload 4, 2) := by decide +kernel
theorem dX7_clausesOf_9 : decode cX7_clausesOf 9 = .ok (.iload_n 2, 1) := by decide +kernel
theorem dX7_clausesOf_10 : decode cX7_clausesOf 10 = .ok (.if_icmp .ge 47, 3) := by decide +kernel
theorem dX7_clausesOf_13 : decode cX7_clausesOf 13 = .ok (.iload_n 3, 1) := by decide +kernel
theorem dX7_clausesOf_14 : decode cX7_clausesOf 14 = .ok (.aload_n 0, 1) := by decide +kernel
theorem dX7_clausesOf_15 : decode cX7_clausesOf 15 = .ok (.iload 4, 2) := by decide +kernel
theorem dX7_clausesOf_17 : decode cX7_clausesOf 17 = .ok (.invokevirtual 86, 3) := by decide +kernel
theorem dX7_clausesOf_20 : decode cX7_clausesOf 20 = .ok (.iconst 1, 1) := by decide +kernel
theorem dX7_clausesOf_21 : decode cX7_clausesOf 21 = .ok (.if_icmp .ne 27, 3) := by decide +kernel
theorem dX7_clausesOf_24 : decode cX7_clausesOf 24 = .ok (.aload_n 0, 1) := by decide +kernel
theorem dX7_clausesOf_25 : decode cX7_clausesOf 25 = .ok (.getfield 56, 3) := by decide +kernel
theorem dX7_clausesOf_28 : decode cX7_clausesOf 28 = .ok (.iload_n 1, 1) := by decide +kernel
theorem dX7_clausesOf_29 : decode cX7_clausesOf 29 = .ok (.iload 4, 2) := by decide +kernel
theorem dX7_clausesOf_31 : decode cX7_clausesOf 31 = .ok (.invokestatic 161, 3) := by decide +kernel
theorem dX7_clausesOf_34 : decode cX7_clausesOf 34 = .ok (.iaload, 1) := by decide +kernel
theorem dX7_clausesOf_35 : decode cX7_clausesOf 35 = .ok (.aload_n 0, 1) := by decide +kernel
theorem dX7_clausesOf_36 : decode cX7_clausesOf 36 = .ok (.iload 4, 2) := by decide +kernel
theorem dX7_clausesOf_38 : decode cX7_clausesOf 38 = .ok (.iconst 1, 1) := by decide +kernel
theorem dX7_clausesOf_39 : decode cX7_clausesOf 39 = .ok (.iadd, 1) := by decide +kernel
theorem dX7_clausesOf_40 : decode cX7_clausesOf 40 = .ok (.iload_n 2, 1) := by decide +kernel
theorem dX7_clausesOf_41 : decode cX7_clausesOf 41 = .ok (.invokevirtual 164, 3) := by decide +kernel
theorem dX7_clausesOf_44 : decode cX7_clausesOf 44 = .ok (.imul, 1) := by decide +kernel
theorem dX7_clausesOf_45 : decode cX7_clausesOf 45 = .ok (.goto 4, 3) := by decide +kernel
theorem dX7_clausesOf_48 : decode cX7_clausesOf 48 = .ok (.iconst 0, 1) := by decide +kernel
theorem dX7_clausesOf_49 : decode cX7_clausesOf 49 = .ok (.iadd, 1) := by decide +kernel
theorem dX7_clausesOf_50 : decode cX7_clausesOf 50 = .ok (.istore_n 3, 1) := by decide +kernel
theorem dX7_clausesOf_51 : decode cX7_clausesOf 51 = .ok (.iinc 4 1, 3) := by decide +kernel
theorem dX7_clausesOf_54 : decode cX7_clausesOf 54 = .ok (.goto (-47), 3) := by decide +kernel
theorem dX7_clausesOf_57 : decode cX7_clausesOf 57 = .ok (.iload_n 3, 1) := by decide +kernel
theorem dX7_clausesOf_58 : decode cX7_clausesOf 58 = .ok (.ireturn, 1) := by decide +kernel
theorem dX7_laysSpan_0 : decode cX7_laysSpan 0 = .ok (.iload_n 1, 1) := by decide +kernel
theorem dX7_laysSpan_1 : decode cX7_laysSpan 1 = .ok (.iload_n 2, 1) := by decide +kernel
theorem dX7_laysSpan_2 : decode cX7_laysSpan 2 = .ok (.invokestatic 161, 3) := by decide +kernel
theorem dX7_laysSpan_5 : decode cX7_laysSpan 5 = .ok (.istore_n 3, 1) := by decide +kernel
theorem dX7_laysSpan_6 : decode cX7_laysSpan 6 = .ok (.aload_n 0, 1) := by decide +kernel
theorem dX7_laysSpan_7 : decode cX7_laysSpan 7 = .ok (.getfield 59, 3) := by decide +kernel
theorem dX7_laysSpan_10 : decode cX7_laysSpan 10 = .ok (.iload_n 3, 1) := by decide +kernel
theorem dX7_laysSpan_11 : decode cX7_laysSpan 11 = .ok (.iload_n 1, 1) := by decide +kernel
theorem dX7_laysSpan_12 : decode cX7_laysSpan 12 = .ok (.iload_n 2, 1) := by decide +kernel
theorem dX7_laysSpan_13 : decode cX7_laysSpan 13 = .ok (.if_icmp .ge 27, 3) := by decide +kernel
theorem dX7_laysSpan_16 : decode cX7_laysSpan 16 = .ok (.aload_n 0, 1) := by decide +kernel
theorem dX7_laysSpan_17 : decode cX7_laysSpan 17 = .ok (.iload_n 1, 1) := by decide +kernel
theorem dX7_laysSpan_18 : decode cX7_laysSpan 18 = .ok (.invokevirtual 86, 3) := by decide +kernel
theorem dX7_laysSpan_21 : decode cX7_laysSpan 21 = .ok (.iconst 4, 1) := by decide +kernel
theorem dX7_laysSpan_22 : decode cX7_laysSpan 22 = .ok (.if_icmp .ne 18, 3) := by decide +kernel
theorem dX7_laysSpan_25 : decode cX7_laysSpan 25 = .ok (.aload_n 0, 1) := by decide +kernel
theorem dX7_laysSpan_26 : decode cX7_laysSpan 26 = .ok (.getfield 56, 3) := by decide +kernel
theorem dX7_laysSpan_29 : decode cX7_laysSpan 29 = .ok (.iload_n 1, 1) := by decide +kernel
theorem dX7_laysSpan_30 : decode cX7_laysSpan 30 = .ok (.iconst 1, 1) := by decide +kernel
theorem dX7_laysSpan_31 : decode cX7_laysSpan 31 = .ok (.iadd, 1) := by decide +kernel
theorem dX7_laysSpan_32 : decode cX7_laysSpan 32 = .ok (.iload_n 2, 1) := by decide +kernel
theorem dX7_laysSpan_33 : decode cX7_laysSpan 33 = .ok (.invokestatic 161, 3) := by decide +kernel
theorem dX7_laysSpan_36 : decode cX7_laysSpan 36 = .ok (.iaload, 1) := by decide +kernel
theorem dX7_laysSpan_37 : decode cX7_laysSpan 37 = .ok (.goto 4, 3) := by decide +kernel
theorem dX7_laysSpan_40 : decode cX7_laysSpan 40 = .ok (.iconst 0, 1) := by decide +kernel
theorem dX7_laysSpan_41 : decode cX7_laysSpan 41 = .ok (.iastore, 1) := by decide +kernel
theorem dX7_laysSpan_42 : decode cX7_laysSpan 42 = .ok (.aload_n 0, 1) := by decide +kernel
theorem dX7_laysSpan_43 : decode cX7_laysSpan 43 = .ok (.getfield 50, 3) := by decide +kernel
theorem dX7_laysSpan_46 : decode cX7_laysSpan 46 = .ok (.iload_n 3, 1) := by decide +kernel
theorem dX7_laysSpan_47 : decode cX7_laysSpan 47 = .ok (.aload_n 0, 1) := by decide +kernel
theorem dX7_laysSpan_48 : decode cX7_laysSpan 48 = .ok (.iload_n 1, 1) := by decide +kernel
theorem dX7_laysSpan_49 : decode cX7_laysSpan 49 = .ok (.iload_n 2, 1) := by decide +kernel
theorem dX7_laysSpan_50 : decode cX7_laysSpan 50 = .ok (.iconst 0, 1) := by decide +kernel
theorem dX7_laysSpan_51 : decode cX7_laysSpan 51 = .ok (.invokevirtual 167, 3) := by decide +kernel
theorem dX7_laysSpan_54 : decode cX7_laysSpan 54 = .ok (.iastore, 1) := by decide +kernel
theorem dX7_laysSpan_55 : decode cX7_laysSpan 55 = .ok (.aload_n 0, 1) := by decide +kernel
theorem dX7_laysSpan_56 : decode cX7_laysSpan 56 = .ok (.getfield 62, 3) := by decide +kernel
theorem dX7_laysSpan_59 : decode cX7_laysSpan 59 = .ok (.iload_n 3, 1) := by decide +kernel
theorem dX7_laysSpan_60 : decode cX7_laysSpan 60 = .ok (.aload_n 0, 1) := by decide +kernel
theorem dX7_laysSpan_61 : decode cX7_laysSpan 61 = .ok (.iload_n 1, 1) := by decide +kernel
theorem dX7_laysSpan_62 : decode cX7_laysSpan 62 = .ok (.iload_n 2, 1) := by decide +kernel
theorem dX7_laysSpan_63 : decode cX7_laysSpan 63 = .ok (.iconst 1, 1) := by decide +kernel
theorem dX7_laysSpan_64 : decode cX7_laysSpan 64 = .ok (.invokevirtual 167, 3) := by decide +kernel
theorem dX7_laysSpan_67 : decode cX7_laysSpan 67 = .ok (.iastore, 1) := by decide +kernel
theorem dX7_laysSpan_68 : decode cX7_laysSpan 68 = .ok (.aload_n 0, 1) := by decide +kernel
theorem dX7_laysSpan_69 : decode cX7_laysSpan 69 = .ok (.getfield 53, 3) := by decide +kernel
theorem dX7_laysSpan_72 : decode cX7_laysSpan 72 = .ok (.iload_n 3, 1) := by decide +kernel
theorem dX7_laysSpan_73 : decode cX7_laysSpan 73 = .ok (.aload_n 0, 1) := by decide +kernel
theorem dX7_laysSpan_74 : decode cX7_laysSpan 74 = .ok (.iload_n 1, 1) := by decide +kernel
theorem dX7_laysSpan_75 : decode cX7_laysSpan 75 = .ok (.iload_n 2, 1) := by decide +kernel
theorem dX7_laysSpan_76 : decode cX7_laysSpan 76 = .ok (.invokevirtual 171, 3) := by decide +kernel
theorem dX7_laysSpan_79 : decode cX7_laysSpan 79 = .ok (.iastore, 1) := by decide +kernel
theorem dX7_laysSpan_80 : decode cX7_laysSpan 80 = .ok (.aload_n 0, 1) := by decide +kernel
theorem dX7_laysSpan_81 : decode cX7_laysSpan 81 = .ok (.getfield 56, 3) := by decide +kernel
theorem dX7_laysSpan_84 : decode cX7_laysSpan 84 = .ok (.iload_n 3, 1) := by decide +kernel
theorem dX7_laysSpan_85 : decode cX7_laysSpan 85 = .ok (.aload_n 0, 1) := by decide +kernel
theorem dX7_laysSpan_86 : decode cX7_laysSpan 86 = .ok (.iload_n 1, 1) := by decide +kernel
theorem dX7_laysSpan_87 : decode cX7_laysSpan 87 = .ok (.iload_n 2, 1) := by decide +kernel
theorem dX7_laysSpan_88 : decode cX7_laysSpan 88 = .ok (.invokevirtual 174, 3) := by decide +kernel
theorem dX7_laysSpan_91 : decode cX7_laysSpan 91 = .ok (.iastore, 1) := by decide +kernel
theorem dX7_laysSpan_92 : decode cX7_laysSpan 92 = .ok (.aload_n 0, 1) := by decide +kernel
theorem dX7_laysSpan_93 : decode cX7_laysSpan 93 = .ok (.getfield 65, 3) := by decide +kernel
theorem dX7_laysSpan_96 : decode cX7_laysSpan 96 = .ok (.iload_n 3, 1) := by decide +kernel
theorem dX7_laysSpan_97 : decode cX7_laysSpan 97 = .ok (.aload_n 0, 1) := by decide +kernel
theorem dX7_laysSpan_98 : decode cX7_laysSpan 98 = .ok (.iload_n 1, 1) := by decide +kernel
theorem dX7_laysSpan_99 : decode cX7_laysSpan 99 = .ok (.iload_n 2, 1) := by decide +kernel
theorem dX7_laysSpan_100 : decode cX7_laysSpan 100 = .ok (.invokevirtual 177, 3) := by decide +kernel
theorem dX7_laysSpan_103 : decode cX7_laysSpan 103 = .ok (.iastore, 1) := by decide +kernel
theorem dX7_laysSpan_104 : decode cX7_laysSpan 104 = .ok (.return_, 1) := by decide +kernel
theorem dX7_laysSpans_0 : decode cX7_laysSpans 0 = .ok (.iconst 0, 1) := by decide +kernel
theorem dX7_laysSpans_1 : decode cX7_laysSpans 1 = .ok (.istore_n 1, 1) := by decide +kernel
theorem dX7_laysSpans_2 : decode cX7_laysSpans 2 = .ok (.iload_n 1, 1) := by decide +kernel
theorem dX7_laysSpans_3 : decode cX7_laysSpans 3 = .ok (.aload_n 0, 1) := by decide +kernel
theorem dX7_laysSpans_4 : decode cX7_laysSpans 4 = .ok (.getfield 7, 3) := by decide +kernel
theorem dX7_laysSpans_7 : decode cX7_laysSpans 7 = .ok (.iconst 0, 1) := by decide +kernel
theorem dX7_laysSpans_8 : decode cX7_laysSpans 8 = .ok (.iaload, 1) := by decide +kernel
theorem dX7_laysSpans_9 : decode cX7_laysSpans 9 = .ok (.if_icmp .gt 37, 3) := by decide +kernel
theorem dX7_laysSpans_12 : decode cX7_laysSpans 12 = .ok (.iconst 0, 1) := by decide +kernel
theorem dX7_laysSpans_13 : decode cX7_laysSpans 13 = .ok (.istore_n 2, 1) := by decide +kernel
theorem dX7_laysSpans_14 : decode cX7_laysSpans 14 = .ok (.iload_n 2, 1) := by decide +kernel
theorem dX7_laysSpans_15 : decode cX7_laysSpans 15 = .ok (.iload_n 1, 1) := by decide +kernel
theorem dX7_laysSpans_16 : decode cX7_laysSpans 16 = .ok (.iadd, 1) := by decide +kernel
theorem dX7_laysSpans_17 : decode cX7_laysSpans 17 = .ok (.aload_n 0, 1) := by decide +kernel
theorem dX7_laysSpans_18 : decode cX7_laysSpans 18 = .ok (.getfield 7, 3) := by decide +kernel
theorem dX7_laysSpans_21 : decode cX7_laysSpans 21 = .ok (.iconst 0, 1) := by decide +kernel
theorem dX7_laysSpans_22 : decode cX7_laysSpans 22 = .ok (.iaload, 1) := by decide +kernel
theorem dX7_laysSpans_23 : decode cX7_laysSpans 23 = .ok (.if_icmp .gt 17, 3) := by decide +kernel
theorem dX7_laysSpans_26 : decode cX7_laysSpans 26 = .ok (.aload_n 0, 1) := by decide +kernel
theorem dX7_laysSpans_27 : decode cX7_laysSpans 27 = .ok (.iload_n 2, 1) := by decide +kernel
theorem dX7_laysSpans_28 : decode cX7_laysSpans 28 = .ok (.iload_n 2, 1) := by decide +kernel
theorem dX7_laysSpans_29 : decode cX7_laysSpans 29 = .ok (.iload_n 1, 1) := by decide +kernel
theorem dX7_laysSpans_30 : decode cX7_laysSpans 30 = .ok (.iadd, 1) := by decide +kernel
theorem dX7_laysSpans_31 : decode cX7_laysSpans 31 = .ok (.invokevirtual 180, 3) := by decide +kernel
theorem dX7_laysSpans_34 : decode cX7_laysSpans 34 = .ok (.iinc 2 1, 3) := by decide +kernel
theorem dX7_laysSpans_37 : decode cX7_laysSpans 37 = .ok (.goto (-23), 3) := by decide +kernel
theorem dX7_laysSpans_40 : decode cX7_laysSpans 40 = .ok (.iinc 1 1, 3) := by decide +kernel
theorem dX7_laysSpans_43 : decode cX7_laysSpans 43 = .ok (.goto (-41), 3) := by decide +kernel
theorem dX7_laysSpans_46 : decode cX7_laysSpans 46 = .ok (.return_, 1) := by decide +kernel
theorem dX7_partOf_0 : decode cX7_partOf 0 = .ok (.iload_n 1, 1) := by decide +kernel
theorem dX7_partOf_1 : decode cX7_partOf 1 = .ok (.iload_n 2, 1) := by decide +kernel
theorem dX7_partOf_2 : decode cX7_partOf 2 = .ok (.invokestatic 161, 3) := by decide +kernel
theorem dX7_partOf_5 : decode cX7_partOf 5 = .ok (.istore 4, 2) := by decide +kernel
theorem dX7_partOf_7 : decode cX7_partOf 7 = .ok (.iload_n 3, 1) := by decide +kernel
theorem dX7_partOf_8 : decode cX7_partOf 8 = .ok (.tableswitch 64 0 3 #[32, 40, 48, 56], 32) := by decide +kernel
theorem dX7_partOf_40 : decode cX7_partOf 40 = .ok (.aload_n 0, 1) := by decide +kernel
theorem dX7_partOf_41 : decode cX7_partOf 41 = .ok (.getfield 53, 3) := by decide +kernel
theorem dX7_partOf_44 : decode cX7_partOf 44 = .ok (.iload 4, 2) := by decide +kernel
theorem dX7_partOf_46 : decode cX7_partOf 46 = .ok (.iaload, 1) := by decide +kernel
theorem dX7_partOf_47 : decode cX7_partOf 47 = .ok (.ireturn, 1) := by decide +kernel
theorem dX7_partOf_48 : decode cX7_partOf 48 = .ok (.aload_n 0, 1) := by decide +kernel
theorem dX7_partOf_49 : decode cX7_partOf 49 = .ok (.getfield 56, 3) := by decide +kernel
theorem dX7_partOf_52 : decode cX7_partOf 52 = .ok (.iload 4, 2) := by decide +kernel
theorem dX7_partOf_54 : decode cX7_partOf 54 = .ok (.iaload, 1) := by decide +kernel
theorem dX7_partOf_55 : decode cX7_partOf 55 = .ok (.ireturn, 1) := by decide +kernel
theorem dX7_partOf_56 : decode cX7_partOf 56 = .ok (.aload_n 0, 1) := by decide +kernel
theorem dX7_partOf_57 : decode cX7_partOf 57 = .ok (.getfield 59, 3) := by decide +kernel
theorem dX7_partOf_60 : decode cX7_partOf 60 = .ok (.iload 4, 2) := by decide +kernel
theorem dX7_partOf_62 : decode cX7_partOf 62 = .ok (.iaload, 1) := by decide +kernel
theorem dX7_partOf_63 : decode cX7_partOf 63 = .ok (.ireturn, 1) := by decide +kernel
theorem dX7_partOf_64 : decode cX7_partOf 64 = .ok (.aload_n 0, 1) := by decide +kernel
theorem dX7_partOf_65 : decode cX7_partOf 65 = .ok (.getfield 65, 3) := by decide +kernel
theorem dX7_partOf_68 : decode cX7_partOf 68 = .ok (.iload 4, 2) := by decide +kernel
theorem dX7_partOf_70 : decode cX7_partOf 70 = .ok (.iaload, 1) := by decide +kernel
theorem dX7_partOf_71 : decode cX7_partOf 71 = .ok (.ireturn, 1) := by decide +kernel
theorem dX7_partOf_72 : decode cX7_partOf 72 = .ok (.aload_n 0, 1) := by decide +kernel
theorem dX7_partOf_73 : decode cX7_partOf 73 = .ok (.getfield 62, 3) := by decide +kernel
theorem dX7_partOf_76 : decode cX7_partOf 76 = .ok (.iload 4, 2) := by decide +kernel
theorem dX7_partOf_78 : decode cX7_partOf 78 = .ok (.iaload, 1) := by decide +kernel
theorem dX7_partOf_79 : decode cX7_partOf 79 = .ok (.ireturn, 1) := by decide +kernel
theorem dX7_allByParts_0 : decode cX7_allByParts 0 = .ok (.aload_n 0, 1) := by decide +kernel
theorem dX7_allByParts_1 : decode cX7_allByParts 1 = .ok (.invokevirtual 184, 3) := by decide +kernel
theorem dX7_allByParts_4 : decode cX7_allByParts 4 = .ok (.aload_n 0, 1) := by decide +kernel
theorem dX7_allByParts_5 : decode cX7_allByParts 5 = .ok (.getfield 7, 3) := by decide +kernel
theorem dX7_allByParts_8 : decode cX7_allByParts 8 = .ok (.iconst 0, 1) := by decide +kernel
theorem dX7_allByParts_9 : decode cX7_allByParts 9 = .ok (.iaload, 1) := by decide +kernel
theorem dX7_allByParts_10 : decode cX7_allByParts 10 = .ok (.ifCond .ne 7, 3) := by decide +kernel
theorem dX7_allByParts_13 : decode cX7_allByParts 13 = .ok (.iconst 0, 1) := by decide +kernel
theorem dX7_allByParts_14 : decode cX7_allByParts 14 = .ok (.goto 18, 3) := by decide +kernel
theorem dX7_allByParts_17 : decode cX7_allByParts 17 = .ok (.aload_n 0, 1) := by decide +kernel
theorem dX7_allByParts_18 : decode cX7_allByParts 18 = .ok (.getfield 65, 3) := by decide +kernel
theorem dX7_allByParts_21 : decode cX7_allByParts 21 = .ok (.iconst 0, 1) := by decide +kernel
theorem dX7_allByParts_22 : decode cX7_allByParts 22 = .ok (.aload_n 0, 1) := by decide +kernel
theorem dX7_allByParts_23 : decode cX7_allByParts 23 = .ok (.getfield 7, 3) := by decide +kernel
theorem dX7_allByParts_26 : decode cX7_allByParts 26 = .ok (.iconst 0, 1) := by decide +kernel
theorem dX7_allByParts_27 : decode cX7_allByParts 27 = .ok (.iaload, 1) := by decide +kernel
theorem dX7_allByParts_28 : decode cX7_allByParts 28 = .ok (.invokestatic 161, 3) := by decide +kernel
theorem dX7_allByParts_31 : decode cX7_allByParts 31 = .ok (.iaload, 1) := by decide +kernel
theorem dX7_allByParts_32 : decode cX7_allByParts 32 = .ok (.ireturn, 1) := by decide +kernel
theorem dX7_begins_0 : decode cX7_begins 0 = .ok (.aload_n 0, 1) := by decide +kernel
theorem dX7_begins_1 : decode cX7_begins 1 = .ok (.getfield 7, 3) := by decide +kernel
theorem dX7_begins_4 : decode cX7_begins 4 = .ok (.iconst 1, 1) := by decide +kernel
theorem dX7_begins_5 : decode cX7_begins 5 = .ok (.iconst 0, 1) := by decide +kernel
theorem dX7_begins_6 : decode cX7_begins 6 = .ok (.iastore, 1) := by decide +kernel
theorem dX7_begins_7 : decode cX7_begins 7 = .ok (.iconst 0, 1) := by decide +kernel
theorem dX7_begins_8 : decode cX7_begins 8 = .ok (.istore_n 1, 1) := by decide +kernel
theorem dX7_begins_9 : decode cX7_begins 9 = .ok (.iload_n 1, 1) := by decide +kernel
theorem dX7_begins_10 : decode cX7_begins 10 = .ok (.bipush 12, 2) := by decide +kernel
theorem dX7_begins_12 : decode cX7_begins 12 = .ok (.if_icmp .ge 19, 3) := by decide +kernel
theorem dX7_begins_15 : decode cX7_begins 15 = .ok (.aload_n 0, 1) := by decide +kernel
theorem dX7_begins_16 : decode cX7_begins 16 = .ok (.getfield 7, 3) := by decide +kernel
theorem dX7_begins_19 : decode cX7_begins 19 = .ok (.bipush 14, 2) := by decide +kernel
theorem dX7_begins_21 : decode cX7_begins 21 = .ok (.iload_n 1, 1) := by decide +kernel
theorem dX7_begins_22 : decode cX7_begins 22 = .ok (.iadd, 1) := by decide +kernel
theorem dX7_begins_23 : decode cX7_begins 23 = .ok (.iconst 0, 1) := by decide +kernel
theorem dX7_begins_24 : decode cX7_begins 24 = .ok (.iastore, 1) := by decide +kernel
theorem dX7_begins_25 : decode cX7_begins 25 = .ok (.iinc 1 1, 3) := by decide +kernel
theorem dX7_begins_28 : decode cX7_begins 28 = .ok (.goto (-19), 3) := by decide +kernel
theorem dX7_begins_31 : decode cX7_begins 31 = .ok (.aload_n 0, 1) := by decide +kernel
theorem dX7_begins_32 : decode cX7_begins 32 = .ok (.invokevirtual 187, 3) := by decide +kernel
theorem dX7_begins_35 : decode cX7_begins 35 = .ok (.aload_n 0, 1) := by decide +kernel
theorem dX7_begins_36 : decode cX7_begins 36 = .ok (.getfield 123, 3) := by decide +kernel
theorem dX7_begins_39 : decode cX7_begins 39 = .ok (.ireturn, 1) := by decide +kernel
theorem dX7_add_0 : decode cX7_add 0 = .ok (.aload_n 0, 1) := by decide +kernel
theorem dX7_add_1 : decode cX7_add 1 = .ok (.iconst 0, 1) := by decide +kernel
theorem dX7_add_2 : decode cX7_add 2 = .ok (.putfield 68, 3) := by decide +kernel
theorem dX7_add_5 : decode cX7_add 5 = .ok (.iload_n 1, 1) := by decide +kernel
theorem dX7_add_6 : decode cX7_add 6 = .ok (.iconst 0, 1) := by decide +kernel
theorem dX7_add_7 : decode cX7_add 7 = .ok (.bipush 6, 2) := by decide +kernel
theorem dX7_add_9 : decode cX7_add 9 = .ok (.invokestatic 72, 3) := by decide +kernel
theorem dX7_add_12 : decode cX7_add 12 = .ok (.ifCond .ne 9, 3) := by decide +kernel
theorem dX7_add_15 : decode cX7_add 15 = .ok (.aload_n 0, 1) := by decide +kernel
theorem dX7_add_16 : decode cX7_add 16 = .ok (.iconst 1, 1) := by decide +kernel
theorem dX7_add_17 : decode cX7_add 17 = .ok (.invokevirtual 190, 3) := by decide +kernel
theorem dX7_add_20 : decode cX7_add 20 = .ok (.ireturn, 1) := by decide +kernel
theorem dX7_add_21 : decode cX7_add 21 = .ok (.aload_n 0, 1) := by decide +kernel
theorem dX7_add_22 : decode cX7_add 22 = .ok (.getfield 7, 3) := by decide +kernel
theorem dX7_add_25 : decode cX7_add 25 = .ok (.iconst 0, 1) := by decide +kernel
theorem dX7_add_26 : decode cX7_add 26 = .ok (.iaload, 1) := by decide +kernel
theorem dX7_add_27 : decode cX7_add 27 = .ok (.bipush 12, 2) := by decide +kernel
theorem dX7_add_29 : decode cX7_add 29 = .ok (.if_icmp .ne 9, 3) := by decide +kernel
theorem dX7_add_32 : decode cX7_add 32 = .ok (.aload_n 0, 1) := by decide +kernel
theorem dX7_add_33 : decode cX7_add 33 = .ok (.iconst 2, 1) := by decide +kernel
theorem dX7_add_34 : decode cX7_add 34 = .ok (.invokevirtual 190, 3) := by decide +kernel
theorem dX7_add_37 : decode cX7_add 37 = .ok (.ireturn, 1) := by decide +kernel
theorem dX7_add_38 : decode cX7_add 38 = .ok (.aload_n 0, 1) := by decide +kernel
theorem dX7_add_39 : decode cX7_add 39 = .ok (.invokevirtual 193, 3) := by decide +kernel
theorem dX7_add_42 : decode cX7_add 42 = .ok (.aload_n 0, 1) := by decide +kernel
theorem dX7_add_43 : decode cX7_add 43 = .ok (.getfield 7, 3) := by decide +kernel
theorem dX7_add_46 : decode cX7_add 46 = .ok (.iconst 2, 1) := by decide +kernel
theorem dX7_add_47 : decode cX7_add 47 = .ok (.aload_n 0, 1) := by decide +kernel
theorem dX7_add_48 : decode cX7_add 48 = .ok (.getfield 7, 3) := by decide +kernel
theorem dX7_add_51 : decode cX7_add 51 = .ok (.iconst 0, 1) := by decide +kernel
theorem dX7_add_52 : decode cX7_add 52 = .ok (.iaload, 1) := by decide +kernel
theorem dX7_add_53 : decode cX7_add 53 = .ok (.iadd, 1) := by decide +kernel
theorem dX7_add_54 : decode cX7_add 54 = .ok (.iload_n 1, 1) := by decide +kernel
theorem dX7_add_55 : decode cX7_add 55 = .ok (.iastore, 1) := by decide +kernel
theorem dX7_add_56 : decode cX7_add 56 = .ok (.aload_n 0, 1) := by decide +kernel
theorem dX7_add_57 : decode cX7_add 57 = .ok (.getfield 7, 3) := by decide +kernel
theorem dX7_add_60 : decode cX7_add 60 = .ok (.iconst 0, 1) := by decide +kernel
theorem dX7_add_61 : decode cX7_add 61 = .ok (.dup2, 1) := by decide +kernel
theorem dX7_add_62 : decode cX7_add 62 = .ok (.iaload, 1) := by decide +kernel
theorem dX7_add_63 : decode cX7_add 63 = .ok (.iconst 1, 1) := by decide +kernel
theorem dX7_add_64 : decode cX7_add 64 = .ok (.iadd, 1) := by decide +kernel
theorem dX7_add_65 : decode cX7_add 65 = .ok (.iastore, 1) := by decide +kernel
theorem dX7_add_66 : decode cX7_add 66 = .ok (.aload_n 0, 1) := by decide +kernel
theorem dX7_add_67 : decode cX7_add 67 = .ok (.invokevirtual 196, 3) := by decide +kernel
theorem dX7_add_70 : decode cX7_add 70 = .ok (.ireturn, 1) := by decide +kernel
theorem dX7_change_0 : decode cX7_change 0 = .ok (.aload_n 0, 1) := by decide +kernel
theorem dX7_change_1 : decode cX7_change 1 = .ok (.iconst 0, 1) := by decide +kernel
theorem dX7_change_2 : decode cX7_change 2 = .ok (.putfield 68, 3) := by decide +kernel
theorem dX7_change_5 : decode cX7_change 5 = .ok (.aload_n 0, 1) := by decide +kernel
theorem dX7_change_6 : decode cX7_change 6 = .ok (.iload_n 1, 1) := by decide +kernel
theorem dX7_change_7 : decode cX7_change 7 = .ok (.invokevirtual 199, 3) := by decide +kernel
theorem dX7_change_10 : decode cX7_change 10 = .ok (.ifCond .ne 9, 3) := by decide +kernel
theorem dX7_change_13 : decode cX7_change 13 = .ok (.aload_n 0, 1) := by decide +kernel
theorem dX7_change_14 : decode cX7_change 14 = .ok (.iconst 1, 1) := by decide +kernel
theorem dX7_change_15 : decode cX7_change 15 = .ok (.invokevirtual 190, 3) := by decide +kernel
theorem dX7_change_18 : decode cX7_change 18 = .ok (.ireturn, 1) := by decide +kernel
theorem dX7_change_19 : decode cX7_change 19 = .ok (.iload_n 2, 1) := by decide +kernel
theorem dX7_change_20 : decode cX7_change 20 = .ok (.iconst 0, 1) := by decide +kernel
theorem dX7_change_21 : decode cX7_change 21 = .ok (.bipush 6, 2) := by decide +kernel
theorem dX7_change_23 : decode cX7_change 23 = .ok (.invokestatic 72, 3) := by decide +kernel
theorem dX7_change_26 : decode cX7_change 26 = .ok (.ifCond .ne 9, 3) := by decide +kernel
theorem dX7_change_29 : decode cX7_change 29 = .ok (.aload_n 0, 1) := by decide +kernel
theorem dX7_change_30 : decode cX7_change 30 = .ok (.iconst 2, 1) := by decide +kernel
theorem dX7_change_31 : decode cX7_change 31 = .ok (.invokevirtual 190, 3) := by decide +kernel
theorem dX7_change_34 : decode cX7_change 34 = .ok (.ireturn, 1) := by decide +kernel
theorem dX7_change_35 : decode cX7_change 35 = .ok (.aload_n 0, 1) := by decide +kernel
theorem dX7_change_36 : decode cX7_change 36 = .ok (.invokevirtual 193, 3) := by decide +kernel
theorem dX7_change_39 : decode cX7_change 39 = .ok (.aload_n 0, 1) := by decide +kernel
theorem dX7_change_40 : decode cX7_change 40 = .ok (.getfield 7, 3) := by decide +kernel
theorem dX7_change_43 : decode cX7_change 43 = .ok (.iconst 2, 1) := by decide +kernel
theorem dX7_change_44 : decode cX7_change 44 = .ok (.iload_n 1, 1) := by decide +kernel
theorem dX7_change_45 : decode cX7_change 45 = .ok (.iadd, 1) := by decide +kernel
theorem dX7_change_46 : decode cX7_change 46 = .ok (.iload_n 2, 1) := by decide +kernel
theorem dX7_change_47 : decode cX7_change 47 = .ok (.iastore, 1) := by decide +kernel
theorem dX7_change_48 : decode cX7_change 48 = .ok (.aload_n 0, 1) := by decide +kernel
theorem dX7_change_49 : decode cX7_change 49 = .ok (.invokevirtual 196, 3) := by decide +kernel
theorem dX7_change_52 : decode cX7_change 52 = .ok (.ireturn, 1) := by decide +kernel
theorem dX7_wipe_0 : decode cX7_wipe 0 = .ok (.aload_n 0, 1) := by decide +kernel
theorem dX7_wipe_1 : decode cX7_wipe 1 = .ok (.iconst 0, 1) := by decide +kernel
theorem dX7_wipe_2 : decode cX7_wipe 2 = .ok (.putfield 68, 3) := by decide +kernel
theorem dX7_wipe_5 : decode cX7_wipe 5 = .ok (.aload_n 0, 1) := by decide +kernel
theorem dX7_wipe_6 : decode cX7_wipe 6 = .ok (.iload_n 1, 1) := by decide +kernel
theorem dX7_wipe_7 : decode cX7_wipe 7 = .ok (.invokevirtual 199, 3) := by decide +kernel
theorem dX7_wipe_10 : decode cX7_wipe 10 = .ok (.ifCond .ne 9, 3) := by decide +kernel
theorem dX7_wipe_13 : decode cX7_wipe 13 = .ok (.aload_n 0, 1) := by decide +kernel
theorem dX7_wipe_14 : decode cX7_wipe 14 = .ok (.iconst 1, 1) := by decide +kernel
theorem dX7_wipe_15 : decode cX7_wipe 15 = .ok (.invokevirtual 190, 3) := by decide +kernel
theorem dX7_wipe_18 : decode cX7_wipe 18 = .ok (.ireturn, 1) := by decide +kernel
theorem dX7_wipe_19 : decode cX7_wipe 19 = .ok (.aload_n 0, 1) := by decide +kernel
theorem dX7_wipe_20 : decode cX7_wipe 20 = .ok (.invokevirtual 193, 3) := by decide +kernel
theorem dX7_wipe_23 : decode cX7_wipe 23 = .ok (.aload_n 0, 1) := by decide +kernel
theorem dX7_wipe_24 : decode cX7_wipe 24 = .ok (.getfield 7, 3) := by decide +kernel
theorem dX7_wipe_27 : decode cX7_wipe 27 = .ok (.iconst 0, 1) := by decide +kernel
theorem dX7_wipe_28 : decode cX7_wipe 28 = .ok (.dup2, 1) := by decide +kernel
theorem dX7_wipe_29 : decode cX7_wipe 29 = .ok (.iaload, 1) := by decide +kernel
theorem dX7_wipe_30 : decode cX7_wipe 30 = .ok (.iconst 1, 1) := by decide +kernel
theorem dX7_wipe_31 : decode cX7_wipe 31 = .ok (.isub, 1) := by decide +kernel
theorem dX7_wipe_32 : decode cX7_wipe 32 = .ok (.iastore, 1) := by decide +kernel
theorem dX7_wipe_33 : decode cX7_wipe 33 = .ok (.iload_n 1, 1) := by decide +kernel
theorem dX7_wipe_34 : decode cX7_wipe 34 = .ok (.istore_n 2, 1) := by decide +kernel
theorem dX7_wipe_35 : decode cX7_wipe 35 = .ok (.iload_n 2, 1) := by decide +kernel
theorem dX7_wipe_36 : decode cX7_wipe 36 = .ok (.aload_n 0, 1) := by decide +kernel
theorem dX7_wipe_37 : decode cX7_wipe 37 = .ok (.getfield 7, 3) := by decide +kernel
theorem dX7_wipe_40 : decode cX7_wipe 40 = .ok (.iconst 0, 1) := by decide +kernel
theorem dX7_wipe_41 : decode cX7_wipe 41 = .ok (.iaload, 1) := by decide +kernel
theorem dX7_wipe_42 : decode cX7_wipe 42 = .ok (.if_icmp .ge 27, 3) := by decide +kernel
theorem dX7_wipe_45 : decode cX7_wipe 45 = .ok (.aload_n 0, 1) := by decide +kernel
theorem dX7_wipe_46 : decode cX7_wipe 46 = .ok (.getfield 7, 3) := by decide +kernel
theorem dX7_wipe_49 : decode cX7_wipe 49 = .ok (.iconst 2, 1) := by decide +kernel
theorem dX7_wipe_50 : decode cX7_wipe 50 = .ok (.iload_n 2, 1) := by decide +kernel
theorem dX7_wipe_51 : decode cX7_wipe 51 = .ok (.iadd, 1) := by decide +kernel
theorem dX7_wipe_52 : decode cX7_wipe 52 = .ok (.aload_n 0, 1) := by decide +kernel
theorem dX7_wipe_53 : decode cX7_wipe 53 = .ok (.getfield 7, 3) := by decide +kernel
theorem dX7_wipe_56 : decode cX7_wipe 56 = .ok (.iconst 2, 1) := by decide +kernel
theorem dX7_wipe_57 : decode cX7_wipe 57 = .ok (.iload_n 2, 1) := by decide +kernel
theorem dX7_wipe_58 : decode cX7_wipe 58 = .ok (.iadd, 1) := by decide +kernel
theorem dX7_wipe_59 : decode cX7_wipe 59 = .ok (.iconst 1, 1) := by decide +kernel
theorem dX7_wipe_60 : decode cX7_wipe 60 = .ok (.iadd, 1) := by decide +kernel
theorem dX7_wipe_61 : decode cX7_wipe 61 = .ok (.iaload, 1) := by decide +kernel
theorem dX7_wipe_62 : decode cX7_wipe 62 = .ok (.iastore, 1) := by decide +kernel
theorem dX7_wipe_63 : decode cX7_wipe 63 = .ok (.iinc 2 1, 3) := by decide +kernel
theorem dX7_wipe_66 : decode cX7_wipe 66 = .ok (.goto (-31), 3) := by decide +kernel
theorem dX7_wipe_69 : decode cX7_wipe 69 = .ok (.aload_n 0, 1) := by decide +kernel
theorem dX7_wipe_70 : decode cX7_wipe 70 = .ok (.getfield 7, 3) := by decide +kernel
theorem dX7_wipe_73 : decode cX7_wipe 73 = .ok (.iconst 2, 1) := by decide +kernel
theorem dX7_wipe_74 : decode cX7_wipe 74 = .ok (.aload_n 0, 1) := by decide +kernel
theorem dX7_wipe_75 : decode cX7_wipe 75 = .ok (.getfield 7, 3) := by decide +kernel
theorem dX7_wipe_78 : decode cX7_wipe 78 = .ok (.iconst 0, 1) := by decide +kernel
theorem dX7_wipe_79 : decode cX7_wipe 79 = .ok (.iaload, 1) := by decide +kernel
theorem dX7_wipe_80 : decode cX7_wipe 80 = .ok (.iadd, 1) := by decide +kernel
theorem dX7_wipe_81 : decode cX7_wipe 81 = .ok (.iconst 0, 1) := by decide +kernel
theorem dX7_wipe_82 : decode cX7_wipe 82 = .ok (.iastore, 1) := by decide +kernel
theorem dX7_wipe_83 : decode cX7_wipe 83 = .ok (.aload_n 0, 1) := by decide +kernel
theorem dX7_wipe_84 : decode cX7_wipe 84 = .ok (.invokevirtual 196, 3) := by decide +kernel
theorem dX7_wipe_87 : decode cX7_wipe 87 = .ok (.ireturn, 1) := by decide +kernel
theorem dX7_isHead_0 : decode cX7_isHead 0 = .ok (.iload_n 2, 1) := by decide +kernel
theorem dX7_isHead_1 : decode cX7_isHead 1 = .ok (.iconst (-1), 1) := by decide +kernel
theorem dX7_isHead_2 : decode cX7_isHead 2 = .ok (.aload_n 0, 1) := by decide +kernel
theorem dX7_isHead_3 : decode cX7_isHead 3 = .ok (.getfield 7, 3) := by decide +kernel
theorem dX7_isHead_6 : decode cX7_isHead 6 = .ok (.iconst 0, 1) := by decide +kernel
theorem dX7_isHead_7 : decode cX7_isHead 7 = .ok (.iaload, 1) := by decide +kernel
theorem dX7_isHead_8 : decode cX7_isHead 8 = .ok (.iconst 1, 1) := by decide +kernel
theorem dX7_isHead_9 : decode cX7_isHead 9 = .ok (.isub, 1) := by decide +kernel
theorem dX7_isHead_10 : decode cX7_isHead 10 = .ok (.invokestatic 72, 3) := by decide +kernel
theorem dX7_isHead_13 : decode cX7_isHead 13 = .ok (.ifCond .eq 12, 3) := by decide +kernel
theorem dX7_isHead_16 : decode cX7_isHead 16 = .ok (.iload_n 2, 1) := by decide +kernel
theorem dX7_isHead_17 : decode cX7_isHead 17 = .ok (.iload_n 1, 1) := by decide +kernel
theorem dX7_isHead_18 : decode cX7_isHead 18 = .ok (.if_icmp .eq 7, 3) := by decide +kernel
theorem dX7_isHead_21 : decode cX7_isHead 21 = .ok (.iconst 1, 1) := by decide +kernel
theorem dX7_isHead_22 : decode cX7_isHead 22 = .ok (.goto 4, 3) := by decide +kernel
theorem dX7_isHead_25 : decode cX7_isHead 25 = .ok (.iconst 0, 1) := by decide +kernel
theorem dX7_isHead_26 : decode cX7_isHead 26 = .ok (.ireturn, 1) := by decide +kernel
theorem dX7_leftBy_0 : decode cX7_leftBy 0 = .ok (.iconst 0, 1) := by decide +kernel
theorem dX7_leftBy_1 : decode cX7_leftBy 1 = .ok (.istore_n 3, 1) := by decide +kernel
theorem dX7_leftBy_2 : decode cX7_leftBy 2 = .ok (.iconst 0, 1) := by decide +kernel
theorem dX7_leftBy_3 : decode cX7_leftBy 3 = .ok (.istore 4, 2) := by decide +kernel
theorem dX7_leftBy_5 : decode cX7_leftBy 5 = .ok (.iload 4, 2) := by decide +kernel
theorem dX7_leftBy_7 : decode cX7_leftBy 7 = .ok (.aload_n 0, 1) := by decide +kernel
theorem dX7_leftBy_8 : decode cX7_leftBy 8 = .ok (.getfield 123, 3) := by decide +kernel
theorem dX7_leftBy_11 : decode cX7_leftBy 11 = .ok (.if_icmp .ge 38, 3) := by decide +kernel
theorem dX7_leftBy_14 : decode cX7_leftBy 14 = .ok (.iload_n 3, 1) := by decide +kernel
theorem dX7_leftBy_15 : decode cX7_leftBy 15 = .ok (.aload_n 0, 1) := by decide +kernel
theorem dX7_leftBy_16 : decode cX7_leftBy 16 = .ok (.iload 4, 2) := by decide +kernel
theorem dX7_leftBy_18 : decode cX7_leftBy 18 = .ok (.iload_n 1, 1) := by decide +kernel
theorem dX7_leftBy_19 : decode cX7_leftBy 19 = .ok (.invokevirtual 145, 3) := by decide +kernel
theorem dX7_leftBy_22 : decode cX7_leftBy 22 = .ok (.ifCond .eq 18, 3) := by decide +kernel
theorem dX7_leftBy_25 : decode cX7_leftBy 25 = .ok (.aload_n 0, 1) := by decide +kernel
theorem dX7_leftBy_26 : decode cX7_leftBy 26 = .ok (.iload 4, 2) := by decide +kernel
theorem dX7_leftBy_28 : decode cX7_leftBy 28 = .ok (.iload_n 1, 1) := by decide +kernel
theorem dX7_leftBy_29 : decode cX7_leftBy 29 = .ok (.invokevirtual 148, 3) := by decide +kernel
theorem dX7_leftBy_32 : decode cX7_leftBy 32 = .ok (.iload_n 2, 1) := by decide +kernel
theorem dX7_leftBy_33 : decode cX7_leftBy 33 = .ok (.if_icmp .ne 7, 3) := by decide +kernel
theorem dX7_leftBy_36 : decode cX7_leftBy 36 = .ok (.iconst 1, 1) := by decide +kernel
theorem dX7_leftBy_37 : decode cX7_leftBy 37 = .ok (.goto 4, 3) := by decide +kernel
theorem dX7_leftBy_40 : decode cX7_leftBy 40 = .ok (.iconst 0, 1) := by decide +kernel
theorem dX7_leftBy_41 : decode cX7_leftBy 41 = .ok (.iadd, 1) := by decide +kernel
theorem dX7_leftBy_42 : decode cX7_leftBy 42 = .ok (.istore_n 3, 1) := by decide +kernel
theorem dX7_leftBy_43 : decode cX7_leftBy 43 = .ok (.iinc 4 1, 3) := by decide +kernel
theorem dX7_leftBy_46 : decode cX7_leftBy 46 = .ok (.goto (-41), 3) := by decide +kernel
theorem dX7_leftBy_49 : decode cX7_leftBy 49 = .ok (.iload_n 3, 1) := by decide +kernel
theorem dX7_leftBy_50 : decode cX7_leftBy 50 = .ok (.ireturn, 1) := by decide +kernel
theorem dX7_fix_0 : decode cX7_fix 0 = .ok (.aload_n 0, 1) := by decide +kernel
theorem dX7_fix_1 : decode cX7_fix 1 = .ok (.iconst 0, 1) := by decide +kernel
theorem dX7_fix_2 : decode cX7_fix 2 = .ok (.putfield 68, 3) := by decide +kernel
theorem dX7_fix_5 : decode cX7_fix 5 = .ok (.aload_n 0, 1) := by decide +kernel
theorem dX7_fix_6 : decode cX7_fix 6 = .ok (.iload_n 1, 1) := by decide +kernel
theorem dX7_fix_7 : decode cX7_fix 7 = .ok (.invokevirtual 199, 3) := by decide +kernel
theorem dX7_fix_10 : decode cX7_fix 10 = .ok (.ifCond .eq 12, 3) := by decide +kernel
theorem dX7_fix_13 : decode cX7_fix 13 = .ok (.aload_n 0, 1) := by decide +kernel
theorem dX7_fix_14 : decode cX7_fix 14 = .ok (.iload_n 1, 1) := by decide +kernel
theorem dX7_fix_15 : decode cX7_fix 15 = .ok (.iload_n 2, 1) := by decide +kernel
theorem dX7_fix_16 : decode cX7_fix 16 = .ok (.invokevirtual 202, 3) := by decide +kernel
theorem dX7_fix_19 : decode cX7_fix 19 = .ok (.ifCond .ne 9, 3) := by decide +kernel
theorem dX7_fix_22 : decode cX7_fix 22 = .ok (.aload_n 0, 1) := by decide +kernel
theorem dX7_fix_23 : decode cX7_fix 23 = .ok (.iconst 1, 1) := by decide +kernel
theorem dX7_fix_24 : decode cX7_fix 24 = .ok (.invokevirtual 190, 3) := by decide +kernel
theorem dX7_fix_27 : decode cX7_fix 27 = .ok (.ireturn, 1) := by decide +kernel
theorem dX7_fix_28 : decode cX7_fix 28 = .ok (.aload_n 0, 1) := by decide +kernel
theorem dX7_fix_29 : decode cX7_fix 29 = .ok (.invokevirtual 187, 3) := by decide +kernel
theorem dX7_fix_32 : decode cX7_fix 32 = .ok (.aload_n 0, 1) := by decide +kernel
theorem dX7_fix_33 : decode cX7_fix 33 = .ok (.iload_n 1, 1) := by decide +kernel
theorem dX7_fix_34 : decode cX7_fix 34 = .ok (.iload_n 2, 1) := by decide +kernel
theorem dX7_fix_35 : decode cX7_fix 35 = .ok (.invokevirtual 205, 3) := by decide +kernel
theorem dX7_fix_38 : decode cX7_fix 38 = .ok (.istore_n 3, 1) := by decide +kernel
theorem dX7_fix_39 : decode cX7_fix 39 = .ok (.iload_n 3, 1) := by decide +kernel
theorem dX7_fix_40 : decode cX7_fix 40 = .ok (.ifCond .ne 9, 3) := by decide +kernel
theorem dX7_fix_43 : decode cX7_fix 43 = .ok (.aload_n 0, 1) := by decide +kernel
theorem dX7_fix_44 : decode cX7_fix 44 = .ok (.iconst 2, 1) := by decide +kernel
theorem dX7_fix_45 : decode cX7_fix 45 = .ok (.invokevirtual 190, 3) := by decide +kernel
theorem dX7_fix_48 : decode cX7_fix 48 = .ok (.ireturn, 1) := by decide +kernel
theorem dX7_fix_49 : decode cX7_fix 49 = .ok (.aload_n 0, 1) := by decide +kernel
theorem dX7_fix_50 : decode cX7_fix 50 = .ok (.invokevirtual 193, 3) := by decide +kernel
theorem dX7_fix_53 : decode cX7_fix 53 = .ok (.aload_n 0, 1) := by decide +kernel
theorem dX7_fix_54 : decode cX7_fix 54 = .ok (.getfield 7, 3) := by decide +kernel
theorem dX7_fix_57 : decode cX7_fix 57 = .ok (.bipush 14, 2) := by decide +kernel
theorem dX7_fix_59 : decode cX7_fix 59 = .ok (.iload_n 1, 1) := by decide +kernel
theorem dX7_fix_60 : decode cX7_fix 60 = .ok (.iadd, 1) := by decide +kernel
theorem dX7_fix_61 : decode cX7_fix 61 = .ok (.iload_n 2, 1) := by decide +kernel
theorem dX7_fix_62 : decode cX7_fix 62 = .ok (.iconst 2, 1) := by decide +kernel
theorem dX7_fix_63 : decode cX7_fix 63 = .ok (.iadd, 1) := by decide +kernel
theorem dX7_fix_64 : decode cX7_fix 64 = .ok (.iastore, 1) := by decide +kernel
theorem dX7_fix_65 : decode cX7_fix 65 = .ok (.aload_n 0, 1) := by decide +kernel
theorem dX7_fix_66 : decode cX7_fix 66 = .ok (.getfield 7, 3) := by decide +kernel
theorem dX7_fix_69 : decode cX7_fix 69 = .ok (.iconst 1, 1) := by decide +kernel
theorem dX7_fix_70 : decode cX7_fix 70 = .ok (.iconst 0, 1) := by decide +kernel
theorem dX7_fix_71 : decode cX7_fix 71 = .ok (.iastore, 1) := by decide +kernel
theorem dX7_fix_72 : decode cX7_fix 72 = .ok (.iload_n 3, 1) := by decide +kernel
theorem dX7_fix_73 : decode cX7_fix 73 = .ok (.ireturn, 1) := by decide +kernel
theorem dX7_loosen_0 : decode cX7_loosen 0 = .ok (.aload_n 0, 1) := by decide +kernel
theorem dX7_loosen_1 : decode cX7_loosen 1 = .ok (.iconst 0, 1) := by decide +kernel
theorem dX7_loosen_2 : decode cX7_loosen 2 = .ok (.putfield 68, 3) := by decide +kernel
theorem dX7_loosen_5 : decode cX7_loosen 5 = .ok (.aload_n 0, 1) := by decide +kernel
theorem dX7_loosen_6 : decode cX7_loosen 6 = .ok (.iload_n 1, 1) := by decide +kernel
theorem dX7_loosen_7 : decode cX7_loosen 7 = .ok (.invokevirtual 199, 3) := by decide +kernel
theorem dX7_loosen_10 : decode cX7_loosen 10 = .ok (.ifCond .ne 9, 3) := by decide +kernel
theorem dX7_loosen_13 : decode cX7_loosen 13 = .ok (.aload_n 0, 1) := by decide +kernel
theorem dX7_loosen_14 : decode cX7_loosen 14 = .ok (.iconst 1, 1) := by decide +kernel
theorem dX7_loosen_15 : decode cX7_loosen 15 = .ok (.invokevirtual 190, 3) := by decide +kernel
theorem dX7_loosen_18 : decode cX7_loosen 18 = .ok (.ireturn, 1) := by decide +kernel
theorem dX7_loosen_19 : decode cX7_loosen 19 = .ok (.aload_n 0, 1) := by decide +kernel
theorem dX7_loosen_20 : decode cX7_loosen 20 = .ok (.invokevirtual 193, 3) := by decide +kernel
theorem dX7_loosen_23 : decode cX7_loosen 23 = .ok (.aload_n 0, 1) := by decide +kernel
theorem dX7_loosen_24 : decode cX7_loosen 24 = .ok (.getfield 7, 3) := by decide +kernel
theorem dX7_loosen_27 : decode cX7_loosen 27 = .ok (.bipush 14, 2) := by decide +kernel
theorem dX7_loosen_29 : decode cX7_loosen 29 = .ok (.iload_n 1, 1) := by decide +kernel
theorem dX7_loosen_30 : decode cX7_loosen 30 = .ok (.iadd, 1) := by decide +kernel
theorem dX7_loosen_31 : decode cX7_loosen 31 = .ok (.iconst 0, 1) := by decide +kernel
theorem dX7_loosen_32 : decode cX7_loosen 32 = .ok (.iastore, 1) := by decide +kernel
theorem dX7_loosen_33 : decode cX7_loosen 33 = .ok (.aload_n 0, 1) := by decide +kernel
theorem dX7_loosen_34 : decode cX7_loosen 34 = .ok (.getfield 7, 3) := by decide +kernel
theorem dX7_loosen_37 : decode cX7_loosen 37 = .ok (.iconst 1, 1) := by decide +kernel
theorem dX7_loosen_38 : decode cX7_loosen 38 = .ok (.iconst 0, 1) := by decide +kernel
theorem dX7_loosen_39 : decode cX7_loosen 39 = .ok (.iastore, 1) := by decide +kernel
theorem dX7_loosen_40 : decode cX7_loosen 40 = .ok (.aload_n 0, 1) := by decide +kernel
theorem dX7_loosen_41 : decode cX7_loosen 41 = .ok (.invokevirtual 187, 3) := by decide +kernel
theorem dX7_loosen_44 : decode cX7_loosen 44 = .ok (.aload_n 0, 1) := by decide +kernel
theorem dX7_loosen_45 : decode cX7_loosen 45 = .ok (.getfield 142, 3) := by decide +kernel
theorem dX7_loosen_48 : decode cX7_loosen 48 = .ok (.ireturn, 1) := by decide +kernel
theorem dX7_draw_0 : decode cX7_draw 0 = .ok (.aload_n 0, 1) := by decide +kernel
theorem dX7_draw_1 : decode cX7_draw 1 = .ok (.iconst 0, 1) := by decide +kernel
theorem dX7_draw_2 : decode cX7_draw 2 = .ok (.putfield 68, 3) := by decide +kernel
theorem dX7_draw_5 : decode cX7_draw 5 = .ok (.aload_n 0, 1) := by decide +kernel
theorem dX7_draw_6 : decode cX7_draw 6 = .ok (.invokevirtual 187, 3) := by decide +kernel
theorem dX7_draw_9 : decode cX7_draw 9 = .ok (.iload_n 1, 1) := by decide +kernel
theorem dX7_draw_10 : decode cX7_draw 10 = .ok (.iconst 0, 1) := by decide +kernel
theorem dX7_draw_11 : decode cX7_draw 11 = .ok (.aload_n 0, 1) := by decide +kernel
theorem dX7_draw_12 : decode cX7_draw 12 = .ok (.getfield 142, 3) := by decide +kernel
theorem dX7_draw_15 : decode cX7_draw 15 = .ok (.iconst 1, 1) := by decide +kernel
theorem dX7_draw_16 : decode cX7_draw 16 = .ok (.isub, 1) := by decide +kernel
theorem dX7_draw_17 : decode cX7_draw 17 = .ok (.invokestatic 72, 3) := by decide +kernel
theorem dX7_draw_20 : decode cX7_draw 20 = .ok (.ifCond .ne 9, 3) := by decide +kernel
theorem dX7_draw_23 : decode cX7_draw 23 = .ok (.aload_n 0, 1) := by decide +kernel
theorem dX7_draw_24 : decode cX7_draw 24 = .ok (.iconst 1, 1) := by decide +kernel
theorem dX7_draw_25 : decode cX7_draw 25 = .ok (.invokevirtual 190, 3) := by decide +kernel
theorem dX7_draw_28 : decode cX7_draw 28 = .ok (.ireturn, 1) := by decide +kernel
theorem dX7_draw_29 : decode cX7_draw 29 = .ok (.aload_n 0, 1) := by decide +kernel
theorem dX7_draw_30 : decode cX7_draw 30 = .ok (.invokevirtual 193, 3) := by decide +kernel
theorem dX7_draw_33 : decode cX7_draw 33 = .ok (.aload_n 0, 1) := by decide +kernel
theorem dX7_draw_34 : decode cX7_draw 34 = .ok (.getfield 7, 3) := by decide +kernel
theorem dX7_draw_37 : decode cX7_draw 37 = .ok (.iconst 1, 1) := by decide +kernel
theorem dX7_draw_38 : decode cX7_draw 38 = .ok (.iload_n 1, 1) := by decide +kernel
theorem dX7_draw_39 : decode cX7_draw 39 = .ok (.iastore, 1) := by decide +kernel
theorem dX7_draw_40 : decode cX7_draw 40 = .ok (.aload_n 0, 1) := by decide +kernel
theorem dX7_draw_41 : decode cX7_draw 41 = .ok (.aload_n 0, 1) := by decide +kernel
theorem dX7_draw_42 : decode cX7_draw 42 = .ok (.getfield 47, 3) := by decide +kernel
theorem dX7_draw_45 : decode cX7_draw 45 = .ok (.iload_n 1, 1) := by decide +kernel
theorem dX7_draw_46 : decode cX7_draw 46 = .ok (.iaload, 1) := by decide +kernel
theorem dX7_draw_47 : decode cX7_draw 47 = .ok (.invokevirtual 208, 3) := by decide +kernel
theorem dX7_draw_50 : decode cX7_draw 50 = .ok (.ireturn, 1) := by decide +kernel
theorem dX7_flatten_0 : decode cX7_flatten 0 = .ok (.aload_n 0, 1) := by decide +kernel
theorem dX7_flatten_1 : decode cX7_flatten 1 = .ok (.iconst 0, 1) := by decide +kernel
theorem dX7_flatten_2 : decode cX7_flatten 2 = .ok (.putfield 68, 3) := by decide +kernel
theorem dX7_flatten_5 : decode cX7_flatten 5 = .ok (.aload_n 0, 1) := by decide +kernel
theorem dX7_flatten_6 : decode cX7_flatten 6 = .ok (.invokevirtual 187, 3) := by decide +kernel
theorem dX7_flatten_9 : decode cX7_flatten 9 = .ok (.aload_n 0, 1) := by decide +kernel
theorem dX7_flatten_10 : decode cX7_flatten 10 = .ok (.getfield 142, 3) := by decide +kernel
theorem dX7_flatten_13 : decode cX7_flatten 13 = .ok (.ifCond .ne 9, 3) := by decide +kernel
theorem dX7_flatten_16 : decode cX7_flatten 16 = .ok (.aload_n 0, 1) := by decide +kernel
theorem dX7_flatten_17 : decode cX7_flatten 17 = .ok (.iconst 1, 1) := by decide +kernel
theorem dX7_flatten_18 : decode cX7_flatten 18 = .ok (.invokevirtual 190, 3) := by decide +kernel
theorem dX7_flatten_21 : decode cX7_flatten 21 = .ok (.ireturn, 1) := by decide +kernel
theorem dX7_flatten_22 : decode cX7_flatten 22 = .ok (.aload_n 0, 1) := by decide +kernel
theorem dX7_flatten_23 : decode cX7_flatten 23 = .ok (.invokevirtual 193, 3) := by decide +kernel
theorem dX7_flatten_26 : decode cX7_flatten 26 = .ok (.iconst 0, 1) := by decide +kernel
theorem dX7_flatten_27 : decode cX7_flatten 27 = .ok (.istore_n 1, 1) := by decide +kernel
theorem dX7_flatten_28 : decode cX7_flatten 28 = .ok (.iconst 1, 1) := by decide +kernel
theorem dX7_flatten_29 : decode cX7_flatten 29 = .ok (.istore_n 2, 1) := by decide +kernel
theorem dX7_flatten_30 : decode cX7_flatten 30 = .ok (.iload_n 2, 1) := by decide +kernel
theorem dX7_flatten_31 : decode cX7_flatten 31 = .ok (.aload_n 0, 1) := by decide +kernel
theorem dX7_flatten_32 : decode cX7_flatten 32 = .ok (.getfield 142, 3) := by decide +kernel
theorem dX7_flatten_35 : decode cX7_flatten 35 = .ok (.if_icmp .ge 38, 3) := by decide +kernel
theorem dX7_flatten_38 : decode cX7_flatten 38 = .ok (.aload_n 0, 1) := by decide +kernel
theorem dX7_flatten_39 : decode cX7_flatten 39 = .ok (.aload_n 0, 1) := by decide +kernel
theorem dX7_flatten_40 : decode cX7_flatten 40 = .ok (.getfield 47, 3) := by decide +kernel
theorem dX7_flatten_43 : decode cX7_flatten 43 = .ok (.iload_n 2, 1) := by decide +kernel
theorem dX7_flatten_44 : decode cX7_flatten 44 = .ok (.iaload, 1) := by decide +kernel
theorem dX7_flatten_45 : decode cX7_flatten 45 = .ok (.invokevirtual 208, 3) := by decide +kernel
theorem dX7_flatten_48 : decode cX7_flatten 48 = .ok (.aload_n 0, 1) := by decide +kernel
theorem dX7_flatten_49 : decode cX7_flatten 49 = .ok (.aload_n 0, 1) := by decide +kernel
theorem dX7_flatten_50 : decode cX7_flatten 50 = .ok (.getfield 47, 3) := by decide +kernel
theorem dX7_flatten_53 : decode cX7_flatten 53 = .ok (.iload_n 1, 1) := by decide +kernel
theorem dX7_flatten_54 : decode cX7_flatten 54 = .ok (.iaload, 1) := by decide +kernel
theorem dX7_flatten_55 : decode cX7_flatten 55 = .ok (.invokevirtual 208, 3) := by decide +kernel
theorem dX7_flatten_58 : decode cX7_flatten 58 = .ok (.if_icmp .ge 7, 3) := by decide +kernel
theorem dX7_flatten_61 : decode cX7_flatten 61 = .ok (.iload_n 2, 1) := by decide +kernel
theorem dX7_flatten_62 : decode cX7_flatten 62 = .ok (.goto 4, 3) := by decide +kernel
theorem dX7_flatten_65 : decode cX7_flatten 65 = .ok (.iload_n 1, 1) := by decide +kernel
theorem dX7_flatten_66 : decode cX7_flatten 66 = .ok (.istore_n 1, 1) := by decide +kernel
theorem dX7_flatten_67 : decode cX7_flatten 67 = .ok (.iinc 2 1, 3) := by decide +kernel
theorem dX7_flatten_70 : decode cX7_flatten 70 = .ok (.goto (-40), 3) := by decide +kernel
theorem dX7_flatten_73 : decode cX7_flatten 73 = .ok (.aload_n 0, 1) := by decide +kernel
theorem dX7_flatten_74 : decode cX7_flatten 74 = .ok (.getfield 7, 3) := by decide +kernel
theorem dX7_flatten_77 : decode cX7_flatten 77 = .ok (.iconst 1, 1) := by decide +kernel
theorem dX7_flatten_78 : decode cX7_flatten 78 = .ok (.iload_n 1, 1) := by decide +kernel
theorem dX7_flatten_79 : decode cX7_flatten 79 = .ok (.iastore, 1) := by decide +kernel
theorem dX7_flatten_80 : decode cX7_flatten 80 = .ok (.iload_n 1, 1) := by decide +kernel
theorem dX7_flatten_81 : decode cX7_flatten 81 = .ok (.ireturn, 1) := by decide +kernel
theorem dX7_append_0 : decode cX7_append 0 = .ok (.aload_n 0, 1) := by decide +kernel
theorem dX7_append_1 : decode cX7_append 1 = .ok (.iconst 0, 1) := by decide +kernel
theorem dX7_append_2 : decode cX7_append 2 = .ok (.putfield 68, 3) := by decide +kernel
theorem dX7_append_5 : decode cX7_append 5 = .ok (.iload_n 1, 1) := by decide +kernel
theorem dX7_append_6 : decode cX7_append 6 = .ok (.bipush 33, 2) := by decide +kernel
theorem dX7_append_8 : decode cX7_append 8 = .ok (.bipush 126, 2) := by decide +kernel
theorem dX7_append_10 : decode cX7_append 10 = .ok (.invokestatic 72, 3) := by decide +kernel
theorem dX7_append_13 : decode cX7_append 13 = .ok (.ifCond .ne 9, 3) := by decide +kernel
theorem dX7_append_16 : decode cX7_append 16 = .ok (.aload_n 0, 1) := by decide +kernel
theorem dX7_append_17 : decode cX7_append 17 = .ok (.iconst 1, 1) := by decide +kernel
theorem dX7_append_18 : decode cX7_append 18 = .ok (.invokevirtual 190, 3) := by decide +kernel
theorem dX7_append_21 : decode cX7_append 21 = .ok (.ireturn, 1) := by decide +kernel
theorem dX7_append_22 : decode cX7_append 22 = .ok (.aload_n 0, 1) := by decide +kernel
theorem dX7_append_23 : decode cX7_append 23 = .ok (.getfield 211, 3) := by decide +kernel
theorem dX7_append_26 : decode cX7_append 26 = .ok (.bipush 20, 2) := by decide +kernel
theorem dX7_append_28 : decode cX7_append 28 = .ok (.if_icmp .ne 9, 3) := by decide +kernel
theorem dX7_append_31 : decode cX7_append 31 = .ok (.aload_n 0, 1) := by decide +kernel
theorem dX7_append_32 : decode cX7_append 32 = .ok (.iconst 2, 1) := by decide +kernel
theorem dX7_append_33 : decode cX7_append 33 = .ok (.invokevirtual 190, 3) := by decide +kernel
theorem dX7_append_36 : decode cX7_append 36 = .ok (.ireturn, 1) := by decide +kernel
theorem dX7_append_37 : decode cX7_append 37 = .ok (.aload_n 0, 1) := by decide +kernel
theorem dX7_append_38 : decode cX7_append 38 = .ok (.getfield 23, 3) := by decide +kernel
theorem dX7_append_41 : decode cX7_append 41 = .ok (.aload_n 0, 1) := by decide +kernel
theorem dX7_append_42 : decode cX7_append 42 = .ok (.getfield 211, 3) := by decide +kernel
theorem dX7_append_45 : decode cX7_append 45 = .ok (.iload_n 1, 1) := by decide +kernel
theorem dX7_append_46 : decode cX7_append 46 = .ok (.iastore, 1) := by decide +kernel
theorem dX7_append_47 : decode cX7_append 47 = .ok (.aload_n 0, 1) := by decide +kernel
theorem dX7_append_48 : decode cX7_append 48 = .ok (.dup, 1) := by decide +kernel
theorem dX7_append_49 : decode cX7_append 49 = .ok (.getfield 211, 3) := by decide +kernel
theorem dX7_append_52 : decode cX7_append 52 = .ok (.iconst 1, 1) := by decide +kernel
theorem dX7_append_53 : decode cX7_append 53 = .ok (.iadd, 1) := by decide +kernel
theorem dX7_append_54 : decode cX7_append 54 = .ok (.putfield 211, 3) := by decide +kernel
theorem dX7_append_57 : decode cX7_append 57 = .ok (.aload_n 0, 1) := by decide +kernel
theorem dX7_append_58 : decode cX7_append 58 = .ok (.getfield 211, 3) := by decide +kernel
theorem dX7_append_61 : decode cX7_append 61 = .ok (.ireturn, 1) := by decide +kernel
theorem dX7_clearBuffer_0 : decode cX7_clearBuffer 0 = .ok (.aload_n 0, 1) := by decide +kernel
theorem dX7_clearBuffer_1 : decode cX7_clearBuffer 1 = .ok (.iconst 0, 1) := by decide +kernel
theorem dX7_clearBuffer_2 : decode cX7_clearBuffer 2 = .ok (.putfield 68, 3) := by decide +kernel
theorem dX7_clearBuffer_5 : decode cX7_clearBuffer 5 = .ok (.aload_n 0, 1) := by decide +kernel
theorem dX7_clearBuffer_6 : decode cX7_clearBuffer 6 = .ok (.getfield 211, 3) := by decide +kernel
theorem dX7_clearBuffer_9 : decode cX7_clearBuffer 9 = .ok (.istore_n 1, 1) := by decide +kernel
theorem dX7_clearBuffer_10 : decode cX7_clearBuffer 10 = .ok (.aload_n 0, 1) := by decide +kernel
theorem dX7_clearBuffer_11 : decode cX7_clearBuffer 11 = .ok (.iconst 0, 1) := by decide +kernel
theorem dX7_clearBuffer_12 : decode cX7_clearBuffer 12 = .ok (.putfield 211, 3) := by decide +kernel
theorem dX7_clearBuffer_15 : decode cX7_clearBuffer 15 = .ok (.iload_n 1, 1) := by decide +kernel
theorem dX7_clearBuffer_16 : decode cX7_clearBuffer 16 = .ok (.ireturn, 1) := by decide +kernel
theorem dX7_letterOf_0 : decode cX7_letterOf 0 = .ok (.iload_n 0, 1) := by decide +kernel
theorem dX7_letterOf_1 : decode cX7_letterOf 1 = .ok (.tableswitch 57 0 5 #[39, 42, 45, 48, 51, 54], 39) := by decide +kernel
theorem dX7_letterOf_40 : decode cX7_letterOf 40 = .ok (.bipush 110, 2) := by decide +kernel
theorem dX7_letterOf_42 : decode cX7_letterOf 42 = .ok (.ireturn, 1) := by decide +kernel
theorem dX7_letterOf_43 : decode cX7_letterOf 43 = .ok (.bipush 118, 2) := by decide +kernel
theorem dX7_letterOf_45 : decode cX7_letterOf 45 = .ok (.ireturn, 1) := by decide +kernel
theorem dX7_letterOf_46 : decode cX7_letterOf 46 = .ok (.bipush 97, 2) := by decide +kernel
theorem dX7_letterOf_48 : decode cX7_letterOf 48 = .ok (.ireturn, 1) := by decide +kernel
theorem dX7_letterOf_49 : decode cX7_letterOf 49 = .ok (.bipush 100, 2) := by decide +kernel
theorem dX7_letterOf_51 : decode cX7_letterOf 51 = .ok (.ireturn, 1) := by decide +kernel
theorem dX7_letterOf_52 : decode cX7_letterOf 52 = .ok (.bipush 112, 2) := by decide +kernel
theorem dX7_letterOf_54 : decode cX7_letterOf 54 = .ok (.ireturn, 1) := by decide +kernel
theorem dX7_letterOf_55 : decode cX7_letterOf 55 = .ok (.bipush 99, 2) := by decide +kernel
theorem dX7_letterOf_57 : decode cX7_letterOf 57 = .ok (.ireturn, 1) := by decide +kernel
theorem dX7_letterOf_58 : decode cX7_letterOf 58 = .ok (.bipush 116, 2) := by decide +kernel
theorem dX7_letterOf_60 : decode cX7_letterOf 60 = .ok (.ireturn, 1) := by decide +kernel
theorem dX7_kindOf_0 : decode cX7_kindOf 0 = .ok (.iconst (-1), 1) := by decide +kernel
theorem dX7_kindOf_1 : decode cX7_kindOf 1 = .ok (.istore_n 1, 1) := by decide +kernel
theorem dX7_kindOf_2 : decode cX7_kindOf 2 = .ok (.iconst 0, 1) := by decide +kernel
theorem dX7_kindOf_3 : decode cX7_kindOf 3 = .ok (.istore_n 2, 1) := by decide +kernel
theorem dX7_kindOf_4 : decode cX7_kindOf 4 = .ok (.iload_n 2, 1) := by decide +kernel
theorem dX7_kindOf_5 : decode cX7_kindOf 5 = .ok (.bipush 7, 2) := by decide +kernel
theorem dX7_kindOf_7 : decode cX7_kindOf 7 = .ok (.if_icmp .ge 23, 3) := by decide +kernel
theorem dX7_kindOf_10 : decode cX7_kindOf 10 = .ok (.iload_n 2, 1) := by decide +kernel
theorem dX7_kindOf_11 : decode cX7_kindOf 11 = .ok (.invokestatic 214, 3) := by decide +kernel
theorem dX7_kindOf_14 : decode cX7_kindOf 14 = .ok (.iload_n 0, 1) := by decide +kernel
theorem dX7_kindOf_15 : decode cX7_kindOf 15 = .ok (.if_icmp .ne 7, 3) := by decide +kernel
theorem dX7_kindOf_18 : decode cX7_kindOf 18 = .ok (.iload_n 2, 1) := by decide +kernel
theorem dX7_kindOf_19 : decode cX7_kindOf 19 = .ok (.goto 4, 3) := by decide +kernel
theorem dX7_kindOf_22 : decode cX7_kindOf 22 = .ok (.iload_n 1, 1) := by decide +kernel
theorem dX7_kindOf_23 : decode cX7_kindOf 23 = .ok (.istore_n 1, 1) := by decide +kernel
theorem dX7_kindOf_24 : decode cX7_kindOf 24 = .ok (.iinc 2 1, 3) := by decide +kernel
theorem dX7_kindOf_27 : decode cX7_kindOf 27 = .ok (.goto (-23), 3) := by decide +kernel
theorem dX7_kindOf_30 : decode cX7_kindOf 30 = .ok (.iload_n 1, 1) := by decide +kernel
theorem dX7_kindOf_31 : decode cX7_kindOf 31 = .ok (.ireturn, 1) := by decide +kernel
theorem dX7_errorAt_0 : decode cX7_errorAt 0 = .ok (.iconst 0, 1) := by decide +kernel
theorem dX7_errorAt_1 : decode cX7_errorAt 1 = .ok (.istore_n 1, 1) := by decide +kernel
theorem dX7_errorAt_2 : decode cX7_errorAt 2 = .ok (.iload_n 1, 1) := by decide +kernel
theorem dX7_errorAt_3 : decode cX7_errorAt 3 = .ok (.aload_n 0, 1) := by decide +kernel
theorem dX7_errorAt_4 : decode cX7_errorAt 4 = .ok (.getfield 211, 3) := by decide +kernel
theorem dX7_errorAt_7 : decode cX7_errorAt 7 = .ok (.if_icmp .ge 28, 3) := by decide +kernel
theorem dX7_errorAt_10 : decode cX7_errorAt 10 = .ok (.iload_n 1, 1) := by decide +kernel
theorem dX7_errorAt_11 : decode cX7_errorAt 11 = .ok (.bipush 12, 2) := by decide +kernel
theorem dX7_errorAt_13 : decode cX7_errorAt 13 = .ok (.if_icmp .ge 22, 3) := by decide +kernel
theorem dX7_errorAt_16 : decode cX7_errorAt 16 = .ok (.aload_n 0, 1) := by decide +kernel
theorem dX7_errorAt_17 : decode cX7_errorAt 17 = .ok (.getfield 23, 3) := by decide +kernel
theorem dX7_errorAt_20 : decode cX7_errorAt 20 = .ok (.iload_n 1, 1) := by decide +kernel
theorem dX7_errorAt_21 : decode cX7_errorAt 21 = .ok (.iaload, 1) := by decide +kernel
theorem dX7_errorAt_22 : decode cX7_errorAt 22 = .ok (.invokestatic 217, 3) := by decide +kernel
theorem dX7_errorAt_25 : decode cX7_errorAt 25 = .ok (.iconst (-1), 1) := by decide +kernel
theorem dX7_errorAt_26 : decode cX7_errorAt 26 = .ok (.if_icmp .eq 9, 3) := by decide +kernel
theorem dX7_errorAt_29 : decode cX7_errorAt 29 = .ok (.iinc 1 1, 3) := by decide +kernel
theorem dX7_errorAt_32 : decode cX7_errorAt 32 = .ok (.goto (-30), 3) := by decide +kernel
theorem dX7_errorAt_35 : decode cX7_errorAt 35 = .ok (.iload_n 1, 1) := by decide +kernel
theorem dX7_errorAt_36 : decode cX7_errorAt 36 = .ok (.ireturn, 1) := by decide +kernel
theorem dX7_firstError_0 : decode cX7_firstError 0 = .ok (.aload_n 0, 1) := by decide +kernel
theorem dX7_firstError_1 : decode cX7_firstError 1 = .ok (.iconst 0, 1) := by decide +kernel
theorem dX7_firstError_2 : decode cX7_firstError 2 = .ok (.putfield 68, 3) := by decide +kernel
theorem dX7_firstError_5 : decode cX7_firstError 5 = .ok (.aload_n 0, 1) := by decide +kernel
theorem dX7_firstError_6 : decode cX7_firstError 6 = .ok (.invokevirtual 220, 3) := by decide +kernel
theorem dX7_firstError_9 : decode cX7_firstError 9 = .ok (.ireturn, 1) := by decide +kernel
theorem dX7_load_0 : decode cX7_load 0 = .ok (.aload_n 0, 1) := by decide +kernel
theorem dX7_load_1 : decode cX7_load 1 = .ok (.iconst 0, 1) := by decide +kernel
theorem dX7_load_2 : decode cX7_load 2 = .ok (.putfield 68, 3) := by decide +kernel
theorem dX7_load_5 : decode cX7_load 5 = .ok (.aload_n 0, 1) := by decide +kernel
theorem dX7_load_6 : decode cX7_load 6 = .ok (.getfield 211, 3) := by decide +kernel
theorem dX7_load_9 : decode cX7_load 9 = .ok (.ifCond .eq 14, 3) := by decide +kernel
theorem dX7_load_12 : decode cX7_load 12 = .ok (.aload_n 0, 1) := by decide +kernel
theorem dX7_load_13 : decode cX7_load 13 = .ok (.invokevirtual 220, 3) := by decide +kernel
theorem dX7_load_16 : decode cX7_load 16 = .ok (.aload_n 0, 1) := by decide +kernel
theorem dX7_load_17 : decode cX7_load 17 = .ok (.getfield 211, 3) := by decide +kernel
theorem dX7_load_20 : decode cX7_load 20 = .ok (.if_icmp .ge 9, 3) := by decide +kernel
theorem dX7_load_23 : decode cX7_load 23 = .ok (.aload_n 0, 1) := by decide +kernel
theorem dX7_load_24 : decode cX7_load 24 = .ok (.iconst 1, 1) := by decide +kernel
theorem dX7_load_25 : decode cX7_load 25 = .ok (.invokevirtual 190, 3) := by decide +kernel
theorem dX7_load_28 : decode cX7_load 28 = .ok (.ireturn, 1) := by decide +kernel
theorem dX7_load_29 : decode cX7_load 29 = .ok (.aload_n 0, 1) := by decide +kernel
theorem dX7_load_30 : decode cX7_load 30 = .ok (.invokevirtual 193, 3) := by decide +kernel
theorem dX7_load_33 : decode cX7_load 33 = .ok (.aload_n 0, 1) := by decide +kernel
theorem dX7_load_34 : decode cX7_load 34 = .ok (.getfield 7, 3) := by decide +kernel
theorem dX7_load_37 : decode cX7_load 37 = .ok (.iconst 0, 1) := by decide +kernel
theorem dX7_load_38 : decode cX7_load 38 = .ok (.aload_n 0, 1) := by decide +kernel
theorem dX7_load_39 : decode cX7_load 39 = .ok (.getfield 211, 3) := by decide +kernel
theorem dX7_load_42 : decode cX7_load 42 = .ok (.iastore, 1) := by decide +kernel
theorem dX7_load_43 : decode cX7_load 43 = .ok (.iconst 0, 1) := by decide +kernel
theorem dX7_load_44 : decode cX7_load 44 = .ok (.istore_n 1, 1) := by decide +kernel
theorem dX7_load_45 : decode cX7_load 45 = .ok (.iload_n 1, 1) := by decide +kernel
theorem dX7_load_46 : decode cX7_load 46 = .ok (.bipush 12, 2) := by decide +kernel
theorem dX7_load_48 : decode cX7_load 48 = .ok (.if_icmp .ge 38, 3) := by decide +kernel
theorem dX7_load_51 : decode cX7_load 51 = .ok (.aload_n 0, 1) := by decide +kernel
theorem dX7_load_52 : decode cX7_load 52 = .ok (.getfield 7, 3) := by decide +kernel
theorem dX7_load_55 : decode cX7_load 55 = .ok (.iconst 2, 1) := by decide +kernel
theorem dX7_load_56 : decode cX7_load 56 = .ok (.iload_n 1, 1) := by decide +kernel
theorem dX7_load_57 : decode cX7_load 57 = .ok (.iadd, 1) := by decide +kernel
theorem dX7_load_58 : decode cX7_load 58 = .ok (.iload_n 1, 1) := by decide +kernel
theorem dX7_load_59 : decode cX7_load 59 = .ok (.aload_n 0, 1) := by decide +kernel
theorem dX7_load_60 : decode cX7_load 60 = .ok (.getfield 211, 3) := by decide +kernel
theorem dX7_load_63 : decode cX7_load 63 = .ok (.if_icmp .ge 15, 3) := by decide +kernel
theorem dX7_load_66 : decode cX7_load 66 = .ok (.aload_n 0, 1) := by decide +kernel
theorem dX7_load_67 : decode cX7_load 67 = .ok (.getfield 23, 3) := by decide +kernel
theorem dX7_load_70 : decode cX7_load 70 = .ok (.iload_n 1, 1) := by decide +kernel
theorem dX7_load_71 : decode cX7_load 71 = .ok (.iaload, 1) := by decide +kernel
theorem dX7_load_72 : decode cX7_load 72 = .ok (.invokestatic 217, 3) := by decide +kernel
theorem dX7_load_75 : decode cX7_load 75 = .ok (.goto 4, 3) := by decide +kernel
theorem dX7_load_78 : decode cX7_load 78 = .ok (.iconst 0, 1) := by decide +kernel
theorem dX7_load_79 : decode cX7_load 79 = .ok (.iastore, 1) := by decide +kernel
theorem dX7_load_80 : decode cX7_load 80 = .ok (.iinc 1 1, 3) := by decide +kernel
theorem dX7_load_83 : decode cX7_load 83 = .ok (.goto (-38), 3) := by decide +kernel
theorem dX7_load_86 : decode cX7_load 86 = .ok (.aload_n 0, 1) := by decide +kernel
theorem dX7_load_87 : decode cX7_load 87 = .ok (.iconst 0, 1) := by decide +kernel
theorem dX7_load_88 : decode cX7_load 88 = .ok (.putfield 211, 3) := by decide +kernel
theorem dX7_load_91 : decode cX7_load 91 = .ok (.aload_n 0, 1) := by decide +kernel
theorem dX7_load_92 : decode cX7_load 92 = .ok (.invokevirtual 196, 3) := by decide +kernel
theorem dX7_load_95 : decode cX7_load 95 = .ok (.ireturn, 1) := by decide +kernel
theorem dX7_write_0 : decode cX7_write 0 = .ok (.aload_n 0, 1) := by decide +kernel
theorem dX7_write_1 : decode cX7_write 1 = .ok (.iconst 0, 1) := by decide +kernel
theorem dX7_write_2 : decode cX7_write 2 = .ok (.putfield 68, 3) := by decide +kernel
theorem dX7_write_5 : decode cX7_write 5 = .ok (.aload_n 0, 1) := by decide +kernel
theorem dX7_write_6 : decode cX7_write 6 = .ok (.invokevirtual 187, 3) := by decide +kernel
theorem dX7_write_9 : decode cX7_write 9 = .ok (.aload_n 0, 1) := by decide +kernel
theorem dX7_write_10 : decode cX7_write 10 = .ok (.getfield 142, 3) := by decide +kernel
theorem dX7_write_13 : decode cX7_write 13 = .ok (.ifCond .ne 9, 3) := by decide +kernel
theorem dX7_write_16 : decode cX7_write 16 = .ok (.aload_n 0, 1) := by decide +kernel
theorem dX7_write_17 : decode cX7_write 17 = .ok (.iconst 1, 1) := by decide +kernel
theorem dX7_write_18 : decode cX7_write 18 = .ok (.invokevirtual 190, 3) := by decide +kernel
theorem dX7_write_21 : decode cX7_write 21 = .ok (.ireturn, 1) := by decide +kernel
theorem dX7_write_22 : decode cX7_write 22 = .ok (.aload_n 0, 1) := by decide +kernel
theorem dX7_write_23 : decode cX7_write 23 = .ok (.aload_n 0, 1) := by decide +kernel
theorem dX7_write_24 : decode cX7_write 24 = .ok (.getfield 7, 3) := by decide +kernel
theorem dX7_write_27 : decode cX7_write 27 = .ok (.iconst 0, 1) := by decide +kernel
theorem dX7_write_28 : decode cX7_write 28 = .ok (.iaload, 1) := by decide +kernel
theorem dX7_write_29 : decode cX7_write 29 = .ok (.putfield 211, 3) := by decide +kernel
theorem dX7_write_32 : decode cX7_write 32 = .ok (.iconst 0, 1) := by decide +kernel
theorem dX7_write_33 : decode cX7_write 33 = .ok (.istore_n 1, 1) := by decide +kernel
theorem dX7_write_34 : decode cX7_write 34 = .ok (.iload_n 1, 1) := by decide +kernel
theorem dX7_write_35 : decode cX7_write 35 = .ok (.aload_n 0, 1) := by decide +kernel
theorem dX7_write_36 : decode cX7_write 36 = .ok (.getfield 211, 3) := by decide +kernel
theorem dX7_write_39 : decode cX7_write 39 = .ok (.if_icmp .ge 23, 3) := by decide +kernel
theorem dX7_write_42 : decode cX7_write 42 = .ok (.aload_n 0, 1) := by decide +kernel
theorem dX7_write_43 : decode cX7_write 43 = .ok (.getfield 23, 3) := by decide +kernel
theorem dX7_write_46 : decode cX7_write 46 = .ok (.iload_n 1, 1) := by decide +kernel
theorem dX7_write_47 : decode cX7_write 47 = .ok (.aload_n 0, 1) := by decide +kernel
theorem dX7_write_48 : decode cX7_write 48 = .ok (.iload_n 1, 1) := by decide +kernel
theorem dX7_write_49 : decode cX7_write 49 = .ok (.invokevirtual 86, 3) := by decide +kernel
theorem dX7_write_52 : decode cX7_write 52 = .ok (.invokestatic 214, 3) := by decide +kernel
theorem dX7_write_55 : decode cX7_write 55 = .ok (.iastore, 1) := by decide +kernel
theorem dX7_write_56 : decode cX7_write 56 = .ok (.iinc 1 1, 3) := by decide +kernel
theorem dX7_write_59 : decode cX7_write 59 = .ok (.goto (-25), 3) := by decide +kernel
theorem dX7_write_62 : decode cX7_write 62 = .ok (.aload_n 0, 1) := by decide +kernel
theorem dX7_write_63 : decode cX7_write 63 = .ok (.getfield 211, 3) := by decide +kernel
theorem dX7_write_66 : decode cX7_write 66 = .ok (.ireturn, 1) := by decide +kernel
theorem dX7_keep_0 : decode cX7_keep 0 = .ok (.aload_n 0, 1) := by decide +kernel
theorem dX7_keep_1 : decode cX7_keep 1 = .ok (.iconst 0, 1) := by decide +kernel
theorem dX7_keep_2 : decode cX7_keep 2 = .ok (.putfield 68, 3) := by decide +kernel
theorem dX7_keep_5 : decode cX7_keep 5 = .ok (.iload_n 1, 1) := by decide +kernel
theorem dX7_keep_6 : decode cX7_keep 6 = .ok (.iconst 0, 1) := by decide +kernel
theorem dX7_keep_7 : decode cX7_keep 7 = .ok (.iconst 1, 1) := by decide +kernel
theorem dX7_keep_8 : decode cX7_keep 8 = .ok (.invokestatic 72, 3) := by decide +kernel
theorem dX7_keep_11 : decode cX7_keep 11 = .ok (.ifCond .ne 9, 3) := by decide +kernel
theorem dX7_keep_14 : decode cX7_keep 14 = .ok (.aload_n 0, 1) := by decide +kernel
theorem dX7_keep_15 : decode cX7_keep 15 = .ok (.iconst 1, 1) := by decide +kernel
theorem dX7_keep_16 : decode cX7_keep 16 = .ok (.invokevirtual 190, 3) := by decide +kernel
theorem dX7_keep_19 : decode cX7_keep 19 = .ok (.ireturn, 1) := by decide +kernel
theorem dX7_keep_20 : decode cX7_keep 20 = .ok (.iconst 0, 1) := by decide +kernel
theorem dX7_keep_21 : decode cX7_keep 21 = .ok (.istore_n 2, 1) := by decide +kernel
theorem dX7_keep_22 : decode cX7_keep 22 = .ok (.iload_n 2, 1) := by decide +kernel
theorem dX7_keep_23 : decode cX7_keep 23 = .ok (.bipush 26, 2) := by decide +kernel
theorem dX7_keep_25 : decode cX7_keep 25 = .ok (.if_icmp .ge 26, 3) := by decide +kernel
theorem dX7_keep_28 : decode cX7_keep 28 = .ok (.aload_n 0, 1) := by decide +kernel
theorem dX7_keep_29 : decode cX7_keep 29 = .ok (.getfield 16, 3) := by decide +kernel
theorem dX7_keep_32 : decode cX7_keep 32 = .ok (.bipush 26, 2) := by decide +kernel
theorem dX7_keep_34 : decode cX7_keep 34 = .ok (.iload_n 1, 1) := by decide +kernel
theorem dX7_keep_35 : decode cX7_keep 35 = .ok (.imul, 1) := by decide +kernel
theorem dX7_keep_36 : decode cX7_keep 36 = .ok (.iload_n 2, 1) := by decide +kernel
theorem dX7_keep_37 : decode cX7_keep 37 = .ok (.iadd, 1) := by decide +kernel
theorem dX7_keep_38 : decode cX7_keep 38 = .ok (.aload_n 0, 1) := by decide +kernel
theorem dX7_keep_39 : decode cX7_keep 39 = .ok (.getfield 7, 3) := by decide +kernel
theorem dX7_keep_42 : decode cX7_keep 42 = .ok (.iload_n 2, 1) := by decide +kernel
theorem dX7_keep_43 : decode cX7_keep 43 = .ok (.iaload, 1) := by decide +kernel
theorem dX7_keep_44 : decode cX7_keep 44 = .ok (.iastore, 1) := by decide +kernel
theorem dX7_keep_45 : decode cX7_keep 45 = .ok (.iinc 2 1, 3) := by decide +kernel
theorem dX7_keep_48 : decode cX7_keep 48 = .ok (.goto (-26), 3) := by decide +kernel
theorem dX7_keep_51 : decode cX7_keep 51 = .ok (.aload_n 0, 1) := by decide +kernel
theorem dX7_keep_52 : decode cX7_keep 52 = .ok (.getfield 19, 3) := by decide +kernel
theorem dX7_keep_55 : decode cX7_keep 55 = .ok (.iload_n 1, 1) := by decide +kernel
theorem dX7_keep_56 : decode cX7_keep 56 = .ok (.iconst 1, 1) := by decide +kernel
theorem dX7_keep_57 : decode cX7_keep 57 = .ok (.bastore, 1) := by decide +kernel
theorem dX7_keep_58 : decode cX7_keep 58 = .ok (.aload_n 0, 1) := by decide +kernel
theorem dX7_keep_59 : decode cX7_keep 59 = .ok (.getfield 7, 3) := by decide +kernel
theorem dX7_keep_62 : decode cX7_keep 62 = .ok (.iconst 0, 1) := by decide +kernel
theorem dX7_keep_63 : decode cX7_keep 63 = .ok (.iaload, 1) := by decide +kernel
theorem dX7_keep_64 : decode cX7_keep 64 = .ok (.ireturn, 1) := by decide +kernel
theorem dX7_goBack_0 : decode cX7_goBack 0 = .ok (.aload_n 0, 1) := by decide +kernel
theorem dX7_goBack_1 : decode cX7_goBack 1 = .ok (.iconst 0, 1) := by decide +kernel
theorem dX7_goBack_2 : decode cX7_goBack 2 = .ok (.putfield 68, 3) := by decide +kernel
theorem dX7_goBack_5 : decode cX7_goBack 5 = .ok (.iload_n 1, 1) := by decide +kernel
theorem dX7_goBack_6 : decode cX7_goBack 6 = .ok (.iconst 0, 1) := by decide +kernel
theorem dX7_goBack_7 : decode cX7_goBack 7 = .ok (.iconst 1, 1) := by decide +kernel
theorem dX7_goBack_8 : decode cX7_goBack 8 = .ok (.invokestatic 72, 3) := by decide +kernel
theorem dX7_goBack_11 : decode cX7_goBack 11 = .ok (.ifCond .ne 9, 3) := by decide +kernel
theorem dX7_goBack_14 : decode cX7_goBack 14 = .ok (.aload_n 0, 1) := by decide +kernel
theorem dX7_goBack_15 : decode cX7_goBack 15 = .ok (.iconst 1, 1) := by decide +kernel
theorem dX7_goBack_16 : decode cX7_goBack 16 = .ok (.invokevirtual 190, 3) := by decide +kernel
theorem dX7_goBack_19 : decode cX7_goBack 19 = .ok (.ireturn, 1) := by decide +kernel
theorem dX7_goBack_20 : decode cX7_goBack 20 = .ok (.aload_n 0, 1) := by decide +kernel
theorem dX7_goBack_21 : decode cX7_goBack 21 = .ok (.getfield 19, 3) := by decide +kernel
theorem dX7_goBack_24 : decode cX7_goBack 24 = .ok (.iload_n 1, 1) := by decide +kernel
theorem dX7_goBack_25 : decode cX7_goBack 25 = .ok (.baload, 1) := by decide +kernel
theorem dX7_goBack_26 : decode cX7_goBack 26 = .ok (.ifCond .ne 9, 3) := by decide +kernel
theorem dX7_goBack_29 : decode cX7_goBack 29 = .ok (.aload_n 0, 1) := by decide +kernel
theorem dX7_goBack_30 : decode cX7_goBack 30 = .ok (.iconst 2, 1) := by decide +kernel
theorem dX7_goBack_31 : decode cX7_goBack 31 = .ok (.invokevirtual 190, 3) := by decide +kernel
theorem dX7_goBack_34 : decode cX7_goBack 34 = .ok (.ireturn, 1) := by decide +kernel
theorem dX7_goBack_35 : decode cX7_goBack 35 = .ok (.aload_n 0, 1) := by decide +kernel
theorem dX7_goBack_36 : decode cX7_goBack 36 = .ok (.invokevirtual 193, 3) := by decide +kernel
theorem dX7_goBack_39 : decode cX7_goBack 39 = .ok (.iconst 0, 1) := by decide +kernel
theorem dX7_goBack_40 : decode cX7_goBack 40 = .ok (.istore_n 2, 1) := by decide +kernel
theorem dX7_goBack_41 : decode cX7_goBack 41 = .ok (.iload_n 2, 1) := by decide +kernel
theorem dX7_goBack_42 : decode cX7_goBack 42 = .ok (.bipush 26, 2) := by decide +kernel
theorem dX7_goBack_44 : decode cX7_goBack 44 = .ok (.if_icmp .ge 26, 3) := by decide +kernel
theorem dX7_goBack_47 : decode cX7_goBack 47 = .ok (.aload_n 0, 1) := by decide +kernel
theorem dX7_goBack_48 : decode cX7_goBack 48 = .ok (.getfield 7, 3) := by decide +kernel
theorem dX7_goBack_51 : decode cX7_goBack 51 = .ok (.iload_n 2, 1) := by decide +kernel
theorem dX7_goBack_52 : decode cX7_goBack 52 = .ok (.aload_n 0, 1) := by decide +kernel
theorem dX7_goBack_53 : decode cX7_goBack 53 = .ok (.getfield 16, 3) := by decide +kernel
theorem dX7_goBack_56 : decode cX7_goBack 56 = .ok (.bipush 26, 2) := by decide +kernel
theorem dX7_goBack_58 : decode cX7_goBack 58 = .ok (.iload_n 1, 1) := by decide +kernel
theorem dX7_goBack_59 : decode cX7_goBack 59 = .ok (.imul, 1) := by decide +kernel
theorem dX7_goBack_60 : decode cX7_goBack 60 = .ok (.iload_n 2, 1) := by decide +kernel
theorem dX7_goBack_61 : decode cX7_goBack 61 = .ok (.iadd, 1) := by decide +kernel
theorem dX7_goBack_62 : decode cX7_goBack 62 = .ok (.iaload, 1) := by decide +kernel
theorem dX7_goBack_63 : decode cX7_goBack 63 = .ok (.iastore, 1) := by decide +kernel
theorem dX7_goBack_64 : decode cX7_goBack 64 = .ok (.iinc 2 1, 3) := by decide +kernel
theorem dX7_goBack_67 : decode cX7_goBack 67 = .ok (.goto (-26), 3) := by decide +kernel
theorem dX7_goBack_70 : decode cX7_goBack 70 = .ok (.aload_n 0, 1) := by decide +kernel
theorem dX7_goBack_71 : decode cX7_goBack 71 = .ok (.getfield 7, 3) := by decide +kernel
theorem dX7_goBack_74 : decode cX7_goBack 74 = .ok (.iconst 0, 1) := by decide +kernel
theorem dX7_goBack_75 : decode cX7_goBack 75 = .ok (.iaload, 1) := by decide +kernel
theorem dX7_goBack_76 : decode cX7_goBack 76 = .ok (.ireturn, 1) := by decide +kernel
theorem dX7_undo_0 : decode cX7_undo 0 = .ok (.aload_n 0, 1) := by decide +kernel
theorem dX7_undo_1 : decode cX7_undo 1 = .ok (.iconst 0, 1) := by decide +kernel
theorem dX7_undo_2 : decode cX7_undo 2 = .ok (.putfield 68, 3) := by decide +kernel
theorem dX7_undo_5 : decode cX7_undo 5 = .ok (.aload_n 0, 1) := by decide +kernel
theorem dX7_undo_6 : decode cX7_undo 6 = .ok (.getfield 76, 3) := by decide +kernel
theorem dX7_undo_9 : decode cX7_undo 9 = .ok (.ifCond .ne 9, 3) := by decide +kernel
theorem dX7_undo_12 : decode cX7_undo 12 = .ok (.aload_n 0, 1) := by decide +kernel
theorem dX7_undo_13 : decode cX7_undo 13 = .ok (.iconst 1, 1) := by decide +kernel
theorem dX7_undo_14 : decode cX7_undo 14 = .ok (.invokevirtual 190, 3) := by decide +kernel
theorem dX7_undo_17 : decode cX7_undo 17 = .ok (.ireturn, 1) := by decide +kernel
theorem dX7_undo_18 : decode cX7_undo 18 = .ok (.aload_n 0, 1) := by decide +kernel
theorem dX7_undo_19 : decode cX7_undo 19 = .ok (.dup, 1) := by decide +kernel
theorem dX7_undo_20 : decode cX7_undo 20 = .ok (.getfield 76, 3) := by decide +kernel
theorem dX7_undo_23 : decode cX7_undo 23 = .ok (.iconst 1, 1) := by decide +kernel
theorem dX7_undo_24 : decode cX7_undo 24 = .ok (.isub, 1) := by decide +kernel
theorem dX7_undo_25 : decode cX7_undo 25 = .ok (.putfield 76, 3) := by decide +kernel
theorem dX7_undo_28 : decode cX7_undo 28 = .ok (.iconst 0, 1) := by decide +kernel
theorem dX7_undo_29 : decode cX7_undo 29 = .ok (.istore_n 1, 1) := by decide +kernel
theorem dX7_undo_30 : decode cX7_undo 30 = .ok (.iload_n 1, 1) := by decide +kernel
theorem dX7_undo_31 : decode cX7_undo 31 = .ok (.bipush 26, 2) := by decide +kernel
theorem dX7_undo_33 : decode cX7_undo 33 = .ok (.if_icmp .ge 29, 3) := by decide +kernel
theorem dX7_undo_36 : decode cX7_undo 36 = .ok (.aload_n 0, 1) := by decide +kernel
theorem dX7_undo_37 : decode cX7_undo 37 = .ok (.getfield 7, 3) := by decide +kernel
theorem dX7_undo_40 : decode cX7_undo 40 = .ok (.iload_n 1, 1) := by decide +kernel
theorem dX7_undo_41 : decode cX7_undo 41 = .ok (.aload_n 0, 1) := by decide +kernel
theorem dX7_undo_42 : decode cX7_undo 42 = .ok (.getfield 13, 3) := by decide +kernel
theorem dX7_undo_45 : decode cX7_undo 45 = .ok (.bipush 26, 2) := by decide +kernel
theorem dX7_undo_47 : decode cX7_undo 47 = .ok (.aload_n 0, 1) := by decide +kernel
theorem dX7_undo_48 : decode cX7_undo 48 = .ok (.getfield 76, 3) := by decide +kernel
theorem dX7_undo_51 : decode cX7_undo 51 = .ok (.imul, 1) := by decide +kernel
theorem dX7_undo_52 : decode cX7_undo 52 = .ok (.iload_n 1, 1) := by decide +kernel
theorem dX7_undo_53 : decode cX7_undo 53 = .ok (.iadd, 1) := by decide +kernel
theorem dX7_undo_54 : decode cX7_undo 54 = .ok (.iaload, 1) := by decide +kernel
theorem dX7_undo_55 : decode cX7_undo 55 = .ok (.iastore, 1) := by decide +kernel
theorem dX7_undo_56 : decode cX7_undo 56 = .ok (.iinc 1 1, 3) := by decide +kernel
theorem dX7_undo_59 : decode cX7_undo 59 = .ok (.goto (-29), 3) := by decide +kernel
theorem dX7_undo_62 : decode cX7_undo 62 = .ok (.aload_n 0, 1) := by decide +kernel
theorem dX7_undo_63 : decode cX7_undo 63 = .ok (.getfield 76, 3) := by decide +kernel
theorem dX7_undo_66 : decode cX7_undo 66 = .ok (.ireturn, 1) := by decide +kernel
theorem dX7_haveHead_0 : decode cX7_haveHead 0 = .ok (.iconst 0, 1) := by decide +kernel
theorem dX7_haveHead_1 : decode cX7_haveHead 1 = .ok (.istore_n 3, 1) := by decide +kernel
theorem dX7_haveHead_2 : decode cX7_haveHead 2 = .ok (.iconst 0, 1) := by decide +kernel
theorem dX7_haveHead_3 : decode cX7_haveHead 3 = .ok (.istore 4, 2) := by decide +kernel
theorem dX7_haveHead_5 : decode cX7_haveHead 5 = .ok (.iload 4, 2) := by decide +kernel
theorem dX7_haveHead_7 : decode cX7_haveHead 7 = .ok (.aload_n 0, 1) := by decide +kernel
theorem dX7_haveHead_8 : decode cX7_haveHead 8 = .ok (.getfield 142, 3) := by decide +kernel
theorem dX7_haveHead_11 : decode cX7_haveHead 11 = .ok (.if_icmp .ge 33, 3) := by decide +kernel
theorem dX7_haveHead_14 : decode cX7_haveHead 14 = .ok (.iload_n 3, 1) := by decide +kernel
theorem dX7_haveHead_15 : decode cX7_haveHead 15 = .ok (.aload_n 0, 1) := by decide +kernel
theorem dX7_haveHead_16 : decode cX7_haveHead 16 = .ok (.aload_n 0, 1) := by decide +kernel
theorem dX7_haveHead_17 : decode cX7_haveHead 17 = .ok (.getfield 47, 3) := by decide +kernel
theorem dX7_haveHead_20 : decode cX7_haveHead 20 = .ok (.iload 4, 2) := by decide +kernel
theorem dX7_haveHead_22 : decode cX7_haveHead 22 = .ok (.iaload, 1) := by decide +kernel
theorem dX7_haveHead_23 : decode cX7_haveHead 23 = .ok (.iload_n 1, 1) := by decide +kernel
theorem dX7_haveHead_24 : decode cX7_haveHead 24 = .ok (.invokevirtual 148, 3) := by decide +kernel
theorem dX7_haveHead_27 : decode cX7_haveHead 27 = .ok (.iload_n 2, 1) := by decide +kernel
theorem dX7_haveHead_28 : decode cX7_haveHead 28 = .ok (.if_icmp .ne 7, 3) := by decide +kernel
theorem dX7_haveHead_31 : decode cX7_haveHead 31 = .ok (.iconst 1, 1) := by decide +kernel
theorem dX7_haveHead_32 : decode cX7_haveHead 32 = .ok (.goto 4, 3) := by decide +kernel
theorem dX7_haveHead_35 : decode cX7_haveHead 35 = .ok (.iconst 0, 1) := by decide +kernel
theorem dX7_haveHead_36 : decode cX7_haveHead 36 = .ok (.iadd, 1) := by decide +kernel
theorem dX7_haveHead_37 : decode cX7_haveHead 37 = .ok (.istore_n 3, 1) := by decide +kernel
theorem dX7_haveHead_38 : decode cX7_haveHead 38 = .ok (.iinc 4 1, 3) := by decide +kernel
theorem dX7_haveHead_41 : decode cX7_haveHead 41 = .ok (.goto (-36), 3) := by decide +kernel
theorem dX7_haveHead_44 : decode cX7_haveHead 44 = .ok (.iload_n 3, 1) := by decide +kernel
theorem dX7_haveHead_45 : decode cX7_haveHead 45 = .ok (.ireturn, 1) := by decide +kernel
theorem dX7_headsOf_0 : decode cX7_headsOf 0 = .ok (.iconst 0, 1) := by decide +kernel
theorem dX7_headsOf_1 : decode cX7_headsOf 1 = .ok (.istore_n 3, 1) := by decide +kernel
theorem dX7_headsOf_2 : decode cX7_headsOf 2 = .ok (.iconst 0, 1) := by decide +kernel
theorem dX7_headsOf_3 : decode cX7_headsOf 3 = .ok (.istore 4, 2) := by decide +kernel
theorem dX7_headsOf_5 : decode cX7_headsOf 5 = .ok (.iconst (-1), 1) := by decide +kernel
theorem dX7_headsOf_6 : decode cX7_headsOf 6 = .ok (.istore 5, 2) := by decide +kernel
theorem dX7_headsOf_8 : decode cX7_headsOf 8 = .ok (.iload 5, 2) := by decide +kernel
theorem dX7_headsOf_10 : decode cX7_headsOf 10 = .ok (.aload_n 0, 1) := by decide +kernel
theorem dX7_headsOf_11 : decode cX7_headsOf 11 = .ok (.getfield 7, 3) := by decide +kernel
theorem dX7_headsOf_14 : decode cX7_headsOf 14 = .ok (.iconst 0, 1) := by decide +kernel
theorem dX7_headsOf_15 : decode cX7_headsOf 15 = .ok (.iaload, 1) := by decide +kernel
theorem dX7_headsOf_16 : decode cX7_headsOf 16 = .ok (.if_icmp .ge 47, 3) := by decide +kernel
theorem dX7_headsOf_19 : decode cX7_headsOf 19 = .ok (.aload_n 0, 1) := by decide +kernel
theorem dX7_headsOf_20 : decode cX7_headsOf 20 = .ok (.iload_n 1, 1) := by decide +kernel
theorem dX7_headsOf_21 : decode cX7_headsOf 21 = .ok (.iload 5, 2) := by decide +kernel
theorem dX7_headsOf_23 : decode cX7_headsOf 23 = .ok (.invokevirtual 223, 3) := by decide +kernel
theorem dX7_headsOf_26 : decode cX7_headsOf 26 = .ok (.istore 6, 2) := by decide +kernel
theorem dX7_headsOf_28 : decode cX7_headsOf 28 = .ok (.iload_n 3, 1) := by decide +kernel
theorem dX7_headsOf_29 : decode cX7_headsOf 29 = .ok (.iload 6, 2) := by decide +kernel
theorem dX7_headsOf_31 : decode cX7_headsOf 31 = .ok (.ifCond .le 7, 3) := by decide +kernel
theorem dX7_headsOf_34 : decode cX7_headsOf 34 = .ok (.iconst 1, 1) := by decide +kernel
theorem dX7_headsOf_35 : decode cX7_headsOf 35 = .ok (.goto 4, 3) := by decide +kernel
theorem dX7_headsOf_38 : decode cX7_headsOf 38 = .ok (.iconst 0, 1) := by decide +kernel
theorem dX7_headsOf_39 : decode cX7_headsOf 39 = .ok (.iadd, 1) := by decide +kernel
theorem dX7_headsOf_40 : decode cX7_headsOf 40 = .ok (.istore_n 3, 1) := by decide +kernel
theorem dX7_headsOf_41 : decode cX7_headsOf 41 = .ok (.iload 6, 2) := by decide +kernel
theorem dX7_headsOf_43 : decode cX7_headsOf 43 = .ok (.iload 4, 2) := by decide +kernel
theorem dX7_headsOf_45 : decode cX7_headsOf 45 = .ok (.if_icmp .le 8, 3) := by decide +kernel
theorem dX7_headsOf_48 : decode cX7_headsOf 48 = .ok (.iload 6, 2) := by decide +kernel
theorem dX7_headsOf_50 : decode cX7_headsOf 50 = .ok (.goto 5, 3) := by decide +kernel
theorem dX7_headsOf_53 : decode cX7_headsOf 53 = .ok (.iload 4, 2) := by decide +kernel
theorem dX7_headsOf_55 : decode cX7_headsOf 55 = .ok (.istore 4, 2) := by decide +kernel
theorem dX7_headsOf_57 : decode cX7_headsOf 57 = .ok (.iinc 5 1, 3) := by decide +kernel
theorem dX7_headsOf_60 : decode cX7_headsOf 60 = .ok (.goto (-52), 3) := by decide +kernel
theorem dX7_headsOf_63 : decode cX7_headsOf 63 = .ok (.iload_n 2, 1) := by decide +kernel
theorem dX7_headsOf_64 : decode cX7_headsOf 64 = .ok (.ifCond .eq 8, 3) := by decide +kernel
theorem dX7_headsOf_67 : decode cX7_headsOf 67 = .ok (.iload 4, 2) := by decide +kernel
theorem dX7_headsOf_69 : decode cX7_headsOf 69 = .ok (.goto 4, 3) := by decide +kernel
theorem dX7_headsOf_72 : decode cX7_headsOf 72 = .ok (.iload_n 3, 1) := by decide +kernel
theorem dX7_headsOf_73 : decode cX7_headsOf 73 = .ok (.ireturn, 1) := by decide +kernel
theorem dX7_drawn_0 : decode cX7_drawn 0 = .ok (.aload_n 0, 1) := by decide +kernel
theorem dX7_drawn_1 : decode cX7_drawn 1 = .ok (.getfield 142, 3) := by decide +kernel
theorem dX7_drawn_4 : decode cX7_drawn 4 = .ok (.ifCond .ne 7, 3) := by decide +kernel
theorem dX7_drawn_7 : decode cX7_drawn 7 = .ok (.iconst (-1), 1) := by decide +kernel
theorem dX7_drawn_8 : decode cX7_drawn 8 = .ok (.goto 14, 3) := by decide +kernel
theorem dX7_drawn_11 : decode cX7_drawn 11 = .ok (.aload_n 0, 1) := by decide +kernel
theorem dX7_drawn_12 : decode cX7_drawn 12 = .ok (.getfield 47, 3) := by decide +kernel
theorem dX7_drawn_15 : decode cX7_drawn 15 = .ok (.aload_n 0, 1) := by decide +kernel
theorem dX7_drawn_16 : decode cX7_drawn 16 = .ok (.getfield 7, 3) := by decide +kernel
theorem dX7_drawn_19 : decode cX7_drawn 19 = .ok (.iconst 1, 1) := by decide +kernel
theorem dX7_drawn_20 : decode cX7_drawn 20 = .ok (.iaload, 1) := by decide +kernel
theorem dX7_drawn_21 : decode cX7_drawn 21 = .ok (.iaload, 1) := by decide +kernel
theorem dX7_drawn_22 : decode cX7_drawn 22 = .ok (.ireturn, 1) := by decide +kernel
theorem dX7_tellsWord_0 : decode cX7_tellsWord 0 = .ok (.aload_n 0, 1) := by decide +kernel
theorem dX7_tellsWord_1 : decode cX7_tellsWord 1 = .ok (.invokevirtual 226, 3) := by decide +kernel
theorem dX7_tellsWord_4 : decode cX7_tellsWord 4 = .ok (.istore_n 3, 1) := by decide +kernel
theorem dX7_tellsWord_5 : decode cX7_tellsWord 5 = .ok (.iload_n 2, 1) := by decide +kernel
theorem dX7_tellsWord_6 : decode cX7_tellsWord 6 = .ok (.lookupswitch 65 #[(0, 34), (6, 40), (7, 58)], 34) := by decide +kernel
theorem dX7_tellsWord_40 : decode cX7_tellsWord 40 = .ok (.aload_n 0, 1) := by decide +kernel
theorem dX7_tellsWord_41 : decode cX7_tellsWord 41 = .ok (.iload_n 1, 1) := by decide +kernel
theorem dX7_tellsWord_42 : decode cX7_tellsWord 42 = .ok (.invokevirtual 86, 3) := by decide +kernel
theorem dX7_tellsWord_45 : decode cX7_tellsWord 45 = .ok (.ireturn, 1) := by decide +kernel
theorem dX7_tellsWord_46 : decode cX7_tellsWord 46 = .ok (.aload_n 0, 1) := by decide +kernel
theorem dX7_tellsWord_47 : decode cX7_tellsWord 47 = .ok (.getfield 7, 3) := by decide +kernel
theorem dX7_tellsWord_50 : decode cX7_tellsWord 50 = .ok (.bipush 14, 2) := by decide +kernel
theorem dX7_tellsWord_52 : decode cX7_tellsWord 52 = .ok (.iload_n 1, 1) := by decide +kernel
theorem dX7_tellsWord_53 : decode cX7_tellsWord 53 = .ok (.iadd, 1) := by decide +kernel
theorem dX7_tellsWord_54 : decode cX7_tellsWord 54 = .ok (.iaload, 1) := by decide +kernel
theorem dX7_tellsWord_55 : decode cX7_tellsWord 55 = .ok (.ifCond .le 7, 3) := by decide +kernel
theorem dX7_tellsWord_58 : decode cX7_tellsWord 58 = .ok (.iconst 1, 1) := by decide +kernel
theorem dX7_tellsWord_59 : decode cX7_tellsWord 59 = .ok (.goto 4, 3) := by decide +kernel
theorem dX7_tellsWord_62 : decode cX7_tellsWord 62 = .ok (.iconst 0, 1) := by decide +kernel
theorem dX7_tellsWord_63 : decode cX7_tellsWord 63 = .ok (.ireturn, 1) := by decide +kernel
theorem dX7_tellsWord_64 : decode cX7_tellsWord 64 = .ok (.aload_n 0, 1) := by decide +kernel
theorem dX7_tellsWord_65 : decode cX7_tellsWord 65 = .ok (.iload_n 1, 1) := by decide +kernel
theorem dX7_tellsWord_66 : decode cX7_tellsWord 66 = .ok (.iconst 0, 1) := by decide +kernel
theorem dX7_tellsWord_67 : decode cX7_tellsWord 67 = .ok (.invokevirtual 229, 3) := by decide +kernel
theorem dX7_tellsWord_70 : decode cX7_tellsWord 70 = .ok (.ireturn, 1) := by decide +kernel
theorem dX7_tellsWord_71 : decode cX7_tellsWord 71 = .ok (.iload_n 3, 1) := by decide +kernel
theorem dX7_tellsWord_72 : decode cX7_tellsWord 72 = .ok (.iconst (-1), 1) := by decide +kernel
theorem dX7_tellsWord_73 : decode cX7_tellsWord 73 = .ok (.if_icmp .ne 7, 3) := by decide +kernel
theorem dX7_tellsWord_76 : decode cX7_tellsWord 76 = .ok (.iconst (-1), 1) := by decide +kernel
theorem dX7_tellsWord_77 : decode cX7_tellsWord 77 = .ok (.goto 10, 3) := by decide +kernel
theorem dX7_tellsWord_80 : decode cX7_tellsWord 80 = .ok (.aload_n 0, 1) := by decide +kernel
theorem dX7_tellsWord_81 : decode cX7_tellsWord 81 = .ok (.iload_n 3, 1) := by decide +kernel
theorem dX7_tellsWord_82 : decode cX7_tellsWord 82 = .ok (.iload_n 1, 1) := by decide +kernel
theorem dX7_tellsWord_83 : decode cX7_tellsWord 83 = .ok (.iload_n 2, 1) := by decide +kernel
theorem dX7_tellsWord_84 : decode cX7_tellsWord 84 = .ok (.invokevirtual 233, 3) := by decide +kernel
theorem dX7_tellsWord_87 : decode cX7_tellsWord 87 = .ok (.ireturn, 1) := by decide +kernel
theorem dX7_tellsDrawn_0 : decode cX7_tellsDrawn 0 = .ok (.iload_n 3, 1) := by decide +kernel
theorem dX7_tellsDrawn_1 : decode cX7_tellsDrawn 1 = .ok (.tableswitch 62 1 4 #[31, 38, 45, 55], 31) := by decide +kernel
theorem dX7_tellsDrawn_32 : decode cX7_tellsDrawn 32 = .ok (.aload_n 0, 1) := by decide +kernel
theorem dX7_tellsDrawn_33 : decode cX7_tellsDrawn 33 = .ok (.iload_n 1, 1) := by decide +kernel
theorem dX7_tellsDrawn_34 : decode cX7_tellsDrawn 34 = .ok (.iload_n 2, 1) := by decide +kernel
theorem dX7_tellsDrawn_35 : decode cX7_tellsDrawn 35 = .ok (.invokevirtual 148, 3) := by decide +kernel
theorem dX7_tellsDrawn_38 : decode cX7_tellsDrawn 38 = .ok (.ireturn, 1) := by decide +kernel
theorem dX7_tellsDrawn_39 : decode cX7_tellsDrawn 39 = .ok (.aload_n 0, 1) := by decide +kernel
theorem dX7_tellsDrawn_40 : decode cX7_tellsDrawn 40 = .ok (.iload_n 1, 1) := by decide +kernel
theorem dX7_tellsDrawn_41 : decode cX7_tellsDrawn 41 = .ok (.iload_n 2, 1) := by decide +kernel
theorem dX7_tellsDrawn_42 : decode cX7_tellsDrawn 42 = .ok (.invokevirtual 152, 3) := by decide +kernel
theorem dX7_tellsDrawn_45 : decode cX7_tellsDrawn 45 = .ok (.ireturn, 1) := by decide +kernel
theorem dX7_tellsDrawn_46 : decode cX7_tellsDrawn 46 = .ok (.aload_n 0, 1) := by decide +kernel
theorem dX7_tellsDrawn_47 : decode cX7_tellsDrawn 47 = .ok (.iload_n 1, 1) := by decide +kernel
theorem dX7_tellsDrawn_48 : decode cX7_tellsDrawn 48 = .ok (.iload_n 2, 1) := by decide +kernel
theorem dX7_tellsDrawn_49 : decode cX7_tellsDrawn 49 = .ok (.invokevirtual 158, 3) := by decide +kernel
theorem dX7_tellsDrawn_52 : decode cX7_tellsDrawn 52 = .ok (.bipush 20, 2) := by decide +kernel
theorem dX7_tellsDrawn_54 : decode cX7_tellsDrawn 54 = .ok (.iadd, 1) := by decide +kernel
theorem dX7_tellsDrawn_55 : decode cX7_tellsDrawn 55 = .ok (.ireturn, 1) := by decide +kernel
theorem dX7_tellsDrawn_56 : decode cX7_tellsDrawn 56 = .ok (.aload_n 0, 1) := by decide +kernel
theorem dX7_tellsDrawn_57 : decode cX7_tellsDrawn 57 = .ok (.iload_n 1, 1) := by decide +kernel
theorem dX7_tellsDrawn_58 : decode cX7_tellsDrawn 58 = .ok (.iload_n 2, 1) := by decide +kernel
theorem dX7_tellsDrawn_59 : decode cX7_tellsDrawn 59 = .ok (.invokevirtual 237, 3) := by decide +kernel
theorem dX7_tellsDrawn_62 : decode cX7_tellsDrawn 62 = .ok (.ireturn, 1) := by decide +kernel
theorem dX7_tellsDrawn_63 : decode cX7_tellsDrawn 63 = .ok (.iload_n 2, 1) := by decide +kernel
theorem dX7_tellsDrawn_64 : decode cX7_tellsDrawn 64 = .ok (.ireturn, 1) := by decide +kernel
theorem dX7_wordOf_0 : decode cX7_wordOf 0 = .ok (.aload_n 0, 1) := by decide +kernel
theorem dX7_wordOf_1 : decode cX7_wordOf 1 = .ok (.iconst 0, 1) := by decide +kernel
theorem dX7_wordOf_2 : decode cX7_wordOf 2 = .ok (.putfield 68, 3) := by decide +kernel
theorem dX7_wordOf_5 : decode cX7_wordOf 5 = .ok (.aload_n 0, 1) := by decide +kernel
theorem dX7_wordOf_6 : decode cX7_wordOf 6 = .ok (.iload_n 1, 1) := by decide +kernel
theorem dX7_wordOf_7 : decode cX7_wordOf 7 = .ok (.invokevirtual 199, 3) := by decide +kernel
theorem dX7_wordOf_10 : decode cX7_wordOf 10 = .ok (.ifCond .ne 9, 3) := by decide +kernel
theorem dX7_wordOf_13 : decode cX7_wordOf 13 = .ok (.aload_n 0, 1) := by decide +kernel
theorem dX7_wordOf_14 : decode cX7_wordOf 14 = .ok (.iconst 1, 1) := by decide +kernel
theorem dX7_wordOf_15 : decode cX7_wordOf 15 = .ok (.invokevirtual 190, 3) := by decide +kernel
theorem dX7_wordOf_18 : decode cX7_wordOf 18 = .ok (.ireturn, 1) := by decide +kernel
theorem dX7_wordOf_19 : decode cX7_wordOf 19 = .ok (.iload_n 2, 1) := by decide +kernel
theorem dX7_wordOf_20 : decode cX7_wordOf 20 = .ok (.iconst 0, 1) := by decide +kernel
theorem dX7_wordOf_21 : decode cX7_wordOf 21 = .ok (.bipush 7, 2) := by decide +kernel
theorem dX7_wordOf_23 : decode cX7_wordOf 23 = .ok (.invokestatic 72, 3) := by decide +kernel
theorem dX7_wordOf_26 : decode cX7_wordOf 26 = .ok (.ifCond .ne 9, 3) := by decide +kernel
theorem dX7_wordOf_29 : decode cX7_wordOf 29 = .ok (.aload_n 0, 1) := by decide +kernel
theorem dX7_wordOf_30 : decode cX7_wordOf 30 = .ok (.iconst 2, 1) := by decide +kernel
theorem dX7_wordOf_31 : decode cX7_wordOf 31 = .ok (.invokevirtual 190, 3) := by decide +kernel
theorem dX7_wordOf_34 : decode cX7_wordOf 34 = .ok (.ireturn, 1) := by decide +kernel
theorem dX7_wordOf_35 : decode cX7_wordOf 35 = .ok (.aload_n 0, 1) := by decide +kernel
theorem dX7_wordOf_36 : decode cX7_wordOf 36 = .ok (.invokevirtual 187, 3) := by decide +kernel
theorem dX7_wordOf_39 : decode cX7_wordOf 39 = .ok (.aload_n 0, 1) := by decide +kernel
theorem dX7_wordOf_40 : decode cX7_wordOf 40 = .ok (.iload_n 1, 1) := by decide +kernel
theorem dX7_wordOf_41 : decode cX7_wordOf 41 = .ok (.iload_n 2, 1) := by decide +kernel
theorem dX7_wordOf_42 : decode cX7_wordOf 42 = .ok (.invokevirtual 240, 3) := by decide +kernel
theorem dX7_wordOf_45 : decode cX7_wordOf 45 = .ok (.ireturn, 1) := by decide +kernel
theorem dX7_wordsOf_0 : decode cX7_wordsOf 0 = .ok (.iconst 0, 1) := by decide +kernel
theorem dX7_wordsOf_1 : decode cX7_wordsOf 1 = .ok (.istore_n 2, 1) := by decide +kernel
theorem dX7_wordsOf_2 : decode cX7_wordsOf 2 = .ok (.iconst 0, 1) := by decide +kernel
theorem dX7_wordsOf_3 : decode cX7_wordsOf 3 = .ok (.istore_n 3, 1) := by decide +kernel
theorem dX7_wordsOf_4 : decode cX7_wordsOf 4 = .ok (.iload_n 3, 1) := by decide +kernel
theorem dX7_wordsOf_5 : decode cX7_wordsOf 5 = .ok (.aload_n 0, 1) := by decide +kernel
theorem dX7_wordsOf_6 : decode cX7_wordsOf 6 = .ok (.getfield 7, 3) := by decide +kernel
theorem dX7_wordsOf_9 : decode cX7_wordsOf 9 = .ok (.iconst 0, 1) := by decide +kernel
theorem dX7_wordsOf_10 : decode cX7_wordsOf 10 = .ok (.iaload, 1) := by decide +kernel
theorem dX7_wordsOf_11 : decode cX7_wordsOf 11 = .ok (.if_icmp .ge 26, 3) := by decide +kernel
theorem dX7_wordsOf_14 : decode cX7_wordsOf 14 = .ok (.iload_n 2, 1) := by decide +kernel
theorem dX7_wordsOf_15 : decode cX7_wordsOf 15 = .ok (.aload_n 0, 1) := by decide +kernel
theorem dX7_wordsOf_16 : decode cX7_wordsOf 16 = .ok (.iload_n 3, 1) := by decide +kernel
theorem dX7_wordsOf_17 : decode cX7_wordsOf 17 = .ok (.invokevirtual 86, 3) := by decide +kernel
theorem dX7_wordsOf_20 : decode cX7_wordsOf 20 = .ok (.iload_n 1, 1) := by decide +kernel
theorem dX7_wordsOf_21 : decode cX7_wordsOf 21 = .ok (.if_icmp .ne 7, 3) := by decide +kernel
theorem dX7_wordsOf_24 : decode cX7_wordsOf 24 = .ok (.iconst 1, 1) := by decide +kernel
theorem dX7_wordsOf_25 : decode cX7_wordsOf 25 = .ok (.goto 4, 3) := by decide +kernel
theorem dX7_wordsOf_28 : decode cX7_wordsOf 28 = .ok (.iconst 0, 1) := by decide +kernel
theorem dX7_wordsOf_29 : decode cX7_wordsOf 29 = .ok (.iadd, 1) := by decide +kernel
theorem dX7_wordsOf_30 : decode cX7_wordsOf 30 = .ok (.istore_n 2, 1) := by decide +kernel
theorem dX7_wordsOf_31 : decode cX7_wordsOf 31 = .ok (.iinc 3 1, 3) := by decide +kernel
theorem dX7_wordsOf_34 : decode cX7_wordsOf 34 = .ok (.goto (-30), 3) := by decide +kernel
theorem dX7_wordsOf_37 : decode cX7_wordsOf 37 = .ok (.iload_n 2, 1) := by decide +kernel
theorem dX7_wordsOf_38 : decode cX7_wordsOf 38 = .ok (.ireturn, 1) := by decide +kernel
theorem dX7_mostHeld_0 : decode cX7_mostHeld 0 = .ok (.iconst 0, 1) := by decide +kernel
theorem dX7_mostHeld_1 : decode cX7_mostHeld 1 = .ok (.istore_n 2, 1) := by decide +kernel
theorem dX7_mostHeld_2 : decode cX7_mostHeld 2 = .ok (.iconst 0, 1) := by decide +kernel
theorem dX7_mostHeld_3 : decode cX7_mostHeld 3 = .ok (.istore_n 3, 1) := by decide +kernel
theorem dX7_mostHeld_4 : decode cX7_mostHeld 4 = .ok (.iload_n 3, 1) := by decide +kernel
theorem dX7_mostHeld_5 : decode cX7_mostHeld 5 = .ok (.aload_n 0, 1) := by decide +kernel
theorem dX7_mostHeld_6 : decode cX7_mostHeld 6 = .ok (.getfield 7, 3) := by decide +kernel
theorem dX7_mostHeld_9 : decode cX7_mostHeld 9 = .ok (.iconst 0, 1) := by decide +kernel
theorem dX7_mostHeld_10 : decode cX7_mostHeld 10 = .ok (.iaload, 1) := by decide +kernel
theorem dX7_mostHeld_11 : decode cX7_mostHeld 11 = .ok (.if_icmp .ge 30, 3) := by decide +kernel
theorem dX7_mostHeld_14 : decode cX7_mostHeld 14 = .ok (.aload_n 0, 1) := by decide +kernel
theorem dX7_mostHeld_15 : decode cX7_mostHeld 15 = .ok (.iload_n 1, 1) := by decide +kernel
theorem dX7_mostHeld_16 : decode cX7_mostHeld 16 = .ok (.iload_n 3, 1) := by decide +kernel
theorem dX7_mostHeld_17 : decode cX7_mostHeld 17 = .ok (.invokevirtual 237, 3) := by decide +kernel
theorem dX7_mostHeld_20 : decode cX7_mostHeld 20 = .ok (.istore 4, 2) := by decide +kernel
theorem dX7_mostHeld_22 : decode cX7_mostHeld 22 = .ok (.iload 4, 2) := by decide +kernel
theorem dX7_mostHeld_24 : decode cX7_mostHeld 24 = .ok (.iload_n 2, 1) := by decide +kernel
theorem dX7_mostHeld_25 : decode cX7_mostHeld 25 = .ok (.if_icmp .le 8, 3) := by decide +kernel
theorem dX7_mostHeld_28 : decode cX7_mostHeld 28 = .ok (.iload 4, 2) := by decide +kernel
theorem dX7_mostHeld_30 : decode cX7_mostHeld 30 = .ok (.goto 4, 3) := by decide +kernel
theorem dX7_mostHeld_33 : decode cX7_mostHeld 33 = .ok (.iload_n 2, 1) := by decide +kernel
theorem dX7_mostHeld_34 : decode cX7_mostHeld 34 = .ok (.istore_n 2, 1) := by decide +kernel
theorem dX7_mostHeld_35 : decode cX7_mostHeld 35 = .ok (.iinc 3 1, 3) := by decide +kernel
theorem dX7_mostHeld_38 : decode cX7_mostHeld 38 = .ok (.goto (-34), 3) := by decide +kernel
theorem dX7_mostHeld_41 : decode cX7_mostHeld 41 = .ok (.iload_n 2, 1) := by decide +kernel
theorem dX7_mostHeld_42 : decode cX7_mostHeld 42 = .ok (.ireturn, 1) := by decide +kernel
theorem dX7_tellsReading_0 : decode cX7_tellsReading 0 = .ok (.aload_n 0, 1) := by decide +kernel
theorem dX7_tellsReading_1 : decode cX7_tellsReading 1 = .ok (.getfield 47, 3) := by decide +kernel
theorem dX7_tellsReading_4 : decode cX7_tellsReading 4 = .ok (.iload_n 1, 1) := by decide +kernel
theorem dX7_tellsReading_5 : decode cX7_tellsReading 5 = .ok (.iaload, 1) := by decide +kernel
theorem dX7_tellsReading_6 : decode cX7_tellsReading 6 = .ok (.istore_n 3, 1) := by decide +kernel
theorem dX7_tellsReading_7 : decode cX7_tellsReading 7 = .ok (.iload_n 2, 1) := by decide +kernel
theorem dX7_tellsReading_8 : decode cX7_tellsReading 8 = .ok (.tableswitch 78 0 4 #[36, 42, 48, 66, 72], 36) := by decide +kernel
theorem dX7_tellsReading_44 : decode cX7_tellsReading 44 = .ok (.aload_n 0, 1) := by decide +kernel
theorem dX7_tellsReading_45 : decode cX7_tellsReading 45 = .ok (.iload_n 3, 1) := by decide +kernel
theorem dX7_tellsReading_46 : decode cX7_tellsReading 46 = .ok (.invokevirtual 208, 3) := by decide +kernel
theorem dX7_tellsReading_49 : decode cX7_tellsReading 49 = .ok (.ireturn, 1) := by decide +kernel
theorem dX7_tellsReading_50 : decode cX7_tellsReading 50 = .ok (.aload_n 0, 1) := by decide +kernel
theorem dX7_tellsReading_51 : decode cX7_tellsReading 51 = .ok (.iconst 1, 1) := by decide +kernel
theorem dX7_tellsReading_52 : decode cX7_tellsReading 52 = .ok (.invokevirtual 243, 3) := by decide +kernel
theorem dX7_tellsReading_55 : decode cX7_tellsReading 55 = .ok (.ireturn, 1) := by decide +kernel
theorem dX7_tellsReading_56 : decode cX7_tellsReading 56 = .ok (.aload_n 0, 1) := by decide +kernel
theorem dX7_tellsReading_57 : decode cX7_tellsReading 57 = .ok (.iconst 2, 1) := by decide +kernel
theorem dX7_tellsReading_58 : decode cX7_tellsReading 58 = .ok (.invokevirtual 243, 3) := by decide +kernel
theorem dX7_tellsReading_61 : decode cX7_tellsReading 61 = .ok (.aload_n 0, 1) := by decide +kernel
theorem dX7_tellsReading_62 : decode cX7_tellsReading 62 = .ok (.iconst 3, 1) := by decide +kernel
theorem dX7_tellsReading_63 : decode cX7_tellsReading 63 = .ok (.invokevirtual 243, 3) := by decide +kernel
theorem dX7_tellsReading_66 : decode cX7_tellsReading 66 = .ok (.iadd, 1) := by decide +kernel
theorem dX7_tellsReading_67 : decode cX7_tellsReading 67 = .ok (.aload_n 0, 1) := by decide +kernel
theorem dX7_tellsReading_68 : decode cX7_tellsReading 68 = .ok (.iconst 4, 1) := by decide +kernel
theorem dX7_tellsReading_69 : decode cX7_tellsReading 69 = .ok (.invokevirtual 243, 3) := by decide +kernel
theorem dX7_tellsReading_72 : decode cX7_tellsReading 72 = .ok (.iadd, 1) := by decide +kernel
theorem dX7_tellsReading_73 : decode cX7_tellsReading 73 = .ok (.ireturn, 1) := by decide +kernel
theorem dX7_tellsReading_74 : decode cX7_tellsReading 74 = .ok (.aload_n 0, 1) := by decide +kernel
theorem dX7_tellsReading_75 : decode cX7_tellsReading 75 = .ok (.iconst 5, 1) := by decide +kernel
theorem dX7_tellsReading_76 : decode cX7_tellsReading 76 = .ok (.invokevirtual 243, 3) := by decide +kernel
theorem dX7_tellsReading_79 : decode cX7_tellsReading 79 = .ok (.ireturn, 1) := by decide +kernel
theorem dX7_tellsReading_80 : decode cX7_tellsReading 80 = .ok (.aload_n 0, 1) := by decide +kernel
theorem dX7_tellsReading_81 : decode cX7_tellsReading 81 = .ok (.iload_n 3, 1) := by decide +kernel
theorem dX7_tellsReading_82 : decode cX7_tellsReading 82 = .ok (.invokevirtual 246, 3) := by decide +kernel
theorem dX7_tellsReading_85 : decode cX7_tellsReading 85 = .ok (.ireturn, 1) := by decide +kernel
theorem dX7_tellsReading_86 : decode cX7_tellsReading 86 = .ok (.iload_n 3, 1) := by decide +kernel
theorem dX7_tellsReading_87 : decode cX7_tellsReading 87 = .ok (.ireturn, 1) := by decide +kernel
theorem dX7_readingOf_0 : decode cX7_readingOf 0 = .ok (.aload_n 0, 1) := by decide +kernel
theorem dX7_readingOf_1 : decode cX7_readingOf 1 = .ok (.iconst 0, 1) := by decide +kernel
theorem dX7_readingOf_2 : decode cX7_readingOf 2 = .ok (.putfield 68, 3) := by decide +kernel
theorem dX7_readingOf_5 : decode cX7_readingOf 5 = .ok (.aload_n 0, 1) := by decide +kernel
theorem dX7_readingOf_6 : decode cX7_readingOf 6 = .ok (.invokevirtual 187, 3) := by decide +kernel
theorem dX7_readingOf_9 : decode cX7_readingOf 9 = .ok (.iload_n 1, 1) := by decide +kernel
theorem dX7_readingOf_10 : decode cX7_readingOf 10 = .ok (.iconst 0, 1) := by decide +kernel
theorem dX7_readingOf_11 : decode cX7_readingOf 11 = .ok (.aload_n 0, 1) := by decide +kernel
theorem dX7_readingOf_12 : decode cX7_readingOf 12 = .ok (.getfield 142, 3) := by decide +kernel
theorem dX7_readingOf_15 : decode cX7_readingOf 15 = .ok (.iconst 1, 1) := by decide +kernel
theorem dX7_readingOf_16 : decode cX7_readingOf 16 = .ok (.isub, 1) := by decide +kernel
theorem dX7_readingOf_17 : decode cX7_readingOf 17 = .ok (.invokestatic 72, 3) := by decide +kernel
theorem dX7_readingOf_20 : decode cX7_readingOf 20 = .ok (.ifCond .ne 9, 3) := by decide +kernel
theorem dX7_readingOf_23 : decode cX7_readingOf 23 = .ok (.aload_n 0, 1) := by decide +kernel
theorem dX7_readingOf_24 : decode cX7_readingOf 24 = .ok (.iconst 1, 1) := by decide +kernel
theorem dX7_readingOf_25 : decode cX7_readingOf 25 = .ok (.invokevirtual 190, 3) := by decide +kernel
theorem dX7_readingOf_28 : decode cX7_readingOf 28 = .ok (.ireturn, 1) := by decide +kernel
theorem dX7_readingOf_29 : decode cX7_readingOf 29 = .ok (.iload_n 2, 1) := by decide +kernel
theorem dX7_readingOf_30 : decode cX7_readingOf 30 = .ok (.iconst 0, 1) := by decide +kernel
theorem dX7_readingOf_31 : decode cX7_readingOf 31 = .ok (.iconst 5, 1) := by decide +kernel
theorem dX7_readingOf_32 : decode cX7_readingOf 32 = .ok (.invokestatic 72, 3) := by decide +kernel
theorem dX7_readingOf_35 : decode cX7_readingOf 35 = .ok (.ifCond .eq 12, 3) := by decide +kernel
theorem dX7_readingOf_38 : decode cX7_readingOf 38 = .ok (.aload_n 0, 1) := by decide +kernel
theorem dX7_readingOf_39 : decode cX7_readingOf 39 = .ok (.iload_n 1, 1) := by decide +kernel
theorem dX7_readingOf_40 : decode cX7_readingOf 40 = .ok (.iload_n 2, 1) := by decide +kernel
theorem dX7_readingOf_41 : decode cX7_readingOf 41 = .ok (.invokevirtual 249, 3) := by decide +kernel
theorem dX7_readingOf_44 : decode cX7_readingOf 44 = .ok (.goto 8, 3) := by decide +kernel
theorem dX7_readingOf_47 : decode cX7_readingOf 47 = .ok (.aload_n 0, 1) := by decide +kernel
theorem dX7_readingOf_48 : decode cX7_readingOf 48 = .ok (.iconst 2, 1) := by decide +kernel
theorem dX7_readingOf_49 : decode cX7_readingOf 49 = .ok (.invokevirtual 190, 3) := by decide +kernel
theorem dX7_readingOf_52 : decode cX7_readingOf 52 = .ok (.ireturn, 1) := by decide +kernel
theorem dX7_fixedWords_0 : decode cX7_fixedWords 0 = .ok (.iconst 0, 1) := by decide +kernel
theorem dX7_fixedWords_1 : decode cX7_fixedWords 1 = .ok (.istore_n 1, 1) := by decide +kernel
theorem dX7_fixedWords_2 : decode cX7_fixedWords 2 = .ok (.iconst 0, 1) := by decide +kernel
theorem dX7_fixedWords_3 : decode cX7_fixedWords 3 = .ok (.istore_n 2, 1) := by decide +kernel
theorem dX7_fixedWords_4 : decode cX7_fixedWords 4 = .ok (.iload_n 2, 1) := by decide +kernel
theorem dX7_fixedWords_5 : decode cX7_fixedWords 5 = .ok (.aload_n 0, 1) := by decide +kernel
theorem dX7_fixedWords_6 : decode cX7_fixedWords 6 = .ok (.getfield 7, 3) := by decide +kernel
theorem dX7_fixedWords_9 : decode cX7_fixedWords 9 = .ok (.iconst 0, 1) := by decide +kernel
theorem dX7_fixedWords_10 : decode cX7_fixedWords 10 = .ok (.iaload, 1) := by decide +kernel
theorem dX7_fixedWords_11 : decode cX7_fixedWords 11 = .ok (.if_icmp .ge 29, 3) := by decide +kernel
theorem dX7_fixedWords_14 : decode cX7_fixedWords 14 = .ok (.iload_n 1, 1) := by decide +kernel
theorem dX7_fixedWords_15 : decode cX7_fixedWords 15 = .ok (.aload_n 0, 1) := by decide +kernel
theorem dX7_fixedWords_16 : decode cX7_fixedWords 16 = .ok (.getfield 7, 3) := by decide +kernel
theorem dX7_fixedWords_19 : decode cX7_fixedWords 19 = .ok (.bipush 14, 2) := by decide +kernel
theorem dX7_fixedWords_21 : decode cX7_fixedWords 21 = .ok (.iload_n 2, 1) := by decide +kernel
theorem dX7_fixedWords_22 : decode cX7_fixedWords 22 = .ok (.iadd, 1) := by decide +kernel
theorem dX7_fixedWords_23 : decode cX7_fixedWords 23 = .ok (.iaload, 1) := by decide +kernel
theorem dX7_fixedWords_24 : decode cX7_fixedWords 24 = .ok (.ifCond .le 7, 3) := by decide +kernel
theorem dX7_fixedWords_27 : decode cX7_fixedWords 27 = .ok (.iconst 1, 1) := by decide +kernel
theorem dX7_fixedWords_28 : decode cX7_fixedWords 28 = .ok (.goto 4, 3) := by decide +kernel
theorem dX7_fixedWords_31 : decode cX7_fixedWords 31 = .ok (.iconst 0, 1) := by decide +kernel
theorem dX7_fixedWords_32 : decode cX7_fixedWords 32 = .ok (.iadd, 1) := by decide +kernel
theorem dX7_fixedWords_33 : decode cX7_fixedWords 33 = .ok (.istore_n 1, 1) := by decide +kernel
theorem dX7_fixedWords_34 : decode cX7_fixedWords 34 = .ok (.iinc 2 1, 3) := by decide +kernel
theorem dX7_fixedWords_37 : decode cX7_fixedWords 37 = .ok (.goto (-33), 3) := by decide +kernel
theorem dX7_fixedWords_40 : decode cX7_fixedWords 40 = .ok (.iload_n 1, 1) := by decide +kernel
theorem dX7_fixedWords_41 : decode cX7_fixedWords 41 = .ok (.ireturn, 1) := by decide +kernel
theorem dX7_wordsWith_0 : decode cX7_wordsWith 0 = .ok (.iconst 0, 1) := by decide +kernel
theorem dX7_wordsWith_1 : decode cX7_wordsWith 1 = .ok (.istore_n 2, 1) := by decide +kernel
theorem dX7_wordsWith_2 : decode cX7_wordsWith 2 = .ok (.iconst 0, 1) := by decide +kernel
theorem dX7_wordsWith_3 : decode cX7_wordsWith 3 = .ok (.istore_n 3, 1) := by decide +kernel
theorem dX7_wordsWith_4 : decode cX7_wordsWith 4 = .ok (.iload_n 3, 1) := by decide +kernel
theorem dX7_wordsWith_5 : decode cX7_wordsWith 5 = .ok (.aload_n 0, 1) := by decide +kernel
theorem dX7_wordsWith_6 : decode cX7_wordsWith 6 = .ok (.getfield 7, 3) := by decide +kernel
theorem dX7_wordsWith_9 : decode cX7_wordsWith 9 = .ok (.iconst 0, 1) := by decide +kernel
theorem dX7_wordsWith_10 : decode cX7_wordsWith 10 = .ok (.iaload, 1) := by decide +kernel
theorem dX7_wordsWith_11 : decode cX7_wordsWith 11 = .ok (.if_icmp .ge 45, 3) := by decide +kernel
theorem dX7_wordsWith_14 : decode cX7_wordsWith 14 = .ok (.aload_n 0, 1) := by decide +kernel
theorem dX7_wordsWith_15 : decode cX7_wordsWith 15 = .ok (.iload_n 3, 1) := by decide +kernel
theorem dX7_wordsWith_16 : decode cX7_wordsWith 16 = .ok (.iconst 0, 1) := by decide +kernel
theorem dX7_wordsWith_17 : decode cX7_wordsWith 17 = .ok (.invokevirtual 229, 3) := by decide +kernel
theorem dX7_wordsWith_20 : decode cX7_wordsWith 20 = .ok (.istore 4, 2) := by decide +kernel
theorem dX7_wordsWith_22 : decode cX7_wordsWith 22 = .ok (.iload_n 2, 1) := by decide +kernel
theorem dX7_wordsWith_23 : decode cX7_wordsWith 23 = .ok (.iload_n 1, 1) := by decide +kernel
theorem dX7_wordsWith_24 : decode cX7_wordsWith 24 = .ok (.ifCond .eq 9, 3) := by decide +kernel
theorem dX7_wordsWith_27 : decode cX7_wordsWith 27 = .ok (.iload 4, 2) := by decide +kernel
theorem dX7_wordsWith_29 : decode cX7_wordsWith 29 = .ok (.iconst 1, 1) := by decide +kernel
theorem dX7_wordsWith_30 : decode cX7_wordsWith 30 = .ok (.if_icmp .gt 13, 3) := by decide +kernel
theorem dX7_wordsWith_33 : decode cX7_wordsWith 33 = .ok (.iload_n 1, 1) := by decide +kernel
theorem dX7_wordsWith_34 : decode cX7_wordsWith 34 = .ok (.ifCond .ne 13, 3) := by decide +kernel
theorem dX7_wordsWith_37 : decode cX7_wordsWith 37 = .ok (.iload 4, 2) := by decide +kernel
theorem dX7_wordsWith_39 : decode cX7_wordsWith 39 = .ok (.iconst 1, 1) := by decide +kernel
theorem dX7_wordsWith_40 : decode cX7_wordsWith 40 = .ok (.if_icmp .ne 7, 3) := by decide +kernel
theorem dX7_wordsWith_43 : decode cX7_wordsWith 43 = .ok (.iconst 1, 1) := by decide +kernel
theorem dX7_wordsWith_44 : decode cX7_wordsWith 44 = .ok (.goto 4, 3) := by decide +kernel
theorem dX7_wordsWith_47 : decode cX7_wordsWith 47 = .ok (.iconst 0, 1) := by decide +kernel
theorem dX7_wordsWith_48 : decode cX7_wordsWith 48 = .ok (.iadd, 1) := by decide +kernel
theorem dX7_wordsWith_49 : decode cX7_wordsWith 49 = .ok (.istore_n 2, 1) := by decide +kernel
theorem dX7_wordsWith_50 : decode cX7_wordsWith 50 = .ok (.iinc 3 1, 3) := by decide +kernel
theorem dX7_wordsWith_53 : decode cX7_wordsWith 53 = .ok (.goto (-49), 3) := by decide +kernel
theorem dX7_wordsWith_56 : decode cX7_wordsWith 56 = .ok (.iload_n 2, 1) := by decide +kernel
theorem dX7_wordsWith_57 : decode cX7_wordsWith 57 = .ok (.ireturn, 1) := by decide +kernel
theorem dX7_tellsCount_0 : decode cX7_tellsCount 0 = .ok (.iload_n 1, 1) := by decide +kernel
theorem dX7_tellsCount_1 : decode cX7_tellsCount 1 = .ok (.tableswitch 118 0 7 #[47, 54, 59, 64, 69, 87, 92, 98], 47) := by decide +kernel
theorem dX7_tellsCount_48 : decode cX7_tellsCount 48 = .ok (.aload_n 0, 1) := by decide +kernel
theorem dX7_tellsCount_49 : decode cX7_tellsCount 49 = .ok (.getfield 7, 3) := by decide +kernel
theorem dX7_tellsCount_52 : decode cX7_tellsCount 52 = .ok (.iconst 0, 1) := by decide +kernel
theorem dX7_tellsCount_53 : decode cX7_tellsCount 53 = .ok (.iaload, 1) := by decide +kernel
theorem dX7_tellsCount_54 : decode cX7_tellsCount 54 = .ok (.ireturn, 1) := by decide +kernel
theorem dX7_tellsCount_55 : decode cX7_tellsCount 55 = .ok (.aload_n 0, 1) := by decide +kernel
theorem dX7_tellsCount_56 : decode cX7_tellsCount 56 = .ok (.getfield 123, 3) := by decide +kernel
theorem dX7_tellsCount_59 : decode cX7_tellsCount 59 = .ok (.ireturn, 1) := by decide +kernel
theorem dX7_tellsCount_60 : decode cX7_tellsCount 60 = .ok (.aload_n 0, 1) := by decide +kernel
theorem dX7_tellsCount_61 : decode cX7_tellsCount 61 = .ok (.invokevirtual 252, 3) := by decide +kernel
theorem dX7_tellsCount_64 : decode cX7_tellsCount 64 = .ok (.ireturn, 1) := by decide +kernel
theorem dX7_tellsCount_65 : decode cX7_tellsCount 65 = .ok (.aload_n 0, 1) := by decide +kernel
theorem dX7_tellsCount_66 : decode cX7_tellsCount 66 = .ok (.getfield 142, 3) := by decide +kernel
theorem dX7_tellsCount_69 : decode cX7_tellsCount 69 = .ok (.ireturn, 1) := by decide +kernel
theorem dX7_tellsCount_70 : decode cX7_tellsCount 70 = .ok (.aload_n 0, 1) := by decide +kernel
theorem dX7_tellsCount_71 : decode cX7_tellsCount 71 = .ok (.getfield 142, 3) := by decide +kernel
theorem dX7_tellsCount_74 : decode cX7_tellsCount 74 = .ok (.ifCond .ne 7, 3) := by decide +kernel
theorem dX7_tellsCount_77 : decode cX7_tellsCount 77 = .ok (.iconst (-1), 1) := by decide +kernel
theorem dX7_tellsCount_78 : decode cX7_tellsCount 78 = .ok (.goto 9, 3) := by decide +kernel
theorem dX7_tellsCount_81 : decode cX7_tellsCount 81 = .ok (.aload_n 0, 1) := by decide +kernel
theorem dX7_tellsCount_82 : decode cX7_tellsCount 82 = .ok (.getfield 7, 3) := by decide +kernel
theorem dX7_tellsCount_85 : decode cX7_tellsCount 85 = .ok (.iconst 1, 1) := by decide +kernel
theorem dX7_tellsCount_86 : decode cX7_tellsCount 86 = .ok (.iaload, 1) := by decide +kernel
theorem dX7_tellsCount_87 : decode cX7_tellsCount 87 = .ok (.ireturn, 1) := by decide +kernel
theorem dX7_tellsCount_88 : decode cX7_tellsCount 88 = .ok (.aload_n 0, 1) := by decide +kernel
theorem dX7_tellsCount_89 : decode cX7_tellsCount 89 = .ok (.invokevirtual 255, 3) := by decide +kernel
theorem dX7_tellsCount_92 : decode cX7_tellsCount 92 = .ok (.ireturn, 1) := by decide +kernel
theorem dX7_tellsCount_93 : decode cX7_tellsCount 93 = .ok (.aload_n 0, 1) := by decide +kernel
theorem dX7_tellsCount_94 : decode cX7_tellsCount 94 = .ok (.iconst 1, 1) := by decide +kernel
theorem dX7_tellsCount_95 : decode cX7_tellsCount 95 = .ok (.invokevirtual 258, 3) := by decide +kernel
theorem dX7_tellsCount_98 : decode cX7_tellsCount 98 = .ok (.ireturn, 1) := by decide +kernel
theorem dX7_tellsCount_99 : decode cX7_tellsCount 99 = .ok (.aload_n 0, 1) := by decide +kernel
theorem dX7_tellsCount_100 : decode cX7_tellsCount 100 = .ok (.getfield 142, 3) := by decide +kernel
theorem dX7_tellsCount_103 : decode cX7_tellsCount 103 = .ok (.ifCond .ne 7, 3) := by decide +kernel
theorem dX7_tellsCount_106 : decode cX7_tellsCount 106 = .ok (.iconst 0, 1) := by decide +kernel
theorem dX7_tellsCount_107 : decode cX7_tellsCount 107 = .ok (.goto 11, 3) := by decide +kernel
theorem dX7_tellsCount_110 : decode cX7_tellsCount 110 = .ok (.aload_n 0, 1) := by decide +kernel
theorem dX7_tellsCount_111 : decode cX7_tellsCount 111 = .ok (.aload_n 0, 1) := by decide +kernel
theorem dX7_tellsCount_112 : decode cX7_tellsCount 112 = .ok (.invokevirtual 226, 3) := by decide +kernel
theorem dX7_tellsCount_115 : decode cX7_tellsCount 115 = .ok (.invokevirtual 208, 3) := by decide +kernel
theorem dX7_tellsCount_118 : decode cX7_tellsCount 118 = .ok (.ireturn, 1) := by decide +kernel
theorem dX7_tellsCount_119 : decode cX7_tellsCount 119 = .ok (.aload_n 0, 1) := by decide +kernel
theorem dX7_tellsCount_120 : decode cX7_tellsCount 120 = .ok (.getfield 76, 3) := by decide +kernel
theorem dX7_tellsCount_123 : decode cX7_tellsCount 123 = .ok (.ireturn, 1) := by decide +kernel
theorem dX7_count_0 : decode cX7_count 0 = .ok (.aload_n 0, 1) := by decide +kernel
theorem dX7_count_1 : decode cX7_count 1 = .ok (.iconst 0, 1) := by decide +kernel
theorem dX7_count_2 : decode cX7_count 2 = .ok (.putfield 68, 3) := by decide +kernel
theorem dX7_count_5 : decode cX7_count 5 = .ok (.aload_n 0, 1) := by decide +kernel
theorem dX7_count_6 : decode cX7_count 6 = .ok (.invokevirtual 187, 3) := by decide +kernel
theorem dX7_count_9 : decode cX7_count 9 = .ok (.iload_n 1, 1) := by decide +kernel
theorem dX7_count_10 : decode cX7_count 10 = .ok (.iconst 0, 1) := by decide +kernel
theorem dX7_count_11 : decode cX7_count 11 = .ok (.bipush 8, 2) := by decide +kernel
theorem dX7_count_13 : decode cX7_count 13 = .ok (.invokestatic 72, 3) := by decide +kernel
theorem dX7_count_16 : decode cX7_count 16 = .ok (.ifCond .eq 11, 3) := by decide +kernel
theorem dX7_count_19 : decode cX7_count 19 = .ok (.aload_n 0, 1) := by decide +kernel
theorem dX7_count_20 : decode cX7_count 20 = .ok (.iload_n 1, 1) := by decide +kernel
theorem dX7_count_21 : decode cX7_count 21 = .ok (.invokevirtual 262, 3) := by decide +kernel
theorem dX7_count_24 : decode cX7_count 24 = .ok (.goto 8, 3) := by decide +kernel
theorem dX7_count_27 : decode cX7_count 27 = .ok (.aload_n 0, 1) := by decide +kernel
theorem dX7_count_28 : decode cX7_count 28 = .ok (.iconst 1, 1) := by decide +kernel
theorem dX7_count_29 : decode cX7_count 29 = .ok (.invokevirtual 190, 3) := by decide +kernel
theorem dX7_count_32 : decode cX7_count 32 = .ok (.ireturn, 1) := by decide +kernel
theorem dX7_part_0 : decode cX7_part 0 = .ok (.aload_n 0, 1) := by decide +kernel
theorem dX7_part_1 : decode cX7_part 1 = .ok (.iconst 0, 1) := by decide +kernel
theorem dX7_part_2 : decode cX7_part 2 = .ok (.putfield 68, 3) := by decide +kernel
theorem dX7_part_5 : decode cX7_part 5 = .ok (.iload_n 1, 1) := by decide +kernel
theorem dX7_part_6 : decode cX7_part 6 = .ok (.ifCond .lt 18, 3) := by decide +kernel
theorem dX7_part_9 : decode cX7_part 9 = .ok (.iload_n 2, 1) := by decide +kernel
theorem dX7_part_10 : decode cX7_part 10 = .ok (.iload_n 1, 1) := by decide +kernel
theorem dX7_part_11 : decode cX7_part 11 = .ok (.if_icmp .le 13, 3) := by decide +kernel
theorem dX7_part_14 : decode cX7_part 14 = .ok (.iload_n 2, 1) := by decide +kernel
theorem dX7_part_15 : decode cX7_part 15 = .ok (.aload_n 0, 1) := by decide +kernel
theorem dX7_part_16 : decode cX7_part 16 = .ok (.getfield 7, 3) := by decide +kernel
theorem dX7_part_19 : decode cX7_part 19 = .ok (.iconst 0, 1) := by decide +kernel
theorem dX7_part_20 : decode cX7_part 20 = .ok (.iaload, 1) := by decide +kernel
theorem dX7_part_21 : decode cX7_part 21 = .ok (.if_icmp .le 9, 3) := by decide +kernel
theorem dX7_part_24 : decode cX7_part 24 = .ok (.aload_n 0, 1) := by decide +kernel
theorem dX7_part_25 : decode cX7_part 25 = .ok (.iconst 1, 1) := by decide +kernel
theorem dX7_part_26 : decode cX7_part 26 = .ok (.invokevirtual 190, 3) := by decide +kernel
theorem dX7_part_29 : decode cX7_part 29 = .ok (.ireturn, 1) := by decide +kernel
theorem dX7_part_30 : decode cX7_part 30 = .ok (.aload_n 0, 1) := by decide +kernel
theorem dX7_part_31 : decode cX7_part 31 = .ok (.invokevirtual 184, 3) := by decide +kernel
theorem dX7_part_34 : decode cX7_part 34 = .ok (.iload_n 3, 1) := by decide +kernel
theorem dX7_part_35 : decode cX7_part 35 = .ok (.iconst 0, 1) := by decide +kernel
theorem dX7_part_36 : decode cX7_part 36 = .ok (.iconst 4, 1) := by decide +kernel
theorem dX7_part_37 : decode cX7_part 37 = .ok (.invokestatic 72, 3) := by decide +kernel
theorem dX7_part_40 : decode cX7_part 40 = .ok (.ifCond .eq 13, 3) := by decide +kernel
theorem dX7_part_43 : decode cX7_part 43 = .ok (.aload_n 0, 1) := by decide +kernel
theorem dX7_part_44 : decode cX7_part 44 = .ok (.iload_n 1, 1) := by decide +kernel
theorem dX7_part_45 : decode cX7_part 45 = .ok (.iload_n 2, 1) := by decide +kernel
theorem dX7_part_46 : decode cX7_part 46 = .ok (.iload_n 3, 1) := by decide +kernel
theorem dX7_part_47 : decode cX7_part 47 = .ok (.invokevirtual 265, 3) := by decide +kernel
theorem dX7_part_50 : decode cX7_part 50 = .ok (.goto 8, 3) := by decide +kernel
theorem dX7_part_53 : decode cX7_part 53 = .ok (.aload_n 0, 1) := by decide +kernel
theorem dX7_part_54 : decode cX7_part 54 = .ok (.iconst 2, 1) := by decide +kernel
theorem dX7_part_55 : decode cX7_part 55 = .ok (.invokevirtual 190, 3) := by decide +kernel
theorem dX7_part_58 : decode cX7_part 58 = .ok (.ireturn, 1) := by decide +kernel
theorem dX7_ifFixed_0 : decode cX7_ifFixed 0 = .ok (.aload_n 0, 1) := by decide +kernel
theorem dX7_ifFixed_1 : decode cX7_ifFixed 1 = .ok (.iconst 0, 1) := by decide +kernel
theorem dX7_ifFixed_2 : decode cX7_ifFixed 2 = .ok (.putfield 68, 3) := by decide +kernel
theorem dX7_ifFixed_5 : decode cX7_ifFixed 5 = .ok (.aload_n 0, 1) := by decide +kernel
theorem dX7_ifFixed_6 : decode cX7_ifFixed 6 = .ok (.iload_n 1, 1) := by decide +kernel
theorem dX7_ifFixed_7 : decode cX7_ifFixed 7 = .ok (.invokevirtual 199, 3) := by decide +kernel
theorem dX7_ifFixed_10 : decode cX7_ifFixed 10 = .ok (.ifCond .eq 12, 3) := by decide +kernel
theorem dX7_ifFixed_13 : decode cX7_ifFixed 13 = .ok (.aload_n 0, 1) := by decide +kernel
theorem dX7_ifFixed_14 : decode cX7_ifFixed 14 = .ok (.iload_n 1, 1) := by decide +kernel
theorem dX7_ifFixed_15 : decode cX7_ifFixed 15 = .ok (.iload_n 2, 1) := by decide +kernel
theorem dX7_ifFixed_16 : decode cX7_ifFixed 16 = .ok (.invokevirtual 202, 3) := by decide +kernel
theorem dX7_ifFixed_19 : decode cX7_ifFixed 19 = .ok (.ifCond .ne 9, 3) := by decide +kernel
theorem dX7_ifFixed_22 : decode cX7_ifFixed 22 = .ok (.aload_n 0, 1) := by decide +kernel
theorem dX7_ifFixed_23 : decode cX7_ifFixed 23 = .ok (.iconst 1, 1) := by decide +kernel
theorem dX7_ifFixed_24 : decode cX7_ifFixed 24 = .ok (.invokevirtual 190, 3) := by decide +kernel
theorem dX7_ifFixed_27 : decode cX7_ifFixed 27 = .ok (.ireturn, 1) := by decide +kernel
theorem dX7_ifFixed_28 : decode cX7_ifFixed 28 = .ok (.aload_n 0, 1) := by decide +kernel
theorem dX7_ifFixed_29 : decode cX7_ifFixed 29 = .ok (.invokevirtual 187, 3) := by decide +kernel
theorem dX7_ifFixed_32 : decode cX7_ifFixed 32 = .ok (.aload_n 0, 1) := by decide +kernel
theorem dX7_ifFixed_33 : decode cX7_ifFixed 33 = .ok (.iload_n 1, 1) := by decide +kernel
theorem dX7_ifFixed_34 : decode cX7_ifFixed 34 = .ok (.iload_n 2, 1) := by decide +kernel
theorem dX7_ifFixed_35 : decode cX7_ifFixed 35 = .ok (.invokevirtual 205, 3) := by decide +kernel
theorem dX7_ifFixed_38 : decode cX7_ifFixed 38 = .ok (.ireturn, 1) := by decide +kernel
theorem dX7_asked_0 : decode cX7_asked 0 = .ok (.iconst (-1), 1) := by decide +kernel
theorem dX7_asked_1 : decode cX7_asked 1 = .ok (.istore_n 1, 1) := by decide +kernel
theorem dX7_asked_2 : decode cX7_asked 2 = .ok (.iconst 0, 1) := by decide +kernel
theorem dX7_asked_3 : decode cX7_asked 3 = .ok (.istore_n 2, 1) := by decide +kernel
theorem dX7_asked_4 : decode cX7_asked 4 = .ok (.iconst 0, 1) := by decide +kernel
theorem dX7_asked_5 : decode cX7_asked 5 = .ok (.istore_n 3, 1) := by decide +kernel
theorem dX7_asked_6 : decode cX7_asked 6 = .ok (.iload_n 3, 1) := by decide +kernel
theorem dX7_asked_7 : decode cX7_asked 7 = .ok (.aload_n 0, 1) := by decide +kernel
theorem dX7_asked_8 : decode cX7_asked 8 = .ok (.getfield 7, 3) := by decide +kernel
theorem dX7_asked_11 : decode cX7_asked 11 = .ok (.iconst 0, 1) := by decide +kernel
theorem dX7_asked_12 : decode cX7_asked 12 = .ok (.iaload, 1) := by decide +kernel
theorem dX7_asked_13 : decode cX7_asked 13 = .ok (.if_icmp .ge 68, 3) := by decide +kernel
theorem dX7_asked_16 : decode cX7_asked 16 = .ok (.aload_n 0, 1) := by decide +kernel
theorem dX7_asked_17 : decode cX7_asked 17 = .ok (.iload_n 3, 1) := by decide +kernel
theorem dX7_asked_18 : decode cX7_asked 18 = .ok (.iconst 1, 1) := by decide +kernel
theorem dX7_asked_19 : decode cX7_asked 19 = .ok (.invokevirtual 229, 3) := by decide +kernel
theorem dX7_asked_22 : decode cX7_asked 22 = .ok (.istore 4, 2) := by decide +kernel
theorem dX7_asked_24 : decode cX7_asked 24 = .ok (.aload_n 0, 1) := by decide +kernel
theorem dX7_asked_25 : decode cX7_asked 25 = .ok (.iload_n 3, 1) := by decide +kernel
theorem dX7_asked_26 : decode cX7_asked 26 = .ok (.iconst 0, 1) := by decide +kernel
theorem dX7_asked_27 : decode cX7_asked 27 = .ok (.invokevirtual 229, 3) := by decide +kernel
theorem dX7_asked_30 : decode cX7_asked 30 = .ok (.iconst 1, 1) := by decide +kernel
theorem dX7_asked_31 : decode cX7_asked 31 = .ok (.if_icmp .le 18, 3) := by decide +kernel
theorem dX7_asked_34 : decode cX7_asked 34 = .ok (.iload_n 1, 1) := by decide +kernel
theorem dX7_asked_35 : decode cX7_asked 35 = .ok (.iconst (-1), 1) := by decide +kernel
theorem dX7_asked_36 : decode cX7_asked 36 = .ok (.if_icmp .eq 9, 3) := by decide +kernel
theorem dX7_asked_39 : decode cX7_asked 39 = .ok (.iload 4, 2) := by decide +kernel
theorem dX7_asked_41 : decode cX7_asked 41 = .ok (.iload_n 2, 1) := by decide +kernel
theorem dX7_asked_42 : decode cX7_asked 42 = .ok (.if_icmp .ge 7, 3) := by decide +kernel
theorem dX7_asked_45 : decode cX7_asked 45 = .ok (.iconst 1, 1) := by decide +kernel
theorem dX7_asked_46 : decode cX7_asked 46 = .ok (.goto 4, 3) := by decide +kernel
theorem dX7_asked_49 : decode cX7_asked 49 = .ok (.iconst 0, 1) := by decide +kernel
theorem dX7_asked_50 : decode cX7_asked 50 = .ok (.istore 5, 2) := by decide +kernel
theorem dX7_asked_52 : decode cX7_asked 52 = .ok (.iload 5, 2) := by decide +kernel
theorem dX7_asked_54 : decode cX7_asked 54 = .ok (.ifCond .eq 7, 3) := by decide +kernel
theorem dX7_asked_57 : decode cX7_asked 57 = .ok (.iload_n 3, 1) := by decide +kernel
theorem dX7_asked_58 : decode cX7_asked 58 = .ok (.goto 4, 3) := by decide +kernel
theorem dX7_asked_61 : decode cX7_asked 61 = .ok (.iload_n 1, 1) := by decide +kernel
theorem dX7_asked_62 : decode cX7_asked 62 = .ok (.istore_n 1, 1) := by decide +kernel
theorem dX7_asked_63 : decode cX7_asked 63 = .ok (.iload 5, 2) := by decide +kernel
theorem dX7_asked_65 : decode cX7_asked 65 = .ok (.ifCond .eq 8, 3) := by decide +kernel
theorem dX7_asked_68 : decode cX7_asked 68 = .ok (.iload 4, 2) := by decide +kernel
theorem dX7_asked_70 : decode cX7_asked 70 = .ok (.goto 4, 3) := by decide +kernel
theorem dX7_asked_73 : decode cX7_asked 73 = .ok (.iload_n 2, 1) := by decide +kernel
theorem dX7_asked_74 : decode cX7_asked 74 = .ok (.istore_n 2, 1) := by decide +kernel
theorem dX7_asked_75 : decode cX7_asked 75 = .ok (.iinc 3 1, 3) := by decide +kernel
theorem dX7_asked_78 : decode cX7_asked 78 = .ok (.goto (-72), 3) := by decide +kernel
theorem dX7_asked_81 : decode cX7_asked 81 = .ok (.iload_n 1, 1) := by decide +kernel
theorem dX7_asked_82 : decode cX7_asked 82 = .ok (.ireturn, 1) := by decide +kernel
theorem dX7_question_0 : decode cX7_question 0 = .ok (.aload_n 0, 1) := by decide +kernel
theorem dX7_question_1 : decode cX7_question 1 = .ok (.iconst 0, 1) := by decide +kernel
theorem dX7_question_2 : decode cX7_question 2 = .ok (.putfield 68, 3) := by decide +kernel
theorem dX7_question_5 : decode cX7_question 5 = .ok (.aload_n 0, 1) := by decide +kernel
theorem dX7_question_6 : decode cX7_question 6 = .ok (.invokevirtual 187, 3) := by decide +kernel
theorem dX7_question_9 : decode cX7_question 9 = .ok (.aload_n 0, 1) := by decide +kernel
theorem dX7_question_10 : decode cX7_question 10 = .ok (.invokevirtual 268, 3) := by decide +kernel
theorem dX7_question_13 : decode cX7_question 13 = .ok (.ireturn, 1) := by decide +kernel
theorem dX7_addable_0 : decode cX7_addable 0 = .ok (.aload_n 0, 1) := by decide +kernel
theorem dX7_addable_1 : decode cX7_addable 1 = .ok (.getfield 7, 3) := by decide +kernel
theorem dX7_addable_4 : decode cX7_addable 4 = .ok (.iconst 0, 1) := by decide +kernel
theorem dX7_addable_5 : decode cX7_addable 5 = .ok (.iaload, 1) := by decide +kernel
theorem dX7_addable_6 : decode cX7_addable 6 = .ok (.bipush 12, 2) := by decide +kernel
theorem dX7_addable_8 : decode cX7_addable 8 = .ok (.if_icmp .ne 5, 3) := by decide +kernel
theorem dX7_addable_11 : decode cX7_addable 11 = .ok (.iconst 0, 1) := by decide +kernel
theorem dX7_addable_12 : decode cX7_addable 12 = .ok (.ireturn, 1) := by decide +kernel
theorem dX7_addable_13 : decode cX7_addable 13 = .ok (.iconst 0, 1) := by decide +kernel
theorem dX7_addable_14 : decode cX7_addable 14 = .ok (.istore_n 1, 1) := by decide +kernel
theorem dX7_addable_15 : decode cX7_addable 15 = .ok (.aload_n 0, 1) := by decide +kernel
theorem dX7_addable_16 : decode cX7_addable 16 = .ok (.getfield 7, 3) := by decide +kernel
theorem dX7_addable_19 : decode cX7_addable 19 = .ok (.iconst 0, 1) := by decide +kernel
theorem dX7_addable_20 : decode cX7_addable 20 = .ok (.dup2, 1) := by decide +kernel
theorem dX7_addable_21 : decode cX7_addable 21 = .ok (.iaload, 1) := by decide +kernel
theorem dX7_addable_22 : decode cX7_addable 22 = .ok (.iconst 1, 1) := by decide +kernel
theorem dX7_addable_23 : decode cX7_addable 23 = .ok (.iadd, 1) := by decide +kernel
theorem dX7_addable_24 : decode cX7_addable 24 = .ok (.iastore, 1) := by decide +kernel
theorem dX7_addable_25 : decode cX7_addable 25 = .ok (.iconst 0, 1) := by decide +kernel
theorem dX7_addable_26 : decode cX7_addable 26 = .ok (.istore_n 2, 1) := by decide +kernel
theorem dX7_addable_27 : decode cX7_addable 27 = .ok (.iload_n 2, 1) := by decide +kernel
theorem dX7_addable_28 : decode cX7_addable 28 = .ok (.bipush 7, 2) := by decide +kernel
theorem dX7_addable_30 : decode cX7_addable 30 = .ok (.if_icmp .ge 42, 3) := by decide +kernel
theorem dX7_addable_33 : decode cX7_addable 33 = .ok (.aload_n 0, 1) := by decide +kernel
theorem dX7_addable_34 : decode cX7_addable 34 = .ok (.getfield 7, 3) := by decide +kernel
theorem dX7_addable_37 : decode cX7_addable 37 = .ok (.iconst 2, 1) := by decide +kernel
theorem dX7_addable_38 : decode cX7_addable 38 = .ok (.aload_n 0, 1) := by decide +kernel
theorem dX7_addable_39 : decode cX7_addable 39 = .ok (.getfield 7, 3) := by decide +kernel
theorem dX7_addable_42 : decode cX7_addable 42 = .ok (.iconst 0, 1) := by decide +kernel
theorem dX7_addable_43 : decode cX7_addable 43 = .ok (.iaload, 1) := by decide +kernel
theorem dX7_addable_44 : decode cX7_addable 44 = .ok (.iadd, 1) := by decide +kernel
theorem dX7_addable_45 : decode cX7_addable 45 = .ok (.iconst 1, 1) := by decide +kernel
theorem dX7_addable_46 : decode cX7_addable 46 = .ok (.isub, 1) := by decide +kernel
theorem dX7_addable_47 : decode cX7_addable 47 = .ok (.iload_n 2, 1) := by decide +kernel
theorem dX7_addable_48 : decode cX7_addable 48 = .ok (.iastore, 1) := by decide +kernel
theorem dX7_addable_49 : decode cX7_addable 49 = .ok (.iload_n 1, 1) := by decide +kernel
theorem dX7_addable_50 : decode cX7_addable 50 = .ok (.aload_n 0, 1) := by decide +kernel
theorem dX7_addable_51 : decode cX7_addable 51 = .ok (.invokevirtual 252, 3) := by decide +kernel
theorem dX7_addable_54 : decode cX7_addable 54 = .ok (.ifCond .le 9, 3) := by decide +kernel
theorem dX7_addable_57 : decode cX7_addable 57 = .ok (.iconst 1, 1) := by decide +kernel
theorem dX7_addable_58 : decode cX7_addable 58 = .ok (.iload_n 2, 1) := by decide +kernel
theorem dX7_addable_59 : decode cX7_addable 59 = .ok (.ishl, 1) := by decide +kernel
theorem dX7_addable_60 : decode cX7_addable 60 = .ok (.goto 4, 3) := by decide +kernel
theorem dX7_addable_63 : decode cX7_addable 63 = .ok (.iconst 0, 1) := by decide +kernel
theorem dX7_addable_64 : decode cX7_addable 64 = .ok (.ior, 1) := by decide +kernel
theorem dX7_addable_65 : decode cX7_addable 65 = .ok (.istore_n 1, 1) := by decide +kernel
theorem dX7_addable_66 : decode cX7_addable 66 = .ok (.iinc 2 1, 3) := by decide +kernel
theorem dX7_addable_69 : decode cX7_addable 69 = .ok (.goto (-42), 3) := by decide +kernel
theorem dX7_addable_72 : decode cX7_addable 72 = .ok (.aload_n 0, 1) := by decide +kernel
theorem dX7_addable_73 : decode cX7_addable 73 = .ok (.getfield 7, 3) := by decide +kernel
theorem dX7_addable_76 : decode cX7_addable 76 = .ok (.iconst 2, 1) := by decide +kernel
theorem dX7_addable_77 : decode cX7_addable 77 = .ok (.aload_n 0, 1) := by decide +kernel
theorem dX7_addable_78 : decode cX7_addable 78 = .ok (.getfield 7, 3) := by decide +kernel
theorem dX7_addable_81 : decode cX7_addable 81 = .ok (.iconst 0, 1) := by decide +kernel
theorem dX7_addable_82 : decode cX7_addable 82 = .ok (.iaload, 1) := by decide +kernel
theorem dX7_addable_83 : decode cX7_addable 83 = .ok (.iadd, 1) := by decide +kernel
theorem dX7_addable_84 : decode cX7_addable 84 = .ok (.iconst 1, 1) := by decide +kernel
theorem dX7_addable_85 : decode cX7_addable 85 = .ok (.isub, 1) := by decide +kernel
theorem dX7_addable_86 : decode cX7_addable 86 = .ok (.iconst 0, 1) := by decide +kernel
theorem dX7_addable_87 : decode cX7_addable 87 = .ok (.iastore, 1) := by decide +kernel
theorem dX7_addable_88 : decode cX7_addable 88 = .ok (.aload_n 0, 1) := by decide +kernel
theorem dX7_addable_89 : decode cX7_addable 89 = .ok (.getfield 7, 3) := by decide +kernel
theorem dX7_addable_92 : decode cX7_addable 92 = .ok (.iconst 0, 1) := by decide +kernel
theorem dX7_addable_93 : decode cX7_addable 93 = .ok (.dup2, 1) := by decide +kernel
theorem dX7_addable_94 : decode cX7_addable 94 = .ok (.iaload, 1) := by decide +kernel
theorem dX7_addable_95 : decode cX7_addable 95 = .ok (.iconst 1, 1) := by decide +kernel
theorem dX7_addable_96 : decode cX7_addable 96 = .ok (.isub, 1) := by decide +kernel
theorem dX7_addable_97 : decode cX7_addable 97 = .ok (.iastore, 1) := by decide +kernel
theorem dX7_addable_98 : decode cX7_addable 98 = .ok (.iload_n 1, 1) := by decide +kernel
theorem dX7_addable_99 : decode cX7_addable 99 = .ok (.ireturn, 1) := by decide +kernel
theorem dX7_next_0 : decode cX7_next 0 = .ok (.aload_n 0, 1) := by decide +kernel
theorem dX7_next_1 : decode cX7_next 1 = .ok (.iconst 0, 1) := by decide +kernel
theorem dX7_next_2 : decode cX7_next 2 = .ok (.putfield 68, 3) := by decide +kernel
theorem dX7_next_5 : decode cX7_next 5 = .ok (.aload_n 0, 1) := by decide +kernel
theorem dX7_next_6 : decode cX7_next 6 = .ok (.invokevirtual 271, 3) := by decide +kernel
theorem dX7_next_9 : decode cX7_next 9 = .ok (.ireturn, 1) := by decide +kernel
theorem dX7_sure_0 : decode cX7_sure 0 = .ok (.aload_n 0, 1) := by decide +kernel
theorem dX7_sure_1 : decode cX7_sure 1 = .ok (.getfield 7, 3) := by decide +kernel
theorem dX7_sure_4 : decode cX7_sure 4 = .ok (.iconst 0, 1) := by decide +kernel
theorem dX7_sure_5 : decode cX7_sure 5 = .ok (.iaload, 1) := by decide +kernel
theorem dX7_sure_6 : decode cX7_sure 6 = .ok (.ifCond .ne 7, 3) := by decide +kernel
theorem dX7_sure_9 : decode cX7_sure 9 = .ok (.dconst 1, 1) := by decide +kernel
theorem dX7_sure_10 : decode cX7_sure 10 = .ok (.goto 17, 3) := by decide +kernel
theorem dX7_sure_13 : decode cX7_sure 13 = .ok (.aload_n 0, 1) := by decide +kernel
theorem dX7_sure_14 : decode cX7_sure 14 = .ok (.iconst 0, 1) := by decide +kernel
theorem dX7_sure_15 : decode cX7_sure 15 = .ok (.invokevirtual 258, 3) := by decide +kernel
theorem dX7_sure_18 : decode cX7_sure 18 = .ok (.i2d, 1) := by decide +kernel
theorem dX7_sure_19 : decode cX7_sure 19 = .ok (.aload_n 0, 1) := by decide +kernel
theorem dX7_sure_20 : decode cX7_sure 20 = .ok (.getfield 7, 3) := by decide +kernel
theorem dX7_sure_23 : decode cX7_sure 23 = .ok (.iconst 0, 1) := by decide +kernel
theorem dX7_sure_24 : decode cX7_sure 24 = .ok (.iaload, 1) := by decide +kernel
theorem dX7_sure_25 : decode cX7_sure 25 = .ok (.i2d, 1) := by decide +kernel
theorem dX7_sure_26 : decode cX7_sure 26 = .ok (.ddiv, 1) := by decide +kernel
theorem dX7_sure_27 : decode cX7_sure 27 = .ok (.dreturn, 1) := by decide +kernel
theorem dX7_sureShare_0 : decode cX7_sureShare 0 = .ok (.aload_n 0, 1) := by decide +kernel
theorem dX7_sureShare_1 : decode cX7_sureShare 1 = .ok (.iconst 0, 1) := by decide +kernel
theorem dX7_sureShare_2 : decode cX7_sureShare 2 = .ok (.putfield 68, 3) := by decide +kernel
theorem dX7_sureShare_5 : decode cX7_sureShare 5 = .ok (.aload_n 0, 1) := by decide +kernel
theorem dX7_sureShare_6 : decode cX7_sureShare 6 = .ok (.invokevirtual 187, 3) := by decide +kernel
theorem dX7_sureShare_9 : decode cX7_sureShare 9 = .ok (.aload_n 0, 1) := by decide +kernel
theorem dX7_sureShare_10 : decode cX7_sureShare 10 = .ok (.invokevirtual 274, 3) := by decide +kernel
theorem dX7_sureShare_13 : decode cX7_sureShare 13 = .ok (.dreturn, 1) := by decide +kernel
theorem dX7_hashes_0 : decode cX7_hashes 0 = .ok (.aload_n 0, 1) := by decide +kernel
theorem dX7_hashes_1 : decode cX7_hashes 1 = .ok (.ldc2_w 278, 3) := by decide +kernel
theorem dX7_hashes_4 : decode cX7_hashes 4 = .ok (.aload_n 0, 1) := by decide +kernel
theorem dX7_hashes_5 : decode cX7_hashes 5 = .ok (.getfield 280, 3) := by decide +kernel
theorem dX7_hashes_8 : decode cX7_hashes 8 = .ok (.lmul, 1) := by decide +kernel
theorem dX7_hashes_9 : decode cX7_hashes 9 = .ok (.lload_n 1, 1) := by decide +kernel
theorem dX7_hashes_10 : decode cX7_hashes 10 = .ok (.ladd, 1) := by decide +kernel
theorem dX7_hashes_11 : decode cX7_hashes 11 = .ok (.putfield 280, 3) := by decide +kernel
theorem dX7_hashes_14 : decode cX7_hashes 14 = .ok (.return_, 1) := by decide +kernel
theorem dX7_hashesParts_0 : decode cX7_hashesParts 0 = .ok (.aload_n 0, 1) := by decide +kernel
theorem dX7_hashesParts_1 : decode cX7_hashesParts 1 = .ok (.invokevirtual 184, 3) := by decide +kernel
theorem dX7_hashesParts_4 : decode cX7_hashesParts 4 = .ok (.iconst 0, 1) := by decide +kernel
theorem dX7_hashesParts_5 : decode cX7_hashesParts 5 = .ok (.istore_n 1, 1) := by decide +kernel
theorem dX7_hashesParts_6 : decode cX7_hashesParts 6 = .ok (.iload_n 1, 1) := by decide +kernel
theorem dX7_hashesParts_7 : decode cX7_hashesParts 7 = .ok (.aload_n 0, 1) := by decide +kernel
theorem dX7_hashesParts_8 : decode cX7_hashesParts 8 = .ok (.getfield 7, 3) := by decide +kernel
theorem dX7_hashesParts_11 : decode cX7_hashesParts 11 = .ok (.iconst 0, 1) := by decide +kernel
theorem dX7_hashesParts_12 : decode cX7_hashesParts 12 = .ok (.iaload, 1) := by decide +kernel
theorem dX7_hashesParts_13 : decode cX7_hashesParts 13 = .ok (.if_icmp .ge 36, 3) := by decide +kernel
theorem dX7_hashesParts_16 : decode cX7_hashesParts 16 = .ok (.iconst 0, 1) := by decide +kernel
theorem dX7_hashesParts_17 : decode cX7_hashesParts 17 = .ok (.istore_n 2, 1) := by decide +kernel
theorem dX7_hashesParts_18 : decode cX7_hashesParts 18 = .ok (.iload_n 2, 1) := by decide +kernel
theorem dX7_hashesParts_19 : decode cX7_hashesParts 19 = .ok (.iconst 5, 1) := by decide +kernel
theorem dX7_hashesParts_20 : decode cX7_hashesParts 20 = .ok (.if_icmp .ge 23, 3) := by decide +kernel
theorem dX7_hashesParts_23 : decode cX7_hashesParts 23 = .ok (.aload_n 0, 1) := by decide +kernel
theorem dX7_hashesParts_24 : decode cX7_hashesParts 24 = .ok (.aload_n 0, 1) := by decide +kernel
theorem dX7_hashesParts_25 : decode cX7_hashesParts 25 = .ok (.iconst 0, 1) := by decide +kernel
theorem dX7_hashesParts_26 : decode cX7_hashesParts 26 = .ok (.iload_n 1, 1) := by decide +kernel
theorem dX7_hashesParts_27 : decode cX7_hashesParts 27 = .ok (.iconst 1, 1) := by decide +kernel
theorem dX7_hashesParts_28 : decode cX7_hashesParts 28 = .ok (.iadd, 1) := by decide +kernel
theorem dX7_hashesParts_29 : decode cX7_hashesParts 29 = .ok (.iload_n 2, 1) := by decide +kernel
theorem dX7_hashesParts_30 : decode cX7_hashesParts 30 = .ok (.invokevirtual 265, 3) := by decide +kernel
theorem dX7_hashesParts_33 : decode cX7_hashesParts 33 = .ok (.i2l, 1) := by decide +kernel
theorem dX7_hashesParts_34 : decode cX7_hashesParts 34 = .ok (.invokevirtual 284, 3) := by decide +kernel
theorem dX7_hashesParts_37 : decode cX7_hashesParts 37 = .ok (.iinc 2 1, 3) := by decide +kernel
theorem dX7_hashesParts_40 : decode cX7_hashesParts 40 = .ok (.goto (-22), 3) := by decide +kernel
theorem dX7_hashesParts_43 : decode cX7_hashesParts 43 = .ok (.iinc 1 1, 3) := by decide +kernel
theorem dX7_hashesParts_46 : decode cX7_hashesParts 46 = .ok (.goto (-40), 3) := by decide +kernel
theorem dX7_hashesParts_49 : decode cX7_hashesParts 49 = .ok (.return_, 1) := by decide +kernel
theorem dX7_digest_0 : decode cX7_digest 0 = .ok (.aload_n 0, 1) := by decide +kernel
theorem dX7_digest_1 : decode cX7_digest 1 = .ok (.iconst 0, 1) := by decide +kernel
theorem dX7_digest_2 : decode cX7_digest 2 = .ok (.putfield 68, 3) := by decide +kernel
theorem dX7_digest_5 : decode cX7_digest 5 = .ok (.aload_n 0, 1) := by decide +kernel
theorem dX7_digest_6 : decode cX7_digest 6 = .ok (.ldc2_w 288, 3) := by decide +kernel
theorem dX7_digest_9 : decode cX7_digest 9 = .ok (.putfield 280, 3) := by decide +kernel
theorem dX7_digest_12 : decode cX7_digest 12 = .ok (.aload_n 0, 1) := by decide +kernel
theorem dX7_digest_13 : decode cX7_digest 13 = .ok (.invokevirtual 187, 3) := by decide +kernel
theorem dX7_digest_16 : decode cX7_digest 16 = .ok (.iconst 0, 1) := by decide +kernel
theorem dX7_digest_17 : decode cX7_digest 17 = .ok (.istore_n 1, 1) := by decide +kernel
theorem dX7_digest_18 : decode cX7_digest 18 = .ok (.iload_n 1, 1) := by decide +kernel
theorem dX7_digest_19 : decode cX7_digest 19 = .ok (.bipush 9, 2) := by decide +kernel
theorem dX7_digest_21 : decode cX7_digest 21 = .ok (.if_icmp .ge 19, 3) := by decide +kernel
theorem dX7_digest_24 : decode cX7_digest 24 = .ok (.aload_n 0, 1) := by decide +kernel
theorem dX7_digest_25 : decode cX7_digest 25 = .ok (.aload_n 0, 1) := by decide +kernel
theorem dX7_digest_26 : decode cX7_digest 26 = .ok (.iload_n 1, 1) := by decide +kernel
theorem dX7_digest_27 : decode cX7_digest 27 = .ok (.invokevirtual 262, 3) := by decide +kernel
theorem dX7_digest_30 : decode cX7_digest 30 = .ok (.i2l, 1) := by decide +kernel
theorem dX7_digest_31 : decode cX7_digest 31 = .ok (.invokevirtual 284, 3) := by decide +kernel
theorem dX7_digest_34 : decode cX7_digest 34 = .ok (.iinc 1 1, 3) := by decide +kernel
theorem dX7_digest_37 : decode cX7_digest 37 = .ok (.goto (-19), 3) := by decide +kernel
theorem dX7_digest_40 : decode cX7_digest 40 = .ok (.iconst 0, 1) := by decide +kernel
theorem dX7_digest_41 : decode cX7_digest 41 = .ok (.istore_n 1, 1) := by decide +kernel
theorem dX7_digest_42 : decode cX7_digest 42 = .ok (.iload_n 1, 1) := by decide +kernel
theorem dX7_digest_43 : decode cX7_digest 43 = .ok (.bipush 8, 2) := by decide +kernel
theorem dX7_digest_45 : decode cX7_digest 45 = .ok (.aload_n 0, 1) := by decide +kernel
theorem dX7_digest_46 : decode cX7_digest 46 = .ok (.getfield 7, 3) := by decide +kernel
theorem dX7_digest_49 : decode cX7_digest 49 = .ok (.iconst 0, 1) := by decide +kernel
theorem dX7_digest_50 : decode cX7_digest 50 = .ok (.iaload, 1) := by decide +kernel
theorem dX7_digest_51 : decode cX7_digest 51 = .ok (.imul, 1) := by decide +kernel
theorem dX7_digest_52 : decode cX7_digest 52 = .ok (.if_icmp .ge 26, 3) := by decide +kernel
theorem dX7_digest_55 : decode cX7_digest 55 = .ok (.aload_n 0, 1) := by decide +kernel
theorem dX7_digest_56 : decode cX7_digest 56 = .ok (.aload_n 0, 1) := by decide +kernel
theorem dX7_digest_57 : decode cX7_digest 57 = .ok (.iload_n 1, 1) := by decide +kernel
theorem dX7_digest_58 : decode cX7_digest 58 = .ok (.bipush 8, 2) := by decide +kernel
theorem dX7_digest_60 : decode cX7_digest 60 = .ok (.idiv, 1) := by decide +kernel
theorem dX7_digest_61 : decode cX7_digest 61 = .ok (.iload_n 1, 1) := by decide +kernel
theorem dX7_digest_62 : decode cX7_digest 62 = .ok (.bipush 8, 2) := by decide +kernel
theorem dX7_digest_64 : decode cX7_digest 64 = .ok (.irem, 1) := by decide +kernel
theorem dX7_digest_65 : decode cX7_digest 65 = .ok (.invokevirtual 240, 3) := by decide +kernel
theorem dX7_digest_68 : decode cX7_digest 68 = .ok (.i2l, 1) := by decide +kernel
theorem dX7_digest_69 : decode cX7_digest 69 = .ok (.invokevirtual 284, 3) := by decide +kernel
theorem dX7_digest_72 : decode cX7_digest 72 = .ok (.iinc 1 1, 3) := by decide +kernel
theorem dX7_digest_75 : decode cX7_digest 75 = .ok (.goto (-33), 3) := by decide +kernel
theorem dX7_digest_78 : decode cX7_digest 78 = .ok (.iconst 0, 1) := by decide +kernel
theorem dX7_digest_79 : decode cX7_digest 79 = .ok (.istore_n 1, 1) := by decide +kernel
theorem dX7_digest_80 : decode cX7_digest 80 = .ok (.iload_n 1, 1) := by decide +kernel
theorem dX7_digest_81 : decode cX7_digest 81 = .ok (.bipush 6, 2) := by decide +kernel
theorem dX7_digest_83 : decode cX7_digest 83 = .ok (.aload_n 0, 1) := by decide +kernel
theorem dX7_digest_84 : decode cX7_digest 84 = .ok (.getfield 142, 3) := by decide +kernel
theorem dX7_digest_87 : decode cX7_digest 87 = .ok (.imul, 1) := by decide +kernel
theorem dX7_digest_88 : decode cX7_digest 88 = .ok (.if_icmp .ge 32, 3) := by decide +kernel
theorem dX7_digest_91 : decode cX7_digest 91 = .ok (.iload_n 1, 1) := by decide +kernel
theorem dX7_digest_92 : decode cX7_digest 92 = .ok (.bipush 60, 2) := by decide +kernel
theorem dX7_digest_94 : decode cX7_digest 94 = .ok (.if_icmp .ge 26, 3) := by decide +kernel
theorem dX7_digest_97 : decode cX7_digest 97 = .ok (.aload_n 0, 1) := by decide +kernel
theorem dX7_digest_98 : decode cX7_digest 98 = .ok (.aload_n 0, 1) := by decide +kernel
theorem dX7_digest_99 : decode cX7_digest 99 = .ok (.iload_n 1, 1) := by decide +kernel
theorem dX7_digest_100 : decode cX7_digest 100 = .ok (.bipush 6, 2) := by decide +kernel
theorem dX7_digest_102 : decode cX7_digest 102 = .ok (.idiv, 1) := by decide +kernel
theorem dX7_digest_103 : decode cX7_digest 103 = .ok (.iload_n 1, 1) := by decide +kernel
theorem dX7_digest_104 : decode cX7_digest 104 = .ok (.bipush 6, 2) := by decide +kernel
theorem dX7_digest_106 : decode cX7_digest 106 = .ok (.irem, 1) := by decide +kernel
theorem dX7_digest_107 : decode cX7_digest 107 = .ok (.invokevirtual 249, 3) := by decide +kernel
theorem dX7_digest_110 : decode cX7_digest 110 = .ok (.i2l, 1) := by decide +kernel
theorem dX7_digest_111 : decode cX7_digest 111 = .ok (.invokevirtual 284, 3) := by decide +kernel
theorem dX7_digest_114 : decode cX7_digest 114 = .ok (.iinc 1 1, 3) := by decide +kernel
theorem dX7_digest_117 : decode cX7_digest 117 = .ok (.goto (-37), 3) := by decide +kernel
theorem dX7_digest_120 : decode cX7_digest 120 = .ok (.aload_n 0, 1) := by decide +kernel
theorem dX7_digest_121 : decode cX7_digest 121 = .ok (.invokevirtual 290, 3) := by decide +kernel
theorem dX7_digest_124 : decode cX7_digest 124 = .ok (.aload_n 0, 1) := by decide +kernel
theorem dX7_digest_125 : decode cX7_digest 125 = .ok (.aload_n 0, 1) := by decide +kernel
theorem dX7_digest_126 : decode cX7_digest 126 = .ok (.invokevirtual 268, 3) := by decide +kernel
theorem dX7_digest_129 : decode cX7_digest 129 = .ok (.i2l, 1) := by decide +kernel
theorem dX7_digest_130 : decode cX7_digest 130 = .ok (.invokevirtual 284, 3) := by decide +kernel
theorem dX7_digest_133 : decode cX7_digest 133 = .ok (.aload_n 0, 1) := by decide +kernel
theorem dX7_digest_134 : decode cX7_digest 134 = .ok (.aload_n 0, 1) := by decide +kernel
theorem dX7_digest_135 : decode cX7_digest 135 = .ok (.invokevirtual 271, 3) := by decide +kernel
theorem dX7_digest_138 : decode cX7_digest 138 = .ok (.i2l, 1) := by decide +kernel
theorem dX7_digest_139 : decode cX7_digest 139 = .ok (.invokevirtual 284, 3) := by decide +kernel
theorem dX7_digest_142 : decode cX7_digest 142 = .ok (.aload_n 0, 1) := by decide +kernel
theorem dX7_digest_143 : decode cX7_digest 143 = .ok (.aload_n 0, 1) := by decide +kernel
theorem dX7_digest_144 : decode cX7_digest 144 = .ok (.invokevirtual 274, 3) := by decide +kernel
theorem dX7_digest_147 : decode cX7_digest 147 = .ok (.invokestatic 293, 3) := by decide +kernel
theorem dX7_digest_150 : decode cX7_digest 150 = .ok (.invokevirtual 284, 3) := by decide +kernel
theorem dX7_digest_153 : decode cX7_digest 153 = .ok (.aload_n 0, 1) := by decide +kernel
theorem dX7_digest_154 : decode cX7_digest 154 = .ok (.aload_n 0, 1) := by decide +kernel
theorem dX7_digest_155 : decode cX7_digest 155 = .ok (.getfield 19, 3) := by decide +kernel
theorem dX7_digest_158 : decode cX7_digest 158 = .ok (.iconst 0, 1) := by decide +kernel
theorem dX7_digest_159 : decode cX7_digest 159 = .ok (.baload, 1) := by decide +kernel
theorem dX7_digest_160 : decode cX7_digest 160 = .ok (.ifCond .eq 7, 3) := by decide +kernel
theorem dX7_digest_163 : decode cX7_digest 163 = .ok (.lconst 1, 1) := by decide +kernel
theorem dX7_digest_164 : decode cX7_digest 164 = .ok (.goto 4, 3) := by decide +kernel
theorem dX7_digest_167 : decode cX7_digest 167 = .ok (.lconst 0, 1) := by decide +kernel
theorem dX7_digest_168 : decode cX7_digest 168 = .ok (.invokevirtual 284, 3) := by decide +kernel
theorem dX7_digest_171 : decode cX7_digest 171 = .ok (.aload_n 0, 1) := by decide +kernel
theorem dX7_digest_172 : decode cX7_digest 172 = .ok (.aload_n 0, 1) := by decide +kernel
theorem dX7_digest_173 : decode cX7_digest 173 = .ok (.getfield 19, 3) := by decide +kernel
theorem dX7_digest_176 : decode cX7_digest 176 = .ok (.iconst 1, 1) := by decide +kernel
theorem dX7_digest_177 : decode cX7_digest 177 = .ok (.baload, 1) := by decide +kernel
theorem dX7_digest_178 : decode cX7_digest 178 = .ok (.ifCond .eq 7, 3) := by decide +kernel
theorem dX7_digest_181 : decode cX7_digest 181 = .ok (.lconst 1, 1) := by decide +kernel
theorem dX7_digest_182 : decode cX7_digest 182 = .ok (.goto 4, 3) := by decide +kernel
theorem dX7_digest_185 : decode cX7_digest 185 = .ok (.lconst 0, 1) := by decide +kernel
theorem dX7_digest_186 : decode cX7_digest 186 = .ok (.invokevirtual 284, 3) := by decide +kernel
theorem dX7_digest_189 : decode cX7_digest 189 = .ok (.aload_n 0, 1) := by decide +kernel
theorem dX7_digest_190 : decode cX7_digest 190 = .ok (.aload_n 0, 1) := by decide +kernel
theorem dX7_digest_191 : decode cX7_digest 191 = .ok (.getfield 211, 3) := by decide +kernel
theorem dX7_digest_194 : decode cX7_digest 194 = .ok (.i2l, 1) := by decide +kernel
theorem dX7_digest_195 : decode cX7_digest 195 = .ok (.invokevirtual 284, 3) := by decide +kernel
theorem dX7_digest_198 : decode cX7_digest 198 = .ok (.iconst 0, 1) := by decide +kernel
theorem dX7_digest_199 : decode cX7_digest 199 = .ok (.istore_n 1, 1) := by decide +kernel
theorem dX7_digest_200 : decode cX7_digest 200 = .ok (.iload_n 1, 1) := by decide +kernel
theorem dX7_digest_201 : decode cX7_digest 201 = .ok (.aload_n 0, 1) := by decide +kernel
theorem dX7_digest_202 : decode cX7_digest 202 = .ok (.getfield 211, 3) := by decide +kernel
theorem dX7_digest_205 : decode cX7_digest 205 = .ok (.if_icmp .ge 20, 3) := by decide +kernel
theorem dX7_digest_208 : decode cX7_digest 208 = .ok (.aload_n 0, 1) := by decide +kernel
theorem dX7_digest_209 : decode cX7_digest 209 = .ok (.aload_n 0, 1) := by decide +kernel
theorem dX7_digest_210 : decode cX7_digest 210 = .ok (.getfield 23, 3) := by decide +kernel
theorem dX7_digest_213 : decode cX7_digest 213 = .ok (.iload_n 1, 1) := by decide +kernel
theorem dX7_digest_214 : decode cX7_digest 214 = .ok (.iaload, 1) := by decide +kernel
theorem dX7_digest_215 : decode cX7_digest 215 = .ok (.i2l, 1) := by decide +kernel
theorem dX7_digest_216 : decode cX7_digest 216 = .ok (.invokevirtual 284, 3) := by decide +kernel
theorem dX7_digest_219 : decode cX7_digest 219 = .ok (.iinc 1 1, 3) := by decide +kernel
theorem dX7_digest_222 : decode cX7_digest 222 = .ok (.goto (-22), 3) := by decide +kernel
theorem dX7_digest_225 : decode cX7_digest 225 = .ok (.aload_n 0, 1) := by decide +kernel
theorem dX7_digest_226 : decode cX7_digest 226 = .ok (.getfield 280, 3) := by decide +kernel
theorem dX7_digest_229 : decode cX7_digest 229 = .ok (.lreturn, 1) := by decide +kernel
