theorem dX0_init_0 : decode cX0_init 0 = .ok (.aload_n 0, 1) := by decide +kernel
theorem dX0_init_1 : decode cX0_init 1 = .ok (.invokespecial 3, 3) := by decide +kernel
theorem dX0_init_4 : decode cX0_init 4 = .ok (.aload_n 0, 1) := by decide +kernel
theorem dX0_init_5 : decode cX0_init 5 = .ok (.bipush 12, 2) := by decide +kernel
theorem dX0_init_7 : decode cX0_init 7 = .ok (.newarray .int, 2) := by decide +kernel
theorem dX0_init_9 : decode cX0_init 9 = .ok (.putfield 9, 3) := by decide +kernel
theorem dX0_init_12 : decode cX0_init 12 = .ok (.aload_n 0, 1) := by decide +kernel
theorem dX0_init_13 : decode cX0_init 13 = .ok (.bipush 12, 2) := by decide +kernel
theorem dX0_init_15 : decode cX0_init 15 = .ok (.newarray .int, 2) := by decide +kernel
theorem dX0_init_17 : decode cX0_init 17 = .ok (.putfield 15, 3) := by decide +kernel
theorem dX0_init_20 : decode cX0_init 20 = .ok (.aload_n 0, 1) := by decide +kernel
theorem dX0_init_21 : decode cX0_init 21 = .ok (.bipush 12, 2) := by decide +kernel
theorem dX0_init_23 : decode cX0_init 23 = .ok (.newarray .int, 2) := by decide +kernel
theorem dX0_init_25 : decode cX0_init 25 = .ok (.putfield 18, 3) := by decide +kernel
theorem dX0_init_28 : decode cX0_init 28 = .ok (.aload_n 0, 1) := by decide +kernel
theorem dX0_init_29 : decode cX0_init 29 = .ok (.bipush 12, 2) := by decide +kernel
theorem dX0_init_31 : decode cX0_init 31 = .ok (.newarray .int, 2) := by decide +kernel
theorem dX0_init_33 : decode cX0_init 33 = .ok (.putfield 21, 3) := by decide +kernel
theorem dX0_init_36 : decode cX0_init 36 = .ok (.aload_n 0, 1) := by decide +kernel
theorem dX0_init_37 : decode cX0_init 37 = .ok (.bipush 12, 2) := by decide +kernel
theorem dX0_init_39 : decode cX0_init 39 = .ok (.newarray .int, 2) := by decide +kernel
theorem dX0_init_41 : decode cX0_init 41 = .ok (.putfield 24, 3) := by decide +kernel
theorem dX0_init_44 : decode cX0_init 44 = .ok (.aload_n 0, 1) := by decide +kernel
theorem dX0_init_45 : decode cX0_init 45 = .ok (.bipush 12, 2) := by decide +kernel
theorem dX0_init_47 : decode cX0_init 47 = .ok (.newarray .int, 2) := by decide +kernel
theorem dX0_init_49 : decode cX0_init 49 = .ok (.putfield 27, 3) := by decide +kernel
theorem dX0_init_52 : decode cX0_init 52 = .ok (.aload_n 0, 1) := by decide +kernel
theorem dX0_init_53 : decode cX0_init 53 = .ok (.iconst 0, 1) := by decide +kernel
theorem dX0_init_54 : decode cX0_init 54 = .ok (.putfield 30, 3) := by decide +kernel
theorem dX0_init_57 : decode cX0_init 57 = .ok (.aload_n 0, 1) := by decide +kernel
theorem dX0_init_58 : decode cX0_init 58 = .ok (.iconst 0, 1) := by decide +kernel
theorem dX0_init_59 : decode cX0_init 59 = .ok (.putfield 34, 3) := by decide +kernel
theorem dX0_init_62 : decode cX0_init 62 = .ok (.return_, 1) := by decide +kernel
theorem dX0_trace_0 : decode cX0_trace 0 = .ok (.aload_n 0, 1) := by decide +kernel
theorem dX0_trace_1 : decode cX0_trace 1 = .ok (.aload_n 1, 1) := by decide +kernel
theorem dX0_trace_2 : decode cX0_trace 2 = .ok (.invokevirtual 37, 3) := by decide +kernel
theorem dX0_trace_5 : decode cX0_trace 5 = .ok (.bipush 12, 2) := by decide +kernel
theorem dX0_trace_7 : decode cX0_trace 7 = .ok (.invokestatic 42, 3) := by decide +kernel
theorem dX0_trace_10 : decode cX0_trace 10 = .ok (.putfield 30, 3) := by decide +kernel
theorem dX0_trace_13 : decode cX0_trace 13 = .ok (.aload_n 0, 1) := by decide +kernel
theorem dX0_trace_14 : decode cX0_trace 14 = .ok (.getfield 24, 3) := by decide +kernel
theorem dX0_trace_17 : decode cX0_trace 17 = .ok (.iconst 0, 1) := by decide +kernel
theorem dX0_trace_18 : decode cX0_trace 18 = .ok (.invokestatic 48, 3) := by decide +kernel
theorem dX0_trace_21 : decode cX0_trace 21 = .ok (.iconst (-1), 1) := by decide +kernel
theorem dX0_trace_22 : decode cX0_trace 22 = .ok (.istore 4, 2) := by decide +kernel
theorem dX0_trace_24 : decode cX0_trace 24 = .ok (.iconst 0, 1) := by decide +kernel
theorem dX0_trace_25 : decode cX0_trace 25 = .ok (.istore 5, 2) := by decide +kernel
theorem dX0_trace_27 : decode cX0_trace 27 = .ok (.iload 5, 2) := by decide +kernel
theorem dX0_trace_29 : decode cX0_trace 29 = .ok (.aload_n 0, 1) := by decide +kernel
theorem dX0_trace_30 : decode cX0_trace 30 = .ok (.getfield 30, 3) := by decide +kernel
theorem dX0_trace_33 : decode cX0_trace 33 = .ok (.if_icmp .ge 92, 3) := by decide +kernel
theorem dX0_trace_36 : decode cX0_trace 36 = .ok (.lload_n 2, 1) := by decide +kernel
theorem dX0_trace_37 : decode cX0_trace 37 = .ok (.iload 5, 2) := by decide +kernel
theorem dX0_trace_39 : decode cX0_trace 39 = .ok (.invokestatic 54, 3) := by decide +kernel
theorem dX0_trace_42 : decode cX0_trace 42 = .ok (.istore 6, 2) := by decide +kernel
theorem dX0_trace_44 : decode cX0_trace 44 = .ok (.aload_n 0, 1) := by decide +kernel
theorem dX0_trace_45 : decode cX0_trace 45 = .ok (.getfield 9, 3) := by decide +kernel
theorem dX0_trace_48 : decode cX0_trace 48 = .ok (.iload 5, 2) := by decide +kernel
theorem dX0_trace_50 : decode cX0_trace 50 = .ok (.aload_n 1, 1) := by decide +kernel
theorem dX0_trace_51 : decode cX0_trace 51 = .ok (.iload 5, 2) := by decide +kernel
theorem dX0_trace_53 : decode cX0_trace 53 = .ok (.invokevirtual 60, 3) := by decide +kernel
theorem dX0_trace_56 : decode cX0_trace 56 = .ok (.iastore, 1) := by decide +kernel
theorem dX0_trace_57 : decode cX0_trace 57 = .ok (.aload_n 0, 1) := by decide +kernel
theorem dX0_trace_58 : decode cX0_trace 58 = .ok (.getfield 15, 3) := by decide +kernel
theorem dX0_trace_61 : decode cX0_trace 61 = .ok (.iload 5, 2) := by decide +kernel
theorem dX0_trace_63 : decode cX0_trace 63 = .ok (.iload 6, 2) := by decide +kernel
theorem dX0_trace_65 : decode cX0_trace 65 = .ok (.iastore, 1) := by decide +kernel
theorem dX0_trace_66 : decode cX0_trace 66 = .ok (.aload_n 0, 1) := by decide +kernel
theorem dX0_trace_67 : decode cX0_trace 67 = .ok (.getfield 18, 3) := by decide +kernel
theorem dX0_trace_70 : decode cX0_trace 70 = .ok (.iload 5, 2) := by decide +kernel
theorem dX0_trace_72 : decode cX0_trace 72 = .ok (.iload 5, 2) := by decide +kernel
theorem dX0_trace_74 : decode cX0_trace 74 = .ok (.aload_n 1, 1) := by decide +kernel
theorem dX0_trace_75 : decode cX0_trace 75 = .ok (.iload 5, 2) := by decide +kernel
theorem dX0_trace_77 : decode cX0_trace 77 = .ok (.invokevirtual 60, 3) := by decide +kernel
theorem dX0_trace_80 : decode cX0_trace 80 = .ok (.iload 6, 2) := by decide +kernel
theorem dX0_trace_82 : decode cX0_trace 82 = .ok (.aload_n 1, 1) := by decide +kernel
theorem dX0_trace_83 : decode cX0_trace 83 = .ok (.iload 6, 2) := by decide +kernel
theorem dX0_trace_85 : decode cX0_trace 85 = .ok (.invokevirtual 60, 3) := by decide +kernel
theorem dX0_trace_88 : decode cX0_trace 88 = .ok (.invokestatic 64, 3) := by decide +kernel
theorem dX0_trace_91 : decode cX0_trace 91 = .ok (.iastore, 1) := by decide +kernel
theorem dX0_trace_92 : decode cX0_trace 92 = .ok (.aload_n 0, 1) := by decide +kernel
theorem dX0_trace_93 : decode cX0_trace 93 = .ok (.iload 6, 2) := by decide +kernel
theorem dX0_trace_95 : decode cX0_trace 95 = .ok (.invokevirtual 68, 3) := by decide +kernel
theorem dX0_trace_98 : decode cX0_trace 98 = .ok (.ifCond .eq 17, 3) := by decide +kernel
theorem dX0_trace_101 : decode cX0_trace 101 = .ok (.aload_n 0, 1) := by decide +kernel
theorem dX0_trace_102 : decode cX0_trace 102 = .ok (.getfield 24, 3) := by decide +kernel
theorem dX0_trace_105 : decode cX0_trace 105 = .ok (.iload 6, 2) := by decide +kernel
theorem dX0_trace_107 : decode cX0_trace 107 = .ok (.dup2, 1) := by decide +kernel
theorem dX0_trace_108 : decode cX0_trace 108 = .ok (.iaload, 1) := by decide +kernel
theorem dX0_trace_109 : decode cX0_trace 109 = .ok (.iconst 1, 1) := by decide +kernel
theorem dX0_trace_110 : decode cX0_trace 110 = .ok (.iadd, 1) := by decide +kernel
theorem dX0_trace_111 : decode cX0_trace 111 = .ok (.iastore, 1) := by decide +kernel
theorem dX0_trace_112 : decode cX0_trace 112 = .ok (.goto 7, 3) := by decide +kernel
theorem dX0_trace_115 : decode cX0_trace 115 = .ok (.iload 5, 2) := by decide +kernel
theorem dX0_trace_117 : decode cX0_trace 117 = .ok (.istore 4, 2) := by decide +kernel
theorem dX0_trace_119 : decode cX0_trace 119 = .ok (.iinc 5 1, 3) := by decide +kernel
theorem dX0_trace_122 : decode cX0_trace 122 = .ok (.goto (-95), 3) := by decide +kernel
theorem dX0_trace_125 : decode cX0_trace 125 = .ok (.iconst 0, 1) := by decide +kernel
theorem dX0_trace_126 : decode cX0_trace 126 = .ok (.istore 5, 2) := by decide +kernel
theorem dX0_trace_128 : decode cX0_trace 128 = .ok (.iload 5, 2) := by decide +kernel
theorem dX0_trace_130 : decode cX0_trace 130 = .ok (.aload_n 0, 1) := by decide +kernel
theorem dX0_trace_131 : decode cX0_trace 131 = .ok (.getfield 30, 3) := by decide +kernel
theorem dX0_trace_134 : decode cX0_trace 134 = .ok (.if_icmp .ge 22, 3) := by decide +kernel
theorem dX0_trace_137 : decode cX0_trace 137 = .ok (.aload_n 0, 1) := by decide +kernel
theorem dX0_trace_138 : decode cX0_trace 138 = .ok (.getfield 21, 3) := by decide +kernel
theorem dX0_trace_141 : decode cX0_trace 141 = .ok (.iload 5, 2) := by decide +kernel
theorem dX0_trace_143 : decode cX0_trace 143 = .ok (.aload_n 0, 1) := by decide +kernel
theorem dX0_trace_144 : decode cX0_trace 144 = .ok (.iload 5, 2) := by decide +kernel
theorem dX0_trace_146 : decode cX0_trace 146 = .ok (.invokevirtual 72, 3) := by decide +kernel
theorem dX0_trace_149 : decode cX0_trace 149 = .ok (.iastore, 1) := by decide +kernel
theorem dX0_trace_150 : decode cX0_trace 150 = .ok (.iinc 5 1, 3) := by decide +kernel
theorem dX0_trace_153 : decode cX0_trace 153 = .ok (.goto (-25), 3) := by decide +kernel
theorem dX0_trace_156 : decode cX0_trace 156 = .ok (.aload_n 0, 1) := by decide +kernel
theorem dX0_trace_157 : decode cX0_trace 157 = .ok (.iconst 0, 1) := by decide +kernel
theorem dX0_trace_158 : decode cX0_trace 158 = .ok (.putfield 34, 3) := by decide +kernel
theorem dX0_trace_161 : decode cX0_trace 161 = .ok (.aload_n 0, 1) := by decide +kernel
theorem dX0_trace_162 : decode cX0_trace 162 = .ok (.iload 4, 2) := by decide +kernel
theorem dX0_trace_164 : decode cX0_trace 164 = .ok (.iconst 0, 1) := by decide +kernel
theorem dX0_trace_165 : decode cX0_trace 165 = .ok (.invokevirtual 75, 3) := by decide +kernel
theorem dX0_trace_168 : decode cX0_trace 168 = .ok (.return_, 1) := by decide +kernel
theorem dX0_property_0 : decode cX0_property 0 = .ok (.aload_n 0, 1) := by decide +kernel
theorem dX0_property_1 : decode cX0_property 1 = .ok (.iload_n 1, 1) := by decide +kernel
theorem dX0_property_2 : decode cX0_property 2 = .ok (.invokevirtual 68, 3) := by decide +kernel
theorem dX0_property_5 : decode cX0_property 5 = .ok (.ifCond .ne 5, 3) := by decide +kernel
theorem dX0_property_8 : decode cX0_property 8 = .ok (.iconst (-1), 1) := by decide +kernel
theorem dX0_property_9 : decode cX0_property 9 = .ok (.ireturn, 1) := by decide +kernel
theorem dX0_property_10 : decode cX0_property 10 = .ok (.iload_n 2, 1) := by decide +kernel
theorem dX0_property_11 : decode cX0_property 11 = .ok (.tableswitch 60 1 4 #[29, 36, 43, 53], 29) := by decide +kernel
theorem dX0_property_40 : decode cX0_property 40 = .ok (.aload_n 0, 1) := by decide +kernel
theorem dX0_property_41 : decode cX0_property 41 = .ok (.getfield 15, 3) := by decide +kernel
theorem dX0_property_44 : decode cX0_property 44 = .ok (.iload_n 1, 1) := by decide +kernel
theorem dX0_property_45 : decode cX0_property 45 = .ok (.iaload, 1) := by decide +kernel
theorem dX0_property_46 : decode cX0_property 46 = .ok (.ireturn, 1) := by decide +kernel
theorem dX0_property_47 : decode cX0_property 47 = .ok (.aload_n 0, 1) := by decide +kernel
theorem dX0_property_48 : decode cX0_property 48 = .ok (.getfield 18, 3) := by decide +kernel
theorem dX0_property_51 : decode cX0_property 51 = .ok (.iload_n 1, 1) := by decide +kernel
theorem dX0_property_52 : decode cX0_property 52 = .ok (.iaload, 1) := by decide +kernel
theorem dX0_property_53 : decode cX0_property 53 = .ok (.ireturn, 1) := by decide +kernel
theorem dX0_property_54 : decode cX0_property 54 = .ok (.aload_n 0, 1) := by decide +kernel
theorem dX0_property_55 : decode cX0_property 55 = .ok (.getfield 21, 3) := by decide +kernel
theorem dX0_property_58 : decode cX0_property 58 = .ok (.iload_n 1, 1) := by decide +kernel
theorem dX0_property_59 : decode cX0_property 59 = .ok (.iaload, 1) := by decide +kernel
theorem dX0_property_60 : decode cX0_property 60 = .ok (.bipush 20, 2) := by decide +kernel
theorem dX0_property_62 : decode cX0_property 62 = .ok (.iadd, 1) := by decide +kernel
theorem dX0_property_63 : decode cX0_property 63 = .ok (.ireturn, 1) := by decide +kernel
theorem dX0_property_64 : decode cX0_property 64 = .ok (.aload_n 0, 1) := by decide +kernel
theorem dX0_property_65 : decode cX0_property 65 = .ok (.getfield 24, 3) := by decide +kernel
theorem dX0_property_68 : decode cX0_property 68 = .ok (.iload_n 1, 1) := by decide +kernel
theorem dX0_property_69 : decode cX0_property 69 = .ok (.iaload, 1) := by decide +kernel
theorem dX0_property_70 : decode cX0_property 70 = .ok (.ireturn, 1) := by decide +kernel
theorem dX0_property_71 : decode cX0_property 71 = .ok (.aload_n 0, 1) := by decide +kernel
theorem dX0_property_72 : decode cX0_property 72 = .ok (.getfield 27, 3) := by decide +kernel
theorem dX0_property_75 : decode cX0_property 75 = .ok (.iload_n 1, 1) := by decide +kernel
theorem dX0_property_76 : decode cX0_property 76 = .ok (.iaload, 1) := by decide +kernel
theorem dX0_property_77 : decode cX0_property 77 = .ok (.ireturn, 1) := by decide +kernel
theorem dX0_height_0 : decode cX0_height 0 = .ok (.iconst 0, 1) := by decide +kernel
theorem dX0_height_1 : decode cX0_height 1 = .ok (.istore_n 1, 1) := by decide +kernel
theorem dX0_height_2 : decode cX0_height 2 = .ok (.iconst 0, 1) := by decide +kernel
theorem dX0_height_3 : decode cX0_height 3 = .ok (.istore_n 2, 1) := by decide +kernel
theorem dX0_height_4 : decode cX0_height 4 = .ok (.iconst 0, 1) := by decide +kernel
theorem dX0_height_5 : decode cX0_height 5 = .ok (.istore_n 3, 1) := by decide +kernel
theorem dX0_height_6 : decode cX0_height 6 = .ok (.iload_n 3, 1) := by decide +kernel
theorem dX0_height_7 : decode cX0_height 7 = .ok (.aload_n 0, 1) := by decide +kernel
theorem dX0_height_8 : decode cX0_height 8 = .ok (.getfield 30, 3) := by decide +kernel
theorem dX0_height_11 : decode cX0_height 11 = .ok (.if_icmp .ge 31, 3) := by decide +kernel
theorem dX0_height_14 : decode cX0_height 14 = .ok (.iload_n 1, 1) := by decide +kernel
theorem dX0_height_15 : decode cX0_height 15 = .ok (.aload_n 0, 1) := by decide +kernel
theorem dX0_height_16 : decode cX0_height 16 = .ok (.getfield 21, 3) := by decide +kernel
theorem dX0_height_19 : decode cX0_height 19 = .ok (.iload_n 3, 1) := by decide +kernel
theorem dX0_height_20 : decode cX0_height 20 = .ok (.iaload, 1) := by decide +kernel
theorem dX0_height_21 : decode cX0_height 21 = .ok (.invokestatic 42, 3) := by decide +kernel
theorem dX0_height_24 : decode cX0_height 24 = .ok (.istore_n 1, 1) := by decide +kernel
theorem dX0_height_25 : decode cX0_height 25 = .ok (.iload_n 2, 1) := by decide +kernel
theorem dX0_height_26 : decode cX0_height 26 = .ok (.aload_n 0, 1) := by decide +kernel
theorem dX0_height_27 : decode cX0_height 27 = .ok (.getfield 21, 3) := by decide +kernel
theorem dX0_height_30 : decode cX0_height 30 = .ok (.iload_n 3, 1) := by decide +kernel
theorem dX0_height_31 : decode cX0_height 31 = .ok (.iaload, 1) := by decide +kernel
theorem dX0_height_32 : decode cX0_height 32 = .ok (.invokestatic 79, 3) := by decide +kernel
theorem dX0_height_35 : decode cX0_height 35 = .ok (.istore_n 2, 1) := by decide +kernel
theorem dX0_height_36 : decode cX0_height 36 = .ok (.iinc 3 1, 3) := by decide +kernel
theorem dX0_height_39 : decode cX0_height 39 = .ok (.goto (-33), 3) := by decide +kernel
theorem dX0_height_42 : decode cX0_height 42 = .ok (.iload_n 2, 1) := by decide +kernel
theorem dX0_height_43 : decode cX0_height 43 = .ok (.iload_n 1, 1) := by decide +kernel
theorem dX0_height_44 : decode cX0_height 44 = .ok (.isub, 1) := by decide +kernel
theorem dX0_height_45 : decode cX0_height 45 = .ok (.iconst 1, 1) := by decide +kernel
theorem dX0_height_46 : decode cX0_height 46 = .ok (.iadd, 1) := by decide +kernel
theorem dX0_height_47 : decode cX0_height 47 = .ok (.ireturn, 1) := by decide +kernel
theorem dX0_wordsOfKind_0 : decode cX0_wordsOfKind 0 = .ok (.iconst 0, 1) := by decide +kernel
theorem dX0_wordsOfKind_1 : decode cX0_wordsOfKind 1 = .ok (.istore_n 2, 1) := by decide +kernel
theorem dX0_wordsOfKind_2 : decode cX0_wordsOfKind 2 = .ok (.iconst 0, 1) := by decide +kernel
theorem dX0_wordsOfKind_3 : decode cX0_wordsOfKind 3 = .ok (.istore_n 3, 1) := by decide +kernel
theorem dX0_wordsOfKind_4 : decode cX0_wordsOfKind 4 = .ok (.iload_n 3, 1) := by decide +kernel
theorem dX0_wordsOfKind_5 : decode cX0_wordsOfKind 5 = .ok (.aload_n 0, 1) := by decide +kernel
theorem dX0_wordsOfKind_6 : decode cX0_wordsOfKind 6 = .ok (.getfield 30, 3) := by decide +kernel
theorem dX0_wordsOfKind_9 : decode cX0_wordsOfKind 9 = .ok (.if_icmp .ge 22, 3) := by decide +kernel
theorem dX0_wordsOfKind_12 : decode cX0_wordsOfKind 12 = .ok (.aload_n 0, 1) := by decide +kernel
theorem dX0_wordsOfKind_13 : decode cX0_wordsOfKind 13 = .ok (.getfield 9, 3) := by decide +kernel
theorem dX0_wordsOfKind_16 : decode cX0_wordsOfKind 16 = .ok (.iload_n 3, 1) := by decide +kernel
theorem dX0_wordsOfKind_17 : decode cX0_wordsOfKind 17 = .ok (.iaload, 1) := by decide +kernel
theorem dX0_wordsOfKind_18 : decode cX0_wordsOfKind 18 = .ok (.iload_n 1, 1) := by decide +kernel
theorem dX0_wordsOfKind_19 : decode cX0_wordsOfKind 19 = .ok (.if_icmp .ne 6, 3) := by decide +kernel
theorem dX0_wordsOfKind_22 : decode cX0_wordsOfKind 22 = .ok (.iinc 2 1, 3) := by decide +kernel
theorem dX0_wordsOfKind_25 : decode cX0_wordsOfKind 25 = .ok (.iinc 3 1, 3) := by decide +kernel
theorem dX0_wordsOfKind_28 : decode cX0_wordsOfKind 28 = .ok (.goto (-24), 3) := by decide +kernel
theorem dX0_wordsOfKind_31 : decode cX0_wordsOfKind 31 = .ok (.iload_n 2, 1) := by decide +kernel
theorem dX0_wordsOfKind_32 : decode cX0_wordsOfKind 32 = .ok (.ireturn, 1) := by decide +kernel
theorem dX0_wordsHeld_0 : decode cX0_wordsHeld 0 = .ok (.iconst 0, 1) := by decide +kernel
theorem dX0_wordsHeld_1 : decode cX0_wordsHeld 1 = .ok (.istore_n 2, 1) := by decide +kernel
theorem dX0_wordsHeld_2 : decode cX0_wordsHeld 2 = .ok (.iconst 0, 1) := by decide +kernel
theorem dX0_wordsHeld_3 : decode cX0_wordsHeld 3 = .ok (.istore_n 3, 1) := by decide +kernel
theorem dX0_wordsHeld_4 : decode cX0_wordsHeld 4 = .ok (.iload_n 3, 1) := by decide +kernel
theorem dX0_wordsHeld_5 : decode cX0_wordsHeld 5 = .ok (.aload_n 0, 1) := by decide +kernel
theorem dX0_wordsHeld_6 : decode cX0_wordsHeld 6 = .ok (.getfield 30, 3) := by decide +kernel
theorem dX0_wordsHeld_9 : decode cX0_wordsHeld 9 = .ok (.if_icmp .ge 22, 3) := by decide +kernel
theorem dX0_wordsHeld_12 : decode cX0_wordsHeld 12 = .ok (.aload_n 0, 1) := by decide +kernel
theorem dX0_wordsHeld_13 : decode cX0_wordsHeld 13 = .ok (.getfield 18, 3) := by decide +kernel
theorem dX0_wordsHeld_16 : decode cX0_wordsHeld 16 = .ok (.iload_n 3, 1) := by decide +kernel
theorem dX0_wordsHeld_17 : decode cX0_wordsHeld 17 = .ok (.iaload, 1) := by decide +kernel
theorem dX0_wordsHeld_18 : decode cX0_wordsHeld 18 = .ok (.iload_n 1, 1) := by decide +kernel
theorem dX0_wordsHeld_19 : decode cX0_wordsHeld 19 = .ok (.if_icmp .ne 6, 3) := by decide +kernel
theorem dX0_wordsHeld_22 : decode cX0_wordsHeld 22 = .ok (.iinc 2 1, 3) := by decide +kernel
theorem dX0_wordsHeld_25 : decode cX0_wordsHeld 25 = .ok (.iinc 3 1, 3) := by decide +kernel
theorem dX0_wordsHeld_28 : decode cX0_wordsHeld 28 = .ok (.goto (-24), 3) := by decide +kernel
theorem dX0_wordsHeld_31 : decode cX0_wordsHeld 31 = .ok (.iload_n 2, 1) := by decide +kernel
theorem dX0_wordsHeld_32 : decode cX0_wordsHeld 32 = .ok (.ireturn, 1) := by decide +kernel
theorem dX0_greatestLoad_0 : decode cX0_greatestLoad 0 = .ok (.iconst 0, 1) := by decide +kernel
theorem dX0_greatestLoad_1 : decode cX0_greatestLoad 1 = .ok (.istore_n 1, 1) := by decide +kernel
theorem dX0_greatestLoad_2 : decode cX0_greatestLoad 2 = .ok (.iconst 0, 1) := by decide +kernel
theorem dX0_greatestLoad_3 : decode cX0_greatestLoad 3 = .ok (.istore_n 2, 1) := by decide +kernel
theorem dX0_greatestLoad_4 : decode cX0_greatestLoad 4 = .ok (.iload_n 2, 1) := by decide +kernel
theorem dX0_greatestLoad_5 : decode cX0_greatestLoad 5 = .ok (.aload_n 0, 1) := by decide +kernel
theorem dX0_greatestLoad_6 : decode cX0_greatestLoad 6 = .ok (.getfield 30, 3) := by decide +kernel
theorem dX0_greatestLoad_9 : decode cX0_greatestLoad 9 = .ok (.if_icmp .ge 20, 3) := by decide +kernel
theorem dX0_greatestLoad_12 : decode cX0_greatestLoad 12 = .ok (.iload_n 1, 1) := by decide +kernel
theorem dX0_greatestLoad_13 : decode cX0_greatestLoad 13 = .ok (.aload_n 0, 1) := by decide +kernel
theorem dX0_greatestLoad_14 : decode cX0_greatestLoad 14 = .ok (.getfield 24, 3) := by decide +kernel
theorem dX0_greatestLoad_17 : decode cX0_greatestLoad 17 = .ok (.iload_n 2, 1) := by decide +kernel
theorem dX0_greatestLoad_18 : decode cX0_greatestLoad 18 = .ok (.iaload, 1) := by decide +kernel
theorem dX0_greatestLoad_19 : decode cX0_greatestLoad 19 = .ok (.invokestatic 79, 3) := by decide +kernel
theorem dX0_greatestLoad_22 : decode cX0_greatestLoad 22 = .ok (.istore_n 1, 1) := by decide +kernel
theorem dX0_greatestLoad_23 : decode cX0_greatestLoad 23 = .ok (.iinc 2 1, 3) := by decide +kernel
theorem dX0_greatestLoad_26 : decode cX0_greatestLoad 26 = .ok (.goto (-22), 3) := by decide +kernel
theorem dX0_greatestLoad_29 : decode cX0_greatestLoad 29 = .ok (.iload_n 1, 1) := by decide +kernel
theorem dX0_greatestLoad_30 : decode cX0_greatestLoad 30 = .ok (.ireturn, 1) := by decide +kernel
theorem dX0_isWord_0 : decode cX0_isWord 0 = .ok (.iload_n 1, 1) := by decide +kernel
theorem dX0_isWord_1 : decode cX0_isWord 1 = .ok (.ifCond .lt 21, 3) := by decide +kernel
theorem dX0_isWord_4 : decode cX0_isWord 4 = .ok (.iload_n 1, 1) := by decide +kernel
theorem dX0_isWord_5 : decode cX0_isWord 5 = .ok (.aload_n 0, 1) := by decide +kernel
theorem dX0_isWord_6 : decode cX0_isWord 6 = .ok (.getfield 30, 3) := by decide +kernel
theorem dX0_isWord_9 : decode cX0_isWord 9 = .ok (.if_icmp .ge 13, 3) := by decide +kernel
theorem dX0_isWord_12 : decode cX0_isWord 12 = .ok (.iload_n 1, 1) := by decide +kernel
theorem dX0_isWord_13 : decode cX0_isWord 13 = .ok (.bipush 12, 2) := by decide +kernel
theorem dX0_isWord_15 : decode cX0_isWord 15 = .ok (.if_icmp .ge 7, 3) := by decide +kernel
theorem dX0_isWord_18 : decode cX0_isWord 18 = .ok (.iconst 1, 1) := by decide +kernel
theorem dX0_isWord_19 : decode cX0_isWord 19 = .ok (.goto 4, 3) := by decide +kernel
theorem dX0_isWord_22 : decode cX0_isWord 22 = .ok (.iconst 0, 1) := by decide +kernel
theorem dX0_isWord_23 : decode cX0_isWord 23 = .ok (.ireturn, 1) := by decide +kernel
theorem dX0_wayOf_0 : decode cX0_wayOf 0 = .ok (.iload_n 2, 1) := by decide +kernel
theorem dX0_wayOf_1 : decode cX0_wayOf 1 = .ok (.iconst (-1), 1) := by decide +kernel
theorem dX0_wayOf_2 : decode cX0_wayOf 2 = .ok (.if_icmp .ne 5, 3) := by decide +kernel
theorem dX0_wayOf_5 : decode cX0_wayOf 5 = .ok (.iconst 0, 1) := by decide +kernel
theorem dX0_wayOf_6 : decode cX0_wayOf 6 = .ok (.ireturn, 1) := by decide +kernel
theorem dX0_wayOf_7 : decode cX0_wayOf 7 = .ok (.iload_n 1, 1) := by decide +kernel
theorem dX0_wayOf_8 : decode cX0_wayOf 8 = .ok (.tableswitch 76 0 6 #[44, 74, 76, 76, 76, 72, 74], 44) := by decide +kernel
theorem dX0_wayOf_52 : decode cX0_wayOf 52 = .ok (.iload_n 3, 1) := by decide +kernel
theorem dX0_wayOf_53 : decode cX0_wayOf 53 = .ok (.iconst 1, 1) := by decide +kernel
theorem dX0_wayOf_54 : decode cX0_wayOf 54 = .ok (.if_icmp .ne 14, 3) := by decide +kernel
theorem dX0_wayOf_57 : decode cX0_wayOf 57 = .ok (.iload_n 0, 1) := by decide +kernel
theorem dX0_wayOf_58 : decode cX0_wayOf 58 = .ok (.iload_n 2, 1) := by decide +kernel
theorem dX0_wayOf_59 : decode cX0_wayOf 59 = .ok (.if_icmp .ge 7, 3) := by decide +kernel
theorem dX0_wayOf_62 : decode cX0_wayOf 62 = .ok (.iconst 1, 1) := by decide +kernel
theorem dX0_wayOf_63 : decode cX0_wayOf 63 = .ok (.goto 4, 3) := by decide +kernel
theorem dX0_wayOf_66 : decode cX0_wayOf 66 = .ok (.iconst 2, 1) := by decide +kernel
theorem dX0_wayOf_67 : decode cX0_wayOf 67 = .ok (.ireturn, 1) := by decide +kernel
theorem dX0_wayOf_68 : decode cX0_wayOf 68 = .ok (.iload_n 3, 1) := by decide +kernel
theorem dX0_wayOf_69 : decode cX0_wayOf 69 = .ok (.iconst 5, 1) := by decide +kernel
theorem dX0_wayOf_70 : decode cX0_wayOf 70 = .ok (.if_icmp .ne 7, 3) := by decide +kernel
theorem dX0_wayOf_73 : decode cX0_wayOf 73 = .ok (.iconst 4, 1) := by decide +kernel
theorem dX0_wayOf_74 : decode cX0_wayOf 74 = .ok (.goto 5, 3) := by decide +kernel
theorem dX0_wayOf_77 : decode cX0_wayOf 77 = .ok (.bipush 6, 2) := by decide +kernel
theorem dX0_wayOf_79 : decode cX0_wayOf 79 = .ok (.ireturn, 1) := by decide +kernel
theorem dX0_wayOf_80 : decode cX0_wayOf 80 = .ok (.iconst 4, 1) := by decide +kernel
theorem dX0_wayOf_81 : decode cX0_wayOf 81 = .ok (.ireturn, 1) := by decide +kernel
theorem dX0_wayOf_82 : decode cX0_wayOf 82 = .ok (.iconst 5, 1) := by decide +kernel
theorem dX0_wayOf_83 : decode cX0_wayOf 83 = .ok (.ireturn, 1) := by decide +kernel
theorem dX0_wayOf_84 : decode cX0_wayOf 84 = .ok (.iconst 3, 1) := by decide +kernel
theorem dX0_wayOf_85 : decode cX0_wayOf 85 = .ok (.ireturn, 1) := by decide +kernel
theorem dX0_levelOf_0 : decode cX0_levelOf 0 = .ok (.iconst 0, 1) := by decide +kernel
theorem dX0_levelOf_1 : decode cX0_levelOf 1 = .ok (.istore_n 2, 1) := by decide +kernel
theorem dX0_levelOf_2 : decode cX0_levelOf 2 = .ok (.iload_n 1, 1) := by decide +kernel
theorem dX0_levelOf_3 : decode cX0_levelOf 3 = .ok (.istore_n 3, 1) := by decide +kernel
theorem dX0_levelOf_4 : decode cX0_levelOf 4 = .ok (.iconst 0, 1) := by decide +kernel
theorem dX0_levelOf_5 : decode cX0_levelOf 5 = .ok (.istore 4, 2) := by decide +kernel
theorem dX0_levelOf_7 : decode cX0_levelOf 7 = .ok (.iload 4, 2) := by decide +kernel
theorem dX0_levelOf_9 : decode cX0_levelOf 9 = .ok (.bipush 12, 2) := by decide +kernel
theorem dX0_levelOf_11 : decode cX0_levelOf 11 = .ok (.if_icmp .ge 42, 3) := by decide +kernel
theorem dX0_levelOf_14 : decode cX0_levelOf 14 = .ok (.aload_n 0, 1) := by decide +kernel
theorem dX0_levelOf_15 : decode cX0_levelOf 15 = .ok (.iload_n 3, 1) := by decide +kernel
theorem dX0_levelOf_16 : decode cX0_levelOf 16 = .ok (.invokevirtual 68, 3) := by decide +kernel
theorem dX0_levelOf_19 : decode cX0_levelOf 19 = .ok (.ifCond .eq 34, 3) := by decide +kernel
theorem dX0_levelOf_22 : decode cX0_levelOf 22 = .ok (.iload_n 2, 1) := by decide +kernel
theorem dX0_levelOf_23 : decode cX0_levelOf 23 = .ok (.aload_n 0, 1) := by decide +kernel
theorem dX0_levelOf_24 : decode cX0_levelOf 24 = .ok (.getfield 18, 3) := by decide +kernel
theorem dX0_levelOf_27 : decode cX0_levelOf 27 = .ok (.iload_n 3, 1) := by decide +kernel
theorem dX0_levelOf_28 : decode cX0_levelOf 28 = .ok (.iaload, 1) := by decide +kernel
theorem dX0_levelOf_29 : decode cX0_levelOf 29 = .ok (.aload_n 0, 1) := by decide +kernel
theorem dX0_levelOf_30 : decode cX0_levelOf 30 = .ok (.getfield 9, 3) := by decide +kernel
theorem dX0_levelOf_33 : decode cX0_levelOf 33 = .ok (.iload_n 3, 1) := by decide +kernel
theorem dX0_levelOf_34 : decode cX0_levelOf 34 = .ok (.iaload, 1) := by decide +kernel
theorem dX0_levelOf_35 : decode cX0_levelOf 35 = .ok (.invokestatic 82, 3) := by decide +kernel
theorem dX0_levelOf_38 : decode cX0_levelOf 38 = .ok (.iadd, 1) := by decide +kernel
theorem dX0_levelOf_39 : decode cX0_levelOf 39 = .ok (.istore_n 2, 1) := by decide +kernel
theorem dX0_levelOf_40 : decode cX0_levelOf 40 = .ok (.aload_n 0, 1) := by decide +kernel
theorem dX0_levelOf_41 : decode cX0_levelOf 41 = .ok (.getfield 15, 3) := by decide +kernel
theorem dX0_levelOf_44 : decode cX0_levelOf 44 = .ok (.iload_n 3, 1) := by decide +kernel
theorem dX0_levelOf_45 : decode cX0_levelOf 45 = .ok (.iaload, 1) := by decide +kernel
theorem dX0_levelOf_46 : decode cX0_levelOf 46 = .ok (.istore_n 3, 1) := by decide +kernel
theorem dX0_levelOf_47 : decode cX0_levelOf 47 = .ok (.iinc 4 1, 3) := by decide +kernel
theorem dX0_levelOf_50 : decode cX0_levelOf 50 = .ok (.goto (-43), 3) := by decide +kernel
theorem dX0_levelOf_53 : decode cX0_levelOf 53 = .ok (.iload_n 2, 1) := by decide +kernel
theorem dX0_levelOf_54 : decode cX0_levelOf 54 = .ok (.ireturn, 1) := by decide +kernel
theorem dX0_riseOf_0 : decode cX0_riseOf 0 = .ok (.iload_n 0, 1) := by decide +kernel
theorem dX0_riseOf_1 : decode cX0_riseOf 1 = .ok (.tableswitch 45 3 6 #[31, 45, 33, 31], 31) := by decide +kernel
theorem dX0_riseOf_32 : decode cX0_riseOf 32 = .ok (.iconst (-1), 1) := by decide +kernel
theorem dX0_riseOf_33 : decode cX0_riseOf 33 = .ok (.ireturn, 1) := by decide +kernel
theorem dX0_riseOf_34 : decode cX0_riseOf 34 = .ok (.iload_n 1, 1) := by decide +kernel
theorem dX0_riseOf_35 : decode cX0_riseOf 35 = .ok (.bipush 6, 2) := by decide +kernel
theorem dX0_riseOf_37 : decode cX0_riseOf 37 = .ok (.if_icmp .ne 7, 3) := by decide +kernel
theorem dX0_riseOf_40 : decode cX0_riseOf 40 = .ok (.iconst 1, 1) := by decide +kernel
theorem dX0_riseOf_41 : decode cX0_riseOf 41 = .ok (.goto 4, 3) := by decide +kernel
theorem dX0_riseOf_44 : decode cX0_riseOf 44 = .ok (.iconst 0, 1) := by decide +kernel
theorem dX0_riseOf_45 : decode cX0_riseOf 45 = .ok (.ireturn, 1) := by decide +kernel
theorem dX0_riseOf_46 : decode cX0_riseOf 46 = .ok (.iconst 0, 1) := by decide +kernel
theorem dX0_riseOf_47 : decode cX0_riseOf 47 = .ok (.ireturn, 1) := by decide +kernel
theorem dX0_readAlong_0 : decode cX0_readAlong 0 = .ok (.aload_n 0, 1) := by decide +kernel
theorem dX0_readAlong_1 : decode cX0_readAlong 1 = .ok (.iload_n 1, 1) := by decide +kernel
theorem dX0_readAlong_2 : decode cX0_readAlong 2 = .ok (.invokevirtual 68, 3) := by decide +kernel
theorem dX0_readAlong_5 : decode cX0_readAlong 5 = .ok (.ifCond .eq 9, 3) := by decide +kernel
theorem dX0_readAlong_8 : decode cX0_readAlong 8 = .ok (.iload_n 2, 1) := by decide +kernel
theorem dX0_readAlong_9 : decode cX0_readAlong 9 = .ok (.bipush 12, 2) := by decide +kernel
theorem dX0_readAlong_11 : decode cX0_readAlong 11 = .ok (.if_icmp .le 4, 3) := by decide +kernel
theorem dX0_readAlong_14 : decode cX0_readAlong 14 = .ok (.return_, 1) := by decide +kernel
theorem dX0_readAlong_15 : decode cX0_readAlong 15 = .ok (.iconst 0, 1) := by decide +kernel
theorem dX0_readAlong_16 : decode cX0_readAlong 16 = .ok (.istore_n 3, 1) := by decide +kernel
theorem dX0_readAlong_17 : decode cX0_readAlong 17 = .ok (.iload_n 3, 1) := by decide +kernel
theorem dX0_readAlong_18 : decode cX0_readAlong 18 = .ok (.iload_n 1, 1) := by decide +kernel
theorem dX0_readAlong_19 : decode cX0_readAlong 19 = .ok (.if_icmp .ge 27, 3) := by decide +kernel
theorem dX0_readAlong_22 : decode cX0_readAlong 22 = .ok (.aload_n 0, 1) := by decide +kernel
theorem dX0_readAlong_23 : decode cX0_readAlong 23 = .ok (.getfield 15, 3) := by decide +kernel
theorem dX0_readAlong_26 : decode cX0_readAlong 26 = .ok (.iload_n 3, 1) := by decide +kernel
theorem dX0_readAlong_27 : decode cX0_readAlong 27 = .ok (.iaload, 1) := by decide +kernel
theorem dX0_readAlong_28 : decode cX0_readAlong 28 = .ok (.iload_n 1, 1) := by decide +kernel
theorem dX0_readAlong_29 : decode cX0_readAlong 29 = .ok (.if_icmp .ne 11, 3) := by decide +kernel
theorem dX0_readAlong_32 : decode cX0_readAlong 32 = .ok (.aload_n 0, 1) := by decide +kernel
theorem dX0_readAlong_33 : decode cX0_readAlong 33 = .ok (.iload_n 3, 1) := by decide +kernel
theorem dX0_readAlong_34 : decode cX0_readAlong 34 = .ok (.iload_n 2, 1) := by decide +kernel
theorem dX0_readAlong_35 : decode cX0_readAlong 35 = .ok (.iconst 1, 1) := by decide +kernel
theorem dX0_readAlong_36 : decode cX0_readAlong 36 = .ok (.iadd, 1) := by decide +kernel
theorem dX0_readAlong_37 : decode cX0_readAlong 37 = .ok (.invokevirtual 75, 3) := by decide +kernel
theorem dX0_readAlong_40 : decode cX0_readAlong 40 = .ok (.iinc 3 1, 3) := by decide +kernel
theorem dX0_readAlong_43 : decode cX0_readAlong 43 = .ok (.goto (-26), 3) := by decide +kernel
theorem dX0_readAlong_46 : decode cX0_readAlong 46 = .ok (.aload_n 0, 1) := by decide +kernel
theorem dX0_readAlong_47 : decode cX0_readAlong 47 = .ok (.getfield 27, 3) := by decide +kernel
theorem dX0_readAlong_50 : decode cX0_readAlong 50 = .ok (.iload_n 1, 1) := by decide +kernel
theorem dX0_readAlong_51 : decode cX0_readAlong 51 = .ok (.aload_n 0, 1) := by decide +kernel
theorem dX0_readAlong_52 : decode cX0_readAlong 52 = .ok (.getfield 34, 3) := by decide +kernel
theorem dX0_readAlong_55 : decode cX0_readAlong 55 = .ok (.iastore, 1) := by decide +kernel
theorem dX0_readAlong_56 : decode cX0_readAlong 56 = .ok (.aload_n 0, 1) := by decide +kernel
theorem dX0_readAlong_57 : decode cX0_readAlong 57 = .ok (.dup, 1) := by decide +kernel
theorem dX0_readAlong_58 : decode cX0_readAlong 58 = .ok (.getfield 34, 3) := by decide +kernel
theorem dX0_readAlong_61 : decode cX0_readAlong 61 = .ok (.iconst 1, 1) := by decide +kernel
theorem dX0_readAlong_62 : decode cX0_readAlong 62 = .ok (.iadd, 1) := by decide +kernel
theorem dX0_readAlong_63 : decode cX0_readAlong 63 = .ok (.putfield 34, 3) := by decide +kernel
theorem dX0_readAlong_66 : decode cX0_readAlong 66 = .ok (.iload_n 1, 1) := by decide +kernel
theorem dX0_readAlong_67 : decode cX0_readAlong 67 = .ok (.iconst 1, 1) := by decide +kernel
theorem dX0_readAlong_68 : decode cX0_readAlong 68 = .ok (.iadd, 1) := by decide +kernel
theorem dX0_readAlong_69 : decode cX0_readAlong 69 = .ok (.istore_n 3, 1) := by decide +kernel
theorem dX0_readAlong_70 : decode cX0_readAlong 70 = .ok (.iload_n 3, 1) := by decide +kernel
theorem dX0_readAlong_71 : decode cX0_readAlong 71 = .ok (.aload_n 0, 1) := by decide +kernel
theorem dX0_readAlong_72 : decode cX0_readAlong 72 = .ok (.getfield 30, 3) := by decide +kernel
theorem dX0_readAlong_75 : decode cX0_readAlong 75 = .ok (.if_icmp .ge 27, 3) := by decide +kernel
theorem dX0_readAlong_78 : decode cX0_readAlong 78 = .ok (.aload_n 0, 1) := by decide +kernel
theorem dX0_readAlong_79 : decode cX0_readAlong 79 = .ok (.getfield 15, 3) := by decide +kernel
theorem dX0_readAlong_82 : decode cX0_readAlong 82 = .ok (.iload_n 3, 1) := by decide +kernel
theorem dX0_readAlong_83 : decode cX0_readAlong 83 = .ok (.iaload, 1) := by decide +kernel
theorem dX0_readAlong_84 : decode cX0_readAlong 84 = .ok (.iload_n 1, 1) := by decide +kernel
theorem dX0_readAlong_85 : decode cX0_readAlong 85 = .ok (.if_icmp .ne 11, 3) := by decide +kernel
theorem dX0_readAlong_88 : decode cX0_readAlong 88 = .ok (.aload_n 0, 1) := by decide +kernel
theorem dX0_readAlong_89 : decode cX0_readAlong 89 = .ok (.iload_n 3, 1) := by decide +kernel
theorem dX0_readAlong_90 : decode cX0_readAlong 90 = .ok (.iload_n 2, 1) := by decide +kernel
theorem dX0_readAlong_91 : decode cX0_readAlong 91 = .ok (.iconst 1, 1) := by decide +kernel
theorem dX0_readAlong_92 : decode cX0_readAlong 92 = .ok (.iadd, 1) := by decide +kernel
theorem dX0_readAlong_93 : decode cX0_readAlong 93 = .ok (.invokevirtual 75, 3) := by decide +kernel
theorem dX0_readAlong_96 : decode cX0_readAlong 96 = .ok (.iinc 3 1, 3) := by decide +kernel
theorem dX0_readAlong_99 : decode cX0_readAlong 99 = .ok (.goto (-29), 3) := by decide +kernel
theorem dX0_readAlong_102 : decode cX0_readAlong 102 = .ok (.return_, 1) := by decide +kernel
theorem dX1_init_0 : decode cX1_init 0 = .ok (.aload_n 0, 1) := by decide +kernel
theorem dX1_init_1 : decode cX1_init 1 = .ok (.invokespecial 3, 3) := by decide +kernel
theorem dX1_init_4 : decode cX1_init 4 = .ok (.aload_n 0, 1) := by decide +kernel
theorem dX1_init_5 : decode cX1_init 5 = .ok (.sipush 169, 3) := by decide +kernel
theorem dX1_init_8 : decode cX1_init 8 = .ok (.newarray .int, 2) := by decide +kernel
theorem dX1_init_10 : decode cX1_init 10 = .ok (.putfield 11, 3) := by decide +kernel
theorem dX1_init_13 : decode cX1_init 13 = .ok (.return_, 1) := by decide +kernel
theorem dX1_at_0 : decode cX1_at 0 = .ok (.iload_n 1, 1) := by decide +kernel
theorem dX1_at_1 : decode cX1_at 1 = .ok (.ifCond .lt 33, 3) := by decide +kernel
theorem dX1_at_4 : decode cX1_at 4 = .ok (.iload_n 1, 1) := by decide +kernel
theorem dX1_at_5 : decode cX1_at 5 = .ok (.bipush 13, 2) := by decide +kernel
theorem dX1_at_7 : decode cX1_at 7 = .ok (.if_icmp .ge 27, 3) := by decide +kernel
theorem dX1_at_10 : decode cX1_at 10 = .ok (.iload_n 2, 1) := by decide +kernel
theorem dX1_at_11 : decode cX1_at 11 = .ok (.ifCond .lt 23, 3) := by decide +kernel
theorem dX1_at_14 : decode cX1_at 14 = .ok (.iload_n 2, 1) := by decide +kernel
theorem dX1_at_15 : decode cX1_at 15 = .ok (.bipush 13, 2) := by decide +kernel
theorem dX1_at_17 : decode cX1_at 17 = .ok (.if_icmp .ge 17, 3) := by decide +kernel
theorem dX1_at_20 : decode cX1_at 20 = .ok (.aload_n 0, 1) := by decide +kernel
theorem dX1_at_21 : decode cX1_at 21 = .ok (.getfield 11, 3) := by decide +kernel
theorem dX1_at_24 : decode cX1_at 24 = .ok (.iload_n 1, 1) := by decide +kernel
theorem dX1_at_25 : decode cX1_at 25 = .ok (.bipush 13, 2) := by decide +kernel
theorem dX1_at_27 : decode cX1_at 27 = .ok (.imul, 1) := by decide +kernel
theorem dX1_at_28 : decode cX1_at 28 = .ok (.iload_n 2, 1) := by decide +kernel
theorem dX1_at_29 : decode cX1_at 29 = .ok (.iadd, 1) := by decide +kernel
theorem dX1_at_30 : decode cX1_at 30 = .ok (.iaload, 1) := by decide +kernel
theorem dX1_at_31 : decode cX1_at 31 = .ok (.goto 4, 3) := by decide +kernel
theorem dX1_at_34 : decode cX1_at 34 = .ok (.iconst 0, 1) := by decide +kernel
theorem dX1_at_35 : decode cX1_at 35 = .ok (.ireturn, 1) := by decide +kernel
theorem dX1_atOrEmpty_0 : decode cX1_atOrEmpty 0 = .ok (.iload_n 1, 1) := by decide +kernel
theorem dX1_atOrEmpty_1 : decode cX1_atOrEmpty 1 = .ok (.iload_n 2, 1) := by decide +kernel
theorem dX1_atOrEmpty_2 : decode cX1_atOrEmpty 2 = .ok (.if_icmp .ne 7, 3) := by decide +kernel
theorem dX1_atOrEmpty_5 : decode cX1_atOrEmpty 5 = .ok (.iconst 1, 1) := by decide +kernel
theorem dX1_atOrEmpty_6 : decode cX1_atOrEmpty 6 = .ok (.goto 9, 3) := by decide +kernel
theorem dX1_atOrEmpty_9 : decode cX1_atOrEmpty 9 = .ok (.aload_n 0, 1) := by decide +kernel
theorem dX1_atOrEmpty_10 : decode cX1_atOrEmpty 10 = .ok (.iload_n 1, 1) := by decide +kernel
theorem dX1_atOrEmpty_11 : decode cX1_atOrEmpty 11 = .ok (.iload_n 2, 1) := by decide +kernel
theorem dX1_atOrEmpty_12 : decode cX1_atOrEmpty 12 = .ok (.invokevirtual 15, 3) := by decide +kernel
theorem dX1_atOrEmpty_15 : decode cX1_atOrEmpty 15 = .ok (.ireturn, 1) := by decide +kernel
theorem dX1_put_0 : decode cX1_put 0 = .ok (.iload_n 1, 1) := by decide +kernel
theorem dX1_put_1 : decode cX1_put 1 = .ok (.ifCond .lt 31, 3) := by decide +kernel
theorem dX1_put_4 : decode cX1_put 4 = .ok (.iload_n 1, 1) := by decide +kernel
theorem dX1_put_5 : decode cX1_put 5 = .ok (.bipush 13, 2) := by decide +kernel
theorem dX1_put_7 : decode cX1_put 7 = .ok (.if_icmp .ge 25, 3) := by decide +kernel
theorem dX1_put_10 : decode cX1_put 10 = .ok (.iload_n 2, 1) := by decide +kernel
theorem dX1_put_11 : decode cX1_put 11 = .ok (.ifCond .lt 21, 3) := by decide +kernel
theorem dX1_put_14 : decode cX1_put 14 = .ok (.iload_n 2, 1) := by decide +kernel
theorem dX1_put_15 : decode cX1_put 15 = .ok (.bipush 13, 2) := by decide +kernel
theorem dX1_put_17 : decode cX1_put 17 = .ok (.if_icmp .ge 15, 3) := by decide +kernel
theorem dX1_put_20 : decode cX1_put 20 = .ok (.aload_n 0, 1) := by decide +kernel
theorem dX1_put_21 : decode cX1_put 21 = .ok (.getfield 11, 3) := by decide +kernel
theorem dX1_put_24 : decode cX1_put 24 = .ok (.iload_n 1, 1) := by decide +kernel
theorem dX1_put_25 : decode cX1_put 25 = .ok (.bipush 13, 2) := by decide +kernel
theorem dX1_put_27 : decode cX1_put 27 = .ok (.imul, 1) := by decide +kernel
theorem dX1_put_28 : decode cX1_put 28 = .ok (.iload_n 2, 1) := by decide +kernel
theorem dX1_put_29 : decode cX1_put 29 = .ok (.iadd, 1) := by decide +kernel
theorem dX1_put_30 : decode cX1_put 30 = .ok (.iload_n 3, 1) := by decide +kernel
theorem dX1_put_31 : decode cX1_put 31 = .ok (.iastore, 1) := by decide +kernel
theorem dX1_put_32 : decode cX1_put 32 = .ok (.return_, 1) := by decide +kernel
theorem dX2_init_0 : decode cX2_init 0 = .ok (.aload_n 0, 1) := by decide +kernel
theorem dX2_init_1 : decode cX2_init 1 = .ok (.invokespecial 3, 3) := by decide +kernel
theorem dX2_init_4 : decode cX2_init 4 = .ok (.aload_n 0, 1) := by decide +kernel
theorem dX2_init_5 : decode cX2_init 5 = .ok (.new 9, 3) := by decide +kernel
theorem dX2_init_8 : decode cX2_init 8 = .ok (.dup, 1) := by decide +kernel
theorem dX2_init_9 : decode cX2_init 9 = .ok (.invokespecial 11, 3) := by decide +kernel
theorem dX2_init_12 : decode cX2_init 12 = .ok (.putfield 12, 3) := by decide +kernel
theorem dX2_init_15 : decode cX2_init 15 = .ok (.aload_n 0, 1) := by decide +kernel
theorem dX2_init_16 : decode cX2_init 16 = .ok (.new 9, 3) := by decide +kernel
theorem dX2_init_19 : decode cX2_init 19 = .ok (.dup, 1) := by decide +kernel
theorem dX2_init_20 : decode cX2_init 20 = .ok (.invokespecial 11, 3) := by decide +kernel
theorem dX2_init_23 : decode cX2_init 23 = .ok (.putfield 18, 3) := by decide +kernel
theorem dX2_init_26 : decode cX2_init 26 = .ok (.aload_n 0, 1) := by decide +kernel
theorem dX2_init_27 : decode cX2_init 27 = .ok (.new 9, 3) := by decide +kernel
theorem dX2_init_30 : decode cX2_init 30 = .ok (.dup, 1) := by decide +kernel
theorem dX2_init_31 : decode cX2_init 31 = .ok (.invokespecial 11, 3) := by decide +kernel
theorem dX2_init_34 : decode cX2_init 34 = .ok (.putfield 21, 3) := by decide +kernel
theorem dX2_init_37 : decode cX2_init 37 = .ok (.aload_n 0, 1) := by decide +kernel
theorem dX2_init_38 : decode cX2_init 38 = .ok (.new 9, 3) := by decide +kernel
theorem dX2_init_41 : decode cX2_init 41 = .ok (.dup, 1) := by decide +kernel
theorem dX2_init_42 : decode cX2_init 42 = .ok (.invokespecial 11, 3) := by decide +kernel
theorem dX2_init_45 : decode cX2_init 45 = .ok (.putfield 24, 3) := by decide +kernel
theorem dX2_init_48 : decode cX2_init 48 = .ok (.aload_n 0, 1) := by decide +kernel
theorem dX2_init_49 : decode cX2_init 49 = .ok (.new 9, 3) := by decide +kernel
theorem dX2_init_52 : decode cX2_init 52 = .ok (.dup, 1) := by decide +kernel
theorem dX2_init_53 : decode cX2_init 53 = .ok (.invokespecial 11, 3) := by decide +kernel
theorem dX2_init_56 : decode cX2_init 56 = .ok (.putfield 27, 3) := by decide +kernel
theorem dX2_init_59 : decode cX2_init 59 = .ok (.aload_n 0, 1) := by decide +kernel
theorem dX2_init_60 : decode cX2_init 60 = .ok (.new 9, 3) := by decide +kernel
theorem dX2_init_63 : decode cX2_init 63 = .ok (.dup, 1) := by decide +kernel
theorem dX2_init_64 : decode cX2_init 64 = .ok (.invokespecial 11, 3) := by decide +kernel
theorem dX2_init_67 : decode cX2_init 67 = .ok (.putfield 30, 3) := by decide +kernel
theorem dX2_init_70 : decode cX2_init 70 = .ok (.aload_n 0, 1) := by decide +kernel
theorem dX2_init_71 : decode cX2_init 71 = .ok (.new 9, 3) := by decide +kernel
theorem dX2_init_74 : decode cX2_init 74 = .ok (.dup, 1) := by decide +kernel
theorem dX2_init_75 : decode cX2_init 75 = .ok (.invokespecial 11, 3) := by decide +kernel
theorem dX2_init_78 : decode cX2_init 78 = .ok (.putfield 33, 3) := by decide +kernel
theorem dX2_init_81 : decode cX2_init 81 = .ok (.return_, 1) := by decide +kernel
theorem dX2_ways_0 : decode cX2_ways 0 = .ok (.iload_n 1, 1) := by decide +kernel
theorem dX2_ways_1 : decode cX2_ways 1 = .ok (.iload_n 2, 1) := by decide +kernel
theorem dX2_ways_2 : decode cX2_ways 2 = .ok (.if_icmp .lt 5, 3) := by decide +kernel
theorem dX2_ways_5 : decode cX2_ways 5 = .ok (.iconst 0, 1) := by decide +kernel
theorem dX2_ways_6 : decode cX2_ways 6 = .ok (.ireturn, 1) := by decide +kernel
theorem dX2_ways_7 : decode cX2_ways 7 = .ok (.iload_n 3, 1) := by decide +kernel
theorem dX2_ways_8 : decode cX2_ways 8 = .ok (.tableswitch 72 0 3 #[32, 42, 52, 62], 32) := by decide +kernel
theorem dX2_ways_40 : decode cX2_ways 40 = .ok (.aload_n 0, 1) := by decide +kernel
theorem dX2_ways_41 : decode cX2_ways 41 = .ok (.getfield 12, 3) := by decide +kernel
theorem dX2_ways_44 : decode cX2_ways 44 = .ok (.iload_n 1, 1) := by decide +kernel
theorem dX2_ways_45 : decode cX2_ways 45 = .ok (.iload_n 2, 1) := by decide +kernel
theorem dX2_ways_46 : decode cX2_ways 46 = .ok (.invokevirtual 36, 3) := by decide +kernel
theorem dX2_ways_49 : decode cX2_ways 49 = .ok (.ireturn, 1) := by decide +kernel
theorem dX2_ways_50 : decode cX2_ways 50 = .ok (.aload_n 0, 1) := by decide +kernel
theorem dX2_ways_51 : decode cX2_ways 51 = .ok (.getfield 18, 3) := by decide +kernel
theorem dX2_ways_54 : decode cX2_ways 54 = .ok (.iload_n 1, 1) := by decide +kernel
theorem dX2_ways_55 : decode cX2_ways 55 = .ok (.iload_n 2, 1) := by decide +kernel
theorem dX2_ways_56 : decode cX2_ways 56 = .ok (.invokevirtual 36, 3) := by decide +kernel
theorem dX2_ways_59 : decode cX2_ways 59 = .ok (.ireturn, 1) := by decide +kernel
theorem dX2_ways_60 : decode cX2_ways 60 = .ok (.aload_n 0, 1) := by decide +kernel
theorem dX2_ways_61 : decode cX2_ways 61 = .ok (.getfield 21, 3) := by decide +kernel
theorem dX2_ways_64 : decode cX2_ways 64 = .ok (.iload_n 1, 1) := by decide +kernel
theorem dX2_ways_65 : decode cX2_ways 65 = .ok (.iload_n 2, 1) := by decide +kernel
theorem dX2_ways_66 : decode cX2_ways 66 = .ok (.invokevirtual 36, 3) := by decide +kernel
theorem dX2_ways_69 : decode cX2_ways 69 = .ok (.ireturn, 1) := by decide +kernel
theorem dX2_ways_70 : decode cX2_ways 70 = .ok (.aload_n 0, 1) := by decide +kernel
theorem dX2_ways_71 : decode cX2_ways 71 = .ok (.getfield 24, 3) := by decide +kernel
theorem dX2_ways_74 : decode cX2_ways 74 = .ok (.iload_n 1, 1) := by decide +kernel
theorem dX2_ways_75 : decode cX2_ways 75 = .ok (.iload_n 2, 1) := by decide +kernel
theorem dX2_ways_76 : decode cX2_ways 76 = .ok (.invokevirtual 36, 3) := by decide +kernel
theorem dX2_ways_79 : decode cX2_ways 79 = .ok (.ireturn, 1) := by decide +kernel
theorem dX2_ways_80 : decode cX2_ways 80 = .ok (.aload_n 0, 1) := by decide +kernel
theorem dX2_ways_81 : decode cX2_ways 81 = .ok (.getfield 27, 3) := by decide +kernel
theorem dX2_ways_84 : decode cX2_ways 84 = .ok (.iload_n 1, 1) := by decide +kernel
theorem dX2_ways_85 : decode cX2_ways 85 = .ok (.iload_n 2, 1) := by decide +kernel
theorem dX2_ways_86 : decode cX2_ways 86 = .ok (.invokevirtual 36, 3) := by decide +kernel
theorem dX2_ways_89 : decode cX2_ways 89 = .ok (.ireturn, 1) := by decide +kernel
theorem dX2_tell_0 : decode cX2_tell 0 = .ok (.aload_n 1, 1) := by decide +kernel
theorem dX2_tell_1 : decode cX2_tell 1 = .ok (.invokevirtual 40, 3) := by decide +kernel
theorem dX2_tell_4 : decode cX2_tell 4 = .ok (.iconst 1, 1) := by decide +kernel
theorem dX2_tell_5 : decode cX2_tell 5 = .ok (.isub, 1) := by decide +kernel
theorem dX2_tell_6 : decode cX2_tell 6 = .ok (.istore_n 2, 1) := by decide +kernel
theorem dX2_tell_7 : decode cX2_tell 7 = .ok (.iload_n 2, 1) := by decide +kernel
theorem dX2_tell_8 : decode cX2_tell 8 = .ok (.ifCond .lt 155, 3) := by decide +kernel
theorem dX2_tell_11 : decode cX2_tell 11 = .ok (.iload_n 2, 1) := by decide +kernel
theorem dX2_tell_12 : decode cX2_tell 12 = .ok (.iconst 1, 1) := by decide +kernel
theorem dX2_tell_13 : decode cX2_tell 13 = .ok (.iadd, 1) := by decide +kernel
theorem dX2_tell_14 : decode cX2_tell 14 = .ok (.istore_n 3, 1) := by decide +kernel
theorem dX2_tell_15 : decode cX2_tell 15 = .ok (.iload_n 3, 1) := by decide +kernel
theorem dX2_tell_16 : decode cX2_tell 16 = .ok (.aload_n 1, 1) := by decide +kernel
theorem dX2_tell_17 : decode cX2_tell 17 = .ok (.invokevirtual 40, 3) := by decide +kernel
theorem dX2_tell_20 : decode cX2_tell 20 = .ok (.if_icmp .gt 137, 3) := by decide +kernel
theorem dX2_tell_23 : decode cX2_tell 23 = .ok (.aload_n 0, 1) := by decide +kernel
theorem dX2_tell_24 : decode cX2_tell 24 = .ok (.getfield 12, 3) := by decide +kernel
theorem dX2_tell_27 : decode cX2_tell 27 = .ok (.iload_n 2, 1) := by decide +kernel
theorem dX2_tell_28 : decode cX2_tell 28 = .ok (.iload_n 3, 1) := by decide +kernel
theorem dX2_tell_29 : decode cX2_tell 29 = .ok (.aload_n 0, 1) := by decide +kernel
theorem dX2_tell_30 : decode cX2_tell 30 = .ok (.aload_n 1, 1) := by decide +kernel
theorem dX2_tell_31 : decode cX2_tell 31 = .ok (.iload_n 2, 1) := by decide +kernel
theorem dX2_tell_32 : decode cX2_tell 32 = .ok (.iload_n 3, 1) := by decide +kernel
theorem dX2_tell_33 : decode cX2_tell 33 = .ok (.invokevirtual 46, 3) := by decide +kernel
theorem dX2_tell_36 : decode cX2_tell 36 = .ok (.invokevirtual 50, 3) := by decide +kernel
theorem dX2_tell_39 : decode cX2_tell 39 = .ok (.aload_n 0, 1) := by decide +kernel
theorem dX2_tell_40 : decode cX2_tell 40 = .ok (.getfield 18, 3) := by decide +kernel
theorem dX2_tell_43 : decode cX2_tell 43 = .ok (.iload_n 2, 1) := by decide +kernel
theorem dX2_tell_44 : decode cX2_tell 44 = .ok (.iload_n 3, 1) := by decide +kernel
theorem dX2_tell_45 : decode cX2_tell 45 = .ok (.aload_n 0, 1) := by decide +kernel
theorem dX2_tell_46 : decode cX2_tell 46 = .ok (.aload_n 1, 1) := by decide +kernel
theorem dX2_tell_47 : decode cX2_tell 47 = .ok (.iload_n 2, 1) := by decide +kernel
theorem dX2_tell_48 : decode cX2_tell 48 = .ok (.iload_n 3, 1) := by decide +kernel
theorem dX2_tell_49 : decode cX2_tell 49 = .ok (.invokevirtual 54, 3) := by decide +kernel
theorem dX2_tell_52 : decode cX2_tell 52 = .ok (.invokevirtual 50, 3) := by decide +kernel
theorem dX2_tell_55 : decode cX2_tell 55 = .ok (.aload_n 0, 1) := by decide +kernel
theorem dX2_tell_56 : decode cX2_tell 56 = .ok (.getfield 21, 3) := by decide +kernel
theorem dX2_tell_59 : decode cX2_tell 59 = .ok (.iload_n 2, 1) := by decide +kernel
theorem dX2_tell_60 : decode cX2_tell 60 = .ok (.iload_n 3, 1) := by decide +kernel
theorem dX2_tell_61 : decode cX2_tell 61 = .ok (.aload_n 1, 1) := by decide +kernel
theorem dX2_tell_62 : decode cX2_tell 62 = .ok (.iload_n 2, 1) := by decide +kernel
theorem dX2_tell_63 : decode cX2_tell 63 = .ok (.invokevirtual 57, 3) := by decide +kernel
theorem dX2_tell_66 : decode cX2_tell 66 = .ok (.iconst 4, 1) := by decide +kernel
theorem dX2_tell_67 : decode cX2_tell 67 = .ok (.if_icmp .ne 17, 3) := by decide +kernel
theorem dX2_tell_70 : decode cX2_tell 70 = .ok (.aload_n 0, 1) := by decide +kernel
theorem dX2_tell_71 : decode cX2_tell 71 = .ok (.getfield 18, 3) := by decide +kernel
theorem dX2_tell_74 : decode cX2_tell 74 = .ok (.iload_n 2, 1) := by decide +kernel
theorem dX2_tell_75 : decode cX2_tell 75 = .ok (.iconst 1, 1) := by decide +kernel
theorem dX2_tell_76 : decode cX2_tell 76 = .ok (.iadd, 1) := by decide +kernel
theorem dX2_tell_77 : decode cX2_tell 77 = .ok (.iload_n 3, 1) := by decide +kernel
theorem dX2_tell_78 : decode cX2_tell 78 = .ok (.invokevirtual 36, 3) := by decide +kernel
theorem dX2_tell_81 : decode cX2_tell 81 = .ok (.goto 4, 3) := by decide +kernel
theorem dX2_tell_84 : decode cX2_tell 84 = .ok (.iconst 0, 1) := by decide +kernel
theorem dX2_tell_85 : decode cX2_tell 85 = .ok (.invokevirtual 50, 3) := by decide +kernel
theorem dX2_tell_88 : decode cX2_tell 88 = .ok (.aload_n 0, 1) := by decide +kernel
theorem dX2_tell_89 : decode cX2_tell 89 = .ok (.getfield 30, 3) := by decide +kernel
theorem dX2_tell_92 : decode cX2_tell 92 = .ok (.iload_n 2, 1) := by decide +kernel
theorem dX2_tell_93 : decode cX2_tell 93 = .ok (.iload_n 3, 1) := by decide +kernel
theorem dX2_tell_94 : decode cX2_tell 94 = .ok (.aload_n 0, 1) := by decide +kernel
theorem dX2_tell_95 : decode cX2_tell 95 = .ok (.iload_n 2, 1) := by decide +kernel
theorem dX2_tell_96 : decode cX2_tell 96 = .ok (.iload_n 3, 1) := by decide +kernel
theorem dX2_tell_97 : decode cX2_tell 97 = .ok (.invokevirtual 61, 3) := by decide +kernel
theorem dX2_tell_100 : decode cX2_tell 100 = .ok (.invokevirtual 50, 3) := by decide +kernel
theorem dX2_tell_103 : decode cX2_tell 103 = .ok (.aload_n 0, 1) := by decide +kernel
theorem dX2_tell_104 : decode cX2_tell 104 = .ok (.getfield 27, 3) := by decide +kernel
theorem dX2_tell_107 : decode cX2_tell 107 = .ok (.iload_n 2, 1) := by decide +kernel
theorem dX2_tell_108 : decode cX2_tell 108 = .ok (.iload_n 3, 1) := by decide +kernel
theorem dX2_tell_109 : decode cX2_tell 109 = .ok (.aload_n 0, 1) := by decide +kernel
theorem dX2_tell_110 : decode cX2_tell 110 = .ok (.aload_n 1, 1) := by decide +kernel
theorem dX2_tell_111 : decode cX2_tell 111 = .ok (.iload_n 2, 1) := by decide +kernel
theorem dX2_tell_112 : decode cX2_tell 112 = .ok (.iload_n 3, 1) := by decide +kernel
theorem dX2_tell_113 : decode cX2_tell 113 = .ok (.invokevirtual 64, 3) := by decide +kernel
theorem dX2_tell_116 : decode cX2_tell 116 = .ok (.invokevirtual 50, 3) := by decide +kernel
theorem dX2_tell_119 : decode cX2_tell 119 = .ok (.aload_n 0, 1) := by decide +kernel
theorem dX2_tell_120 : decode cX2_tell 120 = .ok (.getfield 24, 3) := by decide +kernel
theorem dX2_tell_123 : decode cX2_tell 123 = .ok (.iload_n 2, 1) := by decide +kernel
theorem dX2_tell_124 : decode cX2_tell 124 = .ok (.iload_n 3, 1) := by decide +kernel
theorem dX2_tell_125 : decode cX2_tell 125 = .ok (.aload_n 0, 1) := by decide +kernel
theorem dX2_tell_126 : decode cX2_tell 126 = .ok (.aload_n 1, 1) := by decide +kernel
theorem dX2_tell_127 : decode cX2_tell 127 = .ok (.iload_n 2, 1) := by decide +kernel
theorem dX2_tell_128 : decode cX2_tell 128 = .ok (.iload_n 3, 1) := by decide +kernel
theorem dX2_tell_129 : decode cX2_tell 129 = .ok (.invokevirtual 67, 3) := by decide +kernel
theorem dX2_tell_132 : decode cX2_tell 132 = .ok (.invokevirtual 50, 3) := by decide +kernel
theorem dX2_tell_135 : decode cX2_tell 135 = .ok (.aload_n 0, 1) := by decide +kernel
theorem dX2_tell_136 : decode cX2_tell 136 = .ok (.getfield 33, 3) := by decide +kernel
theorem dX2_tell_139 : decode cX2_tell 139 = .ok (.iload_n 2, 1) := by decide +kernel
theorem dX2_tell_140 : decode cX2_tell 140 = .ok (.iload_n 3, 1) := by decide +kernel
theorem dX2_tell_141 : decode cX2_tell 141 = .ok (.aload_n 0, 1) := by decide +kernel
theorem dX2_tell_142 : decode cX2_tell 142 = .ok (.aload_n 1, 1) := by decide +kernel
theorem dX2_tell_143 : decode cX2_tell 143 = .ok (.iload_n 2, 1) := by decide +kernel
theorem dX2_tell_144 : decode cX2_tell 144 = .ok (.iload_n 3, 1) := by decide +kernel
theorem dX2_tell_145 : decode cX2_tell 145 = .ok (.invokevirtual 70, 3) := by decide +kernel
theorem dX2_tell_148 : decode cX2_tell 148 = .ok (.invokevirtual 50, 3) := by decide +kernel
theorem dX2_tell_151 : decode cX2_tell 151 = .ok (.iinc 3 1, 3) := by decide +kernel
theorem dX2_tell_154 : decode cX2_tell 154 = .ok (.goto (-139), 3) := by decide +kernel
theorem dX2_tell_157 : decode cX2_tell 157 = .ok (.iinc 2 (-1), 3) := by decide +kernel
theorem dX2_tell_160 : decode cX2_tell 160 = .ok (.goto (-153), 3) := by decide +kernel
theorem dX2_tell_163 : decode cX2_tell 163 = .ok (.return_, 1) := by decide +kernel
theorem dX2_nameWays_0 : decode cX2_nameWays 0 = .ok (.aload_n 1, 1) := by decide +kernel
theorem dX2_nameWays_1 : decode cX2_nameWays 1 = .ok (.iload_n 2, 1) := by decide +kernel
theorem dX2_nameWays_2 : decode cX2_nameWays 2 = .ok (.invokevirtual 57, 3) := by decide +kernel
theorem dX2_nameWays_5 : decode cX2_nameWays 5 = .ok (.lookupswitch 51 #[(0, 39), (2, 27)], 27) := by decide +kernel
theorem dX2_nameWays_32 : decode cX2_nameWays 32 = .ok (.aload_n 0, 1) := by decide +kernel
theorem dX2_nameWays_33 : decode cX2_nameWays 33 = .ok (.getfield 12, 3) := by decide +kernel
theorem dX2_nameWays_36 : decode cX2_nameWays 36 = .ok (.iload_n 2, 1) := by decide +kernel
theorem dX2_nameWays_37 : decode cX2_nameWays 37 = .ok (.iconst 1, 1) := by decide +kernel
theorem dX2_nameWays_38 : decode cX2_nameWays 38 = .ok (.iadd, 1) := by decide +kernel
theorem dX2_nameWays_39 : decode cX2_nameWays 39 = .ok (.iload_n 3, 1) := by decide +kernel
theorem dX2_nameWays_40 : decode cX2_nameWays 40 = .ok (.invokevirtual 36, 3) := by decide +kernel
theorem dX2_nameWays_43 : decode cX2_nameWays 43 = .ok (.ireturn, 1) := by decide +kernel
theorem dX2_nameWays_44 : decode cX2_nameWays 44 = .ok (.aload_n 0, 1) := by decide +kernel
theorem dX2_nameWays_45 : decode cX2_nameWays 45 = .ok (.getfield 30, 3) := by decide +kernel
theorem dX2_nameWays_48 : decode cX2_nameWays 48 = .ok (.iload_n 2, 1) := by decide +kernel
theorem dX2_nameWays_49 : decode cX2_nameWays 49 = .ok (.iconst 1, 1) := by decide +kernel
theorem dX2_nameWays_50 : decode cX2_nameWays 50 = .ok (.iadd, 1) := by decide +kernel
theorem dX2_nameWays_51 : decode cX2_nameWays 51 = .ok (.iload_n 3, 1) := by decide +kernel
theorem dX2_nameWays_52 : decode cX2_nameWays 52 = .ok (.invokevirtual 73, 3) := by decide +kernel
theorem dX2_nameWays_55 : decode cX2_nameWays 55 = .ok (.ireturn, 1) := by decide +kernel
theorem dX2_nameWays_56 : decode cX2_nameWays 56 = .ok (.iconst 0, 1) := by decide +kernel
theorem dX2_nameWays_57 : decode cX2_nameWays 57 = .ok (.ireturn, 1) := by decide +kernel
theorem dX2_groupWays_0 : decode cX2_groupWays 0 = .ok (.aload_n 0, 1) := by decide +kernel
theorem dX2_groupWays_1 : decode cX2_groupWays 1 = .ok (.getfield 12, 3) := by decide +kernel
theorem dX2_groupWays_4 : decode cX2_groupWays 4 = .ok (.iload_n 2, 1) := by decide +kernel
theorem dX2_groupWays_5 : decode cX2_groupWays 5 = .ok (.iload_n 3, 1) := by decide +kernel
theorem dX2_groupWays_6 : decode cX2_groupWays 6 = .ok (.invokevirtual 36, 3) := by decide +kernel
theorem dX2_groupWays_9 : decode cX2_groupWays 9 = .ok (.istore 4, 2) := by decide +kernel
theorem dX2_groupWays_11 : decode cX2_groupWays 11 = .ok (.iload_n 2, 1) := by decide +kernel
theorem dX2_groupWays_12 : decode cX2_groupWays 12 = .ok (.iconst 1, 1) := by decide +kernel
theorem dX2_groupWays_13 : decode cX2_groupWays 13 = .ok (.iadd, 1) := by decide +kernel
theorem dX2_groupWays_14 : decode cX2_groupWays 14 = .ok (.istore 5, 2) := by decide +kernel
theorem dX2_groupWays_16 : decode cX2_groupWays 16 = .ok (.iload 5, 2) := by decide +kernel
theorem dX2_groupWays_18 : decode cX2_groupWays 18 = .ok (.iload_n 3, 1) := by decide +kernel
theorem dX2_groupWays_19 : decode cX2_groupWays 19 = .ok (.if_icmp .ge 47, 3) := by decide +kernel
theorem dX2_groupWays_22 : decode cX2_groupWays 22 = .ok (.aload_n 1, 1) := by decide +kernel
theorem dX2_groupWays_23 : decode cX2_groupWays 23 = .ok (.iload 5, 2) := by decide +kernel
theorem dX2_groupWays_25 : decode cX2_groupWays 25 = .ok (.invokevirtual 57, 3) := by decide +kernel
theorem dX2_groupWays_28 : decode cX2_groupWays 28 = .ok (.iconst 5, 1) := by decide +kernel
theorem dX2_groupWays_29 : decode cX2_groupWays 29 = .ok (.if_icmp .ne 31, 3) := by decide +kernel
theorem dX2_groupWays_32 : decode cX2_groupWays 32 = .ok (.iload 4, 2) := by decide +kernel
theorem dX2_groupWays_34 : decode cX2_groupWays 34 = .ok (.aload_n 0, 1) := by decide +kernel
theorem dX2_groupWays_35 : decode cX2_groupWays 35 = .ok (.getfield 12, 3) := by decide +kernel
theorem dX2_groupWays_38 : decode cX2_groupWays 38 = .ok (.iload_n 2, 1) := by decide +kernel
theorem dX2_groupWays_39 : decode cX2_groupWays 39 = .ok (.iload 5, 2) := by decide +kernel
theorem dX2_groupWays_41 : decode cX2_groupWays 41 = .ok (.invokevirtual 36, 3) := by decide +kernel
theorem dX2_groupWays_44 : decode cX2_groupWays 44 = .ok (.aload_n 0, 1) := by decide +kernel
theorem dX2_groupWays_45 : decode cX2_groupWays 45 = .ok (.getfield 12, 3) := by decide +kernel
theorem dX2_groupWays_48 : decode cX2_groupWays 48 = .ok (.iload 5, 2) := by decide +kernel
theorem dX2_groupWays_50 : decode cX2_groupWays 50 = .ok (.iconst 1, 1) := by decide +kernel
theorem dX2_groupWays_51 : decode cX2_groupWays 51 = .ok (.iadd, 1) := by decide +kernel
theorem dX2_groupWays_52 : decode cX2_groupWays 52 = .ok (.iload_n 3, 1) := by decide +kernel
theorem dX2_groupWays_53 : decode cX2_groupWays 53 = .ok (.invokevirtual 36, 3) := by decide +kernel
theorem dX2_groupWays_56 : decode cX2_groupWays 56 = .ok (.imul, 1) := by decide +kernel
theorem dX2_groupWays_57 : decode cX2_groupWays 57 = .ok (.iadd, 1) := by decide +kernel
theorem dX2_groupWays_58 : decode cX2_groupWays 58 = .ok (.istore 4, 2) := by decide +kernel
theorem dX2_groupWays_60 : decode cX2_groupWays 60 = .ok (.iinc 5 1, 3) := by decide +kernel
theorem dX2_groupWays_63 : decode cX2_groupWays 63 = .ok (.goto (-47), 3) := by decide +kernel
theorem dX2_groupWays_66 : decode cX2_groupWays 66 = .ok (.iload 4, 2) := by decide +kernel
theorem dX2_groupWays_68 : decode cX2_groupWays 68 = .ok (.ireturn, 1) := by decide +kernel
theorem dX2_phraseRowWays_0 : decode cX2_phraseRowWays 0 = .ok (.iconst 0, 1) := by decide +kernel
theorem dX2_phraseRowWays_1 : decode cX2_phraseRowWays 1 = .ok (.istore_n 3, 1) := by decide +kernel
theorem dX2_phraseRowWays_2 : decode cX2_phraseRowWays 2 = .ok (.iload_n 1, 1) := by decide +kernel
theorem dX2_phraseRowWays_3 : decode cX2_phraseRowWays 3 = .ok (.iconst 1, 1) := by decide +kernel
theorem dX2_phraseRowWays_4 : decode cX2_phraseRowWays 4 = .ok (.iadd, 1) := by decide +kernel
theorem dX2_phraseRowWays_5 : decode cX2_phraseRowWays 5 = .ok (.istore 4, 2) := by decide +kernel
theorem dX2_phraseRowWays_7 : decode cX2_phraseRowWays 7 = .ok (.iload 4, 2) := by decide +kernel
theorem dX2_phraseRowWays_9 : decode cX2_phraseRowWays 9 = .ok (.iload_n 2, 1) := by decide +kernel
theorem dX2_phraseRowWays_10 : decode cX2_phraseRowWays 10 = .ok (.if_icmp .gt 33, 3) := by decide +kernel
theorem dX2_phraseRowWays_13 : decode cX2_phraseRowWays 13 = .ok (.iload_n 3, 1) := by decide +kernel
theorem dX2_phraseRowWays_14 : decode cX2_phraseRowWays 14 = .ok (.aload_n 0, 1) := by decide +kernel
theorem dX2_phraseRowWays_15 : decode cX2_phraseRowWays 15 = .ok (.getfield 21, 3) := by decide +kernel
theorem dX2_phraseRowWays_18 : decode cX2_phraseRowWays 18 = .ok (.iload_n 1, 1) := by decide +kernel
theorem dX2_phraseRowWays_19 : decode cX2_phraseRowWays 19 = .ok (.iload 4, 2) := by decide +kernel
theorem dX2_phraseRowWays_21 : decode cX2_phraseRowWays 21 = .ok (.invokevirtual 36, 3) := by decide +kernel
theorem dX2_phraseRowWays_24 : decode cX2_phraseRowWays 24 = .ok (.aload_n 0, 1) := by decide +kernel
theorem dX2_phraseRowWays_25 : decode cX2_phraseRowWays 25 = .ok (.getfield 30, 3) := by decide +kernel
theorem dX2_phraseRowWays_28 : decode cX2_phraseRowWays 28 = .ok (.iload 4, 2) := by decide +kernel
theorem dX2_phraseRowWays_30 : decode cX2_phraseRowWays 30 = .ok (.iload_n 2, 1) := by decide +kernel
theorem dX2_phraseRowWays_31 : decode cX2_phraseRowWays 31 = .ok (.invokevirtual 73, 3) := by decide +kernel
theorem dX2_phraseRowWays_34 : decode cX2_phraseRowWays 34 = .ok (.imul, 1) := by decide +kernel
theorem dX2_phraseRowWays_35 : decode cX2_phraseRowWays 35 = .ok (.iadd, 1) := by decide +kernel
theorem dX2_phraseRowWays_36 : decode cX2_phraseRowWays 36 = .ok (.istore_n 3, 1) := by decide +kernel
theorem dX2_phraseRowWays_37 : decode cX2_phraseRowWays 37 = .ok (.iinc 4 1, 3) := by decide +kernel
theorem dX2_phraseRowWays_40 : decode cX2_phraseRowWays 40 = .ok (.goto (-33), 3) := by decide +kernel
theorem dX2_phraseRowWays_43 : decode cX2_phraseRowWays 43 = .ok (.iload_n 3, 1) := by decide +kernel
theorem dX2_phraseRowWays_44 : decode cX2_phraseRowWays 44 = .ok (.ireturn, 1) := by decide +kernel
theorem dX2_hangingWays_0 : decode cX2_hangingWays 0 = .ok (.aload_n 1, 1) := by decide +kernel
theorem dX2_hangingWays_1 : decode cX2_hangingWays 1 = .ok (.iload_n 2, 1) := by decide +kernel
theorem dX2_hangingWays_2 : decode cX2_hangingWays 2 = .ok (.invokevirtual 57, 3) := by decide +kernel
theorem dX2_hangingWays_5 : decode cX2_hangingWays 5 = .ok (.iconst 3, 1) := by decide +kernel
theorem dX2_hangingWays_6 : decode cX2_hangingWays 6 = .ok (.if_icmp .ne 17, 3) := by decide +kernel
theorem dX2_hangingWays_9 : decode cX2_hangingWays 9 = .ok (.aload_n 0, 1) := by decide +kernel
theorem dX2_hangingWays_10 : decode cX2_hangingWays 10 = .ok (.getfield 27, 3) := by decide +kernel
theorem dX2_hangingWays_13 : decode cX2_hangingWays 13 = .ok (.iload_n 2, 1) := by decide +kernel
theorem dX2_hangingWays_14 : decode cX2_hangingWays 14 = .ok (.iconst 1, 1) := by decide +kernel
theorem dX2_hangingWays_15 : decode cX2_hangingWays 15 = .ok (.iadd, 1) := by decide +kernel
theorem dX2_hangingWays_16 : decode cX2_hangingWays 16 = .ok (.iload_n 3, 1) := by decide +kernel
theorem dX2_hangingWays_17 : decode cX2_hangingWays 17 = .ok (.invokevirtual 73, 3) := by decide +kernel
theorem dX2_hangingWays_20 : decode cX2_hangingWays 20 = .ok (.goto 4, 3) := by decide +kernel
theorem dX2_hangingWays_23 : decode cX2_hangingWays 23 = .ok (.iconst 0, 1) := by decide +kernel
theorem dX2_hangingWays_24 : decode cX2_hangingWays 24 = .ok (.istore 4, 2) := by decide +kernel
theorem dX2_hangingWays_26 : decode cX2_hangingWays 26 = .ok (.iload_n 2, 1) := by decide +kernel
theorem dX2_hangingWays_27 : decode cX2_hangingWays 27 = .ok (.iconst 1, 1) := by decide +kernel
theorem dX2_hangingWays_28 : decode cX2_hangingWays 28 = .ok (.iadd, 1) := by decide +kernel
theorem dX2_hangingWays_29 : decode cX2_hangingWays 29 = .ok (.istore 5, 2) := by decide +kernel
theorem dX2_hangingWays_31 : decode cX2_hangingWays 31 = .ok (.iload 5, 2) := by decide +kernel
theorem dX2_hangingWays_33 : decode cX2_hangingWays 33 = .ok (.iload_n 3, 1) := by decide +kernel
theorem dX2_hangingWays_34 : decode cX2_hangingWays 34 = .ok (.if_icmp .gt 35, 3) := by decide +kernel
theorem dX2_hangingWays_37 : decode cX2_hangingWays 37 = .ok (.iload 4, 2) := by decide +kernel
theorem dX2_hangingWays_39 : decode cX2_hangingWays 39 = .ok (.aload_n 0, 1) := by decide +kernel
theorem dX2_hangingWays_40 : decode cX2_hangingWays 40 = .ok (.getfield 21, 3) := by decide +kernel
theorem dX2_hangingWays_43 : decode cX2_hangingWays 43 = .ok (.iload_n 2, 1) := by decide +kernel
theorem dX2_hangingWays_44 : decode cX2_hangingWays 44 = .ok (.iload 5, 2) := by decide +kernel
theorem dX2_hangingWays_46 : decode cX2_hangingWays 46 = .ok (.invokevirtual 36, 3) := by decide +kernel
theorem dX2_hangingWays_49 : decode cX2_hangingWays 49 = .ok (.aload_n 0, 1) := by decide +kernel
theorem dX2_hangingWays_50 : decode cX2_hangingWays 50 = .ok (.getfield 27, 3) := by decide +kernel
theorem dX2_hangingWays_53 : decode cX2_hangingWays 53 = .ok (.iload 5, 2) := by decide +kernel
theorem dX2_hangingWays_55 : decode cX2_hangingWays 55 = .ok (.iload_n 3, 1) := by decide +kernel
theorem dX2_hangingWays_56 : decode cX2_hangingWays 56 = .ok (.invokevirtual 73, 3) := by decide +kernel
theorem dX2_hangingWays_59 : decode cX2_hangingWays 59 = .ok (.imul, 1) := by decide +kernel
theorem dX2_hangingWays_60 : decode cX2_hangingWays 60 = .ok (.iadd, 1) := by decide +kernel
theorem dX2_hangingWays_61 : decode cX2_hangingWays 61 = .ok (.istore 4, 2) := by decide +kernel
theorem dX2_hangingWays_63 : decode cX2_hangingWays 63 = .ok (.iinc 5 1, 3) := by decide +kernel
theorem dX2_hangingWays_66 : decode cX2_hangingWays 66 = .ok (.goto (-35), 3) := by decide +kernel
theorem dX2_hangingWays_69 : decode cX2_hangingWays 69 = .ok (.iload 4, 2) := by decide +kernel
theorem dX2_hangingWays_71 : decode cX2_hangingWays 71 = .ok (.ireturn, 1) := by decide +kernel
theorem dX2_clauseWays_0 : decode cX2_clauseWays 0 = .ok (.iconst 0, 1) := by decide +kernel
theorem dX2_clauseWays_1 : decode cX2_clauseWays 1 = .ok (.istore 4, 2) := by decide +kernel
theorem dX2_clauseWays_3 : decode cX2_clauseWays 3 = .ok (.iload_n 2, 1) := by decide +kernel
theorem dX2_clauseWays_4 : decode cX2_clauseWays 4 = .ok (.iconst 1, 1) := by decide +kernel
theorem dX2_clauseWays_5 : decode cX2_clauseWays 5 = .ok (.iadd, 1) := by decide +kernel
theorem dX2_clauseWays_6 : decode cX2_clauseWays 6 = .ok (.istore 5, 2) := by decide +kernel
theorem dX2_clauseWays_8 : decode cX2_clauseWays 8 = .ok (.iload 5, 2) := by decide +kernel
theorem dX2_clauseWays_10 : decode cX2_clauseWays 10 = .ok (.iload_n 3, 1) := by decide +kernel
theorem dX2_clauseWays_11 : decode cX2_clauseWays 11 = .ok (.if_icmp .ge 47, 3) := by decide +kernel
theorem dX2_clauseWays_14 : decode cX2_clauseWays 14 = .ok (.aload_n 1, 1) := by decide +kernel
theorem dX2_clauseWays_15 : decode cX2_clauseWays 15 = .ok (.iload 5, 2) := by decide +kernel
theorem dX2_clauseWays_17 : decode cX2_clauseWays 17 = .ok (.invokevirtual 57, 3) := by decide +kernel
theorem dX2_clauseWays_20 : decode cX2_clauseWays 20 = .ok (.iconst 1, 1) := by decide +kernel
theorem dX2_clauseWays_21 : decode cX2_clauseWays 21 = .ok (.if_icmp .ne 31, 3) := by decide +kernel
theorem dX2_clauseWays_24 : decode cX2_clauseWays 24 = .ok (.iload 4, 2) := by decide +kernel
theorem dX2_clauseWays_26 : decode cX2_clauseWays 26 = .ok (.aload_n 0, 1) := by decide +kernel
theorem dX2_clauseWays_27 : decode cX2_clauseWays 27 = .ok (.getfield 18, 3) := by decide +kernel
theorem dX2_clauseWays_30 : decode cX2_clauseWays 30 = .ok (.iload_n 2, 1) := by decide +kernel
theorem dX2_clauseWays_31 : decode cX2_clauseWays 31 = .ok (.iload 5, 2) := by decide +kernel
theorem dX2_clauseWays_33 : decode cX2_clauseWays 33 = .ok (.invokevirtual 36, 3) := by decide +kernel
theorem dX2_clauseWays_36 : decode cX2_clauseWays 36 = .ok (.aload_n 0, 1) := by decide +kernel
theorem dX2_clauseWays_37 : decode cX2_clauseWays 37 = .ok (.getfield 33, 3) := by decide +kernel
theorem dX2_clauseWays_40 : decode cX2_clauseWays 40 = .ok (.iload 5, 2) := by decide +kernel
theorem dX2_clauseWays_42 : decode cX2_clauseWays 42 = .ok (.iconst 1, 1) := by decide +kernel
theorem dX2_clauseWays_43 : decode cX2_clauseWays 43 = .ok (.iadd, 1) := by decide +kernel
theorem dX2_clauseWays_44 : decode cX2_clauseWays 44 = .ok (.iload_n 3, 1) := by decide +kernel
theorem dX2_clauseWays_45 : decode cX2_clauseWays 45 = .ok (.invokevirtual 73, 3) := by decide +kernel
theorem dX2_clauseWays_48 : decode cX2_clauseWays 48 = .ok (.imul, 1) := by decide +kernel
theorem dX2_clauseWays_49 : decode cX2_clauseWays 49 = .ok (.iadd, 1) := by decide +kernel
theorem dX2_clauseWays_50 : decode cX2_clauseWays 50 = .ok (.istore 4, 2) := by decide +kernel
theorem dX2_clauseWays_52 : decode cX2_clauseWays 52 = .ok (.iinc 5 1, 3) := by decide +kernel
theorem dX2_clauseWays_55 : decode cX2_clauseWays 55 = .ok (.goto (-47), 3) := by decide +kernel
theorem dX2_clauseWays_58 : decode cX2_clauseWays 58 = .ok (.iload 4, 2) := by decide +kernel
theorem dX2_clauseWays_60 : decode cX2_clauseWays 60 = .ok (.ireturn, 1) := by decide +kernel
theorem dX2_verbTailWays_0 : decode cX2_verbTailWays 0 = .ok (.aload_n 0, 1) := by decide +kernel
theorem dX2_verbTailWays_1 : decode cX2_verbTailWays 1 = .ok (.getfield 27, 3) := by decide +kernel
theorem dX2_verbTailWays_4 : decode cX2_verbTailWays 4 = .ok (.iload_n 2, 1) := by decide +kernel
theorem dX2_verbTailWays_5 : decode cX2_verbTailWays 5 = .ok (.iload_n 3, 1) := by decide +kernel
theorem dX2_verbTailWays_6 : decode cX2_verbTailWays 6 = .ok (.invokevirtual 36, 3) := by decide +kernel
theorem dX2_verbTailWays_9 : decode cX2_verbTailWays 9 = .ok (.istore 4, 2) := by decide +kernel
theorem dX2_verbTailWays_11 : decode cX2_verbTailWays 11 = .ok (.iload_n 2, 1) := by decide +kernel
theorem dX2_verbTailWays_12 : decode cX2_verbTailWays 12 = .ok (.iconst 1, 1) := by decide +kernel
theorem dX2_verbTailWays_13 : decode cX2_verbTailWays 13 = .ok (.iadd, 1) := by decide +kernel
theorem dX2_verbTailWays_14 : decode cX2_verbTailWays 14 = .ok (.istore 5, 2) := by decide +kernel
theorem dX2_verbTailWays_16 : decode cX2_verbTailWays 16 = .ok (.iload 5, 2) := by decide +kernel
theorem dX2_verbTailWays_18 : decode cX2_verbTailWays 18 = .ok (.iload_n 3, 1) := by decide +kernel
theorem dX2_verbTailWays_19 : decode cX2_verbTailWays 19 = .ok (.if_icmp .gt 66, 3) := by decide +kernel
theorem dX2_verbTailWays_22 : decode cX2_verbTailWays 22 = .ok (.aload_n 0, 1) := by decide +kernel
theorem dX2_verbTailWays_23 : decode cX2_verbTailWays 23 = .ok (.getfield 18, 3) := by decide +kernel
theorem dX2_verbTailWays_26 : decode cX2_verbTailWays 26 = .ok (.iload_n 2, 1) := by decide +kernel
theorem dX2_verbTailWays_27 : decode cX2_verbTailWays 27 = .ok (.iload 5, 2) := by decide +kernel
theorem dX2_verbTailWays_29 : decode cX2_verbTailWays 29 = .ok (.invokevirtual 36, 3) := by decide +kernel
theorem dX2_verbTailWays_32 : decode cX2_verbTailWays 32 = .ok (.istore 6, 2) := by decide +kernel
theorem dX2_verbTailWays_34 : decode cX2_verbTailWays 34 = .ok (.aload_n 1, 1) := by decide +kernel
theorem dX2_verbTailWays_35 : decode cX2_verbTailWays 35 = .ok (.iload_n 2, 1) := by decide +kernel
theorem dX2_verbTailWays_36 : decode cX2_verbTailWays 36 = .ok (.invokevirtual 57, 3) := by decide +kernel
theorem dX2_verbTailWays_39 : decode cX2_verbTailWays 39 = .ok (.bipush 6, 2) := by decide +kernel
theorem dX2_verbTailWays_41 : decode cX2_verbTailWays 41 = .ok (.if_icmp .ne 20, 3) := by decide +kernel
theorem dX2_verbTailWays_44 : decode cX2_verbTailWays 44 = .ok (.iload 6, 2) := by decide +kernel
theorem dX2_verbTailWays_46 : decode cX2_verbTailWays 46 = .ok (.aload_n 0, 1) := by decide +kernel
theorem dX2_verbTailWays_47 : decode cX2_verbTailWays 47 = .ok (.getfield 24, 3) := by decide +kernel
theorem dX2_verbTailWays_50 : decode cX2_verbTailWays 50 = .ok (.iload_n 2, 1) := by decide +kernel
theorem dX2_verbTailWays_51 : decode cX2_verbTailWays 51 = .ok (.iconst 1, 1) := by decide +kernel
theorem dX2_verbTailWays_52 : decode cX2_verbTailWays 52 = .ok (.iadd, 1) := by decide +kernel
theorem dX2_verbTailWays_53 : decode cX2_verbTailWays 53 = .ok (.iload 5, 2) := by decide +kernel
theorem dX2_verbTailWays_55 : decode cX2_verbTailWays 55 = .ok (.invokevirtual 36, 3) := by decide +kernel
theorem dX2_verbTailWays_58 : decode cX2_verbTailWays 58 = .ok (.iadd, 1) := by decide +kernel
theorem dX2_verbTailWays_59 : decode cX2_verbTailWays 59 = .ok (.istore 6, 2) := by decide +kernel
theorem dX2_verbTailWays_61 : decode cX2_verbTailWays 61 = .ok (.iload 4, 2) := by decide +kernel
theorem dX2_verbTailWays_63 : decode cX2_verbTailWays 63 = .ok (.iload 6, 2) := by decide +kernel
theorem dX2_verbTailWays_65 : decode cX2_verbTailWays 65 = .ok (.aload_n 0, 1) := by decide +kernel
theorem dX2_verbTailWays_66 : decode cX2_verbTailWays 66 = .ok (.getfield 27, 3) := by decide +kernel
theorem dX2_verbTailWays_69 : decode cX2_verbTailWays 69 = .ok (.iload 5, 2) := by decide +kernel
theorem dX2_verbTailWays_71 : decode cX2_verbTailWays 71 = .ok (.iload_n 3, 1) := by decide +kernel
theorem dX2_verbTailWays_72 : decode cX2_verbTailWays 72 = .ok (.invokevirtual 73, 3) := by decide +kernel
theorem dX2_verbTailWays_75 : decode cX2_verbTailWays 75 = .ok (.imul, 1) := by decide +kernel
theorem dX2_verbTailWays_76 : decode cX2_verbTailWays 76 = .ok (.iadd, 1) := by decide +kernel
theorem dX2_verbTailWays_77 : decode cX2_verbTailWays 77 = .ok (.istore 4, 2) := by decide +kernel
theorem dX2_verbTailWays_79 : decode cX2_verbTailWays 79 = .ok (.iinc 5 1, 3) := by decide +kernel
theorem dX2_verbTailWays_82 : decode cX2_verbTailWays 82 = .ok (.goto (-66), 3) := by decide +kernel
theorem dX2_verbTailWays_85 : decode cX2_verbTailWays 85 = .ok (.iload 4, 2) := by decide +kernel
theorem dX2_verbTailWays_87 : decode cX2_verbTailWays 87 = .ok (.ireturn, 1) := by decide +kernel
theorem dX3_init_0 : decode cX3_init 0 = .ok (.aload_n 0, 1) := by decide +kernel
theorem dX3_init_1 : decode cX3_init 1 = .ok (.invokespecial 3, 3) := by decide +kernel
theorem dX3_init_4 : decode cX3_init 4 = .ok (.aload_n 0, 1) := by decide +kernel
theorem dX3_init_5 : decode cX3_init 5 = .ok (.bipush 42, 2) := by decide +kernel
theorem dX3_init_7 : decode cX3_init 7 = .ok (.newarray .long, 2) := by decide +kernel
theorem dX3_init_9 : decode cX3_init 9 = .ok (.putfield 9, 3) := by decide +kernel
theorem dX3_init_12 : decode cX3_init 12 = .ok (.aload_n 0, 1) := by decide +kernel
theorem dX3_init_13 : decode cX3_init 13 = .ok (.iconst 0, 1) := by decide +kernel
theorem dX3_init_14 : decode cX3_init 14 = .ok (.putfield 15, 3) := by decide +kernel
theorem dX3_init_17 : decode cX3_init 17 = .ok (.aload_n 0, 1) := by decide +kernel
theorem dX3_init_18 : decode cX3_init 18 = .ok (.bipush 12, 2) := by decide +kernel
theorem dX3_init_20 : decode cX3_init 20 = .ok (.newarray .int, 2) := by decide +kernel
theorem dX3_init_22 : decode cX3_init 22 = .ok (.putfield 19, 3) := by decide +kernel
theorem dX3_init_25 : decode cX3_init 25 = .ok (.aload_n 0, 1) := by decide +kernel
theorem dX3_init_26 : decode cX3_init 26 = .ok (.bipush 12, 2) := by decide +kernel
theorem dX3_init_28 : decode cX3_init 28 = .ok (.newarray .int, 2) := by decide +kernel
theorem dX3_init_30 : decode cX3_init 30 = .ok (.putfield 23, 3) := by decide +kernel
theorem dX3_init_33 : decode cX3_init 33 = .ok (.aload_n 0, 1) := by decide +kernel
theorem dX3_init_34 : decode cX3_init 34 = .ok (.iconst 0, 1) := by decide +kernel
theorem dX3_init_35 : decode cX3_init 35 = .ok (.putfield 26, 3) := by decide +kernel
theorem dX3_init_38 : decode cX3_init 38 = .ok (.return_, 1) := by decide +kernel
theorem dX3_total_0 : decode cX3_total 0 = .ok (.aload_n 0, 1) := by decide +kernel
theorem dX3_total_1 : decode cX3_total 1 = .ok (.getfield 15, 3) := by decide +kernel
theorem dX3_total_4 : decode cX3_total 4 = .ok (.ireturn, 1) := by decide +kernel
theorem dX3_codeAt_0 : decode cX3_codeAt 0 = .ok (.iload_n 1, 1) := by decide +kernel
theorem dX3_codeAt_1 : decode cX3_codeAt 1 = .ok (.ifCond .lt 21, 3) := by decide +kernel
theorem dX3_codeAt_4 : decode cX3_codeAt 4 = .ok (.iload_n 1, 1) := by decide +kernel
theorem dX3_codeAt_5 : decode cX3_codeAt 5 = .ok (.aload_n 0, 1) := by decide +kernel
theorem dX3_codeAt_6 : decode cX3_codeAt 6 = .ok (.getfield 9, 3) := by decide +kernel
theorem dX3_codeAt_9 : decode cX3_codeAt 9 = .ok (.arraylength, 1) := by decide +kernel
theorem dX3_codeAt_10 : decode cX3_codeAt 10 = .ok (.if_icmp .ge 12, 3) := by decide +kernel
theorem dX3_codeAt_13 : decode cX3_codeAt 13 = .ok (.aload_n 0, 1) := by decide +kernel
theorem dX3_codeAt_14 : decode cX3_codeAt 14 = .ok (.getfield 9, 3) := by decide +kernel
theorem dX3_codeAt_17 : decode cX3_codeAt 17 = .ok (.iload_n 1, 1) := by decide +kernel
theorem dX3_codeAt_18 : decode cX3_codeAt 18 = .ok (.laload, 1) := by decide +kernel
theorem dX3_codeAt_19 : decode cX3_codeAt 19 = .ok (.goto 4, 3) := by decide +kernel
theorem dX3_codeAt_22 : decode cX3_codeAt 22 = .ok (.lconst 0, 1) := by decide +kernel
theorem dX3_codeAt_23 : decode cX3_codeAt 23 = .ok (.lreturn, 1) := by decide +kernel
theorem dX3_headIn_0 : decode cX3_headIn 0 = .ok (.lload_n 0, 1) := by decide +kernel
theorem dX3_headIn_1 : decode cX3_headIn 1 = .ok (.iconst 4, 1) := by decide +kernel
theorem dX3_headIn_2 : decode cX3_headIn 2 = .ok (.iload_n 2, 1) := by decide +kernel
theorem dX3_headIn_3 : decode cX3_headIn 3 = .ok (.imul, 1) := by decide +kernel
theorem dX3_headIn_4 : decode cX3_headIn 4 = .ok (.lushr, 1) := by decide +kernel
theorem dX3_headIn_5 : decode cX3_headIn 5 = .ok (.ldc2_w 29, 3) := by decide +kernel
theorem dX3_headIn_8 : decode cX3_headIn 8 = .ok (.land, 1) := by decide +kernel
theorem dX3_headIn_9 : decode cX3_headIn 9 = .ok (.l2i, 1) := by decide +kernel
theorem dX3_headIn_10 : decode cX3_headIn 10 = .ok (.iconst 1, 1) := by decide +kernel
theorem dX3_headIn_11 : decode cX3_headIn 11 = .ok (.isub, 1) := by decide +kernel
theorem dX3_headIn_12 : decode cX3_headIn 12 = .ok (.ireturn, 1) := by decide +kernel
theorem dX3_tell_0 : decode cX3_tell 0 = .ok (.aload_n 0, 1) := by decide +kernel
theorem dX3_tell_1 : decode cX3_tell 1 = .ok (.aload_n 1, 1) := by decide +kernel
theorem dX3_tell_2 : decode cX3_tell 2 = .ok (.invokevirtual 31, 3) := by decide +kernel
theorem dX3_tell_5 : decode cX3_tell 5 = .ok (.putfield 26, 3) := by decide +kernel
theorem dX3_tell_8 : decode cX3_tell 8 = .ok (.iconst 0, 1) := by decide +kernel
theorem dX3_tell_9 : decode cX3_tell 9 = .ok (.istore_n 2, 1) := by decide +kernel
theorem dX3_tell_10 : decode cX3_tell 10 = .ok (.iload_n 2, 1) := by decide +kernel
theorem dX3_tell_11 : decode cX3_tell 11 = .ok (.aload_n 0, 1) := by decide +kernel
theorem dX3_tell_12 : decode cX3_tell 12 = .ok (.getfield 26, 3) := by decide +kernel
theorem dX3_tell_15 : decode cX3_tell 15 = .ok (.if_icmp .ge 29, 3) := by decide +kernel
theorem dX3_tell_18 : decode cX3_tell 18 = .ok (.iload_n 2, 1) := by decide +kernel
theorem dX3_tell_19 : decode cX3_tell 19 = .ok (.aload_n 0, 1) := by decide +kernel
theorem dX3_tell_20 : decode cX3_tell 20 = .ok (.getfield 19, 3) := by decide +kernel
theorem dX3_tell_23 : decode cX3_tell 23 = .ok (.arraylength, 1) := by decide +kernel
theorem dX3_tell_24 : decode cX3_tell 24 = .ok (.if_icmp .ge 20, 3) := by decide +kernel
theorem dX3_tell_27 : decode cX3_tell 27 = .ok (.aload_n 0, 1) := by decide +kernel
theorem dX3_tell_28 : decode cX3_tell 28 = .ok (.getfield 19, 3) := by decide +kernel
theorem dX3_tell_31 : decode cX3_tell 31 = .ok (.iload_n 2, 1) := by decide +kernel
theorem dX3_tell_32 : decode cX3_tell 32 = .ok (.aload_n 1, 1) := by decide +kernel
theorem dX3_tell_33 : decode cX3_tell 33 = .ok (.iload_n 2, 1) := by decide +kernel
theorem dX3_tell_34 : decode cX3_tell 34 = .ok (.invokevirtual 36, 3) := by decide +kernel
theorem dX3_tell_37 : decode cX3_tell 37 = .ok (.iastore, 1) := by decide +kernel
theorem dX3_tell_38 : decode cX3_tell 38 = .ok (.iinc 2 1, 3) := by decide +kernel
theorem dX3_tell_41 : decode cX3_tell 41 = .ok (.goto (-31), 3) := by decide +kernel
theorem dX3_tell_44 : decode cX3_tell 44 = .ok (.aload_n 0, 1) := by decide +kernel
theorem dX3_tell_45 : decode cX3_tell 45 = .ok (.iconst 0, 1) := by decide +kernel
theorem dX3_tell_46 : decode cX3_tell 46 = .ok (.putfield 15, 3) := by decide +kernel
theorem dX3_tell_49 : decode cX3_tell 49 = .ok (.aload_n 0, 1) := by decide +kernel
theorem dX3_tell_50 : decode cX3_tell 50 = .ok (.invokevirtual 40, 3) := by decide +kernel
theorem dX3_tell_53 : decode cX3_tell 53 = .ok (.ifCond .eq 8, 3) := by decide +kernel
theorem dX3_tell_56 : decode cX3_tell 56 = .ok (.aload_n 0, 1) := by decide +kernel
theorem dX3_tell_57 : decode cX3_tell 57 = .ok (.iconst 0, 1) := by decide +kernel
theorem dX3_tell_58 : decode cX3_tell 58 = .ok (.invokevirtual 44, 3) := by decide +kernel
theorem dX3_tell_61 : decode cX3_tell 61 = .ok (.return_, 1) := by decide +kernel
theorem dX3_kindAt_0 : decode cX3_kindAt 0 = .ok (.iload_n 1, 1) := by decide +kernel
theorem dX3_kindAt_1 : decode cX3_kindAt 1 = .ok (.ifCond .lt 29, 3) := by decide +kernel
theorem dX3_kindAt_4 : decode cX3_kindAt 4 = .ok (.iload_n 1, 1) := by decide +kernel
theorem dX3_kindAt_5 : decode cX3_kindAt 5 = .ok (.aload_n 0, 1) := by decide +kernel
theorem dX3_kindAt_6 : decode cX3_kindAt 6 = .ok (.getfield 26, 3) := by decide +kernel
theorem dX3_kindAt_9 : decode cX3_kindAt 9 = .ok (.if_icmp .ge 21, 3) := by decide +kernel
theorem dX3_kindAt_12 : decode cX3_kindAt 12 = .ok (.iload_n 1, 1) := by decide +kernel
theorem dX3_kindAt_13 : decode cX3_kindAt 13 = .ok (.aload_n 0, 1) := by decide +kernel
theorem dX3_kindAt_14 : decode cX3_kindAt 14 = .ok (.getfield 19, 3) := by decide +kernel
theorem dX3_kindAt_17 : decode cX3_kindAt 17 = .ok (.arraylength, 1) := by decide +kernel
theorem dX3_kindAt_18 : decode cX3_kindAt 18 = .ok (.if_icmp .ge 12, 3) := by decide +kernel
theorem dX3_kindAt_21 : decode cX3_kindAt 21 = .ok (.aload_n 0, 1) := by decide +kernel
theorem dX3_kindAt_22 : decode cX3_kindAt 22 = .ok (.getfield 19, 3) := by decide +kernel
theorem dX3_kindAt_25 : decode cX3_kindAt 25 = .ok (.iload_n 1, 1) := by decide +kernel
theorem dX3_kindAt_26 : decode cX3_kindAt 26 = .ok (.iaload, 1) := by decide +kernel
theorem dX3_kindAt_27 : decode cX3_kindAt 27 = .ok (.goto 5, 3) := by decide +kernel
theorem dX3_kindAt_30 : decode cX3_kindAt 30 = .ok (.bipush 6, 2) := by decide +kernel
theorem dX3_kindAt_32 : decode cX3_kindAt 32 = .ok (.ireturn, 1) := by decide +kernel
theorem dX3_headAt_0 : decode cX3_headAt 0 = .ok (.iload_n 1, 1) := by decide +kernel
theorem dX3_headAt_1 : decode cX3_headAt 1 = .ok (.ifCond .lt 21, 3) := by decide +kernel
theorem dX3_headAt_4 : decode cX3_headAt 4 = .ok (.iload_n 1, 1) := by decide +kernel
theorem dX3_headAt_5 : decode cX3_headAt 5 = .ok (.aload_n 0, 1) := by decide +kernel
theorem dX3_headAt_6 : decode cX3_headAt 6 = .ok (.getfield 23, 3) := by decide +kernel
theorem dX3_headAt_9 : decode cX3_headAt 9 = .ok (.arraylength, 1) := by decide +kernel
theorem dX3_headAt_10 : decode cX3_headAt 10 = .ok (.if_icmp .ge 12, 3) := by decide +kernel
theorem dX3_headAt_13 : decode cX3_headAt 13 = .ok (.aload_n 0, 1) := by decide +kernel
theorem dX3_headAt_14 : decode cX3_headAt 14 = .ok (.getfield 23, 3) := by decide +kernel
theorem dX3_headAt_17 : decode cX3_headAt 17 = .ok (.iload_n 1, 1) := by decide +kernel
theorem dX3_headAt_18 : decode cX3_headAt 18 = .ok (.iaload, 1) := by decide +kernel
theorem dX3_headAt_19 : decode cX3_headAt 19 = .ok (.goto 4, 3) := by decide +kernel
theorem dX3_headAt_22 : decode cX3_headAt 22 = .ok (.iconst (-1), 1) := by decide +kernel
theorem dX3_headAt_23 : decode cX3_headAt 23 = .ok (.ireturn, 1) := by decide +kernel
theorem dX3_setHead_0 : decode cX3_setHead 0 = .ok (.iload_n 1, 1) := by decide +kernel
theorem dX3_setHead_1 : decode cX3_setHead 1 = .ok (.ifCond .lt 19, 3) := by decide +kernel
theorem dX3_setHead_4 : decode cX3_setHead 4 = .ok (.iload_n 1, 1) := by decide +kernel
theorem dX3_setHead_5 : decode cX3_setHead 5 = .ok (.aload_n 0, 1) := by decide +kernel
theorem dX3_setHead_6 : decode cX3_setHead 6 = .ok (.getfield 23, 3) := by decide +kernel
theorem dX3_setHead_9 : decode cX3_setHead 9 = .ok (.arraylength, 1) := by decide +kernel
theorem dX3_setHead_10 : decode cX3_setHead 10 = .ok (.if_icmp .ge 10, 3) := by decide +kernel
theorem dX3_setHead_13 : decode cX3_setHead 13 = .ok (.aload_n 0, 1) := by decide +kernel
theorem dX3_setHead_14 : decode cX3_setHead 14 = .ok (.getfield 23, 3) := by decide +kernel
theorem dX3_setHead_17 : decode cX3_setHead 17 = .ok (.iload_n 1, 1) := by decide +kernel
theorem dX3_setHead_18 : decode cX3_setHead 18 = .ok (.iload_n 2, 1) := by decide +kernel
theorem dX3_setHead_19 : decode cX3_setHead 19 = .ok (.iastore, 1) := by decide +kernel
theorem dX3_setHead_20 : decode cX3_setHead 20 = .ok (.return_, 1) := by decide +kernel
theorem dX3_setForcedHeads_0 : decode cX3_setForcedHeads 0 = .ok (.iconst (-1), 1) := by decide +kernel
theorem dX3_setForcedHeads_1 : decode cX3_setForcedHeads 1 = .ok (.istore_n 1, 1) := by decide +kernel
theorem dX3_setForcedHeads_2 : decode cX3_setForcedHeads 2 = .ok (.iconst (-1), 1) := by decide +kernel
theorem dX3_setForcedHeads_3 : decode cX3_setForcedHeads 3 = .ok (.istore_n 2, 1) := by decide +kernel
theorem dX3_setForcedHeads_4 : decode cX3_setForcedHeads 4 = .ok (.iconst 0, 1) := by decide +kernel
theorem dX3_setForcedHeads_5 : decode cX3_setForcedHeads 5 = .ok (.istore_n 3, 1) := by decide +kernel
theorem dX3_setForcedHeads_6 : decode cX3_setForcedHeads 6 = .ok (.iload_n 3, 1) := by decide +kernel
theorem dX3_setForcedHeads_7 : decode cX3_setForcedHeads 7 = .ok (.aload_n 0, 1) := by decide +kernel
theorem dX3_setForcedHeads_8 : decode cX3_setForcedHeads 8 = .ok (.getfield 26, 3) := by decide +kernel
theorem dX3_setForcedHeads_11 : decode cX3_setForcedHeads 11 = .ok (.if_icmp .ge 121, 3) := by decide +kernel
theorem dX3_setForcedHeads_14 : decode cX3_setForcedHeads 14 = .ok (.aload_n 0, 1) := by decide +kernel
theorem dX3_setForcedHeads_15 : decode cX3_setForcedHeads 15 = .ok (.iload_n 3, 1) := by decide +kernel
theorem dX3_setForcedHeads_16 : decode cX3_setForcedHeads 16 = .ok (.iconst 1, 1) := by decide +kernel
theorem dX3_setForcedHeads_17 : decode cX3_setForcedHeads 17 = .ok (.isub, 1) := by decide +kernel
theorem dX3_setForcedHeads_18 : decode cX3_setForcedHeads 18 = .ok (.invokevirtual 48, 3) := by decide +kernel
theorem dX3_setForcedHeads_21 : decode cX3_setForcedHeads 21 = .ok (.invokestatic 49, 3) := by decide +kernel
theorem dX3_setForcedHeads_24 : decode cX3_setForcedHeads 24 = .ok (.aload_n 0, 1) := by decide +kernel
theorem dX3_setForcedHeads_25 : decode cX3_setForcedHeads 25 = .ok (.iload_n 3, 1) := by decide +kernel
theorem dX3_setForcedHeads_26 : decode cX3_setForcedHeads 26 = .ok (.invokevirtual 48, 3) := by decide +kernel
theorem dX3_setForcedHeads_29 : decode cX3_setForcedHeads 29 = .ok (.invokestatic 52, 3) := by decide +kernel
theorem dX3_setForcedHeads_32 : decode cX3_setForcedHeads 32 = .ok (.ifCond .ne 5, 3) := by decide +kernel
theorem dX3_setForcedHeads_35 : decode cX3_setForcedHeads 35 = .ok (.iconst 0, 1) := by decide +kernel
theorem dX3_setForcedHeads_36 : decode cX3_setForcedHeads 36 = .ok (.ireturn, 1) := by decide +kernel
theorem dX3_setForcedHeads_37 : decode cX3_setForcedHeads 37 = .ok (.aload_n 0, 1) := by decide +kernel
theorem dX3_setForcedHeads_38 : decode cX3_setForcedHeads 38 = .ok (.iload_n 3, 1) := by decide +kernel
theorem dX3_setForcedHeads_39 : decode cX3_setForcedHeads 39 = .ok (.invokevirtual 48, 3) := by decide +kernel
theorem dX3_setForcedHeads_42 : decode cX3_setForcedHeads 42 = .ok (.lookupswitch 84 #[(0, 34), (1, 47), (6, 71)], 34) := by decide +kernel
theorem dX3_setForcedHeads_76 : decode cX3_setForcedHeads 76 = .ok (.aload_n 0, 1) := by decide +kernel
theorem dX3_setForcedHeads_77 : decode cX3_setForcedHeads 77 = .ok (.iload_n 3, 1) := by decide +kernel
theorem dX3_setForcedHeads_78 : decode cX3_setForcedHeads 78 = .ok (.invokevirtual 56, 3) := by decide +kernel
theorem dX3_setForcedHeads_81 : decode cX3_setForcedHeads 81 = .ok (.ifCond .eq 45, 3) := by decide +kernel
theorem dX3_setForcedHeads_84 : decode cX3_setForcedHeads 84 = .ok (.iload_n 3, 1) := by decide +kernel
theorem dX3_setForcedHeads_85 : decode cX3_setForcedHeads 85 = .ok (.istore_n 2, 1) := by decide +kernel
theorem dX3_setForcedHeads_86 : decode cX3_setForcedHeads 86 = .ok (.goto 40, 3) := by decide +kernel
theorem dX3_setForcedHeads_89 : decode cX3_setForcedHeads 89 = .ok (.iload_n 2, 1) := by decide +kernel
theorem dX3_setForcedHeads_90 : decode cX3_setForcedHeads 90 = .ok (.iconst (-1), 1) := by decide +kernel
theorem dX3_setForcedHeads_91 : decode cX3_setForcedHeads 91 = .ok (.if_icmp .ne 5, 3) := by decide +kernel
theorem dX3_setForcedHeads_94 : decode cX3_setForcedHeads 94 = .ok (.iconst 0, 1) := by decide +kernel
theorem dX3_setForcedHeads_95 : decode cX3_setForcedHeads 95 = .ok (.ireturn, 1) := by decide +kernel
theorem dX3_setForcedHeads_96 : decode cX3_setForcedHeads 96 = .ok (.aload_n 0, 1) := by decide +kernel
theorem dX3_setForcedHeads_97 : decode cX3_setForcedHeads 97 = .ok (.iload_n 2, 1) := by decide +kernel
theorem dX3_setForcedHeads_98 : decode cX3_setForcedHeads 98 = .ok (.iload_n 3, 1) := by decide +kernel
theorem dX3_setForcedHeads_99 : decode cX3_setForcedHeads 99 = .ok (.invokevirtual 60, 3) := by decide +kernel
theorem dX3_setForcedHeads_102 : decode cX3_setForcedHeads 102 = .ok (.aload_n 0, 1) := by decide +kernel
theorem dX3_setForcedHeads_103 : decode cX3_setForcedHeads 103 = .ok (.iload_n 3, 1) := by decide +kernel
theorem dX3_setForcedHeads_104 : decode cX3_setForcedHeads 104 = .ok (.iload_n 1, 1) := by decide +kernel
theorem dX3_setForcedHeads_105 : decode cX3_setForcedHeads 105 = .ok (.invokevirtual 60, 3) := by decide +kernel
theorem dX3_setForcedHeads_108 : decode cX3_setForcedHeads 108 = .ok (.iconst (-1), 1) := by decide +kernel
theorem dX3_setForcedHeads_109 : decode cX3_setForcedHeads 109 = .ok (.istore_n 2, 1) := by decide +kernel
theorem dX3_setForcedHeads_110 : decode cX3_setForcedHeads 110 = .ok (.goto 16, 3) := by decide +kernel
theorem dX3_setForcedHeads_113 : decode cX3_setForcedHeads 113 = .ok (.aload_n 0, 1) := by decide +kernel
theorem dX3_setForcedHeads_114 : decode cX3_setForcedHeads 114 = .ok (.iload_n 3, 1) := by decide +kernel
theorem dX3_setForcedHeads_115 : decode cX3_setForcedHeads 115 = .ok (.iload_n 3, 1) := by decide +kernel
theorem dX3_setForcedHeads_116 : decode cX3_setForcedHeads 116 = .ok (.iconst 1, 1) := by decide +kernel
theorem dX3_setForcedHeads_117 : decode cX3_setForcedHeads 117 = .ok (.isub, 1) := by decide +kernel
theorem dX3_setForcedHeads_118 : decode cX3_setForcedHeads 118 = .ok (.invokevirtual 60, 3) := by decide +kernel
theorem dX3_setForcedHeads_121 : decode cX3_setForcedHeads 121 = .ok (.iload_n 3, 1) := by decide +kernel
theorem dX3_setForcedHeads_122 : decode cX3_setForcedHeads 122 = .ok (.istore_n 1, 1) := by decide +kernel
theorem dX3_setForcedHeads_123 : decode cX3_setForcedHeads 123 = .ok (.goto 3, 3) := by decide +kernel
theorem dX3_setForcedHeads_126 : decode cX3_setForcedHeads 126 = .ok (.iinc 3 1, 3) := by decide +kernel
theorem dX3_setForcedHeads_129 : decode cX3_setForcedHeads 129 = .ok (.goto (-123), 3) := by decide +kernel
theorem dX3_setForcedHeads_132 : decode cX3_setForcedHeads 132 = .ok (.aload_n 0, 1) := by decide +kernel
theorem dX3_setForcedHeads_133 : decode cX3_setForcedHeads 133 = .ok (.getfield 26, 3) := by decide +kernel
theorem dX3_setForcedHeads_136 : decode cX3_setForcedHeads 136 = .ok (.ifCond .le 30, 3) := by decide +kernel
theorem dX3_setForcedHeads_139 : decode cX3_setForcedHeads 139 = .ok (.iload_n 2, 1) := by decide +kernel
theorem dX3_setForcedHeads_140 : decode cX3_setForcedHeads 140 = .ok (.iconst (-1), 1) := by decide +kernel
theorem dX3_setForcedHeads_141 : decode cX3_setForcedHeads 141 = .ok (.if_icmp .ne 25, 3) := by decide +kernel
theorem dX3_setForcedHeads_144 : decode cX3_setForcedHeads 144 = .ok (.bipush 11, 2) := by decide +kernel
theorem dX3_setForcedHeads_146 : decode cX3_setForcedHeads 146 = .ok (.aload_n 0, 1) := by decide +kernel
theorem dX3_setForcedHeads_147 : decode cX3_setForcedHeads 147 = .ok (.aload_n 0, 1) := by decide +kernel
theorem dX3_setForcedHeads_148 : decode cX3_setForcedHeads 148 = .ok (.getfield 26, 3) := by decide +kernel
theorem dX3_setForcedHeads_151 : decode cX3_setForcedHeads 151 = .ok (.iconst 1, 1) := by decide +kernel
theorem dX3_setForcedHeads_152 : decode cX3_setForcedHeads 152 = .ok (.isub, 1) := by decide +kernel
theorem dX3_setForcedHeads_153 : decode cX3_setForcedHeads 153 = .ok (.invokevirtual 48, 3) := by decide +kernel
theorem dX3_setForcedHeads_156 : decode cX3_setForcedHeads 156 = .ok (.invokestatic 52, 3) := by decide +kernel
theorem dX3_setForcedHeads_159 : decode cX3_setForcedHeads 159 = .ok (.ifCond .eq 7, 3) := by decide +kernel
theorem dX3_setForcedHeads_162 : decode cX3_setForcedHeads 162 = .ok (.iconst 1, 1) := by decide +kernel
theorem dX3_setForcedHeads_163 : decode cX3_setForcedHeads 163 = .ok (.goto 4, 3) := by decide +kernel
theorem dX3_setForcedHeads_166 : decode cX3_setForcedHeads 166 = .ok (.iconst 0, 1) := by decide +kernel
theorem dX3_setForcedHeads_167 : decode cX3_setForcedHeads 167 = .ok (.ireturn, 1) := by decide +kernel
theorem dX3_hangNoun_0 : decode cX3_hangNoun 0 = .ok (.iload_n 1, 1) := by decide +kernel
theorem dX3_hangNoun_1 : decode cX3_hangNoun 1 = .ok (.iconst 1, 1) := by decide +kernel
theorem dX3_hangNoun_2 : decode cX3_hangNoun 2 = .ok (.isub, 1) := by decide +kernel
theorem dX3_hangNoun_3 : decode cX3_hangNoun 3 = .ok (.istore_n 2, 1) := by decide +kernel
theorem dX3_hangNoun_4 : decode cX3_hangNoun 4 = .ok (.iload_n 2, 1) := by decide +kernel
theorem dX3_hangNoun_5 : decode cX3_hangNoun 5 = .ok (.ifCond .lt 24, 3) := by decide +kernel
theorem dX3_hangNoun_8 : decode cX3_hangNoun 8 = .ok (.aload_n 0, 1) := by decide +kernel
theorem dX3_hangNoun_9 : decode cX3_hangNoun 9 = .ok (.iload_n 2, 1) := by decide +kernel
theorem dX3_hangNoun_10 : decode cX3_hangNoun 10 = .ok (.invokevirtual 48, 3) := by decide +kernel
theorem dX3_hangNoun_13 : decode cX3_hangNoun 13 = .ok (.iconst 2, 1) := by decide +kernel
theorem dX3_hangNoun_14 : decode cX3_hangNoun 14 = .ok (.if_icmp .ne 15, 3) := by decide +kernel
theorem dX3_hangNoun_17 : decode cX3_hangNoun 17 = .ok (.aload_n 0, 1) := by decide +kernel
theorem dX3_hangNoun_18 : decode cX3_hangNoun 18 = .ok (.iload_n 2, 1) := by decide +kernel
theorem dX3_hangNoun_19 : decode cX3_hangNoun 19 = .ok (.iload_n 1, 1) := by decide +kernel
theorem dX3_hangNoun_20 : decode cX3_hangNoun 20 = .ok (.invokevirtual 60, 3) := by decide +kernel
theorem dX3_hangNoun_23 : decode cX3_hangNoun 23 = .ok (.iinc 2 (-1), 3) := by decide +kernel
theorem dX3_hangNoun_26 : decode cX3_hangNoun 26 = .ok (.goto (-22), 3) := by decide +kernel
theorem dX3_hangNoun_29 : decode cX3_hangNoun 29 = .ok (.aload_n 0, 1) := by decide +kernel
theorem dX3_hangNoun_30 : decode cX3_hangNoun 30 = .ok (.iload_n 1, 1) := by decide +kernel
theorem dX3_hangNoun_31 : decode cX3_hangNoun 31 = .ok (.iload_n 2, 1) := by decide +kernel
theorem dX3_hangNoun_32 : decode cX3_hangNoun 32 = .ok (.invokevirtual 60, 3) := by decide +kernel
theorem dX3_hangNoun_35 : decode cX3_hangNoun 35 = .ok (.aload_n 0, 1) := by decide +kernel
theorem dX3_hangNoun_36 : decode cX3_hangNoun 36 = .ok (.iload_n 2, 1) := by decide +kernel
theorem dX3_hangNoun_37 : decode cX3_hangNoun 37 = .ok (.invokevirtual 48, 3) := by decide +kernel
theorem dX3_hangNoun_40 : decode cX3_hangNoun 40 = .ok (.bipush 6, 2) := by decide +kernel
theorem dX3_hangNoun_42 : decode cX3_hangNoun 42 = .ok (.if_icmp .ne 7, 3) := by decide +kernel
theorem dX3_hangNoun_45 : decode cX3_hangNoun 45 = .ok (.iconst 1, 1) := by decide +kernel
theorem dX3_hangNoun_46 : decode cX3_hangNoun 46 = .ok (.goto 4, 3) := by decide +kernel
theorem dX3_hangNoun_49 : decode cX3_hangNoun 49 = .ok (.iconst 0, 1) := by decide +kernel
theorem dX3_hangNoun_50 : decode cX3_hangNoun 50 = .ok (.ireturn, 1) := by decide +kernel
theorem dX3_followersOf_0 : decode cX3_followersOf 0 = .ok (.iload_n 0, 1) := by decide +kernel
theorem dX3_followersOf_1 : decode cX3_followersOf 1 = .ok (.tableswitch 40 0 3 #[31, 34, 40, 37], 31) := by decide +kernel
theorem dX3_followersOf_32 : decode cX3_followersOf 32 = .ok (.bipush 58, 2) := by decide +kernel
theorem dX3_followersOf_34 : decode cX3_followersOf 34 = .ok (.ireturn, 1) := by decide +kernel
theorem dX3_followersOf_35 : decode cX3_followersOf 35 = .ok (.bipush 93, 2) := by decide +kernel
theorem dX3_followersOf_37 : decode cX3_followersOf 37 = .ok (.ireturn, 1) := by decide +kernel
theorem dX3_followersOf_38 : decode cX3_followersOf 38 = .ok (.bipush 24, 2) := by decide +kernel
theorem dX3_followersOf_40 : decode cX3_followersOf 40 = .ok (.ireturn, 1) := by decide +kernel
theorem dX3_followersOf_41 : decode cX3_followersOf 41 = .ok (.iconst 5, 1) := by decide +kernel
theorem dX3_followersOf_42 : decode cX3_followersOf 42 = .ok (.ireturn, 1) := by decide +kernel
theorem dX3_inMask_0 : decode cX3_inMask 0 = .ok (.iload_n 0, 1) := by decide +kernel
theorem dX3_inMask_1 : decode cX3_inMask 1 = .ok (.iload_n 1, 1) := by decide +kernel
theorem dX3_inMask_2 : decode cX3_inMask 2 = .ok (.ishr, 1) := by decide +kernel
theorem dX3_inMask_3 : decode cX3_inMask 3 = .ok (.iconst 1, 1) := by decide +kernel
theorem dX3_inMask_4 : decode cX3_inMask 4 = .ok (.iand, 1) := by decide +kernel
theorem dX3_inMask_5 : decode cX3_inMask 5 = .ok (.ifCond .eq 7, 3) := by decide +kernel
theorem dX3_inMask_8 : decode cX3_inMask 8 = .ok (.iconst 1, 1) := by decide +kernel
theorem dX3_inMask_9 : decode cX3_inMask 9 = .ok (.goto 4, 3) := by decide +kernel
theorem dX3_inMask_12 : decode cX3_inMask 12 = .ok (.iconst 0, 1) := by decide +kernel
theorem dX3_inMask_13 : decode cX3_inMask 13 = .ok (.ireturn, 1) := by decide +kernel
theorem dX3_hangFrom_0 : decode cX3_hangFrom 0 = .ok (.iload_n 1, 1) := by decide +kernel
theorem dX3_hangFrom_1 : decode cX3_hangFrom 1 = .ok (.aload_n 0, 1) := by decide +kernel
theorem dX3_hangFrom_2 : decode cX3_hangFrom 2 = .ok (.getfield 26, 3) := by decide +kernel
theorem dX3_hangFrom_5 : decode cX3_hangFrom 5 = .ok (.if_icmp .ge 9, 3) := by decide +kernel
theorem dX3_hangFrom_8 : decode cX3_hangFrom 8 = .ok (.iload_n 1, 1) := by decide +kernel
theorem dX3_hangFrom_9 : decode cX3_hangFrom 9 = .ok (.bipush 12, 2) := by decide +kernel
theorem dX3_hangFrom_11 : decode cX3_hangFrom 11 = .ok (.if_icmp .lt 8, 3) := by decide +kernel
theorem dX3_hangFrom_14 : decode cX3_hangFrom 14 = .ok (.aload_n 0, 1) := by decide +kernel
theorem dX3_hangFrom_15 : decode cX3_hangFrom 15 = .ok (.invokevirtual 64, 3) := by decide +kernel
theorem dX3_hangFrom_18 : decode cX3_hangFrom 18 = .ok (.return_, 1) := by decide +kernel
theorem dX3_hangFrom_19 : decode cX3_hangFrom 19 = .ok (.bipush 56, 2) := by decide +kernel
theorem dX3_hangFrom_21 : decode cX3_hangFrom 21 = .ok (.aload_n 0, 1) := by decide +kernel
theorem dX3_hangFrom_22 : decode cX3_hangFrom 22 = .ok (.iload_n 1, 1) := by decide +kernel
theorem dX3_hangFrom_23 : decode cX3_hangFrom 23 = .ok (.invokevirtual 48, 3) := by decide +kernel
theorem dX3_hangFrom_26 : decode cX3_hangFrom 26 = .ok (.invokestatic 52, 3) := by decide +kernel
theorem dX3_hangFrom_29 : decode cX3_hangFrom 29 = .ok (.ifCond .ne 11, 3) := by decide +kernel
theorem dX3_hangFrom_32 : decode cX3_hangFrom 32 = .ok (.aload_n 0, 1) := by decide +kernel
theorem dX3_hangFrom_33 : decode cX3_hangFrom 33 = .ok (.iload_n 1, 1) := by decide +kernel
theorem dX3_hangFrom_34 : decode cX3_hangFrom 34 = .ok (.iconst 1, 1) := by decide +kernel
theorem dX3_hangFrom_35 : decode cX3_hangFrom 35 = .ok (.iadd, 1) := by decide +kernel
theorem dX3_hangFrom_36 : decode cX3_hangFrom 36 = .ok (.invokevirtual 44, 3) := by decide +kernel
theorem dX3_hangFrom_39 : decode cX3_hangFrom 39 = .ok (.return_, 1) := by decide +kernel
theorem dX3_hangFrom_40 : decode cX3_hangFrom 40 = .ok (.aload_n 0, 1) := by decide +kernel
theorem dX3_hangFrom_41 : decode cX3_hangFrom 41 = .ok (.iload_n 1, 1) := by decide +kernel
theorem dX3_hangFrom_42 : decode cX3_hangFrom 42 = .ok (.iconst 1, 1) := by decide +kernel
theorem dX3_hangFrom_43 : decode cX3_hangFrom 43 = .ok (.isub, 1) := by decide +kernel
theorem dX3_hangFrom_44 : decode cX3_hangFrom 44 = .ok (.invokevirtual 67, 3) := by decide +kernel
theorem dX3_hangFrom_47 : decode cX3_hangFrom 47 = .ok (.istore_n 2, 1) := by decide +kernel
theorem dX3_hangFrom_48 : decode cX3_hangFrom 48 = .ok (.iconst 0, 1) := by decide +kernel
theorem dX3_hangFrom_49 : decode cX3_hangFrom 49 = .ok (.istore_n 3, 1) := by decide +kernel
theorem dX3_hangFrom_50 : decode cX3_hangFrom 50 = .ok (.iload_n 3, 1) := by decide +kernel
theorem dX3_hangFrom_51 : decode cX3_hangFrom 51 = .ok (.iload_n 1, 1) := by decide +kernel
theorem dX3_hangFrom_52 : decode cX3_hangFrom 52 = .ok (.if_icmp .ge 39, 3) := by decide +kernel
theorem dX3_hangFrom_55 : decode cX3_hangFrom 55 = .ok (.iload_n 2, 1) := by decide +kernel
theorem dX3_hangFrom_56 : decode cX3_hangFrom 56 = .ok (.iload_n 3, 1) := by decide +kernel
theorem dX3_hangFrom_57 : decode cX3_hangFrom 57 = .ok (.invokestatic 52, 3) := by decide +kernel
theorem dX3_hangFrom_60 : decode cX3_hangFrom 60 = .ok (.ifCond .eq 25, 3) := by decide +kernel
theorem dX3_hangFrom_63 : decode cX3_hangFrom 63 = .ok (.aload_n 0, 1) := by decide +kernel
theorem dX3_hangFrom_64 : decode cX3_hangFrom 64 = .ok (.iload_n 3, 1) := by decide +kernel
theorem dX3_hangFrom_65 : decode cX3_hangFrom 65 = .ok (.iload_n 1, 1) := by decide +kernel
theorem dX3_hangFrom_66 : decode cX3_hangFrom 66 = .ok (.invokevirtual 70, 3) := by decide +kernel
theorem dX3_hangFrom_69 : decode cX3_hangFrom 69 = .ok (.ifCond .eq 16, 3) := by decide +kernel
theorem dX3_hangFrom_72 : decode cX3_hangFrom 72 = .ok (.aload_n 0, 1) := by decide +kernel
theorem dX3_hangFrom_73 : decode cX3_hangFrom 73 = .ok (.iload_n 1, 1) := by decide +kernel
theorem dX3_hangFrom_74 : decode cX3_hangFrom 74 = .ok (.iload_n 3, 1) := by decide +kernel
theorem dX3_hangFrom_75 : decode cX3_hangFrom 75 = .ok (.invokevirtual 60, 3) := by decide +kernel
theorem dX3_hangFrom_78 : decode cX3_hangFrom 78 = .ok (.aload_n 0, 1) := by decide +kernel
theorem dX3_hangFrom_79 : decode cX3_hangFrom 79 = .ok (.iload_n 1, 1) := by decide +kernel
theorem dX3_hangFrom_80 : decode cX3_hangFrom 80 = .ok (.iconst 1, 1) := by decide +kernel
theorem dX3_hangFrom_81 : decode cX3_hangFrom 81 = .ok (.iadd, 1) := by decide +kernel
theorem dX3_hangFrom_82 : decode cX3_hangFrom 82 = .ok (.invokevirtual 44, 3) := by decide +kernel
theorem dX3_hangFrom_85 : decode cX3_hangFrom 85 = .ok (.iinc 3 1, 3) := by decide +kernel
theorem dX3_hangFrom_88 : decode cX3_hangFrom 88 = .ok (.goto (-38), 3) := by decide +kernel
theorem dX3_hangFrom_91 : decode cX3_hangFrom 91 = .ok (.return_, 1) := by decide +kernel
theorem dX3_openBehind_0 : decode cX3_openBehind 0 = .ok (.iconst 0, 1) := by decide +kernel
theorem dX3_openBehind_1 : decode cX3_openBehind 1 = .ok (.istore_n 2, 1) := by decide +kernel
theorem dX3_openBehind_2 : decode cX3_openBehind 2 = .ok (.iload_n 1, 1) := by decide +kernel
theorem dX3_openBehind_3 : decode cX3_openBehind 3 = .ok (.istore_n 3, 1) := by decide +kernel
theorem dX3_openBehind_4 : decode cX3_openBehind 4 = .ok (.iconst 0, 1) := by decide +kernel
theorem dX3_openBehind_5 : decode cX3_openBehind 5 = .ok (.istore 4, 2) := by decide +kernel
theorem dX3_openBehind_7 : decode cX3_openBehind 7 = .ok (.iload 4, 2) := by decide +kernel
theorem dX3_openBehind_9 : decode cX3_openBehind 9 = .ok (.bipush 12, 2) := by decide +kernel
theorem dX3_openBehind_11 : decode cX3_openBehind 11 = .ok (.if_icmp .ge 38, 3) := by decide +kernel
theorem dX3_openBehind_14 : decode cX3_openBehind 14 = .ok (.iload_n 3, 1) := by decide +kernel
theorem dX3_openBehind_15 : decode cX3_openBehind 15 = .ok (.ifCond .lt 34, 3) := by decide +kernel
theorem dX3_openBehind_18 : decode cX3_openBehind 18 = .ok (.iload_n 2, 1) := by decide +kernel
theorem dX3_openBehind_19 : decode cX3_openBehind 19 = .ok (.iconst 1, 1) := by decide +kernel
theorem dX3_openBehind_20 : decode cX3_openBehind 20 = .ok (.iload_n 3, 1) := by decide +kernel
theorem dX3_openBehind_21 : decode cX3_openBehind 21 = .ok (.ishl, 1) := by decide +kernel
theorem dX3_openBehind_22 : decode cX3_openBehind 22 = .ok (.ior, 1) := by decide +kernel
theorem dX3_openBehind_23 : decode cX3_openBehind 23 = .ok (.istore_n 2, 1) := by decide +kernel
theorem dX3_openBehind_24 : decode cX3_openBehind 24 = .ok (.aload_n 0, 1) := by decide +kernel
theorem dX3_openBehind_25 : decode cX3_openBehind 25 = .ok (.iload_n 3, 1) := by decide +kernel
theorem dX3_openBehind_26 : decode cX3_openBehind 26 = .ok (.invokevirtual 73, 3) := by decide +kernel
theorem dX3_openBehind_29 : decode cX3_openBehind 29 = .ok (.iload_n 3, 1) := by decide +kernel
theorem dX3_openBehind_30 : decode cX3_openBehind 30 = .ok (.if_icmp .ge 11, 3) := by decide +kernel
theorem dX3_openBehind_33 : decode cX3_openBehind 33 = .ok (.aload_n 0, 1) := by decide +kernel
theorem dX3_openBehind_34 : decode cX3_openBehind 34 = .ok (.iload_n 3, 1) := by decide +kernel
theorem dX3_openBehind_35 : decode cX3_openBehind 35 = .ok (.invokevirtual 73, 3) := by decide +kernel
theorem dX3_openBehind_38 : decode cX3_openBehind 38 = .ok (.goto 4, 3) := by decide +kernel
theorem dX3_openBehind_41 : decode cX3_openBehind 41 = .ok (.iconst (-1), 1) := by decide +kernel
theorem dX3_openBehind_42 : decode cX3_openBehind 42 = .ok (.istore_n 3, 1) := by decide +kernel
theorem dX3_openBehind_43 : decode cX3_openBehind 43 = .ok (.iinc 4 1, 3) := by decide +kernel
theorem dX3_openBehind_46 : decode cX3_openBehind 46 = .ok (.goto (-39), 3) := by decide +kernel
theorem dX3_openBehind_49 : decode cX3_openBehind 49 = .ok (.iload_n 2, 1) := by decide +kernel
theorem dX3_openBehind_50 : decode cX3_openBehind 50 = .ok (.ireturn, 1) := by decide +kernel
theorem dX3_canHold_0 : decode cX3_canHold 0 = .ok (.aload_n 0, 1) := by decide +kernel
theorem dX3_canHold_1 : decode cX3_canHold 1 = .ok (.iload_n 2, 1) := by decide +kernel
theorem dX3_canHold_2 : decode cX3_canHold 2 = .ok (.invokevirtual 48, 3) := by decide +kernel
theorem dX3_canHold_5 : decode cX3_canHold 5 = .ok (.istore_n 3, 1) := by decide +kernel
theorem dX3_canHold_6 : decode cX3_canHold 6 = .ok (.aload_n 0, 1) := by decide +kernel
theorem dX3_canHold_7 : decode cX3_canHold 7 = .ok (.iload_n 1, 1) := by decide +kernel
theorem dX3_canHold_8 : decode cX3_canHold 8 = .ok (.invokevirtual 48, 3) := by decide +kernel
theorem dX3_canHold_11 : decode cX3_canHold 11 = .ok (.iconst 1, 1) := by decide +kernel
theorem dX3_canHold_12 : decode cX3_canHold 12 = .ok (.if_icmp .ne 14, 3) := by decide +kernel
theorem dX3_canHold_15 : decode cX3_canHold 15 = .ok (.iload_n 3, 1) := by decide +kernel
theorem dX3_canHold_16 : decode cX3_canHold 16 = .ok (.iconst 5, 1) := by decide +kernel
theorem dX3_canHold_17 : decode cX3_canHold 17 = .ok (.if_icmp .eq 7, 3) := by decide +kernel
theorem dX3_canHold_20 : decode cX3_canHold 20 = .ok (.iconst 1, 1) := by decide +kernel
theorem dX3_canHold_21 : decode cX3_canHold 21 = .ok (.goto 4, 3) := by decide +kernel
theorem dX3_canHold_24 : decode cX3_canHold 24 = .ok (.iconst 0, 1) := by decide +kernel
theorem dX3_canHold_25 : decode cX3_canHold 25 = .ok (.ireturn, 1) := by decide +kernel
theorem dX3_canHold_26 : decode cX3_canHold 26 = .ok (.aload_n 0, 1) := by decide +kernel
theorem dX3_canHold_27 : decode cX3_canHold 27 = .ok (.iload_n 1, 1) := by decide +kernel
theorem dX3_canHold_28 : decode cX3_canHold 28 = .ok (.invokevirtual 48, 3) := by decide +kernel
theorem dX3_canHold_31 : decode cX3_canHold 31 = .ok (.ifCond .ne 17, 3) := by decide +kernel
theorem dX3_canHold_34 : decode cX3_canHold 34 = .ok (.iload_n 3, 1) := by decide +kernel
theorem dX3_canHold_35 : decode cX3_canHold 35 = .ok (.iconst 3, 1) := by decide +kernel
theorem dX3_canHold_36 : decode cX3_canHold 36 = .ok (.if_icmp .eq 12, 3) := by decide +kernel
theorem dX3_canHold_39 : decode cX3_canHold 39 = .ok (.aload_n 0, 1) := by decide +kernel
theorem dX3_canHold_40 : decode cX3_canHold 40 = .ok (.iload_n 1, 1) := by decide +kernel
theorem dX3_canHold_41 : decode cX3_canHold 41 = .ok (.iload_n 2, 1) := by decide +kernel
theorem dX3_canHold_42 : decode cX3_canHold 42 = .ok (.invokevirtual 76, 3) := by decide +kernel
theorem dX3_canHold_45 : decode cX3_canHold 45 = .ok (.ifCond .eq 5, 3) := by decide +kernel
theorem dX3_canHold_48 : decode cX3_canHold 48 = .ok (.iconst 0, 1) := by decide +kernel
theorem dX3_canHold_49 : decode cX3_canHold 49 = .ok (.ireturn, 1) := by decide +kernel
theorem dX3_canHold_50 : decode cX3_canHold 50 = .ok (.iload_n 3, 1) := by decide +kernel
theorem dX3_canHold_51 : decode cX3_canHold 51 = .ok (.iconst 4, 1) := by decide +kernel
theorem dX3_canHold_52 : decode cX3_canHold 52 = .ok (.if_icmp .eq 16, 3) := by decide +kernel
theorem dX3_canHold_55 : decode cX3_canHold 55 = .ok (.aload_n 0, 1) := by decide +kernel
theorem dX3_canHold_56 : decode cX3_canHold 56 = .ok (.aload_n 0, 1) := by decide +kernel
theorem dX3_canHold_57 : decode cX3_canHold 57 = .ok (.iload_n 1, 1) := by decide +kernel
theorem dX3_canHold_58 : decode cX3_canHold 58 = .ok (.invokevirtual 73, 3) := by decide +kernel
theorem dX3_canHold_61 : decode cX3_canHold 61 = .ok (.invokevirtual 48, 3) := by decide +kernel
theorem dX3_canHold_64 : decode cX3_canHold 64 = .ok (.iconst 5, 1) := by decide +kernel
theorem dX3_canHold_65 : decode cX3_canHold 65 = .ok (.if_icmp .eq 7, 3) := by decide +kernel
theorem dX3_canHold_68 : decode cX3_canHold 68 = .ok (.iconst 1, 1) := by decide +kernel
theorem dX3_canHold_69 : decode cX3_canHold 69 = .ok (.goto 4, 3) := by decide +kernel
theorem dX3_canHold_72 : decode cX3_canHold 72 = .ok (.iconst 0, 1) := by decide +kernel
theorem dX3_canHold_73 : decode cX3_canHold 73 = .ok (.ireturn, 1) := by decide +kernel
theorem dX3_isJoined_0 : decode cX3_isJoined 0 = .ok (.iload_n 1, 1) := by decide +kernel
theorem dX3_isJoined_1 : decode cX3_isJoined 1 = .ok (.iconst 1, 1) := by decide +kernel
theorem dX3_isJoined_2 : decode cX3_isJoined 2 = .ok (.iadd, 1) := by decide +kernel
theorem dX3_isJoined_3 : decode cX3_isJoined 3 = .ok (.istore_n 3, 1) := by decide +kernel
theorem dX3_isJoined_4 : decode cX3_isJoined 4 = .ok (.iload_n 3, 1) := by decide +kernel
theorem dX3_isJoined_5 : decode cX3_isJoined 5 = .ok (.iload_n 2, 1) := by decide +kernel
theorem dX3_isJoined_6 : decode cX3_isJoined 6 = .ok (.if_icmp .ge 29, 3) := by decide +kernel
theorem dX3_isJoined_9 : decode cX3_isJoined 9 = .ok (.aload_n 0, 1) := by decide +kernel
theorem dX3_isJoined_10 : decode cX3_isJoined 10 = .ok (.iload_n 3, 1) := by decide +kernel
theorem dX3_isJoined_11 : decode cX3_isJoined 11 = .ok (.invokevirtual 48, 3) := by decide +kernel
theorem dX3_isJoined_14 : decode cX3_isJoined 14 = .ok (.iconst 5, 1) := by decide +kernel
theorem dX3_isJoined_15 : decode cX3_isJoined 15 = .ok (.if_icmp .ne 14, 3) := by decide +kernel
theorem dX3_isJoined_18 : decode cX3_isJoined 18 = .ok (.aload_n 0, 1) := by decide +kernel
theorem dX3_isJoined_19 : decode cX3_isJoined 19 = .ok (.iload_n 3, 1) := by decide +kernel
theorem dX3_isJoined_20 : decode cX3_isJoined 20 = .ok (.invokevirtual 73, 3) := by decide +kernel
theorem dX3_isJoined_23 : decode cX3_isJoined 23 = .ok (.iload_n 1, 1) := by decide +kernel
theorem dX3_isJoined_24 : decode cX3_isJoined 24 = .ok (.if_icmp .ne 5, 3) := by decide +kernel
theorem dX3_isJoined_27 : decode cX3_isJoined 27 = .ok (.iconst 1, 1) := by decide +kernel
theorem dX3_isJoined_28 : decode cX3_isJoined 28 = .ok (.ireturn, 1) := by decide +kernel
theorem dX3_isJoined_29 : decode cX3_isJoined 29 = .ok (.iinc 3 1, 3) := by decide +kernel
theorem dX3_isJoined_32 : decode cX3_isJoined 32 = .ok (.goto (-28), 3) := by decide +kernel
theorem dX3_isJoined_35 : decode cX3_isJoined 35 = .ok (.iconst 0, 1) := by decide +kernel
theorem dX3_isJoined_36 : decode cX3_isJoined 36 = .ok (.ireturn, 1) := by decide +kernel
theorem dX3_pushReading_0 : decode cX3_pushReading 0 = .ok (.aload_n 0, 1) := by decide +kernel
theorem dX3_pushReading_1 : decode cX3_pushReading 1 = .ok (.getfield 15, 3) := by decide +kernel
theorem dX3_pushReading_4 : decode cX3_pushReading 4 = .ok (.aload_n 0, 1) := by decide +kernel
theorem dX3_pushReading_5 : decode cX3_pushReading 5 = .ok (.getfield 9, 3) := by decide +kernel
theorem dX3_pushReading_8 : decode cX3_pushReading 8 = .ok (.arraylength, 1) := by decide +kernel
theorem dX3_pushReading_9 : decode cX3_pushReading 9 = .ok (.if_icmp .ge 56, 3) := by decide +kernel
theorem dX3_pushReading_12 : decode cX3_pushReading 12 = .ok (.lconst 0, 1) := by decide +kernel
theorem dX3_pushReading_13 : decode cX3_pushReading 13 = .ok (.lstore_n 1, 1) := by decide +kernel
theorem dX3_pushReading_14 : decode cX3_pushReading 14 = .ok (.iconst 0, 1) := by decide +kernel
theorem dX3_pushReading_15 : decode cX3_pushReading 15 = .ok (.istore_n 3, 1) := by decide +kernel
theorem dX3_pushReading_16 : decode cX3_pushReading 16 = .ok (.iload_n 3, 1) := by decide +kernel
theorem dX3_pushReading_17 : decode cX3_pushReading 17 = .ok (.aload_n 0, 1) := by decide +kernel
theorem dX3_pushReading_18 : decode cX3_pushReading 18 = .ok (.getfield 26, 3) := by decide +kernel
theorem dX3_pushReading_21 : decode cX3_pushReading 21 = .ok (.if_icmp .ge 24, 3) := by decide +kernel
theorem dX3_pushReading_24 : decode cX3_pushReading 24 = .ok (.lload_n 1, 1) := by decide +kernel
theorem dX3_pushReading_25 : decode cX3_pushReading 25 = .ok (.aload_n 0, 1) := by decide +kernel
theorem dX3_pushReading_26 : decode cX3_pushReading 26 = .ok (.iload_n 3, 1) := by decide +kernel
theorem dX3_pushReading_27 : decode cX3_pushReading 27 = .ok (.invokevirtual 73, 3) := by decide +kernel
theorem dX3_pushReading_30 : decode cX3_pushReading 30 = .ok (.iconst 1, 1) := by decide +kernel
theorem dX3_pushReading_31 : decode cX3_pushReading 31 = .ok (.iadd, 1) := by decide +kernel
theorem dX3_pushReading_32 : decode cX3_pushReading 32 = .ok (.i2l, 1) := by decide +kernel
theorem dX3_pushReading_33 : decode cX3_pushReading 33 = .ok (.iconst 4, 1) := by decide +kernel
theorem dX3_pushReading_34 : decode cX3_pushReading 34 = .ok (.iload_n 3, 1) := by decide +kernel
theorem dX3_pushReading_35 : decode cX3_pushReading 35 = .ok (.imul, 1) := by decide +kernel
theorem dX3_pushReading_36 : decode cX3_pushReading 36 = .ok (.lshl, 1) := by decide +kernel
theorem dX3_pushReading_37 : decode cX3_pushReading 37 = .ok (.lor, 1) := by decide +kernel
theorem dX3_pushReading_38 : decode cX3_pushReading 38 = .ok (.lstore_n 1, 1) := by decide +kernel
theorem dX3_pushReading_39 : decode cX3_pushReading 39 = .ok (.iinc 3 1, 3) := by decide +kernel
theorem dX3_pushReading_42 : decode cX3_pushReading 42 = .ok (.goto (-26), 3) := by decide +kernel
theorem dX3_pushReading_45 : decode cX3_pushReading 45 = .ok (.aload_n 0, 1) := by decide +kernel
theorem dX3_pushReading_46 : decode cX3_pushReading 46 = .ok (.getfield 9, 3) := by decide +kernel
theorem dX3_pushReading_49 : decode cX3_pushReading 49 = .ok (.aload_n 0, 1) := by decide +kernel
theorem dX3_pushReading_50 : decode cX3_pushReading 50 = .ok (.getfield 15, 3) := by decide +kernel
theorem dX3_pushReading_53 : decode cX3_pushReading 53 = .ok (.lload_n 1, 1) := by decide +kernel
theorem dX3_pushReading_54 : decode cX3_pushReading 54 = .ok (.lastore, 1) := by decide +kernel
theorem dX3_pushReading_55 : decode cX3_pushReading 55 = .ok (.aload_n 0, 1) := by decide +kernel
theorem dX3_pushReading_56 : decode cX3_pushReading 56 = .ok (.dup, 1) := by decide +kernel
theorem dX3_pushReading_57 : decode cX3_pushReading 57 = .ok (.getfield 15, 3) := by decide +kernel
theorem dX3_pushReading_60 : decode cX3_pushReading 60 = .ok (.iconst 1, 1) := by decide +kernel
theorem dX3_pushReading_61 : decode cX3_pushReading 61 = .ok (.iadd, 1) := by decide +kernel
theorem dX3_pushReading_62 : decode cX3_pushReading 62 = .ok (.putfield 15, 3) := by decide +kernel
theorem dX3_pushReading_65 : decode cX3_pushReading 65 = .ok (.return_, 1) := by decide +kernel
theorem dX4_init_0 : decode cX4_init 0 = .ok (.aload_n 0, 1) := by decide +kernel
theorem dX4_init_1 : decode cX4_init 1 = .ok (.invokespecial 3, 3) := by decide +kernel
theorem dX4_init_4 : decode cX4_init 4 = .ok (.aload_n 0, 1) := by decide +kernel
theorem dX4_init_5 : decode cX4_init 5 = .ok (.bipush 12, 2) := by decide +kernel
theorem dX4_init_7 : decode cX4_init 7 = .ok (.newarray .int, 2) := by decide +kernel
theorem dX4_init_9 : decode cX4_init 9 = .ok (.putfield 9, 3) := by decide +kernel
theorem dX4_init_12 : decode cX4_init 12 = .ok (.aload_n 0, 1) := by decide +kernel
theorem dX4_init_13 : decode cX4_init 13 = .ok (.bipush 12, 2) := by decide +kernel
theorem dX4_init_15 : decode cX4_init 15 = .ok (.newarray .int, 2) := by decide +kernel
theorem dX4_init_17 : decode cX4_init 17 = .ok (.putfield 15, 3) := by decide +kernel
theorem dX4_init_20 : decode cX4_init 20 = .ok (.aload_n 0, 1) := by decide +kernel
theorem dX4_init_21 : decode cX4_init 21 = .ok (.iconst 0, 1) := by decide +kernel
theorem dX4_init_22 : decode cX4_init 22 = .ok (.putfield 18, 3) := by decide +kernel
theorem dX4_init_25 : decode cX4_init 25 = .ok (.aload_n 0, 1) := by decide +kernel
theorem dX4_init_26 : decode cX4_init 26 = .ok (.iconst 0, 1) := by decide +kernel
theorem dX4_init_27 : decode cX4_init 27 = .ok (.putfield 22, 3) := by decide +kernel
theorem dX4_init_30 : decode cX4_init 30 = .ok (.aload_n 0, 1) := by decide +kernel
theorem dX4_init_31 : decode cX4_init 31 = .ok (.getfield 15, 3) := by decide +kernel
theorem dX4_init_34 : decode cX4_init 34 = .ok (.bipush (-2), 2) := by decide +kernel
theorem dX4_init_36 : decode cX4_init 36 = .ok (.invokestatic 25, 3) := by decide +kernel
theorem dX4_init_39 : decode cX4_init 39 = .ok (.return_, 1) := by decide +kernel
theorem dX4_take_0 : decode cX4_take 0 = .ok (.aload_n 1, 1) := by decide +kernel
theorem dX4_take_1 : decode cX4_take 1 = .ok (.getfield 9, 3) := by decide +kernel
theorem dX4_take_4 : decode cX4_take 4 = .ok (.iconst 0, 1) := by decide +kernel
theorem dX4_take_5 : decode cX4_take 5 = .ok (.aload_n 0, 1) := by decide +kernel
theorem dX4_take_6 : decode cX4_take 6 = .ok (.getfield 9, 3) := by decide +kernel
theorem dX4_take_9 : decode cX4_take 9 = .ok (.iconst 0, 1) := by decide +kernel
theorem dX4_take_10 : decode cX4_take 10 = .ok (.bipush 12, 2) := by decide +kernel
theorem dX4_take_12 : decode cX4_take 12 = .ok (.invokestatic 31, 3) := by decide +kernel
theorem dX4_take_15 : decode cX4_take 15 = .ok (.aload_n 1, 1) := by decide +kernel
theorem dX4_take_16 : decode cX4_take 16 = .ok (.getfield 15, 3) := by decide +kernel
theorem dX4_take_19 : decode cX4_take 19 = .ok (.iconst 0, 1) := by decide +kernel
theorem dX4_take_20 : decode cX4_take 20 = .ok (.aload_n 0, 1) := by decide +kernel
theorem dX4_take_21 : decode cX4_take 21 = .ok (.getfield 15, 3) := by decide +kernel
theorem dX4_take_24 : decode cX4_take 24 = .ok (.iconst 0, 1) := by decide +kernel
theorem dX4_take_25 : decode cX4_take 25 = .ok (.bipush 12, 2) := by decide +kernel
theorem dX4_take_27 : decode cX4_take 27 = .ok (.invokestatic 31, 3) := by decide +kernel
theorem dX4_take_30 : decode cX4_take 30 = .ok (.aload_n 0, 1) := by decide +kernel
theorem dX4_take_31 : decode cX4_take 31 = .ok (.aload_n 1, 1) := by decide +kernel
theorem dX4_take_32 : decode cX4_take 32 = .ok (.getfield 18, 3) := by decide +kernel
theorem dX4_take_35 : decode cX4_take 35 = .ok (.putfield 18, 3) := by decide +kernel
theorem dX4_take_38 : decode cX4_take 38 = .ok (.aload_n 0, 1) := by decide +kernel
theorem dX4_take_39 : decode cX4_take 39 = .ok (.aload_n 1, 1) := by decide +kernel
theorem dX4_take_40 : decode cX4_take 40 = .ok (.getfield 22, 3) := by decide +kernel
theorem dX4_take_43 : decode cX4_take 43 = .ok (.putfield 22, 3) := by decide +kernel
theorem dX4_take_46 : decode cX4_take 46 = .ok (.return_, 1) := by decide +kernel
theorem dX4_size_0 : decode cX4_size 0 = .ok (.aload_n 0, 1) := by decide +kernel
theorem dX4_size_1 : decode cX4_size 1 = .ok (.getfield 18, 3) := by decide +kernel
theorem dX4_size_4 : decode cX4_size 4 = .ok (.ireturn, 1) := by decide +kernel
theorem dX4_has_0 : decode cX4_has 0 = .ok (.iload_n 1, 1) := by decide +kernel
theorem dX4_has_1 : decode cX4_has 1 = .ok (.ifCond .lt 21, 3) := by decide +kernel
theorem dX4_has_4 : decode cX4_has 4 = .ok (.iload_n 1, 1) := by decide +kernel
theorem dX4_has_5 : decode cX4_has 5 = .ok (.aload_n 0, 1) := by decide +kernel
theorem dX4_has_6 : decode cX4_has 6 = .ok (.getfield 18, 3) := by decide +kernel
theorem dX4_has_9 : decode cX4_has 9 = .ok (.if_icmp .ge 13, 3) := by decide +kernel
theorem dX4_has_12 : decode cX4_has 12 = .ok (.iload_n 1, 1) := by decide +kernel
theorem dX4_has_13 : decode cX4_has 13 = .ok (.bipush 12, 2) := by decide +kernel
theorem dX4_has_15 : decode cX4_has 15 = .ok (.if_icmp .ge 7, 3) := by decide +kernel
theorem dX4_has_18 : decode cX4_has 18 = .ok (.iconst 1, 1) := by decide +kernel
theorem dX4_has_19 : decode cX4_has 19 = .ok (.goto 4, 3) := by decide +kernel
theorem dX4_has_22 : decode cX4_has 22 = .ok (.iconst 0, 1) := by decide +kernel
theorem dX4_has_23 : decode cX4_has 23 = .ok (.ireturn, 1) := by decide +kernel
theorem dX4_kindAt_0 : decode cX4_kindAt 0 = .ok (.aload_n 0, 1) := by decide +kernel
theorem dX4_kindAt_1 : decode cX4_kindAt 1 = .ok (.iload_n 1, 1) := by decide +kernel
theorem dX4_kindAt_2 : decode cX4_kindAt 2 = .ok (.invokevirtual 37, 3) := by decide +kernel
theorem dX4_kindAt_5 : decode cX4_kindAt 5 = .ok (.ifCond .eq 12, 3) := by decide +kernel
theorem dX4_kindAt_8 : decode cX4_kindAt 8 = .ok (.aload_n 0, 1) := by decide +kernel
theorem dX4_kindAt_9 : decode cX4_kindAt 9 = .ok (.getfield 9, 3) := by decide +kernel
theorem dX4_kindAt_12 : decode cX4_kindAt 12 = .ok (.iload_n 1, 1) := by decide +kernel
theorem dX4_kindAt_13 : decode cX4_kindAt 13 = .ok (.iaload, 1) := by decide +kernel
theorem dX4_kindAt_14 : decode cX4_kindAt 14 = .ok (.goto 4, 3) := by decide +kernel
theorem dX4_kindAt_17 : decode cX4_kindAt 17 = .ok (.iconst (-1), 1) := by decide +kernel
theorem dX4_kindAt_18 : decode cX4_kindAt 18 = .ok (.ireturn, 1) := by decide +kernel
theorem dX4_fixedAt_0 : decode cX4_fixedAt 0 = .ok (.aload_n 0, 1) := by decide +kernel
theorem dX4_fixedAt_1 : decode cX4_fixedAt 1 = .ok (.iload_n 1, 1) := by decide +kernel
theorem dX4_fixedAt_2 : decode cX4_fixedAt 2 = .ok (.invokevirtual 37, 3) := by decide +kernel
theorem dX4_fixedAt_5 : decode cX4_fixedAt 5 = .ok (.ifCond .eq 12, 3) := by decide +kernel
theorem dX4_fixedAt_8 : decode cX4_fixedAt 8 = .ok (.aload_n 0, 1) := by decide +kernel
theorem dX4_fixedAt_9 : decode cX4_fixedAt 9 = .ok (.getfield 15, 3) := by decide +kernel
theorem dX4_fixedAt_12 : decode cX4_fixedAt 12 = .ok (.iload_n 1, 1) := by decide +kernel
theorem dX4_fixedAt_13 : decode cX4_fixedAt 13 = .ok (.iaload, 1) := by decide +kernel
theorem dX4_fixedAt_14 : decode cX4_fixedAt 14 = .ok (.goto 5, 3) := by decide +kernel
theorem dX4_fixedAt_17 : decode cX4_fixedAt 17 = .ok (.bipush (-2), 2) := by decide +kernel
theorem dX4_fixedAt_19 : decode cX4_fixedAt 19 = .ok (.ireturn, 1) := by decide +kernel
theorem dX4_drawn_0 : decode cX4_drawn 0 = .ok (.aload_n 0, 1) := by decide +kernel
theorem dX4_drawn_1 : decode cX4_drawn 1 = .ok (.getfield 22, 3) := by decide +kernel
theorem dX4_drawn_4 : decode cX4_drawn 4 = .ok (.ireturn, 1) := by decide +kernel
theorem dX4_fixedWords_0 : decode cX4_fixedWords 0 = .ok (.iconst 0, 1) := by decide +kernel
theorem dX4_fixedWords_1 : decode cX4_fixedWords 1 = .ok (.istore_n 1, 1) := by decide +kernel
theorem dX4_fixedWords_2 : decode cX4_fixedWords 2 = .ok (.iconst 0, 1) := by decide +kernel
theorem dX4_fixedWords_3 : decode cX4_fixedWords 3 = .ok (.istore_n 2, 1) := by decide +kernel
theorem dX4_fixedWords_4 : decode cX4_fixedWords 4 = .ok (.iload_n 2, 1) := by decide +kernel
theorem dX4_fixedWords_5 : decode cX4_fixedWords 5 = .ok (.aload_n 0, 1) := by decide +kernel
theorem dX4_fixedWords_6 : decode cX4_fixedWords 6 = .ok (.getfield 18, 3) := by decide +kernel
theorem dX4_fixedWords_9 : decode cX4_fixedWords 9 = .ok (.if_icmp .ge 22, 3) := by decide +kernel
theorem dX4_fixedWords_12 : decode cX4_fixedWords 12 = .ok (.aload_n 0, 1) := by decide +kernel
theorem dX4_fixedWords_13 : decode cX4_fixedWords 13 = .ok (.iload_n 2, 1) := by decide +kernel
theorem dX4_fixedWords_14 : decode cX4_fixedWords 14 = .ok (.invokevirtual 41, 3) := by decide +kernel
theorem dX4_fixedWords_17 : decode cX4_fixedWords 17 = .ok (.bipush (-2), 2) := by decide +kernel
theorem dX4_fixedWords_19 : decode cX4_fixedWords 19 = .ok (.if_icmp .eq 6, 3) := by decide +kernel
theorem dX4_fixedWords_22 : decode cX4_fixedWords 22 = .ok (.iinc 1 1, 3) := by decide +kernel
theorem dX4_fixedWords_25 : decode cX4_fixedWords 25 = .ok (.iinc 2 1, 3) := by decide +kernel
theorem dX4_fixedWords_28 : decode cX4_fixedWords 28 = .ok (.goto (-24), 3) := by decide +kernel
theorem dX4_fixedWords_31 : decode cX4_fixedWords 31 = .ok (.iload_n 1, 1) := by decide +kernel
theorem dX4_fixedWords_32 : decode cX4_fixedWords 32 = .ok (.ireturn, 1) := by decide +kernel
theorem dX4_pushWord_0 : decode cX4_pushWord 0 = .ok (.aload_n 0, 1) := by decide +kernel
theorem dX4_pushWord_1 : decode cX4_pushWord 1 = .ok (.getfield 18, 3) := by decide +kernel
theorem dX4_pushWord_4 : decode cX4_pushWord 4 = .ok (.bipush 12, 2) := by decide +kernel
theorem dX4_pushWord_6 : decode cX4_pushWord 6 = .ok (.if_icmp .ge 23, 3) := by decide +kernel
theorem dX4_pushWord_9 : decode cX4_pushWord 9 = .ok (.aload_n 0, 1) := by decide +kernel
theorem dX4_pushWord_10 : decode cX4_pushWord 10 = .ok (.getfield 9, 3) := by decide +kernel
theorem dX4_pushWord_13 : decode cX4_pushWord 13 = .ok (.aload_n 0, 1) := by decide +kernel
theorem dX4_pushWord_14 : decode cX4_pushWord 14 = .ok (.getfield 18, 3) := by decide +kernel
theorem dX4_pushWord_17 : decode cX4_pushWord 17 = .ok (.iload_n 1, 1) := by decide +kernel
theorem dX4_pushWord_18 : decode cX4_pushWord 18 = .ok (.iastore, 1) := by decide +kernel
theorem dX4_pushWord_19 : decode cX4_pushWord 19 = .ok (.aload_n 0, 1) := by decide +kernel
theorem dX4_pushWord_20 : decode cX4_pushWord 20 = .ok (.dup, 1) := by decide +kernel
theorem dX4_pushWord_21 : decode cX4_pushWord 21 = .ok (.getfield 18, 3) := by decide +kernel
theorem dX4_pushWord_24 : decode cX4_pushWord 24 = .ok (.iconst 1, 1) := by decide +kernel
theorem dX4_pushWord_25 : decode cX4_pushWord 25 = .ok (.iadd, 1) := by decide +kernel
theorem dX4_pushWord_26 : decode cX4_pushWord 26 = .ok (.putfield 18, 3) := by decide +kernel
theorem dX4_pushWord_29 : decode cX4_pushWord 29 = .ok (.return_, 1) := by decide +kernel
theorem dX4_dropWord_0 : decode cX4_dropWord 0 = .ok (.aload_n 0, 1) := by decide +kernel
theorem dX4_dropWord_1 : decode cX4_dropWord 1 = .ok (.iload_n 1, 1) := by decide +kernel
theorem dX4_dropWord_2 : decode cX4_dropWord 2 = .ok (.invokevirtual 37, 3) := by decide +kernel
theorem dX4_dropWord_5 : decode cX4_dropWord 5 = .ok (.ifCond .eq 36, 3) := by decide +kernel
theorem dX4_dropWord_8 : decode cX4_dropWord 8 = .ok (.aload_n 0, 1) := by decide +kernel
theorem dX4_dropWord_9 : decode cX4_dropWord 9 = .ok (.getfield 9, 3) := by decide +kernel
theorem dX4_dropWord_12 : decode cX4_dropWord 12 = .ok (.iload_n 1, 1) := by decide +kernel
theorem dX4_dropWord_13 : decode cX4_dropWord 13 = .ok (.iconst 1, 1) := by decide +kernel
theorem dX4_dropWord_14 : decode cX4_dropWord 14 = .ok (.iadd, 1) := by decide +kernel
theorem dX4_dropWord_15 : decode cX4_dropWord 15 = .ok (.aload_n 0, 1) := by decide +kernel
theorem dX4_dropWord_16 : decode cX4_dropWord 16 = .ok (.getfield 9, 3) := by decide +kernel
theorem dX4_dropWord_19 : decode cX4_dropWord 19 = .ok (.iload_n 1, 1) := by decide +kernel
theorem dX4_dropWord_20 : decode cX4_dropWord 20 = .ok (.aload_n 0, 1) := by decide +kernel
theorem dX4_dropWord_21 : decode cX4_dropWord 21 = .ok (.getfield 18, 3) := by decide +kernel
theorem dX4_dropWord_24 : decode cX4_dropWord 24 = .ok (.iload_n 1, 1) := by decide +kernel
theorem dX4_dropWord_25 : decode cX4_dropWord 25 = .ok (.isub, 1) := by decide +kernel
theorem dX4_dropWord_26 : decode cX4_dropWord 26 = .ok (.iconst 1, 1) := by decide +kernel
theorem dX4_dropWord_27 : decode cX4_dropWord 27 = .ok (.isub, 1) := by decide +kernel
theorem dX4_dropWord_28 : decode cX4_dropWord 28 = .ok (.invokestatic 31, 3) := by decide +kernel
theorem dX4_dropWord_31 : decode cX4_dropWord 31 = .ok (.aload_n 0, 1) := by decide +kernel
theorem dX4_dropWord_32 : decode cX4_dropWord 32 = .ok (.dup, 1) := by decide +kernel
theorem dX4_dropWord_33 : decode cX4_dropWord 33 = .ok (.getfield 18, 3) := by decide +kernel
theorem dX4_dropWord_36 : decode cX4_dropWord 36 = .ok (.iconst 1, 1) := by decide +kernel
theorem dX4_dropWord_37 : decode cX4_dropWord 37 = .ok (.isub, 1) := by decide +kernel
theorem dX4_dropWord_38 : decode cX4_dropWord 38 = .ok (.putfield 18, 3) := by decide +kernel
theorem dX4_dropWord_41 : decode cX4_dropWord 41 = .ok (.return_, 1) := by decide +kernel
theorem dX4_setKind_0 : decode cX4_setKind 0 = .ok (.aload_n 0, 1) := by decide +kernel
theorem dX4_setKind_1 : decode cX4_setKind 1 = .ok (.iload_n 1, 1) := by decide +kernel
theorem dX4_setKind_2 : decode cX4_setKind 2 = .ok (.invokevirtual 37, 3) := by decide +kernel
theorem dX4_setKind_5 : decode cX4_setKind 5 = .ok (.ifCond .eq 10, 3) := by decide +kernel
theorem dX4_setKind_8 : decode cX4_setKind 8 = .ok (.aload_n 0, 1) := by decide +kernel
theorem dX4_setKind_9 : decode cX4_setKind 9 = .ok (.getfield 9, 3) := by decide +kernel
theorem dX4_setKind_12 : decode cX4_setKind 12 = .ok (.iload_n 1, 1) := by decide +kernel
theorem dX4_setKind_13 : decode cX4_setKind 13 = .ok (.iload_n 2, 1) := by decide +kernel
theorem dX4_setKind_14 : decode cX4_setKind 14 = .ok (.iastore, 1) := by decide +kernel
theorem dX4_setKind_15 : decode cX4_setKind 15 = .ok (.return_, 1) := by decide +kernel
theorem dX4_setFixed_0 : decode cX4_setFixed 0 = .ok (.aload_n 0, 1) := by decide +kernel
theorem dX4_setFixed_1 : decode cX4_setFixed 1 = .ok (.iload_n 1, 1) := by decide +kernel
theorem dX4_setFixed_2 : decode cX4_setFixed 2 = .ok (.invokevirtual 37, 3) := by decide +kernel
theorem dX4_setFixed_5 : decode cX4_setFixed 5 = .ok (.ifCond .eq 10, 3) := by decide +kernel
theorem dX4_setFixed_8 : decode cX4_setFixed 8 = .ok (.aload_n 0, 1) := by decide +kernel
theorem dX4_setFixed_9 : decode cX4_setFixed 9 = .ok (.getfield 15, 3) := by decide +kernel
theorem dX4_setFixed_12 : decode cX4_setFixed 12 = .ok (.iload_n 1, 1) := by decide +kernel
theorem dX4_setFixed_13 : decode cX4_setFixed 13 = .ok (.iload_n 2, 1) := by decide +kernel
theorem dX4_setFixed_14 : decode cX4_setFixed 14 = .ok (.iastore, 1) := by decide +kernel
theorem dX4_setFixed_15 : decode cX4_setFixed 15 = .ok (.return_, 1) := by decide +kernel
theorem dX4_loosenAll_0 : decode cX4_loosenAll 0 = .ok (.aload_n 0, 1) := by decide +kernel
theorem dX4_loosenAll_1 : decode cX4_loosenAll 1 = .ok (.getfield 15, 3) := by decide +kernel
theorem dX4_loosenAll_4 : decode cX4_loosenAll 4 = .ok (.bipush (-2), 2) := by decide +kernel
theorem dX4_loosenAll_6 : decode cX4_loosenAll 6 = .ok (.invokestatic 25, 3) := by decide +kernel
theorem dX4_loosenAll_9 : decode cX4_loosenAll 9 = .ok (.return_, 1) := by decide +kernel
theorem dX4_setDrawn_0 : decode cX4_setDrawn 0 = .ok (.aload_n 0, 1) := by decide +kernel
theorem dX4_setDrawn_1 : decode cX4_setDrawn 1 = .ok (.iload_n 1, 1) := by decide +kernel
theorem dX4_setDrawn_2 : decode cX4_setDrawn 2 = .ok (.putfield 22, 3) := by decide +kernel
theorem dX4_setDrawn_5 : decode cX4_setDrawn 5 = .ok (.return_, 1) := by decide +kernel
theorem dX5_init_0 : decode cX5_init 0 = .ok (.aload_n 0, 1) := by decide +kernel
theorem dX5_init_1 : decode cX5_init 1 = .ok (.invokespecial 1, 3) := by decide +kernel
theorem dX5_init_4 : decode cX5_init 4 = .ok (.aload_n 0, 1) := by decide +kernel
theorem dX5_init_5 : decode cX5_init 5 = .ok (.new 7, 3) := by decide +kernel
theorem dX5_init_8 : decode cX5_init 8 = .ok (.dup, 1) := by decide +kernel
theorem dX5_init_9 : decode cX5_init 9 = .ok (.invokespecial 9, 3) := by decide +kernel
theorem dX5_init_12 : decode cX5_init 12 = .ok (.putfield 10, 3) := by decide +kernel
theorem dX5_init_15 : decode cX5_init 15 = .ok (.iconst 0, 1) := by decide +kernel
theorem dX5_init_16 : decode cX5_init 16 = .ok (.istore_n 2, 1) := by decide +kernel
theorem dX5_init_17 : decode cX5_init 17 = .ok (.iload_n 2, 1) := by decide +kernel
theorem dX5_init_18 : decode cX5_init 18 = .ok (.iload_n 1, 1) := by decide +kernel
theorem dX5_init_19 : decode cX5_init 19 = .ok (.if_icmp .ge 24, 3) := by decide +kernel
theorem dX5_init_22 : decode cX5_init 22 = .ok (.aload_n 0, 1) := by decide +kernel
theorem dX5_init_23 : decode cX5_init 23 = .ok (.getfield 10, 3) := by decide +kernel
theorem dX5_init_26 : decode cX5_init 26 = .ok (.new 16, 3) := by decide +kernel
theorem dX5_init_29 : decode cX5_init 29 = .ok (.dup, 1) := by decide +kernel
theorem dX5_init_30 : decode cX5_init 30 = .ok (.invokespecial 18, 3) := by decide +kernel
theorem dX5_init_33 : decode cX5_init 33 = .ok (.invokevirtual 19, 3) := by decide +kernel
theorem dX5_init_36 : decode cX5_init 36 = .ok (.pop, 1) := by decide +kernel
theorem dX5_init_37 : decode cX5_init 37 = .ok (.iinc 2 1, 3) := by decide +kernel
theorem dX5_init_40 : decode cX5_init 40 = .ok (.goto (-23), 3) := by decide +kernel
theorem dX5_init_43 : decode cX5_init 43 = .ok (.return_, 1) := by decide +kernel
theorem dX5_put_0 : decode cX5_put 0 = .ok (.iload_n 1, 1) := by decide +kernel
theorem dX5_put_1 : decode cX5_put 1 = .ok (.ifCond .lt 29, 3) := by decide +kernel
theorem dX5_put_4 : decode cX5_put 4 = .ok (.iload_n 1, 1) := by decide +kernel
theorem dX5_put_5 : decode cX5_put 5 = .ok (.aload_n 0, 1) := by decide +kernel
theorem dX5_put_6 : decode cX5_put 6 = .ok (.getfield 10, 3) := by decide +kernel
theorem dX5_put_9 : decode cX5_put 9 = .ok (.invokevirtual 23, 3) := by decide +kernel
theorem dX5_put_12 : decode cX5_put 12 = .ok (.if_icmp .ge 18, 3) := by decide +kernel
theorem dX5_put_15 : decode cX5_put 15 = .ok (.aload_n 0, 1) := by decide +kernel
theorem dX5_put_16 : decode cX5_put 16 = .ok (.getfield 10, 3) := by decide +kernel
theorem dX5_put_19 : decode cX5_put 19 = .ok (.iload_n 1, 1) := by decide +kernel
theorem dX5_put_20 : decode cX5_put 20 = .ok (.invokevirtual 27, 3) := by decide +kernel
theorem dX5_put_23 : decode cX5_put 23 = .ok (.checkcast 16, 3) := by decide +kernel
theorem dX5_put_26 : decode cX5_put 26 = .ok (.aload_n 2, 1) := by decide +kernel
theorem dX5_put_27 : decode cX5_put 27 = .ok (.invokevirtual 31, 3) := by decide +kernel
theorem dX5_put_30 : decode cX5_put 30 = .ok (.return_, 1) := by decide +kernel
theorem dX5_copyTo_0 : decode cX5_copyTo 0 = .ok (.iload_n 1, 1) := by decide +kernel
theorem dX5_copyTo_1 : decode cX5_copyTo 1 = .ok (.ifCond .lt 29, 3) := by decide +kernel
theorem dX5_copyTo_4 : decode cX5_copyTo 4 = .ok (.iload_n 1, 1) := by decide +kernel
theorem dX5_copyTo_5 : decode cX5_copyTo 5 = .ok (.aload_n 0, 1) := by decide +kernel
theorem dX5_copyTo_6 : decode cX5_copyTo 6 = .ok (.getfield 10, 3) := by decide +kernel
theorem dX5_copyTo_9 : decode cX5_copyTo 9 = .ok (.invokevirtual 23, 3) := by decide +kernel
theorem dX5_copyTo_12 : decode cX5_copyTo 12 = .ok (.if_icmp .ge 18, 3) := by decide +kernel
theorem dX5_copyTo_15 : decode cX5_copyTo 15 = .ok (.aload_n 2, 1) := by decide +kernel
theorem dX5_copyTo_16 : decode cX5_copyTo 16 = .ok (.aload_n 0, 1) := by decide +kernel
theorem dX5_copyTo_17 : decode cX5_copyTo 17 = .ok (.getfield 10, 3) := by decide +kernel
theorem dX5_copyTo_20 : decode cX5_copyTo 20 = .ok (.iload_n 1, 1) := by decide +kernel
theorem dX5_copyTo_21 : decode cX5_copyTo 21 = .ok (.invokevirtual 27, 3) := by decide +kernel
theorem dX5_copyTo_24 : decode cX5_copyTo 24 = .ok (.checkcast 16, 3) := by decide +kernel
theorem dX5_copyTo_27 : decode cX5_copyTo 27 = .ok (.invokevirtual 31, 3) := by decide +kernel
theorem dX5_copyTo_30 : decode cX5_copyTo 30 = .ok (.return_, 1) := by decide +kernel
theorem dX5_turnFirst_0 : decode cX5_turnFirst 0 = .ok (.aload_n 0, 1) := by decide +kernel
theorem dX5_turnFirst_1 : decode cX5_turnFirst 1 = .ok (.getfield 10, 3) := by decide +kernel
theorem dX5_turnFirst_4 : decode cX5_turnFirst 4 = .ok (.invokevirtual 23, 3) := by decide +kernel
theorem dX5_turnFirst_7 : decode cX5_turnFirst 7 = .ok (.ifCond .le 22, 3) := by decide +kernel
theorem dX5_turnFirst_10 : decode cX5_turnFirst 10 = .ok (.aload_n 0, 1) := by decide +kernel
theorem dX5_turnFirst_11 : decode cX5_turnFirst 11 = .ok (.getfield 10, 3) := by decide +kernel
theorem dX5_turnFirst_14 : decode cX5_turnFirst 14 = .ok (.aload_n 0, 1) := by decide +kernel
theorem dX5_turnFirst_15 : decode cX5_turnFirst 15 = .ok (.getfield 10, 3) := by decide +kernel
theorem dX5_turnFirst_18 : decode cX5_turnFirst 18 = .ok (.iconst 0, 1) := by decide +kernel
theorem dX5_turnFirst_19 : decode cX5_turnFirst 19 = .ok (.invokevirtual 35, 3) := by decide +kernel
theorem dX5_turnFirst_22 : decode cX5_turnFirst 22 = .ok (.checkcast 16, 3) := by decide +kernel
theorem dX5_turnFirst_25 : decode cX5_turnFirst 25 = .ok (.invokevirtual 19, 3) := by decide +kernel
theorem dX5_turnFirst_28 : decode cX5_turnFirst 28 = .ok (.pop, 1) := by decide +kernel
theorem dX5_turnFirst_29 : decode cX5_turnFirst 29 = .ok (.return_, 1) := by decide +kernel
