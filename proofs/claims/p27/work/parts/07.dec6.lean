theorem dX6_init_0 : decode cX6_init 0 = .ok (.aload_n 0, 1) := by decide +kernel
theorem dX6_init_1 : decode cX6_init 1 = .ok (.invokespecial 3, 3) := by decide +kernel
theorem dX6_init_4 : decode cX6_init 4 = .ok (.aload_n 0, 1) := by decide +kernel
theorem dX6_init_5 : decode cX6_init 5 = .ok (.new 9, 3) := by decide +kernel
theorem dX6_init_8 : decode cX6_init 8 = .ok (.dup, 1) := by decide +kernel
theorem dX6_init_9 : decode cX6_init 9 = .ok (.invokespecial 11, 3) := by decide +kernel
theorem dX6_init_12 : decode cX6_init 12 = .ok (.putfield 12, 3) := by decide +kernel
theorem dX6_init_15 : decode cX6_init 15 = .ok (.aload_n 0, 1) := by decide +kernel
theorem dX6_init_16 : decode cX6_init 16 = .ok (.new 16, 3) := by decide +kernel
theorem dX6_init_19 : decode cX6_init 19 = .ok (.dup, 1) := by decide +kernel
theorem dX6_init_20 : decode cX6_init 20 = .ok (.invokespecial 18, 3) := by decide +kernel
theorem dX6_init_23 : decode cX6_init 23 = .ok (.putfield 19, 3) := by decide +kernel
theorem dX6_init_26 : decode cX6_init 26 = .ok (.aload_n 0, 1) := by decide +kernel
theorem dX6_init_27 : decode cX6_init 27 = .ok (.new 23, 3) := by decide +kernel
theorem dX6_init_30 : decode cX6_init 30 = .ok (.dup, 1) := by decide +kernel
theorem dX6_init_31 : decode cX6_init 31 = .ok (.invokespecial 25, 3) := by decide +kernel
theorem dX6_init_34 : decode cX6_init 34 = .ok (.putfield 26, 3) := by decide +kernel
theorem dX6_init_37 : decode cX6_init 37 = .ok (.aload_n 0, 1) := by decide +kernel
theorem dX6_init_38 : decode cX6_init 38 = .ok (.bipush 42, 2) := by decide +kernel
theorem dX6_init_40 : decode cX6_init 40 = .ok (.newarray .int, 2) := by decide +kernel
theorem dX6_init_42 : decode cX6_init 42 = .ok (.putfield 30, 3) := by decide +kernel
theorem dX6_init_45 : decode cX6_init 45 = .ok (.aload_n 0, 1) := by decide +kernel
theorem dX6_init_46 : decode cX6_init 46 = .ok (.iconst 0, 1) := by decide +kernel
theorem dX6_init_47 : decode cX6_init 47 = .ok (.putfield 34, 3) := by decide +kernel
theorem dX6_init_50 : decode cX6_init 50 = .ok (.aload_n 0, 1) := by decide +kernel
theorem dX6_init_51 : decode cX6_init 51 = .ok (.new 38, 3) := by decide +kernel
theorem dX6_init_54 : decode cX6_init 54 = .ok (.dup, 1) := by decide +kernel
theorem dX6_init_55 : decode cX6_init 55 = .ok (.invokespecial 40, 3) := by decide +kernel
theorem dX6_init_58 : decode cX6_init 58 = .ok (.putfield 41, 3) := by decide +kernel
theorem dX6_init_61 : decode cX6_init 61 = .ok (.aload_n 0, 1) := by decide +kernel
theorem dX6_init_62 : decode cX6_init 62 = .ok (.new 38, 3) := by decide +kernel
theorem dX6_init_65 : decode cX6_init 65 = .ok (.dup, 1) := by decide +kernel
theorem dX6_init_66 : decode cX6_init 66 = .ok (.invokespecial 40, 3) := by decide +kernel
theorem dX6_init_69 : decode cX6_init 69 = .ok (.putfield 45, 3) := by decide +kernel
theorem dX6_init_72 : decode cX6_init 72 = .ok (.aload_n 0, 1) := by decide +kernel
theorem dX6_init_73 : decode cX6_init 73 = .ok (.new 9, 3) := by decide +kernel
theorem dX6_init_76 : decode cX6_init 76 = .ok (.dup, 1) := by decide +kernel
theorem dX6_init_77 : decode cX6_init 77 = .ok (.invokespecial 11, 3) := by decide +kernel
theorem dX6_init_80 : decode cX6_init 80 = .ok (.putfield 48, 3) := by decide +kernel
theorem dX6_init_83 : decode cX6_init 83 = .ok (.aload_n 0, 1) := by decide +kernel
theorem dX6_init_84 : decode cX6_init 84 = .ok (.new 16, 3) := by decide +kernel
theorem dX6_init_87 : decode cX6_init 87 = .ok (.dup, 1) := by decide +kernel
theorem dX6_init_88 : decode cX6_init 88 = .ok (.invokespecial 18, 3) := by decide +kernel
theorem dX6_init_91 : decode cX6_init 91 = .ok (.putfield 51, 3) := by decide +kernel
theorem dX6_init_94 : decode cX6_init 94 = .ok (.aload_n 0, 1) := by decide +kernel
theorem dX6_init_95 : decode cX6_init 95 = .ok (.new 54, 3) := by decide +kernel
theorem dX6_init_98 : decode cX6_init 98 = .ok (.dup, 1) := by decide +kernel
theorem dX6_init_99 : decode cX6_init 99 = .ok (.bipush 6, 2) := by decide +kernel
theorem dX6_init_101 : decode cX6_init 101 = .ok (.invokespecial 56, 3) := by decide +kernel
theorem dX6_init_104 : decode cX6_init 104 = .ok (.putfield 59, 3) := by decide +kernel
theorem dX6_init_107 : decode cX6_init 107 = .ok (.aload_n 0, 1) := by decide +kernel
theorem dX6_init_108 : decode cX6_init 108 = .ok (.iconst 0, 1) := by decide +kernel
theorem dX6_init_109 : decode cX6_init 109 = .ok (.putfield 63, 3) := by decide +kernel
theorem dX6_init_112 : decode cX6_init 112 = .ok (.aload_n 0, 1) := by decide +kernel
theorem dX6_init_113 : decode cX6_init 113 = .ok (.new 54, 3) := by decide +kernel
theorem dX6_init_116 : decode cX6_init 116 = .ok (.dup, 1) := by decide +kernel
theorem dX6_init_117 : decode cX6_init 117 = .ok (.iconst 2, 1) := by decide +kernel
theorem dX6_init_118 : decode cX6_init 118 = .ok (.invokespecial 56, 3) := by decide +kernel
theorem dX6_init_121 : decode cX6_init 121 = .ok (.putfield 66, 3) := by decide +kernel
theorem dX6_init_124 : decode cX6_init 124 = .ok (.aload_n 0, 1) := by decide +kernel
theorem dX6_init_125 : decode cX6_init 125 = .ok (.iconst 2, 1) := by decide +kernel
theorem dX6_init_126 : decode cX6_init 126 = .ok (.newarray .boolean, 2) := by decide +kernel
theorem dX6_init_128 : decode cX6_init 128 = .ok (.putfield 69, 3) := by decide +kernel
theorem dX6_init_131 : decode cX6_init 131 = .ok (.aload_n 0, 1) := by decide +kernel
theorem dX6_init_132 : decode cX6_init 132 = .ok (.bipush 20, 2) := by decide +kernel
theorem dX6_init_134 : decode cX6_init 134 = .ok (.newarray .int, 2) := by decide +kernel
theorem dX6_init_136 : decode cX6_init 136 = .ok (.putfield 73, 3) := by decide +kernel
theorem dX6_init_139 : decode cX6_init 139 = .ok (.aload_n 0, 1) := by decide +kernel
theorem dX6_init_140 : decode cX6_init 140 = .ok (.iconst 0, 1) := by decide +kernel
theorem dX6_init_141 : decode cX6_init 141 = .ok (.putfield 76, 3) := by decide +kernel
theorem dX6_init_144 : decode cX6_init 144 = .ok (.return_, 1) := by decide +kernel
theorem dX6_add_0 : decode cX6_add 0 = .ok (.aload_n 0, 1) := by decide +kernel
theorem dX6_add_1 : decode cX6_add 1 = .ok (.iload_n 1, 1) := by decide +kernel
theorem dX6_add_2 : decode cX6_add 2 = .ok (.invokevirtual 79, 3) := by decide +kernel
theorem dX6_add_5 : decode cX6_add 5 = .ok (.aload_n 0, 1) := by decide +kernel
theorem dX6_add_6 : decode cX6_add 6 = .ok (.getfield 12, 3) := by decide +kernel
theorem dX6_add_9 : decode cX6_add 9 = .ok (.invokevirtual 82, 3) := by decide +kernel
theorem dX6_add_12 : decode cX6_add 12 = .ok (.bipush 12, 2) := by decide +kernel
theorem dX6_add_14 : decode cX6_add 14 = .ok (.if_icmp .lt 13, 3) := by decide +kernel
theorem dX6_add_17 : decode cX6_add 17 = .ok (.new 86, 3) := by decide +kernel
theorem dX6_add_20 : decode cX6_add 20 = .ok (.dup, 1) := by decide +kernel
theorem dX6_add_21 : decode cX6_add 21 = .ok (.ldc 88, 2) := by decide +kernel
theorem dX6_add_23 : decode cX6_add 23 = .ok (.invokespecial 90, 3) := by decide +kernel
theorem dX6_add_26 : decode cX6_add 26 = .ok (.athrow, 1) := by decide +kernel
theorem dX6_add_27 : decode cX6_add 27 = .ok (.aload_n 0, 1) := by decide +kernel
theorem dX6_add_28 : decode cX6_add 28 = .ok (.invokevirtual 93, 3) := by decide +kernel
theorem dX6_add_31 : decode cX6_add 31 = .ok (.aload_n 0, 1) := by decide +kernel
theorem dX6_add_32 : decode cX6_add 32 = .ok (.getfield 12, 3) := by decide +kernel
theorem dX6_add_35 : decode cX6_add 35 = .ok (.iload_n 1, 1) := by decide +kernel
theorem dX6_add_36 : decode cX6_add 36 = .ok (.invokevirtual 96, 3) := by decide +kernel
theorem dX6_add_39 : decode cX6_add 39 = .ok (.aload_n 0, 1) := by decide +kernel
theorem dX6_add_40 : decode cX6_add 40 = .ok (.invokevirtual 99, 3) := by decide +kernel
theorem dX6_add_43 : decode cX6_add 43 = .ok (.ireturn, 1) := by decide +kernel
theorem dX6_change_0 : decode cX6_change 0 = .ok (.aload_n 0, 1) := by decide +kernel
theorem dX6_change_1 : decode cX6_change 1 = .ok (.iload_n 1, 1) := by decide +kernel
theorem dX6_change_2 : decode cX6_change 2 = .ok (.invokevirtual 102, 3) := by decide +kernel
theorem dX6_change_5 : decode cX6_change 5 = .ok (.aload_n 0, 1) := by decide +kernel
theorem dX6_change_6 : decode cX6_change 6 = .ok (.iload_n 2, 1) := by decide +kernel
theorem dX6_change_7 : decode cX6_change 7 = .ok (.invokevirtual 79, 3) := by decide +kernel
theorem dX6_change_10 : decode cX6_change 10 = .ok (.aload_n 0, 1) := by decide +kernel
theorem dX6_change_11 : decode cX6_change 11 = .ok (.invokevirtual 93, 3) := by decide +kernel
theorem dX6_change_14 : decode cX6_change 14 = .ok (.aload_n 0, 1) := by decide +kernel
theorem dX6_change_15 : decode cX6_change 15 = .ok (.getfield 12, 3) := by decide +kernel
theorem dX6_change_18 : decode cX6_change 18 = .ok (.iload_n 1, 1) := by decide +kernel
theorem dX6_change_19 : decode cX6_change 19 = .ok (.iload_n 2, 1) := by decide +kernel
theorem dX6_change_20 : decode cX6_change 20 = .ok (.invokevirtual 105, 3) := by decide +kernel
theorem dX6_change_23 : decode cX6_change 23 = .ok (.aload_n 0, 1) := by decide +kernel
theorem dX6_change_24 : decode cX6_change 24 = .ok (.invokevirtual 99, 3) := by decide +kernel
theorem dX6_change_27 : decode cX6_change 27 = .ok (.ireturn, 1) := by decide +kernel
theorem dX6_wipe_0 : decode cX6_wipe 0 = .ok (.aload_n 0, 1) := by decide +kernel
theorem dX6_wipe_1 : decode cX6_wipe 1 = .ok (.iload_n 1, 1) := by decide +kernel
theorem dX6_wipe_2 : decode cX6_wipe 2 = .ok (.invokevirtual 102, 3) := by decide +kernel
theorem dX6_wipe_5 : decode cX6_wipe 5 = .ok (.aload_n 0, 1) := by decide +kernel
theorem dX6_wipe_6 : decode cX6_wipe 6 = .ok (.invokevirtual 93, 3) := by decide +kernel
theorem dX6_wipe_9 : decode cX6_wipe 9 = .ok (.aload_n 0, 1) := by decide +kernel
theorem dX6_wipe_10 : decode cX6_wipe 10 = .ok (.getfield 12, 3) := by decide +kernel
theorem dX6_wipe_13 : decode cX6_wipe 13 = .ok (.iload_n 1, 1) := by decide +kernel
theorem dX6_wipe_14 : decode cX6_wipe 14 = .ok (.invokevirtual 109, 3) := by decide +kernel
theorem dX6_wipe_17 : decode cX6_wipe 17 = .ok (.aload_n 0, 1) := by decide +kernel
theorem dX6_wipe_18 : decode cX6_wipe 18 = .ok (.invokevirtual 99, 3) := by decide +kernel
theorem dX6_wipe_21 : decode cX6_wipe 21 = .ok (.ireturn, 1) := by decide +kernel
theorem dX6_fix_0 : decode cX6_fix 0 = .ok (.aload_n 0, 1) := by decide +kernel
theorem dX6_fix_1 : decode cX6_fix 1 = .ok (.iload_n 1, 1) := by decide +kernel
theorem dX6_fix_2 : decode cX6_fix 2 = .ok (.invokevirtual 102, 3) := by decide +kernel
theorem dX6_fix_5 : decode cX6_fix 5 = .ok (.aload_n 0, 1) := by decide +kernel
theorem dX6_fix_6 : decode cX6_fix 6 = .ok (.iload_n 1, 1) := by decide +kernel
theorem dX6_fix_7 : decode cX6_fix 7 = .ok (.iload_n 2, 1) := by decide +kernel
theorem dX6_fix_8 : decode cX6_fix 8 = .ok (.invokevirtual 112, 3) := by decide +kernel
theorem dX6_fix_11 : decode cX6_fix 11 = .ok (.aload_n 0, 1) := by decide +kernel
theorem dX6_fix_12 : decode cX6_fix 12 = .ok (.iload_n 1, 1) := by decide +kernel
theorem dX6_fix_13 : decode cX6_fix 13 = .ok (.iload_n 2, 1) := by decide +kernel
theorem dX6_fix_14 : decode cX6_fix 14 = .ok (.invokevirtual 115, 3) := by decide +kernel
theorem dX6_fix_17 : decode cX6_fix 17 = .ok (.ifCond .ne 13, 3) := by decide +kernel
theorem dX6_fix_20 : decode cX6_fix 20 = .ok (.new 86, 3) := by decide +kernel
theorem dX6_fix_23 : decode cX6_fix 23 = .ok (.dup, 1) := by decide +kernel
theorem dX6_fix_24 : decode cX6_fix 24 = .ok (.ldc 119, 2) := by decide +kernel
theorem dX6_fix_26 : decode cX6_fix 26 = .ok (.invokespecial 90, 3) := by decide +kernel
theorem dX6_fix_29 : decode cX6_fix 29 = .ok (.athrow, 1) := by decide +kernel
theorem dX6_fix_30 : decode cX6_fix 30 = .ok (.aload_n 0, 1) := by decide +kernel
theorem dX6_fix_31 : decode cX6_fix 31 = .ok (.invokevirtual 93, 3) := by decide +kernel
theorem dX6_fix_34 : decode cX6_fix 34 = .ok (.aload_n 0, 1) := by decide +kernel
theorem dX6_fix_35 : decode cX6_fix 35 = .ok (.getfield 12, 3) := by decide +kernel
theorem dX6_fix_38 : decode cX6_fix 38 = .ok (.iload_n 1, 1) := by decide +kernel
theorem dX6_fix_39 : decode cX6_fix 39 = .ok (.iload_n 2, 1) := by decide +kernel
theorem dX6_fix_40 : decode cX6_fix 40 = .ok (.invokevirtual 121, 3) := by decide +kernel
theorem dX6_fix_43 : decode cX6_fix 43 = .ok (.aload_n 0, 1) := by decide +kernel
theorem dX6_fix_44 : decode cX6_fix 44 = .ok (.invokevirtual 124, 3) := by decide +kernel
theorem dX6_fix_47 : decode cX6_fix 47 = .ok (.ireturn, 1) := by decide +kernel
theorem dX6_loosen_0 : decode cX6_loosen 0 = .ok (.aload_n 0, 1) := by decide +kernel
theorem dX6_loosen_1 : decode cX6_loosen 1 = .ok (.iload_n 1, 1) := by decide +kernel
theorem dX6_loosen_2 : decode cX6_loosen 2 = .ok (.invokevirtual 102, 3) := by decide +kernel
theorem dX6_loosen_5 : decode cX6_loosen 5 = .ok (.aload_n 0, 1) := by decide +kernel
theorem dX6_loosen_6 : decode cX6_loosen 6 = .ok (.invokevirtual 93, 3) := by decide +kernel
theorem dX6_loosen_9 : decode cX6_loosen 9 = .ok (.aload_n 0, 1) := by decide +kernel
theorem dX6_loosen_10 : decode cX6_loosen 10 = .ok (.getfield 12, 3) := by decide +kernel
theorem dX6_loosen_13 : decode cX6_loosen 13 = .ok (.iload_n 1, 1) := by decide +kernel
theorem dX6_loosen_14 : decode cX6_loosen 14 = .ok (.bipush (-2), 2) := by decide +kernel
theorem dX6_loosen_16 : decode cX6_loosen 16 = .ok (.invokevirtual 121, 3) := by decide +kernel
theorem dX6_loosen_19 : decode cX6_loosen 19 = .ok (.aload_n 0, 1) := by decide +kernel
theorem dX6_loosen_20 : decode cX6_loosen 20 = .ok (.invokevirtual 124, 3) := by decide +kernel
theorem dX6_loosen_23 : decode cX6_loosen 23 = .ok (.ireturn, 1) := by decide +kernel
theorem dX6_draw_0 : decode cX6_draw 0 = .ok (.aload_n 0, 1) := by decide +kernel
theorem dX6_draw_1 : decode cX6_draw 1 = .ok (.iload_n 1, 1) := by decide +kernel
theorem dX6_draw_2 : decode cX6_draw 2 = .ok (.invokevirtual 127, 3) := by decide +kernel
theorem dX6_draw_5 : decode cX6_draw 5 = .ok (.aload_n 0, 1) := by decide +kernel
theorem dX6_draw_6 : decode cX6_draw 6 = .ok (.invokevirtual 93, 3) := by decide +kernel
theorem dX6_draw_9 : decode cX6_draw 9 = .ok (.aload_n 0, 1) := by decide +kernel
theorem dX6_draw_10 : decode cX6_draw 10 = .ok (.getfield 12, 3) := by decide +kernel
theorem dX6_draw_13 : decode cX6_draw 13 = .ok (.iload_n 1, 1) := by decide +kernel
theorem dX6_draw_14 : decode cX6_draw 14 = .ok (.invokevirtual 130, 3) := by decide +kernel
theorem dX6_draw_17 : decode cX6_draw 17 = .ok (.aload_n 0, 1) := by decide +kernel
theorem dX6_draw_18 : decode cX6_draw 18 = .ok (.invokevirtual 133, 3) := by decide +kernel
theorem dX6_draw_21 : decode cX6_draw 21 = .ok (.aload_n 0, 1) := by decide +kernel
theorem dX6_draw_22 : decode cX6_draw 22 = .ok (.getfield 41, 3) := by decide +kernel
theorem dX6_draw_25 : decode cX6_draw 25 = .ok (.invokevirtual 136, 3) := by decide +kernel
theorem dX6_draw_28 : decode cX6_draw 28 = .ok (.ireturn, 1) := by decide +kernel
theorem dX6_flatten_0 : decode cX6_flatten 0 = .ok (.aload_n 0, 1) := by decide +kernel
theorem dX6_flatten_1 : decode cX6_flatten 1 = .ok (.getfield 34, 3) := by decide +kernel
theorem dX6_flatten_4 : decode cX6_flatten 4 = .ok (.ifCond .ne 13, 3) := by decide +kernel
theorem dX6_flatten_7 : decode cX6_flatten 7 = .ok (.new 86, 3) := by decide +kernel
theorem dX6_flatten_10 : decode cX6_flatten 10 = .ok (.dup, 1) := by decide +kernel
theorem dX6_flatten_11 : decode cX6_flatten 11 = .ok (.ldc 139, 2) := by decide +kernel
theorem dX6_flatten_13 : decode cX6_flatten 13 = .ok (.invokespecial 90, 3) := by decide +kernel
theorem dX6_flatten_16 : decode cX6_flatten 16 = .ok (.athrow, 1) := by decide +kernel
theorem dX6_flatten_17 : decode cX6_flatten 17 = .ok (.aload_n 0, 1) := by decide +kernel
theorem dX6_flatten_18 : decode cX6_flatten 18 = .ok (.invokevirtual 141, 3) := by decide +kernel
theorem dX6_flatten_21 : decode cX6_flatten 21 = .ok (.istore_n 1, 1) := by decide +kernel
theorem dX6_flatten_22 : decode cX6_flatten 22 = .ok (.aload_n 0, 1) := by decide +kernel
theorem dX6_flatten_23 : decode cX6_flatten 23 = .ok (.invokevirtual 93, 3) := by decide +kernel
theorem dX6_flatten_26 : decode cX6_flatten 26 = .ok (.aload_n 0, 1) := by decide +kernel
theorem dX6_flatten_27 : decode cX6_flatten 27 = .ok (.getfield 12, 3) := by decide +kernel
theorem dX6_flatten_30 : decode cX6_flatten 30 = .ok (.iload_n 1, 1) := by decide +kernel
theorem dX6_flatten_31 : decode cX6_flatten 31 = .ok (.invokevirtual 130, 3) := by decide +kernel
theorem dX6_flatten_34 : decode cX6_flatten 34 = .ok (.aload_n 0, 1) := by decide +kernel
theorem dX6_flatten_35 : decode cX6_flatten 35 = .ok (.invokevirtual 133, 3) := by decide +kernel
theorem dX6_flatten_38 : decode cX6_flatten 38 = .ok (.iload_n 1, 1) := by decide +kernel
theorem dX6_flatten_39 : decode cX6_flatten 39 = .ok (.ireturn, 1) := by decide +kernel
theorem dX6_undo_0 : decode cX6_undo 0 = .ok (.aload_n 0, 1) := by decide +kernel
theorem dX6_undo_1 : decode cX6_undo 1 = .ok (.getfield 63, 3) := by decide +kernel
theorem dX6_undo_4 : decode cX6_undo 4 = .ok (.ifCond .ne 13, 3) := by decide +kernel
theorem dX6_undo_7 : decode cX6_undo 7 = .ok (.new 86, 3) := by decide +kernel
theorem dX6_undo_10 : decode cX6_undo 10 = .ok (.dup, 1) := by decide +kernel
theorem dX6_undo_11 : decode cX6_undo 11 = .ok (.ldc 195, 2) := by decide +kernel
theorem dX6_undo_13 : decode cX6_undo 13 = .ok (.invokespecial 90, 3) := by decide +kernel
theorem dX6_undo_16 : decode cX6_undo 16 = .ok (.athrow, 1) := by decide +kernel
theorem dX6_undo_17 : decode cX6_undo 17 = .ok (.aload_n 0, 1) := by decide +kernel
theorem dX6_undo_18 : decode cX6_undo 18 = .ok (.dup, 1) := by decide +kernel
theorem dX6_undo_19 : decode cX6_undo 19 = .ok (.getfield 63, 3) := by decide +kernel
theorem dX6_undo_22 : decode cX6_undo 22 = .ok (.iconst 1, 1) := by decide +kernel
theorem dX6_undo_23 : decode cX6_undo 23 = .ok (.isub, 1) := by decide +kernel
theorem dX6_undo_24 : decode cX6_undo 24 = .ok (.putfield 63, 3) := by decide +kernel
theorem dX6_undo_27 : decode cX6_undo 27 = .ok (.aload_n 0, 1) := by decide +kernel
theorem dX6_undo_28 : decode cX6_undo 28 = .ok (.getfield 59, 3) := by decide +kernel
theorem dX6_undo_31 : decode cX6_undo 31 = .ok (.aload_n 0, 1) := by decide +kernel
theorem dX6_undo_32 : decode cX6_undo 32 = .ok (.getfield 63, 3) := by decide +kernel
theorem dX6_undo_35 : decode cX6_undo 35 = .ok (.aload_n 0, 1) := by decide +kernel
theorem dX6_undo_36 : decode cX6_undo 36 = .ok (.getfield 12, 3) := by decide +kernel
theorem dX6_undo_39 : decode cX6_undo 39 = .ok (.invokevirtual 189, 3) := by decide +kernel
theorem dX6_undo_42 : decode cX6_undo 42 = .ok (.aload_n 0, 1) := by decide +kernel
theorem dX6_undo_43 : decode cX6_undo 43 = .ok (.invokevirtual 192, 3) := by decide +kernel
theorem dX6_undo_46 : decode cX6_undo 46 = .ok (.aload_n 0, 1) := by decide +kernel
theorem dX6_undo_47 : decode cX6_undo 47 = .ok (.getfield 63, 3) := by decide +kernel
theorem dX6_undo_50 : decode cX6_undo 50 = .ok (.ireturn, 1) := by decide +kernel
theorem dX6_wordOf_0 : decode cX6_wordOf 0 = .ok (.aload_n 0, 1) := by decide +kernel
theorem dX6_wordOf_1 : decode cX6_wordOf 1 = .ok (.iload_n 1, 1) := by decide +kernel
theorem dX6_wordOf_2 : decode cX6_wordOf 2 = .ok (.invokevirtual 102, 3) := by decide +kernel
theorem dX6_wordOf_5 : decode cX6_wordOf 5 = .ok (.aload_n 0, 1) := by decide +kernel
theorem dX6_wordOf_6 : decode cX6_wordOf 6 = .ok (.iload_n 2, 1) := by decide +kernel
theorem dX6_wordOf_7 : decode cX6_wordOf 7 = .ok (.bipush 7, 2) := by decide +kernel
theorem dX6_wordOf_9 : decode cX6_wordOf 9 = .ok (.invokevirtual 197, 3) := by decide +kernel
theorem dX6_wordOf_12 : decode cX6_wordOf 12 = .ok (.aload_n 0, 1) := by decide +kernel
theorem dX6_wordOf_13 : decode cX6_wordOf 13 = .ok (.iload_n 1, 1) := by decide +kernel
theorem dX6_wordOf_14 : decode cX6_wordOf 14 = .ok (.iload_n 2, 1) := by decide +kernel
theorem dX6_wordOf_15 : decode cX6_wordOf 15 = .ok (.invokevirtual 200, 3) := by decide +kernel
theorem dX6_wordOf_18 : decode cX6_wordOf 18 = .ok (.ireturn, 1) := by decide +kernel
theorem dX6_readingOf_0 : decode cX6_readingOf 0 = .ok (.aload_n 0, 1) := by decide +kernel
theorem dX6_readingOf_1 : decode cX6_readingOf 1 = .ok (.iload_n 1, 1) := by decide +kernel
theorem dX6_readingOf_2 : decode cX6_readingOf 2 = .ok (.invokevirtual 127, 3) := by decide +kernel
theorem dX6_readingOf_5 : decode cX6_readingOf 5 = .ok (.aload_n 0, 1) := by decide +kernel
theorem dX6_readingOf_6 : decode cX6_readingOf 6 = .ok (.iload_n 2, 1) := by decide +kernel
theorem dX6_readingOf_7 : decode cX6_readingOf 7 = .ok (.iconst 5, 1) := by decide +kernel
theorem dX6_readingOf_8 : decode cX6_readingOf 8 = .ok (.invokevirtual 197, 3) := by decide +kernel
theorem dX6_readingOf_11 : decode cX6_readingOf 11 = .ok (.aload_n 0, 1) := by decide +kernel
theorem dX6_readingOf_12 : decode cX6_readingOf 12 = .ok (.iload_n 1, 1) := by decide +kernel
theorem dX6_readingOf_13 : decode cX6_readingOf 13 = .ok (.iload_n 2, 1) := by decide +kernel
theorem dX6_readingOf_14 : decode cX6_readingOf 14 = .ok (.invokevirtual 203, 3) := by decide +kernel
theorem dX6_readingOf_17 : decode cX6_readingOf 17 = .ok (.ireturn, 1) := by decide +kernel
theorem dX6_count_0 : decode cX6_count 0 = .ok (.aload_n 0, 1) := by decide +kernel
theorem dX6_count_1 : decode cX6_count 1 = .ok (.iload_n 1, 1) := by decide +kernel
theorem dX6_count_2 : decode cX6_count 2 = .ok (.bipush 8, 2) := by decide +kernel
theorem dX6_count_4 : decode cX6_count 4 = .ok (.invokevirtual 197, 3) := by decide +kernel
theorem dX6_count_7 : decode cX6_count 7 = .ok (.aload_n 0, 1) := by decide +kernel
theorem dX6_count_8 : decode cX6_count 8 = .ok (.iload_n 1, 1) := by decide +kernel
theorem dX6_count_9 : decode cX6_count 9 = .ok (.invokevirtual 206, 3) := by decide +kernel
theorem dX6_count_12 : decode cX6_count 12 = .ok (.ireturn, 1) := by decide +kernel
theorem dX6_ifFixed_0 : decode cX6_ifFixed 0 = .ok (.aload_n 0, 1) := by decide +kernel
theorem dX6_ifFixed_1 : decode cX6_ifFixed 1 = .ok (.iload_n 1, 1) := by decide +kernel
theorem dX6_ifFixed_2 : decode cX6_ifFixed 2 = .ok (.invokevirtual 102, 3) := by decide +kernel
theorem dX6_ifFixed_5 : decode cX6_ifFixed 5 = .ok (.aload_n 0, 1) := by decide +kernel
theorem dX6_ifFixed_6 : decode cX6_ifFixed 6 = .ok (.iload_n 1, 1) := by decide +kernel
theorem dX6_ifFixed_7 : decode cX6_ifFixed 7 = .ok (.iload_n 2, 1) := by decide +kernel
theorem dX6_ifFixed_8 : decode cX6_ifFixed 8 = .ok (.invokevirtual 112, 3) := by decide +kernel
theorem dX6_ifFixed_11 : decode cX6_ifFixed 11 = .ok (.aload_n 0, 1) := by decide +kernel
theorem dX6_ifFixed_12 : decode cX6_ifFixed 12 = .ok (.iload_n 1, 1) := by decide +kernel
theorem dX6_ifFixed_13 : decode cX6_ifFixed 13 = .ok (.iload_n 2, 1) := by decide +kernel
theorem dX6_ifFixed_14 : decode cX6_ifFixed 14 = .ok (.invokevirtual 115, 3) := by decide +kernel
theorem dX6_ifFixed_17 : decode cX6_ifFixed 17 = .ok (.ireturn, 1) := by decide +kernel
theorem dX6_question_0 : decode cX6_question 0 = .ok (.aload_n 0, 1) := by decide +kernel
theorem dX6_question_1 : decode cX6_question 1 = .ok (.invokevirtual 218, 3) := by decide +kernel
theorem dX6_question_4 : decode cX6_question 4 = .ok (.ireturn, 1) := by decide +kernel
theorem dX6_next_0 : decode cX6_next 0 = .ok (.aload_n 0, 1) := by decide +kernel
theorem dX6_next_1 : decode cX6_next 1 = .ok (.invokevirtual 221, 3) := by decide +kernel
theorem dX6_next_4 : decode cX6_next 4 = .ok (.ireturn, 1) := by decide +kernel
theorem dX6_sureShare_0 : decode cX6_sureShare 0 = .ok (.aload_n 0, 1) := by decide +kernel
theorem dX6_sureShare_1 : decode cX6_sureShare 1 = .ok (.invokevirtual 224, 3) := by decide +kernel
theorem dX6_sureShare_4 : decode cX6_sureShare 4 = .ok (.dreturn, 1) := by decide +kernel
theorem dX6_needKind_0 : decode cX6_needKind 0 = .ok (.iload_n 1, 1) := by decide +kernel
theorem dX6_needKind_1 : decode cX6_needKind 1 = .ok (.ifCond .lt 9, 3) := by decide +kernel
theorem dX6_needKind_4 : decode cX6_needKind 4 = .ok (.iload_n 1, 1) := by decide +kernel
theorem dX6_needKind_5 : decode cX6_needKind 5 = .ok (.bipush 7, 2) := by decide +kernel
theorem dX6_needKind_7 : decode cX6_needKind 7 = .ok (.if_icmp .lt 13, 3) := by decide +kernel
theorem dX6_needKind_10 : decode cX6_needKind 10 = .ok (.new 144, 3) := by decide +kernel
theorem dX6_needKind_13 : decode cX6_needKind 13 = .ok (.dup, 1) := by decide +kernel
theorem dX6_needKind_14 : decode cX6_needKind 14 = .ok (.ldc 246, 2) := by decide +kernel
theorem dX6_needKind_16 : decode cX6_needKind 16 = .ok (.invokespecial 148, 3) := by decide +kernel
theorem dX6_needKind_19 : decode cX6_needKind 19 = .ok (.athrow, 1) := by decide +kernel
theorem dX6_needKind_20 : decode cX6_needKind 20 = .ok (.return_, 1) := by decide +kernel
theorem dX6_needWord_0 : decode cX6_needWord 0 = .ok (.aload_n 0, 1) := by decide +kernel
theorem dX6_needWord_1 : decode cX6_needWord 1 = .ok (.getfield 12, 3) := by decide +kernel
theorem dX6_needWord_4 : decode cX6_needWord 4 = .ok (.iload_n 1, 1) := by decide +kernel
theorem dX6_needWord_5 : decode cX6_needWord 5 = .ok (.invokevirtual 248, 3) := by decide +kernel
theorem dX6_needWord_8 : decode cX6_needWord 8 = .ok (.ifCond .ne 13, 3) := by decide +kernel
theorem dX6_needWord_11 : decode cX6_needWord 11 = .ok (.new 209, 3) := by decide +kernel
theorem dX6_needWord_14 : decode cX6_needWord 14 = .ok (.dup, 1) := by decide +kernel
theorem dX6_needWord_15 : decode cX6_needWord 15 = .ok (.ldc 252, 2) := by decide +kernel
theorem dX6_needWord_17 : decode cX6_needWord 17 = .ok (.invokespecial 213, 3) := by decide +kernel
theorem dX6_needWord_20 : decode cX6_needWord 20 = .ok (.athrow, 1) := by decide +kernel
theorem dX6_needWord_21 : decode cX6_needWord 21 = .ok (.return_, 1) := by decide +kernel
theorem dX6_needHead_0 : decode cX6_needHead 0 = .ok (.iload_n 2, 1) := by decide +kernel
theorem dX6_needHead_1 : decode cX6_needHead 1 = .ok (.iload_n 1, 1) := by decide +kernel
theorem dX6_needHead_2 : decode cX6_needHead 2 = .ok (.if_icmp .eq 19, 3) := by decide +kernel
theorem dX6_needHead_5 : decode cX6_needHead 5 = .ok (.iload_n 2, 1) := by decide +kernel
theorem dX6_needHead_6 : decode cX6_needHead 6 = .ok (.iconst (-1), 1) := by decide +kernel
theorem dX6_needHead_7 : decode cX6_needHead 7 = .ok (.if_icmp .eq 24, 3) := by decide +kernel
theorem dX6_needHead_10 : decode cX6_needHead 10 = .ok (.aload_n 0, 1) := by decide +kernel
theorem dX6_needHead_11 : decode cX6_needHead 11 = .ok (.getfield 12, 3) := by decide +kernel
theorem dX6_needHead_14 : decode cX6_needHead 14 = .ok (.iload_n 2, 1) := by decide +kernel
theorem dX6_needHead_15 : decode cX6_needHead 15 = .ok (.invokevirtual 248, 3) := by decide +kernel
theorem dX6_needHead_18 : decode cX6_needHead 18 = .ok (.ifCond .ne 13, 3) := by decide +kernel
theorem dX6_needHead_21 : decode cX6_needHead 21 = .ok (.new 209, 3) := by decide +kernel
theorem dX6_needHead_24 : decode cX6_needHead 24 = .ok (.dup, 1) := by decide +kernel
theorem dX6_needHead_25 : decode cX6_needHead 25 = .ok (.ldc 254, 2) := by decide +kernel
theorem dX6_needHead_27 : decode cX6_needHead 27 = .ok (.invokespecial 213, 3) := by decide +kernel
theorem dX6_needHead_30 : decode cX6_needHead 30 = .ok (.athrow, 1) := by decide +kernel
theorem dX6_needHead_31 : decode cX6_needHead 31 = .ok (.return_, 1) := by decide +kernel
theorem dX6_needReading_0 : decode cX6_needReading 0 = .ok (.iload_n 1, 1) := by decide +kernel
theorem dX6_needReading_1 : decode cX6_needReading 1 = .ok (.ifCond .lt 11, 3) := by decide +kernel
theorem dX6_needReading_4 : decode cX6_needReading 4 = .ok (.iload_n 1, 1) := by decide +kernel
theorem dX6_needReading_5 : decode cX6_needReading 5 = .ok (.aload_n 0, 1) := by decide +kernel
theorem dX6_needReading_6 : decode cX6_needReading 6 = .ok (.getfield 34, 3) := by decide +kernel
theorem dX6_needReading_9 : decode cX6_needReading 9 = .ok (.if_icmp .lt 14, 3) := by decide +kernel
theorem dX6_needReading_12 : decode cX6_needReading 12 = .ok (.new 209, 3) := by decide +kernel
theorem dX6_needReading_15 : decode cX6_needReading 15 = .ok (.dup, 1) := by decide +kernel
theorem dX6_needReading_16 : decode cX6_needReading 16 = .ok (.ldc_w 256, 3) := by decide +kernel
theorem dX6_needReading_19 : decode cX6_needReading 19 = .ok (.invokespecial 213, 3) := by decide +kernel
theorem dX6_needReading_22 : decode cX6_needReading 22 = .ok (.athrow, 1) := by decide +kernel
theorem dX6_needReading_23 : decode cX6_needReading 23 = .ok (.return_, 1) := by decide +kernel
theorem dX6_needAsked_0 : decode cX6_needAsked 0 = .ok (.iload_n 1, 1) := by decide +kernel
theorem dX6_needAsked_1 : decode cX6_needAsked 1 = .ok (.ifCond .lt 8, 3) := by decide +kernel
theorem dX6_needAsked_4 : decode cX6_needAsked 4 = .ok (.iload_n 1, 1) := by decide +kernel
theorem dX6_needAsked_5 : decode cX6_needAsked 5 = .ok (.iload_n 2, 1) := by decide +kernel
theorem dX6_needAsked_6 : decode cX6_needAsked 6 = .ok (.if_icmp .le 14, 3) := by decide +kernel
theorem dX6_needAsked_9 : decode cX6_needAsked 9 = .ok (.new 144, 3) := by decide +kernel
theorem dX6_needAsked_12 : decode cX6_needAsked 12 = .ok (.dup, 1) := by decide +kernel
theorem dX6_needAsked_13 : decode cX6_needAsked 13 = .ok (.ldc_w 260, 3) := by decide +kernel
theorem dX6_needAsked_16 : decode cX6_needAsked 16 = .ok (.invokespecial 148, 3) := by decide +kernel
theorem dX6_needAsked_19 : decode cX6_needAsked 19 = .ok (.athrow, 1) := by decide +kernel
theorem dX6_needAsked_20 : decode cX6_needAsked 20 = .ok (.return_, 1) := by decide +kernel
theorem dX6_saveState_0 : decode cX6_saveState 0 = .ok (.aload_n 0, 1) := by decide +kernel
theorem dX6_saveState_1 : decode cX6_saveState 1 = .ok (.getfield 63, 3) := by decide +kernel
theorem dX6_saveState_4 : decode cX6_saveState 4 = .ok (.bipush 6, 2) := by decide +kernel
theorem dX6_saveState_6 : decode cX6_saveState 6 = .ok (.if_icmp .ne 20, 3) := by decide +kernel
theorem dX6_saveState_9 : decode cX6_saveState 9 = .ok (.aload_n 0, 1) := by decide +kernel
theorem dX6_saveState_10 : decode cX6_saveState 10 = .ok (.getfield 59, 3) := by decide +kernel
theorem dX6_saveState_13 : decode cX6_saveState 13 = .ok (.invokevirtual 262, 3) := by decide +kernel
theorem dX6_saveState_16 : decode cX6_saveState 16 = .ok (.aload_n 0, 1) := by decide +kernel
theorem dX6_saveState_17 : decode cX6_saveState 17 = .ok (.dup, 1) := by decide +kernel
theorem dX6_saveState_18 : decode cX6_saveState 18 = .ok (.getfield 63, 3) := by decide +kernel
theorem dX6_saveState_21 : decode cX6_saveState 21 = .ok (.iconst 1, 1) := by decide +kernel
theorem dX6_saveState_22 : decode cX6_saveState 22 = .ok (.isub, 1) := by decide +kernel
theorem dX6_saveState_23 : decode cX6_saveState 23 = .ok (.putfield 63, 3) := by decide +kernel
theorem dX6_saveState_26 : decode cX6_saveState 26 = .ok (.aload_n 0, 1) := by decide +kernel
theorem dX6_saveState_27 : decode cX6_saveState 27 = .ok (.getfield 59, 3) := by decide +kernel
theorem dX6_saveState_30 : decode cX6_saveState 30 = .ok (.aload_n 0, 1) := by decide +kernel
theorem dX6_saveState_31 : decode cX6_saveState 31 = .ok (.getfield 63, 3) := by decide +kernel
theorem dX6_saveState_34 : decode cX6_saveState 34 = .ok (.aload_n 0, 1) := by decide +kernel
theorem dX6_saveState_35 : decode cX6_saveState 35 = .ok (.getfield 12, 3) := by decide +kernel
theorem dX6_saveState_38 : decode cX6_saveState 38 = .ok (.invokevirtual 183, 3) := by decide +kernel
theorem dX6_saveState_41 : decode cX6_saveState 41 = .ok (.aload_n 0, 1) := by decide +kernel
theorem dX6_saveState_42 : decode cX6_saveState 42 = .ok (.dup, 1) := by decide +kernel
theorem dX6_saveState_43 : decode cX6_saveState 43 = .ok (.getfield 63, 3) := by decide +kernel
theorem dX6_saveState_46 : decode cX6_saveState 46 = .ok (.iconst 1, 1) := by decide +kernel
theorem dX6_saveState_47 : decode cX6_saveState 47 = .ok (.iadd, 1) := by decide +kernel
theorem dX6_saveState_48 : decode cX6_saveState 48 = .ok (.putfield 63, 3) := by decide +kernel
theorem dX6_saveState_51 : decode cX6_saveState 51 = .ok (.return_, 1) := by decide +kernel
theorem dX6_beginSentence_0 : decode cX6_beginSentence 0 = .ok (.aload_n 0, 1) := by decide +kernel
theorem dX6_beginSentence_1 : decode cX6_beginSentence 1 = .ok (.getfield 12, 3) := by decide +kernel
theorem dX6_beginSentence_4 : decode cX6_beginSentence 4 = .ok (.invokevirtual 265, 3) := by decide +kernel
theorem dX6_beginSentence_7 : decode cX6_beginSentence 7 = .ok (.aload_n 0, 1) := by decide +kernel
theorem dX6_beginSentence_8 : decode cX6_beginSentence 8 = .ok (.getfield 12, 3) := by decide +kernel
theorem dX6_beginSentence_11 : decode cX6_beginSentence 11 = .ok (.iconst 0, 1) := by decide +kernel
theorem dX6_beginSentence_12 : decode cX6_beginSentence 12 = .ok (.invokevirtual 130, 3) := by decide +kernel
theorem dX6_beginSentence_15 : decode cX6_beginSentence 15 = .ok (.aload_n 0, 1) := by decide +kernel
theorem dX6_beginSentence_16 : decode cX6_beginSentence 16 = .ok (.invokevirtual 192, 3) := by decide +kernel
theorem dX6_beginSentence_19 : decode cX6_beginSentence 19 = .ok (.aload_n 0, 1) := by decide +kernel
theorem dX6_beginSentence_20 : decode cX6_beginSentence 20 = .ok (.getfield 19, 3) := by decide +kernel
theorem dX6_beginSentence_23 : decode cX6_beginSentence 23 = .ok (.invokevirtual 268, 3) := by decide +kernel
theorem dX6_beginSentence_26 : decode cX6_beginSentence 26 = .ok (.ireturn, 1) := by decide +kernel
theorem dX6_beginHeads_0 : decode cX6_beginHeads 0 = .ok (.aload_n 0, 1) := by decide +kernel
theorem dX6_beginHeads_1 : decode cX6_beginHeads 1 = .ok (.getfield 12, 3) := by decide +kernel
theorem dX6_beginHeads_4 : decode cX6_beginHeads 4 = .ok (.iconst 0, 1) := by decide +kernel
theorem dX6_beginHeads_5 : decode cX6_beginHeads 5 = .ok (.invokevirtual 130, 3) := by decide +kernel
theorem dX6_beginHeads_8 : decode cX6_beginHeads 8 = .ok (.aload_n 0, 1) := by decide +kernel
theorem dX6_beginHeads_9 : decode cX6_beginHeads 9 = .ok (.invokevirtual 271, 3) := by decide +kernel
theorem dX6_beginHeads_12 : decode cX6_beginHeads 12 = .ok (.aload_n 0, 1) := by decide +kernel
theorem dX6_beginHeads_13 : decode cX6_beginHeads 13 = .ok (.invokevirtual 133, 3) := by decide +kernel
theorem dX6_beginHeads_16 : decode cX6_beginHeads 16 = .ok (.aload_n 0, 1) := by decide +kernel
theorem dX6_beginHeads_17 : decode cX6_beginHeads 17 = .ok (.getfield 34, 3) := by decide +kernel
theorem dX6_beginHeads_20 : decode cX6_beginHeads 20 = .ok (.ireturn, 1) := by decide +kernel
theorem dX6_tellReadings_0 : decode cX6_tellReadings 0 = .ok (.aload_n 0, 1) := by decide +kernel
theorem dX6_tellReadings_1 : decode cX6_tellReadings 1 = .ok (.getfield 19, 3) := by decide +kernel
theorem dX6_tellReadings_4 : decode cX6_tellReadings 4 = .ok (.aload_n 0, 1) := by decide +kernel
theorem dX6_tellReadings_5 : decode cX6_tellReadings 5 = .ok (.getfield 12, 3) := by decide +kernel
theorem dX6_tellReadings_8 : decode cX6_tellReadings 8 = .ok (.invokevirtual 274, 3) := by decide +kernel
theorem dX6_tellReadings_11 : decode cX6_tellReadings 11 = .ok (.aload_n 0, 1) := by decide +kernel
theorem dX6_tellReadings_12 : decode cX6_tellReadings 12 = .ok (.getfield 26, 3) := by decide +kernel
theorem dX6_tellReadings_15 : decode cX6_tellReadings 15 = .ok (.aload_n 0, 1) := by decide +kernel
theorem dX6_tellReadings_16 : decode cX6_tellReadings 16 = .ok (.getfield 12, 3) := by decide +kernel
theorem dX6_tellReadings_19 : decode cX6_tellReadings 19 = .ok (.invokevirtual 278, 3) := by decide +kernel
theorem dX6_tellReadings_22 : decode cX6_tellReadings 22 = .ok (.aload_n 0, 1) := by decide +kernel
theorem dX6_tellReadings_23 : decode cX6_tellReadings 23 = .ok (.invokevirtual 271, 3) := by decide +kernel
theorem dX6_tellReadings_26 : decode cX6_tellReadings 26 = .ok (.aload_n 0, 1) := by decide +kernel
theorem dX6_tellReadings_27 : decode cX6_tellReadings 27 = .ok (.invokevirtual 133, 3) := by decide +kernel
theorem dX6_tellReadings_30 : decode cX6_tellReadings 30 = .ok (.return_, 1) := by decide +kernel
theorem dX6_tellLeft_0 : decode cX6_tellLeft 0 = .ok (.aload_n 0, 1) := by decide +kernel
theorem dX6_tellLeft_1 : decode cX6_tellLeft 1 = .ok (.iconst 0, 1) := by decide +kernel
theorem dX6_tellLeft_2 : decode cX6_tellLeft 2 = .ok (.putfield 34, 3) := by decide +kernel
theorem dX6_tellLeft_5 : decode cX6_tellLeft 5 = .ok (.iconst 0, 1) := by decide +kernel
theorem dX6_tellLeft_6 : decode cX6_tellLeft 6 = .ok (.istore_n 1, 1) := by decide +kernel
theorem dX6_tellLeft_7 : decode cX6_tellLeft 7 = .ok (.iload_n 1, 1) := by decide +kernel
theorem dX6_tellLeft_8 : decode cX6_tellLeft 8 = .ok (.aload_n 0, 1) := by decide +kernel
theorem dX6_tellLeft_9 : decode cX6_tellLeft 9 = .ok (.getfield 19, 3) := by decide +kernel
theorem dX6_tellLeft_12 : decode cX6_tellLeft 12 = .ok (.invokevirtual 268, 3) := by decide +kernel
theorem dX6_tellLeft_15 : decode cX6_tellLeft 15 = .ok (.if_icmp .ge 57, 3) := by decide +kernel
theorem dX6_tellLeft_18 : decode cX6_tellLeft 18 = .ok (.aload_n 0, 1) := by decide +kernel
theorem dX6_tellLeft_19 : decode cX6_tellLeft 19 = .ok (.getfield 34, 3) := by decide +kernel
theorem dX6_tellLeft_22 : decode cX6_tellLeft 22 = .ok (.aload_n 0, 1) := by decide +kernel
theorem dX6_tellLeft_23 : decode cX6_tellLeft 23 = .ok (.getfield 30, 3) := by decide +kernel
theorem dX6_tellLeft_26 : decode cX6_tellLeft 26 = .ok (.arraylength, 1) := by decide +kernel
theorem dX6_tellLeft_27 : decode cX6_tellLeft 27 = .ok (.if_icmp .ge 39, 3) := by decide +kernel
theorem dX6_tellLeft_30 : decode cX6_tellLeft 30 = .ok (.aload_n 0, 1) := by decide +kernel
theorem dX6_tellLeft_31 : decode cX6_tellLeft 31 = .ok (.aload_n 0, 1) := by decide +kernel
theorem dX6_tellLeft_32 : decode cX6_tellLeft 32 = .ok (.getfield 19, 3) := by decide +kernel
theorem dX6_tellLeft_35 : decode cX6_tellLeft 35 = .ok (.iload_n 1, 1) := by decide +kernel
theorem dX6_tellLeft_36 : decode cX6_tellLeft 36 = .ok (.invokevirtual 279, 3) := by decide +kernel
theorem dX6_tellLeft_39 : decode cX6_tellLeft 39 = .ok (.iconst (-1), 1) := by decide +kernel
theorem dX6_tellLeft_40 : decode cX6_tellLeft 40 = .ok (.invokevirtual 282, 3) := by decide +kernel
theorem dX6_tellLeft_43 : decode cX6_tellLeft 43 = .ok (.ifCond .eq 23, 3) := by decide +kernel
theorem dX6_tellLeft_46 : decode cX6_tellLeft 46 = .ok (.aload_n 0, 1) := by decide +kernel
theorem dX6_tellLeft_47 : decode cX6_tellLeft 47 = .ok (.getfield 30, 3) := by decide +kernel
theorem dX6_tellLeft_50 : decode cX6_tellLeft 50 = .ok (.aload_n 0, 1) := by decide +kernel
theorem dX6_tellLeft_51 : decode cX6_tellLeft 51 = .ok (.getfield 34, 3) := by decide +kernel
theorem dX6_tellLeft_54 : decode cX6_tellLeft 54 = .ok (.iload_n 1, 1) := by decide +kernel
theorem dX6_tellLeft_55 : decode cX6_tellLeft 55 = .ok (.iastore, 1) := by decide +kernel
theorem dX6_tellLeft_56 : decode cX6_tellLeft 56 = .ok (.aload_n 0, 1) := by decide +kernel
theorem dX6_tellLeft_57 : decode cX6_tellLeft 57 = .ok (.dup, 1) := by decide +kernel
theorem dX6_tellLeft_58 : decode cX6_tellLeft 58 = .ok (.getfield 34, 3) := by decide +kernel
theorem dX6_tellLeft_61 : decode cX6_tellLeft 61 = .ok (.iconst 1, 1) := by decide +kernel
theorem dX6_tellLeft_62 : decode cX6_tellLeft 62 = .ok (.iadd, 1) := by decide +kernel
theorem dX6_tellLeft_63 : decode cX6_tellLeft 63 = .ok (.putfield 34, 3) := by decide +kernel
theorem dX6_tellLeft_66 : decode cX6_tellLeft 66 = .ok (.iinc 1 1, 3) := by decide +kernel
theorem dX6_tellLeft_69 : decode cX6_tellLeft 69 = .ok (.goto (-62), 3) := by decide +kernel
theorem dX6_tellLeft_72 : decode cX6_tellLeft 72 = .ok (.return_, 1) := by decide +kernel
theorem dX6_drawAgain_0 : decode cX6_drawAgain 0 = .ok (.aload_n 0, 1) := by decide +kernel
theorem dX6_drawAgain_1 : decode cX6_drawAgain 1 = .ok (.getfield 12, 3) := by decide +kernel
theorem dX6_drawAgain_4 : decode cX6_drawAgain 4 = .ok (.invokevirtual 286, 3) := by decide +kernel
theorem dX6_drawAgain_7 : decode cX6_drawAgain 7 = .ok (.aload_n 0, 1) := by decide +kernel
theorem dX6_drawAgain_8 : decode cX6_drawAgain 8 = .ok (.getfield 34, 3) := by decide +kernel
theorem dX6_drawAgain_11 : decode cX6_drawAgain 11 = .ok (.if_icmp .ge 25, 3) := by decide +kernel
theorem dX6_drawAgain_14 : decode cX6_drawAgain 14 = .ok (.aload_n 0, 1) := by decide +kernel
theorem dX6_drawAgain_15 : decode cX6_drawAgain 15 = .ok (.getfield 41, 3) := by decide +kernel
theorem dX6_drawAgain_18 : decode cX6_drawAgain 18 = .ok (.aload_n 0, 1) := by decide +kernel
theorem dX6_drawAgain_19 : decode cX6_drawAgain 19 = .ok (.getfield 12, 3) := by decide +kernel
theorem dX6_drawAgain_22 : decode cX6_drawAgain 22 = .ok (.aload_n 0, 1) := by decide +kernel
theorem dX6_drawAgain_23 : decode cX6_drawAgain 23 = .ok (.aload_n 0, 1) := by decide +kernel
theorem dX6_drawAgain_24 : decode cX6_drawAgain 24 = .ok (.getfield 12, 3) := by decide +kernel
theorem dX6_drawAgain_27 : decode cX6_drawAgain 27 = .ok (.invokevirtual 286, 3) := by decide +kernel
theorem dX6_drawAgain_30 : decode cX6_drawAgain 30 = .ok (.invokevirtual 288, 3) := by decide +kernel
theorem dX6_drawAgain_33 : decode cX6_drawAgain 33 = .ok (.invokevirtual 291, 3) := by decide +kernel
theorem dX6_drawAgain_36 : decode cX6_drawAgain 36 = .ok (.return_, 1) := by decide +kernel
theorem dX6_fits_0 : decode cX6_fits 0 = .ok (.iconst 0, 1) := by decide +kernel
theorem dX6_fits_1 : decode cX6_fits 1 = .ok (.istore 4, 2) := by decide +kernel
theorem dX6_fits_3 : decode cX6_fits 3 = .ok (.iload 4, 2) := by decide +kernel
theorem dX6_fits_5 : decode cX6_fits 5 = .ok (.aload_n 0, 1) := by decide +kernel
theorem dX6_fits_6 : decode cX6_fits 6 = .ok (.getfield 12, 3) := by decide +kernel
theorem dX6_fits_9 : decode cX6_fits 9 = .ok (.invokevirtual 82, 3) := by decide +kernel
theorem dX6_fits_12 : decode cX6_fits 12 = .ok (.if_icmp .ge 46, 3) := by decide +kernel
theorem dX6_fits_15 : decode cX6_fits 15 = .ok (.aload_n 0, 1) := by decide +kernel
theorem dX6_fits_16 : decode cX6_fits 16 = .ok (.getfield 12, 3) := by decide +kernel
theorem dX6_fits_19 : decode cX6_fits 19 = .ok (.iload 4, 2) := by decide +kernel
theorem dX6_fits_21 : decode cX6_fits 21 = .ok (.invokevirtual 295, 3) := by decide +kernel
theorem dX6_fits_24 : decode cX6_fits 24 = .ok (.istore 5, 2) := by decide +kernel
theorem dX6_fits_26 : decode cX6_fits 26 = .ok (.iload 4, 2) := by decide +kernel
theorem dX6_fits_28 : decode cX6_fits 28 = .ok (.iload_n 3, 1) := by decide +kernel
theorem dX6_fits_29 : decode cX6_fits 29 = .ok (.if_icmp .eq 23, 3) := by decide +kernel
theorem dX6_fits_32 : decode cX6_fits 32 = .ok (.iload 5, 2) := by decide +kernel
theorem dX6_fits_34 : decode cX6_fits 34 = .ok (.bipush (-2), 2) := by decide +kernel
theorem dX6_fits_36 : decode cX6_fits 36 = .ok (.if_icmp .eq 16, 3) := by decide +kernel
theorem dX6_fits_39 : decode cX6_fits 39 = .ok (.iload 5, 2) := by decide +kernel
theorem dX6_fits_41 : decode cX6_fits 41 = .ok (.lload_n 1, 1) := by decide +kernel
theorem dX6_fits_42 : decode cX6_fits 42 = .ok (.iload 4, 2) := by decide +kernel
theorem dX6_fits_44 : decode cX6_fits 44 = .ok (.invokestatic 298, 3) := by decide +kernel
theorem dX6_fits_47 : decode cX6_fits 47 = .ok (.if_icmp .eq 5, 3) := by decide +kernel
theorem dX6_fits_50 : decode cX6_fits 50 = .ok (.iconst 0, 1) := by decide +kernel
theorem dX6_fits_51 : decode cX6_fits 51 = .ok (.ireturn, 1) := by decide +kernel
theorem dX6_fits_52 : decode cX6_fits 52 = .ok (.iinc 4 1, 3) := by decide +kernel
theorem dX6_fits_55 : decode cX6_fits 55 = .ok (.goto (-52), 3) := by decide +kernel
theorem dX6_fits_58 : decode cX6_fits 58 = .ok (.iconst 1, 1) := by decide +kernel
theorem dX6_fits_59 : decode cX6_fits 59 = .ok (.ireturn, 1) := by decide +kernel
theorem dX6_rankAmongAll_0 : decode cX6_rankAmongAll 0 = .ok (.iload_n 1, 1) := by decide +kernel
theorem dX6_rankAmongAll_1 : decode cX6_rankAmongAll 1 = .ok (.ifCond .lt 29, 3) := by decide +kernel
theorem dX6_rankAmongAll_4 : decode cX6_rankAmongAll 4 = .ok (.iload_n 1, 1) := by decide +kernel
theorem dX6_rankAmongAll_5 : decode cX6_rankAmongAll 5 = .ok (.aload_n 0, 1) := by decide +kernel
theorem dX6_rankAmongAll_6 : decode cX6_rankAmongAll 6 = .ok (.getfield 34, 3) := by decide +kernel
theorem dX6_rankAmongAll_9 : decode cX6_rankAmongAll 9 = .ok (.if_icmp .ge 21, 3) := by decide +kernel
theorem dX6_rankAmongAll_12 : decode cX6_rankAmongAll 12 = .ok (.iload_n 1, 1) := by decide +kernel
theorem dX6_rankAmongAll_13 : decode cX6_rankAmongAll 13 = .ok (.aload_n 0, 1) := by decide +kernel
theorem dX6_rankAmongAll_14 : decode cX6_rankAmongAll 14 = .ok (.getfield 30, 3) := by decide +kernel
theorem dX6_rankAmongAll_17 : decode cX6_rankAmongAll 17 = .ok (.arraylength, 1) := by decide +kernel
theorem dX6_rankAmongAll_18 : decode cX6_rankAmongAll 18 = .ok (.if_icmp .ge 12, 3) := by decide +kernel
theorem dX6_rankAmongAll_21 : decode cX6_rankAmongAll 21 = .ok (.aload_n 0, 1) := by decide +kernel
theorem dX6_rankAmongAll_22 : decode cX6_rankAmongAll 22 = .ok (.getfield 30, 3) := by decide +kernel
theorem dX6_rankAmongAll_25 : decode cX6_rankAmongAll 25 = .ok (.iload_n 1, 1) := by decide +kernel
theorem dX6_rankAmongAll_26 : decode cX6_rankAmongAll 26 = .ok (.iaload, 1) := by decide +kernel
theorem dX6_rankAmongAll_27 : decode cX6_rankAmongAll 27 = .ok (.goto 4, 3) := by decide +kernel
theorem dX6_rankAmongAll_30 : decode cX6_rankAmongAll 30 = .ok (.iconst 0, 1) := by decide +kernel
theorem dX6_rankAmongAll_31 : decode cX6_rankAmongAll 31 = .ok (.ireturn, 1) := by decide +kernel
theorem dX6_leftCode_0 : decode cX6_leftCode 0 = .ok (.aload_n 0, 1) := by decide +kernel
theorem dX6_leftCode_1 : decode cX6_leftCode 1 = .ok (.getfield 19, 3) := by decide +kernel
theorem dX6_leftCode_4 : decode cX6_leftCode 4 = .ok (.aload_n 0, 1) := by decide +kernel
theorem dX6_leftCode_5 : decode cX6_leftCode 5 = .ok (.iload_n 1, 1) := by decide +kernel
theorem dX6_leftCode_6 : decode cX6_leftCode 6 = .ok (.invokevirtual 302, 3) := by decide +kernel
theorem dX6_leftCode_9 : decode cX6_leftCode 9 = .ok (.invokevirtual 279, 3) := by decide +kernel
theorem dX6_leftCode_12 : decode cX6_leftCode 12 = .ok (.lreturn, 1) := by decide +kernel
theorem dX6_flattestRank_0 : decode cX6_flattestRank 0 = .ok (.iconst 0, 1) := by decide +kernel
theorem dX6_flattestRank_1 : decode cX6_flattestRank 1 = .ok (.istore_n 1, 1) := by decide +kernel
theorem dX6_flattestRank_2 : decode cX6_flattestRank 2 = .ok (.bipush 13, 2) := by decide +kernel
theorem dX6_flattestRank_4 : decode cX6_flattestRank 4 = .ok (.istore_n 2, 1) := by decide +kernel
theorem dX6_flattestRank_5 : decode cX6_flattestRank 5 = .ok (.iconst 0, 1) := by decide +kernel
theorem dX6_flattestRank_6 : decode cX6_flattestRank 6 = .ok (.istore_n 3, 1) := by decide +kernel
theorem dX6_flattestRank_7 : decode cX6_flattestRank 7 = .ok (.iload_n 3, 1) := by decide +kernel
theorem dX6_flattestRank_8 : decode cX6_flattestRank 8 = .ok (.aload_n 0, 1) := by decide +kernel
theorem dX6_flattestRank_9 : decode cX6_flattestRank 9 = .ok (.getfield 34, 3) := by decide +kernel
theorem dX6_flattestRank_12 : decode cX6_flattestRank 12 = .ok (.if_icmp .ge 46, 3) := by decide +kernel
theorem dX6_flattestRank_15 : decode cX6_flattestRank 15 = .ok (.aload_n 0, 1) := by decide +kernel
theorem dX6_flattestRank_16 : decode cX6_flattestRank 16 = .ok (.getfield 45, 3) := by decide +kernel
theorem dX6_flattestRank_19 : decode cX6_flattestRank 19 = .ok (.aload_n 0, 1) := by decide +kernel
theorem dX6_flattestRank_20 : decode cX6_flattestRank 20 = .ok (.getfield 12, 3) := by decide +kernel
theorem dX6_flattestRank_23 : decode cX6_flattestRank 23 = .ok (.aload_n 0, 1) := by decide +kernel
theorem dX6_flattestRank_24 : decode cX6_flattestRank 24 = .ok (.iload_n 3, 1) := by decide +kernel
theorem dX6_flattestRank_25 : decode cX6_flattestRank 25 = .ok (.invokevirtual 288, 3) := by decide +kernel
theorem dX6_flattestRank_28 : decode cX6_flattestRank 28 = .ok (.invokevirtual 291, 3) := by decide +kernel
theorem dX6_flattestRank_31 : decode cX6_flattestRank 31 = .ok (.aload_n 0, 1) := by decide +kernel
theorem dX6_flattestRank_32 : decode cX6_flattestRank 32 = .ok (.getfield 45, 3) := by decide +kernel
theorem dX6_flattestRank_35 : decode cX6_flattestRank 35 = .ok (.invokevirtual 136, 3) := by decide +kernel
theorem dX6_flattestRank_38 : decode cX6_flattestRank 38 = .ok (.iload_n 2, 1) := by decide +kernel
theorem dX6_flattestRank_39 : decode cX6_flattestRank 39 = .ok (.if_icmp .ge 13, 3) := by decide +kernel
theorem dX6_flattestRank_42 : decode cX6_flattestRank 42 = .ok (.aload_n 0, 1) := by decide +kernel
theorem dX6_flattestRank_43 : decode cX6_flattestRank 43 = .ok (.getfield 45, 3) := by decide +kernel
theorem dX6_flattestRank_46 : decode cX6_flattestRank 46 = .ok (.invokevirtual 136, 3) := by decide +kernel
theorem dX6_flattestRank_49 : decode cX6_flattestRank 49 = .ok (.istore_n 2, 1) := by decide +kernel
theorem dX6_flattestRank_50 : decode cX6_flattestRank 50 = .ok (.iload_n 3, 1) := by decide +kernel
theorem dX6_flattestRank_51 : decode cX6_flattestRank 51 = .ok (.istore_n 1, 1) := by decide +kernel
theorem dX6_flattestRank_52 : decode cX6_flattestRank 52 = .ok (.iinc 3 1, 3) := by decide +kernel
theorem dX6_flattestRank_55 : decode cX6_flattestRank 55 = .ok (.goto (-48), 3) := by decide +kernel
theorem dX6_flattestRank_58 : decode cX6_flattestRank 58 = .ok (.iload_n 1, 1) := by decide +kernel
theorem dX6_flattestRank_59 : decode cX6_flattestRank 59 = .ok (.ireturn, 1) := by decide +kernel
theorem dX6_wordProperty_0 : decode cX6_wordProperty 0 = .ok (.iload_n 2, 1) := by decide +kernel
theorem dX6_wordProperty_1 : decode cX6_wordProperty 1 = .ok (.lookupswitch 69 #[(0, 35), (6, 44), (7, 63)], 35) := by decide +kernel
theorem dX6_wordProperty_36 : decode cX6_wordProperty 36 = .ok (.aload_n 0, 1) := by decide +kernel
theorem dX6_wordProperty_37 : decode cX6_wordProperty 37 = .ok (.getfield 12, 3) := by decide +kernel
theorem dX6_wordProperty_40 : decode cX6_wordProperty 40 = .ok (.iload_n 1, 1) := by decide +kernel
theorem dX6_wordProperty_41 : decode cX6_wordProperty 41 = .ok (.invokevirtual 174, 3) := by decide +kernel
theorem dX6_wordProperty_44 : decode cX6_wordProperty 44 = .ok (.ireturn, 1) := by decide +kernel
theorem dX6_wordProperty_45 : decode cX6_wordProperty 45 = .ok (.aload_n 0, 1) := by decide +kernel
theorem dX6_wordProperty_46 : decode cX6_wordProperty 46 = .ok (.getfield 12, 3) := by decide +kernel
theorem dX6_wordProperty_49 : decode cX6_wordProperty 49 = .ok (.iload_n 1, 1) := by decide +kernel
theorem dX6_wordProperty_50 : decode cX6_wordProperty 50 = .ok (.invokevirtual 295, 3) := by decide +kernel
theorem dX6_wordProperty_53 : decode cX6_wordProperty 53 = .ok (.bipush (-2), 2) := by decide +kernel
theorem dX6_wordProperty_55 : decode cX6_wordProperty 55 = .ok (.if_icmp .ne 7, 3) := by decide +kernel
theorem dX6_wordProperty_58 : decode cX6_wordProperty 58 = .ok (.iconst 0, 1) := by decide +kernel
theorem dX6_wordProperty_59 : decode cX6_wordProperty 59 = .ok (.goto 4, 3) := by decide +kernel
theorem dX6_wordProperty_62 : decode cX6_wordProperty 62 = .ok (.iconst 1, 1) := by decide +kernel
theorem dX6_wordProperty_63 : decode cX6_wordProperty 63 = .ok (.ireturn, 1) := by decide +kernel
theorem dX6_wordProperty_64 : decode cX6_wordProperty 64 = .ok (.aload_n 0, 1) := by decide +kernel
theorem dX6_wordProperty_65 : decode cX6_wordProperty 65 = .ok (.iload_n 1, 1) := by decide +kernel
theorem dX6_wordProperty_66 : decode cX6_wordProperty 66 = .ok (.invokevirtual 316, 3) := by decide +kernel
theorem dX6_wordProperty_69 : decode cX6_wordProperty 69 = .ok (.ireturn, 1) := by decide +kernel
theorem dX6_wordProperty_70 : decode cX6_wordProperty 70 = .ok (.aload_n 0, 1) := by decide +kernel
theorem dX6_wordProperty_71 : decode cX6_wordProperty 71 = .ok (.getfield 34, 3) := by decide +kernel
theorem dX6_wordProperty_74 : decode cX6_wordProperty 74 = .ok (.ifCond .ne 7, 3) := by decide +kernel
theorem dX6_wordProperty_77 : decode cX6_wordProperty 77 = .ok (.iconst (-1), 1) := by decide +kernel
theorem dX6_wordProperty_78 : decode cX6_wordProperty 78 = .ok (.goto 12, 3) := by decide +kernel
theorem dX6_wordProperty_81 : decode cX6_wordProperty 81 = .ok (.aload_n 0, 1) := by decide +kernel
theorem dX6_wordProperty_82 : decode cX6_wordProperty 82 = .ok (.getfield 41, 3) := by decide +kernel
theorem dX6_wordProperty_85 : decode cX6_wordProperty 85 = .ok (.iload_n 1, 1) := by decide +kernel
theorem dX6_wordProperty_86 : decode cX6_wordProperty 86 = .ok (.iload_n 2, 1) := by decide +kernel
theorem dX6_wordProperty_87 : decode cX6_wordProperty 87 = .ok (.invokevirtual 319, 3) := by decide +kernel
theorem dX6_wordProperty_90 : decode cX6_wordProperty 90 = .ok (.ireturn, 1) := by decide +kernel
theorem dX6_readingProperty_0 : decode cX6_readingProperty 0 = .ok (.aload_n 0, 1) := by decide +kernel
theorem dX6_readingProperty_1 : decode cX6_readingProperty 1 = .ok (.getfield 45, 3) := by decide +kernel
theorem dX6_readingProperty_4 : decode cX6_readingProperty 4 = .ok (.aload_n 0, 1) := by decide +kernel
theorem dX6_readingProperty_5 : decode cX6_readingProperty 5 = .ok (.getfield 12, 3) := by decide +kernel
theorem dX6_readingProperty_8 : decode cX6_readingProperty 8 = .ok (.aload_n 0, 1) := by decide +kernel
theorem dX6_readingProperty_9 : decode cX6_readingProperty 9 = .ok (.iload_n 1, 1) := by decide +kernel
theorem dX6_readingProperty_10 : decode cX6_readingProperty 10 = .ok (.invokevirtual 288, 3) := by decide +kernel
theorem dX6_readingProperty_13 : decode cX6_readingProperty 13 = .ok (.invokevirtual 291, 3) := by decide +kernel
theorem dX6_readingProperty_16 : decode cX6_readingProperty 16 = .ok (.iload_n 2, 1) := by decide +kernel
theorem dX6_readingProperty_17 : decode cX6_readingProperty 17 = .ok (.tableswitch 78 0 4 #[35, 43, 52, 61, 70], 35) := by decide +kernel
theorem dX6_readingProperty_52 : decode cX6_readingProperty 52 = .ok (.aload_n 0, 1) := by decide +kernel
theorem dX6_readingProperty_53 : decode cX6_readingProperty 53 = .ok (.getfield 45, 3) := by decide +kernel
theorem dX6_readingProperty_56 : decode cX6_readingProperty 56 = .ok (.invokevirtual 136, 3) := by decide +kernel
theorem dX6_readingProperty_59 : decode cX6_readingProperty 59 = .ok (.ireturn, 1) := by decide +kernel
theorem dX6_readingProperty_60 : decode cX6_readingProperty 60 = .ok (.aload_n 0, 1) := by decide +kernel
theorem dX6_readingProperty_61 : decode cX6_readingProperty 61 = .ok (.getfield 45, 3) := by decide +kernel
theorem dX6_readingProperty_64 : decode cX6_readingProperty 64 = .ok (.iconst 1, 1) := by decide +kernel
theorem dX6_readingProperty_65 : decode cX6_readingProperty 65 = .ok (.invokevirtual 322, 3) := by decide +kernel
theorem dX6_readingProperty_68 : decode cX6_readingProperty 68 = .ok (.ireturn, 1) := by decide +kernel
theorem dX6_readingProperty_69 : decode cX6_readingProperty 69 = .ok (.aload_n 0, 1) := by decide +kernel
theorem dX6_readingProperty_70 : decode cX6_readingProperty 70 = .ok (.getfield 45, 3) := by decide +kernel
theorem dX6_readingProperty_73 : decode cX6_readingProperty 73 = .ok (.iconst 3, 1) := by decide +kernel
theorem dX6_readingProperty_74 : decode cX6_readingProperty 74 = .ok (.invokevirtual 325, 3) := by decide +kernel
theorem dX6_readingProperty_77 : decode cX6_readingProperty 77 = .ok (.ireturn, 1) := by decide +kernel
theorem dX6_readingProperty_78 : decode cX6_readingProperty 78 = .ok (.aload_n 0, 1) := by decide +kernel
theorem dX6_readingProperty_79 : decode cX6_readingProperty 79 = .ok (.getfield 45, 3) := by decide +kernel
theorem dX6_readingProperty_82 : decode cX6_readingProperty 82 = .ok (.iconst 5, 1) := by decide +kernel
theorem dX6_readingProperty_83 : decode cX6_readingProperty 83 = .ok (.invokevirtual 322, 3) := by decide +kernel
theorem dX6_readingProperty_86 : decode cX6_readingProperty 86 = .ok (.ireturn, 1) := by decide +kernel
theorem dX6_readingProperty_87 : decode cX6_readingProperty 87 = .ok (.aload_n 0, 1) := by decide +kernel
theorem dX6_readingProperty_88 : decode cX6_readingProperty 88 = .ok (.getfield 45, 3) := by decide +kernel
theorem dX6_readingProperty_91 : decode cX6_readingProperty 91 = .ok (.invokevirtual 328, 3) := by decide +kernel
theorem dX6_readingProperty_94 : decode cX6_readingProperty 94 = .ok (.ireturn, 1) := by decide +kernel
theorem dX6_readingProperty_95 : decode cX6_readingProperty 95 = .ok (.aload_n 0, 1) := by decide +kernel
theorem dX6_readingProperty_96 : decode cX6_readingProperty 96 = .ok (.iload_n 1, 1) := by decide +kernel
theorem dX6_readingProperty_97 : decode cX6_readingProperty 97 = .ok (.invokevirtual 302, 3) := by decide +kernel
theorem dX6_readingProperty_100 : decode cX6_readingProperty 100 = .ok (.ireturn, 1) := by decide +kernel
theorem dX6_number_0 : decode cX6_number 0 = .ok (.iload_n 1, 1) := by decide +kernel
theorem dX6_number_1 : decode cX6_number 1 = .ok (.tableswitch 136 0 7 #[47, 55, 63, 80, 85, 104, 112, 117], 47) := by decide +kernel
theorem dX6_number_48 : decode cX6_number 48 = .ok (.aload_n 0, 1) := by decide +kernel
theorem dX6_number_49 : decode cX6_number 49 = .ok (.getfield 12, 3) := by decide +kernel
theorem dX6_number_52 : decode cX6_number 52 = .ok (.invokevirtual 82, 3) := by decide +kernel
theorem dX6_number_55 : decode cX6_number 55 = .ok (.ireturn, 1) := by decide +kernel
theorem dX6_number_56 : decode cX6_number 56 = .ok (.aload_n 0, 1) := by decide +kernel
theorem dX6_number_57 : decode cX6_number 57 = .ok (.getfield 19, 3) := by decide +kernel
theorem dX6_number_60 : decode cX6_number 60 = .ok (.invokevirtual 268, 3) := by decide +kernel
theorem dX6_number_63 : decode cX6_number 63 = .ok (.ireturn, 1) := by decide +kernel
theorem dX6_number_64 : decode cX6_number 64 = .ok (.aload_n 0, 1) := by decide +kernel
theorem dX6_number_65 : decode cX6_number 65 = .ok (.getfield 26, 3) := by decide +kernel
theorem dX6_number_68 : decode cX6_number 68 = .ok (.iconst 0, 1) := by decide +kernel
theorem dX6_number_69 : decode cX6_number 69 = .ok (.aload_n 0, 1) := by decide +kernel
theorem dX6_number_70 : decode cX6_number 70 = .ok (.getfield 12, 3) := by decide +kernel
theorem dX6_number_73 : decode cX6_number 73 = .ok (.invokevirtual 82, 3) := by decide +kernel
theorem dX6_number_76 : decode cX6_number 76 = .ok (.iconst 3, 1) := by decide +kernel
theorem dX6_number_77 : decode cX6_number 77 = .ok (.invokevirtual 214, 3) := by decide +kernel
theorem dX6_number_80 : decode cX6_number 80 = .ok (.ireturn, 1) := by decide +kernel
theorem dX6_number_81 : decode cX6_number 81 = .ok (.aload_n 0, 1) := by decide +kernel
theorem dX6_number_82 : decode cX6_number 82 = .ok (.getfield 34, 3) := by decide +kernel
theorem dX6_number_85 : decode cX6_number 85 = .ok (.ireturn, 1) := by decide +kernel
theorem dX6_number_86 : decode cX6_number 86 = .ok (.aload_n 0, 1) := by decide +kernel
theorem dX6_number_87 : decode cX6_number 87 = .ok (.getfield 34, 3) := by decide +kernel
theorem dX6_number_90 : decode cX6_number 90 = .ok (.ifCond .ne 7, 3) := by decide +kernel
theorem dX6_number_93 : decode cX6_number 93 = .ok (.iconst (-1), 1) := by decide +kernel
theorem dX6_number_94 : decode cX6_number 94 = .ok (.goto 10, 3) := by decide +kernel
theorem dX6_number_97 : decode cX6_number 97 = .ok (.aload_n 0, 1) := by decide +kernel
theorem dX6_number_98 : decode cX6_number 98 = .ok (.getfield 12, 3) := by decide +kernel
theorem dX6_number_101 : decode cX6_number 101 = .ok (.invokevirtual 286, 3) := by decide +kernel
theorem dX6_number_104 : decode cX6_number 104 = .ok (.ireturn, 1) := by decide +kernel
theorem dX6_number_105 : decode cX6_number 105 = .ok (.aload_n 0, 1) := by decide +kernel
theorem dX6_number_106 : decode cX6_number 106 = .ok (.getfield 12, 3) := by decide +kernel
theorem dX6_number_109 : decode cX6_number 109 = .ok (.invokevirtual 331, 3) := by decide +kernel
theorem dX6_number_112 : decode cX6_number 112 = .ok (.ireturn, 1) := by decide +kernel
theorem dX6_number_113 : decode cX6_number 113 = .ok (.aload_n 0, 1) := by decide +kernel
theorem dX6_number_114 : decode cX6_number 114 = .ok (.invokevirtual 334, 3) := by decide +kernel
theorem dX6_number_117 : decode cX6_number 117 = .ok (.ireturn, 1) := by decide +kernel
theorem dX6_number_118 : decode cX6_number 118 = .ok (.aload_n 0, 1) := by decide +kernel
theorem dX6_number_119 : decode cX6_number 119 = .ok (.getfield 34, 3) := by decide +kernel
theorem dX6_number_122 : decode cX6_number 122 = .ok (.ifCond .ne 7, 3) := by decide +kernel
theorem dX6_number_125 : decode cX6_number 125 = .ok (.iconst 0, 1) := by decide +kernel
theorem dX6_number_126 : decode cX6_number 126 = .ok (.goto 10, 3) := by decide +kernel
theorem dX6_number_129 : decode cX6_number 129 = .ok (.aload_n 0, 1) := by decide +kernel
theorem dX6_number_130 : decode cX6_number 130 = .ok (.getfield 41, 3) := by decide +kernel
theorem dX6_number_133 : decode cX6_number 133 = .ok (.invokevirtual 136, 3) := by decide +kernel
theorem dX6_number_136 : decode cX6_number 136 = .ok (.ireturn, 1) := by decide +kernel
theorem dX6_number_137 : decode cX6_number 137 = .ok (.aload_n 0, 1) := by decide +kernel
theorem dX6_number_138 : decode cX6_number 138 = .ok (.getfield 63, 3) := by decide +kernel
theorem dX6_number_141 : decode cX6_number 141 = .ok (.ireturn, 1) := by decide +kernel
theorem dX6_leftIf_0 : decode cX6_leftIf 0 = .ok (.iconst 0, 1) := by decide +kernel
theorem dX6_leftIf_1 : decode cX6_leftIf 1 = .ok (.istore_n 3, 1) := by decide +kernel
theorem dX6_leftIf_2 : decode cX6_leftIf 2 = .ok (.iconst 0, 1) := by decide +kernel
theorem dX6_leftIf_3 : decode cX6_leftIf 3 = .ok (.istore 4, 2) := by decide +kernel
theorem dX6_leftIf_5 : decode cX6_leftIf 5 = .ok (.iload 4, 2) := by decide +kernel
theorem dX6_leftIf_7 : decode cX6_leftIf 7 = .ok (.aload_n 0, 1) := by decide +kernel
theorem dX6_leftIf_8 : decode cX6_leftIf 8 = .ok (.getfield 19, 3) := by decide +kernel
theorem dX6_leftIf_11 : decode cX6_leftIf 11 = .ok (.invokevirtual 268, 3) := by decide +kernel
theorem dX6_leftIf_14 : decode cX6_leftIf 14 = .ok (.if_icmp .ge 43, 3) := by decide +kernel
theorem dX6_leftIf_17 : decode cX6_leftIf 17 = .ok (.aload_n 0, 1) := by decide +kernel
theorem dX6_leftIf_18 : decode cX6_leftIf 18 = .ok (.getfield 19, 3) := by decide +kernel
theorem dX6_leftIf_21 : decode cX6_leftIf 21 = .ok (.iload 4, 2) := by decide +kernel
theorem dX6_leftIf_23 : decode cX6_leftIf 23 = .ok (.invokevirtual 279, 3) := by decide +kernel
theorem dX6_leftIf_26 : decode cX6_leftIf 26 = .ok (.lstore 5, 2) := by decide +kernel
theorem dX6_leftIf_28 : decode cX6_leftIf 28 = .ok (.lload 5, 2) := by decide +kernel
theorem dX6_leftIf_30 : decode cX6_leftIf 30 = .ok (.iload_n 1, 1) := by decide +kernel
theorem dX6_leftIf_31 : decode cX6_leftIf 31 = .ok (.invokestatic 298, 3) := by decide +kernel
theorem dX6_leftIf_34 : decode cX6_leftIf 34 = .ok (.iload_n 2, 1) := by decide +kernel
theorem dX6_leftIf_35 : decode cX6_leftIf 35 = .ok (.if_icmp .ne 16, 3) := by decide +kernel
theorem dX6_leftIf_38 : decode cX6_leftIf 38 = .ok (.aload_n 0, 1) := by decide +kernel
theorem dX6_leftIf_39 : decode cX6_leftIf 39 = .ok (.lload 5, 2) := by decide +kernel
theorem dX6_leftIf_41 : decode cX6_leftIf 41 = .ok (.iload_n 1, 1) := by decide +kernel
theorem dX6_leftIf_42 : decode cX6_leftIf 42 = .ok (.invokevirtual 282, 3) := by decide +kernel
theorem dX6_leftIf_45 : decode cX6_leftIf 45 = .ok (.ifCond .eq 6, 3) := by decide +kernel
theorem dX6_leftIf_48 : decode cX6_leftIf 48 = .ok (.iinc 3 1, 3) := by decide +kernel
theorem dX6_leftIf_51 : decode cX6_leftIf 51 = .ok (.iinc 4 1, 3) := by decide +kernel
theorem dX6_leftIf_54 : decode cX6_leftIf 54 = .ok (.goto (-49), 3) := by decide +kernel
theorem dX6_leftIf_57 : decode cX6_leftIf 57 = .ok (.iload_n 3, 1) := by decide +kernel
theorem dX6_leftIf_58 : decode cX6_leftIf 58 = .ok (.ireturn, 1) := by decide +kernel
theorem dX6_headsLeft_0 : decode cX6_headsLeft 0 = .ok (.iconst 0, 1) := by decide +kernel
theorem dX6_headsLeft_1 : decode cX6_headsLeft 1 = .ok (.istore_n 2, 1) := by decide +kernel
theorem dX6_headsLeft_2 : decode cX6_headsLeft 2 = .ok (.iconst 0, 1) := by decide +kernel
theorem dX6_headsLeft_3 : decode cX6_headsLeft 3 = .ok (.istore_n 3, 1) := by decide +kernel
theorem dX6_headsLeft_4 : decode cX6_headsLeft 4 = .ok (.iload_n 3, 1) := by decide +kernel
theorem dX6_headsLeft_5 : decode cX6_headsLeft 5 = .ok (.aload_n 0, 1) := by decide +kernel
theorem dX6_headsLeft_6 : decode cX6_headsLeft 6 = .ok (.getfield 34, 3) := by decide +kernel
theorem dX6_headsLeft_9 : decode cX6_headsLeft 9 = .ok (.if_icmp .ge 25, 3) := by decide +kernel
theorem dX6_headsLeft_12 : decode cX6_headsLeft 12 = .ok (.iload_n 2, 1) := by decide +kernel
theorem dX6_headsLeft_13 : decode cX6_headsLeft 13 = .ok (.iconst 1, 1) := by decide +kernel
theorem dX6_headsLeft_14 : decode cX6_headsLeft 14 = .ok (.aload_n 0, 1) := by decide +kernel
theorem dX6_headsLeft_15 : decode cX6_headsLeft 15 = .ok (.iload_n 3, 1) := by decide +kernel
theorem dX6_headsLeft_16 : decode cX6_headsLeft 16 = .ok (.invokevirtual 288, 3) := by decide +kernel
theorem dX6_headsLeft_19 : decode cX6_headsLeft 19 = .ok (.iload_n 1, 1) := by decide +kernel
theorem dX6_headsLeft_20 : decode cX6_headsLeft 20 = .ok (.invokestatic 298, 3) := by decide +kernel
theorem dX6_headsLeft_23 : decode cX6_headsLeft 23 = .ok (.iconst 1, 1) := by decide +kernel
theorem dX6_headsLeft_24 : decode cX6_headsLeft 24 = .ok (.iadd, 1) := by decide +kernel
theorem dX6_headsLeft_25 : decode cX6_headsLeft 25 = .ok (.ishl, 1) := by decide +kernel
theorem dX6_headsLeft_26 : decode cX6_headsLeft 26 = .ok (.ior, 1) := by decide +kernel
theorem dX6_headsLeft_27 : decode cX6_headsLeft 27 = .ok (.istore_n 2, 1) := by decide +kernel
theorem dX6_headsLeft_28 : decode cX6_headsLeft 28 = .ok (.iinc 3 1, 3) := by decide +kernel
theorem dX6_headsLeft_31 : decode cX6_headsLeft 31 = .ok (.goto (-27), 3) := by decide +kernel
theorem dX6_headsLeft_34 : decode cX6_headsLeft 34 = .ok (.iload_n 2, 1) := by decide +kernel
theorem dX6_headsLeft_35 : decode cX6_headsLeft 35 = .ok (.invokestatic 337, 3) := by decide +kernel
theorem dX6_headsLeft_38 : decode cX6_headsLeft 38 = .ok (.ireturn, 1) := by decide +kernel
theorem dX6_openWords_0 : decode cX6_openWords 0 = .ok (.iconst 0, 1) := by decide +kernel
theorem dX6_openWords_1 : decode cX6_openWords 1 = .ok (.istore_n 1, 1) := by decide +kernel
theorem dX6_openWords_2 : decode cX6_openWords 2 = .ok (.iconst 0, 1) := by decide +kernel
theorem dX6_openWords_3 : decode cX6_openWords 3 = .ok (.istore_n 2, 1) := by decide +kernel
theorem dX6_openWords_4 : decode cX6_openWords 4 = .ok (.iload_n 2, 1) := by decide +kernel
theorem dX6_openWords_5 : decode cX6_openWords 5 = .ok (.aload_n 0, 1) := by decide +kernel
theorem dX6_openWords_6 : decode cX6_openWords 6 = .ok (.getfield 12, 3) := by decide +kernel
theorem dX6_openWords_9 : decode cX6_openWords 9 = .ok (.invokevirtual 82, 3) := by decide +kernel
theorem dX6_openWords_12 : decode cX6_openWords 12 = .ok (.if_icmp .ge 21, 3) := by decide +kernel
theorem dX6_openWords_15 : decode cX6_openWords 15 = .ok (.aload_n 0, 1) := by decide +kernel
theorem dX6_openWords_16 : decode cX6_openWords 16 = .ok (.iload_n 2, 1) := by decide +kernel
theorem dX6_openWords_17 : decode cX6_openWords 17 = .ok (.invokevirtual 316, 3) := by decide +kernel
theorem dX6_openWords_20 : decode cX6_openWords 20 = .ok (.iconst 1, 1) := by decide +kernel
theorem dX6_openWords_21 : decode cX6_openWords 21 = .ok (.if_icmp .le 6, 3) := by decide +kernel
theorem dX6_openWords_24 : decode cX6_openWords 24 = .ok (.iinc 1 1, 3) := by decide +kernel
theorem dX6_openWords_27 : decode cX6_openWords 27 = .ok (.iinc 2 1, 3) := by decide +kernel
theorem dX6_openWords_30 : decode cX6_openWords 30 = .ok (.goto (-26), 3) := by decide +kernel
theorem dX6_openWords_33 : decode cX6_openWords 33 = .ok (.iload_n 1, 1) := by decide +kernel
theorem dX6_openWords_34 : decode cX6_openWords 34 = .ok (.ireturn, 1) := by decide +kernel
theorem dX6_bestQuestion_0 : decode cX6_bestQuestion 0 = .ok (.iconst (-1), 1) := by decide +kernel
theorem dX6_bestQuestion_1 : decode cX6_bestQuestion 1 = .ok (.istore_n 1, 1) := by decide +kernel
theorem dX6_bestQuestion_2 : decode cX6_bestQuestion 2 = .ok (.bipush 43, 2) := by decide +kernel
theorem dX6_bestQuestion_4 : decode cX6_bestQuestion 4 = .ok (.istore_n 2, 1) := by decide +kernel
theorem dX6_bestQuestion_5 : decode cX6_bestQuestion 5 = .ok (.iconst 0, 1) := by decide +kernel
theorem dX6_bestQuestion_6 : decode cX6_bestQuestion 6 = .ok (.istore_n 3, 1) := by decide +kernel
theorem dX6_bestQuestion_7 : decode cX6_bestQuestion 7 = .ok (.iload_n 3, 1) := by decide +kernel
theorem dX6_bestQuestion_8 : decode cX6_bestQuestion 8 = .ok (.aload_n 0, 1) := by decide +kernel
theorem dX6_bestQuestion_9 : decode cX6_bestQuestion 9 = .ok (.getfield 12, 3) := by decide +kernel
theorem dX6_bestQuestion_12 : decode cX6_bestQuestion 12 = .ok (.invokevirtual 82, 3) := by decide +kernel
theorem dX6_bestQuestion_15 : decode cX6_bestQuestion 15 = .ok (.if_icmp .ge 35, 3) := by decide +kernel
theorem dX6_bestQuestion_18 : decode cX6_bestQuestion 18 = .ok (.aload_n 0, 1) := by decide +kernel
theorem dX6_bestQuestion_19 : decode cX6_bestQuestion 19 = .ok (.iload_n 3, 1) := by decide +kernel
theorem dX6_bestQuestion_20 : decode cX6_bestQuestion 20 = .ok (.invokevirtual 316, 3) := by decide +kernel
theorem dX6_bestQuestion_23 : decode cX6_bestQuestion 23 = .ok (.iconst 1, 1) := by decide +kernel
theorem dX6_bestQuestion_24 : decode cX6_bestQuestion 24 = .ok (.if_icmp .le 20, 3) := by decide +kernel
theorem dX6_bestQuestion_27 : decode cX6_bestQuestion 27 = .ok (.aload_n 0, 1) := by decide +kernel
theorem dX6_bestQuestion_28 : decode cX6_bestQuestion 28 = .ok (.iload_n 3, 1) := by decide +kernel
theorem dX6_bestQuestion_29 : decode cX6_bestQuestion 29 = .ok (.invokevirtual 342, 3) := by decide +kernel
theorem dX6_bestQuestion_32 : decode cX6_bestQuestion 32 = .ok (.iload_n 2, 1) := by decide +kernel
theorem dX6_bestQuestion_33 : decode cX6_bestQuestion 33 = .ok (.if_icmp .ge 11, 3) := by decide +kernel
theorem dX6_bestQuestion_36 : decode cX6_bestQuestion 36 = .ok (.aload_n 0, 1) := by decide +kernel
theorem dX6_bestQuestion_37 : decode cX6_bestQuestion 37 = .ok (.iload_n 3, 1) := by decide +kernel
theorem dX6_bestQuestion_38 : decode cX6_bestQuestion 38 = .ok (.invokevirtual 342, 3) := by decide +kernel
theorem dX6_bestQuestion_41 : decode cX6_bestQuestion 41 = .ok (.istore_n 2, 1) := by decide +kernel
theorem dX6_bestQuestion_42 : decode cX6_bestQuestion 42 = .ok (.iload_n 3, 1) := by decide +kernel
theorem dX6_bestQuestion_43 : decode cX6_bestQuestion 43 = .ok (.istore_n 1, 1) := by decide +kernel
theorem dX6_bestQuestion_44 : decode cX6_bestQuestion 44 = .ok (.iinc 3 1, 3) := by decide +kernel
theorem dX6_bestQuestion_47 : decode cX6_bestQuestion 47 = .ok (.goto (-40), 3) := by decide +kernel
theorem dX6_bestQuestion_50 : decode cX6_bestQuestion 50 = .ok (.iload_n 1, 1) := by decide +kernel
theorem dX6_bestQuestion_51 : decode cX6_bestQuestion 51 = .ok (.ireturn, 1) := by decide +kernel
theorem dX6_mostLeftBehind_0 : decode cX6_mostLeftBehind 0 = .ok (.iconst 0, 1) := by decide +kernel
theorem dX6_mostLeftBehind_1 : decode cX6_mostLeftBehind 1 = .ok (.istore_n 2, 1) := by decide +kernel
theorem dX6_mostLeftBehind_2 : decode cX6_mostLeftBehind 2 = .ok (.iconst (-1), 1) := by decide +kernel
theorem dX6_mostLeftBehind_3 : decode cX6_mostLeftBehind 3 = .ok (.istore_n 3, 1) := by decide +kernel
theorem dX6_mostLeftBehind_4 : decode cX6_mostLeftBehind 4 = .ok (.iload_n 3, 1) := by decide +kernel
theorem dX6_mostLeftBehind_5 : decode cX6_mostLeftBehind 5 = .ok (.aload_n 0, 1) := by decide +kernel
theorem dX6_mostLeftBehind_6 : decode cX6_mostLeftBehind 6 = .ok (.getfield 12, 3) := by decide +kernel
theorem dX6_mostLeftBehind_9 : decode cX6_mostLeftBehind 9 = .ok (.invokevirtual 82, 3) := by decide +kernel
theorem dX6_mostLeftBehind_12 : decode cX6_mostLeftBehind 12 = .ok (.if_icmp .ge 20, 3) := by decide +kernel
theorem dX6_mostLeftBehind_15 : decode cX6_mostLeftBehind 15 = .ok (.iload_n 2, 1) := by decide +kernel
theorem dX6_mostLeftBehind_16 : decode cX6_mostLeftBehind 16 = .ok (.aload_n 0, 1) := by decide +kernel
theorem dX6_mostLeftBehind_17 : decode cX6_mostLeftBehind 17 = .ok (.iload_n 1, 1) := by decide +kernel
theorem dX6_mostLeftBehind_18 : decode cX6_mostLeftBehind 18 = .ok (.iload_n 3, 1) := by decide +kernel
theorem dX6_mostLeftBehind_19 : decode cX6_mostLeftBehind 19 = .ok (.invokevirtual 115, 3) := by decide +kernel
theorem dX6_mostLeftBehind_22 : decode cX6_mostLeftBehind 22 = .ok (.invokestatic 345, 3) := by decide +kernel
theorem dX6_mostLeftBehind_25 : decode cX6_mostLeftBehind 25 = .ok (.istore_n 2, 1) := by decide +kernel
theorem dX6_mostLeftBehind_26 : decode cX6_mostLeftBehind 26 = .ok (.iinc 3 1, 3) := by decide +kernel
theorem dX6_mostLeftBehind_29 : decode cX6_mostLeftBehind 29 = .ok (.goto (-25), 3) := by decide +kernel
theorem dX6_mostLeftBehind_32 : decode cX6_mostLeftBehind 32 = .ok (.iload_n 2, 1) := by decide +kernel
theorem dX6_mostLeftBehind_33 : decode cX6_mostLeftBehind 33 = .ok (.ireturn, 1) := by decide +kernel
theorem dX6_share_0 : decode cX6_share 0 = .ok (.aload_n 0, 1) := by decide +kernel
theorem dX6_share_1 : decode cX6_share 1 = .ok (.getfield 12, 3) := by decide +kernel
theorem dX6_share_4 : decode cX6_share 4 = .ok (.invokevirtual 82, 3) := by decide +kernel
theorem dX6_share_7 : decode cX6_share 7 = .ok (.istore_n 1, 1) := by decide +kernel
theorem dX6_share_8 : decode cX6_share 8 = .ok (.iload_n 1, 1) := by decide +kernel
theorem dX6_share_9 : decode cX6_share 9 = .ok (.ifCond .ne 5, 3) := by decide +kernel
theorem dX6_share_12 : decode cX6_share 12 = .ok (.dconst 1, 1) := by decide +kernel
theorem dX6_share_13 : decode cX6_share 13 = .ok (.dreturn, 1) := by decide +kernel
theorem dX6_share_14 : decode cX6_share 14 = .ok (.iconst 0, 1) := by decide +kernel
theorem dX6_share_15 : decode cX6_share 15 = .ok (.istore_n 2, 1) := by decide +kernel
theorem dX6_share_16 : decode cX6_share 16 = .ok (.iconst 0, 1) := by decide +kernel
theorem dX6_share_17 : decode cX6_share 17 = .ok (.istore_n 3, 1) := by decide +kernel
theorem dX6_share_18 : decode cX6_share 18 = .ok (.iload_n 3, 1) := by decide +kernel
theorem dX6_share_19 : decode cX6_share 19 = .ok (.iload_n 1, 1) := by decide +kernel
theorem dX6_share_20 : decode cX6_share 20 = .ok (.if_icmp .ge 21, 3) := by decide +kernel
theorem dX6_share_23 : decode cX6_share 23 = .ok (.aload_n 0, 1) := by decide +kernel
theorem dX6_share_24 : decode cX6_share 24 = .ok (.iload_n 3, 1) := by decide +kernel
theorem dX6_share_25 : decode cX6_share 25 = .ok (.invokevirtual 316, 3) := by decide +kernel
theorem dX6_share_28 : decode cX6_share 28 = .ok (.iconst 1, 1) := by decide +kernel
theorem dX6_share_29 : decode cX6_share 29 = .ok (.if_icmp .ne 6, 3) := by decide +kernel
theorem dX6_share_32 : decode cX6_share 32 = .ok (.iinc 2 1, 3) := by decide +kernel
theorem dX6_share_35 : decode cX6_share 35 = .ok (.iinc 3 1, 3) := by decide +kernel
theorem dX6_share_38 : decode cX6_share 38 = .ok (.goto (-20), 3) := by decide +kernel
theorem dX6_share_41 : decode cX6_share 41 = .ok (.iload_n 2, 1) := by decide +kernel
theorem dX6_share_42 : decode cX6_share 42 = .ok (.i2d, 1) := by decide +kernel
theorem dX6_share_43 : decode cX6_share 43 = .ok (.iload_n 1, 1) := by decide +kernel
theorem dX6_share_44 : decode cX6_share 44 = .ok (.i2d, 1) := by decide +kernel
theorem dX6_share_45 : decode cX6_share 45 = .ok (.ddiv, 1) := by decide +kernel
theorem dX6_share_46 : decode cX6_share 46 = .ok (.dreturn, 1) := by decide +kernel
theorem dX6_kindsToAdd_0 : decode cX6_kindsToAdd 0 = .ok (.aload_n 0, 1) := by decide +kernel
theorem dX6_kindsToAdd_1 : decode cX6_kindsToAdd 1 = .ok (.getfield 12, 3) := by decide +kernel
theorem dX6_kindsToAdd_4 : decode cX6_kindsToAdd 4 = .ok (.invokevirtual 82, 3) := by decide +kernel
theorem dX6_kindsToAdd_7 : decode cX6_kindsToAdd 7 = .ok (.bipush 12, 2) := by decide +kernel
theorem dX6_kindsToAdd_9 : decode cX6_kindsToAdd 9 = .ok (.if_icmp .lt 5, 3) := by decide +kernel
theorem dX6_kindsToAdd_12 : decode cX6_kindsToAdd 12 = .ok (.iconst 0, 1) := by decide +kernel
theorem dX6_kindsToAdd_13 : decode cX6_kindsToAdd 13 = .ok (.ireturn, 1) := by decide +kernel
theorem dX6_kindsToAdd_14 : decode cX6_kindsToAdd 14 = .ok (.iconst 0, 1) := by decide +kernel
theorem dX6_kindsToAdd_15 : decode cX6_kindsToAdd 15 = .ok (.istore_n 1, 1) := by decide +kernel
theorem dX6_kindsToAdd_16 : decode cX6_kindsToAdd 16 = .ok (.iconst 0, 1) := by decide +kernel
theorem dX6_kindsToAdd_17 : decode cX6_kindsToAdd 17 = .ok (.istore_n 2, 1) := by decide +kernel
theorem dX6_kindsToAdd_18 : decode cX6_kindsToAdd 18 = .ok (.iload_n 2, 1) := by decide +kernel
theorem dX6_kindsToAdd_19 : decode cX6_kindsToAdd 19 = .ok (.bipush 7, 2) := by decide +kernel
theorem dX6_kindsToAdd_21 : decode cX6_kindsToAdd 21 = .ok (.if_icmp .ge 55, 3) := by decide +kernel
theorem dX6_kindsToAdd_24 : decode cX6_kindsToAdd 24 = .ok (.aload_n 0, 1) := by decide +kernel
theorem dX6_kindsToAdd_25 : decode cX6_kindsToAdd 25 = .ok (.getfield 48, 3) := by decide +kernel
theorem dX6_kindsToAdd_28 : decode cX6_kindsToAdd 28 = .ok (.aload_n 0, 1) := by decide +kernel
theorem dX6_kindsToAdd_29 : decode cX6_kindsToAdd 29 = .ok (.getfield 12, 3) := by decide +kernel
theorem dX6_kindsToAdd_32 : decode cX6_kindsToAdd 32 = .ok (.invokevirtual 350, 3) := by decide +kernel
theorem dX6_kindsToAdd_35 : decode cX6_kindsToAdd 35 = .ok (.aload_n 0, 1) := by decide +kernel
theorem dX6_kindsToAdd_36 : decode cX6_kindsToAdd 36 = .ok (.getfield 48, 3) := by decide +kernel
theorem dX6_kindsToAdd_39 : decode cX6_kindsToAdd 39 = .ok (.iload_n 2, 1) := by decide +kernel
theorem dX6_kindsToAdd_40 : decode cX6_kindsToAdd 40 = .ok (.invokevirtual 96, 3) := by decide +kernel
theorem dX6_kindsToAdd_43 : decode cX6_kindsToAdd 43 = .ok (.aload_n 0, 1) := by decide +kernel
theorem dX6_kindsToAdd_44 : decode cX6_kindsToAdd 44 = .ok (.getfield 51, 3) := by decide +kernel
theorem dX6_kindsToAdd_47 : decode cX6_kindsToAdd 47 = .ok (.aload_n 0, 1) := by decide +kernel
theorem dX6_kindsToAdd_48 : decode cX6_kindsToAdd 48 = .ok (.getfield 48, 3) := by decide +kernel
theorem dX6_kindsToAdd_51 : decode cX6_kindsToAdd 51 = .ok (.invokevirtual 274, 3) := by decide +kernel
theorem dX6_kindsToAdd_54 : decode cX6_kindsToAdd 54 = .ok (.aload_n 0, 1) := by decide +kernel
theorem dX6_kindsToAdd_55 : decode cX6_kindsToAdd 55 = .ok (.getfield 51, 3) := by decide +kernel
theorem dX6_kindsToAdd_58 : decode cX6_kindsToAdd 58 = .ok (.invokevirtual 268, 3) := by decide +kernel
theorem dX6_kindsToAdd_61 : decode cX6_kindsToAdd 61 = .ok (.ifCond .le 9, 3) := by decide +kernel
theorem dX6_kindsToAdd_64 : decode cX6_kindsToAdd 64 = .ok (.iload_n 1, 1) := by decide +kernel
theorem dX6_kindsToAdd_65 : decode cX6_kindsToAdd 65 = .ok (.iconst 1, 1) := by decide +kernel
theorem dX6_kindsToAdd_66 : decode cX6_kindsToAdd 66 = .ok (.iload_n 2, 1) := by decide +kernel
theorem dX6_kindsToAdd_67 : decode cX6_kindsToAdd 67 = .ok (.ishl, 1) := by decide +kernel
theorem dX6_kindsToAdd_68 : decode cX6_kindsToAdd 68 = .ok (.ior, 1) := by decide +kernel
theorem dX6_kindsToAdd_69 : decode cX6_kindsToAdd 69 = .ok (.istore_n 1, 1) := by decide +kernel
theorem dX6_kindsToAdd_70 : decode cX6_kindsToAdd 70 = .ok (.iinc 2 1, 3) := by decide +kernel
theorem dX6_kindsToAdd_73 : decode cX6_kindsToAdd 73 = .ok (.goto (-55), 3) := by decide +kernel
theorem dX6_kindsToAdd_76 : decode cX6_kindsToAdd 76 = .ok (.iload_n 1, 1) := by decide +kernel
theorem dX6_kindsToAdd_77 : decode cX6_kindsToAdd 77 = .ok (.ireturn, 1) := by decide +kernel
