theorem dX10_lend_122 : decode cX10_lend 122 = .ok (.iconst 1, 1) := by decide +kernel
theorem dX10_lend_123 : decode cX10_lend 123 = .ok (.iload 4, 2) := by decide +kernel
theorem dX10_lend_125 : decode cX10_lend 125 = .ok (.ishl, 1) := by decide +kernel
theorem dX10_lend_126 : decode cX10_lend 126 = .ok (.goto 4, 3) := by decide +kernel
theorem dX10_lend_129 : decode cX10_lend 129 = .ok (.iconst 0, 1) := by decide +kernel
theorem dX10_lend_130 : decode cX10_lend 130 = .ok (.ior, 1) := by decide +kernel
theorem dX10_lend_131 : decode cX10_lend 131 = .ok (.istore_n 3, 1) := by decide +kernel
theorem dX10_lend_132 : decode cX10_lend 132 = .ok (.iinc 4 1, 3) := by decide +kernel
theorem dX10_lend_135 : decode cX10_lend 135 = .ok (.goto (-40), 3) := by decide +kernel
theorem dX10_lend_138 : decode cX10_lend 138 = .ok (.iload_n 3, 1) := by decide +kernel
theorem dX10_lend_139 : decode cX10_lend 139 = .ok (.ireturn, 1) := by decide +kernel
theorem dX10_draw_0 : decode cX10_draw 0 = .ok (.aload_n 0, 1) := by decide +kernel
theorem dX10_draw_1 : decode cX10_draw 1 = .ok (.aload_n 0, 1) := by decide +kernel
theorem dX10_draw_2 : decode cX10_draw 2 = .ok (.getfield 211, 3) := by decide +kernel
theorem dX10_draw_5 : decode cX10_draw 5 = .ok (.i2l, 1) := by decide +kernel
theorem dX10_draw_6 : decode cX10_draw 6 = .ok (.ldc2_w 214, 3) := by decide +kernel
theorem dX10_draw_9 : decode cX10_draw 9 = .ok (.lmul, 1) := by decide +kernel
theorem dX10_draw_10 : decode cX10_draw 10 = .ok (.ldc2_w 216, 3) := by decide +kernel
theorem dX10_draw_13 : decode cX10_draw 13 = .ok (.ladd, 1) := by decide +kernel
theorem dX10_draw_14 : decode cX10_draw 14 = .ok (.ldc2_w 218, 3) := by decide +kernel
theorem dX10_draw_17 : decode cX10_draw 17 = .ok (.land, 1) := by decide +kernel
theorem dX10_draw_18 : decode cX10_draw 18 = .ok (.l2i, 1) := by decide +kernel
theorem dX10_draw_19 : decode cX10_draw 19 = .ok (.putfield 211, 3) := by decide +kernel
theorem dX10_draw_22 : decode cX10_draw 22 = .ok (.aload_n 0, 1) := by decide +kernel
theorem dX10_draw_23 : decode cX10_draw 23 = .ok (.getfield 211, 3) := by decide +kernel
theorem dX10_draw_26 : decode cX10_draw 26 = .ok (.ldc 220, 2) := by decide +kernel
theorem dX10_draw_28 : decode cX10_draw 28 = .ok (.idiv, 1) := by decide +kernel
theorem dX10_draw_29 : decode cX10_draw 29 = .ok (.iload_n 1, 1) := by decide +kernel
theorem dX10_draw_30 : decode cX10_draw 30 = .ok (.irem, 1) := by decide +kernel
theorem dX10_draw_31 : decode cX10_draw 31 = .ok (.ireturn, 1) := by decide +kernel
set_option maxRecDepth 20000 in
theorem ggX10_drift_X10_barred : GoodIn wsX10_drift wsX10_barred := goodIn_r _ [7, 8, 9, 2, 10, 11, 12, 6, 13, 14, 15, 16, 17, 1, 54, 55, 56, 57, 58, 59, 60, 61, 62, 63, 64, 65, 66, 67, 68, 69, 70, 71, 72, 73, 74, 75, 76, 77, 78, 79, 80, 81, 82, 83] (by decide +kernel) (by decide +kernel)
set_option maxRecDepth 20000 in
theorem gX10_drift_X10_barred : GoodIn wsX10_drift (wsV RX10 202 RX10 yX10_barred wsX10_barred) := goodIn_app (goodIn_of _ (by decide +kernel)) ggX10_drift_X10_barred
set_option maxRecDepth 20000 in
theorem ggX10_drift_X10_notes : GoodIn wsX10_drift wsX10_notes := goodIn_r _ [21, 22, 23, 2, 24, 25, 6, 26, 54, 55, 56, 57, 58, 59, 60, 61, 62, 63, 64, 65, 66, 67, 68, 69, 70, 71, 72, 73, 74, 75, 76, 77, 78, 79, 80, 81, 82, 83] (by decide +kernel) (by decide +kernel)
set_option maxRecDepth 20000 in
theorem gX10_drift_X10_notes : GoodIn wsX10_drift (wsV RX10 205 RX10 yX10_notes wsX10_notes) := goodIn_app (goodIn_of _ (by decide +kernel)) ggX10_drift_X10_notes
set_option maxRecDepth 20000 in
theorem ggX10_drift_X10_draw : GoodIn wsX10_drift wsX10_draw := goodIn_r _ [30, 31, 32, 33, 34, 35, 54, 55, 56, 57, 58, 59, 60, 61, 62, 63, 64, 65, 66, 67, 68, 69, 70, 71, 72, 73, 74, 75, 76, 77, 78, 79, 80, 81, 82, 83] (by decide +kernel) (by decide +kernel)
set_option maxRecDepth 20000 in
theorem gX10_drift_X10_draw : GoodIn wsX10_drift (wsV RX10 221 RX10 yX10_draw wsX10_draw) := goodIn_app (goodIn_of _ (by decide +kernel)) ggX10_drift_X10_draw
set_option maxRecDepth 20000 in
theorem ggX10_drift_X10_passes : GoodIn wsX10_drift wsX10_passes := goodIn_r _ [39, 1, 40, 41, 42, 43, 6, 44, 45, 46, 47, 48, 49, 50, 51, 52, 53, 54, 55, 56, 57, 58, 59, 60, 61, 62, 63, 64, 65, 66, 67, 68, 69, 70, 71, 72, 73, 74, 75, 76, 77, 78, 79, 80, 81, 82, 83] (by decide +kernel) (by decide +kernel)
set_option maxRecDepth 20000 in
theorem gX10_drift_X10_passes : GoodIn wsX10_drift (wsV RX10 198 RX10 yX10_passes wsX10_passes) := goodIn_app (goodIn_of _ (by decide +kernel)) ggX10_drift_X10_passes
theorem dX10_drift_0 : decode cX10_drift 0 = .ok (.aload_n 0, 1) := by decide +kernel
theorem dX10_drift_1 : decode cX10_drift 1 = .ok (.iload_n 1, 1) := by decide +kernel
theorem dX10_drift_2 : decode cX10_drift 2 = .ok (.invokevirtual 202, 3) := by decide +kernel
theorem dX10_drift_5 : decode cX10_drift 5 = .ok (.istore_n 2, 1) := by decide +kernel
theorem dX10_drift_6 : decode cX10_drift 6 = .ok (.iload_n 2, 1) := by decide +kernel
theorem dX10_drift_7 : decode cX10_drift 7 = .ok (.ifCond .eq 5, 3) := by decide +kernel
theorem dX10_drift_10 : decode cX10_drift 10 = .ok (.iload_n 2, 1) := by decide +kernel
theorem dX10_drift_11 : decode cX10_drift 11 = .ok (.ireturn, 1) := by decide +kernel
theorem dX10_drift_12 : decode cX10_drift 12 = .ok (.aload_n 0, 1) := by decide +kernel
theorem dX10_drift_13 : decode cX10_drift 13 = .ok (.invokevirtual 205, 3) := by decide +kernel
theorem dX10_drift_16 : decode cX10_drift 16 = .ok (.iconst 0, 1) := by decide +kernel
theorem dX10_drift_17 : decode cX10_drift 17 = .ok (.istore_n 3, 1) := by decide +kernel
theorem dX10_drift_18 : decode cX10_drift 18 = .ok (.iload_n 3, 1) := by decide +kernel
theorem dX10_drift_19 : decode cX10_drift 19 = .ok (.iload_n 1, 1) := by decide +kernel
theorem dX10_drift_20 : decode cX10_drift 20 = .ok (.if_icmp .ge 69, 3) := by decide +kernel
theorem dX10_drift_23 : decode cX10_drift 23 = .ok (.aload_n 0, 1) := by decide +kernel
theorem dX10_drift_24 : decode cX10_drift 24 = .ok (.bipush 41, 2) := by decide +kernel
theorem dX10_drift_26 : decode cX10_drift 26 = .ok (.invokevirtual 221, 3) := by decide +kernel
theorem dX10_drift_29 : decode cX10_drift 29 = .ok (.istore 4, 2) := by decide +kernel
theorem dX10_drift_31 : decode cX10_drift 31 = .ok (.aload_n 0, 1) := by decide +kernel
theorem dX10_drift_32 : decode cX10_drift 32 = .ok (.getfield 17, 3) := by decide +kernel
theorem dX10_drift_35 : decode cX10_drift 35 = .ok (.iconst 1, 1) := by decide +kernel
theorem dX10_drift_36 : decode cX10_drift 36 = .ok (.iaload, 1) := by decide +kernel
theorem dX10_drift_37 : decode cX10_drift 37 = .ok (.ifCond .le 36, 3) := by decide +kernel
theorem dX10_drift_40 : decode cX10_drift 40 = .ok (.aload_n 0, 1) := by decide +kernel
theorem dX10_drift_41 : decode cX10_drift 41 = .ok (.iconst 4, 1) := by decide +kernel
theorem dX10_drift_42 : decode cX10_drift 42 = .ok (.invokevirtual 221, 3) := by decide +kernel
theorem dX10_drift_45 : decode cX10_drift 45 = .ok (.ifCond .ne 28, 3) := by decide +kernel
theorem dX10_drift_48 : decode cX10_drift 48 = .ok (.aload_n 0, 1) := by decide +kernel
theorem dX10_drift_49 : decode cX10_drift 49 = .ok (.getfield 47, 3) := by decide +kernel
theorem dX10_drift_52 : decode cX10_drift 52 = .ok (.iconst 1, 1) := by decide +kernel
theorem dX10_drift_53 : decode cX10_drift 53 = .ok (.iconst 3, 1) := by decide +kernel
theorem dX10_drift_54 : decode cX10_drift 54 = .ok (.aload_n 0, 1) := by decide +kernel
theorem dX10_drift_55 : decode cX10_drift 55 = .ok (.aload_n 0, 1) := by decide +kernel
theorem dX10_drift_56 : decode cX10_drift 56 = .ok (.getfield 17, 3) := by decide +kernel
theorem dX10_drift_59 : decode cX10_drift 59 = .ok (.iconst 1, 1) := by decide +kernel
theorem dX10_drift_60 : decode cX10_drift 60 = .ok (.iaload, 1) := by decide +kernel
theorem dX10_drift_61 : decode cX10_drift 61 = .ok (.invokevirtual 221, 3) := by decide +kernel
theorem dX10_drift_64 : decode cX10_drift 64 = .ok (.imul, 1) := by decide +kernel
theorem dX10_drift_65 : decode cX10_drift 65 = .ok (.iadd, 1) := by decide +kernel
theorem dX10_drift_66 : decode cX10_drift 66 = .ok (.iconst 1, 1) := by decide +kernel
theorem dX10_drift_67 : decode cX10_drift 67 = .ok (.iadd, 1) := by decide +kernel
theorem dX10_drift_68 : decode cX10_drift 68 = .ok (.dup2, 1) := by decide +kernel
theorem dX10_drift_69 : decode cX10_drift 69 = .ok (.iaload, 1) := by decide +kernel
theorem dX10_drift_70 : decode cX10_drift 70 = .ok (.iconst 1, 1) := by decide +kernel
theorem dX10_drift_71 : decode cX10_drift 71 = .ok (.iadd, 1) := by decide +kernel
theorem dX10_drift_72 : decode cX10_drift 72 = .ok (.iastore, 1) := by decide +kernel
theorem dX10_drift_73 : decode cX10_drift 73 = .ok (.aload_n 0, 1) := by decide +kernel
theorem dX10_drift_74 : decode cX10_drift 74 = .ok (.aload_n 0, 1) := by decide +kernel
theorem dX10_drift_75 : decode cX10_drift 75 = .ok (.getfield 47, 3) := by decide +kernel
theorem dX10_drift_78 : decode cX10_drift 78 = .ok (.iload 4, 2) := by decide +kernel
theorem dX10_drift_80 : decode cX10_drift 80 = .ok (.invokevirtual 198, 3) := by decide +kernel
theorem dX10_drift_83 : decode cX10_drift 83 = .ok (.iinc 3 1, 3) := by decide +kernel
theorem dX10_drift_86 : decode cX10_drift 86 = .ok (.goto (-68), 3) := by decide +kernel
theorem dX10_drift_89 : decode cX10_drift 89 = .ok (.aload_n 0, 1) := by decide +kernel
theorem dX10_drift_90 : decode cX10_drift 90 = .ok (.getfield 47, 3) := by decide +kernel
theorem dX10_drift_93 : decode cX10_drift 93 = .ok (.iconst 0, 1) := by decide +kernel
theorem dX10_drift_94 : decode cX10_drift 94 = .ok (.iaload, 1) := by decide +kernel
theorem dX10_drift_95 : decode cX10_drift 95 = .ok (.ireturn, 1) := by decide +kernel
set_option maxRecDepth 20000 in
theorem ggX10_undo_X10_copies : GoodIn wsX10_undo wsX10_copies := goodIn_r _ [8] (by decide +kernel) (by decide +kernel)
set_option maxRecDepth 20000 in
theorem gX10_undo_X10_copies : GoodIn wsX10_undo (va_wsS RX10 136 yX10_copies wsX10_copies) := goodIn_app (goodIn_of _ (by decide +kernel)) ggX10_undo_X10_copies
theorem dX10_undo_0 : decode cX10_undo 0 = .ok (.aload_n 0, 1) := by decide +kernel
theorem dX10_undo_1 : decode cX10_undo 1 = .ok (.getfield 140, 3) := by decide +kernel
theorem dX10_undo_4 : decode cX10_undo 4 = .ok (.ifCond .ne 6, 3) := by decide +kernel
theorem dX10_undo_7 : decode cX10_undo 7 = .ok (.ldc 179, 2) := by decide +kernel
theorem dX10_undo_9 : decode cX10_undo 9 = .ok (.ireturn, 1) := by decide +kernel
theorem dX10_undo_10 : decode cX10_undo 10 = .ok (.aload_n 0, 1) := by decide +kernel
theorem dX10_undo_11 : decode cX10_undo 11 = .ok (.dup, 1) := by decide +kernel
theorem dX10_undo_12 : decode cX10_undo 12 = .ok (.getfield 140, 3) := by decide +kernel
theorem dX10_undo_15 : decode cX10_undo 15 = .ok (.iconst 1, 1) := by decide +kernel
theorem dX10_undo_16 : decode cX10_undo 16 = .ok (.isub, 1) := by decide +kernel
theorem dX10_undo_17 : decode cX10_undo 17 = .ok (.putfield 140, 3) := by decide +kernel
theorem dX10_undo_20 : decode cX10_undo 20 = .ok (.aload_n 0, 1) := by decide +kernel
theorem dX10_undo_21 : decode cX10_undo 21 = .ok (.getfield 53, 3) := by decide +kernel
theorem dX10_undo_24 : decode cX10_undo 24 = .ok (.bipush 35, 2) := by decide +kernel
theorem dX10_undo_26 : decode cX10_undo 26 = .ok (.aload_n 0, 1) := by decide +kernel
theorem dX10_undo_27 : decode cX10_undo 27 = .ok (.getfield 140, 3) := by decide +kernel
theorem dX10_undo_30 : decode cX10_undo 30 = .ok (.imul, 1) := by decide +kernel
theorem dX10_undo_31 : decode cX10_undo 31 = .ok (.aload_n 0, 1) := by decide +kernel
theorem dX10_undo_32 : decode cX10_undo 32 = .ok (.getfield 47, 3) := by decide +kernel
theorem dX10_undo_35 : decode cX10_undo 35 = .ok (.iconst 0, 1) := by decide +kernel
theorem dX10_undo_36 : decode cX10_undo 36 = .ok (.bipush 35, 2) := by decide +kernel
theorem dX10_undo_38 : decode cX10_undo 38 = .ok (.invokestatic 136, 3) := by decide +kernel
theorem dX10_undo_41 : decode cX10_undo 41 = .ok (.aload_n 0, 1) := by decide +kernel
theorem dX10_undo_42 : decode cX10_undo 42 = .ok (.getfield 140, 3) := by decide +kernel
theorem dX10_undo_45 : decode cX10_undo 45 = .ok (.ireturn, 1) := by decide +kernel
set_option maxRecDepth 20000 in
theorem ggX10_tries_X10_copies : GoodIn wsX10_tries wsX10_copies := goodIn_r _ [6] (by decide +kernel) (by decide +kernel)
set_option maxRecDepth 20000 in
theorem gX10_tries_X10_copies : GoodIn wsX10_tries (va_wsS RX10 136 yX10_copies wsX10_copies) := goodIn_app (goodIn_of _ (by decide +kernel)) ggX10_tries_X10_copies
set_option maxRecDepth 20000 in
theorem ggX10_tries_X10_comes : GoodIn wsX10_tries wsX10_comes := goodIn_r _ [10, 11, 12, 13, 14, 15, 5, 16, 17, 18, 19, 20, 21, 22, 23, 24, 25, 26, 27, 28, 29, 30, 31, 32, 33, 34, 35, 36, 37, 38, 39, 40, 41, 42, 43, 44, 45, 46, 47, 48, 49, 50, 51, 52, 53, 54, 55, 56, 57, 58, 59, 60] (by decide +kernel) (by decide +kernel)
set_option maxRecDepth 20000 in
theorem gX10_tries_X10_comes : GoodIn wsX10_tries (wsV RX10 208 RX10 yX10_comes wsX10_comes) := goodIn_app (goodIn_of _ (by decide +kernel)) ggX10_tries_X10_comes
theorem dX10_tries_0 : decode cX10_tries 0 = .ok (.aload_n 0, 1) := by decide +kernel
theorem dX10_tries_1 : decode cX10_tries 1 = .ok (.getfield 47, 3) := by decide +kernel
theorem dX10_tries_4 : decode cX10_tries 4 = .ok (.iconst 0, 1) := by decide +kernel
theorem dX10_tries_5 : decode cX10_tries 5 = .ok (.aload_n 0, 1) := by decide +kernel
theorem dX10_tries_6 : decode cX10_tries 6 = .ok (.getfield 50, 3) := by decide +kernel
theorem dX10_tries_9 : decode cX10_tries 9 = .ok (.iconst 0, 1) := by decide +kernel
theorem dX10_tries_10 : decode cX10_tries 10 = .ok (.bipush 35, 2) := by decide +kernel
theorem dX10_tries_12 : decode cX10_tries 12 = .ok (.invokestatic 136, 3) := by decide +kernel
theorem dX10_tries_15 : decode cX10_tries 15 = .ok (.iconst 0, 1) := by decide +kernel
theorem dX10_tries_16 : decode cX10_tries 16 = .ok (.istore_n 3, 1) := by decide +kernel
theorem dX10_tries_17 : decode cX10_tries 17 = .ok (.iload_n 3, 1) := by decide +kernel
theorem dX10_tries_18 : decode cX10_tries 18 = .ok (.iload_n 1, 1) := by decide +kernel
theorem dX10_tries_19 : decode cX10_tries 19 = .ok (.if_icmp .ge 18, 3) := by decide +kernel
theorem dX10_tries_22 : decode cX10_tries 22 = .ok (.aload_n 0, 1) := by decide +kernel
theorem dX10_tries_23 : decode cX10_tries 23 = .ok (.aload_n 0, 1) := by decide +kernel
theorem dX10_tries_24 : decode cX10_tries 24 = .ok (.getfield 50, 3) := by decide +kernel
theorem dX10_tries_27 : decode cX10_tries 27 = .ok (.iload_n 2, 1) := by decide +kernel
theorem dX10_tries_28 : decode cX10_tries 28 = .ok (.invokevirtual 208, 3) := by decide +kernel
theorem dX10_tries_31 : decode cX10_tries 31 = .ok (.iinc 3 1, 3) := by decide +kernel
theorem dX10_tries_34 : decode cX10_tries 34 = .ok (.goto (-17), 3) := by decide +kernel
theorem dX10_tries_37 : decode cX10_tries 37 = .ok (.return_, 1) := by decide +kernel
set_option maxRecDepth 20000 in
theorem ggX10_due_X10_isDebt : GoodIn wsX10_due wsX10_isDebt := goodIn_r _ [9, 10, 11, 12, 8, 13, 53, 54, 55, 56, 57, 58, 59, 60, 61, 62, 63, 64, 65, 66, 67, 68, 69, 70, 71, 72, 73, 74, 75, 76, 77, 78, 79, 80, 81, 82] (by decide +kernel) (by decide +kernel)
set_option maxRecDepth 20000 in
theorem gX10_due_X10_isDebt : GoodIn wsX10_due (wsV RX10 194 RX10 yX10_isDebt wsX10_isDebt) := goodIn_app (goodIn_of _ (by decide +kernel)) ggX10_due_X10_isDebt
set_option maxRecDepth 20000 in
theorem ggX10_due_X10_tries : GoodIn wsX10_due wsX10_tries := goodIn_r _ [17, 2, 4, 18, 19, 8, 20, 21, 22, 23, 24, 25, 10, 26, 27, 28, 29, 30, 31, 32, 33, 34, 35, 36, 37, 38, 39, 40, 41, 42, 43, 53, 54, 55, 56, 57, 58, 59, 60, 61, 62, 63, 64, 65, 66, 67, 68, 69, 70, 71, 72, 73, 74, 75, 76, 77, 78, 79, 80, 81, 82] (by decide +kernel) (by decide +kernel)
set_option maxRecDepth 20000 in
theorem gX10_due_X10_tries : GoodIn wsX10_due (wsV RX10 224 RX10 yX10_tries wsX10_tries) := goodIn_app (goodIn_of _ (by decide +kernel)) ggX10_due_X10_tries
set_option maxRecDepth 20000 in
theorem ggX10_due_X10_isDue : GoodIn wsX10_due wsX10_isDue := goodIn_r _ [47, 48, 49, 50, 8, 51, 52, 53, 54, 55, 56, 57, 58, 59, 60, 61, 62, 63, 64, 65, 66, 67, 68, 69, 70, 71, 72, 73, 74, 75, 76, 77, 78, 79, 80, 81, 82] (by decide +kernel) (by decide +kernel)
set_option maxRecDepth 20000 in
theorem gX10_due_X10_isDue : GoodIn wsX10_due (wsV RX10 160 RX10 yX10_isDue wsX10_isDue) := goodIn_app (goodIn_of _ (by decide +kernel)) ggX10_due_X10_isDue
set_option maxRecDepth 20000 in
theorem ggX10_due_X10_comes : GoodIn wsX10_due wsX10_comes := goodIn_r _ [24, 25, 10, 26, 27, 28, 8, 29, 30, 31, 32, 33, 34, 35, 36, 37, 38, 39, 40, 41, 42, 43, 53, 54, 55, 56, 57, 58, 59, 60, 61, 62, 63, 64, 65, 66, 67, 68, 69, 70, 71, 72, 73, 74, 75, 76, 77, 78, 79, 80, 81, 82] (by decide +kernel) (by decide +kernel)
set_option maxRecDepth 20000 in
theorem gX10_due_X10_comes : GoodIn wsX10_due (wsV RX10 208 RX10 yX10_comes wsX10_comes) := goodIn_app (goodIn_of _ (by decide +kernel)) ggX10_due_X10_comes
theorem dX10_due_0 : decode cX10_due 0 = .ok (.aload_n 0, 1) := by decide +kernel
theorem dX10_due_1 : decode cX10_due 1 = .ok (.iload_n 1, 1) := by decide +kernel
theorem dX10_due_2 : decode cX10_due 2 = .ok (.invokevirtual 194, 3) := by decide +kernel
theorem dX10_due_5 : decode cX10_due 5 = .ok (.ifCond .ne 6, 3) := by decide +kernel
theorem dX10_due_8 : decode cX10_due 8 = .ok (.ldc 184, 2) := by decide +kernel
theorem dX10_due_10 : decode cX10_due 10 = .ok (.ireturn, 1) := by decide +kernel
theorem dX10_due_11 : decode cX10_due 11 = .ok (.aload_n 0, 1) := by decide +kernel
theorem dX10_due_12 : decode cX10_due 12 = .ok (.getfield 47, 3) := by decide +kernel
theorem dX10_due_15 : decode cX10_due 15 = .ok (.bipush 25, 2) := by decide +kernel
theorem dX10_due_17 : decode cX10_due 17 = .ok (.iconst 2, 1) := by decide +kernel
theorem dX10_due_18 : decode cX10_due 18 = .ok (.iload_n 1, 1) := by decide +kernel
theorem dX10_due_19 : decode cX10_due 19 = .ok (.imul, 1) := by decide +kernel
theorem dX10_due_20 : decode cX10_due 20 = .ok (.iadd, 1) := by decide +kernel
theorem dX10_due_21 : decode cX10_due 21 = .ok (.iaload, 1) := by decide +kernel
theorem dX10_due_22 : decode cX10_due 22 = .ok (.ifCond .ne 6, 3) := by decide +kernel
theorem dX10_due_25 : decode cX10_due 25 = .ok (.ldc 179, 2) := by decide +kernel
theorem dX10_due_27 : decode cX10_due 27 = .ok (.ireturn, 1) := by decide +kernel
theorem dX10_due_28 : decode cX10_due 28 = .ok (.aload_n 0, 1) := by decide +kernel
theorem dX10_due_29 : decode cX10_due 29 = .ok (.iconst 0, 1) := by decide +kernel
theorem dX10_due_30 : decode cX10_due 30 = .ok (.iconst 0, 1) := by decide +kernel
theorem dX10_due_31 : decode cX10_due 31 = .ok (.invokevirtual 224, 3) := by decide +kernel
theorem dX10_due_34 : decode cX10_due 34 = .ok (.iconst 0, 1) := by decide +kernel
theorem dX10_due_35 : decode cX10_due 35 = .ok (.istore_n 2, 1) := by decide +kernel
theorem dX10_due_36 : decode cX10_due 36 = .ok (.iload_n 2, 1) := by decide +kernel
theorem dX10_due_37 : decode cX10_due 37 = .ok (.sipush 201, 3) := by decide +kernel
theorem dX10_due_40 : decode cX10_due 40 = .ok (.if_icmp .ge 32, 3) := by decide +kernel
theorem dX10_due_43 : decode cX10_due 43 = .ok (.aload_n 0, 1) := by decide +kernel
theorem dX10_due_44 : decode cX10_due 44 = .ok (.aload_n 0, 1) := by decide +kernel
theorem dX10_due_45 : decode cX10_due 45 = .ok (.getfield 50, 3) := by decide +kernel
theorem dX10_due_48 : decode cX10_due 48 = .ok (.iload_n 1, 1) := by decide +kernel
theorem dX10_due_49 : decode cX10_due 49 = .ok (.invokevirtual 160, 3) := by decide +kernel
theorem dX10_due_52 : decode cX10_due 52 = .ok (.ifCond .eq 5, 3) := by decide +kernel
theorem dX10_due_55 : decode cX10_due 55 = .ok (.iload_n 2, 1) := by decide +kernel
theorem dX10_due_56 : decode cX10_due 56 = .ok (.ireturn, 1) := by decide +kernel
theorem dX10_due_57 : decode cX10_due 57 = .ok (.aload_n 0, 1) := by decide +kernel
theorem dX10_due_58 : decode cX10_due 58 = .ok (.aload_n 0, 1) := by decide +kernel
theorem dX10_due_59 : decode cX10_due 59 = .ok (.getfield 50, 3) := by decide +kernel
theorem dX10_due_62 : decode cX10_due 62 = .ok (.iconst 0, 1) := by decide +kernel
theorem dX10_due_63 : decode cX10_due 63 = .ok (.invokevirtual 208, 3) := by decide +kernel
theorem dX10_due_66 : decode cX10_due 66 = .ok (.iinc 2 1, 3) := by decide +kernel
theorem dX10_due_69 : decode cX10_due 69 = .ok (.goto (-33), 3) := by decide +kernel
theorem dX10_due_72 : decode cX10_due 72 = .ok (.iconst (-1), 1) := by decide +kernel
theorem dX10_due_73 : decode cX10_due 73 = .ok (.ireturn, 1) := by decide +kernel
set_option maxRecDepth 20000 in
theorem ggX10_old_X10_isPerson : GoodIn wsX10_old wsX10_isPerson := goodIn_r _ [8, 9, 10, 11, 7, 12, 48, 49, 50, 51, 52, 53, 54, 55, 56, 57, 58, 59, 60, 61, 62, 63, 64, 65, 66, 67, 68, 69, 70, 71, 72, 73, 74, 75, 76, 77] (by decide +kernel) (by decide +kernel)
set_option maxRecDepth 20000 in
theorem gX10_old_X10_isPerson : GoodIn wsX10_old (wsV RX10 188 RX10 yX10_isPerson wsX10_isPerson) := goodIn_app (goodIn_of _ (by decide +kernel)) ggX10_old_X10_isPerson
set_option maxRecDepth 20000 in
theorem ggX10_old_X10_in : GoodIn wsX10_old wsX10_in := goodIn_r _ [12] (by decide +kernel) (by decide +kernel)
set_option maxRecDepth 20000 in
theorem gX10_old_X10_in : GoodIn wsX10_old (va_wsS RX10 81 yX10_in wsX10_in) := goodIn_app (goodIn_of _ (by decide +kernel)) ggX10_old_X10_in
set_option maxRecDepth 20000 in
theorem ggX10_old_X10_tries : GoodIn wsX10_old wsX10_tries := goodIn_r _ [16, 17, 3, 18, 19, 7, 20, 21, 22, 23, 24, 25, 9, 26, 27, 28, 29, 30, 31, 32, 33, 34, 35, 36, 37, 38, 39, 40, 41, 42, 43, 48, 49, 50, 51, 52, 53, 54, 55, 56, 57, 58, 59, 60, 61, 62, 63, 64, 65, 66, 67, 68, 69, 70, 71, 72, 73, 74, 75, 76, 77] (by decide +kernel) (by decide +kernel)
set_option maxRecDepth 20000 in
theorem gX10_old_X10_tries : GoodIn wsX10_old (wsV RX10 224 RX10 yX10_tries wsX10_tries) := goodIn_app (goodIn_of _ (by decide +kernel)) ggX10_old_X10_tries
set_option maxRecDepth 20000 in
theorem ggX10_old_X10_ageOf : GoodIn wsX10_old wsX10_ageOf := goodIn_r _ [47, 39, 48, 49, 50, 51, 52, 53, 54, 55, 56, 57, 58, 59, 60, 61, 62, 63, 64, 65, 66, 67, 68, 69, 70, 71, 72, 73, 74, 75, 76, 77] (by decide +kernel) (by decide +kernel)
set_option maxRecDepth 20000 in
theorem gX10_old_X10_ageOf : GoodIn wsX10_old (wsV RX10 191 RX10 yX10_ageOf wsX10_ageOf) := goodIn_app (goodIn_of _ (by decide +kernel)) ggX10_old_X10_ageOf
theorem dX10_old_0 : decode cX10_old 0 = .ok (.aload_n 0, 1) := by decide +kernel
theorem dX10_old_1 : decode cX10_old 1 = .ok (.iload_n 1, 1) := by decide +kernel
theorem dX10_old_2 : decode cX10_old 2 = .ok (.invokevirtual 188, 3) := by decide +kernel
theorem dX10_old_5 : decode cX10_old 5 = .ok (.ifCond .ne 6, 3) := by decide +kernel
theorem dX10_old_8 : decode cX10_old 8 = .ok (.ldc 184, 2) := by decide +kernel
theorem dX10_old_10 : decode cX10_old 10 = .ok (.ireturn, 1) := by decide +kernel
theorem dX10_old_11 : decode cX10_old 11 = .ok (.iload_n 2, 1) := by decide +kernel
theorem dX10_old_12 : decode cX10_old 12 = .ok (.iconst 0, 1) := by decide +kernel
theorem dX10_old_13 : decode cX10_old 13 = .ok (.sipush 200, 3) := by decide +kernel
theorem dX10_old_16 : decode cX10_old 16 = .ok (.invokestatic 81, 3) := by decide +kernel
theorem dX10_old_19 : decode cX10_old 19 = .ok (.ifCond .ne 6, 3) := by decide +kernel
theorem dX10_old_22 : decode cX10_old 22 = .ok (.ldc 85, 2) := by decide +kernel
theorem dX10_old_24 : decode cX10_old 24 = .ok (.ireturn, 1) := by decide +kernel
theorem dX10_old_25 : decode cX10_old 25 = .ok (.aload_n 0, 1) := by decide +kernel
theorem dX10_old_26 : decode cX10_old 26 = .ok (.iload_n 2, 1) := by decide +kernel
theorem dX10_old_27 : decode cX10_old 27 = .ok (.iconst 0, 1) := by decide +kernel
theorem dX10_old_28 : decode cX10_old 28 = .ok (.invokevirtual 224, 3) := by decide +kernel
theorem dX10_old_31 : decode cX10_old 31 = .ok (.aload_n 0, 1) := by decide +kernel
theorem dX10_old_32 : decode cX10_old 32 = .ok (.aload_n 0, 1) := by decide +kernel
theorem dX10_old_33 : decode cX10_old 33 = .ok (.getfield 50, 3) := by decide +kernel
theorem dX10_old_36 : decode cX10_old 36 = .ok (.iload_n 1, 1) := by decide +kernel
theorem dX10_old_37 : decode cX10_old 37 = .ok (.invokevirtual 191, 3) := by decide +kernel
theorem dX10_old_40 : decode cX10_old 40 = .ok (.ireturn, 1) := by decide +kernel
set_option maxRecDepth 20000 in
theorem ggX10_feast_X10_isVillage : GoodIn wsX10_feast wsX10_isVillage := goodIn_r _ [8, 9, 10, 11, 7, 12, 47, 48, 49, 50, 51, 52, 53, 54, 55, 56, 57, 58, 59, 60, 61, 62, 63, 64, 65, 66, 67, 68, 69, 70, 71, 72, 73, 74, 75, 76] (by decide +kernel) (by decide +kernel)
set_option maxRecDepth 20000 in
theorem gX10_feast_X10_isVillage : GoodIn wsX10_feast (wsV RX10 180 RX10 yX10_isVillage wsX10_isVillage) := goodIn_app (goodIn_of _ (by decide +kernel)) ggX10_feast_X10_isVillage
set_option maxRecDepth 20000 in
theorem ggX10_feast_X10_tries : GoodIn wsX10_feast wsX10_tries := goodIn_r _ [16, 17, 2, 18, 19, 7, 20, 21, 22, 23, 24, 25, 9, 26, 27, 28, 29, 30, 31, 32, 33, 34, 35, 36, 37, 38, 3, 39, 40, 41, 42, 47, 48, 49, 50, 51, 52, 53, 54, 55, 56, 57, 58, 59, 60, 61, 62, 63, 64, 65, 66, 67, 68, 69, 70, 71, 72, 73, 74, 75, 76] (by decide +kernel) (by decide +kernel)
set_option maxRecDepth 20000 in
theorem gX10_feast_X10_tries : GoodIn wsX10_feast (wsV RX10 224 RX10 yX10_tries wsX10_tries) := goodIn_app (goodIn_of _ (by decide +kernel)) ggX10_feast_X10_tries
set_option maxRecDepth 20000 in
theorem ggX10_feast_X10_poleOf : GoodIn wsX10_feast wsX10_poleOf := goodIn_r _ [46] (by decide +kernel) (by decide +kernel)
set_option maxRecDepth 20000 in
theorem gX10_feast_X10_poleOf : GoodIn wsX10_feast (wsV RX10 185 RX10 yX10_poleOf wsX10_poleOf) := goodIn_app (goodIn_of _ (by decide +kernel)) ggX10_feast_X10_poleOf
set_option maxRecDepth 20000 in
theorem ggX10_feast_X10_comes : GoodIn wsX10_feast wsX10_comes := goodIn_r _ [24, 25, 9, 26, 27, 28, 7, 29, 30, 31, 32, 33, 34, 35, 36, 37, 38, 3, 39, 40, 41, 42, 47, 48, 49, 50, 51, 52, 53, 54, 55, 56, 57, 58, 59, 60, 61, 62, 63, 64, 65, 66, 67, 68, 69, 70, 71, 72, 73, 74, 75, 76] (by decide +kernel) (by decide +kernel)
set_option maxRecDepth 20000 in
theorem gX10_feast_X10_comes : GoodIn wsX10_feast (wsV RX10 208 RX10 yX10_comes wsX10_comes) := goodIn_app (goodIn_of _ (by decide +kernel)) ggX10_feast_X10_comes
theorem dX10_feast_0 : decode cX10_feast 0 = .ok (.aload_n 0, 1) := by decide +kernel
theorem dX10_feast_1 : decode cX10_feast 1 = .ok (.iload_n 1, 1) := by decide +kernel
theorem dX10_feast_2 : decode cX10_feast 2 = .ok (.invokevirtual 180, 3) := by decide +kernel
theorem dX10_feast_5 : decode cX10_feast 5 = .ok (.ifCond .eq 16, 3) := by decide +kernel
theorem dX10_feast_8 : decode cX10_feast 8 = .ok (.aload_n 0, 1) := by decide +kernel
theorem dX10_feast_9 : decode cX10_feast 9 = .ok (.iload_n 2, 1) := by decide +kernel
theorem dX10_feast_10 : decode cX10_feast 10 = .ok (.invokevirtual 180, 3) := by decide +kernel
theorem dX10_feast_13 : decode cX10_feast 13 = .ok (.ifCond .eq 8, 3) := by decide +kernel
theorem dX10_feast_16 : decode cX10_feast 16 = .ok (.iload_n 1, 1) := by decide +kernel
theorem dX10_feast_17 : decode cX10_feast 17 = .ok (.iload_n 2, 1) := by decide +kernel
theorem dX10_feast_18 : decode cX10_feast 18 = .ok (.if_icmp .ne 6, 3) := by decide +kernel
theorem dX10_feast_21 : decode cX10_feast 21 = .ok (.ldc 184, 2) := by decide +kernel
theorem dX10_feast_23 : decode cX10_feast 23 = .ok (.ireturn, 1) := by decide +kernel
theorem dX10_feast_24 : decode cX10_feast 24 = .ok (.aload_n 0, 1) := by decide +kernel
theorem dX10_feast_25 : decode cX10_feast 25 = .ok (.iconst 0, 1) := by decide +kernel
theorem dX10_feast_26 : decode cX10_feast 26 = .ok (.iconst 0, 1) := by decide +kernel
theorem dX10_feast_27 : decode cX10_feast 27 = .ok (.invokevirtual 224, 3) := by decide +kernel
theorem dX10_feast_30 : decode cX10_feast 30 = .ok (.iconst 0, 1) := by decide +kernel
theorem dX10_feast_31 : decode cX10_feast 31 = .ok (.istore_n 3, 1) := by decide +kernel
theorem dX10_feast_32 : decode cX10_feast 32 = .ok (.iload_n 3, 1) := by decide +kernel
theorem dX10_feast_33 : decode cX10_feast 33 = .ok (.sipush 201, 3) := by decide +kernel
theorem dX10_feast_36 : decode cX10_feast 36 = .ok (.if_icmp .ge 63, 3) := by decide +kernel
theorem dX10_feast_39 : decode cX10_feast 39 = .ok (.aload_n 0, 1) := by decide +kernel
theorem dX10_feast_40 : decode cX10_feast 40 = .ok (.aload_n 0, 1) := by decide +kernel
theorem dX10_feast_41 : decode cX10_feast 41 = .ok (.getfield 50, 3) := by decide +kernel
theorem dX10_feast_44 : decode cX10_feast 44 = .ok (.iload_n 1, 1) := by decide +kernel
theorem dX10_feast_45 : decode cX10_feast 45 = .ok (.invokevirtual 185, 3) := by decide +kernel
theorem dX10_feast_48 : decode cX10_feast 48 = .ok (.aload_n 0, 1) := by decide +kernel
theorem dX10_feast_49 : decode cX10_feast 49 = .ok (.getfield 23, 3) := by decide +kernel
theorem dX10_feast_52 : decode cX10_feast 52 = .ok (.iconst 5, 1) := by decide +kernel
theorem dX10_feast_53 : decode cX10_feast 53 = .ok (.iload_n 1, 1) := by decide +kernel
theorem dX10_feast_54 : decode cX10_feast 54 = .ok (.imul, 1) := by decide +kernel
theorem dX10_feast_55 : decode cX10_feast 55 = .ok (.iconst 4, 1) := by decide +kernel
theorem dX10_feast_56 : decode cX10_feast 56 = .ok (.iadd, 1) := by decide +kernel
theorem dX10_feast_57 : decode cX10_feast 57 = .ok (.iaload, 1) := by decide +kernel
theorem dX10_feast_58 : decode cX10_feast 58 = .ok (.irem, 1) := by decide +kernel
theorem dX10_feast_59 : decode cX10_feast 59 = .ok (.aload_n 0, 1) := by decide +kernel
theorem dX10_feast_60 : decode cX10_feast 60 = .ok (.aload_n 0, 1) := by decide +kernel
theorem dX10_feast_61 : decode cX10_feast 61 = .ok (.getfield 50, 3) := by decide +kernel
theorem dX10_feast_64 : decode cX10_feast 64 = .ok (.iload_n 2, 1) := by decide +kernel
theorem dX10_feast_65 : decode cX10_feast 65 = .ok (.invokevirtual 185, 3) := by decide +kernel
theorem dX10_feast_68 : decode cX10_feast 68 = .ok (.aload_n 0, 1) := by decide +kernel
theorem dX10_feast_69 : decode cX10_feast 69 = .ok (.getfield 23, 3) := by decide +kernel
theorem dX10_feast_72 : decode cX10_feast 72 = .ok (.iconst 5, 1) := by decide +kernel
theorem dX10_feast_73 : decode cX10_feast 73 = .ok (.iload_n 2, 1) := by decide +kernel
theorem dX10_feast_74 : decode cX10_feast 74 = .ok (.imul, 1) := by decide +kernel
theorem dX10_feast_75 : decode cX10_feast 75 = .ok (.iconst 4, 1) := by decide +kernel
theorem dX10_feast_76 : decode cX10_feast 76 = .ok (.iadd, 1) := by decide +kernel
theorem dX10_feast_77 : decode cX10_feast 77 = .ok (.iaload, 1) := by decide +kernel
theorem dX10_feast_78 : decode cX10_feast 78 = .ok (.irem, 1) := by decide +kernel
theorem dX10_feast_79 : decode cX10_feast 79 = .ok (.if_icmp .ne 5, 3) := by decide +kernel
theorem dX10_feast_82 : decode cX10_feast 82 = .ok (.iload_n 3, 1) := by decide +kernel
theorem dX10_feast_83 : decode cX10_feast 83 = .ok (.ireturn, 1) := by decide +kernel
theorem dX10_feast_84 : decode cX10_feast 84 = .ok (.aload_n 0, 1) := by decide +kernel
theorem dX10_feast_85 : decode cX10_feast 85 = .ok (.aload_n 0, 1) := by decide +kernel
theorem dX10_feast_86 : decode cX10_feast 86 = .ok (.getfield 50, 3) := by decide +kernel
theorem dX10_feast_89 : decode cX10_feast 89 = .ok (.iconst 0, 1) := by decide +kernel
theorem dX10_feast_90 : decode cX10_feast 90 = .ok (.invokevirtual 208, 3) := by decide +kernel
theorem dX10_feast_93 : decode cX10_feast 93 = .ok (.iinc 3 1, 3) := by decide +kernel
theorem dX10_feast_96 : decode cX10_feast 96 = .ok (.goto (-64), 3) := by decide +kernel
theorem dX10_feast_99 : decode cX10_feast 99 = .ok (.iconst (-1), 1) := by decide +kernel
theorem dX10_feast_100 : decode cX10_feast 100 = .ok (.ireturn, 1) := by decide +kernel
set_option maxRecDepth 20000 in
theorem ggX10_mild_X10_isPerson : GoodIn wsX10_mild wsX10_isPerson := goodIn_r _ [8, 9, 10, 11, 7, 12, 48, 49, 50, 51, 52, 53, 54, 55, 56, 57, 58, 59, 60, 61, 62, 63, 64, 65, 66, 67, 68, 69, 70, 71, 72, 73, 74, 75, 76, 77] (by decide +kernel) (by decide +kernel)
set_option maxRecDepth 20000 in
theorem gX10_mild_X10_isPerson : GoodIn wsX10_mild (wsV RX10 188 RX10 yX10_isPerson wsX10_isPerson) := goodIn_app (goodIn_of _ (by decide +kernel)) ggX10_mild_X10_isPerson
set_option maxRecDepth 20000 in
theorem ggX10_mild_X10_in : GoodIn wsX10_mild wsX10_in := goodIn_r _ [12] (by decide +kernel) (by decide +kernel)
set_option maxRecDepth 20000 in
theorem gX10_mild_X10_in : GoodIn wsX10_mild (va_wsS RX10 81 yX10_in wsX10_in) := goodIn_app (goodIn_of _ (by decide +kernel)) ggX10_mild_X10_in
set_option maxRecDepth 20000 in
theorem ggX10_mild_X10_tries : GoodIn wsX10_mild wsX10_tries := goodIn_r _ [16, 17, 3, 18, 19, 7, 20, 21, 22, 23, 24, 25, 9, 26, 27, 28, 29, 30, 31, 32, 33, 34, 35, 36, 37, 38, 39, 40, 41, 42, 43, 48, 49, 50, 51, 52, 53, 54, 55, 56, 57, 58, 59, 60, 61, 62, 63, 64, 65, 66, 67, 68, 69, 70, 71, 72, 73, 74, 75, 76, 77] (by decide +kernel) (by decide +kernel)
set_option maxRecDepth 20000 in
theorem gX10_mild_X10_tries : GoodIn wsX10_mild (wsV RX10 224 RX10 yX10_tries wsX10_tries) := goodIn_app (goodIn_of _ (by decide +kernel)) ggX10_mild_X10_tries
set_option maxRecDepth 20000 in
theorem ggX10_mild_X10_ageOf : GoodIn wsX10_mild wsX10_ageOf := goodIn_r _ [47, 39, 48, 49, 50, 51, 52, 53, 54, 55, 56, 57, 58, 59, 60, 61, 62, 63, 64, 65, 66, 67, 68, 69, 70, 71, 72, 73, 74, 75, 76, 77] (by decide +kernel) (by decide +kernel)
set_option maxRecDepth 20000 in
theorem gX10_mild_X10_ageOf : GoodIn wsX10_mild (wsV RX10 191 RX10 yX10_ageOf wsX10_ageOf) := goodIn_app (goodIn_of _ (by decide +kernel)) ggX10_mild_X10_ageOf
theorem dX10_mild_0 : decode cX10_mild 0 = .ok (.aload_n 0, 1) := by decide +kernel
theorem dX10_mild_1 : decode cX10_mild 1 = .ok (.iload_n 1, 1) := by decide +kernel
theorem dX10_mild_2 : decode cX10_mild 2 = .ok (.invokevirtual 188, 3) := by decide +kernel
theorem dX10_mild_5 : decode cX10_mild 5 = .ok (.ifCond .ne 6, 3) := by decide +kernel
theorem dX10_mild_8 : decode cX10_mild 8 = .ok (.ldc 184, 2) := by decide +kernel
theorem dX10_mild_10 : decode cX10_mild 10 = .ok (.ireturn, 1) := by decide +kernel
theorem dX10_mild_11 : decode cX10_mild 11 = .ok (.iload_n 2, 1) := by decide +kernel
theorem dX10_mild_12 : decode cX10_mild 12 = .ok (.iconst 0, 1) := by decide +kernel
theorem dX10_mild_13 : decode cX10_mild 13 = .ok (.bipush 40, 2) := by decide +kernel
theorem dX10_mild_15 : decode cX10_mild 15 = .ok (.invokestatic 81, 3) := by decide +kernel
theorem dX10_mild_18 : decode cX10_mild 18 = .ok (.ifCond .eq 14, 3) := by decide +kernel
theorem dX10_mild_21 : decode cX10_mild 21 = .ok (.iload_n 3, 1) := by decide +kernel
theorem dX10_mild_22 : decode cX10_mild 22 = .ok (.iconst 0, 1) := by decide +kernel
theorem dX10_mild_23 : decode cX10_mild 23 = .ok (.sipush 200, 3) := by decide +kernel
theorem dX10_mild_26 : decode cX10_mild 26 = .ok (.invokestatic 81, 3) := by decide +kernel
theorem dX10_mild_29 : decode cX10_mild 29 = .ok (.ifCond .ne 6, 3) := by decide +kernel
theorem dX10_mild_32 : decode cX10_mild 32 = .ok (.ldc 85, 2) := by decide +kernel
theorem dX10_mild_34 : decode cX10_mild 34 = .ok (.ireturn, 1) := by decide +kernel
theorem dX10_mild_35 : decode cX10_mild 35 = .ok (.aload_n 0, 1) := by decide +kernel
theorem dX10_mild_36 : decode cX10_mild 36 = .ok (.iload_n 3, 1) := by decide +kernel
theorem dX10_mild_37 : decode cX10_mild 37 = .ok (.iconst 0, 1) := by decide +kernel
theorem dX10_mild_38 : decode cX10_mild 38 = .ok (.invokevirtual 224, 3) := by decide +kernel
theorem dX10_mild_41 : decode cX10_mild 41 = .ok (.aload_n 0, 1) := by decide +kernel
theorem dX10_mild_42 : decode cX10_mild 42 = .ok (.aload_n 0, 1) := by decide +kernel
theorem dX10_mild_43 : decode cX10_mild 43 = .ok (.getfield 50, 3) := by decide +kernel
theorem dX10_mild_46 : decode cX10_mild 46 = .ok (.iload_n 1, 1) := by decide +kernel
theorem dX10_mild_47 : decode cX10_mild 47 = .ok (.invokevirtual 191, 3) := by decide +kernel
theorem dX10_mild_50 : decode cX10_mild 50 = .ok (.istore 4, 2) := by decide +kernel
theorem dX10_mild_52 : decode cX10_mild 52 = .ok (.aload_n 0, 1) := by decide +kernel
theorem dX10_mild_53 : decode cX10_mild 53 = .ok (.iload_n 3, 1) := by decide +kernel
theorem dX10_mild_54 : decode cX10_mild 54 = .ok (.iload_n 2, 1) := by decide +kernel
theorem dX10_mild_55 : decode cX10_mild 55 = .ok (.invokevirtual 224, 3) := by decide +kernel
theorem dX10_mild_58 : decode cX10_mild 58 = .ok (.iload 4, 2) := by decide +kernel
theorem dX10_mild_60 : decode cX10_mild 60 = .ok (.aload_n 0, 1) := by decide +kernel
theorem dX10_mild_61 : decode cX10_mild 61 = .ok (.aload_n 0, 1) := by decide +kernel
theorem dX10_mild_62 : decode cX10_mild 62 = .ok (.getfield 50, 3) := by decide +kernel
theorem dX10_mild_65 : decode cX10_mild 65 = .ok (.iload_n 1, 1) := by decide +kernel
theorem dX10_mild_66 : decode cX10_mild 66 = .ok (.invokevirtual 191, 3) := by decide +kernel
theorem dX10_mild_69 : decode cX10_mild 69 = .ok (.isub, 1) := by decide +kernel
theorem dX10_mild_70 : decode cX10_mild 70 = .ok (.ireturn, 1) := by decide +kernel
set_option maxRecDepth 20000 in
theorem ggX10_mildDebts_X10_in : GoodIn wsX10_mildDebts wsX10_in := goodIn_r _ [6] (by decide +kernel) (by decide +kernel)
set_option maxRecDepth 20000 in
theorem gX10_mildDebts_X10_in : GoodIn wsX10_mildDebts (va_wsS RX10 81 yX10_in wsX10_in) := goodIn_app (goodIn_of _ (by decide +kernel)) ggX10_mildDebts_X10_in
set_option maxRecDepth 20000 in
theorem ggX10_mildDebts_X10_isValley : GoodIn wsX10_mildDebts wsX10_isValley := goodIn_r _ [10, 11, 56, 57, 58, 59, 60, 61, 62, 63, 64, 65, 66, 67, 68, 69, 70, 71, 72, 73, 74, 75, 76, 77, 78, 79, 80, 81, 82, 83, 84, 85] (by decide +kernel) (by decide +kernel)
set_option maxRecDepth 20000 in
theorem gX10_mildDebts_X10_isValley : GoodIn wsX10_mildDebts (wsV RX10 175 RX10 yX10_isValley wsX10_isValley) := goodIn_app (goodIn_of _ (by decide +kernel)) ggX10_mildDebts_X10_isValley
set_option maxRecDepth 20000 in
theorem ggX10_mildDebts_X10_tries : GoodIn wsX10_mildDebts wsX10_tries := goodIn_r _ [15, 16, 2, 17, 18, 5, 19, 20, 21, 22, 23, 24, 11, 25, 26, 27, 28, 29, 30, 31, 32, 33, 34, 35, 36, 37, 38, 39, 40, 41, 42, 56, 57, 58, 59, 60, 61, 62, 63, 64, 65, 66, 67, 68, 69, 70, 71, 72, 73, 74, 75, 76, 77, 78, 79, 80, 81, 82, 83, 84, 85] (by decide +kernel) (by decide +kernel)
set_option maxRecDepth 20000 in
theorem gX10_mildDebts_X10_tries : GoodIn wsX10_mildDebts (wsV RX10 224 RX10 yX10_tries wsX10_tries) := goodIn_app (goodIn_of _ (by decide +kernel)) ggX10_mildDebts_X10_tries
set_option maxRecDepth 20000 in
theorem ggX10_mildDebts_X10_dueIn : GoodIn wsX10_mildDebts wsX10_dueIn := goodIn_r _ [46, 11, 47, 48, 49, 5, 50, 51, 52, 53, 54, 55, 56, 57, 58, 59, 60, 61, 62, 63, 64, 65, 66, 67, 68, 69, 70, 71, 72, 73, 74, 75, 76, 77, 78, 79, 80, 81, 82, 83, 84, 85] (by decide +kernel) (by decide +kernel)
set_option maxRecDepth 20000 in
theorem gX10_mildDebts_X10_dueIn : GoodIn wsX10_mildDebts (wsV RX10 168 RX10 yX10_dueIn wsX10_dueIn) := goodIn_app (goodIn_of _ (by decide +kernel)) ggX10_mildDebts_X10_dueIn
theorem dX10_mildDebts_0 : decode cX10_mildDebts 0 = .ok (.iload_n 1, 1) := by decide +kernel
theorem dX10_mildDebts_1 : decode cX10_mildDebts 1 = .ok (.iconst 0, 1) := by decide +kernel
theorem dX10_mildDebts_2 : decode cX10_mildDebts 2 = .ok (.bipush 40, 2) := by decide +kernel
theorem dX10_mildDebts_4 : decode cX10_mildDebts 4 = .ok (.invokestatic 81, 3) := by decide +kernel
theorem dX10_mildDebts_7 : decode cX10_mildDebts 7 = .ok (.ifCond .eq 14, 3) := by decide +kernel
theorem dX10_mildDebts_10 : decode cX10_mildDebts 10 = .ok (.iload_n 2, 1) := by decide +kernel
theorem dX10_mildDebts_11 : decode cX10_mildDebts 11 = .ok (.iconst 0, 1) := by decide +kernel
theorem dX10_mildDebts_12 : decode cX10_mildDebts 12 = .ok (.sipush 200, 3) := by decide +kernel
theorem dX10_mildDebts_15 : decode cX10_mildDebts 15 = .ok (.invokestatic 81, 3) := by decide +kernel
theorem dX10_mildDebts_18 : decode cX10_mildDebts 18 = .ok (.ifCond .ne 6, 3) := by decide +kernel
theorem dX10_mildDebts_21 : decode cX10_mildDebts 21 = .ok (.ldc 85, 2) := by decide +kernel
theorem dX10_mildDebts_23 : decode cX10_mildDebts 23 = .ok (.ireturn, 1) := by decide +kernel
theorem dX10_mildDebts_24 : decode cX10_mildDebts 24 = .ok (.aload_n 0, 1) := by decide +kernel
theorem dX10_mildDebts_25 : decode cX10_mildDebts 25 = .ok (.invokevirtual 175, 3) := by decide +kernel
theorem dX10_mildDebts_28 : decode cX10_mildDebts 28 = .ok (.ifCond .ne 5, 3) := by decide +kernel
theorem dX10_mildDebts_31 : decode cX10_mildDebts 31 = .ok (.iconst 0, 1) := by decide +kernel
theorem dX10_mildDebts_32 : decode cX10_mildDebts 32 = .ok (.ireturn, 1) := by decide +kernel
theorem dX10_mildDebts_33 : decode cX10_mildDebts 33 = .ok (.aload_n 0, 1) := by decide +kernel
theorem dX10_mildDebts_34 : decode cX10_mildDebts 34 = .ok (.iload_n 2, 1) := by decide +kernel
theorem dX10_mildDebts_35 : decode cX10_mildDebts 35 = .ok (.iconst 0, 1) := by decide +kernel
theorem dX10_mildDebts_36 : decode cX10_mildDebts 36 = .ok (.invokevirtual 224, 3) := by decide +kernel
theorem dX10_mildDebts_39 : decode cX10_mildDebts 39 = .ok (.aload_n 0, 1) := by decide +kernel
theorem dX10_mildDebts_40 : decode cX10_mildDebts 40 = .ok (.aload_n 0, 1) := by decide +kernel
theorem dX10_mildDebts_41 : decode cX10_mildDebts 41 = .ok (.getfield 50, 3) := by decide +kernel
theorem dX10_mildDebts_44 : decode cX10_mildDebts 44 = .ok (.invokevirtual 168, 3) := by decide +kernel
theorem dX10_mildDebts_47 : decode cX10_mildDebts 47 = .ok (.istore_n 3, 1) := by decide +kernel
theorem dX10_mildDebts_48 : decode cX10_mildDebts 48 = .ok (.aload_n 0, 1) := by decide +kernel
theorem dX10_mildDebts_49 : decode cX10_mildDebts 49 = .ok (.iload_n 2, 1) := by decide +kernel
theorem dX10_mildDebts_50 : decode cX10_mildDebts 50 = .ok (.iload_n 1, 1) := by decide +kernel
theorem dX10_mildDebts_51 : decode cX10_mildDebts 51 = .ok (.invokevirtual 224, 3) := by decide +kernel
theorem dX10_mildDebts_54 : decode cX10_mildDebts 54 = .ok (.iload_n 3, 1) := by decide +kernel
theorem dX10_mildDebts_55 : decode cX10_mildDebts 55 = .ok (.aload_n 0, 1) := by decide +kernel
theorem dX10_mildDebts_56 : decode cX10_mildDebts 56 = .ok (.aload_n 0, 1) := by decide +kernel
theorem dX10_mildDebts_57 : decode cX10_mildDebts 57 = .ok (.getfield 50, 3) := by decide +kernel
theorem dX10_mildDebts_60 : decode cX10_mildDebts 60 = .ok (.invokevirtual 168, 3) := by decide +kernel
theorem dX10_mildDebts_63 : decode cX10_mildDebts 63 = .ok (.iconst (-1), 1) := by decide +kernel
theorem dX10_mildDebts_64 : decode cX10_mildDebts 64 = .ok (.ixor, 1) := by decide +kernel
theorem dX10_mildDebts_65 : decode cX10_mildDebts 65 = .ok (.iand, 1) := by decide +kernel
theorem dX10_mildDebts_66 : decode cX10_mildDebts 66 = .ok (.ireturn, 1) := by decide +kernel
set_option maxRecDepth 20000 in
theorem ggX10_older_X10_isPerson : GoodIn wsX10_older wsX10_isPerson := goodIn_r _ [8, 9, 10, 11, 7, 12, 21, 22, 23, 24, 25, 26, 27, 28, 29, 30, 31, 32, 33, 34, 35, 36, 37, 38, 39, 40, 41, 42, 43, 44, 45, 46, 47, 48, 49, 50] (by decide +kernel) (by decide +kernel)
set_option maxRecDepth 20000 in
theorem gX10_older_X10_isPerson : GoodIn wsX10_older (wsV RX10 188 RX10 yX10_isPerson wsX10_isPerson) := goodIn_app (goodIn_of _ (by decide +kernel)) ggX10_older_X10_isPerson
set_option maxRecDepth 20000 in
theorem ggX10_older_X10_isVillage : GoodIn wsX10_older wsX10_isVillage := goodIn_r _ [16, 9, 10, 11, 7, 12, 21, 22, 23, 24, 25, 26, 27, 28, 29, 30, 31, 32, 33, 34, 35, 36, 37, 38, 39, 40, 41, 42, 43, 44, 45, 46, 47, 48, 49, 50] (by decide +kernel) (by decide +kernel)
set_option maxRecDepth 20000 in
theorem gX10_older_X10_isVillage : GoodIn wsX10_older (wsV RX10 180 RX10 yX10_isVillage wsX10_isVillage) := goodIn_app (goodIn_of _ (by decide +kernel)) ggX10_older_X10_isVillage
set_option maxRecDepth 20000 in
theorem ggX10_older_X10_ageOf : GoodIn wsX10_older wsX10_ageOf := goodIn_r _ [20, 3, 21, 22, 23, 24, 25, 26, 27, 28, 29, 30, 31, 32, 33, 34, 35, 36, 37, 38, 39, 40, 41, 42, 43, 44, 45, 46, 47, 48, 49, 50] (by decide +kernel) (by decide +kernel)
set_option maxRecDepth 20000 in
theorem gX10_older_X10_ageOf : GoodIn wsX10_older (wsV RX10 191 RX10 yX10_ageOf wsX10_ageOf) := goodIn_app (goodIn_of _ (by decide +kernel)) ggX10_older_X10_ageOf
theorem dX10_older_0 : decode cX10_older 0 = .ok (.aload_n 0, 1) := by decide +kernel
theorem dX10_older_1 : decode cX10_older 1 = .ok (.iload_n 1, 1) := by decide +kernel
theorem dX10_older_2 : decode cX10_older 2 = .ok (.invokevirtual 188, 3) := by decide +kernel
theorem dX10_older_5 : decode cX10_older 5 = .ok (.ifCond .eq 11, 3) := by decide +kernel
theorem dX10_older_8 : decode cX10_older 8 = .ok (.aload_n 0, 1) := by decide +kernel
theorem dX10_older_9 : decode cX10_older 9 = .ok (.iload_n 2, 1) := by decide +kernel
theorem dX10_older_10 : decode cX10_older 10 = .ok (.invokevirtual 180, 3) := by decide +kernel
theorem dX10_older_13 : decode cX10_older 13 = .ok (.ifCond .ne 6, 3) := by decide +kernel
theorem dX10_older_16 : decode cX10_older 16 = .ok (.ldc 184, 2) := by decide +kernel
theorem dX10_older_18 : decode cX10_older 18 = .ok (.ireturn, 1) := by decide +kernel
theorem dX10_older_19 : decode cX10_older 19 = .ok (.aload_n 0, 1) := by decide +kernel
theorem dX10_older_20 : decode cX10_older 20 = .ok (.getfield 47, 3) := by decide +kernel
theorem dX10_older_23 : decode cX10_older 23 = .ok (.bipush 13, 2) := by decide +kernel
theorem dX10_older_25 : decode cX10_older 25 = .ok (.iconst 2, 1) := by decide +kernel
theorem dX10_older_26 : decode cX10_older 26 = .ok (.iload_n 1, 1) := by decide +kernel
theorem dX10_older_27 : decode cX10_older 27 = .ok (.imul, 1) := by decide +kernel
theorem dX10_older_28 : decode cX10_older 28 = .ok (.iadd, 1) := by decide +kernel
theorem dX10_older_29 : decode cX10_older 29 = .ok (.iconst 1, 1) := by decide +kernel
theorem dX10_older_30 : decode cX10_older 30 = .ok (.iadd, 1) := by decide +kernel
theorem dX10_older_31 : decode cX10_older 31 = .ok (.iaload, 1) := by decide +kernel
theorem dX10_older_32 : decode cX10_older 32 = .ok (.aload_n 0, 1) := by decide +kernel
theorem dX10_older_33 : decode cX10_older 33 = .ok (.getfield 23, 3) := by decide +kernel
theorem dX10_older_36 : decode cX10_older 36 = .ok (.iconst 5, 1) := by decide +kernel
theorem dX10_older_37 : decode cX10_older 37 = .ok (.iload_n 2, 1) := by decide +kernel
theorem dX10_older_38 : decode cX10_older 38 = .ok (.imul, 1) := by decide +kernel
theorem dX10_older_39 : decode cX10_older 39 = .ok (.iconst 4, 1) := by decide +kernel
theorem dX10_older_40 : decode cX10_older 40 = .ok (.iadd, 1) := by decide +kernel
theorem dX10_older_41 : decode cX10_older 41 = .ok (.iaload, 1) := by decide +kernel
theorem dX10_older_42 : decode cX10_older 42 = .ok (.idiv, 1) := by decide +kernel
theorem dX10_older_43 : decode cX10_older 43 = .ok (.aload_n 0, 1) := by decide +kernel
theorem dX10_older_44 : decode cX10_older 44 = .ok (.aload_n 0, 1) := by decide +kernel
theorem dX10_older_45 : decode cX10_older 45 = .ok (.getfield 47, 3) := by decide +kernel
theorem dX10_older_48 : decode cX10_older 48 = .ok (.iload_n 1, 1) := by decide +kernel
theorem dX10_older_49 : decode cX10_older 49 = .ok (.invokevirtual 191, 3) := by decide +kernel
theorem dX10_older_52 : decode cX10_older 52 = .ok (.isub, 1) := by decide +kernel
theorem dX10_older_53 : decode cX10_older 53 = .ok (.sipush 1000, 3) := by decide +kernel
theorem dX10_older_56 : decode cX10_older 56 = .ok (.iadd, 1) := by decide +kernel
theorem dX10_older_57 : decode cX10_older 57 = .ok (.ireturn, 1) := by decide +kernel
set_option maxRecDepth 20000 in
theorem ggX10_chance_X10_isDebt : GoodIn wsX10_chance wsX10_isDebt := goodIn_r _ [15, 8, 16, 17, 14, 18, 31, 32, 33, 34, 35, 36, 37, 38, 39, 40, 41, 42, 43, 44, 45, 46, 47, 48, 49, 50, 51, 52, 53, 54, 55, 56, 57, 58, 59, 60] (by decide +kernel) (by decide +kernel)
set_option maxRecDepth 20000 in
theorem gX10_chance_X10_isDebt : GoodIn wsX10_chance (wsV RX10 194 RX10 yX10_isDebt wsX10_isDebt) := goodIn_app (goodIn_of _ (by decide +kernel)) ggX10_chance_X10_isDebt
set_option maxRecDepth 20000 in
theorem ggX10_chance_X10_in : GoodIn wsX10_chance wsX10_in := goodIn_r _ [18] (by decide +kernel) (by decide +kernel)
set_option maxRecDepth 20000 in
theorem gX10_chance_X10_in : GoodIn wsX10_chance (va_wsS RX10 81 yX10_in wsX10_in) := goodIn_app (goodIn_of _ (by decide +kernel)) ggX10_chance_X10_in
set_option maxRecDepth 20000 in
theorem ggX10_chance_X10_sinceOf : GoodIn wsX10_chance wsX10_sinceOf := goodIn_r _ [22, 10, 31, 32, 33, 34, 35, 36, 37, 38, 39, 40, 41, 42, 43, 44, 45, 46, 47, 48, 49, 50, 51, 52, 53, 54, 55, 56, 57, 58, 59, 60] (by decide +kernel) (by decide +kernel)
set_option maxRecDepth 20000 in
theorem gX10_chance_X10_sinceOf : GoodIn wsX10_chance (wsV RX10 156 RX10 yX10_sinceOf wsX10_sinceOf) := goodIn_app (goodIn_of _ (by decide +kernel)) ggX10_chance_X10_sinceOf
set_option maxRecDepth 20000 in
theorem ggX10_chance_X10_fallsOf : GoodIn wsX10_chance wsX10_fallsOf := goodIn_r _ [26, 27, 31, 32, 33, 34, 35, 36, 37, 38, 39, 40, 41, 42, 43, 44, 45, 46, 47, 48, 49, 50, 51, 52, 53, 54, 55, 56, 57, 58, 59, 60] (by decide +kernel) (by decide +kernel)
set_option maxRecDepth 20000 in
theorem gX10_chance_X10_fallsOf : GoodIn wsX10_chance (wsV RX10 149 RX10 yX10_fallsOf wsX10_fallsOf) := goodIn_app (goodIn_of _ (by decide +kernel)) ggX10_chance_X10_fallsOf
set_option maxRecDepth 20000 in
theorem ggX10_chance_X10_copies : GoodIn wsX10_chance wsX10_copies := goodIn_r _ [30] (by decide +kernel) (by decide +kernel)
set_option maxRecDepth 20000 in
theorem gX10_chance_X10_copies : GoodIn wsX10_chance (va_wsS RX10 136 yX10_copies wsX10_copies) := goodIn_app (goodIn_of _ (by decide +kernel)) ggX10_chance_X10_copies
theorem dX10_chance_0 : decode cX10_chance 0 = .ok (.aload_n 0, 1) := by decide +kernel
theorem dX10_chance_1 : decode cX10_chance 1 = .ok (.iload_n 1, 1) := by decide +kernel
theorem dX10_chance_2 : decode cX10_chance 2 = .ok (.invokevirtual 194, 3) := by decide +kernel
theorem dX10_chance_5 : decode cX10_chance 5 = .ok (.ifCond .ne 6, 3) := by decide +kernel
theorem dX10_chance_8 : decode cX10_chance 8 = .ok (.ldc 184, 2) := by decide +kernel
theorem dX10_chance_10 : decode cX10_chance 10 = .ok (.ireturn, 1) := by decide +kernel
theorem dX10_chance_11 : decode cX10_chance 11 = .ok (.iload_n 2, 1) := by decide +kernel
theorem dX10_chance_12 : decode cX10_chance 12 = .ok (.iconst 0, 1) := by decide +kernel
theorem dX10_chance_13 : decode cX10_chance 13 = .ok (.bipush 30, 2) := by decide +kernel
theorem dX10_chance_15 : decode cX10_chance 15 = .ok (.invokestatic 81, 3) := by decide +kernel
theorem dX10_chance_18 : decode cX10_chance 18 = .ok (.ifCond .ne 6, 3) := by decide +kernel
theorem dX10_chance_21 : decode cX10_chance 21 = .ok (.ldc 85, 2) := by decide +kernel
theorem dX10_chance_23 : decode cX10_chance 23 = .ok (.ireturn, 1) := by decide +kernel
theorem dX10_chance_24 : decode cX10_chance 24 = .ok (.aload_n 0, 1) := by decide +kernel
theorem dX10_chance_25 : decode cX10_chance 25 = .ok (.getfield 47, 3) := by decide +kernel
theorem dX10_chance_28 : decode cX10_chance 28 = .ok (.bipush 25, 2) := by decide +kernel
theorem dX10_chance_30 : decode cX10_chance 30 = .ok (.iconst 2, 1) := by decide +kernel
theorem dX10_chance_31 : decode cX10_chance 31 = .ok (.iload_n 1, 1) := by decide +kernel
theorem dX10_chance_32 : decode cX10_chance 32 = .ok (.imul, 1) := by decide +kernel
theorem dX10_chance_33 : decode cX10_chance 33 = .ok (.iadd, 1) := by decide +kernel
theorem dX10_chance_34 : decode cX10_chance 34 = .ok (.iaload, 1) := by decide +kernel
theorem dX10_chance_35 : decode cX10_chance 35 = .ok (.ifCond .ne 6, 3) := by decide +kernel
theorem dX10_chance_38 : decode cX10_chance 38 = .ok (.ldc 179, 2) := by decide +kernel
theorem dX10_chance_40 : decode cX10_chance 40 = .ok (.ireturn, 1) := by decide +kernel
theorem dX10_chance_41 : decode cX10_chance 41 = .ok (.aload_n 0, 1) := by decide +kernel
theorem dX10_chance_42 : decode cX10_chance 42 = .ok (.getfield 47, 3) := by decide +kernel
theorem dX10_chance_45 : decode cX10_chance 45 = .ok (.bipush 25, 2) := by decide +kernel
theorem dX10_chance_47 : decode cX10_chance 47 = .ok (.iconst 2, 1) := by decide +kernel
theorem dX10_chance_48 : decode cX10_chance 48 = .ok (.iload_n 1, 1) := by decide +kernel
theorem dX10_chance_49 : decode cX10_chance 49 = .ok (.imul, 1) := by decide +kernel
theorem dX10_chance_50 : decode cX10_chance 50 = .ok (.iadd, 1) := by decide +kernel
theorem dX10_chance_51 : decode cX10_chance 51 = .ok (.iaload, 1) := by decide +kernel
theorem dX10_chance_52 : decode cX10_chance 52 = .ok (.aload_n 0, 1) := by decide +kernel
theorem dX10_chance_53 : decode cX10_chance 53 = .ok (.aload_n 0, 1) := by decide +kernel
theorem dX10_chance_54 : decode cX10_chance 54 = .ok (.getfield 47, 3) := by decide +kernel
theorem dX10_chance_57 : decode cX10_chance 57 = .ok (.iload_n 1, 1) := by decide +kernel
theorem dX10_chance_58 : decode cX10_chance 58 = .ok (.invokevirtual 156, 3) := by decide +kernel
theorem dX10_chance_61 : decode cX10_chance 61 = .ok (.isub, 1) := by decide +kernel
theorem dX10_chance_62 : decode cX10_chance 62 = .ok (.istore_n 3, 1) := by decide +kernel
theorem dX10_chance_63 : decode cX10_chance 63 = .ok (.iconst 0, 1) := by decide +kernel
theorem dX10_chance_64 : decode cX10_chance 64 = .ok (.istore 4, 2) := by decide +kernel
theorem dX10_chance_66 : decode cX10_chance 66 = .ok (.iload 4, 2) := by decide +kernel
theorem dX10_chance_68 : decode cX10_chance 68 = .ok (.sipush 1000, 3) := by decide +kernel
theorem dX10_chance_71 : decode cX10_chance 71 = .ok (.if_icmp .ge 17, 3) := by decide +kernel
theorem dX10_chance_74 : decode cX10_chance 74 = .ok (.aload_n 0, 1) := by decide +kernel
theorem dX10_chance_75 : decode cX10_chance 75 = .ok (.getfield 72, 3) := by decide +kernel
theorem dX10_chance_78 : decode cX10_chance 78 = .ok (.iload 4, 2) := by decide +kernel
theorem dX10_chance_80 : decode cX10_chance 80 = .ok (.iconst 0, 1) := by decide +kernel
theorem dX10_chance_81 : decode cX10_chance 81 = .ok (.iastore, 1) := by decide +kernel
theorem dX10_chance_82 : decode cX10_chance 82 = .ok (.iinc 4 1, 3) := by decide +kernel
theorem dX10_chance_85 : decode cX10_chance 85 = .ok (.goto (-19), 3) := by decide +kernel
theorem dX10_chance_88 : decode cX10_chance 88 = .ok (.aload_n 0, 1) := by decide +kernel
theorem dX10_chance_89 : decode cX10_chance 89 = .ok (.getfield 72, 3) := by decide +kernel
theorem dX10_chance_92 : decode cX10_chance 92 = .ok (.iload_n 3, 1) := by decide +kernel
theorem dX10_chance_93 : decode cX10_chance 93 = .ok (.ifCond .ge 7, 3) := by decide +kernel
theorem dX10_chance_96 : decode cX10_chance 96 = .ok (.iconst 0, 1) := by decide +kernel
theorem dX10_chance_97 : decode cX10_chance 97 = .ok (.goto 4, 3) := by decide +kernel
theorem dX10_chance_100 : decode cX10_chance 100 = .ok (.iload_n 3, 1) := by decide +kernel
theorem dX10_chance_101 : decode cX10_chance 101 = .ok (.ldc 228, 2) := by decide +kernel
theorem dX10_chance_103 : decode cX10_chance 103 = .ok (.iastore, 1) := by decide +kernel
theorem dX10_chance_104 : decode cX10_chance 104 = .ok (.iconst 0, 1) := by decide +kernel
theorem dX10_chance_105 : decode cX10_chance 105 = .ok (.istore 4, 2) := by decide +kernel
theorem dX10_chance_107 : decode cX10_chance 107 = .ok (.iload 4, 2) := by decide +kernel
theorem dX10_chance_109 : decode cX10_chance 109 = .ok (.iload_n 2, 1) := by decide +kernel
theorem dX10_chance_110 : decode cX10_chance 110 = .ok (.if_icmp .ge 167, 3) := by decide +kernel
theorem dX10_chance_113 : decode cX10_chance 113 = .ok (.iconst 0, 1) := by decide +kernel
theorem dX10_chance_114 : decode cX10_chance 114 = .ok (.istore 5, 2) := by decide +kernel
theorem dX10_chance_116 : decode cX10_chance 116 = .ok (.iload 5, 2) := by decide +kernel
theorem dX10_chance_118 : decode cX10_chance 118 = .ok (.sipush 1000, 3) := by decide +kernel
theorem dX10_chance_121 : decode cX10_chance 121 = .ok (.if_icmp .ge 31, 3) := by decide +kernel
theorem dX10_chance_124 : decode cX10_chance 124 = .ok (.aload_n 0, 1) := by decide +kernel
theorem dX10_chance_125 : decode cX10_chance 125 = .ok (.getfield 75, 3) := by decide +kernel
theorem dX10_chance_128 : decode cX10_chance 128 = .ok (.iload 5, 2) := by decide +kernel
theorem dX10_chance_130 : decode cX10_chance 130 = .ok (.iload 5, 2) := by decide +kernel
theorem dX10_chance_132 : decode cX10_chance 132 = .ok (.ifCond .ne 12, 3) := by decide +kernel
theorem dX10_chance_135 : decode cX10_chance 135 = .ok (.aload_n 0, 1) := by decide +kernel
theorem dX10_chance_136 : decode cX10_chance 136 = .ok (.getfield 72, 3) := by decide +kernel
theorem dX10_chance_139 : decode cX10_chance 139 = .ok (.iconst 0, 1) := by decide +kernel
theorem dX10_chance_140 : decode cX10_chance 140 = .ok (.iaload, 1) := by decide +kernel
theorem dX10_chance_141 : decode cX10_chance 141 = .ok (.goto 4, 3) := by decide +kernel
theorem dX10_chance_144 : decode cX10_chance 144 = .ok (.iconst 0, 1) := by decide +kernel
theorem dX10_chance_145 : decode cX10_chance 145 = .ok (.iastore, 1) := by decide +kernel
theorem dX10_chance_146 : decode cX10_chance 146 = .ok (.iinc 5 1, 3) := by decide +kernel
theorem dX10_chance_149 : decode cX10_chance 149 = .ok (.goto (-33), 3) := by decide +kernel
theorem dX10_chance_152 : decode cX10_chance 152 = .ok (.iconst 1, 1) := by decide +kernel
theorem dX10_chance_153 : decode cX10_chance 153 = .ok (.istore 5, 2) := by decide +kernel
theorem dX10_chance_155 : decode cX10_chance 155 = .ok (.iload 5, 2) := by decide +kernel
theorem dX10_chance_157 : decode cX10_chance 157 = .ok (.sipush 1000, 3) := by decide +kernel
theorem dX10_chance_160 : decode cX10_chance 160 = .ok (.if_icmp .ge 95, 3) := by decide +kernel
theorem dX10_chance_163 : decode cX10_chance 163 = .ok (.aload_n 0, 1) := by decide +kernel
theorem dX10_chance_164 : decode cX10_chance 164 = .ok (.getfield 72, 3) := by decide +kernel
theorem dX10_chance_167 : decode cX10_chance 167 = .ok (.iload 5, 2) := by decide +kernel
theorem dX10_chance_169 : decode cX10_chance 169 = .ok (.iaload, 1) := by decide +kernel
theorem dX10_chance_170 : decode cX10_chance 170 = .ok (.aload_n 0, 1) := by decide +kernel
theorem dX10_chance_171 : decode cX10_chance 171 = .ok (.getfield 17, 3) := by decide +kernel
theorem dX10_chance_174 : decode cX10_chance 174 = .ok (.iconst 0, 1) := by decide +kernel
theorem dX10_chance_175 : decode cX10_chance 175 = .ok (.iaload, 1) := by decide +kernel
theorem dX10_chance_176 : decode cX10_chance 176 = .ok (.idiv, 1) := by decide +kernel
theorem dX10_chance_177 : decode cX10_chance 177 = .ok (.istore 6, 2) := by decide +kernel
theorem dX10_chance_179 : decode cX10_chance 179 = .ok (.iconst 0, 1) := by decide +kernel
theorem dX10_chance_180 : decode cX10_chance 180 = .ok (.istore 7, 2) := by decide +kernel
theorem dX10_chance_182 : decode cX10_chance 182 = .ok (.iload 7, 2) := by decide +kernel
theorem dX10_chance_184 : decode cX10_chance 184 = .ok (.aload_n 0, 1) := by decide +kernel
theorem dX10_chance_185 : decode cX10_chance 185 = .ok (.getfield 17, 3) := by decide +kernel
theorem dX10_chance_188 : decode cX10_chance 188 = .ok (.iconst 0, 1) := by decide +kernel
theorem dX10_chance_189 : decode cX10_chance 189 = .ok (.iaload, 1) := by decide +kernel
theorem dX10_chance_190 : decode cX10_chance 190 = .ok (.if_icmp .ge 59, 3) := by decide +kernel
theorem dX10_chance_193 : decode cX10_chance 193 = .ok (.iload 6, 2) := by decide +kernel
theorem dX10_chance_195 : decode cX10_chance 195 = .ok (.ifCond .le 54, 3) := by decide +kernel
theorem dX10_chance_198 : decode cX10_chance 198 = .ok (.iload 5, 2) := by decide +kernel
theorem dX10_chance_200 : decode cX10_chance 200 = .ok (.aload_n 0, 1) := by decide +kernel
theorem dX10_chance_201 : decode cX10_chance 201 = .ok (.aload_n 0, 1) := by decide +kernel
theorem dX10_chance_202 : decode cX10_chance 202 = .ok (.getfield 20, 3) := by decide +kernel
theorem dX10_chance_205 : decode cX10_chance 205 = .ok (.iload 7, 2) := by decide +kernel
theorem dX10_chance_207 : decode cX10_chance 207 = .ok (.iaload, 1) := by decide +kernel
theorem dX10_chance_208 : decode cX10_chance 208 = .ok (.aload_n 0, 1) := by decide +kernel
theorem dX10_chance_209 : decode cX10_chance 209 = .ok (.getfield 29, 3) := by decide +kernel
theorem dX10_chance_212 : decode cX10_chance 212 = .ok (.iconst 2, 1) := by decide +kernel
theorem dX10_chance_213 : decode cX10_chance 213 = .ok (.iload_n 1, 1) := by decide +kernel
theorem dX10_chance_214 : decode cX10_chance 214 = .ok (.imul, 1) := by decide +kernel
theorem dX10_chance_215 : decode cX10_chance 215 = .ok (.iaload, 1) := by decide +kernel
theorem dX10_chance_216 : decode cX10_chance 216 = .ok (.invokevirtual 149, 3) := by decide +kernel
theorem dX10_chance_219 : decode cX10_chance 219 = .ok (.isub, 1) := by decide +kernel
theorem dX10_chance_220 : decode cX10_chance 220 = .ok (.istore 8, 2) := by decide +kernel
theorem dX10_chance_222 : decode cX10_chance 222 = .ok (.aload_n 0, 1) := by decide +kernel
theorem dX10_chance_223 : decode cX10_chance 223 = .ok (.getfield 75, 3) := by decide +kernel
theorem dX10_chance_226 : decode cX10_chance 226 = .ok (.iload 8, 2) := by decide +kernel
theorem dX10_chance_228 : decode cX10_chance 228 = .ok (.ifCond .ge 7, 3) := by decide +kernel
theorem dX10_chance_231 : decode cX10_chance 231 = .ok (.iconst 0, 1) := by decide +kernel
theorem dX10_chance_232 : decode cX10_chance 232 = .ok (.goto 5, 3) := by decide +kernel
theorem dX10_chance_235 : decode cX10_chance 235 = .ok (.iload 8, 2) := by decide +kernel
theorem dX10_chance_237 : decode cX10_chance 237 = .ok (.dup2, 1) := by decide +kernel
theorem dX10_chance_238 : decode cX10_chance 238 = .ok (.iaload, 1) := by decide +kernel
theorem dX10_chance_239 : decode cX10_chance 239 = .ok (.iload 6, 2) := by decide +kernel
theorem dX10_chance_241 : decode cX10_chance 241 = .ok (.iadd, 1) := by decide +kernel
theorem dX10_chance_242 : decode cX10_chance 242 = .ok (.iastore, 1) := by decide +kernel
theorem dX10_chance_243 : decode cX10_chance 243 = .ok (.iinc 7 1, 3) := by decide +kernel
theorem dX10_chance_246 : decode cX10_chance 246 = .ok (.goto (-64), 3) := by decide +kernel
theorem dX10_chance_249 : decode cX10_chance 249 = .ok (.iinc 5 1, 3) := by decide +kernel
theorem dX10_chance_252 : decode cX10_chance 252 = .ok (.goto (-97), 3) := by decide +kernel
theorem dX10_chance_255 : decode cX10_chance 255 = .ok (.aload_n 0, 1) := by decide +kernel
theorem dX10_chance_256 : decode cX10_chance 256 = .ok (.getfield 75, 3) := by decide +kernel
theorem dX10_chance_259 : decode cX10_chance 259 = .ok (.iconst 0, 1) := by decide +kernel
theorem dX10_chance_260 : decode cX10_chance 260 = .ok (.aload_n 0, 1) := by decide +kernel
theorem dX10_chance_261 : decode cX10_chance 261 = .ok (.getfield 72, 3) := by decide +kernel
theorem dX10_chance_264 : decode cX10_chance 264 = .ok (.iconst 0, 1) := by decide +kernel
theorem dX10_chance_265 : decode cX10_chance 265 = .ok (.sipush 1000, 3) := by decide +kernel
theorem dX10_chance_268 : decode cX10_chance 268 = .ok (.invokestatic 136, 3) := by decide +kernel
theorem dX10_chance_271 : decode cX10_chance 271 = .ok (.iinc 4 1, 3) := by decide +kernel
theorem dX10_chance_274 : decode cX10_chance 274 = .ok (.goto (-167), 3) := by decide +kernel
theorem dX10_chance_277 : decode cX10_chance 277 = .ok (.aload_n 0, 1) := by decide +kernel
theorem dX10_chance_278 : decode cX10_chance 278 = .ok (.getfield 72, 3) := by decide +kernel
theorem dX10_chance_281 : decode cX10_chance 281 = .ok (.iconst 0, 1) := by decide +kernel
theorem dX10_chance_282 : decode cX10_chance 282 = .ok (.iaload, 1) := by decide +kernel
theorem dX10_chance_283 : decode cX10_chance 283 = .ok (.ireturn, 1) := by decide +kernel
set_option maxRecDepth 20000 in
theorem ggX10_areAlike_X10_isFall : GoodIn wsX10_areAlike wsX10_isFall := goodIn_r _ [8, 9, 10, 11, 7, 12, 13, 14, 15, 16, 17, 18, 19, 20, 21, 22, 23, 24, 25, 26, 27, 28, 29, 30, 31, 32, 33, 34, 35, 36, 37, 38, 39, 40, 41, 42, 43, 44, 45, 46, 47] (by decide +kernel) (by decide +kernel)
set_option maxRecDepth 20000 in
theorem gX10_areAlike_X10_isFall : GoodIn wsX10_areAlike (wsV RX10 164 RX10 yX10_isFall wsX10_isFall) := goodIn_app (goodIn_of _ (by decide +kernel)) ggX10_areAlike_X10_isFall
theorem dX10_areAlike_0 : decode cX10_areAlike 0 = .ok (.iconst 1, 1) := by decide +kernel
theorem dX10_areAlike_1 : decode cX10_areAlike 1 = .ok (.istore_n 3, 1) := by decide +kernel
theorem dX10_areAlike_2 : decode cX10_areAlike 2 = .ok (.iconst 0, 1) := by decide +kernel
theorem dX10_areAlike_3 : decode cX10_areAlike 3 = .ok (.istore 4, 2) := by decide +kernel
theorem dX10_areAlike_5 : decode cX10_areAlike 5 = .ok (.iload 4, 2) := by decide +kernel
theorem dX10_areAlike_7 : decode cX10_areAlike 7 = .ok (.bipush 40, 2) := by decide +kernel
theorem dX10_areAlike_9 : decode cX10_areAlike 9 = .ok (.if_icmp .ge 59, 3) := by decide +kernel
theorem dX10_areAlike_12 : decode cX10_areAlike 12 = .ok (.aload_n 0, 1) := by decide +kernel
theorem dX10_areAlike_13 : decode cX10_areAlike 13 = .ok (.getfield 20, 3) := by decide +kernel
theorem dX10_areAlike_16 : decode cX10_areAlike 16 = .ok (.aload_n 0, 1) := by decide +kernel
theorem dX10_areAlike_17 : decode cX10_areAlike 17 = .ok (.getfield 47, 3) := by decide +kernel
theorem dX10_areAlike_20 : decode cX10_areAlike 20 = .ok (.iconst 0, 1) := by decide +kernel
theorem dX10_areAlike_21 : decode cX10_areAlike 21 = .ok (.iaload, 1) := by decide +kernel
theorem dX10_areAlike_22 : decode cX10_areAlike 22 = .ok (.iload 4, 2) := by decide +kernel
theorem dX10_areAlike_24 : decode cX10_areAlike 24 = .ok (.iadd, 1) := by decide +kernel
theorem dX10_areAlike_25 : decode cX10_areAlike 25 = .ok (.aload_n 0, 1) := by decide +kernel
theorem dX10_areAlike_26 : decode cX10_areAlike 26 = .ok (.getfield 17, 3) := by decide +kernel
theorem dX10_areAlike_29 : decode cX10_areAlike 29 = .ok (.iconst 0, 1) := by decide +kernel
theorem dX10_areAlike_30 : decode cX10_areAlike 30 = .ok (.iaload, 1) := by decide +kernel
theorem dX10_areAlike_31 : decode cX10_areAlike 31 = .ok (.irem, 1) := by decide +kernel
theorem dX10_areAlike_32 : decode cX10_areAlike 32 = .ok (.iaload, 1) := by decide +kernel
theorem dX10_areAlike_33 : decode cX10_areAlike 33 = .ok (.istore 5, 2) := by decide +kernel
theorem dX10_areAlike_35 : decode cX10_areAlike 35 = .ok (.iload_n 3, 1) := by decide +kernel
theorem dX10_areAlike_36 : decode cX10_areAlike 36 = .ok (.ifCond .eq 24, 3) := by decide +kernel
theorem dX10_areAlike_39 : decode cX10_areAlike 39 = .ok (.aload_n 0, 1) := by decide +kernel
theorem dX10_areAlike_40 : decode cX10_areAlike 40 = .ok (.iload 5, 2) := by decide +kernel
theorem dX10_areAlike_42 : decode cX10_areAlike 42 = .ok (.iload_n 1, 1) := by decide +kernel
theorem dX10_areAlike_43 : decode cX10_areAlike 43 = .ok (.invokevirtual 164, 3) := by decide +kernel
theorem dX10_areAlike_46 : decode cX10_areAlike 46 = .ok (.aload_n 0, 1) := by decide +kernel
theorem dX10_areAlike_47 : decode cX10_areAlike 47 = .ok (.iload 5, 2) := by decide +kernel
theorem dX10_areAlike_49 : decode cX10_areAlike 49 = .ok (.iload_n 2, 1) := by decide +kernel
theorem dX10_areAlike_50 : decode cX10_areAlike 50 = .ok (.invokevirtual 164, 3) := by decide +kernel
theorem dX10_areAlike_53 : decode cX10_areAlike 53 = .ok (.if_icmp .ne 7, 3) := by decide +kernel
theorem dX10_areAlike_56 : decode cX10_areAlike 56 = .ok (.iconst 1, 1) := by decide +kernel
theorem dX10_areAlike_57 : decode cX10_areAlike 57 = .ok (.goto 4, 3) := by decide +kernel
theorem dX10_areAlike_60 : decode cX10_areAlike 60 = .ok (.iconst 0, 1) := by decide +kernel
theorem dX10_areAlike_61 : decode cX10_areAlike 61 = .ok (.istore_n 3, 1) := by decide +kernel
theorem dX10_areAlike_62 : decode cX10_areAlike 62 = .ok (.iinc 4 1, 3) := by decide +kernel
theorem dX10_areAlike_65 : decode cX10_areAlike 65 = .ok (.goto (-60), 3) := by decide +kernel
theorem dX10_areAlike_68 : decode cX10_areAlike 68 = .ok (.iload_n 3, 1) := by decide +kernel
theorem dX10_areAlike_69 : decode cX10_areAlike 69 = .ok (.ireturn, 1) := by decide +kernel
set_option maxRecDepth 20000 in
theorem ggX10_poles_X10_areAlike : GoodIn wsX10_poles wsX10_areAlike := goodIn_r _ [6, 7, 8, 1, 9, 10, 11, 5, 12, 13, 14, 15, 16, 17, 18, 19, 20, 21, 22, 23, 24, 25, 26, 27, 28, 29, 30, 31, 32, 33, 34, 35, 36, 37, 38, 39, 40, 41, 42, 43, 44, 45, 46, 47, 48, 49, 50, 51] (by decide +kernel) (by decide +kernel)
set_option maxRecDepth 20000 in
theorem gX10_poles_X10_areAlike : GoodIn wsX10_poles (wsV RX10 229 RX10 yX10_areAlike wsX10_areAlike) := goodIn_app (goodIn_of _ (by decide +kernel)) ggX10_poles_X10_areAlike
theorem dX10_poles_0 : decode cX10_poles 0 = .ok (.iconst 0, 1) := by decide +kernel
theorem dX10_poles_1 : decode cX10_poles 1 = .ok (.istore_n 1, 1) := by decide +kernel
theorem dX10_poles_2 : decode cX10_poles 2 = .ok (.iconst 0, 1) := by decide +kernel
theorem dX10_poles_3 : decode cX10_poles 3 = .ok (.istore_n 2, 1) := by decide +kernel
theorem dX10_poles_4 : decode cX10_poles 4 = .ok (.iload_n 2, 1) := by decide +kernel
theorem dX10_poles_5 : decode cX10_poles 5 = .ok (.aload_n 0, 1) := by decide +kernel
theorem dX10_poles_6 : decode cX10_poles 6 = .ok (.getfield 17, 3) := by decide +kernel
theorem dX10_poles_9 : decode cX10_poles 9 = .ok (.iconst 1, 1) := by decide +kernel
theorem dX10_poles_10 : decode cX10_poles 10 = .ok (.iaload, 1) := by decide +kernel
theorem dX10_poles_11 : decode cX10_poles 11 = .ok (.if_icmp .ge 58, 3) := by decide +kernel
theorem dX10_poles_14 : decode cX10_poles 14 = .ok (.iconst 1, 1) := by decide +kernel
theorem dX10_poles_15 : decode cX10_poles 15 = .ok (.istore_n 3, 1) := by decide +kernel
theorem dX10_poles_16 : decode cX10_poles 16 = .ok (.iconst 0, 1) := by decide +kernel
theorem dX10_poles_17 : decode cX10_poles 17 = .ok (.istore 4, 2) := by decide +kernel
theorem dX10_poles_19 : decode cX10_poles 19 = .ok (.iload 4, 2) := by decide +kernel
theorem dX10_poles_21 : decode cX10_poles 21 = .ok (.iload_n 2, 1) := by decide +kernel
theorem dX10_poles_22 : decode cX10_poles 22 = .ok (.if_icmp .ge 29, 3) := by decide +kernel
theorem dX10_poles_25 : decode cX10_poles 25 = .ok (.iload_n 3, 1) := by decide +kernel
theorem dX10_poles_26 : decode cX10_poles 26 = .ok (.ifCond .eq 17, 3) := by decide +kernel
theorem dX10_poles_29 : decode cX10_poles 29 = .ok (.aload_n 0, 1) := by decide +kernel
theorem dX10_poles_30 : decode cX10_poles 30 = .ok (.iload_n 2, 1) := by decide +kernel
theorem dX10_poles_31 : decode cX10_poles 31 = .ok (.iload 4, 2) := by decide +kernel
theorem dX10_poles_33 : decode cX10_poles 33 = .ok (.invokevirtual 229, 3) := by decide +kernel
theorem dX10_poles_36 : decode cX10_poles 36 = .ok (.ifCond .ne 7, 3) := by decide +kernel
theorem dX10_poles_39 : decode cX10_poles 39 = .ok (.iconst 1, 1) := by decide +kernel
theorem dX10_poles_40 : decode cX10_poles 40 = .ok (.goto 4, 3) := by decide +kernel
theorem dX10_poles_43 : decode cX10_poles 43 = .ok (.iconst 0, 1) := by decide +kernel
theorem dX10_poles_44 : decode cX10_poles 44 = .ok (.istore_n 3, 1) := by decide +kernel
theorem dX10_poles_45 : decode cX10_poles 45 = .ok (.iinc 4 1, 3) := by decide +kernel
theorem dX10_poles_48 : decode cX10_poles 48 = .ok (.goto (-29), 3) := by decide +kernel
theorem dX10_poles_51 : decode cX10_poles 51 = .ok (.iload_n 1, 1) := by decide +kernel
theorem dX10_poles_52 : decode cX10_poles 52 = .ok (.iload_n 3, 1) := by decide +kernel
theorem dX10_poles_53 : decode cX10_poles 53 = .ok (.ifCond .eq 7, 3) := by decide +kernel
theorem dX10_poles_56 : decode cX10_poles 56 = .ok (.iconst 1, 1) := by decide +kernel
theorem dX10_poles_57 : decode cX10_poles 57 = .ok (.goto 4, 3) := by decide +kernel
theorem dX10_poles_60 : decode cX10_poles 60 = .ok (.iconst 0, 1) := by decide +kernel
theorem dX10_poles_61 : decode cX10_poles 61 = .ok (.iadd, 1) := by decide +kernel
theorem dX10_poles_62 : decode cX10_poles 62 = .ok (.istore_n 1, 1) := by decide +kernel
theorem dX10_poles_63 : decode cX10_poles 63 = .ok (.iinc 2 1, 3) := by decide +kernel
theorem dX10_poles_66 : decode cX10_poles 66 = .ok (.goto (-62), 3) := by decide +kernel
theorem dX10_poles_69 : decode cX10_poles 69 = .ok (.iload_n 1, 1) := by decide +kernel
theorem dX10_poles_70 : decode cX10_poles 70 = .ok (.ireturn, 1) := by decide +kernel
set_option maxRecDepth 20000 in
theorem ggX10_longest_X10_isVillage : GoodIn wsX10_longest wsX10_isVillage := goodIn_r _ [9, 4, 10, 11, 8, 12, 26, 27, 28, 29, 30, 31, 32, 33, 34, 35, 36, 37, 38, 39, 40, 41, 42, 43, 44, 45, 46, 47, 48, 49, 50, 51, 52, 53, 54, 55] (by decide +kernel) (by decide +kernel)
set_option maxRecDepth 20000 in
theorem gX10_longest_X10_isVillage : GoodIn wsX10_longest (wsV RX10 180 RX10 yX10_isVillage wsX10_isVillage) := goodIn_app (goodIn_of _ (by decide +kernel)) ggX10_longest_X10_isVillage
set_option maxRecDepth 20000 in
theorem ggX10_longest_X10_isFall : GoodIn wsX10_longest wsX10_isFall := goodIn_r _ [16, 17, 18, 19, 8, 20, 21, 22, 23, 24, 25, 26, 27, 28, 29, 30, 31, 32, 33, 34, 35, 36, 37, 38, 39, 40, 41, 42, 43, 44, 45, 46, 47, 48, 49, 50, 51, 52, 53, 54, 55] (by decide +kernel) (by decide +kernel)
set_option maxRecDepth 20000 in
theorem gX10_longest_X10_isFall : GoodIn wsX10_longest (wsV RX10 164 RX10 yX10_isFall wsX10_isFall) := goodIn_app (goodIn_of _ (by decide +kernel)) ggX10_longest_X10_isFall
theorem dX10_longest_0 : decode cX10_longest 0 = .ok (.aload_n 0, 1) := by decide +kernel
theorem dX10_longest_1 : decode cX10_longest 1 = .ok (.iload_n 1, 1) := by decide +kernel
theorem dX10_longest_2 : decode cX10_longest 2 = .ok (.invokevirtual 180, 3) := by decide +kernel
theorem dX10_longest_5 : decode cX10_longest 5 = .ok (.ifCond .ne 6, 3) := by decide +kernel
theorem dX10_longest_8 : decode cX10_longest 8 = .ok (.ldc 184, 2) := by decide +kernel
theorem dX10_longest_10 : decode cX10_longest 10 = .ok (.ireturn, 1) := by decide +kernel
theorem dX10_longest_11 : decode cX10_longest 11 = .ok (.iconst 0, 1) := by decide +kernel
theorem dX10_longest_12 : decode cX10_longest 12 = .ok (.istore_n 2, 1) := by decide +kernel
theorem dX10_longest_13 : decode cX10_longest 13 = .ok (.iconst 0, 1) := by decide +kernel
theorem dX10_longest_14 : decode cX10_longest 14 = .ok (.istore_n 3, 1) := by decide +kernel
theorem dX10_longest_15 : decode cX10_longest 15 = .ok (.iconst 0, 1) := by decide +kernel
theorem dX10_longest_16 : decode cX10_longest 16 = .ok (.istore 4, 2) := by decide +kernel
theorem dX10_longest_18 : decode cX10_longest 18 = .ok (.iload 4, 2) := by decide +kernel
theorem dX10_longest_20 : decode cX10_longest 20 = .ok (.bipush 100, 2) := by decide +kernel
theorem dX10_longest_22 : decode cX10_longest 22 = .ok (.if_icmp .ge 57, 3) := by decide +kernel
theorem dX10_longest_25 : decode cX10_longest 25 = .ok (.aload_n 0, 1) := by decide +kernel
theorem dX10_longest_26 : decode cX10_longest 26 = .ok (.aload_n 0, 1) := by decide +kernel
theorem dX10_longest_27 : decode cX10_longest 27 = .ok (.getfield 20, 3) := by decide +kernel
theorem dX10_longest_30 : decode cX10_longest 30 = .ok (.aload_n 0, 1) := by decide +kernel
theorem dX10_longest_31 : decode cX10_longest 31 = .ok (.getfield 47, 3) := by decide +kernel
theorem dX10_longest_34 : decode cX10_longest 34 = .ok (.iconst 0, 1) := by decide +kernel
theorem dX10_longest_35 : decode cX10_longest 35 = .ok (.iaload, 1) := by decide +kernel
theorem dX10_longest_36 : decode cX10_longest 36 = .ok (.iload 4, 2) := by decide +kernel
theorem dX10_longest_38 : decode cX10_longest 38 = .ok (.iadd, 1) := by decide +kernel
theorem dX10_longest_39 : decode cX10_longest 39 = .ok (.aload_n 0, 1) := by decide +kernel
theorem dX10_longest_40 : decode cX10_longest 40 = .ok (.getfield 17, 3) := by decide +kernel
theorem dX10_longest_43 : decode cX10_longest 43 = .ok (.iconst 0, 1) := by decide +kernel
theorem dX10_longest_44 : decode cX10_longest 44 = .ok (.iaload, 1) := by decide +kernel
theorem dX10_longest_45 : decode cX10_longest 45 = .ok (.irem, 1) := by decide +kernel
theorem dX10_longest_46 : decode cX10_longest 46 = .ok (.iaload, 1) := by decide +kernel
theorem dX10_longest_47 : decode cX10_longest 47 = .ok (.iload_n 1, 1) := by decide +kernel
theorem dX10_longest_48 : decode cX10_longest 48 = .ok (.invokevirtual 164, 3) := by decide +kernel
theorem dX10_longest_51 : decode cX10_longest 51 = .ok (.ifCond .eq 7, 3) := by decide +kernel
theorem dX10_longest_54 : decode cX10_longest 54 = .ok (.iconst 0, 1) := by decide +kernel
theorem dX10_longest_55 : decode cX10_longest 55 = .ok (.goto 6, 3) := by decide +kernel
theorem dX10_longest_58 : decode cX10_longest 58 = .ok (.iload_n 3, 1) := by decide +kernel
theorem dX10_longest_59 : decode cX10_longest 59 = .ok (.iconst 1, 1) := by decide +kernel
theorem dX10_longest_60 : decode cX10_longest 60 = .ok (.iadd, 1) := by decide +kernel
theorem dX10_longest_61 : decode cX10_longest 61 = .ok (.istore_n 3, 1) := by decide +kernel
theorem dX10_longest_62 : decode cX10_longest 62 = .ok (.iload_n 3, 1) := by decide +kernel
theorem dX10_longest_63 : decode cX10_longest 63 = .ok (.iload_n 2, 1) := by decide +kernel
theorem dX10_longest_64 : decode cX10_longest 64 = .ok (.if_icmp .le 7, 3) := by decide +kernel
theorem dX10_longest_67 : decode cX10_longest 67 = .ok (.iload_n 3, 1) := by decide +kernel
theorem dX10_longest_68 : decode cX10_longest 68 = .ok (.goto 4, 3) := by decide +kernel
theorem dX10_longest_71 : decode cX10_longest 71 = .ok (.iload_n 2, 1) := by decide +kernel
theorem dX10_longest_72 : decode cX10_longest 72 = .ok (.istore_n 2, 1) := by decide +kernel
theorem dX10_longest_73 : decode cX10_longest 73 = .ok (.iinc 4 1, 3) := by decide +kernel
theorem dX10_longest_76 : decode cX10_longest 76 = .ok (.goto (-58), 3) := by decide +kernel
theorem dX10_longest_79 : decode cX10_longest 79 = .ok (.iload_n 2, 1) := by decide +kernel
theorem dX10_longest_80 : decode cX10_longest 80 = .ok (.ireturn, 1) := by decide +kernel
set_option maxRecDepth 20000 in
theorem ggX10_say_X10_isPerson : GoodIn wsX10_say wsX10_isPerson := goodIn_r _ [10, 11, 12, 13, 9, 14, 15, 16, 17, 18, 19, 20, 21, 22, 23, 24, 25, 26, 27, 28, 29, 30, 31, 32, 33, 34, 35, 36, 37, 38, 39, 40, 41, 42, 43, 44] (by decide +kernel) (by decide +kernel)
set_option maxRecDepth 20000 in
theorem gX10_say_X10_isPerson : GoodIn wsX10_say (wsV RX10 188 RX10 yX10_isPerson wsX10_isPerson) := goodIn_app (goodIn_of _ (by decide +kernel)) ggX10_say_X10_isPerson
set_option maxRecDepth 20000 in
theorem ggX10_say_X10_in : GoodIn wsX10_say wsX10_in := goodIn_r _ [14] (by decide +kernel) (by decide +kernel)
set_option maxRecDepth 20000 in
theorem gX10_say_X10_in : GoodIn wsX10_say (va_wsS RX10 81 yX10_in wsX10_in) := goodIn_app (goodIn_of _ (by decide +kernel)) ggX10_say_X10_in
theorem dX10_say_0 : decode cX10_say 0 = .ok (.aload_n 0, 1) := by decide +kernel
theorem dX10_say_1 : decode cX10_say 1 = .ok (.iload_n 1, 1) := by decide +kernel
theorem dX10_say_2 : decode cX10_say 2 = .ok (.invokevirtual 188, 3) := by decide +kernel
theorem dX10_say_5 : decode cX10_say 5 = .ok (.ifCond .ne 6, 3) := by decide +kernel
theorem dX10_say_8 : decode cX10_say 8 = .ok (.ldc 184, 2) := by decide +kernel
theorem dX10_say_10 : decode cX10_say 10 = .ok (.ireturn, 1) := by decide +kernel
theorem dX10_say_11 : decode cX10_say 11 = .ok (.iload_n 2, 1) := by decide +kernel
theorem dX10_say_12 : decode cX10_say 12 = .ok (.iconst 0, 1) := by decide +kernel
theorem dX10_say_13 : decode cX10_say 13 = .ok (.sipush 9999, 3) := by decide +kernel
theorem dX10_say_16 : decode cX10_say 16 = .ok (.invokestatic 81, 3) := by decide +kernel
theorem dX10_say_19 : decode cX10_say 19 = .ok (.ifCond .ne 6, 3) := by decide +kernel
theorem dX10_say_22 : decode cX10_say 22 = .ok (.ldc 85, 2) := by decide +kernel
theorem dX10_say_24 : decode cX10_say 24 = .ok (.ireturn, 1) := by decide +kernel
theorem dX10_say_25 : decode cX10_say 25 = .ok (.aload_n 0, 1) := by decide +kernel
theorem dX10_say_26 : decode cX10_say 26 = .ok (.getfield 143, 3) := by decide +kernel
theorem dX10_say_29 : decode cX10_say 29 = .ok (.bipush 6, 2) := by decide +kernel
theorem dX10_say_31 : decode cX10_say 31 = .ok (.if_icmp .ne 6, 3) := by decide +kernel
theorem dX10_say_34 : decode cX10_say 34 = .ok (.ldc 89, 2) := by decide +kernel
theorem dX10_say_36 : decode cX10_say 36 = .ok (.ireturn, 1) := by decide +kernel
theorem dX10_say_37 : decode cX10_say 37 = .ok (.aload_n 0, 1) := by decide +kernel
theorem dX10_say_38 : decode cX10_say 38 = .ok (.getfield 66, 3) := by decide +kernel
theorem dX10_say_41 : decode cX10_say 41 = .ok (.iconst 2, 1) := by decide +kernel
theorem dX10_say_42 : decode cX10_say 42 = .ok (.aload_n 0, 1) := by decide +kernel
theorem dX10_say_43 : decode cX10_say 43 = .ok (.getfield 143, 3) := by decide +kernel
theorem dX10_say_46 : decode cX10_say 46 = .ok (.imul, 1) := by decide +kernel
theorem dX10_say_47 : decode cX10_say 47 = .ok (.iload_n 1, 1) := by decide +kernel
theorem dX10_say_48 : decode cX10_say 48 = .ok (.iastore, 1) := by decide +kernel
theorem dX10_say_49 : decode cX10_say 49 = .ok (.aload_n 0, 1) := by decide +kernel
theorem dX10_say_50 : decode cX10_say 50 = .ok (.getfield 66, 3) := by decide +kernel
theorem dX10_say_53 : decode cX10_say 53 = .ok (.iconst 2, 1) := by decide +kernel
theorem dX10_say_54 : decode cX10_say 54 = .ok (.aload_n 0, 1) := by decide +kernel
theorem dX10_say_55 : decode cX10_say 55 = .ok (.getfield 143, 3) := by decide +kernel
theorem dX10_say_58 : decode cX10_say 58 = .ok (.imul, 1) := by decide +kernel
theorem dX10_say_59 : decode cX10_say 59 = .ok (.iconst 1, 1) := by decide +kernel
theorem dX10_say_60 : decode cX10_say 60 = .ok (.iadd, 1) := by decide +kernel
theorem dX10_say_61 : decode cX10_say 61 = .ok (.iload_n 2, 1) := by decide +kernel
theorem dX10_say_62 : decode cX10_say 62 = .ok (.iastore, 1) := by decide +kernel
theorem dX10_say_63 : decode cX10_say 63 = .ok (.aload_n 0, 1) := by decide +kernel
theorem dX10_say_64 : decode cX10_say 64 = .ok (.dup, 1) := by decide +kernel
theorem dX10_say_65 : decode cX10_say 65 = .ok (.getfield 143, 3) := by decide +kernel
theorem dX10_say_68 : decode cX10_say 68 = .ok (.iconst 1, 1) := by decide +kernel
theorem dX10_say_69 : decode cX10_say 69 = .ok (.iadd, 1) := by decide +kernel
theorem dX10_say_70 : decode cX10_say 70 = .ok (.putfield 143, 3) := by decide +kernel
theorem dX10_say_73 : decode cX10_say 73 = .ok (.aload_n 0, 1) := by decide +kernel
theorem dX10_say_74 : decode cX10_say 74 = .ok (.getfield 143, 3) := by decide +kernel
theorem dX10_say_77 : decode cX10_say 77 = .ok (.ireturn, 1) := by decide +kernel
theorem dX10_toldBy_0 : decode cX10_toldBy 0 = .ok (.aload_n 0, 1) := by decide +kernel
theorem dX10_toldBy_1 : decode cX10_toldBy 1 = .ok (.getfield 47, 3) := by decide +kernel
theorem dX10_toldBy_4 : decode cX10_toldBy 4 = .ok (.bipush 13, 2) := by decide +kernel
theorem dX10_toldBy_6 : decode cX10_toldBy 6 = .ok (.iconst 2, 1) := by decide +kernel
theorem dX10_toldBy_7 : decode cX10_toldBy 7 = .ok (.iload_n 1, 1) := by decide +kernel
theorem dX10_toldBy_8 : decode cX10_toldBy 8 = .ok (.imul, 1) := by decide +kernel
theorem dX10_toldBy_9 : decode cX10_toldBy 9 = .ok (.iadd, 1) := by decide +kernel
theorem dX10_toldBy_10 : decode cX10_toldBy 10 = .ok (.iaload, 1) := by decide +kernel
theorem dX10_toldBy_11 : decode cX10_toldBy 11 = .ok (.istore_n 3, 1) := by decide +kernel
theorem dX10_toldBy_12 : decode cX10_toldBy 12 = .ok (.iload_n 3, 1) := by decide +kernel
theorem dX10_toldBy_13 : decode cX10_toldBy 13 = .ok (.iload_n 2, 1) := by decide +kernel
theorem dX10_toldBy_14 : decode cX10_toldBy 14 = .ok (.bipush 10, 2) := by decide +kernel
theorem dX10_toldBy_16 : decode cX10_toldBy 16 = .ok (.idiv, 1) := by decide +kernel
theorem dX10_toldBy_17 : decode cX10_toldBy 17 = .ok (.if_icmp .ne 10, 3) := by decide +kernel
theorem dX10_toldBy_20 : decode cX10_toldBy 20 = .ok (.iload_n 2, 1) := by decide +kernel
theorem dX10_toldBy_21 : decode cX10_toldBy 21 = .ok (.bipush 10, 2) := by decide +kernel
theorem dX10_toldBy_23 : decode cX10_toldBy 23 = .ok (.irem, 1) := by decide +kernel
theorem dX10_toldBy_24 : decode cX10_toldBy 24 = .ok (.goto 15, 3) := by decide +kernel
theorem dX10_toldBy_27 : decode cX10_toldBy 27 = .ok (.aload_n 0, 1) := by decide +kernel
theorem dX10_toldBy_28 : decode cX10_toldBy 28 = .ok (.getfield 47, 3) := by decide +kernel
theorem dX10_toldBy_31 : decode cX10_toldBy 31 = .ok (.iconst 1, 1) := by decide +kernel
theorem dX10_toldBy_32 : decode cX10_toldBy 32 = .ok (.iconst 3, 1) := by decide +kernel
theorem dX10_toldBy_33 : decode cX10_toldBy 33 = .ok (.iload_n 3, 1) := by decide +kernel
theorem dX10_toldBy_34 : decode cX10_toldBy 34 = .ok (.imul, 1) := by decide +kernel
theorem dX10_toldBy_35 : decode cX10_toldBy 35 = .ok (.iadd, 1) := by decide +kernel
theorem dX10_toldBy_36 : decode cX10_toldBy 36 = .ok (.iconst 1, 1) := by decide +kernel
theorem dX10_toldBy_37 : decode cX10_toldBy 37 = .ok (.iadd, 1) := by decide +kernel
theorem dX10_toldBy_38 : decode cX10_toldBy 38 = .ok (.iaload, 1) := by decide +kernel
theorem dX10_toldBy_39 : decode cX10_toldBy 39 = .ok (.istore 4, 2) := by decide +kernel
theorem dX10_toldBy_41 : decode cX10_toldBy 41 = .ok (.aload_n 0, 1) := by decide +kernel
theorem dX10_toldBy_42 : decode cX10_toldBy 42 = .ok (.getfield 47, 3) := by decide +kernel
theorem dX10_toldBy_45 : decode cX10_toldBy 45 = .ok (.iconst 1, 1) := by decide +kernel
theorem dX10_toldBy_46 : decode cX10_toldBy 46 = .ok (.iconst 3, 1) := by decide +kernel
theorem dX10_toldBy_47 : decode cX10_toldBy 47 = .ok (.iload_n 3, 1) := by decide +kernel
theorem dX10_toldBy_48 : decode cX10_toldBy 48 = .ok (.imul, 1) := by decide +kernel
theorem dX10_toldBy_49 : decode cX10_toldBy 49 = .ok (.iadd, 1) := by decide +kernel
theorem dX10_toldBy_50 : decode cX10_toldBy 50 = .ok (.iaload, 1) := by decide +kernel
theorem dX10_toldBy_51 : decode cX10_toldBy 51 = .ok (.iload 4, 2) := by decide +kernel
theorem dX10_toldBy_53 : decode cX10_toldBy 53 = .ok (.isub, 1) := by decide +kernel
theorem dX10_toldBy_54 : decode cX10_toldBy 54 = .ok (.istore 5, 2) := by decide +kernel
theorem dX10_toldBy_56 : decode cX10_toldBy 56 = .ok (.aload_n 0, 1) := by decide +kernel
theorem dX10_toldBy_57 : decode cX10_toldBy 57 = .ok (.getfield 26, 3) := by decide +kernel
theorem dX10_toldBy_60 : decode cX10_toldBy 60 = .ok (.iconst 2, 1) := by decide +kernel
theorem dX10_toldBy_61 : decode cX10_toldBy 61 = .ok (.iload_n 1, 1) := by decide +kernel
theorem dX10_toldBy_62 : decode cX10_toldBy 62 = .ok (.imul, 1) := by decide +kernel
theorem dX10_toldBy_63 : decode cX10_toldBy 63 = .ok (.iconst 1, 1) := by decide +kernel
theorem dX10_toldBy_64 : decode cX10_toldBy 64 = .ok (.iadd, 1) := by decide +kernel
theorem dX10_toldBy_65 : decode cX10_toldBy 65 = .ok (.iaload, 1) := by decide +kernel
theorem dX10_toldBy_66 : decode cX10_toldBy 66 = .ok (.iload 5, 2) := by decide +kernel
theorem dX10_toldBy_68 : decode cX10_toldBy 68 = .ok (.ifCond .ge 7, 3) := by decide +kernel
theorem dX10_toldBy_71 : decode cX10_toldBy 71 = .ok (.iconst 0, 1) := by decide +kernel
theorem dX10_toldBy_72 : decode cX10_toldBy 72 = .ok (.goto 5, 3) := by decide +kernel
theorem dX10_toldBy_75 : decode cX10_toldBy 75 = .ok (.iload 5, 2) := by decide +kernel
theorem dX10_toldBy_77 : decode cX10_toldBy 77 = .ok (.iadd, 1) := by decide +kernel
theorem dX10_toldBy_78 : decode cX10_toldBy 78 = .ok (.aload_n 0, 1) := by decide +kernel
theorem dX10_toldBy_79 : decode cX10_toldBy 79 = .ok (.getfield 23, 3) := by decide +kernel
theorem dX10_toldBy_82 : decode cX10_toldBy 82 = .ok (.iconst 5, 1) := by decide +kernel
theorem dX10_toldBy_83 : decode cX10_toldBy 83 = .ok (.iload_n 3, 1) := by decide +kernel
theorem dX10_toldBy_84 : decode cX10_toldBy 84 = .ok (.imul, 1) := by decide +kernel
theorem dX10_toldBy_85 : decode cX10_toldBy 85 = .ok (.iconst 4, 1) := by decide +kernel
theorem dX10_toldBy_86 : decode cX10_toldBy 86 = .ok (.iadd, 1) := by decide +kernel
theorem dX10_toldBy_87 : decode cX10_toldBy 87 = .ok (.iaload, 1) := by decide +kernel
theorem dX10_toldBy_88 : decode cX10_toldBy 88 = .ok (.idiv, 1) := by decide +kernel
theorem dX10_toldBy_89 : decode cX10_toldBy 89 = .ok (.ireturn, 1) := by decide +kernel
set_option maxRecDepth 20000 in
theorem ggX10_lays_X10_toldBy : GoodIn wsX10_lays wsX10_toldBy := goodIn_r _ [9, 10, 11, 12, 13, 14, 15, 16, 17, 18, 19, 20, 21, 22, 23, 24, 25, 26, 27, 28, 29, 30, 31, 32, 33, 34, 35, 36, 37, 38, 39, 40, 41, 42] (by decide +kernel) (by decide +kernel)
set_option maxRecDepth 20000 in
theorem gX10_lays_X10_toldBy : GoodIn wsX10_lays (wsV RX10 232 RX10 yX10_toldBy wsX10_toldBy) := goodIn_app (goodIn_of _ (by decide +kernel)) ggX10_lays_X10_toldBy
theorem dX10_lays_0 : decode cX10_lays 0 = .ok (.iconst 0, 1) := by decide +kernel
theorem dX10_lays_1 : decode cX10_lays 1 = .ok (.istore_n 1, 1) := by decide +kernel
theorem dX10_lays_2 : decode cX10_lays 2 = .ok (.iconst 0, 1) := by decide +kernel
theorem dX10_lays_3 : decode cX10_lays 3 = .ok (.istore_n 2, 1) := by decide +kernel
theorem dX10_lays_4 : decode cX10_lays 4 = .ok (.iload_n 2, 1) := by decide +kernel
theorem dX10_lays_5 : decode cX10_lays 5 = .ok (.bipush 10, 2) := by decide +kernel
theorem dX10_lays_7 : decode cX10_lays 7 = .ok (.aload_n 0, 1) := by decide +kernel
theorem dX10_lays_8 : decode cX10_lays 8 = .ok (.getfield 17, 3) := by decide +kernel
theorem dX10_lays_11 : decode cX10_lays 11 = .ok (.iconst 1, 1) := by decide +kernel
theorem dX10_lays_12 : decode cX10_lays 12 = .ok (.iaload, 1) := by decide +kernel
theorem dX10_lays_13 : decode cX10_lays 13 = .ok (.imul, 1) := by decide +kernel
theorem dX10_lays_14 : decode cX10_lays 14 = .ok (.if_icmp .ge 81, 3) := by decide +kernel
theorem dX10_lays_17 : decode cX10_lays 17 = .ok (.iconst 1, 1) := by decide +kernel
theorem dX10_lays_18 : decode cX10_lays 18 = .ok (.istore_n 3, 1) := by decide +kernel
theorem dX10_lays_19 : decode cX10_lays 19 = .ok (.iconst 0, 1) := by decide +kernel
theorem dX10_lays_20 : decode cX10_lays 20 = .ok (.istore 4, 2) := by decide +kernel
theorem dX10_lays_22 : decode cX10_lays 22 = .ok (.iload 4, 2) := by decide +kernel
theorem dX10_lays_24 : decode cX10_lays 24 = .ok (.aload_n 0, 1) := by decide +kernel
theorem dX10_lays_25 : decode cX10_lays 25 = .ok (.getfield 143, 3) := by decide +kernel
theorem dX10_lays_28 : decode cX10_lays 28 = .ok (.if_icmp .ge 47, 3) := by decide +kernel
theorem dX10_lays_31 : decode cX10_lays 31 = .ok (.iload_n 3, 1) := by decide +kernel
theorem dX10_lays_32 : decode cX10_lays 32 = .ok (.ifCond .eq 35, 3) := by decide +kernel
theorem dX10_lays_35 : decode cX10_lays 35 = .ok (.aload_n 0, 1) := by decide +kernel
theorem dX10_lays_36 : decode cX10_lays 36 = .ok (.aload_n 0, 1) := by decide +kernel
theorem dX10_lays_37 : decode cX10_lays 37 = .ok (.getfield 66, 3) := by decide +kernel
theorem dX10_lays_40 : decode cX10_lays 40 = .ok (.iconst 2, 1) := by decide +kernel
theorem dX10_lays_41 : decode cX10_lays 41 = .ok (.iload 4, 2) := by decide +kernel
theorem dX10_lays_43 : decode cX10_lays 43 = .ok (.imul, 1) := by decide +kernel
theorem dX10_lays_44 : decode cX10_lays 44 = .ok (.iaload, 1) := by decide +kernel
theorem dX10_lays_45 : decode cX10_lays 45 = .ok (.iload_n 2, 1) := by decide +kernel
theorem dX10_lays_46 : decode cX10_lays 46 = .ok (.invokevirtual 232, 3) := by decide +kernel
theorem dX10_lays_49 : decode cX10_lays 49 = .ok (.aload_n 0, 1) := by decide +kernel
theorem dX10_lays_50 : decode cX10_lays 50 = .ok (.getfield 66, 3) := by decide +kernel
theorem dX10_lays_53 : decode cX10_lays 53 = .ok (.iconst 2, 1) := by decide +kernel
theorem dX10_lays_54 : decode cX10_lays 54 = .ok (.iload 4, 2) := by decide +kernel
theorem dX10_lays_56 : decode cX10_lays 56 = .ok (.imul, 1) := by decide +kernel
theorem dX10_lays_57 : decode cX10_lays 57 = .ok (.iconst 1, 1) := by decide +kernel
theorem dX10_lays_58 : decode cX10_lays 58 = .ok (.iadd, 1) := by decide +kernel
