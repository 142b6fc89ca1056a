theorem dX10_feed_5 : decode cX10_feed 5 = .ok (.invokestatic 81, 3) := by decide +kernel
theorem dX10_feed_8 : decode cX10_feed 8 = .ok (.ifCond .ne 6, 3) := by decide +kernel
theorem dX10_feed_11 : decode cX10_feed 11 = .ok (.ldc 85, 2) := by decide +kernel
theorem dX10_feed_13 : decode cX10_feed 13 = .ok (.ireturn, 1) := by decide +kernel
theorem dX10_feed_14 : decode cX10_feed 14 = .ok (.aload_n 0, 1) := by decide +kernel
theorem dX10_feed_15 : decode cX10_feed 15 = .ok (.getfield 86, 3) := by decide +kernel
theorem dX10_feed_18 : decode cX10_feed 18 = .ok (.sipush 240, 3) := by decide +kernel
theorem dX10_feed_21 : decode cX10_feed 21 = .ok (.if_icmp .ne 6, 3) := by decide +kernel
theorem dX10_feed_24 : decode cX10_feed 24 = .ok (.ldc 89, 2) := by decide +kernel
theorem dX10_feed_26 : decode cX10_feed 26 = .ok (.ireturn, 1) := by decide +kernel
theorem dX10_feed_27 : decode cX10_feed 27 = .ok (.aload_n 0, 1) := by decide +kernel
theorem dX10_feed_28 : decode cX10_feed 28 = .ok (.getfield 7, 3) := by decide +kernel
theorem dX10_feed_31 : decode cX10_feed 31 = .ok (.aload_n 0, 1) := by decide +kernel
theorem dX10_feed_32 : decode cX10_feed 32 = .ok (.getfield 86, 3) := by decide +kernel
theorem dX10_feed_35 : decode cX10_feed 35 = .ok (.iload_n 1, 1) := by decide +kernel
theorem dX10_feed_36 : decode cX10_feed 36 = .ok (.iastore, 1) := by decide +kernel
theorem dX10_feed_37 : decode cX10_feed 37 = .ok (.aload_n 0, 1) := by decide +kernel
theorem dX10_feed_38 : decode cX10_feed 38 = .ok (.dup, 1) := by decide +kernel
theorem dX10_feed_39 : decode cX10_feed 39 = .ok (.getfield 86, 3) := by decide +kernel
theorem dX10_feed_42 : decode cX10_feed 42 = .ok (.iconst 1, 1) := by decide +kernel
theorem dX10_feed_43 : decode cX10_feed 43 = .ok (.iadd, 1) := by decide +kernel
theorem dX10_feed_44 : decode cX10_feed 44 = .ok (.putfield 86, 3) := by decide +kernel
theorem dX10_feed_47 : decode cX10_feed 47 = .ok (.aload_n 0, 1) := by decide +kernel
theorem dX10_feed_48 : decode cX10_feed 48 = .ok (.getfield 86, 3) := by decide +kernel
theorem dX10_feed_51 : decode cX10_feed 51 = .ok (.ireturn, 1) := by decide +kernel
theorem dX10_look_0 : decode cX10_look 0 = .ok (.aload_n 0, 1) := by decide +kernel
theorem dX10_look_1 : decode cX10_look 1 = .ok (.getfield 90, 3) := by decide +kernel
theorem dX10_look_4 : decode cX10_look 4 = .ok (.aload_n 0, 1) := by decide +kernel
theorem dX10_look_5 : decode cX10_look 5 = .ok (.getfield 86, 3) := by decide +kernel
theorem dX10_look_8 : decode cX10_look 8 = .ok (.if_icmp .ge 15, 3) := by decide +kernel
theorem dX10_look_11 : decode cX10_look 11 = .ok (.aload_n 0, 1) := by decide +kernel
theorem dX10_look_12 : decode cX10_look 12 = .ok (.getfield 7, 3) := by decide +kernel
theorem dX10_look_15 : decode cX10_look 15 = .ok (.aload_n 0, 1) := by decide +kernel
theorem dX10_look_16 : decode cX10_look 16 = .ok (.getfield 90, 3) := by decide +kernel
theorem dX10_look_19 : decode cX10_look 19 = .ok (.iaload, 1) := by decide +kernel
theorem dX10_look_20 : decode cX10_look 20 = .ok (.goto 4, 3) := by decide +kernel
theorem dX10_look_23 : decode cX10_look 23 = .ok (.iconst (-1), 1) := by decide +kernel
theorem dX10_look_24 : decode cX10_look 24 = .ok (.ireturn, 1) := by decide +kernel
set_option maxRecDepth 20000 in
theorem ggX10_skips_X10_look : GoodIn wsX10_skips wsX10_look := goodIn_r _ [7, 2, 8, 9, 10, 11, 12, 13, 14, 15, 16, 17, 18, 19, 20, 21, 22, 23, 24, 25, 26, 27, 28, 29, 30, 31, 32, 33, 34, 35, 36, 37, 38, 39] (by decide +kernel) (by decide +kernel)
set_option maxRecDepth 20000 in
theorem gX10_skips_X10_look : GoodIn wsX10_skips (wsV RX10 96 RX10 yX10_look wsX10_look) := goodIn_app (goodIn_of _ (by decide +kernel)) ggX10_skips_X10_look
theorem dX10_skips_0 : decode cX10_skips 0 = .ok (.aload_n 0, 1) := by decide +kernel
theorem dX10_skips_1 : decode cX10_skips 1 = .ok (.getfield 93, 3) := by decide +kernel
theorem dX10_skips_4 : decode cX10_skips 4 = .ok (.ifCond .ne 25, 3) := by decide +kernel
theorem dX10_skips_7 : decode cX10_skips 7 = .ok (.aload_n 0, 1) := by decide +kernel
theorem dX10_skips_8 : decode cX10_skips 8 = .ok (.invokevirtual 96, 3) := by decide +kernel
theorem dX10_skips_11 : decode cX10_skips 11 = .ok (.bipush 32, 2) := by decide +kernel
theorem dX10_skips_13 : decode cX10_skips 13 = .ok (.if_icmp .ne 16, 3) := by decide +kernel
theorem dX10_skips_16 : decode cX10_skips 16 = .ok (.aload_n 0, 1) := by decide +kernel
theorem dX10_skips_17 : decode cX10_skips 17 = .ok (.dup, 1) := by decide +kernel
theorem dX10_skips_18 : decode cX10_skips 18 = .ok (.getfield 90, 3) := by decide +kernel
theorem dX10_skips_21 : decode cX10_skips 21 = .ok (.iconst 1, 1) := by decide +kernel
theorem dX10_skips_22 : decode cX10_skips 22 = .ok (.iadd, 1) := by decide +kernel
theorem dX10_skips_23 : decode cX10_skips 23 = .ok (.putfield 90, 3) := by decide +kernel
theorem dX10_skips_26 : decode cX10_skips 26 = .ok (.goto (-26), 3) := by decide +kernel
theorem dX10_skips_29 : decode cX10_skips 29 = .ok (.return_, 1) := by decide +kernel
theorem dX10_fails_0 : decode cX10_fails 0 = .ok (.aload_n 0, 1) := by decide +kernel
theorem dX10_fails_1 : decode cX10_fails 1 = .ok (.aload_n 0, 1) := by decide +kernel
theorem dX10_fails_2 : decode cX10_fails 2 = .ok (.getfield 93, 3) := by decide +kernel
theorem dX10_fails_5 : decode cX10_fails 5 = .ok (.ifCond .ne 7, 3) := by decide +kernel
theorem dX10_fails_8 : decode cX10_fails 8 = .ok (.iload_n 1, 1) := by decide +kernel
theorem dX10_fails_9 : decode cX10_fails 9 = .ok (.goto 7, 3) := by decide +kernel
theorem dX10_fails_12 : decode cX10_fails 12 = .ok (.aload_n 0, 1) := by decide +kernel
theorem dX10_fails_13 : decode cX10_fails 13 = .ok (.getfield 93, 3) := by decide +kernel
theorem dX10_fails_16 : decode cX10_fails 16 = .ok (.putfield 93, 3) := by decide +kernel
theorem dX10_fails_19 : decode cX10_fails 19 = .ok (.return_, 1) := by decide +kernel
set_option maxRecDepth 20000 in
theorem ggX10_word_X10_skips : GoodIn wsX10_word wsX10_skips := goodIn_r _ [7, 1, 2, 8, 9, 10, 6, 11, 12, 13, 18, 19, 20, 21, 22, 23, 24, 25, 26, 27, 28, 29, 30, 31, 32, 33, 34, 35, 36, 37, 38, 39, 40, 41, 42, 43, 44, 45, 46, 47] (by decide +kernel) (by decide +kernel)
set_option maxRecDepth 20000 in
theorem gX10_word_X10_skips : GoodIn wsX10_word (wsV RX10 100 RX10 yX10_skips wsX10_skips) := goodIn_app (goodIn_of _ (by decide +kernel)) ggX10_word_X10_skips
set_option maxRecDepth 20000 in
theorem ggX10_word_X10_look : GoodIn wsX10_word wsX10_look := goodIn_r _ [11, 2, 12, 13, 18, 19, 20, 21, 22, 23, 24, 25, 26, 27, 28, 29, 30, 31, 32, 33, 34, 35, 36, 37, 38, 39, 40, 41, 42, 43, 44, 45, 46, 47] (by decide +kernel) (by decide +kernel)
set_option maxRecDepth 20000 in
theorem gX10_word_X10_look : GoodIn wsX10_word (wsV RX10 96 RX10 yX10_look wsX10_look) := goodIn_app (goodIn_of _ (by decide +kernel)) ggX10_word_X10_look
set_option maxRecDepth 20000 in
theorem ggX10_word_X10_fails : GoodIn wsX10_word wsX10_fails := goodIn_r _ [17, 1, 18, 19, 20, 21, 22, 23, 24, 25, 26, 27, 28, 29, 30, 31, 32, 33, 34, 35, 36, 37, 38, 39, 40, 41, 42, 43, 44, 45, 46, 47] (by decide +kernel) (by decide +kernel)
set_option maxRecDepth 20000 in
theorem gX10_word_X10_fails : GoodIn wsX10_word (wsV RX10 103 RX10 yX10_fails wsX10_fails) := goodIn_app (goodIn_of _ (by decide +kernel)) ggX10_word_X10_fails
theorem dX10_word_0 : decode cX10_word 0 = .ok (.aload_n 0, 1) := by decide +kernel
theorem dX10_word_1 : decode cX10_word 1 = .ok (.invokevirtual 100, 3) := by decide +kernel
theorem dX10_word_4 : decode cX10_word 4 = .ok (.aload_n 0, 1) := by decide +kernel
theorem dX10_word_5 : decode cX10_word 5 = .ok (.getfield 93, 3) := by decide +kernel
theorem dX10_word_8 : decode cX10_word 8 = .ok (.ifCond .ne 29, 3) := by decide +kernel
theorem dX10_word_11 : decode cX10_word 11 = .ok (.aload_n 0, 1) := by decide +kernel
theorem dX10_word_12 : decode cX10_word 12 = .ok (.invokevirtual 96, 3) := by decide +kernel
theorem dX10_word_15 : decode cX10_word 15 = .ok (.iload_n 1, 1) := by decide +kernel
theorem dX10_word_16 : decode cX10_word 16 = .ok (.if_icmp .ne 16, 3) := by decide +kernel
theorem dX10_word_19 : decode cX10_word 19 = .ok (.aload_n 0, 1) := by decide +kernel
theorem dX10_word_20 : decode cX10_word 20 = .ok (.dup, 1) := by decide +kernel
theorem dX10_word_21 : decode cX10_word 21 = .ok (.getfield 90, 3) := by decide +kernel
theorem dX10_word_24 : decode cX10_word 24 = .ok (.iconst 1, 1) := by decide +kernel
theorem dX10_word_25 : decode cX10_word 25 = .ok (.iadd, 1) := by decide +kernel
theorem dX10_word_26 : decode cX10_word 26 = .ok (.putfield 90, 3) := by decide +kernel
theorem dX10_word_29 : decode cX10_word 29 = .ok (.goto 8, 3) := by decide +kernel
theorem dX10_word_32 : decode cX10_word 32 = .ok (.aload_n 0, 1) := by decide +kernel
theorem dX10_word_33 : decode cX10_word 33 = .ok (.iconst 1, 1) := by decide +kernel
theorem dX10_word_34 : decode cX10_word 34 = .ok (.invokevirtual 103, 3) := by decide +kernel
theorem dX10_word_37 : decode cX10_word 37 = .ok (.return_, 1) := by decide +kernel
set_option maxRecDepth 20000 in
theorem ggX10_number_X10_skips : GoodIn wsX10_number wsX10_skips := goodIn_r _ [7, 1, 2, 8, 9, 10, 6, 11, 12, 13, 21, 22, 23, 24, 25, 26, 27, 28, 29, 30, 31, 32, 33, 34, 35, 36, 37, 38, 39, 40, 41, 42, 43, 44, 45, 46, 47, 48, 49, 50] (by decide +kernel) (by decide +kernel)
set_option maxRecDepth 20000 in
theorem gX10_number_X10_skips : GoodIn wsX10_number (wsV RX10 100 RX10 yX10_skips wsX10_skips) := goodIn_app (goodIn_of _ (by decide +kernel)) ggX10_number_X10_skips
set_option maxRecDepth 20000 in
theorem ggX10_number_X10_look : GoodIn wsX10_number wsX10_look := goodIn_r _ [11, 2, 12, 13, 21, 22, 23, 24, 25, 26, 27, 28, 29, 30, 31, 32, 33, 34, 35, 36, 37, 38, 39, 40, 41, 42, 43, 44, 45, 46, 47, 48, 49, 50] (by decide +kernel) (by decide +kernel)
set_option maxRecDepth 20000 in
theorem gX10_number_X10_look : GoodIn wsX10_number (wsV RX10 96 RX10 yX10_look wsX10_look) := goodIn_app (goodIn_of _ (by decide +kernel)) ggX10_number_X10_look
set_option maxRecDepth 20000 in
theorem ggX10_number_X10_in : GoodIn wsX10_number wsX10_in := goodIn_r _ [16] (by decide +kernel) (by decide +kernel)
set_option maxRecDepth 20000 in
theorem gX10_number_X10_in : GoodIn wsX10_number (va_wsS RX10 81 yX10_in wsX10_in) := goodIn_app (goodIn_of _ (by decide +kernel)) ggX10_number_X10_in
set_option maxRecDepth 20000 in
theorem ggX10_number_X10_fails : GoodIn wsX10_number wsX10_fails := goodIn_r _ [20, 1, 21, 22, 23, 24, 25, 26, 27, 28, 29, 30, 31, 32, 33, 34, 35, 36, 37, 38, 39, 40, 41, 42, 43, 44, 45, 46, 47, 48, 49, 50] (by decide +kernel) (by decide +kernel)
set_option maxRecDepth 20000 in
theorem gX10_number_X10_fails : GoodIn wsX10_number (wsV RX10 103 RX10 yX10_fails wsX10_fails) := goodIn_app (goodIn_of _ (by decide +kernel)) ggX10_number_X10_fails
theorem dX10_number_0 : decode cX10_number 0 = .ok (.aload_n 0, 1) := by decide +kernel
theorem dX10_number_1 : decode cX10_number 1 = .ok (.invokevirtual 100, 3) := by decide +kernel
theorem dX10_number_4 : decode cX10_number 4 = .ok (.aload_n 0, 1) := by decide +kernel
theorem dX10_number_5 : decode cX10_number 5 = .ok (.getfield 93, 3) := by decide +kernel
theorem dX10_number_8 : decode cX10_number 8 = .ok (.ifCond .eq 5, 3) := by decide +kernel
theorem dX10_number_11 : decode cX10_number 11 = .ok (.iconst 0, 1) := by decide +kernel
theorem dX10_number_12 : decode cX10_number 12 = .ok (.ireturn, 1) := by decide +kernel
theorem dX10_number_13 : decode cX10_number 13 = .ok (.aload_n 0, 1) := by decide +kernel
theorem dX10_number_14 : decode cX10_number 14 = .ok (.invokevirtual 96, 3) := by decide +kernel
theorem dX10_number_17 : decode cX10_number 17 = .ok (.bipush 48, 2) := by decide +kernel
theorem dX10_number_19 : decode cX10_number 19 = .ok (.bipush 57, 2) := by decide +kernel
theorem dX10_number_21 : decode cX10_number 21 = .ok (.invokestatic 81, 3) := by decide +kernel
theorem dX10_number_24 : decode cX10_number 24 = .ok (.ifCond .ne 10, 3) := by decide +kernel
theorem dX10_number_27 : decode cX10_number 27 = .ok (.aload_n 0, 1) := by decide +kernel
theorem dX10_number_28 : decode cX10_number 28 = .ok (.iconst 1, 1) := by decide +kernel
theorem dX10_number_29 : decode cX10_number 29 = .ok (.invokevirtual 103, 3) := by decide +kernel
theorem dX10_number_32 : decode cX10_number 32 = .ok (.iconst 0, 1) := by decide +kernel
theorem dX10_number_33 : decode cX10_number 33 = .ok (.ireturn, 1) := by decide +kernel
theorem dX10_number_34 : decode cX10_number 34 = .ok (.aload_n 0, 1) := by decide +kernel
theorem dX10_number_35 : decode cX10_number 35 = .ok (.getfield 90, 3) := by decide +kernel
theorem dX10_number_38 : decode cX10_number 38 = .ok (.istore_n 3, 1) := by decide +kernel
theorem dX10_number_39 : decode cX10_number 39 = .ok (.iconst 0, 1) := by decide +kernel
theorem dX10_number_40 : decode cX10_number 40 = .ok (.istore 4, 2) := by decide +kernel
theorem dX10_number_42 : decode cX10_number 42 = .ok (.aload_n 0, 1) := by decide +kernel
theorem dX10_number_43 : decode cX10_number 43 = .ok (.invokevirtual 96, 3) := by decide +kernel
theorem dX10_number_46 : decode cX10_number 46 = .ok (.bipush 48, 2) := by decide +kernel
theorem dX10_number_48 : decode cX10_number 48 = .ok (.bipush 57, 2) := by decide +kernel
theorem dX10_number_50 : decode cX10_number 50 = .ok (.invokestatic 81, 3) := by decide +kernel
theorem dX10_number_53 : decode cX10_number 53 = .ok (.ifCond .eq 46, 3) := by decide +kernel
theorem dX10_number_56 : decode cX10_number 56 = .ok (.aload_n 0, 1) := by decide +kernel
theorem dX10_number_57 : decode cX10_number 57 = .ok (.getfield 90, 3) := by decide +kernel
theorem dX10_number_60 : decode cX10_number 60 = .ok (.iload_n 3, 1) := by decide +kernel
theorem dX10_number_61 : decode cX10_number 61 = .ok (.isub, 1) := by decide +kernel
theorem dX10_number_62 : decode cX10_number 62 = .ok (.iconst 3, 1) := by decide +kernel
theorem dX10_number_63 : decode cX10_number 63 = .ok (.if_icmp .ge 19, 3) := by decide +kernel
theorem dX10_number_66 : decode cX10_number 66 = .ok (.bipush 10, 2) := by decide +kernel
theorem dX10_number_68 : decode cX10_number 68 = .ok (.iload 4, 2) := by decide +kernel
theorem dX10_number_70 : decode cX10_number 70 = .ok (.imul, 1) := by decide +kernel
theorem dX10_number_71 : decode cX10_number 71 = .ok (.aload_n 0, 1) := by decide +kernel
theorem dX10_number_72 : decode cX10_number 72 = .ok (.invokevirtual 96, 3) := by decide +kernel
theorem dX10_number_75 : decode cX10_number 75 = .ok (.iadd, 1) := by decide +kernel
theorem dX10_number_76 : decode cX10_number 76 = .ok (.bipush 48, 2) := by decide +kernel
theorem dX10_number_78 : decode cX10_number 78 = .ok (.isub, 1) := by decide +kernel
theorem dX10_number_79 : decode cX10_number 79 = .ok (.goto 5, 3) := by decide +kernel
theorem dX10_number_82 : decode cX10_number 82 = .ok (.iload 4, 2) := by decide +kernel
theorem dX10_number_84 : decode cX10_number 84 = .ok (.istore 4, 2) := by decide +kernel
theorem dX10_number_86 : decode cX10_number 86 = .ok (.aload_n 0, 1) := by decide +kernel
theorem dX10_number_87 : decode cX10_number 87 = .ok (.dup, 1) := by decide +kernel
theorem dX10_number_88 : decode cX10_number 88 = .ok (.getfield 90, 3) := by decide +kernel
theorem dX10_number_91 : decode cX10_number 91 = .ok (.iconst 1, 1) := by decide +kernel
theorem dX10_number_92 : decode cX10_number 92 = .ok (.iadd, 1) := by decide +kernel
theorem dX10_number_93 : decode cX10_number 93 = .ok (.putfield 90, 3) := by decide +kernel
theorem dX10_number_96 : decode cX10_number 96 = .ok (.goto (-54), 3) := by decide +kernel
theorem dX10_number_99 : decode cX10_number 99 = .ok (.aload_n 0, 1) := by decide +kernel
theorem dX10_number_100 : decode cX10_number 100 = .ok (.getfield 90, 3) := by decide +kernel
theorem dX10_number_103 : decode cX10_number 103 = .ok (.iload_n 3, 1) := by decide +kernel
theorem dX10_number_104 : decode cX10_number 104 = .ok (.isub, 1) := by decide +kernel
theorem dX10_number_105 : decode cX10_number 105 = .ok (.iconst 3, 1) := by decide +kernel
theorem dX10_number_106 : decode cX10_number 106 = .ok (.if_icmp .gt 13, 3) := by decide +kernel
theorem dX10_number_109 : decode cX10_number 109 = .ok (.iload 4, 2) := by decide +kernel
theorem dX10_number_111 : decode cX10_number 111 = .ok (.iload_n 1, 1) := by decide +kernel
theorem dX10_number_112 : decode cX10_number 112 = .ok (.iload_n 2, 1) := by decide +kernel
theorem dX10_number_113 : decode cX10_number 113 = .ok (.invokestatic 81, 3) := by decide +kernel
theorem dX10_number_116 : decode cX10_number 116 = .ok (.ifCond .ne 13, 3) := by decide +kernel
theorem dX10_number_119 : decode cX10_number 119 = .ok (.aload_n 0, 1) := by decide +kernel
theorem dX10_number_120 : decode cX10_number 120 = .ok (.iload_n 3, 1) := by decide +kernel
theorem dX10_number_121 : decode cX10_number 121 = .ok (.putfield 90, 3) := by decide +kernel
theorem dX10_number_124 : decode cX10_number 124 = .ok (.aload_n 0, 1) := by decide +kernel
theorem dX10_number_125 : decode cX10_number 125 = .ok (.iconst 2, 1) := by decide +kernel
theorem dX10_number_126 : decode cX10_number 126 = .ok (.invokevirtual 103, 3) := by decide +kernel
theorem dX10_number_129 : decode cX10_number 129 = .ok (.iload 4, 2) := by decide +kernel
theorem dX10_number_131 : decode cX10_number 131 = .ok (.ireturn, 1) := by decide +kernel
set_option maxRecDepth 20000 in
theorem ggX10_opens_X10_fails : GoodIn wsX10_opens wsX10_fails := goodIn_r _ [6, 7, 8, 9, 10, 11, 12, 13, 14, 15, 16, 17, 18, 19, 20, 21, 22, 23, 24, 25, 26, 27, 28, 29, 30, 31, 32, 33, 34, 35, 36, 37] (by decide +kernel) (by decide +kernel)
set_option maxRecDepth 20000 in
theorem gX10_opens_X10_fails : GoodIn wsX10_opens (wsV RX10 103 RX10 yX10_fails wsX10_fails) := goodIn_app (goodIn_of _ (by decide +kernel)) ggX10_opens_X10_fails
theorem dX10_opens_0 : decode cX10_opens 0 = .ok (.iload_n 1, 1) := by decide +kernel
theorem dX10_opens_1 : decode cX10_opens 1 = .ok (.ifCond .eq 8, 3) := by decide +kernel
theorem dX10_opens_4 : decode cX10_opens 4 = .ok (.aload_n 0, 1) := by decide +kernel
theorem dX10_opens_5 : decode cX10_opens 5 = .ok (.iconst 3, 1) := by decide +kernel
theorem dX10_opens_6 : decode cX10_opens 6 = .ok (.invokevirtual 103, 3) := by decide +kernel
theorem dX10_opens_9 : decode cX10_opens 9 = .ok (.aload_n 0, 1) := by decide +kernel
theorem dX10_opens_10 : decode cX10_opens 10 = .ok (.dup, 1) := by decide +kernel
theorem dX10_opens_11 : decode cX10_opens 11 = .ok (.getfield 90, 3) := by decide +kernel
theorem dX10_opens_14 : decode cX10_opens 14 = .ok (.iload_n 1, 1) := by decide +kernel
theorem dX10_opens_15 : decode cX10_opens 15 = .ok (.ifCond .eq 7, 3) := by decide +kernel
theorem dX10_opens_18 : decode cX10_opens 18 = .ok (.iconst 0, 1) := by decide +kernel
theorem dX10_opens_19 : decode cX10_opens 19 = .ok (.goto 4, 3) := by decide +kernel
theorem dX10_opens_22 : decode cX10_opens 22 = .ok (.iconst 1, 1) := by decide +kernel
theorem dX10_opens_23 : decode cX10_opens 23 = .ok (.iadd, 1) := by decide +kernel
theorem dX10_opens_24 : decode cX10_opens 24 = .ok (.putfield 90, 3) := by decide +kernel
theorem dX10_opens_27 : decode cX10_opens 27 = .ok (.iload_n 1, 1) := by decide +kernel
theorem dX10_opens_28 : decode cX10_opens 28 = .ok (.ifCond .ne 7, 3) := by decide +kernel
theorem dX10_opens_31 : decode cX10_opens 31 = .ok (.iconst 1, 1) := by decide +kernel
theorem dX10_opens_32 : decode cX10_opens 32 = .ok (.goto 4, 3) := by decide +kernel
theorem dX10_opens_35 : decode cX10_opens 35 = .ok (.iconst 0, 1) := by decide +kernel
theorem dX10_opens_36 : decode cX10_opens 36 = .ok (.ireturn, 1) := by decide +kernel
set_option maxRecDepth 20000 in
theorem ggX10_readsWinter_X10_opens : GoodIn wsX10_readsWinter wsX10_opens := goodIn_r _ [9, 4, 10, 11, 12, 8, 13, 3, 35, 36, 37, 38, 39, 40, 41, 42, 43, 44, 45, 46, 47, 48, 49, 50, 51, 52, 53, 54, 55, 56, 57, 58, 59, 60, 61, 62, 63, 64] (by decide +kernel) (by decide +kernel)
set_option maxRecDepth 20000 in
theorem gX10_readsWinter_X10_opens : GoodIn wsX10_readsWinter (wsV RX10 107 RX10 yX10_opens wsX10_opens) := goodIn_app (goodIn_of _ (by decide +kernel)) ggX10_readsWinter_X10_opens
set_option maxRecDepth 20000 in
theorem ggX10_readsWinter_X10_number : GoodIn wsX10_readsWinter wsX10_number := goodIn_r _ [17, 3, 4, 18, 19, 20, 8, 21, 22, 23, 24, 25, 26, 27, 28, 29, 30, 10, 11, 12, 13, 35, 36, 37, 38, 39, 40, 41, 42, 43, 44, 45, 46, 47, 48, 49, 50, 51, 52, 53, 54, 55, 56, 57, 58, 59, 60, 61, 62, 63, 64] (by decide +kernel) (by decide +kernel)
set_option maxRecDepth 20000 in
theorem gX10_readsWinter_X10_number : GoodIn wsX10_readsWinter (wsV RX10 111 RX10 yX10_number wsX10_number) := goodIn_app (goodIn_of _ (by decide +kernel)) ggX10_readsWinter_X10_number
set_option maxRecDepth 20000 in
theorem ggX10_readsWinter_X10_skips : GoodIn wsX10_readsWinter wsX10_skips := goodIn_r _ [21, 3, 4, 22, 23, 24, 8, 25, 26, 27, 35, 36, 37, 38, 39, 40, 41, 42, 43, 44, 45, 46, 47, 48, 49, 50, 51, 52, 53, 54, 55, 56, 57, 58, 59, 60, 61, 62, 63, 64] (by decide +kernel) (by decide +kernel)
set_option maxRecDepth 20000 in
theorem gX10_readsWinter_X10_skips : GoodIn wsX10_readsWinter (wsV RX10 100 RX10 yX10_skips wsX10_skips) := goodIn_app (goodIn_of _ (by decide +kernel)) ggX10_readsWinter_X10_skips
set_option maxRecDepth 20000 in
theorem ggX10_readsWinter_X10_look : GoodIn wsX10_readsWinter wsX10_look := goodIn_r _ [25, 4, 26, 27, 35, 36, 37, 38, 39, 40, 41, 42, 43, 44, 45, 46, 47, 48, 49, 50, 51, 52, 53, 54, 55, 56, 57, 58, 59, 60, 61, 62, 63, 64] (by decide +kernel) (by decide +kernel)
set_option maxRecDepth 20000 in
theorem gX10_readsWinter_X10_look : GoodIn wsX10_readsWinter (wsV RX10 96 RX10 yX10_look wsX10_look) := goodIn_app (goodIn_of _ (by decide +kernel)) ggX10_readsWinter_X10_look
set_option maxRecDepth 20000 in
theorem ggX10_readsWinter_X10_fails : GoodIn wsX10_readsWinter wsX10_fails := goodIn_r _ [13, 3, 35, 36, 37, 38, 39, 40, 41, 42, 43, 44, 45, 46, 47, 48, 49, 50, 51, 52, 53, 54, 55, 56, 57, 58, 59, 60, 61, 62, 63, 64] (by decide +kernel) (by decide +kernel)
set_option maxRecDepth 20000 in
theorem gX10_readsWinter_X10_fails : GoodIn wsX10_readsWinter (wsV RX10 103 RX10 yX10_fails wsX10_fails) := goodIn_app (goodIn_of _ (by decide +kernel)) ggX10_readsWinter_X10_fails
set_option maxRecDepth 20000 in
theorem ggX10_readsWinter_X10_word : GoodIn wsX10_readsWinter wsX10_word := goodIn_r _ [34, 3, 4, 18, 19, 20, 8, 21, 22, 23, 24, 25, 26, 27, 10, 11, 12, 13, 35, 36, 37, 38, 39, 40, 41, 42, 43, 44, 45, 46, 47, 48, 49, 50, 51, 52, 53, 54, 55, 56, 57, 58, 59, 60, 61, 62, 63, 64] (by decide +kernel) (by decide +kernel)
set_option maxRecDepth 20000 in
theorem gX10_readsWinter_X10_word : GoodIn wsX10_readsWinter (wsV RX10 115 RX10 yX10_word wsX10_word) := goodIn_app (goodIn_of _ (by decide +kernel)) ggX10_readsWinter_X10_word
theorem dX10_readsWinter_0 : decode cX10_readsWinter 0 = .ok (.aload_n 0, 1) := by decide +kernel
theorem dX10_readsWinter_1 : decode cX10_readsWinter 1 = .ok (.aload_n 0, 1) := by decide +kernel
theorem dX10_readsWinter_2 : decode cX10_readsWinter 2 = .ok (.getfield 32, 3) := by decide +kernel
theorem dX10_readsWinter_5 : decode cX10_readsWinter 5 = .ok (.iconst 0, 1) := by decide +kernel
theorem dX10_readsWinter_6 : decode cX10_readsWinter 6 = .ok (.iaload, 1) := by decide +kernel
theorem dX10_readsWinter_7 : decode cX10_readsWinter 7 = .ok (.ifCond .le 7, 3) := by decide +kernel
theorem dX10_readsWinter_10 : decode cX10_readsWinter 10 = .ok (.iconst 1, 1) := by decide +kernel
theorem dX10_readsWinter_11 : decode cX10_readsWinter 11 = .ok (.goto 4, 3) := by decide +kernel
theorem dX10_readsWinter_14 : decode cX10_readsWinter 14 = .ok (.iconst 0, 1) := by decide +kernel
theorem dX10_readsWinter_15 : decode cX10_readsWinter 15 = .ok (.invokevirtual 107, 3) := by decide +kernel
theorem dX10_readsWinter_18 : decode cX10_readsWinter 18 = .ok (.ifCond .eq 113, 3) := by decide +kernel
theorem dX10_readsWinter_21 : decode cX10_readsWinter 21 = .ok (.aload_n 0, 1) := by decide +kernel
theorem dX10_readsWinter_22 : decode cX10_readsWinter 22 = .ok (.getfield 35, 3) := by decide +kernel
theorem dX10_readsWinter_25 : decode cX10_readsWinter 25 = .ok (.iconst 0, 1) := by decide +kernel
theorem dX10_readsWinter_26 : decode cX10_readsWinter 26 = .ok (.aload_n 0, 1) := by decide +kernel
theorem dX10_readsWinter_27 : decode cX10_readsWinter 27 = .ok (.iconst 0, 1) := by decide +kernel
theorem dX10_readsWinter_28 : decode cX10_readsWinter 28 = .ok (.bipush 40, 2) := by decide +kernel
theorem dX10_readsWinter_30 : decode cX10_readsWinter 30 = .ok (.invokevirtual 111, 3) := by decide +kernel
theorem dX10_readsWinter_33 : decode cX10_readsWinter 33 = .ok (.iastore, 1) := by decide +kernel
theorem dX10_readsWinter_34 : decode cX10_readsWinter 34 = .ok (.aload_n 0, 1) := by decide +kernel
theorem dX10_readsWinter_35 : decode cX10_readsWinter 35 = .ok (.getfield 32, 3) := by decide +kernel
theorem dX10_readsWinter_38 : decode cX10_readsWinter 38 = .ok (.iconst 0, 1) := by decide +kernel
theorem dX10_readsWinter_39 : decode cX10_readsWinter 39 = .ok (.iconst 1, 1) := by decide +kernel
theorem dX10_readsWinter_40 : decode cX10_readsWinter 40 = .ok (.iastore, 1) := by decide +kernel
theorem dX10_readsWinter_41 : decode cX10_readsWinter 41 = .ok (.aload_n 0, 1) := by decide +kernel
theorem dX10_readsWinter_42 : decode cX10_readsWinter 42 = .ok (.invokevirtual 100, 3) := by decide +kernel
theorem dX10_readsWinter_45 : decode cX10_readsWinter 45 = .ok (.aload_n 0, 1) := by decide +kernel
theorem dX10_readsWinter_46 : decode cX10_readsWinter 46 = .ok (.getfield 93, 3) := by decide +kernel
theorem dX10_readsWinter_49 : decode cX10_readsWinter 49 = .ok (.ifCond .ne 76, 3) := by decide +kernel
theorem dX10_readsWinter_52 : decode cX10_readsWinter 52 = .ok (.aload_n 0, 1) := by decide +kernel
theorem dX10_readsWinter_53 : decode cX10_readsWinter 53 = .ok (.invokevirtual 96, 3) := by decide +kernel
theorem dX10_readsWinter_56 : decode cX10_readsWinter 56 = .ok (.bipush 44, 2) := by decide +kernel
theorem dX10_readsWinter_58 : decode cX10_readsWinter 58 = .ok (.if_icmp .ne 67, 3) := by decide +kernel
theorem dX10_readsWinter_61 : decode cX10_readsWinter 61 = .ok (.aload_n 0, 1) := by decide +kernel
theorem dX10_readsWinter_62 : decode cX10_readsWinter 62 = .ok (.getfield 32, 3) := by decide +kernel
theorem dX10_readsWinter_65 : decode cX10_readsWinter 65 = .ok (.iconst 0, 1) := by decide +kernel
theorem dX10_readsWinter_66 : decode cX10_readsWinter 66 = .ok (.iaload, 1) := by decide +kernel
theorem dX10_readsWinter_67 : decode cX10_readsWinter 67 = .ok (.bipush 20, 2) := by decide +kernel
theorem dX10_readsWinter_69 : decode cX10_readsWinter 69 = .ok (.if_icmp .ne 11, 3) := by decide +kernel
theorem dX10_readsWinter_72 : decode cX10_readsWinter 72 = .ok (.aload_n 0, 1) := by decide +kernel
theorem dX10_readsWinter_73 : decode cX10_readsWinter 73 = .ok (.iconst 1, 1) := by decide +kernel
theorem dX10_readsWinter_74 : decode cX10_readsWinter 74 = .ok (.invokevirtual 103, 3) := by decide +kernel
theorem dX10_readsWinter_77 : decode cX10_readsWinter 77 = .ok (.goto 41, 3) := by decide +kernel
theorem dX10_readsWinter_80 : decode cX10_readsWinter 80 = .ok (.aload_n 0, 1) := by decide +kernel
theorem dX10_readsWinter_81 : decode cX10_readsWinter 81 = .ok (.dup, 1) := by decide +kernel
theorem dX10_readsWinter_82 : decode cX10_readsWinter 82 = .ok (.getfield 90, 3) := by decide +kernel
theorem dX10_readsWinter_85 : decode cX10_readsWinter 85 = .ok (.iconst 1, 1) := by decide +kernel
theorem dX10_readsWinter_86 : decode cX10_readsWinter 86 = .ok (.iadd, 1) := by decide +kernel
theorem dX10_readsWinter_87 : decode cX10_readsWinter 87 = .ok (.putfield 90, 3) := by decide +kernel
theorem dX10_readsWinter_90 : decode cX10_readsWinter 90 = .ok (.aload_n 0, 1) := by decide +kernel
theorem dX10_readsWinter_91 : decode cX10_readsWinter 91 = .ok (.getfield 35, 3) := by decide +kernel
theorem dX10_readsWinter_94 : decode cX10_readsWinter 94 = .ok (.aload_n 0, 1) := by decide +kernel
theorem dX10_readsWinter_95 : decode cX10_readsWinter 95 = .ok (.getfield 32, 3) := by decide +kernel
theorem dX10_readsWinter_98 : decode cX10_readsWinter 98 = .ok (.iconst 0, 1) := by decide +kernel
theorem dX10_readsWinter_99 : decode cX10_readsWinter 99 = .ok (.iaload, 1) := by decide +kernel
theorem dX10_readsWinter_100 : decode cX10_readsWinter 100 = .ok (.aload_n 0, 1) := by decide +kernel
theorem dX10_readsWinter_101 : decode cX10_readsWinter 101 = .ok (.iconst 0, 1) := by decide +kernel
theorem dX10_readsWinter_102 : decode cX10_readsWinter 102 = .ok (.bipush 40, 2) := by decide +kernel
theorem dX10_readsWinter_104 : decode cX10_readsWinter 104 = .ok (.invokevirtual 111, 3) := by decide +kernel
theorem dX10_readsWinter_107 : decode cX10_readsWinter 107 = .ok (.iastore, 1) := by decide +kernel
theorem dX10_readsWinter_108 : decode cX10_readsWinter 108 = .ok (.aload_n 0, 1) := by decide +kernel
theorem dX10_readsWinter_109 : decode cX10_readsWinter 109 = .ok (.getfield 32, 3) := by decide +kernel
theorem dX10_readsWinter_112 : decode cX10_readsWinter 112 = .ok (.iconst 0, 1) := by decide +kernel
theorem dX10_readsWinter_113 : decode cX10_readsWinter 113 = .ok (.dup2, 1) := by decide +kernel
theorem dX10_readsWinter_114 : decode cX10_readsWinter 114 = .ok (.iaload, 1) := by decide +kernel
theorem dX10_readsWinter_115 : decode cX10_readsWinter 115 = .ok (.iconst 1, 1) := by decide +kernel
theorem dX10_readsWinter_116 : decode cX10_readsWinter 116 = .ok (.iadd, 1) := by decide +kernel
theorem dX10_readsWinter_117 : decode cX10_readsWinter 117 = .ok (.iastore, 1) := by decide +kernel
theorem dX10_readsWinter_118 : decode cX10_readsWinter 118 = .ok (.aload_n 0, 1) := by decide +kernel
theorem dX10_readsWinter_119 : decode cX10_readsWinter 119 = .ok (.invokevirtual 100, 3) := by decide +kernel
theorem dX10_readsWinter_122 : decode cX10_readsWinter 122 = .ok (.goto (-77), 3) := by decide +kernel
theorem dX10_readsWinter_125 : decode cX10_readsWinter 125 = .ok (.aload_n 0, 1) := by decide +kernel
theorem dX10_readsWinter_126 : decode cX10_readsWinter 126 = .ok (.bipush 59, 2) := by decide +kernel
theorem dX10_readsWinter_128 : decode cX10_readsWinter 128 = .ok (.invokevirtual 115, 3) := by decide +kernel
theorem dX10_readsWinter_131 : decode cX10_readsWinter 131 = .ok (.return_, 1) := by decide +kernel
set_option maxRecDepth 20000 in
theorem ggX10_readsVillage_X10_opens : GoodIn wsX10_readsVillage wsX10_opens := goodIn_r _ [7, 8, 9, 10, 11, 6, 12, 13, 35, 36, 37, 38, 39, 40, 41, 42, 43, 44, 45, 46, 47, 48, 49, 50, 51, 52, 53, 54, 55, 56, 57, 58, 59, 60, 61, 62, 63, 64] (by decide +kernel) (by decide +kernel)
set_option maxRecDepth 20000 in
theorem gX10_readsVillage_X10_opens : GoodIn wsX10_readsVillage (wsV RX10 107 RX10 yX10_opens wsX10_opens) := goodIn_app (goodIn_of _ (by decide +kernel)) ggX10_readsVillage_X10_opens
set_option maxRecDepth 20000 in
theorem ggX10_readsVillage_X10_number : GoodIn wsX10_readsVillage wsX10_number := goodIn_r _ [17, 13, 8, 18, 19, 20, 6, 21, 22, 23, 24, 25, 26, 27, 28, 29, 30, 9, 10, 11, 12, 35, 36, 37, 38, 39, 40, 41, 42, 43, 44, 45, 46, 47, 48, 49, 50, 51, 52, 53, 54, 55, 56, 57, 58, 59, 60, 61, 62, 63, 64] (by decide +kernel) (by decide +kernel)
set_option maxRecDepth 20000 in
theorem gX10_readsVillage_X10_number : GoodIn wsX10_readsVillage (wsV RX10 111 RX10 yX10_number wsX10_number) := goodIn_app (goodIn_of _ (by decide +kernel)) ggX10_readsVillage_X10_number
set_option maxRecDepth 20000 in
theorem ggX10_readsVillage_X10_word : GoodIn wsX10_readsVillage wsX10_word := goodIn_r _ [34, 13, 8, 18, 19, 20, 6, 21, 22, 23, 24, 25, 26, 27, 9, 10, 11, 12, 35, 36, 37, 38, 39, 40, 41, 42, 43, 44, 45, 46, 47, 48, 49, 50, 51, 52, 53, 54, 55, 56, 57, 58, 59, 60, 61, 62, 63, 64] (by decide +kernel) (by decide +kernel)
set_option maxRecDepth 20000 in
theorem gX10_readsVillage_X10_word : GoodIn wsX10_readsVillage (wsV RX10 115 RX10 yX10_word wsX10_word) := goodIn_app (goodIn_of _ (by decide +kernel)) ggX10_readsVillage_X10_word
theorem dX10_readsVillage_0 : decode cX10_readsVillage 0 = .ok (.aload_n 0, 1) := by decide +kernel
theorem dX10_readsVillage_1 : decode cX10_readsVillage 1 = .ok (.aload_n 0, 1) := by decide +kernel
theorem dX10_readsVillage_2 : decode cX10_readsVillage 2 = .ok (.getfield 32, 3) := by decide +kernel
theorem dX10_readsVillage_5 : decode cX10_readsVillage 5 = .ok (.iconst 1, 1) := by decide +kernel
theorem dX10_readsVillage_6 : decode cX10_readsVillage 6 = .ok (.iaload, 1) := by decide +kernel
theorem dX10_readsVillage_7 : decode cX10_readsVillage 7 = .ok (.iconst 4, 1) := by decide +kernel
theorem dX10_readsVillage_8 : decode cX10_readsVillage 8 = .ok (.if_icmp .ne 7, 3) := by decide +kernel
theorem dX10_readsVillage_11 : decode cX10_readsVillage 11 = .ok (.iconst 1, 1) := by decide +kernel
theorem dX10_readsVillage_12 : decode cX10_readsVillage 12 = .ok (.goto 4, 3) := by decide +kernel
theorem dX10_readsVillage_15 : decode cX10_readsVillage 15 = .ok (.iconst 0, 1) := by decide +kernel
theorem dX10_readsVillage_16 : decode cX10_readsVillage 16 = .ok (.invokevirtual 107, 3) := by decide +kernel
theorem dX10_readsVillage_19 : decode cX10_readsVillage 19 = .ok (.ifCond .eq 84, 3) := by decide +kernel
theorem dX10_readsVillage_22 : decode cX10_readsVillage 22 = .ok (.iconst 5, 1) := by decide +kernel
theorem dX10_readsVillage_23 : decode cX10_readsVillage 23 = .ok (.aload_n 0, 1) := by decide +kernel
theorem dX10_readsVillage_24 : decode cX10_readsVillage 24 = .ok (.getfield 32, 3) := by decide +kernel
theorem dX10_readsVillage_27 : decode cX10_readsVillage 27 = .ok (.iconst 1, 1) := by decide +kernel
theorem dX10_readsVillage_28 : decode cX10_readsVillage 28 = .ok (.iaload, 1) := by decide +kernel
theorem dX10_readsVillage_29 : decode cX10_readsVillage 29 = .ok (.imul, 1) := by decide +kernel
theorem dX10_readsVillage_30 : decode cX10_readsVillage 30 = .ok (.istore_n 1, 1) := by decide +kernel
theorem dX10_readsVillage_31 : decode cX10_readsVillage 31 = .ok (.aload_n 0, 1) := by decide +kernel
theorem dX10_readsVillage_32 : decode cX10_readsVillage 32 = .ok (.getfield 38, 3) := by decide +kernel
theorem dX10_readsVillage_35 : decode cX10_readsVillage 35 = .ok (.iload_n 1, 1) := by decide +kernel
theorem dX10_readsVillage_36 : decode cX10_readsVillage 36 = .ok (.aload_n 0, 1) := by decide +kernel
theorem dX10_readsVillage_37 : decode cX10_readsVillage 37 = .ok (.iconst 0, 1) := by decide +kernel
theorem dX10_readsVillage_38 : decode cX10_readsVillage 38 = .ok (.bipush 40, 2) := by decide +kernel
theorem dX10_readsVillage_40 : decode cX10_readsVillage 40 = .ok (.invokevirtual 111, 3) := by decide +kernel
theorem dX10_readsVillage_43 : decode cX10_readsVillage 43 = .ok (.iastore, 1) := by decide +kernel
theorem dX10_readsVillage_44 : decode cX10_readsVillage 44 = .ok (.iconst 1, 1) := by decide +kernel
theorem dX10_readsVillage_45 : decode cX10_readsVillage 45 = .ok (.istore_n 2, 1) := by decide +kernel
theorem dX10_readsVillage_46 : decode cX10_readsVillage 46 = .ok (.iload_n 2, 1) := by decide +kernel
theorem dX10_readsVillage_47 : decode cX10_readsVillage 47 = .ok (.iconst 4, 1) := by decide +kernel
theorem dX10_readsVillage_48 : decode cX10_readsVillage 48 = .ok (.if_icmp .ge 24, 3) := by decide +kernel
theorem dX10_readsVillage_51 : decode cX10_readsVillage 51 = .ok (.aload_n 0, 1) := by decide +kernel
theorem dX10_readsVillage_52 : decode cX10_readsVillage 52 = .ok (.getfield 38, 3) := by decide +kernel
theorem dX10_readsVillage_55 : decode cX10_readsVillage 55 = .ok (.iload_n 1, 1) := by decide +kernel
theorem dX10_readsVillage_56 : decode cX10_readsVillage 56 = .ok (.iload_n 2, 1) := by decide +kernel
theorem dX10_readsVillage_57 : decode cX10_readsVillage 57 = .ok (.iadd, 1) := by decide +kernel
theorem dX10_readsVillage_58 : decode cX10_readsVillage 58 = .ok (.aload_n 0, 1) := by decide +kernel
theorem dX10_readsVillage_59 : decode cX10_readsVillage 59 = .ok (.iconst 0, 1) := by decide +kernel
theorem dX10_readsVillage_60 : decode cX10_readsVillage 60 = .ok (.bipush 40, 2) := by decide +kernel
theorem dX10_readsVillage_62 : decode cX10_readsVillage 62 = .ok (.invokevirtual 111, 3) := by decide +kernel
theorem dX10_readsVillage_65 : decode cX10_readsVillage 65 = .ok (.iastore, 1) := by decide +kernel
theorem dX10_readsVillage_66 : decode cX10_readsVillage 66 = .ok (.iinc 2 1, 3) := by decide +kernel
theorem dX10_readsVillage_69 : decode cX10_readsVillage 69 = .ok (.goto (-23), 3) := by decide +kernel
theorem dX10_readsVillage_72 : decode cX10_readsVillage 72 = .ok (.aload_n 0, 1) := by decide +kernel
theorem dX10_readsVillage_73 : decode cX10_readsVillage 73 = .ok (.getfield 38, 3) := by decide +kernel
theorem dX10_readsVillage_76 : decode cX10_readsVillage 76 = .ok (.iload_n 1, 1) := by decide +kernel
theorem dX10_readsVillage_77 : decode cX10_readsVillage 77 = .ok (.iconst 4, 1) := by decide +kernel
theorem dX10_readsVillage_78 : decode cX10_readsVillage 78 = .ok (.iadd, 1) := by decide +kernel
theorem dX10_readsVillage_79 : decode cX10_readsVillage 79 = .ok (.aload_n 0, 1) := by decide +kernel
theorem dX10_readsVillage_80 : decode cX10_readsVillage 80 = .ok (.iconst 1, 1) := by decide +kernel
theorem dX10_readsVillage_81 : decode cX10_readsVillage 81 = .ok (.bipush 40, 2) := by decide +kernel
theorem dX10_readsVillage_83 : decode cX10_readsVillage 83 = .ok (.invokevirtual 111, 3) := by decide +kernel
theorem dX10_readsVillage_86 : decode cX10_readsVillage 86 = .ok (.iastore, 1) := by decide +kernel
theorem dX10_readsVillage_87 : decode cX10_readsVillage 87 = .ok (.aload_n 0, 1) := by decide +kernel
theorem dX10_readsVillage_88 : decode cX10_readsVillage 88 = .ok (.bipush 59, 2) := by decide +kernel
theorem dX10_readsVillage_90 : decode cX10_readsVillage 90 = .ok (.invokevirtual 115, 3) := by decide +kernel
theorem dX10_readsVillage_93 : decode cX10_readsVillage 93 = .ok (.aload_n 0, 1) := by decide +kernel
theorem dX10_readsVillage_94 : decode cX10_readsVillage 94 = .ok (.getfield 32, 3) := by decide +kernel
theorem dX10_readsVillage_97 : decode cX10_readsVillage 97 = .ok (.iconst 1, 1) := by decide +kernel
theorem dX10_readsVillage_98 : decode cX10_readsVillage 98 = .ok (.dup2, 1) := by decide +kernel
theorem dX10_readsVillage_99 : decode cX10_readsVillage 99 = .ok (.iaload, 1) := by decide +kernel
theorem dX10_readsVillage_100 : decode cX10_readsVillage 100 = .ok (.iconst 1, 1) := by decide +kernel
theorem dX10_readsVillage_101 : decode cX10_readsVillage 101 = .ok (.iadd, 1) := by decide +kernel
theorem dX10_readsVillage_102 : decode cX10_readsVillage 102 = .ok (.iastore, 1) := by decide +kernel
theorem dX10_readsVillage_103 : decode cX10_readsVillage 103 = .ok (.return_, 1) := by decide +kernel
set_option maxRecDepth 20000 in
theorem ggX10_toldAhead_X10_skips : GoodIn wsX10_toldAhead wsX10_skips := goodIn_r _ [8, 2, 1, 9, 10, 11, 7, 12, 13, 14, 26, 27, 28, 29, 30, 31, 32, 33, 34, 35, 36, 37, 38, 39, 40, 41, 42, 43, 44, 45, 46, 47, 48, 49, 50, 51, 52, 53, 54, 55] (by decide +kernel) (by decide +kernel)
set_option maxRecDepth 20000 in
theorem gX10_toldAhead_X10_skips : GoodIn wsX10_toldAhead (wsV RX10 100 RX10 yX10_skips wsX10_skips) := goodIn_app (goodIn_of _ (by decide +kernel)) ggX10_toldAhead_X10_skips
set_option maxRecDepth 20000 in
theorem ggX10_toldAhead_X10_number : GoodIn wsX10_toldAhead wsX10_number := goodIn_r _ [18, 2, 1, 4, 5, 6, 7, 8, 9, 10, 11, 12, 13, 14, 19, 20, 21, 22, 23, 24, 25, 26, 27, 28, 29, 30, 31, 32, 33, 34, 35, 36, 37, 38, 39, 40, 41, 42, 43, 44, 45, 46, 47, 48, 49, 50, 51, 52, 53, 54, 55] (by decide +kernel) (by decide +kernel)
set_option maxRecDepth 20000 in
theorem gX10_toldAhead_X10_number : GoodIn wsX10_toldAhead (wsV RX10 111 RX10 yX10_number wsX10_number) := goodIn_app (goodIn_of _ (by decide +kernel)) ggX10_toldAhead_X10_number
set_option maxRecDepth 20000 in
theorem ggX10_toldAhead_X10_fails : GoodIn wsX10_toldAhead wsX10_fails := goodIn_r _ [25, 2, 26, 27, 28, 29, 30, 31, 32, 33, 34, 35, 36, 37, 38, 39, 40, 41, 42, 43, 44, 45, 46, 47, 48, 49, 50, 51, 52, 53, 54, 55] (by decide +kernel) (by decide +kernel)
set_option maxRecDepth 20000 in
theorem gX10_toldAhead_X10_fails : GoodIn wsX10_toldAhead (wsV RX10 103 RX10 yX10_fails wsX10_fails) := goodIn_app (goodIn_of _ (by decide +kernel)) ggX10_toldAhead_X10_fails
theorem dX10_toldAhead_0 : decode cX10_toldAhead 0 = .ok (.aload_n 0, 1) := by decide +kernel
theorem dX10_toldAhead_1 : decode cX10_toldAhead 1 = .ok (.invokevirtual 100, 3) := by decide +kernel
theorem dX10_toldAhead_4 : decode cX10_toldAhead 4 = .ok (.aload_n 0, 1) := by decide +kernel
theorem dX10_toldAhead_5 : decode cX10_toldAhead 5 = .ok (.getfield 90, 3) := by decide +kernel
theorem dX10_toldAhead_8 : decode cX10_toldAhead 8 = .ok (.istore_n 1, 1) := by decide +kernel
theorem dX10_toldAhead_9 : decode cX10_toldAhead 9 = .ok (.aload_n 0, 1) := by decide +kernel
theorem dX10_toldAhead_10 : decode cX10_toldAhead 10 = .ok (.iconst 0, 1) := by decide +kernel
theorem dX10_toldAhead_11 : decode cX10_toldAhead 11 = .ok (.sipush 999, 3) := by decide +kernel
theorem dX10_toldAhead_14 : decode cX10_toldAhead 14 = .ok (.invokevirtual 111, 3) := by decide +kernel
theorem dX10_toldAhead_17 : decode cX10_toldAhead 17 = .ok (.istore_n 2, 1) := by decide +kernel
theorem dX10_toldAhead_18 : decode cX10_toldAhead 18 = .ok (.aload_n 0, 1) := by decide +kernel
theorem dX10_toldAhead_19 : decode cX10_toldAhead 19 = .ok (.getfield 93, 3) := by decide +kernel
theorem dX10_toldAhead_22 : decode cX10_toldAhead 22 = .ok (.ifCond .ne 23, 3) := by decide +kernel
theorem dX10_toldAhead_25 : decode cX10_toldAhead 25 = .ok (.iload_n 2, 1) := by decide +kernel
theorem dX10_toldAhead_26 : decode cX10_toldAhead 26 = .ok (.aload_n 0, 1) := by decide +kernel
theorem dX10_toldAhead_27 : decode cX10_toldAhead 27 = .ok (.getfield 32, 3) := by decide +kernel
theorem dX10_toldAhead_30 : decode cX10_toldAhead 30 = .ok (.iconst 1, 1) := by decide +kernel
theorem dX10_toldAhead_31 : decode cX10_toldAhead 31 = .ok (.iaload, 1) := by decide +kernel
theorem dX10_toldAhead_32 : decode cX10_toldAhead 32 = .ok (.if_icmp .lt 13, 3) := by decide +kernel
theorem dX10_toldAhead_35 : decode cX10_toldAhead 35 = .ok (.aload_n 0, 1) := by decide +kernel
theorem dX10_toldAhead_36 : decode cX10_toldAhead 36 = .ok (.iload_n 1, 1) := by decide +kernel
theorem dX10_toldAhead_37 : decode cX10_toldAhead 37 = .ok (.putfield 90, 3) := by decide +kernel
theorem dX10_toldAhead_40 : decode cX10_toldAhead 40 = .ok (.aload_n 0, 1) := by decide +kernel
theorem dX10_toldAhead_41 : decode cX10_toldAhead 41 = .ok (.iconst 2, 1) := by decide +kernel
theorem dX10_toldAhead_42 : decode cX10_toldAhead 42 = .ok (.invokevirtual 103, 3) := by decide +kernel
theorem dX10_toldAhead_45 : decode cX10_toldAhead 45 = .ok (.iload_n 2, 1) := by decide +kernel
theorem dX10_toldAhead_46 : decode cX10_toldAhead 46 = .ok (.ireturn, 1) := by decide +kernel
set_option maxRecDepth 20000 in
theorem ggX10_readsPerson_X10_opens : GoodIn wsX10_readsPerson wsX10_opens := goodIn_r _ [7, 8, 9, 10, 11, 6, 12, 13, 39, 40, 41, 42, 43, 44, 45, 46, 47, 48, 49, 50, 51, 52, 53, 54, 55, 56, 57, 58, 59, 60, 61, 62, 63, 64, 65, 66, 67, 68] (by decide +kernel) (by decide +kernel)
set_option maxRecDepth 20000 in
theorem gX10_readsPerson_X10_opens : GoodIn wsX10_readsPerson (wsV RX10 107 RX10 yX10_opens wsX10_opens) := goodIn_app (goodIn_of _ (by decide +kernel)) ggX10_readsPerson_X10_opens
set_option maxRecDepth 20000 in
theorem ggX10_readsPerson_X10_toldAhead : GoodIn wsX10_readsPerson wsX10_toldAhead := goodIn_r _ [17, 8, 13, 1, 18, 19, 20, 6, 21, 22, 23, 24, 25, 26, 27, 28, 29, 30, 31, 32, 33, 34, 9, 10, 11, 12, 39, 40, 41, 42, 43, 44, 45, 46, 47, 48, 49, 50, 51, 52, 53, 54, 55, 56, 57, 58, 59, 60, 61, 62, 63, 64, 65, 66, 67, 68] (by decide +kernel) (by decide +kernel)
set_option maxRecDepth 20000 in
theorem gX10_readsPerson_X10_toldAhead : GoodIn wsX10_readsPerson (wsV RX10 118 RX10 yX10_toldAhead wsX10_toldAhead) := goodIn_app (goodIn_of _ (by decide +kernel)) ggX10_readsPerson_X10_toldAhead
set_option maxRecDepth 20000 in
theorem ggX10_readsPerson_X10_number : GoodIn wsX10_readsPerson wsX10_number := goodIn_r _ [31, 13, 8, 18, 19, 20, 6, 21, 22, 23, 24, 25, 26, 27, 32, 33, 34, 9, 10, 11, 12, 39, 40, 41, 42, 43, 44, 45, 46, 47, 48, 49, 50, 51, 52, 53, 54, 55, 56, 57, 58, 59, 60, 61, 62, 63, 64, 65, 66, 67, 68] (by decide +kernel) (by decide +kernel)
set_option maxRecDepth 20000 in
theorem gX10_readsPerson_X10_number : GoodIn wsX10_readsPerson (wsV RX10 111 RX10 yX10_number wsX10_number) := goodIn_app (goodIn_of _ (by decide +kernel)) ggX10_readsPerson_X10_number
set_option maxRecDepth 20000 in
theorem ggX10_readsPerson_X10_word : GoodIn wsX10_readsPerson wsX10_word := goodIn_r _ [38, 13, 8, 18, 19, 20, 6, 21, 22, 23, 24, 25, 26, 27, 9, 10, 11, 12, 39, 40, 41, 42, 43, 44, 45, 46, 47, 48, 49, 50, 51, 52, 53, 54, 55, 56, 57, 58, 59, 60, 61, 62, 63, 64, 65, 66, 67, 68] (by decide +kernel) (by decide +kernel)
set_option maxRecDepth 20000 in
theorem gX10_readsPerson_X10_word : GoodIn wsX10_readsPerson (wsV RX10 115 RX10 yX10_word wsX10_word) := goodIn_app (goodIn_of _ (by decide +kernel)) ggX10_readsPerson_X10_word
theorem dX10_readsPerson_0 : decode cX10_readsPerson 0 = .ok (.aload_n 0, 1) := by decide +kernel
theorem dX10_readsPerson_1 : decode cX10_readsPerson 1 = .ok (.aload_n 0, 1) := by decide +kernel
theorem dX10_readsPerson_2 : decode cX10_readsPerson 2 = .ok (.getfield 32, 3) := by decide +kernel
theorem dX10_readsPerson_5 : decode cX10_readsPerson 5 = .ok (.iconst 2, 1) := by decide +kernel
theorem dX10_readsPerson_6 : decode cX10_readsPerson 6 = .ok (.iaload, 1) := by decide +kernel
theorem dX10_readsPerson_7 : decode cX10_readsPerson 7 = .ok (.bipush 6, 2) := by decide +kernel
theorem dX10_readsPerson_9 : decode cX10_readsPerson 9 = .ok (.if_icmp .ne 7, 3) := by decide +kernel
theorem dX10_readsPerson_12 : decode cX10_readsPerson 12 = .ok (.iconst 1, 1) := by decide +kernel
theorem dX10_readsPerson_13 : decode cX10_readsPerson 13 = .ok (.goto 4, 3) := by decide +kernel
theorem dX10_readsPerson_16 : decode cX10_readsPerson 16 = .ok (.iconst 0, 1) := by decide +kernel
theorem dX10_readsPerson_17 : decode cX10_readsPerson 17 = .ok (.invokevirtual 107, 3) := by decide +kernel
theorem dX10_readsPerson_20 : decode cX10_readsPerson 20 = .ok (.ifCond .eq 59, 3) := by decide +kernel
theorem dX10_readsPerson_23 : decode cX10_readsPerson 23 = .ok (.aload_n 0, 1) := by decide +kernel
theorem dX10_readsPerson_24 : decode cX10_readsPerson 24 = .ok (.getfield 41, 3) := by decide +kernel
theorem dX10_readsPerson_27 : decode cX10_readsPerson 27 = .ok (.iconst 2, 1) := by decide +kernel
theorem dX10_readsPerson_28 : decode cX10_readsPerson 28 = .ok (.aload_n 0, 1) := by decide +kernel
theorem dX10_readsPerson_29 : decode cX10_readsPerson 29 = .ok (.getfield 32, 3) := by decide +kernel
theorem dX10_readsPerson_32 : decode cX10_readsPerson 32 = .ok (.iconst 2, 1) := by decide +kernel
theorem dX10_readsPerson_33 : decode cX10_readsPerson 33 = .ok (.iaload, 1) := by decide +kernel
theorem dX10_readsPerson_34 : decode cX10_readsPerson 34 = .ok (.imul, 1) := by decide +kernel
theorem dX10_readsPerson_35 : decode cX10_readsPerson 35 = .ok (.aload_n 0, 1) := by decide +kernel
theorem dX10_readsPerson_36 : decode cX10_readsPerson 36 = .ok (.invokevirtual 118, 3) := by decide +kernel
theorem dX10_readsPerson_39 : decode cX10_readsPerson 39 = .ok (.iastore, 1) := by decide +kernel
theorem dX10_readsPerson_40 : decode cX10_readsPerson 40 = .ok (.aload_n 0, 1) := by decide +kernel
theorem dX10_readsPerson_41 : decode cX10_readsPerson 41 = .ok (.getfield 41, 3) := by decide +kernel
theorem dX10_readsPerson_44 : decode cX10_readsPerson 44 = .ok (.iconst 2, 1) := by decide +kernel
theorem dX10_readsPerson_45 : decode cX10_readsPerson 45 = .ok (.aload_n 0, 1) := by decide +kernel
theorem dX10_readsPerson_46 : decode cX10_readsPerson 46 = .ok (.getfield 32, 3) := by decide +kernel
theorem dX10_readsPerson_49 : decode cX10_readsPerson 49 = .ok (.iconst 2, 1) := by decide +kernel
theorem dX10_readsPerson_50 : decode cX10_readsPerson 50 = .ok (.iaload, 1) := by decide +kernel
theorem dX10_readsPerson_51 : decode cX10_readsPerson 51 = .ok (.imul, 1) := by decide +kernel
theorem dX10_readsPerson_52 : decode cX10_readsPerson 52 = .ok (.iconst 1, 1) := by decide +kernel
theorem dX10_readsPerson_53 : decode cX10_readsPerson 53 = .ok (.iadd, 1) := by decide +kernel
theorem dX10_readsPerson_54 : decode cX10_readsPerson 54 = .ok (.aload_n 0, 1) := by decide +kernel
theorem dX10_readsPerson_55 : decode cX10_readsPerson 55 = .ok (.iconst 0, 1) := by decide +kernel
theorem dX10_readsPerson_56 : decode cX10_readsPerson 56 = .ok (.sipush 999, 3) := by decide +kernel
theorem dX10_readsPerson_59 : decode cX10_readsPerson 59 = .ok (.invokevirtual 111, 3) := by decide +kernel
theorem dX10_readsPerson_62 : decode cX10_readsPerson 62 = .ok (.iastore, 1) := by decide +kernel
theorem dX10_readsPerson_63 : decode cX10_readsPerson 63 = .ok (.aload_n 0, 1) := by decide +kernel
theorem dX10_readsPerson_64 : decode cX10_readsPerson 64 = .ok (.bipush 59, 2) := by decide +kernel
theorem dX10_readsPerson_66 : decode cX10_readsPerson 66 = .ok (.invokevirtual 115, 3) := by decide +kernel
theorem dX10_readsPerson_69 : decode cX10_readsPerson 69 = .ok (.aload_n 0, 1) := by decide +kernel
theorem dX10_readsPerson_70 : decode cX10_readsPerson 70 = .ok (.getfield 32, 3) := by decide +kernel
theorem dX10_readsPerson_73 : decode cX10_readsPerson 73 = .ok (.iconst 2, 1) := by decide +kernel
theorem dX10_readsPerson_74 : decode cX10_readsPerson 74 = .ok (.dup2, 1) := by decide +kernel
theorem dX10_readsPerson_75 : decode cX10_readsPerson 75 = .ok (.iaload, 1) := by decide +kernel
theorem dX10_readsPerson_76 : decode cX10_readsPerson 76 = .ok (.iconst 1, 1) := by decide +kernel
theorem dX10_readsPerson_77 : decode cX10_readsPerson 77 = .ok (.iadd, 1) := by decide +kernel
theorem dX10_readsPerson_78 : decode cX10_readsPerson 78 = .ok (.iastore, 1) := by decide +kernel
theorem dX10_readsPerson_79 : decode cX10_readsPerson 79 = .ok (.return_, 1) := by decide +kernel
set_option maxRecDepth 20000 in
theorem ggX10_readsDebt_X10_opens : GoodIn wsX10_readsDebt wsX10_opens := goodIn_r _ [7, 8, 9, 10, 11, 6, 12, 13, 39, 40, 41, 42, 43, 44, 45, 46, 47, 48, 49, 50, 51, 52, 53, 54, 55, 56, 57, 58, 59, 60, 61, 62, 63, 64, 65, 66, 67, 68] (by decide +kernel) (by decide +kernel)
set_option maxRecDepth 20000 in
theorem gX10_readsDebt_X10_opens : GoodIn wsX10_readsDebt (wsV RX10 107 RX10 yX10_opens wsX10_opens) := goodIn_app (goodIn_of _ (by decide +kernel)) ggX10_readsDebt_X10_opens
set_option maxRecDepth 20000 in
theorem ggX10_readsDebt_X10_toldAhead : GoodIn wsX10_readsDebt wsX10_toldAhead := goodIn_r _ [17, 8, 13, 1, 18, 19, 20, 6, 21, 22, 23, 24, 25, 26, 27, 28, 29, 30, 31, 32, 33, 34, 9, 10, 11, 12, 39, 40, 41, 42, 43, 44, 45, 46, 47, 48, 49, 50, 51, 52, 53, 54, 55, 56, 57, 58, 59, 60, 61, 62, 63, 64, 65, 66, 67, 68] (by decide +kernel) (by decide +kernel)
set_option maxRecDepth 20000 in
theorem gX10_readsDebt_X10_toldAhead : GoodIn wsX10_readsDebt (wsV RX10 118 RX10 yX10_toldAhead wsX10_toldAhead) := goodIn_app (goodIn_of _ (by decide +kernel)) ggX10_readsDebt_X10_toldAhead
set_option maxRecDepth 20000 in
theorem ggX10_readsDebt_X10_number : GoodIn wsX10_readsDebt wsX10_number := goodIn_r _ [31, 13, 8, 18, 19, 20, 6, 21, 22, 23, 24, 25, 26, 27, 32, 33, 34, 9, 10, 11, 12, 39, 40, 41, 42, 43, 44, 45, 46, 47, 48, 49, 50, 51, 52, 53, 54, 55, 56, 57, 58, 59, 60, 61, 62, 63, 64, 65, 66, 67, 68] (by decide +kernel) (by decide +kernel)
set_option maxRecDepth 20000 in
theorem gX10_readsDebt_X10_number : GoodIn wsX10_readsDebt (wsV RX10 111 RX10 yX10_number wsX10_number) := goodIn_app (goodIn_of _ (by decide +kernel)) ggX10_readsDebt_X10_number
set_option maxRecDepth 20000 in
theorem ggX10_readsDebt_X10_word : GoodIn wsX10_readsDebt wsX10_word := goodIn_r _ [38, 13, 8, 18, 19, 20, 6, 21, 22, 23, 24, 25, 26, 27, 9, 10, 11, 12, 39, 40, 41, 42, 43, 44, 45, 46, 47, 48, 49, 50, 51, 52, 53, 54, 55, 56, 57, 58, 59, 60, 61, 62, 63, 64, 65, 66, 67, 68] (by decide +kernel) (by decide +kernel)
set_option maxRecDepth 20000 in
theorem gX10_readsDebt_X10_word : GoodIn wsX10_readsDebt (wsV RX10 115 RX10 yX10_word wsX10_word) := goodIn_app (goodIn_of _ (by decide +kernel)) ggX10_readsDebt_X10_word
theorem dX10_readsDebt_0 : decode cX10_readsDebt 0 = .ok (.aload_n 0, 1) := by decide +kernel
theorem dX10_readsDebt_1 : decode cX10_readsDebt 1 = .ok (.aload_n 0, 1) := by decide +kernel
theorem dX10_readsDebt_2 : decode cX10_readsDebt 2 = .ok (.getfield 32, 3) := by decide +kernel
theorem dX10_readsDebt_5 : decode cX10_readsDebt 5 = .ok (.iconst 3, 1) := by decide +kernel
theorem dX10_readsDebt_6 : decode cX10_readsDebt 6 = .ok (.iaload, 1) := by decide +kernel
theorem dX10_readsDebt_7 : decode cX10_readsDebt 7 = .ok (.iconst 5, 1) := by decide +kernel
theorem dX10_readsDebt_8 : decode cX10_readsDebt 8 = .ok (.if_icmp .ne 7, 3) := by decide +kernel
theorem dX10_readsDebt_11 : decode cX10_readsDebt 11 = .ok (.iconst 1, 1) := by decide +kernel
theorem dX10_readsDebt_12 : decode cX10_readsDebt 12 = .ok (.goto 4, 3) := by decide +kernel
theorem dX10_readsDebt_15 : decode cX10_readsDebt 15 = .ok (.iconst 0, 1) := by decide +kernel
theorem dX10_readsDebt_16 : decode cX10_readsDebt 16 = .ok (.invokevirtual 107, 3) := by decide +kernel
theorem dX10_readsDebt_19 : decode cX10_readsDebt 19 = .ok (.ifCond .eq 59, 3) := by decide +kernel
theorem dX10_readsDebt_22 : decode cX10_readsDebt 22 = .ok (.aload_n 0, 1) := by decide +kernel
theorem dX10_readsDebt_23 : decode cX10_readsDebt 23 = .ok (.getfield 44, 3) := by decide +kernel
theorem dX10_readsDebt_26 : decode cX10_readsDebt 26 = .ok (.iconst 2, 1) := by decide +kernel
theorem dX10_readsDebt_27 : decode cX10_readsDebt 27 = .ok (.aload_n 0, 1) := by decide +kernel
theorem dX10_readsDebt_28 : decode cX10_readsDebt 28 = .ok (.getfield 32, 3) := by decide +kernel
theorem dX10_readsDebt_31 : decode cX10_readsDebt 31 = .ok (.iconst 3, 1) := by decide +kernel
theorem dX10_readsDebt_32 : decode cX10_readsDebt 32 = .ok (.iaload, 1) := by decide +kernel
theorem dX10_readsDebt_33 : decode cX10_readsDebt 33 = .ok (.imul, 1) := by decide +kernel
theorem dX10_readsDebt_34 : decode cX10_readsDebt 34 = .ok (.aload_n 0, 1) := by decide +kernel
theorem dX10_readsDebt_35 : decode cX10_readsDebt 35 = .ok (.invokevirtual 118, 3) := by decide +kernel
theorem dX10_readsDebt_38 : decode cX10_readsDebt 38 = .ok (.iastore, 1) := by decide +kernel
theorem dX10_readsDebt_39 : decode cX10_readsDebt 39 = .ok (.aload_n 0, 1) := by decide +kernel
theorem dX10_readsDebt_40 : decode cX10_readsDebt 40 = .ok (.getfield 44, 3) := by decide +kernel
theorem dX10_readsDebt_43 : decode cX10_readsDebt 43 = .ok (.iconst 2, 1) := by decide +kernel
theorem dX10_readsDebt_44 : decode cX10_readsDebt 44 = .ok (.aload_n 0, 1) := by decide +kernel
theorem dX10_readsDebt_45 : decode cX10_readsDebt 45 = .ok (.getfield 32, 3) := by decide +kernel
theorem dX10_readsDebt_48 : decode cX10_readsDebt 48 = .ok (.iconst 3, 1) := by decide +kernel
theorem dX10_readsDebt_49 : decode cX10_readsDebt 49 = .ok (.iaload, 1) := by decide +kernel
theorem dX10_readsDebt_50 : decode cX10_readsDebt 50 = .ok (.imul, 1) := by decide +kernel
theorem dX10_readsDebt_51 : decode cX10_readsDebt 51 = .ok (.iconst 1, 1) := by decide +kernel
theorem dX10_readsDebt_52 : decode cX10_readsDebt 52 = .ok (.iadd, 1) := by decide +kernel
theorem dX10_readsDebt_53 : decode cX10_readsDebt 53 = .ok (.aload_n 0, 1) := by decide +kernel
theorem dX10_readsDebt_54 : decode cX10_readsDebt 54 = .ok (.iconst 1, 1) := by decide +kernel
theorem dX10_readsDebt_55 : decode cX10_readsDebt 55 = .ok (.sipush 999, 3) := by decide +kernel
theorem dX10_readsDebt_58 : decode cX10_readsDebt 58 = .ok (.invokevirtual 111, 3) := by decide +kernel
theorem dX10_readsDebt_61 : decode cX10_readsDebt 61 = .ok (.iastore, 1) := by decide +kernel
theorem dX10_readsDebt_62 : decode cX10_readsDebt 62 = .ok (.aload_n 0, 1) := by decide +kernel
theorem dX10_readsDebt_63 : decode cX10_readsDebt 63 = .ok (.bipush 59, 2) := by decide +kernel
theorem dX10_readsDebt_65 : decode cX10_readsDebt 65 = .ok (.invokevirtual 115, 3) := by decide +kernel
theorem dX10_readsDebt_68 : decode cX10_readsDebt 68 = .ok (.aload_n 0, 1) := by decide +kernel
theorem dX10_readsDebt_69 : decode cX10_readsDebt 69 = .ok (.getfield 32, 3) := by decide +kernel
theorem dX10_readsDebt_72 : decode cX10_readsDebt 72 = .ok (.iconst 3, 1) := by decide +kernel
theorem dX10_readsDebt_73 : decode cX10_readsDebt 73 = .ok (.dup2, 1) := by decide +kernel
theorem dX10_readsDebt_74 : decode cX10_readsDebt 74 = .ok (.iaload, 1) := by decide +kernel
theorem dX10_readsDebt_75 : decode cX10_readsDebt 75 = .ok (.iconst 1, 1) := by decide +kernel
theorem dX10_readsDebt_76 : decode cX10_readsDebt 76 = .ok (.iadd, 1) := by decide +kernel
theorem dX10_readsDebt_77 : decode cX10_readsDebt 77 = .ok (.iastore, 1) := by decide +kernel
theorem dX10_readsDebt_78 : decode cX10_readsDebt 78 = .ok (.return_, 1) := by decide +kernel
set_option maxRecDepth 20000 in
theorem ggX10_reads_X10_look : GoodIn wsX10_reads wsX10_look := goodIn_r _ [7, 8, 9, 10, 58, 59, 60, 61, 62, 63, 64, 65, 66, 67, 68, 69, 70, 71, 72, 73, 74, 75, 76, 77, 78, 79, 80, 81, 82, 83, 84, 85, 86, 87] (by decide +kernel) (by decide +kernel)
set_option maxRecDepth 20000 in
theorem gX10_reads_X10_look : GoodIn wsX10_reads (wsV RX10 96 RX10 yX10_look wsX10_look) := goodIn_app (goodIn_of _ (by decide +kernel)) ggX10_reads_X10_look
set_option maxRecDepth 20000 in
theorem ggX10_reads_X10_readsWinter : GoodIn wsX10_reads wsX10_readsWinter := goodIn_r _ [14, 2, 15, 1, 8, 16, 17, 18, 6, 19, 20, 21, 22, 23, 24, 25, 26, 27, 28, 29, 30, 31, 3, 4, 5, 7, 9, 10, 32, 33, 34, 35, 36, 37, 38, 58, 59, 60, 61, 62, 63, 64, 65, 66, 67, 68, 69, 70, 71, 72, 73, 74, 75, 76, 77, 78, 79, 80, 81, 82, 83, 84, 85, 86, 87] (by decide +kernel) (by decide +kernel)
set_option maxRecDepth 20000 in
theorem gX10_reads_X10_readsWinter : GoodIn wsX10_reads (wsV RX10 121 RX10 yX10_readsWinter wsX10_readsWinter) := goodIn_app (goodIn_of _ (by decide +kernel)) ggX10_reads_X10_readsWinter
set_option maxRecDepth 20000 in
theorem ggX10_reads_X10_fails : GoodIn wsX10_reads wsX10_fails := goodIn_r _ [23, 1, 58, 59, 60, 61, 62, 63, 64, 65, 66, 67, 68, 69, 70, 71, 72, 73, 74, 75, 76, 77, 78, 79, 80, 81, 82, 83, 84, 85, 86, 87] (by decide +kernel) (by decide +kernel)
set_option maxRecDepth 20000 in
theorem gX10_reads_X10_fails : GoodIn wsX10_reads (wsV RX10 103 RX10 yX10_fails wsX10_fails) := goodIn_app (goodIn_of _ (by decide +kernel)) ggX10_reads_X10_fails
set_option maxRecDepth 20000 in
theorem ggX10_reads_X10_readsVillage : GoodIn wsX10_reads wsX10_readsVillage := goodIn_r _ [42, 2, 43, 16, 17, 18, 6, 19, 8, 20, 21, 22, 23, 1, 24, 25, 26, 27, 28, 29, 30, 31, 3, 4, 5, 7, 9, 10, 32, 33, 34, 35, 36, 37, 38, 58, 59, 60, 61, 62, 63, 64, 65, 66, 67, 68, 69, 70, 71, 72, 73, 74, 75, 76, 77, 78, 79, 80, 81, 82, 83, 84, 85, 86, 87] (by decide +kernel) (by decide +kernel)
set_option maxRecDepth 20000 in
theorem gX10_reads_X10_readsVillage : GoodIn wsX10_reads (wsV RX10 124 RX10 yX10_readsVillage wsX10_readsVillage) := goodIn_app (goodIn_of _ (by decide +kernel)) ggX10_reads_X10_readsVillage
set_option maxRecDepth 20000 in
theorem ggX10_reads_X10_readsPerson : GoodIn wsX10_reads wsX10_readsPerson := goodIn_r _ [47, 2, 48, 16, 17, 18, 6, 19, 8, 20, 21, 22, 23, 1, 49, 50, 51, 52, 28, 29, 30, 31, 3, 4, 5, 7, 9, 10, 24, 25, 26, 27, 32, 33, 34, 35, 36, 37, 38, 58, 59, 60, 61, 62, 63, 64, 65, 66, 67, 68, 69, 70, 71, 72, 73, 74, 75, 76, 77, 78, 79, 80, 81, 82, 83, 84, 85, 86, 87] (by decide +kernel) (by decide +kernel)
set_option maxRecDepth 20000 in
theorem gX10_reads_X10_readsPerson : GoodIn wsX10_reads (wsV RX10 127 RX10 yX10_readsPerson wsX10_readsPerson) := goodIn_app (goodIn_of _ (by decide +kernel)) ggX10_reads_X10_readsPerson
set_option maxRecDepth 20000 in
theorem ggX10_reads_X10_readsDebt : GoodIn wsX10_reads wsX10_readsDebt := goodIn_r _ [56, 2, 57, 16, 17, 18, 6, 19, 8, 20, 21, 22, 23, 1, 49, 50, 51, 52, 28, 29, 30, 31, 3, 4, 5, 7, 9, 10, 24, 25, 26, 27, 32, 33, 34, 35, 36, 37, 38, 58, 59, 60, 61, 62, 63, 64, 65, 66, 67, 68, 69, 70, 71, 72, 73, 74, 75, 76, 77, 78, 79, 80, 81, 82, 83, 84, 85, 86, 87] (by decide +kernel) (by decide +kernel)
set_option maxRecDepth 20000 in
theorem gX10_reads_X10_readsDebt : GoodIn wsX10_reads (wsV RX10 130 RX10 yX10_readsDebt wsX10_readsDebt) := goodIn_app (goodIn_of _ (by decide +kernel)) ggX10_reads_X10_readsDebt
set_option maxRecDepth 20000 in
theorem ggX10_reads_X10_skips : GoodIn wsX10_reads wsX10_skips := goodIn_r _ [31, 1, 8, 3, 4, 5, 6, 7, 9, 10, 58, 59, 60, 61, 62, 63, 64, 65, 66, 67, 68, 69, 70, 71, 72, 73, 74, 75, 76, 77, 78, 79, 80, 81, 82, 83, 84, 85, 86, 87] (by decide +kernel) (by decide +kernel)
set_option maxRecDepth 20000 in
theorem gX10_reads_X10_skips : GoodIn wsX10_reads (wsV RX10 100 RX10 yX10_skips wsX10_skips) := goodIn_app (goodIn_of _ (by decide +kernel)) ggX10_reads_X10_skips
theorem dX10_reads_0 : decode cX10_reads 0 = .ok (.aload_n 0, 1) := by decide +kernel
theorem dX10_reads_1 : decode cX10_reads 1 = .ok (.getfield 93, 3) := by decide +kernel
theorem dX10_reads_4 : decode cX10_reads 4 = .ok (.ifCond .ne 104, 3) := by decide +kernel
theorem dX10_reads_7 : decode cX10_reads 7 = .ok (.aload_n 0, 1) := by decide +kernel
theorem dX10_reads_8 : decode cX10_reads 8 = .ok (.invokevirtual 96, 3) := by decide +kernel
theorem dX10_reads_11 : decode cX10_reads 11 = .ok (.iconst (-1), 1) := by decide +kernel
theorem dX10_reads_12 : decode cX10_reads 12 = .ok (.if_icmp .eq 96, 3) := by decide +kernel
theorem dX10_reads_15 : decode cX10_reads 15 = .ok (.aload_n 0, 1) := by decide +kernel
theorem dX10_reads_16 : decode cX10_reads 16 = .ok (.invokevirtual 96, 3) := by decide +kernel
theorem dX10_reads_19 : decode cX10_reads 19 = .ok (.bipush 110, 2) := by decide +kernel
theorem dX10_reads_21 : decode cX10_reads 21 = .ok (.if_icmp .ne 10, 3) := by decide +kernel
theorem dX10_reads_24 : decode cX10_reads 24 = .ok (.aload_n 0, 1) := by decide +kernel
theorem dX10_reads_25 : decode cX10_reads 25 = .ok (.invokevirtual 121, 3) := by decide +kernel
theorem dX10_reads_28 : decode cX10_reads 28 = .ok (.goto 73, 3) := by decide +kernel
theorem dX10_reads_31 : decode cX10_reads 31 = .ok (.aload_n 0, 1) := by decide +kernel
theorem dX10_reads_32 : decode cX10_reads 32 = .ok (.getfield 32, 3) := by decide +kernel
theorem dX10_reads_35 : decode cX10_reads 35 = .ok (.iconst 0, 1) := by decide +kernel
theorem dX10_reads_36 : decode cX10_reads 36 = .ok (.iaload, 1) := by decide +kernel
theorem dX10_reads_37 : decode cX10_reads 37 = .ok (.ifCond .ne 11, 3) := by decide +kernel
theorem dX10_reads_40 : decode cX10_reads 40 = .ok (.aload_n 0, 1) := by decide +kernel
theorem dX10_reads_41 : decode cX10_reads 41 = .ok (.iconst 1, 1) := by decide +kernel
theorem dX10_reads_42 : decode cX10_reads 42 = .ok (.invokevirtual 103, 3) := by decide +kernel
theorem dX10_reads_45 : decode cX10_reads 45 = .ok (.goto 56, 3) := by decide +kernel
theorem dX10_reads_48 : decode cX10_reads 48 = .ok (.aload_n 0, 1) := by decide +kernel
theorem dX10_reads_49 : decode cX10_reads 49 = .ok (.invokevirtual 96, 3) := by decide +kernel
theorem dX10_reads_52 : decode cX10_reads 52 = .ok (.bipush 118, 2) := by decide +kernel
theorem dX10_reads_54 : decode cX10_reads 54 = .ok (.if_icmp .ne 10, 3) := by decide +kernel
theorem dX10_reads_57 : decode cX10_reads 57 = .ok (.aload_n 0, 1) := by decide +kernel
theorem dX10_reads_58 : decode cX10_reads 58 = .ok (.invokevirtual 124, 3) := by decide +kernel
theorem dX10_reads_61 : decode cX10_reads 61 = .ok (.goto 40, 3) := by decide +kernel
theorem dX10_reads_64 : decode cX10_reads 64 = .ok (.aload_n 0, 1) := by decide +kernel
theorem dX10_reads_65 : decode cX10_reads 65 = .ok (.invokevirtual 96, 3) := by decide +kernel
theorem dX10_reads_68 : decode cX10_reads 68 = .ok (.bipush 112, 2) := by decide +kernel
theorem dX10_reads_70 : decode cX10_reads 70 = .ok (.if_icmp .ne 10, 3) := by decide +kernel
theorem dX10_reads_73 : decode cX10_reads 73 = .ok (.aload_n 0, 1) := by decide +kernel
theorem dX10_reads_74 : decode cX10_reads 74 = .ok (.invokevirtual 127, 3) := by decide +kernel
theorem dX10_reads_77 : decode cX10_reads 77 = .ok (.goto 24, 3) := by decide +kernel
theorem dX10_reads_80 : decode cX10_reads 80 = .ok (.aload_n 0, 1) := by decide +kernel
theorem dX10_reads_81 : decode cX10_reads 81 = .ok (.invokevirtual 96, 3) := by decide +kernel
theorem dX10_reads_84 : decode cX10_reads 84 = .ok (.bipush 100, 2) := by decide +kernel
theorem dX10_reads_86 : decode cX10_reads 86 = .ok (.if_icmp .ne 10, 3) := by decide +kernel
theorem dX10_reads_89 : decode cX10_reads 89 = .ok (.aload_n 0, 1) := by decide +kernel
theorem dX10_reads_90 : decode cX10_reads 90 = .ok (.invokevirtual 130, 3) := by decide +kernel
theorem dX10_reads_93 : decode cX10_reads 93 = .ok (.goto 8, 3) := by decide +kernel
theorem dX10_reads_96 : decode cX10_reads 96 = .ok (.aload_n 0, 1) := by decide +kernel
theorem dX10_reads_97 : decode cX10_reads 97 = .ok (.iconst 1, 1) := by decide +kernel
theorem dX10_reads_98 : decode cX10_reads 98 = .ok (.invokevirtual 103, 3) := by decide +kernel
theorem dX10_reads_101 : decode cX10_reads 101 = .ok (.aload_n 0, 1) := by decide +kernel
theorem dX10_reads_102 : decode cX10_reads 102 = .ok (.invokevirtual 100, 3) := by decide +kernel
theorem dX10_reads_105 : decode cX10_reads 105 = .ok (.goto (-105), 3) := by decide +kernel
theorem dX10_reads_108 : decode cX10_reads 108 = .ok (.return_, 1) := by decide +kernel
theorem dX10_copies_0 : decode cX10_copies 0 = .ok (.iconst 0, 1) := by decide +kernel
theorem dX10_copies_1 : decode cX10_copies 1 = .ok (.istore 5, 2) := by decide +kernel
theorem dX10_copies_3 : decode cX10_copies 3 = .ok (.iload 5, 2) := by decide +kernel
theorem dX10_copies_5 : decode cX10_copies 5 = .ok (.iload 4, 2) := by decide +kernel
theorem dX10_copies_7 : decode cX10_copies 7 = .ok (.if_icmp .ge 21, 3) := by decide +kernel
theorem dX10_copies_10 : decode cX10_copies 10 = .ok (.aload_n 2, 1) := by decide +kernel
theorem dX10_copies_11 : decode cX10_copies 11 = .ok (.iload_n 3, 1) := by decide +kernel
theorem dX10_copies_12 : decode cX10_copies 12 = .ok (.iload 5, 2) := by decide +kernel
theorem dX10_copies_14 : decode cX10_copies 14 = .ok (.iadd, 1) := by decide +kernel
theorem dX10_copies_15 : decode cX10_copies 15 = .ok (.aload_n 0, 1) := by decide +kernel
theorem dX10_copies_16 : decode cX10_copies 16 = .ok (.iload_n 1, 1) := by decide +kernel
theorem dX10_copies_17 : decode cX10_copies 17 = .ok (.iload 5, 2) := by decide +kernel
theorem dX10_copies_19 : decode cX10_copies 19 = .ok (.iadd, 1) := by decide +kernel
theorem dX10_copies_20 : decode cX10_copies 20 = .ok (.iaload, 1) := by decide +kernel
theorem dX10_copies_21 : decode cX10_copies 21 = .ok (.iastore, 1) := by decide +kernel
theorem dX10_copies_22 : decode cX10_copies 22 = .ok (.iinc 5 1, 3) := by decide +kernel
theorem dX10_copies_25 : decode cX10_copies 25 = .ok (.goto (-22), 3) := by decide +kernel
theorem dX10_copies_28 : decode cX10_copies 28 = .ok (.return_, 1) := by decide +kernel
set_option maxRecDepth 20000 in
theorem ggX10_valley_X10_skips : GoodIn wsX10_valley wsX10_skips := goodIn_r _ [24, 2, 1, 25, 26, 27, 23, 28, 8, 29, 76, 77, 78, 79, 80, 81, 82, 83, 84, 85, 86, 87, 88, 89, 90, 91, 92, 93, 94, 95, 96, 97, 98, 99, 100, 101, 102, 103, 104, 105] (by decide +kernel) (by decide +kernel)
set_option maxRecDepth 20000 in
theorem gX10_valley_X10_skips : GoodIn wsX10_valley (wsV RX10 100 RX10 yX10_skips wsX10_skips) := goodIn_app (goodIn_of _ (by decide +kernel)) ggX10_valley_X10_skips
set_option maxRecDepth 20000 in
theorem ggX10_valley_X10_reads : GoodIn wsX10_valley wsX10_reads := goodIn_r _ [33, 2, 3, 25, 26, 27, 23, 28, 1, 8, 29, 34, 35, 36, 37, 4, 38, 39, 40, 41, 42, 43, 44, 45, 46, 47, 48, 49, 20, 21, 22, 24, 50, 51, 52, 53, 54, 55, 56, 57, 58, 59, 60, 5, 61, 62, 63, 64, 6, 65, 66, 67, 68, 69, 70, 71, 72, 7, 76, 77, 78, 79, 80, 81, 82, 83, 84, 85, 86, 87, 88, 89, 90, 91, 92, 93, 94, 95, 96, 97, 98, 99, 100, 101, 102, 103, 104, 105] (by decide +kernel) (by decide +kernel)
set_option maxRecDepth 20000 in
theorem gX10_valley_X10_reads : GoodIn wsX10_valley (wsV RX10 133 RX10 yX10_reads wsX10_reads) := goodIn_app (goodIn_of _ (by decide +kernel)) ggX10_valley_X10_reads
set_option maxRecDepth 20000 in
theorem ggX10_valley_X10_copies : GoodIn wsX10_valley wsX10_copies := goodIn_r _ [75] (by decide +kernel) (by decide +kernel)
set_option maxRecDepth 20000 in
theorem gX10_valley_X10_copies : GoodIn wsX10_valley (va_wsS RX10 136 yX10_copies wsX10_copies) := goodIn_app (goodIn_of _ (by decide +kernel)) ggX10_valley_X10_copies
theorem dX10_valley_0 : decode cX10_valley 0 = .ok (.aload_n 0, 1) := by decide +kernel
theorem dX10_valley_1 : decode cX10_valley 1 = .ok (.iconst 0, 1) := by decide +kernel
theorem dX10_valley_2 : decode cX10_valley 2 = .ok (.putfield 90, 3) := by decide +kernel
theorem dX10_valley_5 : decode cX10_valley 5 = .ok (.aload_n 0, 1) := by decide +kernel
theorem dX10_valley_6 : decode cX10_valley 6 = .ok (.iconst 0, 1) := by decide +kernel
theorem dX10_valley_7 : decode cX10_valley 7 = .ok (.putfield 93, 3) := by decide +kernel
theorem dX10_valley_10 : decode cX10_valley 10 = .ok (.iconst 0, 1) := by decide +kernel
theorem dX10_valley_11 : decode cX10_valley 11 = .ok (.istore_n 1, 1) := by decide +kernel
theorem dX10_valley_12 : decode cX10_valley 12 = .ok (.iload_n 1, 1) := by decide +kernel
theorem dX10_valley_13 : decode cX10_valley 13 = .ok (.bipush 20, 2) := by decide +kernel
theorem dX10_valley_15 : decode cX10_valley 15 = .ok (.if_icmp .ge 52, 3) := by decide +kernel
theorem dX10_valley_18 : decode cX10_valley 18 = .ok (.aload_n 0, 1) := by decide +kernel
theorem dX10_valley_19 : decode cX10_valley 19 = .ok (.getfield 32, 3) := by decide +kernel
theorem dX10_valley_22 : decode cX10_valley 22 = .ok (.iload_n 1, 1) := by decide +kernel
theorem dX10_valley_23 : decode cX10_valley 23 = .ok (.iconst 4, 1) := by decide +kernel
theorem dX10_valley_24 : decode cX10_valley 24 = .ok (.irem, 1) := by decide +kernel
theorem dX10_valley_25 : decode cX10_valley 25 = .ok (.iconst 0, 1) := by decide +kernel
theorem dX10_valley_26 : decode cX10_valley 26 = .ok (.iastore, 1) := by decide +kernel
theorem dX10_valley_27 : decode cX10_valley 27 = .ok (.aload_n 0, 1) := by decide +kernel
theorem dX10_valley_28 : decode cX10_valley 28 = .ok (.getfield 35, 3) := by decide +kernel
theorem dX10_valley_31 : decode cX10_valley 31 = .ok (.iload_n 1, 1) := by decide +kernel
theorem dX10_valley_32 : decode cX10_valley 32 = .ok (.iconst 0, 1) := by decide +kernel
theorem dX10_valley_33 : decode cX10_valley 33 = .ok (.iastore, 1) := by decide +kernel
theorem dX10_valley_34 : decode cX10_valley 34 = .ok (.aload_n 0, 1) := by decide +kernel
theorem dX10_valley_35 : decode cX10_valley 35 = .ok (.getfield 38, 3) := by decide +kernel
theorem dX10_valley_38 : decode cX10_valley 38 = .ok (.iload_n 1, 1) := by decide +kernel
theorem dX10_valley_39 : decode cX10_valley 39 = .ok (.iconst 0, 1) := by decide +kernel
theorem dX10_valley_40 : decode cX10_valley 40 = .ok (.iastore, 1) := by decide +kernel
theorem dX10_valley_41 : decode cX10_valley 41 = .ok (.aload_n 0, 1) := by decide +kernel
theorem dX10_valley_42 : decode cX10_valley 42 = .ok (.getfield 41, 3) := by decide +kernel
theorem dX10_valley_45 : decode cX10_valley 45 = .ok (.iload_n 1, 1) := by decide +kernel
theorem dX10_valley_46 : decode cX10_valley 46 = .ok (.bipush 12, 2) := by decide +kernel
theorem dX10_valley_48 : decode cX10_valley 48 = .ok (.irem, 1) := by decide +kernel
theorem dX10_valley_49 : decode cX10_valley 49 = .ok (.iconst 0, 1) := by decide +kernel
theorem dX10_valley_50 : decode cX10_valley 50 = .ok (.iastore, 1) := by decide +kernel
theorem dX10_valley_51 : decode cX10_valley 51 = .ok (.aload_n 0, 1) := by decide +kernel
theorem dX10_valley_52 : decode cX10_valley 52 = .ok (.getfield 44, 3) := by decide +kernel
theorem dX10_valley_55 : decode cX10_valley 55 = .ok (.iload_n 1, 1) := by decide +kernel
theorem dX10_valley_56 : decode cX10_valley 56 = .ok (.bipush 10, 2) := by decide +kernel
theorem dX10_valley_58 : decode cX10_valley 58 = .ok (.irem, 1) := by decide +kernel
theorem dX10_valley_59 : decode cX10_valley 59 = .ok (.iconst 0, 1) := by decide +kernel
theorem dX10_valley_60 : decode cX10_valley 60 = .ok (.iastore, 1) := by decide +kernel
theorem dX10_valley_61 : decode cX10_valley 61 = .ok (.iinc 1 1, 3) := by decide +kernel
theorem dX10_valley_64 : decode cX10_valley 64 = .ok (.goto (-52), 3) := by decide +kernel
theorem dX10_valley_67 : decode cX10_valley 67 = .ok (.aload_n 0, 1) := by decide +kernel
theorem dX10_valley_68 : decode cX10_valley 68 = .ok (.invokevirtual 100, 3) := by decide +kernel
theorem dX10_valley_71 : decode cX10_valley 71 = .ok (.aload_n 0, 1) := by decide +kernel
theorem dX10_valley_72 : decode cX10_valley 72 = .ok (.invokevirtual 133, 3) := by decide +kernel
theorem dX10_valley_75 : decode cX10_valley 75 = .ok (.aload_n 0, 1) := by decide +kernel
theorem dX10_valley_76 : decode cX10_valley 76 = .ok (.iconst 0, 1) := by decide +kernel
theorem dX10_valley_77 : decode cX10_valley 77 = .ok (.putfield 86, 3) := by decide +kernel
theorem dX10_valley_80 : decode cX10_valley 80 = .ok (.aload_n 0, 1) := by decide +kernel
theorem dX10_valley_81 : decode cX10_valley 81 = .ok (.aload_n 0, 1) := by decide +kernel
theorem dX10_valley_82 : decode cX10_valley 82 = .ok (.getfield 93, 3) := by decide +kernel
theorem dX10_valley_85 : decode cX10_valley 85 = .ok (.ifCond .ne 7, 3) := by decide +kernel
theorem dX10_valley_88 : decode cX10_valley 88 = .ok (.iconst (-1), 1) := by decide +kernel
theorem dX10_valley_89 : decode cX10_valley 89 = .ok (.goto 7, 3) := by decide +kernel
theorem dX10_valley_92 : decode cX10_valley 92 = .ok (.aload_n 0, 1) := by decide +kernel
theorem dX10_valley_93 : decode cX10_valley 93 = .ok (.getfield 90, 3) := by decide +kernel
theorem dX10_valley_96 : decode cX10_valley 96 = .ok (.putfield 13, 3) := by decide +kernel
theorem dX10_valley_99 : decode cX10_valley 99 = .ok (.aload_n 0, 1) := by decide +kernel
theorem dX10_valley_100 : decode cX10_valley 100 = .ok (.getfield 93, 3) := by decide +kernel
theorem dX10_valley_103 : decode cX10_valley 103 = .ok (.ifCond .eq 11, 3) := by decide +kernel
theorem dX10_valley_106 : decode cX10_valley 106 = .ok (.bipush (-10), 2) := by decide +kernel
theorem dX10_valley_108 : decode cX10_valley 108 = .ok (.aload_n 0, 1) := by decide +kernel
theorem dX10_valley_109 : decode cX10_valley 109 = .ok (.getfield 93, 3) := by decide +kernel
theorem dX10_valley_112 : decode cX10_valley 112 = .ok (.isub, 1) := by decide +kernel
theorem dX10_valley_113 : decode cX10_valley 113 = .ok (.ireturn, 1) := by decide +kernel
theorem dX10_valley_114 : decode cX10_valley 114 = .ok (.aload_n 0, 1) := by decide +kernel
theorem dX10_valley_115 : decode cX10_valley 115 = .ok (.getfield 32, 3) := by decide +kernel
theorem dX10_valley_118 : decode cX10_valley 118 = .ok (.iconst 0, 1) := by decide +kernel
theorem dX10_valley_119 : decode cX10_valley 119 = .ok (.aload_n 0, 1) := by decide +kernel
theorem dX10_valley_120 : decode cX10_valley 120 = .ok (.getfield 17, 3) := by decide +kernel
theorem dX10_valley_123 : decode cX10_valley 123 = .ok (.iconst 0, 1) := by decide +kernel
theorem dX10_valley_124 : decode cX10_valley 124 = .ok (.iconst 4, 1) := by decide +kernel
theorem dX10_valley_125 : decode cX10_valley 125 = .ok (.invokestatic 136, 3) := by decide +kernel
theorem dX10_valley_128 : decode cX10_valley 128 = .ok (.aload_n 0, 1) := by decide +kernel
theorem dX10_valley_129 : decode cX10_valley 129 = .ok (.getfield 35, 3) := by decide +kernel
theorem dX10_valley_132 : decode cX10_valley 132 = .ok (.iconst 0, 1) := by decide +kernel
theorem dX10_valley_133 : decode cX10_valley 133 = .ok (.aload_n 0, 1) := by decide +kernel
theorem dX10_valley_134 : decode cX10_valley 134 = .ok (.getfield 20, 3) := by decide +kernel
theorem dX10_valley_137 : decode cX10_valley 137 = .ok (.iconst 0, 1) := by decide +kernel
theorem dX10_valley_138 : decode cX10_valley 138 = .ok (.bipush 20, 2) := by decide +kernel
theorem dX10_valley_140 : decode cX10_valley 140 = .ok (.invokestatic 136, 3) := by decide +kernel
theorem dX10_valley_143 : decode cX10_valley 143 = .ok (.aload_n 0, 1) := by decide +kernel
theorem dX10_valley_144 : decode cX10_valley 144 = .ok (.getfield 38, 3) := by decide +kernel
theorem dX10_valley_147 : decode cX10_valley 147 = .ok (.iconst 0, 1) := by decide +kernel
theorem dX10_valley_148 : decode cX10_valley 148 = .ok (.aload_n 0, 1) := by decide +kernel
theorem dX10_valley_149 : decode cX10_valley 149 = .ok (.getfield 23, 3) := by decide +kernel
theorem dX10_valley_152 : decode cX10_valley 152 = .ok (.iconst 0, 1) := by decide +kernel
theorem dX10_valley_153 : decode cX10_valley 153 = .ok (.bipush 20, 2) := by decide +kernel
theorem dX10_valley_155 : decode cX10_valley 155 = .ok (.invokestatic 136, 3) := by decide +kernel
theorem dX10_valley_158 : decode cX10_valley 158 = .ok (.aload_n 0, 1) := by decide +kernel
theorem dX10_valley_159 : decode cX10_valley 159 = .ok (.getfield 41, 3) := by decide +kernel
theorem dX10_valley_162 : decode cX10_valley 162 = .ok (.iconst 0, 1) := by decide +kernel
theorem dX10_valley_163 : decode cX10_valley 163 = .ok (.aload_n 0, 1) := by decide +kernel
theorem dX10_valley_164 : decode cX10_valley 164 = .ok (.getfield 26, 3) := by decide +kernel
theorem dX10_valley_167 : decode cX10_valley 167 = .ok (.iconst 0, 1) := by decide +kernel
theorem dX10_valley_168 : decode cX10_valley 168 = .ok (.bipush 12, 2) := by decide +kernel
theorem dX10_valley_170 : decode cX10_valley 170 = .ok (.invokestatic 136, 3) := by decide +kernel
theorem dX10_valley_173 : decode cX10_valley 173 = .ok (.aload_n 0, 1) := by decide +kernel
theorem dX10_valley_174 : decode cX10_valley 174 = .ok (.getfield 44, 3) := by decide +kernel
theorem dX10_valley_177 : decode cX10_valley 177 = .ok (.iconst 0, 1) := by decide +kernel
theorem dX10_valley_178 : decode cX10_valley 178 = .ok (.aload_n 0, 1) := by decide +kernel
theorem dX10_valley_179 : decode cX10_valley 179 = .ok (.getfield 29, 3) := by decide +kernel
theorem dX10_valley_182 : decode cX10_valley 182 = .ok (.iconst 0, 1) := by decide +kernel
theorem dX10_valley_183 : decode cX10_valley 183 = .ok (.bipush 10, 2) := by decide +kernel
theorem dX10_valley_185 : decode cX10_valley 185 = .ok (.invokestatic 136, 3) := by decide +kernel
theorem dX10_valley_188 : decode cX10_valley 188 = .ok (.iconst 0, 1) := by decide +kernel
theorem dX10_valley_189 : decode cX10_valley 189 = .ok (.istore_n 1, 1) := by decide +kernel
theorem dX10_valley_190 : decode cX10_valley 190 = .ok (.iload_n 1, 1) := by decide +kernel
theorem dX10_valley_191 : decode cX10_valley 191 = .ok (.bipush 35, 2) := by decide +kernel
theorem dX10_valley_193 : decode cX10_valley 193 = .ok (.if_icmp .ge 16, 3) := by decide +kernel
theorem dX10_valley_196 : decode cX10_valley 196 = .ok (.aload_n 0, 1) := by decide +kernel
theorem dX10_valley_197 : decode cX10_valley 197 = .ok (.getfield 47, 3) := by decide +kernel
theorem dX10_valley_200 : decode cX10_valley 200 = .ok (.iload_n 1, 1) := by decide +kernel
theorem dX10_valley_201 : decode cX10_valley 201 = .ok (.iconst 0, 1) := by decide +kernel
theorem dX10_valley_202 : decode cX10_valley 202 = .ok (.iastore, 1) := by decide +kernel
theorem dX10_valley_203 : decode cX10_valley 203 = .ok (.iinc 1 1, 3) := by decide +kernel
theorem dX10_valley_206 : decode cX10_valley 206 = .ok (.goto (-16), 3) := by decide +kernel
theorem dX10_valley_209 : decode cX10_valley 209 = .ok (.aload_n 0, 1) := by decide +kernel
theorem dX10_valley_210 : decode cX10_valley 210 = .ok (.getfield 26, 3) := by decide +kernel
theorem dX10_valley_213 : decode cX10_valley 213 = .ok (.iconst 0, 1) := by decide +kernel
theorem dX10_valley_214 : decode cX10_valley 214 = .ok (.aload_n 0, 1) := by decide +kernel
theorem dX10_valley_215 : decode cX10_valley 215 = .ok (.getfield 47, 3) := by decide +kernel
theorem dX10_valley_218 : decode cX10_valley 218 = .ok (.bipush 13, 2) := by decide +kernel
theorem dX10_valley_220 : decode cX10_valley 220 = .ok (.bipush 12, 2) := by decide +kernel
theorem dX10_valley_222 : decode cX10_valley 222 = .ok (.invokestatic 136, 3) := by decide +kernel
theorem dX10_valley_225 : decode cX10_valley 225 = .ok (.iconst 0, 1) := by decide +kernel
theorem dX10_valley_226 : decode cX10_valley 226 = .ok (.istore_n 1, 1) := by decide +kernel
theorem dX10_valley_227 : decode cX10_valley 227 = .ok (.iload_n 1, 1) := by decide +kernel
theorem dX10_valley_228 : decode cX10_valley 228 = .ok (.aload_n 0, 1) := by decide +kernel
theorem dX10_valley_229 : decode cX10_valley 229 = .ok (.getfield 17, 3) := by decide +kernel
theorem dX10_valley_232 : decode cX10_valley 232 = .ok (.iconst 3, 1) := by decide +kernel
theorem dX10_valley_233 : decode cX10_valley 233 = .ok (.iaload, 1) := by decide +kernel
theorem dX10_valley_234 : decode cX10_valley 234 = .ok (.if_icmp .ge 30, 3) := by decide +kernel
theorem dX10_valley_237 : decode cX10_valley 237 = .ok (.aload_n 0, 1) := by decide +kernel
theorem dX10_valley_238 : decode cX10_valley 238 = .ok (.getfield 47, 3) := by decide +kernel
theorem dX10_valley_241 : decode cX10_valley 241 = .ok (.bipush 25, 2) := by decide +kernel
theorem dX10_valley_243 : decode cX10_valley 243 = .ok (.iconst 2, 1) := by decide +kernel
theorem dX10_valley_244 : decode cX10_valley 244 = .ok (.iload_n 1, 1) := by decide +kernel
theorem dX10_valley_245 : decode cX10_valley 245 = .ok (.imul, 1) := by decide +kernel
theorem dX10_valley_246 : decode cX10_valley 246 = .ok (.iadd, 1) := by decide +kernel
theorem dX10_valley_247 : decode cX10_valley 247 = .ok (.aload_n 0, 1) := by decide +kernel
theorem dX10_valley_248 : decode cX10_valley 248 = .ok (.getfield 29, 3) := by decide +kernel
theorem dX10_valley_251 : decode cX10_valley 251 = .ok (.iconst 2, 1) := by decide +kernel
theorem dX10_valley_252 : decode cX10_valley 252 = .ok (.iload_n 1, 1) := by decide +kernel
theorem dX10_valley_253 : decode cX10_valley 253 = .ok (.imul, 1) := by decide +kernel
theorem dX10_valley_254 : decode cX10_valley 254 = .ok (.iconst 1, 1) := by decide +kernel
theorem dX10_valley_255 : decode cX10_valley 255 = .ok (.iadd, 1) := by decide +kernel
theorem dX10_valley_256 : decode cX10_valley 256 = .ok (.iaload, 1) := by decide +kernel
theorem dX10_valley_257 : decode cX10_valley 257 = .ok (.iastore, 1) := by decide +kernel
theorem dX10_valley_258 : decode cX10_valley 258 = .ok (.iinc 1 1, 3) := by decide +kernel
theorem dX10_valley_261 : decode cX10_valley 261 = .ok (.goto (-34), 3) := by decide +kernel
theorem dX10_valley_264 : decode cX10_valley 264 = .ok (.aload_n 0, 1) := by decide +kernel
theorem dX10_valley_265 : decode cX10_valley 265 = .ok (.iconst 0, 1) := by decide +kernel
theorem dX10_valley_266 : decode cX10_valley 266 = .ok (.putfield 140, 3) := by decide +kernel
theorem dX10_valley_269 : decode cX10_valley 269 = .ok (.aload_n 0, 1) := by decide +kernel
theorem dX10_valley_270 : decode cX10_valley 270 = .ok (.iconst 0, 1) := by decide +kernel
theorem dX10_valley_271 : decode cX10_valley 271 = .ok (.putfield 143, 3) := by decide +kernel
theorem dX10_valley_274 : decode cX10_valley 274 = .ok (.aload_n 0, 1) := by decide +kernel
theorem dX10_valley_275 : decode cX10_valley 275 = .ok (.iconst 0, 1) := by decide +kernel
theorem dX10_valley_276 : decode cX10_valley 276 = .ok (.putfield 146, 3) := by decide +kernel
theorem dX10_valley_279 : decode cX10_valley 279 = .ok (.aload_n 0, 1) := by decide +kernel
theorem dX10_valley_280 : decode cX10_valley 280 = .ok (.getfield 62, 3) := by decide +kernel
theorem dX10_valley_283 : decode cX10_valley 283 = .ok (.iconst 0, 1) := by decide +kernel
theorem dX10_valley_284 : decode cX10_valley 284 = .ok (.iconst 0, 1) := by decide +kernel
theorem dX10_valley_285 : decode cX10_valley 285 = .ok (.bastore, 1) := by decide +kernel
theorem dX10_valley_286 : decode cX10_valley 286 = .ok (.aload_n 0, 1) := by decide +kernel
theorem dX10_valley_287 : decode cX10_valley 287 = .ok (.getfield 62, 3) := by decide +kernel
theorem dX10_valley_290 : decode cX10_valley 290 = .ok (.iconst 1, 1) := by decide +kernel
theorem dX10_valley_291 : decode cX10_valley 291 = .ok (.iconst 0, 1) := by decide +kernel
theorem dX10_valley_292 : decode cX10_valley 292 = .ok (.bastore, 1) := by decide +kernel
theorem dX10_valley_293 : decode cX10_valley 293 = .ok (.aload_n 0, 1) := by decide +kernel
theorem dX10_valley_294 : decode cX10_valley 294 = .ok (.getfield 17, 3) := by decide +kernel
theorem dX10_valley_297 : decode cX10_valley 297 = .ok (.iconst 1, 1) := by decide +kernel
theorem dX10_valley_298 : decode cX10_valley 298 = .ok (.iaload, 1) := by decide +kernel
theorem dX10_valley_299 : decode cX10_valley 299 = .ok (.ireturn, 1) := by decide +kernel
theorem dX10_fault_0 : decode cX10_fault 0 = .ok (.aload_n 0, 1) := by decide +kernel
theorem dX10_fault_1 : decode cX10_fault 1 = .ok (.getfield 13, 3) := by decide +kernel
theorem dX10_fault_4 : decode cX10_fault 4 = .ok (.ireturn, 1) := by decide +kernel
theorem dX10_isValley_0 : decode cX10_isValley 0 = .ok (.aload_n 0, 1) := by decide +kernel
theorem dX10_isValley_1 : decode cX10_isValley 1 = .ok (.getfield 17, 3) := by decide +kernel
theorem dX10_isValley_4 : decode cX10_isValley 4 = .ok (.iconst 0, 1) := by decide +kernel
theorem dX10_isValley_5 : decode cX10_isValley 5 = .ok (.iaload, 1) := by decide +kernel
theorem dX10_isValley_6 : decode cX10_isValley 6 = .ok (.ifCond .le 7, 3) := by decide +kernel
theorem dX10_isValley_9 : decode cX10_isValley 9 = .ok (.iconst 1, 1) := by decide +kernel
theorem dX10_isValley_10 : decode cX10_isValley 10 = .ok (.goto 4, 3) := by decide +kernel
theorem dX10_isValley_13 : decode cX10_isValley 13 = .ok (.iconst 0, 1) := by decide +kernel
theorem dX10_isValley_14 : decode cX10_isValley 14 = .ok (.ireturn, 1) := by decide +kernel
set_option maxRecDepth 20000 in
theorem ggX10_isVillage_X10_in : GoodIn wsX10_isVillage wsX10_in := goodIn_r _ [5] (by decide +kernel) (by decide +kernel)
set_option maxRecDepth 20000 in
theorem gX10_isVillage_X10_in : GoodIn wsX10_isVillage (va_wsS RX10 81 yX10_in wsX10_in) := goodIn_app (goodIn_of _ (by decide +kernel)) ggX10_isVillage_X10_in
theorem dX10_isVillage_0 : decode cX10_isVillage 0 = .ok (.iload_n 1, 1) := by decide +kernel
theorem dX10_isVillage_1 : decode cX10_isVillage 1 = .ok (.iconst 0, 1) := by decide +kernel
theorem dX10_isVillage_2 : decode cX10_isVillage 2 = .ok (.aload_n 0, 1) := by decide +kernel
theorem dX10_isVillage_3 : decode cX10_isVillage 3 = .ok (.getfield 17, 3) := by decide +kernel
theorem dX10_isVillage_6 : decode cX10_isVillage 6 = .ok (.iconst 1, 1) := by decide +kernel
theorem dX10_isVillage_7 : decode cX10_isVillage 7 = .ok (.iaload, 1) := by decide +kernel
theorem dX10_isVillage_8 : decode cX10_isVillage 8 = .ok (.iconst 1, 1) := by decide +kernel
theorem dX10_isVillage_9 : decode cX10_isVillage 9 = .ok (.isub, 1) := by decide +kernel
theorem dX10_isVillage_10 : decode cX10_isVillage 10 = .ok (.invokestatic 81, 3) := by decide +kernel
theorem dX10_isVillage_13 : decode cX10_isVillage 13 = .ok (.ireturn, 1) := by decide +kernel
set_option maxRecDepth 20000 in
theorem ggX10_isPerson_X10_in : GoodIn wsX10_isPerson wsX10_in := goodIn_r _ [5] (by decide +kernel) (by decide +kernel)
set_option maxRecDepth 20000 in
theorem gX10_isPerson_X10_in : GoodIn wsX10_isPerson (va_wsS RX10 81 yX10_in wsX10_in) := goodIn_app (goodIn_of _ (by decide +kernel)) ggX10_isPerson_X10_in
theorem dX10_isPerson_0 : decode cX10_isPerson 0 = .ok (.iload_n 1, 1) := by decide +kernel
theorem dX10_isPerson_1 : decode cX10_isPerson 1 = .ok (.iconst 0, 1) := by decide +kernel
theorem dX10_isPerson_2 : decode cX10_isPerson 2 = .ok (.aload_n 0, 1) := by decide +kernel
theorem dX10_isPerson_3 : decode cX10_isPerson 3 = .ok (.getfield 17, 3) := by decide +kernel
theorem dX10_isPerson_6 : decode cX10_isPerson 6 = .ok (.iconst 2, 1) := by decide +kernel
theorem dX10_isPerson_7 : decode cX10_isPerson 7 = .ok (.iaload, 1) := by decide +kernel
theorem dX10_isPerson_8 : decode cX10_isPerson 8 = .ok (.iconst 1, 1) := by decide +kernel
theorem dX10_isPerson_9 : decode cX10_isPerson 9 = .ok (.isub, 1) := by decide +kernel
theorem dX10_isPerson_10 : decode cX10_isPerson 10 = .ok (.invokestatic 81, 3) := by decide +kernel
theorem dX10_isPerson_13 : decode cX10_isPerson 13 = .ok (.ireturn, 1) := by decide +kernel
set_option maxRecDepth 20000 in
theorem ggX10_isDebt_X10_in : GoodIn wsX10_isDebt wsX10_in := goodIn_r _ [5] (by decide +kernel) (by decide +kernel)
set_option maxRecDepth 20000 in
theorem gX10_isDebt_X10_in : GoodIn wsX10_isDebt (va_wsS RX10 81 yX10_in wsX10_in) := goodIn_app (goodIn_of _ (by decide +kernel)) ggX10_isDebt_X10_in
theorem dX10_isDebt_0 : decode cX10_isDebt 0 = .ok (.iload_n 1, 1) := by decide +kernel
theorem dX10_isDebt_1 : decode cX10_isDebt 1 = .ok (.iconst 0, 1) := by decide +kernel
theorem dX10_isDebt_2 : decode cX10_isDebt 2 = .ok (.aload_n 0, 1) := by decide +kernel
theorem dX10_isDebt_3 : decode cX10_isDebt 3 = .ok (.getfield 17, 3) := by decide +kernel
theorem dX10_isDebt_6 : decode cX10_isDebt 6 = .ok (.iconst 3, 1) := by decide +kernel
theorem dX10_isDebt_7 : decode cX10_isDebt 7 = .ok (.iaload, 1) := by decide +kernel
theorem dX10_isDebt_8 : decode cX10_isDebt 8 = .ok (.iconst 1, 1) := by decide +kernel
theorem dX10_isDebt_9 : decode cX10_isDebt 9 = .ok (.isub, 1) := by decide +kernel
theorem dX10_isDebt_10 : decode cX10_isDebt 10 = .ok (.invokestatic 81, 3) := by decide +kernel
theorem dX10_isDebt_13 : decode cX10_isDebt 13 = .ok (.ireturn, 1) := by decide +kernel
theorem dX10_fallsOf_0 : decode cX10_fallsOf 0 = .ok (.iload_n 1, 1) := by decide +kernel
theorem dX10_fallsOf_1 : decode cX10_fallsOf 1 = .ok (.aload_n 0, 1) := by decide +kernel
theorem dX10_fallsOf_2 : decode cX10_fallsOf 2 = .ok (.getfield 23, 3) := by decide +kernel
theorem dX10_fallsOf_5 : decode cX10_fallsOf 5 = .ok (.iconst 5, 1) := by decide +kernel
theorem dX10_fallsOf_6 : decode cX10_fallsOf 6 = .ok (.iload_n 2, 1) := by decide +kernel
theorem dX10_fallsOf_7 : decode cX10_fallsOf 7 = .ok (.imul, 1) := by decide +kernel
theorem dX10_fallsOf_8 : decode cX10_fallsOf 8 = .ok (.iaload, 1) := by decide +kernel
theorem dX10_fallsOf_9 : decode cX10_fallsOf 9 = .ok (.if_icmp .le 16, 3) := by decide +kernel
theorem dX10_fallsOf_12 : decode cX10_fallsOf 12 = .ok (.iload_n 1, 1) := by decide +kernel
theorem dX10_fallsOf_13 : decode cX10_fallsOf 13 = .ok (.aload_n 0, 1) := by decide +kernel
theorem dX10_fallsOf_14 : decode cX10_fallsOf 14 = .ok (.getfield 23, 3) := by decide +kernel
theorem dX10_fallsOf_17 : decode cX10_fallsOf 17 = .ok (.iconst 5, 1) := by decide +kernel
theorem dX10_fallsOf_18 : decode cX10_fallsOf 18 = .ok (.iload_n 2, 1) := by decide +kernel
theorem dX10_fallsOf_19 : decode cX10_fallsOf 19 = .ok (.imul, 1) := by decide +kernel
theorem dX10_fallsOf_20 : decode cX10_fallsOf 20 = .ok (.iaload, 1) := by decide +kernel
theorem dX10_fallsOf_21 : decode cX10_fallsOf 21 = .ok (.isub, 1) := by decide +kernel
theorem dX10_fallsOf_22 : decode cX10_fallsOf 22 = .ok (.goto 4, 3) := by decide +kernel
theorem dX10_fallsOf_25 : decode cX10_fallsOf 25 = .ok (.iconst 0, 1) := by decide +kernel
theorem dX10_fallsOf_26 : decode cX10_fallsOf 26 = .ok (.ireturn, 1) := by decide +kernel
theorem dX10_middle_0 : decode cX10_middle 0 = .ok (.aload_n 0, 1) := by decide +kernel
theorem dX10_middle_1 : decode cX10_middle 1 = .ok (.getfield 23, 3) := by decide +kernel
theorem dX10_middle_4 : decode cX10_middle 4 = .ok (.iconst 5, 1) := by decide +kernel
theorem dX10_middle_5 : decode cX10_middle 5 = .ok (.iload_n 1, 1) := by decide +kernel
theorem dX10_middle_6 : decode cX10_middle 6 = .ok (.imul, 1) := by decide +kernel
theorem dX10_middle_7 : decode cX10_middle 7 = .ok (.iconst 1, 1) := by decide +kernel
theorem dX10_middle_8 : decode cX10_middle 8 = .ok (.iadd, 1) := by decide +kernel
theorem dX10_middle_9 : decode cX10_middle 9 = .ok (.iaload, 1) := by decide +kernel
theorem dX10_middle_10 : decode cX10_middle 10 = .ok (.istore_n 2, 1) := by decide +kernel
theorem dX10_middle_11 : decode cX10_middle 11 = .ok (.aload_n 0, 1) := by decide +kernel
theorem dX10_middle_12 : decode cX10_middle 12 = .ok (.getfield 23, 3) := by decide +kernel
theorem dX10_middle_15 : decode cX10_middle 15 = .ok (.iconst 5, 1) := by decide +kernel
theorem dX10_middle_16 : decode cX10_middle 16 = .ok (.iload_n 1, 1) := by decide +kernel
theorem dX10_middle_17 : decode cX10_middle 17 = .ok (.imul, 1) := by decide +kernel
theorem dX10_middle_18 : decode cX10_middle 18 = .ok (.iconst 2, 1) := by decide +kernel
theorem dX10_middle_19 : decode cX10_middle 19 = .ok (.iadd, 1) := by decide +kernel
theorem dX10_middle_20 : decode cX10_middle 20 = .ok (.iaload, 1) := by decide +kernel
theorem dX10_middle_21 : decode cX10_middle 21 = .ok (.istore_n 3, 1) := by decide +kernel
theorem dX10_middle_22 : decode cX10_middle 22 = .ok (.aload_n 0, 1) := by decide +kernel
theorem dX10_middle_23 : decode cX10_middle 23 = .ok (.getfield 23, 3) := by decide +kernel
theorem dX10_middle_26 : decode cX10_middle 26 = .ok (.iconst 5, 1) := by decide +kernel
theorem dX10_middle_27 : decode cX10_middle 27 = .ok (.iload_n 1, 1) := by decide +kernel
theorem dX10_middle_28 : decode cX10_middle 28 = .ok (.imul, 1) := by decide +kernel
theorem dX10_middle_29 : decode cX10_middle 29 = .ok (.iconst 3, 1) := by decide +kernel
theorem dX10_middle_30 : decode cX10_middle 30 = .ok (.iadd, 1) := by decide +kernel
theorem dX10_middle_31 : decode cX10_middle 31 = .ok (.iaload, 1) := by decide +kernel
theorem dX10_middle_32 : decode cX10_middle 32 = .ok (.istore 4, 2) := by decide +kernel
theorem dX10_middle_34 : decode cX10_middle 34 = .ok (.iload_n 2, 1) := by decide +kernel
theorem dX10_middle_35 : decode cX10_middle 35 = .ok (.iload_n 3, 1) := by decide +kernel
theorem dX10_middle_36 : decode cX10_middle 36 = .ok (.if_icmp .ge 7, 3) := by decide +kernel
theorem dX10_middle_39 : decode cX10_middle 39 = .ok (.iload_n 2, 1) := by decide +kernel
theorem dX10_middle_40 : decode cX10_middle 40 = .ok (.goto 4, 3) := by decide +kernel
theorem dX10_middle_43 : decode cX10_middle 43 = .ok (.iload_n 3, 1) := by decide +kernel
theorem dX10_middle_44 : decode cX10_middle 44 = .ok (.istore 5, 2) := by decide +kernel
theorem dX10_middle_46 : decode cX10_middle 46 = .ok (.iload_n 2, 1) := by decide +kernel
theorem dX10_middle_47 : decode cX10_middle 47 = .ok (.iload_n 3, 1) := by decide +kernel
theorem dX10_middle_48 : decode cX10_middle 48 = .ok (.if_icmp .ge 7, 3) := by decide +kernel
theorem dX10_middle_51 : decode cX10_middle 51 = .ok (.iload_n 3, 1) := by decide +kernel
theorem dX10_middle_52 : decode cX10_middle 52 = .ok (.goto 4, 3) := by decide +kernel
theorem dX10_middle_55 : decode cX10_middle 55 = .ok (.iload_n 2, 1) := by decide +kernel
theorem dX10_middle_56 : decode cX10_middle 56 = .ok (.istore 6, 2) := by decide +kernel
theorem dX10_middle_58 : decode cX10_middle 58 = .ok (.iload 4, 2) := by decide +kernel
theorem dX10_middle_60 : decode cX10_middle 60 = .ok (.iload 5, 2) := by decide +kernel
theorem dX10_middle_62 : decode cX10_middle 62 = .ok (.if_icmp .ge 8, 3) := by decide +kernel
theorem dX10_middle_65 : decode cX10_middle 65 = .ok (.iload 5, 2) := by decide +kernel
theorem dX10_middle_67 : decode cX10_middle 67 = .ok (.goto 17, 3) := by decide +kernel
theorem dX10_middle_70 : decode cX10_middle 70 = .ok (.iload 4, 2) := by decide +kernel
theorem dX10_middle_72 : decode cX10_middle 72 = .ok (.iload 6, 2) := by decide +kernel
theorem dX10_middle_74 : decode cX10_middle 74 = .ok (.if_icmp .le 8, 3) := by decide +kernel
theorem dX10_middle_77 : decode cX10_middle 77 = .ok (.iload 6, 2) := by decide +kernel
theorem dX10_middle_79 : decode cX10_middle 79 = .ok (.goto 5, 3) := by decide +kernel
theorem dX10_middle_82 : decode cX10_middle 82 = .ok (.iload 4, 2) := by decide +kernel
theorem dX10_middle_84 : decode cX10_middle 84 = .ok (.ireturn, 1) := by decide +kernel
set_option maxRecDepth 20000 in
theorem ggX10_isFall_X10_fallsOf : GoodIn wsX10_isFall wsX10_fallsOf := goodIn_r _ [5, 6, 11, 12, 13, 14, 15, 16, 17, 18, 19, 20, 21, 22, 23, 24, 25, 26, 27, 28, 29, 30, 31, 32, 33, 34, 35, 36, 37, 38, 39, 40] (by decide +kernel) (by decide +kernel)
set_option maxRecDepth 20000 in
theorem gX10_isFall_X10_fallsOf : GoodIn wsX10_isFall (wsV RX10 149 RX10 yX10_fallsOf wsX10_fallsOf) := goodIn_app (goodIn_of _ (by decide +kernel)) ggX10_isFall_X10_fallsOf
set_option maxRecDepth 20000 in
theorem ggX10_isFall_X10_middle : GoodIn wsX10_isFall wsX10_middle := goodIn_r _ [10, 6, 11, 12, 13, 14, 15, 16, 17, 18, 19, 20, 21, 22, 23, 24, 25, 26, 27, 28, 29, 30, 31, 32, 33, 34, 35, 36, 37, 38, 39, 40] (by decide +kernel) (by decide +kernel)
set_option maxRecDepth 20000 in
theorem gX10_isFall_X10_middle : GoodIn wsX10_isFall (wsV RX10 152 RX10 yX10_middle wsX10_middle) := goodIn_app (goodIn_of _ (by decide +kernel)) ggX10_isFall_X10_middle
theorem dX10_isFall_0 : decode cX10_isFall 0 = .ok (.aload_n 0, 1) := by decide +kernel
theorem dX10_isFall_1 : decode cX10_isFall 1 = .ok (.iload_n 1, 1) := by decide +kernel
theorem dX10_isFall_2 : decode cX10_isFall 2 = .ok (.iload_n 2, 1) := by decide +kernel
theorem dX10_isFall_3 : decode cX10_isFall 3 = .ok (.invokevirtual 149, 3) := by decide +kernel
theorem dX10_isFall_6 : decode cX10_isFall 6 = .ok (.istore_n 3, 1) := by decide +kernel
theorem dX10_isFall_7 : decode cX10_isFall 7 = .ok (.iload_n 3, 1) := by decide +kernel
theorem dX10_isFall_8 : decode cX10_isFall 8 = .ok (.ifCond .le 16, 3) := by decide +kernel
