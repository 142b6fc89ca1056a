theorem dX0_init_0 : decode cX0_init 0 = .ok (.aload_n 0, 1) := by decide +kernel
theorem dX0_init_1 : decode cX0_init 1 = .ok (.invokespecial 3, 3) := by decide +kernel
theorem dX0_init_4 : decode cX0_init 4 = .ok (.aload_n 0, 1) := by decide +kernel
theorem dX0_init_5 : decode cX0_init 5 = .ok (.iconst 0, 1) := by decide +kernel
theorem dX0_init_6 : decode cX0_init 6 = .ok (.putfield 9, 3) := by decide +kernel
theorem dX0_init_9 : decode cX0_init 9 = .ok (.aload_n 0, 1) := by decide +kernel
theorem dX0_init_10 : decode cX0_init 10 = .ok (.bipush 15, 2) := by decide +kernel
theorem dX0_init_12 : decode cX0_init 12 = .ok (.newarray .int, 2) := by decide +kernel
theorem dX0_init_14 : decode cX0_init 14 = .ok (.putfield 15, 3) := by decide +kernel
theorem dX0_init_17 : decode cX0_init 17 = .ok (.aload_n 0, 1) := by decide +kernel
theorem dX0_init_18 : decode cX0_init 18 = .ok (.bipush 15, 2) := by decide +kernel
theorem dX0_init_20 : decode cX0_init 20 = .ok (.newarray .int, 2) := by decide +kernel
theorem dX0_init_22 : decode cX0_init 22 = .ok (.putfield 19, 3) := by decide +kernel
theorem dX0_init_25 : decode cX0_init 25 = .ok (.aload_n 0, 1) := by decide +kernel
theorem dX0_init_26 : decode cX0_init 26 = .ok (.aload_n 1, 1) := by decide +kernel
theorem dX0_init_27 : decode cX0_init 27 = .ok (.putfield 22, 3) := by decide +kernel
theorem dX0_init_30 : decode cX0_init 30 = .ok (.return_, 1) := by decide +kernel
theorem dX0_forget_0 : decode cX0_forget 0 = .ok (.aload_n 0, 1) := by decide +kernel
theorem dX0_forget_1 : decode cX0_forget 1 = .ok (.iconst 0, 1) := by decide +kernel
theorem dX0_forget_2 : decode cX0_forget 2 = .ok (.putfield 9, 3) := by decide +kernel
theorem dX0_forget_5 : decode cX0_forget 5 = .ok (.return_, 1) := by decide +kernel
theorem dX0_add_0 : decode cX0_add 0 = .ok (.aload_n 0, 1) := by decide +kernel
theorem dX0_add_1 : decode cX0_add 1 = .ok (.getfield 9, 3) := by decide +kernel
theorem dX0_add_4 : decode cX0_add 4 = .ok (.bipush 15, 2) := by decide +kernel
theorem dX0_add_6 : decode cX0_add 6 = .ok (.if_icmp .lt 5, 3) := by decide +kernel
theorem dX0_add_9 : decode cX0_add 9 = .ok (.iconst 0, 1) := by decide +kernel
theorem dX0_add_10 : decode cX0_add 10 = .ok (.ireturn, 1) := by decide +kernel
theorem dX0_add_11 : decode cX0_add 11 = .ok (.aload_n 0, 1) := by decide +kernel
theorem dX0_add_12 : decode cX0_add 12 = .ok (.getfield 15, 3) := by decide +kernel
theorem dX0_add_15 : decode cX0_add 15 = .ok (.aload_n 0, 1) := by decide +kernel
theorem dX0_add_16 : decode cX0_add 16 = .ok (.getfield 9, 3) := by decide +kernel
theorem dX0_add_19 : decode cX0_add 19 = .ok (.iload_n 1, 1) := by decide +kernel
theorem dX0_add_20 : decode cX0_add 20 = .ok (.iastore, 1) := by decide +kernel
theorem dX0_add_21 : decode cX0_add 21 = .ok (.aload_n 0, 1) := by decide +kernel
theorem dX0_add_22 : decode cX0_add 22 = .ok (.getfield 19, 3) := by decide +kernel
theorem dX0_add_25 : decode cX0_add 25 = .ok (.aload_n 0, 1) := by decide +kernel
theorem dX0_add_26 : decode cX0_add 26 = .ok (.getfield 9, 3) := by decide +kernel
theorem dX0_add_29 : decode cX0_add 29 = .ok (.iload_n 2, 1) := by decide +kernel
theorem dX0_add_30 : decode cX0_add 30 = .ok (.iastore, 1) := by decide +kernel
theorem dX0_add_31 : decode cX0_add 31 = .ok (.aload_n 0, 1) := by decide +kernel
theorem dX0_add_32 : decode cX0_add 32 = .ok (.dup, 1) := by decide +kernel
theorem dX0_add_33 : decode cX0_add 33 = .ok (.getfield 9, 3) := by decide +kernel
theorem dX0_add_36 : decode cX0_add 36 = .ok (.iconst 1, 1) := by decide +kernel
theorem dX0_add_37 : decode cX0_add 37 = .ok (.iadd, 1) := by decide +kernel
theorem dX0_add_38 : decode cX0_add 38 = .ok (.putfield 9, 3) := by decide +kernel
theorem dX0_add_41 : decode cX0_add 41 = .ok (.iconst 1, 1) := by decide +kernel
theorem dX0_add_42 : decode cX0_add 42 = .ok (.ireturn, 1) := by decide +kernel
set_option maxRecDepth 20000 in
theorem ggX0_firstWrong_X6_pole : GoodIn wsX0_firstWrong wsX6_pole := goodIn_r _ [9, 10, 11, 12, 13, 14, 19] (by decide +kernel) (by decide +kernel)
set_option maxRecDepth 20000 in
theorem gX0_firstWrong_X6_pole : GoodIn wsX0_firstWrong (wsV RX0 26 RX6 yX6_pole wsX6_pole) := goodIn_app (goodIn_of _ (by decide +kernel)) ggX0_firstWrong_X6_pole
theorem dX0_firstWrong_0 : decode cX0_firstWrong 0 = .ok (.iconst 0, 1) := by decide +kernel
theorem dX0_firstWrong_1 : decode cX0_firstWrong 1 = .ok (.istore_n 1, 1) := by decide +kernel
theorem dX0_firstWrong_2 : decode cX0_firstWrong 2 = .ok (.iload_n 1, 1) := by decide +kernel
theorem dX0_firstWrong_3 : decode cX0_firstWrong 3 = .ok (.aload_n 0, 1) := by decide +kernel
theorem dX0_firstWrong_4 : decode cX0_firstWrong 4 = .ok (.getfield 9, 3) := by decide +kernel
theorem dX0_firstWrong_7 : decode cX0_firstWrong 7 = .ok (.if_icmp .ge 33, 3) := by decide +kernel
theorem dX0_firstWrong_10 : decode cX0_firstWrong 10 = .ok (.aload_n 0, 1) := by decide +kernel
theorem dX0_firstWrong_11 : decode cX0_firstWrong 11 = .ok (.getfield 22, 3) := by decide +kernel
theorem dX0_firstWrong_14 : decode cX0_firstWrong 14 = .ok (.aload_n 0, 1) := by decide +kernel
theorem dX0_firstWrong_15 : decode cX0_firstWrong 15 = .ok (.getfield 15, 3) := by decide +kernel
theorem dX0_firstWrong_18 : decode cX0_firstWrong 18 = .ok (.iload_n 1, 1) := by decide +kernel
theorem dX0_firstWrong_19 : decode cX0_firstWrong 19 = .ok (.iaload, 1) := by decide +kernel
theorem dX0_firstWrong_20 : decode cX0_firstWrong 20 = .ok (.invokevirtual 26, 3) := by decide +kernel
theorem dX0_firstWrong_23 : decode cX0_firstWrong 23 = .ok (.aload_n 0, 1) := by decide +kernel
theorem dX0_firstWrong_24 : decode cX0_firstWrong 24 = .ok (.getfield 19, 3) := by decide +kernel
theorem dX0_firstWrong_27 : decode cX0_firstWrong 27 = .ok (.iload_n 1, 1) := by decide +kernel
theorem dX0_firstWrong_28 : decode cX0_firstWrong 28 = .ok (.iaload, 1) := by decide +kernel
theorem dX0_firstWrong_29 : decode cX0_firstWrong 29 = .ok (.if_icmp .eq 5, 3) := by decide +kernel
theorem dX0_firstWrong_32 : decode cX0_firstWrong 32 = .ok (.iload_n 1, 1) := by decide +kernel
theorem dX0_firstWrong_33 : decode cX0_firstWrong 33 = .ok (.ireturn, 1) := by decide +kernel
theorem dX0_firstWrong_34 : decode cX0_firstWrong 34 = .ok (.iinc 1 1, 3) := by decide +kernel
theorem dX0_firstWrong_37 : decode cX0_firstWrong 37 = .ok (.goto (-35), 3) := by decide +kernel
theorem dX0_firstWrong_40 : decode cX0_firstWrong 40 = .ok (.iconst (-1), 1) := by decide +kernel
theorem dX0_firstWrong_41 : decode cX0_firstWrong 41 = .ok (.ireturn, 1) := by decide +kernel
theorem dX1_init_0 : decode cX1_init 0 = .ok (.aload_n 0, 1) := by decide +kernel
theorem dX1_init_1 : decode cX1_init 1 = .ok (.invokespecial 1, 3) := by decide +kernel
theorem dX1_init_4 : decode cX1_init 4 = .ok (.aload_n 0, 1) := by decide +kernel
theorem dX1_init_5 : decode cX1_init 5 = .ok (.iconst 0, 1) := by decide +kernel
theorem dX1_init_6 : decode cX1_init 6 = .ok (.putfield 7, 3) := by decide +kernel
theorem dX1_init_9 : decode cX1_init 9 = .ok (.return_, 1) := by decide +kernel
theorem dX1_draw_0 : decode cX1_draw 0 = .ok (.aload_n 0, 1) := by decide +kernel
theorem dX1_draw_1 : decode cX1_draw 1 = .ok (.aload_n 0, 1) := by decide +kernel
theorem dX1_draw_2 : decode cX1_draw 2 = .ok (.getfield 7, 3) := by decide +kernel
theorem dX1_draw_5 : decode cX1_draw 5 = .ok (.ldc 13, 2) := by decide +kernel
theorem dX1_draw_7 : decode cX1_draw 7 = .ok (.imul, 1) := by decide +kernel
theorem dX1_draw_8 : decode cX1_draw 8 = .ok (.sipush 12345, 3) := by decide +kernel
theorem dX1_draw_11 : decode cX1_draw 11 = .ok (.iadd, 1) := by decide +kernel
theorem dX1_draw_12 : decode cX1_draw 12 = .ok (.ldc 14, 2) := by decide +kernel
theorem dX1_draw_14 : decode cX1_draw 14 = .ok (.iand, 1) := by decide +kernel
theorem dX1_draw_15 : decode cX1_draw 15 = .ok (.putfield 7, 3) := by decide +kernel
theorem dX1_draw_18 : decode cX1_draw 18 = .ok (.iload_n 1, 1) := by decide +kernel
theorem dX1_draw_19 : decode cX1_draw 19 = .ok (.ifCond .le 15, 3) := by decide +kernel
theorem dX1_draw_22 : decode cX1_draw 22 = .ok (.aload_n 0, 1) := by decide +kernel
theorem dX1_draw_23 : decode cX1_draw 23 = .ok (.getfield 7, 3) := by decide +kernel
theorem dX1_draw_26 : decode cX1_draw 26 = .ok (.ldc 15, 2) := by decide +kernel
theorem dX1_draw_28 : decode cX1_draw 28 = .ok (.idiv, 1) := by decide +kernel
theorem dX1_draw_29 : decode cX1_draw 29 = .ok (.iload_n 1, 1) := by decide +kernel
theorem dX1_draw_30 : decode cX1_draw 30 = .ok (.irem, 1) := by decide +kernel
theorem dX1_draw_31 : decode cX1_draw 31 = .ok (.goto 4, 3) := by decide +kernel
theorem dX1_draw_34 : decode cX1_draw 34 = .ok (.iconst 0, 1) := by decide +kernel
theorem dX1_draw_35 : decode cX1_draw 35 = .ok (.ireturn, 1) := by decide +kernel
theorem dX2_init_0 : decode cX2_init 0 = .ok (.aload_n 0, 1) := by decide +kernel
theorem dX2_init_1 : decode cX2_init 1 = .ok (.invokespecial 1, 3) := by decide +kernel
theorem dX2_init_4 : decode cX2_init 4 = .ok (.aload_n 0, 1) := by decide +kernel
theorem dX2_init_5 : decode cX2_init 5 = .ok (.iconst 2, 1) := by decide +kernel
theorem dX2_init_6 : decode cX2_init 6 = .ok (.newarray .boolean, 2) := by decide +kernel
theorem dX2_init_8 : decode cX2_init 8 = .ok (.putfield 9, 3) := by decide +kernel
theorem dX2_init_11 : decode cX2_init 11 = .ok (.aload_n 0, 1) := by decide +kernel
theorem dX2_init_12 : decode cX2_init 12 = .ok (.iconst 2, 1) := by decide +kernel
theorem dX2_init_13 : decode cX2_init 13 = .ok (.newarray .int, 2) := by decide +kernel
theorem dX2_init_15 : decode cX2_init 15 = .ok (.putfield 13, 3) := by decide +kernel
theorem dX2_init_18 : decode cX2_init 18 = .ok (.aload_n 0, 1) := by decide +kernel
theorem dX2_init_19 : decode cX2_init 19 = .ok (.bipush 70, 2) := by decide +kernel
theorem dX2_init_21 : decode cX2_init 21 = .ok (.newarray .int, 2) := by decide +kernel
theorem dX2_init_23 : decode cX2_init 23 = .ok (.putfield 19, 3) := by decide +kernel
theorem dX2_init_26 : decode cX2_init 26 = .ok (.return_, 1) := by decide +kernel
theorem dX2_has_0 : decode cX2_has 0 = .ok (.iload_n 1, 1) := by decide +kernel
theorem dX2_has_1 : decode cX2_has 1 = .ok (.ifCond .lt 12, 3) := by decide +kernel
theorem dX2_has_4 : decode cX2_has 4 = .ok (.iload_n 1, 1) := by decide +kernel
theorem dX2_has_5 : decode cX2_has 5 = .ok (.iconst 2, 1) := by decide +kernel
theorem dX2_has_6 : decode cX2_has 6 = .ok (.if_icmp .ge 7, 3) := by decide +kernel
theorem dX2_has_9 : decode cX2_has 9 = .ok (.iconst 1, 1) := by decide +kernel
theorem dX2_has_10 : decode cX2_has 10 = .ok (.goto 4, 3) := by decide +kernel
theorem dX2_has_13 : decode cX2_has 13 = .ok (.iconst 0, 1) := by decide +kernel
theorem dX2_has_14 : decode cX2_has 14 = .ok (.ireturn, 1) := by decide +kernel
theorem dX2_forget_0 : decode cX2_forget 0 = .ok (.iconst 0, 1) := by decide +kernel
theorem dX2_forget_1 : decode cX2_forget 1 = .ok (.istore_n 1, 1) := by decide +kernel
theorem dX2_forget_2 : decode cX2_forget 2 = .ok (.iload_n 1, 1) := by decide +kernel
theorem dX2_forget_3 : decode cX2_forget 3 = .ok (.iconst 2, 1) := by decide +kernel
theorem dX2_forget_4 : decode cX2_forget 4 = .ok (.if_icmp .ge 16, 3) := by decide +kernel
theorem dX2_forget_7 : decode cX2_forget 7 = .ok (.aload_n 0, 1) := by decide +kernel
theorem dX2_forget_8 : decode cX2_forget 8 = .ok (.getfield 9, 3) := by decide +kernel
theorem dX2_forget_11 : decode cX2_forget 11 = .ok (.iload_n 1, 1) := by decide +kernel
theorem dX2_forget_12 : decode cX2_forget 12 = .ok (.iconst 0, 1) := by decide +kernel
theorem dX2_forget_13 : decode cX2_forget 13 = .ok (.bastore, 1) := by decide +kernel
theorem dX2_forget_14 : decode cX2_forget 14 = .ok (.iinc 1 1, 3) := by decide +kernel
theorem dX2_forget_17 : decode cX2_forget 17 = .ok (.goto (-15), 3) := by decide +kernel
theorem dX2_forget_20 : decode cX2_forget 20 = .ok (.return_, 1) := by decide +kernel
theorem dX2_store_0 : decode cX2_store 0 = .ok (.aload_n 2, 1) := by decide +kernel
theorem dX2_store_1 : decode cX2_store 1 = .ok (.getfield 22, 3) := by decide +kernel
theorem dX2_store_4 : decode cX2_store 4 = .ok (.iconst 0, 1) := by decide +kernel
theorem dX2_store_5 : decode cX2_store 5 = .ok (.aload_n 0, 1) := by decide +kernel
theorem dX2_store_6 : decode cX2_store 6 = .ok (.getfield 19, 3) := by decide +kernel
theorem dX2_store_9 : decode cX2_store 9 = .ok (.iload_n 1, 1) := by decide +kernel
theorem dX2_store_10 : decode cX2_store 10 = .ok (.bipush 35, 2) := by decide +kernel
theorem dX2_store_12 : decode cX2_store 12 = .ok (.imul, 1) := by decide +kernel
theorem dX2_store_13 : decode cX2_store 13 = .ok (.bipush 35, 2) := by decide +kernel
theorem dX2_store_15 : decode cX2_store 15 = .ok (.invokestatic 25, 3) := by decide +kernel
theorem dX2_store_18 : decode cX2_store 18 = .ok (.aload_n 0, 1) := by decide +kernel
theorem dX2_store_19 : decode cX2_store 19 = .ok (.getfield 13, 3) := by decide +kernel
theorem dX2_store_22 : decode cX2_store 22 = .ok (.iload_n 1, 1) := by decide +kernel
theorem dX2_store_23 : decode cX2_store 23 = .ok (.iload_n 3, 1) := by decide +kernel
theorem dX2_store_24 : decode cX2_store 24 = .ok (.iastore, 1) := by decide +kernel
theorem dX2_store_25 : decode cX2_store 25 = .ok (.aload_n 0, 1) := by decide +kernel
theorem dX2_store_26 : decode cX2_store 26 = .ok (.getfield 9, 3) := by decide +kernel
theorem dX2_store_29 : decode cX2_store 29 = .ok (.iload_n 1, 1) := by decide +kernel
theorem dX2_store_30 : decode cX2_store 30 = .ok (.iconst 1, 1) := by decide +kernel
theorem dX2_store_31 : decode cX2_store 31 = .ok (.bastore, 1) := by decide +kernel
theorem dX2_store_32 : decode cX2_store 32 = .ok (.return_, 1) := by decide +kernel
theorem dX2_bringBack_0 : decode cX2_bringBack 0 = .ok (.aload_n 0, 1) := by decide +kernel
theorem dX2_bringBack_1 : decode cX2_bringBack 1 = .ok (.getfield 19, 3) := by decide +kernel
theorem dX2_bringBack_4 : decode cX2_bringBack 4 = .ok (.iload_n 1, 1) := by decide +kernel
theorem dX2_bringBack_5 : decode cX2_bringBack 5 = .ok (.bipush 35, 2) := by decide +kernel
theorem dX2_bringBack_7 : decode cX2_bringBack 7 = .ok (.imul, 1) := by decide +kernel
theorem dX2_bringBack_8 : decode cX2_bringBack 8 = .ok (.aload_n 2, 1) := by decide +kernel
theorem dX2_bringBack_9 : decode cX2_bringBack 9 = .ok (.getfield 22, 3) := by decide +kernel
theorem dX2_bringBack_12 : decode cX2_bringBack 12 = .ok (.iconst 0, 1) := by decide +kernel
theorem dX2_bringBack_13 : decode cX2_bringBack 13 = .ok (.bipush 35, 2) := by decide +kernel
theorem dX2_bringBack_15 : decode cX2_bringBack 15 = .ok (.invokestatic 25, 3) := by decide +kernel
theorem dX2_bringBack_18 : decode cX2_bringBack 18 = .ok (.return_, 1) := by decide +kernel
theorem dX3_init_0 : decode cX3_init 0 = .ok (.aload_n 0, 1) := by decide +kernel
theorem dX3_init_1 : decode cX3_init 1 = .ok (.invokespecial 1, 3) := by decide +kernel
theorem dX3_init_4 : decode cX3_init 4 = .ok (.aload_n 0, 1) := by decide +kernel
theorem dX3_init_5 : decode cX3_init 5 = .ok (.iconst 0, 1) := by decide +kernel
theorem dX3_init_6 : decode cX3_init 6 = .ok (.putfield 7, 3) := by decide +kernel
theorem dX3_init_9 : decode cX3_init 9 = .ok (.aload_n 0, 1) := by decide +kernel
theorem dX3_init_10 : decode cX3_init 10 = .ok (.sipush 700, 3) := by decide +kernel
theorem dX3_init_13 : decode cX3_init 13 = .ok (.newarray .int, 2) := by decide +kernel
theorem dX3_init_15 : decode cX3_init 15 = .ok (.putfield 15, 3) := by decide +kernel
theorem dX3_init_18 : decode cX3_init 18 = .ok (.aload_n 0, 1) := by decide +kernel
theorem dX3_init_19 : decode cX3_init 19 = .ok (.iconst 0, 1) := by decide +kernel
theorem dX3_init_20 : decode cX3_init 20 = .ok (.putfield 19, 3) := by decide +kernel
theorem dX3_init_23 : decode cX3_init 23 = .ok (.return_, 1) := by decide +kernel
theorem dX3_forget_0 : decode cX3_forget 0 = .ok (.aload_n 0, 1) := by decide +kernel
theorem dX3_forget_1 : decode cX3_forget 1 = .ok (.iconst 0, 1) := by decide +kernel
theorem dX3_forget_2 : decode cX3_forget 2 = .ok (.putfield 7, 3) := by decide +kernel
theorem dX3_forget_5 : decode cX3_forget 5 = .ok (.aload_n 0, 1) := by decide +kernel
theorem dX3_forget_6 : decode cX3_forget 6 = .ok (.iconst 0, 1) := by decide +kernel
theorem dX3_forget_7 : decode cX3_forget 7 = .ok (.putfield 19, 3) := by decide +kernel
theorem dX3_forget_10 : decode cX3_forget 10 = .ok (.return_, 1) := by decide +kernel
theorem dX3_add_0 : decode cX3_add 0 = .ok (.aload_n 1, 1) := by decide +kernel
theorem dX3_add_1 : decode cX3_add 1 = .ok (.getfield 22, 3) := by decide +kernel
theorem dX3_add_4 : decode cX3_add 4 = .ok (.iconst 0, 1) := by decide +kernel
theorem dX3_add_5 : decode cX3_add 5 = .ok (.aload_n 0, 1) := by decide +kernel
theorem dX3_add_6 : decode cX3_add 6 = .ok (.getfield 15, 3) := by decide +kernel
theorem dX3_add_9 : decode cX3_add 9 = .ok (.aload_n 0, 1) := by decide +kernel
theorem dX3_add_10 : decode cX3_add 10 = .ok (.getfield 19, 3) := by decide +kernel
theorem dX3_add_13 : decode cX3_add 13 = .ok (.bipush 35, 2) := by decide +kernel
theorem dX3_add_15 : decode cX3_add 15 = .ok (.imul, 1) := by decide +kernel
theorem dX3_add_16 : decode cX3_add 16 = .ok (.bipush 35, 2) := by decide +kernel
theorem dX3_add_18 : decode cX3_add 18 = .ok (.invokestatic 25, 3) := by decide +kernel
theorem dX3_add_21 : decode cX3_add 21 = .ok (.aload_n 0, 1) := by decide +kernel
theorem dX3_add_22 : decode cX3_add 22 = .ok (.aload_n 0, 1) := by decide +kernel
theorem dX3_add_23 : decode cX3_add 23 = .ok (.getfield 19, 3) := by decide +kernel
theorem dX3_add_26 : decode cX3_add 26 = .ok (.iconst 1, 1) := by decide +kernel
theorem dX3_add_27 : decode cX3_add 27 = .ok (.iadd, 1) := by decide +kernel
theorem dX3_add_28 : decode cX3_add 28 = .ok (.bipush 20, 2) := by decide +kernel
theorem dX3_add_30 : decode cX3_add 30 = .ok (.irem, 1) := by decide +kernel
theorem dX3_add_31 : decode cX3_add 31 = .ok (.putfield 19, 3) := by decide +kernel
theorem dX3_add_34 : decode cX3_add 34 = .ok (.aload_n 0, 1) := by decide +kernel
theorem dX3_add_35 : decode cX3_add 35 = .ok (.bipush 20, 2) := by decide +kernel
theorem dX3_add_37 : decode cX3_add 37 = .ok (.aload_n 0, 1) := by decide +kernel
theorem dX3_add_38 : decode cX3_add 38 = .ok (.getfield 7, 3) := by decide +kernel
theorem dX3_add_41 : decode cX3_add 41 = .ok (.iconst 1, 1) := by decide +kernel
theorem dX3_add_42 : decode cX3_add 42 = .ok (.iadd, 1) := by decide +kernel
theorem dX3_add_43 : decode cX3_add 43 = .ok (.invokestatic 31, 3) := by decide +kernel
theorem dX3_add_46 : decode cX3_add 46 = .ok (.putfield 7, 3) := by decide +kernel
theorem dX3_add_49 : decode cX3_add 49 = .ok (.return_, 1) := by decide +kernel
theorem dX3_takeLatest_0 : decode cX3_takeLatest 0 = .ok (.aload_n 0, 1) := by decide +kernel
theorem dX3_takeLatest_1 : decode cX3_takeLatest 1 = .ok (.getfield 7, 3) := by decide +kernel
theorem dX3_takeLatest_4 : decode cX3_takeLatest 4 = .ok (.ifCond .le 50, 3) := by decide +kernel
theorem dX3_takeLatest_7 : decode cX3_takeLatest 7 = .ok (.aload_n 0, 1) := by decide +kernel
theorem dX3_takeLatest_8 : decode cX3_takeLatest 8 = .ok (.aload_n 0, 1) := by decide +kernel
theorem dX3_takeLatest_9 : decode cX3_takeLatest 9 = .ok (.getfield 19, 3) := by decide +kernel
theorem dX3_takeLatest_12 : decode cX3_takeLatest 12 = .ok (.bipush 20, 2) := by decide +kernel
theorem dX3_takeLatest_14 : decode cX3_takeLatest 14 = .ok (.iadd, 1) := by decide +kernel
theorem dX3_takeLatest_15 : decode cX3_takeLatest 15 = .ok (.iconst 1, 1) := by decide +kernel
theorem dX3_takeLatest_16 : decode cX3_takeLatest 16 = .ok (.isub, 1) := by decide +kernel
theorem dX3_takeLatest_17 : decode cX3_takeLatest 17 = .ok (.bipush 20, 2) := by decide +kernel
theorem dX3_takeLatest_19 : decode cX3_takeLatest 19 = .ok (.irem, 1) := by decide +kernel
theorem dX3_takeLatest_20 : decode cX3_takeLatest 20 = .ok (.putfield 19, 3) := by decide +kernel
theorem dX3_takeLatest_23 : decode cX3_takeLatest 23 = .ok (.aload_n 0, 1) := by decide +kernel
theorem dX3_takeLatest_24 : decode cX3_takeLatest 24 = .ok (.dup, 1) := by decide +kernel
theorem dX3_takeLatest_25 : decode cX3_takeLatest 25 = .ok (.getfield 7, 3) := by decide +kernel
theorem dX3_takeLatest_28 : decode cX3_takeLatest 28 = .ok (.iconst 1, 1) := by decide +kernel
theorem dX3_takeLatest_29 : decode cX3_takeLatest 29 = .ok (.isub, 1) := by decide +kernel
theorem dX3_takeLatest_30 : decode cX3_takeLatest 30 = .ok (.putfield 7, 3) := by decide +kernel
theorem dX3_takeLatest_33 : decode cX3_takeLatest 33 = .ok (.aload_n 0, 1) := by decide +kernel
theorem dX3_takeLatest_34 : decode cX3_takeLatest 34 = .ok (.getfield 15, 3) := by decide +kernel
theorem dX3_takeLatest_37 : decode cX3_takeLatest 37 = .ok (.aload_n 0, 1) := by decide +kernel
theorem dX3_takeLatest_38 : decode cX3_takeLatest 38 = .ok (.getfield 19, 3) := by decide +kernel
theorem dX3_takeLatest_41 : decode cX3_takeLatest 41 = .ok (.bipush 35, 2) := by decide +kernel
theorem dX3_takeLatest_43 : decode cX3_takeLatest 43 = .ok (.imul, 1) := by decide +kernel
theorem dX3_takeLatest_44 : decode cX3_takeLatest 44 = .ok (.aload_n 1, 1) := by decide +kernel
theorem dX3_takeLatest_45 : decode cX3_takeLatest 45 = .ok (.getfield 22, 3) := by decide +kernel
theorem dX3_takeLatest_48 : decode cX3_takeLatest 48 = .ok (.iconst 0, 1) := by decide +kernel
theorem dX3_takeLatest_49 : decode cX3_takeLatest 49 = .ok (.bipush 35, 2) := by decide +kernel
theorem dX3_takeLatest_51 : decode cX3_takeLatest 51 = .ok (.invokestatic 25, 3) := by decide +kernel
theorem dX3_takeLatest_54 : decode cX3_takeLatest 54 = .ok (.return_, 1) := by decide +kernel
set_option maxRecDepth 20000 in
theorem ggX4_init_X7_init : GoodIn wsX4_init wsX7_init := goodIn_r _ [14, 15, 2, 3, 16, 17, 18, 19, 20, 21, 22, 23, 24, 25, 26, 27, 28, 29, 30, 31, 32, 33, 34, 35, 36, 37, 38, 39, 40] (by decide +kernel) (by decide +kernel)
set_option maxRecDepth 20000 in
theorem gX4_init_X7_init_n11 : GoodIn wsX4_init (wsX7_init) := ggX4_init_X7_init
theorem dX4_init_0 : decode cX4_init 0 = .ok (.aload_n 0, 1) := by decide +kernel
theorem dX4_init_1 : decode cX4_init 1 = .ok (.invokespecial 3, 3) := by decide +kernel
theorem dX4_init_4 : decode cX4_init 4 = .ok (.aload_n 0, 1) := by decide +kernel
theorem dX4_init_5 : decode cX4_init 5 = .ok (.new 9, 3) := by decide +kernel
theorem dX4_init_8 : decode cX4_init 8 = .ok (.dup, 1) := by decide +kernel
theorem dX4_init_9 : decode cX4_init 9 = .ok (.invokespecial 11, 3) := by decide +kernel
theorem dX4_init_12 : decode cX4_init 12 = .ok (.putfield 12, 3) := by decide +kernel
theorem dX4_init_15 : decode cX4_init 15 = .ok (.aload_n 0, 1) := by decide +kernel
theorem dX4_init_16 : decode cX4_init 16 = .ok (.iconst (-1), 1) := by decide +kernel
theorem dX4_init_17 : decode cX4_init 17 = .ok (.putfield 18, 3) := by decide +kernel
theorem dX4_init_20 : decode cX4_init 20 = .ok (.aload_n 0, 1) := by decide +kernel
theorem dX4_init_21 : decode cX4_init 21 = .ok (.iconst 0, 1) := by decide +kernel
theorem dX4_init_22 : decode cX4_init 22 = .ok (.putfield 22, 3) := by decide +kernel
theorem dX4_init_25 : decode cX4_init 25 = .ok (.aload_n 0, 1) := by decide +kernel
theorem dX4_init_26 : decode cX4_init 26 = .ok (.iconst 0, 1) := by decide +kernel
theorem dX4_init_27 : decode cX4_init 27 = .ok (.putfield 25, 3) := by decide +kernel
theorem dX4_init_30 : decode cX4_init 30 = .ok (.aload_n 0, 1) := by decide +kernel
theorem dX4_init_31 : decode cX4_init 31 = .ok (.iconst 0, 1) := by decide +kernel
theorem dX4_init_32 : decode cX4_init 32 = .ok (.putfield 28, 3) := by decide +kernel
theorem dX4_init_35 : decode cX4_init 35 = .ok (.aload_n 0, 1) := by decide +kernel
theorem dX4_init_36 : decode cX4_init 36 = .ok (.aload_n 1, 1) := by decide +kernel
theorem dX4_init_37 : decode cX4_init 37 = .ok (.putfield 31, 3) := by decide +kernel
theorem dX4_init_40 : decode cX4_init 40 = .ok (.return_, 1) := by decide +kernel
set_option maxRecDepth 20000 in
theorem ggX4_read_X7_clear : GoodIn wsX4_read wsX7_clear := goodIn_r _ [18, 19, 20, 21, 22, 104, 105, 106, 107, 108, 109, 110, 111, 112, 113, 114, 115] (by decide +kernel) (by decide +kernel)
set_option maxRecDepth 20000 in
theorem gX4_read_X7_clear : GoodIn wsX4_read (wsV RX4 44 RX7 yX7_clear wsX7_clear) := goodIn_app (goodIn_of _ (by decide +kernel)) ggX4_read_X7_clear
set_option maxRecDepth 20000 in
theorem ggX4_read_X4_nextWord : GoodIn wsX4_read wsX4_nextWord := goodIn_r _ [27, 10, 9, 1, 98, 99, 100, 101, 102, 103] (by decide +kernel) (by decide +kernel)
set_option maxRecDepth 20000 in
theorem gX4_read_X4_nextWord : GoodIn wsX4_read (wsV RX4 47 RX4 yX4_nextWord wsX4_nextWord) := goodIn_app (goodIn_of _ (by decide +kernel)) ggX4_read_X4_nextWord
set_option maxRecDepth 20000 in
theorem ggX4_read_X4_readClauses : GoodIn wsX4_read wsX4_readClauses := goodIn_r _ [31, 10, 11, 23, 24, 25, 26, 27, 9, 1, 32, 33, 34, 35, 12, 36, 37, 38, 39, 13, 40, 41, 42, 43, 44, 45, 46, 47, 48, 49, 50, 51, 52, 53, 54, 55, 56, 57, 58, 59, 60, 61, 62, 63, 64, 65, 6, 7, 4, 8, 66, 67, 68, 2, 3, 5, 69, 70, 71, 17, 72, 20, 73, 74, 75, 76, 77, 78, 79, 80, 81, 82, 83, 84, 21, 85, 86, 87, 88, 89, 90, 91, 92, 93, 94, 95, 22, 96, 97, 98, 99, 100, 101, 102, 103, 104, 105, 106, 107, 108, 109, 110, 111, 112, 113, 114, 115] (by decide +kernel) (by decide +kernel)
set_option maxRecDepth 20000 in
theorem gX4_read_X4_readClauses : GoodIn wsX4_read (wsV RX4 51 RX4 yX4_readClauses wsX4_readClauses) := goodIn_app (goodIn_of _ (by decide +kernel)) ggX4_read_X4_readClauses
theorem dX4_read_0 : decode cX4_read 0 = .ok (.aload_n 0, 1) := by decide +kernel
theorem dX4_read_1 : decode cX4_read 1 = .ok (.iconst 0, 1) := by decide +kernel
theorem dX4_read_2 : decode cX4_read 2 = .ok (.iload_n 1, 1) := by decide +kernel
theorem dX4_read_3 : decode cX4_read 3 = .ok (.aload_n 0, 1) := by decide +kernel
theorem dX4_read_4 : decode cX4_read 4 = .ok (.getfield 31, 3) := by decide +kernel
theorem dX4_read_7 : decode cX4_read 7 = .ok (.arraylength, 1) := by decide +kernel
theorem dX4_read_8 : decode cX4_read 8 = .ok (.invokestatic 35, 3) := by decide +kernel
theorem dX4_read_11 : decode cX4_read 11 = .ok (.invokestatic 41, 3) := by decide +kernel
theorem dX4_read_14 : decode cX4_read 14 = .ok (.putfield 25, 3) := by decide +kernel
theorem dX4_read_17 : decode cX4_read 17 = .ok (.aload_n 0, 1) := by decide +kernel
theorem dX4_read_18 : decode cX4_read 18 = .ok (.iconst 0, 1) := by decide +kernel
theorem dX4_read_19 : decode cX4_read 19 = .ok (.putfield 28, 3) := by decide +kernel
theorem dX4_read_22 : decode cX4_read 22 = .ok (.aload_n 0, 1) := by decide +kernel
theorem dX4_read_23 : decode cX4_read 23 = .ok (.iconst 0, 1) := by decide +kernel
theorem dX4_read_24 : decode cX4_read 24 = .ok (.putfield 22, 3) := by decide +kernel
theorem dX4_read_27 : decode cX4_read 27 = .ok (.aload_n 0, 1) := by decide +kernel
theorem dX4_read_28 : decode cX4_read 28 = .ok (.iconst (-1), 1) := by decide +kernel
theorem dX4_read_29 : decode cX4_read 29 = .ok (.putfield 18, 3) := by decide +kernel
theorem dX4_read_32 : decode cX4_read 32 = .ok (.aload_n 0, 1) := by decide +kernel
theorem dX4_read_33 : decode cX4_read 33 = .ok (.getfield 12, 3) := by decide +kernel
theorem dX4_read_36 : decode cX4_read 36 = .ok (.invokevirtual 44, 3) := by decide +kernel
theorem dX4_read_39 : decode cX4_read 39 = .ok (.aload_n 0, 1) := by decide +kernel
theorem dX4_read_40 : decode cX4_read 40 = .ok (.invokevirtual 47, 3) := by decide +kernel
theorem dX4_read_43 : decode cX4_read 43 = .ok (.iconst (-1), 1) := by decide +kernel
theorem dX4_read_44 : decode cX4_read 44 = .ok (.if_icmp .eq 7, 3) := by decide +kernel
theorem dX4_read_47 : decode cX4_read 47 = .ok (.aload_n 0, 1) := by decide +kernel
theorem dX4_read_48 : decode cX4_read 48 = .ok (.invokevirtual 51, 3) := by decide +kernel
theorem dX4_read_51 : decode cX4_read 51 = .ok (.aload_n 0, 1) := by decide +kernel
theorem dX4_read_52 : decode cX4_read 52 = .ok (.getfield 22, 3) := by decide +kernel
theorem dX4_read_55 : decode cX4_read 55 = .ok (.ireturn, 1) := by decide +kernel
set_option maxRecDepth 20000 in
theorem ggX4_readClauses_X4_nextWord : GoodIn wsX4_readClauses wsX4_nextWord := goodIn_r _ [7, 1, 8, 9, 89, 90, 91, 92, 93, 94] (by decide +kernel) (by decide +kernel)
set_option maxRecDepth 20000 in
theorem gX4_readClauses_X4_nextWord : GoodIn wsX4_readClauses (wsV RX4 47 RX4 yX4_nextWord wsX4_nextWord) := goodIn_app (goodIn_of _ (by decide +kernel)) ggX4_readClauses_X4_nextWord
set_option maxRecDepth 20000 in
theorem ggX4_readClauses_X4_fail : GoodIn wsX4_readClauses wsX4_fail := goodIn_r _ [13, 2, 14, 89, 90, 91, 92, 93, 94] (by decide +kernel) (by decide +kernel)
set_option maxRecDepth 20000 in
theorem gX4_readClauses_X4_fail : GoodIn wsX4_readClauses (wsV RX4 54 RX4 yX4_fail wsX4_fail) := goodIn_app (goodIn_of _ (by decide +kernel)) ggX4_readClauses_X4_fail
set_option maxRecDepth 20000 in
theorem ggX4_readClauses_X4_readWinter : GoodIn wsX4_readClauses wsX4_readWinter := goodIn_r _ [18, 1, 2, 19, 20, 21, 22, 23, 24, 6, 25, 9, 3, 4, 5, 7, 8, 26, 27, 28, 29, 10, 11, 12, 13, 14, 30, 31, 32, 33, 34, 35, 36, 89, 90, 91, 92, 93, 94, 95, 96, 97, 98, 99, 100, 101, 102, 103, 104, 105, 106] (by decide +kernel) (by decide +kernel)
set_option maxRecDepth 20000 in
theorem gX4_readClauses_X4_readWinter : GoodIn wsX4_readClauses (wsV RX4 58 RX4 yX4_readWinter wsX4_readWinter) := goodIn_app (goodIn_of _ (by decide +kernel)) ggX4_readClauses_X4_readWinter
set_option maxRecDepth 20000 in
theorem ggX4_readClauses_X4_readClause : GoodIn wsX4_readClauses wsX4_readClause := goodIn_r _ [40, 1, 10, 11, 12, 6, 13, 2, 14, 41, 42, 43, 44, 19, 45, 46, 47, 48, 49, 22, 23, 24, 25, 9, 3, 4, 5, 7, 8, 26, 27, 28, 29, 30, 31, 32, 33, 34, 35, 36, 50, 51, 52, 53, 54, 55, 56, 57, 58, 59, 60, 61, 62, 63, 64, 65, 66, 67, 68, 69, 70, 71, 72, 73, 74, 75, 76, 77, 78, 79, 80, 81, 82, 83, 84, 85, 86, 87, 88, 89, 90, 91, 92, 93, 94, 95, 96, 97, 98, 99, 100, 101, 102, 103, 104, 105, 106] (by decide +kernel) (by decide +kernel)
set_option maxRecDepth 20000 in
theorem gX4_readClauses_X4_readClause : GoodIn wsX4_readClauses (wsV RX4 61 RX4 yX4_readClause wsX4_readClause) := goodIn_app (goodIn_of _ (by decide +kernel)) ggX4_readClauses_X4_readClause
theorem dX4_readClauses_0 : decode cX4_readClauses 0 = .ok (.aload_n 0, 1) := by decide +kernel
theorem dX4_readClauses_1 : decode cX4_readClauses 1 = .ok (.invokevirtual 47, 3) := by decide +kernel
theorem dX4_readClauses_4 : decode cX4_readClauses 4 = .ok (.bipush 110, 2) := by decide +kernel
theorem dX4_readClauses_6 : decode cX4_readClauses 6 = .ok (.if_icmp .eq 13, 3) := by decide +kernel
theorem dX4_readClauses_9 : decode cX4_readClauses 9 = .ok (.aload_n 0, 1) := by decide +kernel
theorem dX4_readClauses_10 : decode cX4_readClauses 10 = .ok (.iconst 1, 1) := by decide +kernel
theorem dX4_readClauses_11 : decode cX4_readClauses 11 = .ok (.aload_n 0, 1) := by decide +kernel
theorem dX4_readClauses_12 : decode cX4_readClauses 12 = .ok (.getfield 28, 3) := by decide +kernel
theorem dX4_readClauses_15 : decode cX4_readClauses 15 = .ok (.invokevirtual 54, 3) := by decide +kernel
theorem dX4_readClauses_18 : decode cX4_readClauses 18 = .ok (.return_, 1) := by decide +kernel
theorem dX4_readClauses_19 : decode cX4_readClauses 19 = .ok (.aload_n 0, 1) := by decide +kernel
theorem dX4_readClauses_20 : decode cX4_readClauses 20 = .ok (.invokevirtual 58, 3) := by decide +kernel
theorem dX4_readClauses_23 : decode cX4_readClauses 23 = .ok (.iconst 0, 1) := by decide +kernel
theorem dX4_readClauses_24 : decode cX4_readClauses 24 = .ok (.istore_n 1, 1) := by decide +kernel
theorem dX4_readClauses_25 : decode cX4_readClauses 25 = .ok (.iload_n 1, 1) := by decide +kernel
theorem dX4_readClauses_26 : decode cX4_readClauses 26 = .ok (.sipush 240, 3) := by decide +kernel
theorem dX4_readClauses_29 : decode cX4_readClauses 29 = .ok (.if_icmp .ge 32, 3) := by decide +kernel
theorem dX4_readClauses_32 : decode cX4_readClauses 32 = .ok (.aload_n 0, 1) := by decide +kernel
theorem dX4_readClauses_33 : decode cX4_readClauses 33 = .ok (.getfield 22, 3) := by decide +kernel
theorem dX4_readClauses_36 : decode cX4_readClauses 36 = .ok (.ifCond .ne 25, 3) := by decide +kernel
theorem dX4_readClauses_39 : decode cX4_readClauses 39 = .ok (.aload_n 0, 1) := by decide +kernel
theorem dX4_readClauses_40 : decode cX4_readClauses 40 = .ok (.invokevirtual 47, 3) := by decide +kernel
theorem dX4_readClauses_43 : decode cX4_readClauses 43 = .ok (.istore_n 2, 1) := by decide +kernel
theorem dX4_readClauses_44 : decode cX4_readClauses 44 = .ok (.iload_n 2, 1) := by decide +kernel
theorem dX4_readClauses_45 : decode cX4_readClauses 45 = .ok (.iconst (-1), 1) := by decide +kernel
theorem dX4_readClauses_46 : decode cX4_readClauses 46 = .ok (.if_icmp .ne 4, 3) := by decide +kernel
theorem dX4_readClauses_49 : decode cX4_readClauses 49 = .ok (.return_, 1) := by decide +kernel
theorem dX4_readClauses_50 : decode cX4_readClauses 50 = .ok (.aload_n 0, 1) := by decide +kernel
theorem dX4_readClauses_51 : decode cX4_readClauses 51 = .ok (.iload_n 2, 1) := by decide +kernel
theorem dX4_readClauses_52 : decode cX4_readClauses 52 = .ok (.invokevirtual 61, 3) := by decide +kernel
theorem dX4_readClauses_55 : decode cX4_readClauses 55 = .ok (.iinc 1 1, 3) := by decide +kernel
theorem dX4_readClauses_58 : decode cX4_readClauses 58 = .ok (.goto (-33), 3) := by decide +kernel
theorem dX4_readClauses_61 : decode cX4_readClauses 61 = .ok (.return_, 1) := by decide +kernel
set_option maxRecDepth 20000 in
theorem ggX4_readClause_X4_fail : GoodIn wsX4_readClause wsX4_fail := goodIn_r _ [6, 7, 8, 79, 80, 81, 82, 83, 84] (by decide +kernel) (by decide +kernel)
set_option maxRecDepth 20000 in
theorem gX4_readClause_X4_fail : GoodIn wsX4_readClause (wsV RX4 54 RX4 yX4_fail wsX4_fail) := goodIn_app (goodIn_of _ (by decide +kernel)) ggX4_readClause_X4_fail
set_option maxRecDepth 20000 in
theorem ggX4_readClause_X4_readVillage : GoodIn wsX4_readClause wsX4_readVillage := goodIn_r _ [12, 13, 14, 1, 7, 15, 16, 17, 18, 2, 3, 4, 5, 6, 8, 19, 20, 21, 22, 23, 24, 25, 26, 27, 28, 29, 30, 31, 32, 33, 34, 35, 36, 37, 38, 39, 40, 41, 42, 43, 44, 45, 46, 47, 48, 49, 50, 51, 52, 53, 54, 79, 80, 81, 82, 83, 84, 85, 86, 87, 88, 89, 90, 91, 92, 93, 94, 95, 96] (by decide +kernel) (by decide +kernel)
set_option maxRecDepth 20000 in
theorem gX4_readClause_X4_readVillage : GoodIn wsX4_readClause (wsV RX4 65 RX4 yX4_readVillage wsX4_readVillage) := goodIn_app (goodIn_of _ (by decide +kernel)) ggX4_readClause_X4_readVillage
set_option maxRecDepth 20000 in
theorem ggX4_readClause_X4_readPerson : GoodIn wsX4_readClause wsX4_readPerson := goodIn_r _ [58, 13, 59, 1, 14, 7, 2, 3, 4, 5, 6, 8, 19, 20, 21, 22, 23, 24, 25, 26, 27, 28, 29, 30, 31, 32, 33, 34, 35, 36, 37, 38, 39, 60, 61, 62, 49, 63, 64, 65, 66, 79, 80, 81, 82, 83, 84, 85, 86, 87, 88, 89, 90, 91, 92, 93, 94, 95, 96] (by decide +kernel) (by decide +kernel)
set_option maxRecDepth 20000 in
theorem gX4_readClause_X4_readPerson : GoodIn wsX4_readClause (wsV RX4 68 RX4 yX4_readPerson wsX4_readPerson) := goodIn_app (goodIn_of _ (by decide +kernel)) ggX4_readClause_X4_readPerson
set_option maxRecDepth 20000 in
theorem ggX4_readClause_X4_readDebt : GoodIn wsX4_readClause wsX4_readDebt := goodIn_r _ [70, 13, 71, 1, 14, 7, 2, 3, 4, 5, 6, 8, 19, 20, 21, 22, 23, 24, 25, 26, 27, 28, 29, 30, 31, 32, 33, 34, 35, 36, 37, 38, 39, 72, 73, 74, 49, 75, 76, 77, 78, 79, 80, 81, 82, 83, 84, 85, 86, 87, 88, 89, 90, 91, 92, 93, 94, 95, 96] (by decide +kernel) (by decide +kernel)
set_option maxRecDepth 20000 in
theorem gX4_readClause_X4_readDebt : GoodIn wsX4_readClause (wsV RX4 71 RX4 yX4_readDebt wsX4_readDebt) := goodIn_app (goodIn_of _ (by decide +kernel)) ggX4_readClause_X4_readDebt
theorem dX4_readClause_0 : decode cX4_readClause 0 = .ok (.iload_n 1, 1) := by decide +kernel
theorem dX4_readClause_1 : decode cX4_readClause 1 = .ok (.lookupswitch 76 #[(100, 69), (110, 43), (112, 62), (118, 55)], 43) := by decide +kernel
theorem dX4_readClause_44 : decode cX4_readClause 44 = .ok (.aload_n 0, 1) := by decide +kernel
theorem dX4_readClause_45 : decode cX4_readClause 45 = .ok (.iconst 3, 1) := by decide +kernel
theorem dX4_readClause_46 : decode cX4_readClause 46 = .ok (.aload_n 0, 1) := by decide +kernel
theorem dX4_readClause_47 : decode cX4_readClause 47 = .ok (.getfield 28, 3) := by decide +kernel
theorem dX4_readClause_50 : decode cX4_readClause 50 = .ok (.invokevirtual 54, 3) := by decide +kernel
theorem dX4_readClause_53 : decode cX4_readClause 53 = .ok (.goto 33, 3) := by decide +kernel
theorem dX4_readClause_56 : decode cX4_readClause 56 = .ok (.aload_n 0, 1) := by decide +kernel
theorem dX4_readClause_57 : decode cX4_readClause 57 = .ok (.invokevirtual 65, 3) := by decide +kernel
theorem dX4_readClause_60 : decode cX4_readClause 60 = .ok (.goto 26, 3) := by decide +kernel
theorem dX4_readClause_63 : decode cX4_readClause 63 = .ok (.aload_n 0, 1) := by decide +kernel
theorem dX4_readClause_64 : decode cX4_readClause 64 = .ok (.invokevirtual 68, 3) := by decide +kernel
theorem dX4_readClause_67 : decode cX4_readClause 67 = .ok (.goto 19, 3) := by decide +kernel
theorem dX4_readClause_70 : decode cX4_readClause 70 = .ok (.aload_n 0, 1) := by decide +kernel
theorem dX4_readClause_71 : decode cX4_readClause 71 = .ok (.invokevirtual 71, 3) := by decide +kernel
theorem dX4_readClause_74 : decode cX4_readClause 74 = .ok (.goto 12, 3) := by decide +kernel
theorem dX4_readClause_77 : decode cX4_readClause 77 = .ok (.aload_n 0, 1) := by decide +kernel
theorem dX4_readClause_78 : decode cX4_readClause 78 = .ok (.iconst 1, 1) := by decide +kernel
theorem dX4_readClause_79 : decode cX4_readClause 79 = .ok (.aload_n 0, 1) := by decide +kernel
theorem dX4_readClause_80 : decode cX4_readClause 80 = .ok (.getfield 28, 3) := by decide +kernel
theorem dX4_readClause_83 : decode cX4_readClause 83 = .ok (.invokevirtual 54, 3) := by decide +kernel
theorem dX4_readClause_86 : decode cX4_readClause 86 = .ok (.return_, 1) := by decide +kernel
set_option maxRecDepth 20000 in
theorem ggX4_readWinter_X4_readNumber : GoodIn wsX4_readWinter wsX4_readNumber := goodIn_r _ [10, 2, 1, 11, 12, 13, 14, 9, 15, 16, 17, 18, 19, 20, 21, 22, 23, 24, 25, 26, 27, 28, 33, 34, 35, 36, 37, 38] (by decide +kernel) (by decide +kernel)
set_option maxRecDepth 20000 in
theorem gX4_readWinter_X4_readNumber : GoodIn wsX4_readWinter (wsV RX4 74 RX4 yX4_readNumber wsX4_readNumber) := goodIn_app (goodIn_of _ (by decide +kernel)) ggX4_readWinter_X4_readNumber
set_option maxRecDepth 20000 in
theorem ggX4_readWinter_X4_nextWord : GoodIn wsX4_readWinter wsX4_nextWord := goodIn_r _ [15, 1, 16, 11, 33, 34, 35, 36, 37, 38] (by decide +kernel) (by decide +kernel)
set_option maxRecDepth 20000 in
theorem gX4_readWinter_X4_nextWord : GoodIn wsX4_readWinter (wsV RX4 47 RX4 yX4_nextWord wsX4_nextWord) := goodIn_app (goodIn_of _ (by decide +kernel)) ggX4_readWinter_X4_nextWord
set_option maxRecDepth 20000 in
theorem ggX4_readWinter_X4_readEnd : GoodIn wsX4_readWinter wsX4_readEnd := goodIn_r _ [32, 2, 1, 12, 13, 14, 9, 15, 16, 11, 21, 22, 23, 24, 25, 33, 34, 35, 36, 37, 38] (by decide +kernel) (by decide +kernel)
set_option maxRecDepth 20000 in
theorem gX4_readWinter_X4_readEnd : GoodIn wsX4_readWinter (wsV RX4 83 RX4 yX4_readEnd wsX4_readEnd) := goodIn_app (goodIn_of _ (by decide +kernel)) ggX4_readWinter_X4_readEnd
theorem dX4_readWinter_0 : decode cX4_readWinter 0 = .ok (.aload_n 0, 1) := by decide +kernel
theorem dX4_readWinter_1 : decode cX4_readWinter 1 = .ok (.dup, 1) := by decide +kernel
theorem dX4_readWinter_2 : decode cX4_readWinter 2 = .ok (.getfield 28, 3) := by decide +kernel
theorem dX4_readWinter_5 : decode cX4_readWinter 5 = .ok (.iconst 1, 1) := by decide +kernel
theorem dX4_readWinter_6 : decode cX4_readWinter 6 = .ok (.iadd, 1) := by decide +kernel
theorem dX4_readWinter_7 : decode cX4_readWinter 7 = .ok (.putfield 28, 3) := by decide +kernel
theorem dX4_readWinter_10 : decode cX4_readWinter 10 = .ok (.iconst 0, 1) := by decide +kernel
theorem dX4_readWinter_11 : decode cX4_readWinter 11 = .ok (.istore_n 1, 1) := by decide +kernel
theorem dX4_readWinter_12 : decode cX4_readWinter 12 = .ok (.iload_n 1, 1) := by decide +kernel
theorem dX4_readWinter_13 : decode cX4_readWinter 13 = .ok (.bipush 20, 2) := by decide +kernel
theorem dX4_readWinter_15 : decode cX4_readWinter 15 = .ok (.if_icmp .ge 73, 3) := by decide +kernel
theorem dX4_readWinter_18 : decode cX4_readWinter 18 = .ok (.aload_n 0, 1) := by decide +kernel
theorem dX4_readWinter_19 : decode cX4_readWinter 19 = .ok (.iconst 0, 1) := by decide +kernel
theorem dX4_readWinter_20 : decode cX4_readWinter 20 = .ok (.bipush 40, 2) := by decide +kernel
theorem dX4_readWinter_22 : decode cX4_readWinter 22 = .ok (.invokevirtual 74, 3) := by decide +kernel
theorem dX4_readWinter_25 : decode cX4_readWinter 25 = .ok (.istore_n 2, 1) := by decide +kernel
theorem dX4_readWinter_26 : decode cX4_readWinter 26 = .ok (.aload_n 0, 1) := by decide +kernel
theorem dX4_readWinter_27 : decode cX4_readWinter 27 = .ok (.getfield 22, 3) := by decide +kernel
theorem dX4_readWinter_30 : decode cX4_readWinter 30 = .ok (.ifCond .eq 4, 3) := by decide +kernel
theorem dX4_readWinter_33 : decode cX4_readWinter 33 = .ok (.return_, 1) := by decide +kernel
theorem dX4_readWinter_34 : decode cX4_readWinter 34 = .ok (.aload_n 0, 1) := by decide +kernel
theorem dX4_readWinter_35 : decode cX4_readWinter 35 = .ok (.getfield 12, 3) := by decide +kernel
theorem dX4_readWinter_38 : decode cX4_readWinter 38 = .ok (.getfield 77, 3) := by decide +kernel
theorem dX4_readWinter_41 : decode cX4_readWinter 41 = .ok (.iload_n 1, 1) := by decide +kernel
theorem dX4_readWinter_42 : decode cX4_readWinter 42 = .ok (.iload_n 2, 1) := by decide +kernel
theorem dX4_readWinter_43 : decode cX4_readWinter 43 = .ok (.iastore, 1) := by decide +kernel
theorem dX4_readWinter_44 : decode cX4_readWinter 44 = .ok (.aload_n 0, 1) := by decide +kernel
theorem dX4_readWinter_45 : decode cX4_readWinter 45 = .ok (.getfield 12, 3) := by decide +kernel
theorem dX4_readWinter_48 : decode cX4_readWinter 48 = .ok (.iload_n 1, 1) := by decide +kernel
theorem dX4_readWinter_49 : decode cX4_readWinter 49 = .ok (.iconst 1, 1) := by decide +kernel
theorem dX4_readWinter_50 : decode cX4_readWinter 50 = .ok (.iadd, 1) := by decide +kernel
theorem dX4_readWinter_51 : decode cX4_readWinter 51 = .ok (.putfield 80, 3) := by decide +kernel
theorem dX4_readWinter_54 : decode cX4_readWinter 54 = .ok (.aload_n 0, 1) := by decide +kernel
theorem dX4_readWinter_55 : decode cX4_readWinter 55 = .ok (.invokevirtual 47, 3) := by decide +kernel
theorem dX4_readWinter_58 : decode cX4_readWinter 58 = .ok (.bipush 44, 2) := by decide +kernel
theorem dX4_readWinter_60 : decode cX4_readWinter 60 = .ok (.if_icmp .ne 28, 3) := by decide +kernel
theorem dX4_readWinter_63 : decode cX4_readWinter 63 = .ok (.iload_n 1, 1) := by decide +kernel
theorem dX4_readWinter_64 : decode cX4_readWinter 64 = .ok (.bipush 19, 2) := by decide +kernel
theorem dX4_readWinter_66 : decode cX4_readWinter 66 = .ok (.if_icmp .ne 6, 3) := by decide +kernel
theorem dX4_readWinter_69 : decode cX4_readWinter 69 = .ok (.goto 19, 3) := by decide +kernel
theorem dX4_readWinter_72 : decode cX4_readWinter 72 = .ok (.aload_n 0, 1) := by decide +kernel
theorem dX4_readWinter_73 : decode cX4_readWinter 73 = .ok (.dup, 1) := by decide +kernel
theorem dX4_readWinter_74 : decode cX4_readWinter 74 = .ok (.getfield 28, 3) := by decide +kernel
theorem dX4_readWinter_77 : decode cX4_readWinter 77 = .ok (.iconst 1, 1) := by decide +kernel
theorem dX4_readWinter_78 : decode cX4_readWinter 78 = .ok (.iadd, 1) := by decide +kernel
theorem dX4_readWinter_79 : decode cX4_readWinter 79 = .ok (.putfield 28, 3) := by decide +kernel
theorem dX4_readWinter_82 : decode cX4_readWinter 82 = .ok (.iinc 1 1, 3) := by decide +kernel
theorem dX4_readWinter_85 : decode cX4_readWinter 85 = .ok (.goto (-73), 3) := by decide +kernel
theorem dX4_readWinter_88 : decode cX4_readWinter 88 = .ok (.aload_n 0, 1) := by decide +kernel
theorem dX4_readWinter_89 : decode cX4_readWinter 89 = .ok (.invokevirtual 83, 3) := by decide +kernel
theorem dX4_readWinter_92 : decode cX4_readWinter 92 = .ok (.return_, 1) := by decide +kernel
set_option maxRecDepth 20000 in
theorem ggX4_readVillage_X4_fail : GoodIn wsX4_readVillage wsX4_fail := goodIn_r _ [13, 4, 14, 51, 52, 53, 54, 55, 56] (by decide +kernel) (by decide +kernel)
set_option maxRecDepth 20000 in
theorem gX4_readVillage_X4_fail : GoodIn wsX4_readVillage (wsV RX4 54 RX4 yX4_fail wsX4_fail) := goodIn_app (goodIn_of _ (by decide +kernel)) ggX4_readVillage_X4_fail
set_option maxRecDepth 20000 in
theorem ggX4_readVillage_X4_readNumber : GoodIn wsX4_readVillage wsX4_readNumber := goodIn_r _ [18, 4, 3, 19, 20, 21, 22, 12, 23, 24, 25, 26, 27, 28, 9, 10, 11, 13, 14, 29, 30, 31, 51, 52, 53, 54, 55, 56] (by decide +kernel) (by decide +kernel)
set_option maxRecDepth 20000 in
theorem gX4_readVillage_X4_readNumber : GoodIn wsX4_readVillage (wsV RX4 74 RX4 yX4_readNumber wsX4_readNumber) := goodIn_app (goodIn_of _ (by decide +kernel)) ggX4_readVillage_X4_readNumber
set_option maxRecDepth 20000 in
theorem ggX4_readVillage_X4_readEnd : GoodIn wsX4_readVillage wsX4_readEnd := goodIn_r _ [35, 4, 3, 20, 21, 22, 12, 23, 24, 19, 9, 10, 11, 13, 14, 51, 52, 53, 54, 55, 56] (by decide +kernel) (by decide +kernel)
set_option maxRecDepth 20000 in
theorem gX4_readVillage_X4_readEnd : GoodIn wsX4_readVillage (wsV RX4 83 RX4 yX4_readEnd wsX4_readEnd) := goodIn_app (goodIn_of _ (by decide +kernel)) ggX4_readVillage_X4_readEnd
set_option maxRecDepth 20000 in
theorem ggX4_readVillage_X4_middle : GoodIn wsX4_readVillage wsX4_middle := goodIn_r _ [38, 39, 40, 7, 41, 5, 6, 8] (by decide +kernel) (by decide +kernel)
set_option maxRecDepth 20000 in
theorem gX4_readVillage_X4_middle : GoodIn wsX4_readVillage (va_wsS RX4 89 yX4_middle wsX4_middle) := goodIn_app (goodIn_of _ (by decide +kernel)) ggX4_readVillage_X4_middle
set_option maxRecDepth 20000 in
theorem ggX4_readVillage_X7_addVillage : GoodIn wsX4_readVillage wsX7_addVillage := goodIn_r _ [46, 47, 48, 49, 50, 57, 58, 59, 60, 61, 62, 63, 64, 65, 66, 67, 68] (by decide +kernel) (by decide +kernel)
set_option maxRecDepth 20000 in
theorem gX4_readVillage_X7_addVillage : GoodIn wsX4_readVillage (wsV RX4 93 RX7 yX7_addVillage wsX7_addVillage) := goodIn_app (goodIn_of _ (by decide +kernel)) ggX4_readVillage_X7_addVillage
theorem dX4_readVillage_0 : decode cX4_readVillage 0 = .ok (.aload_n 0, 1) := by decide +kernel
theorem dX4_readVillage_1 : decode cX4_readVillage 1 = .ok (.getfield 12, 3) := by decide +kernel
theorem dX4_readVillage_4 : decode cX4_readVillage 4 = .ok (.getfield 86, 3) := by decide +kernel
theorem dX4_readVillage_7 : decode cX4_readVillage 7 = .ok (.iconst 4, 1) := by decide +kernel
theorem dX4_readVillage_8 : decode cX4_readVillage 8 = .ok (.if_icmp .lt 13, 3) := by decide +kernel
theorem dX4_readVillage_11 : decode cX4_readVillage 11 = .ok (.aload_n 0, 1) := by decide +kernel
theorem dX4_readVillage_12 : decode cX4_readVillage 12 = .ok (.iconst 3, 1) := by decide +kernel
theorem dX4_readVillage_13 : decode cX4_readVillage 13 = .ok (.aload_n 0, 1) := by decide +kernel
theorem dX4_readVillage_14 : decode cX4_readVillage 14 = .ok (.getfield 28, 3) := by decide +kernel
theorem dX4_readVillage_17 : decode cX4_readVillage 17 = .ok (.invokevirtual 54, 3) := by decide +kernel
theorem dX4_readVillage_20 : decode cX4_readVillage 20 = .ok (.return_, 1) := by decide +kernel
theorem dX4_readVillage_21 : decode cX4_readVillage 21 = .ok (.aload_n 0, 1) := by decide +kernel
theorem dX4_readVillage_22 : decode cX4_readVillage 22 = .ok (.dup, 1) := by decide +kernel
theorem dX4_readVillage_23 : decode cX4_readVillage 23 = .ok (.getfield 28, 3) := by decide +kernel
theorem dX4_readVillage_26 : decode cX4_readVillage 26 = .ok (.iconst 1, 1) := by decide +kernel
theorem dX4_readVillage_27 : decode cX4_readVillage 27 = .ok (.iadd, 1) := by decide +kernel
theorem dX4_readVillage_28 : decode cX4_readVillage 28 = .ok (.putfield 28, 3) := by decide +kernel
theorem dX4_readVillage_31 : decode cX4_readVillage 31 = .ok (.aload_n 0, 1) := by decide +kernel
theorem dX4_readVillage_32 : decode cX4_readVillage 32 = .ok (.iconst 0, 1) := by decide +kernel
theorem dX4_readVillage_33 : decode cX4_readVillage 33 = .ok (.bipush 40, 2) := by decide +kernel
theorem dX4_readVillage_35 : decode cX4_readVillage 35 = .ok (.invokevirtual 74, 3) := by decide +kernel
theorem dX4_readVillage_38 : decode cX4_readVillage 38 = .ok (.istore_n 1, 1) := by decide +kernel
theorem dX4_readVillage_39 : decode cX4_readVillage 39 = .ok (.aload_n 0, 1) := by decide +kernel
theorem dX4_readVillage_40 : decode cX4_readVillage 40 = .ok (.iconst 0, 1) := by decide +kernel
theorem dX4_readVillage_41 : decode cX4_readVillage 41 = .ok (.bipush 40, 2) := by decide +kernel
theorem dX4_readVillage_43 : decode cX4_readVillage 43 = .ok (.invokevirtual 74, 3) := by decide +kernel
theorem dX4_readVillage_46 : decode cX4_readVillage 46 = .ok (.istore_n 2, 1) := by decide +kernel
theorem dX4_readVillage_47 : decode cX4_readVillage 47 = .ok (.aload_n 0, 1) := by decide +kernel
theorem dX4_readVillage_48 : decode cX4_readVillage 48 = .ok (.iconst 0, 1) := by decide +kernel
theorem dX4_readVillage_49 : decode cX4_readVillage 49 = .ok (.bipush 40, 2) := by decide +kernel
theorem dX4_readVillage_51 : decode cX4_readVillage 51 = .ok (.invokevirtual 74, 3) := by decide +kernel
theorem dX4_readVillage_54 : decode cX4_readVillage 54 = .ok (.istore_n 3, 1) := by decide +kernel
theorem dX4_readVillage_55 : decode cX4_readVillage 55 = .ok (.aload_n 0, 1) := by decide +kernel
theorem dX4_readVillage_56 : decode cX4_readVillage 56 = .ok (.iconst 0, 1) := by decide +kernel
theorem dX4_readVillage_57 : decode cX4_readVillage 57 = .ok (.bipush 40, 2) := by decide +kernel
theorem dX4_readVillage_59 : decode cX4_readVillage 59 = .ok (.invokevirtual 74, 3) := by decide +kernel
theorem dX4_readVillage_62 : decode cX4_readVillage 62 = .ok (.istore 4, 2) := by decide +kernel
theorem dX4_readVillage_64 : decode cX4_readVillage 64 = .ok (.aload_n 0, 1) := by decide +kernel
theorem dX4_readVillage_65 : decode cX4_readVillage 65 = .ok (.iconst 1, 1) := by decide +kernel
theorem dX4_readVillage_66 : decode cX4_readVillage 66 = .ok (.bipush 40, 2) := by decide +kernel
theorem dX4_readVillage_68 : decode cX4_readVillage 68 = .ok (.invokevirtual 74, 3) := by decide +kernel
theorem dX4_readVillage_71 : decode cX4_readVillage 71 = .ok (.istore 5, 2) := by decide +kernel
theorem dX4_readVillage_73 : decode cX4_readVillage 73 = .ok (.aload_n 0, 1) := by decide +kernel
theorem dX4_readVillage_74 : decode cX4_readVillage 74 = .ok (.invokevirtual 83, 3) := by decide +kernel
theorem dX4_readVillage_77 : decode cX4_readVillage 77 = .ok (.aload_n 0, 1) := by decide +kernel
theorem dX4_readVillage_78 : decode cX4_readVillage 78 = .ok (.getfield 22, 3) := by decide +kernel
theorem dX4_readVillage_81 : decode cX4_readVillage 81 = .ok (.ifCond .ne 24, 3) := by decide +kernel
theorem dX4_readVillage_84 : decode cX4_readVillage 84 = .ok (.aload_n 0, 1) := by decide +kernel
theorem dX4_readVillage_85 : decode cX4_readVillage 85 = .ok (.getfield 12, 3) := by decide +kernel
theorem dX4_readVillage_88 : decode cX4_readVillage 88 = .ok (.iload_n 1, 1) := by decide +kernel
theorem dX4_readVillage_89 : decode cX4_readVillage 89 = .ok (.iconst 1, 1) := by decide +kernel
theorem dX4_readVillage_90 : decode cX4_readVillage 90 = .ok (.iload_n 2, 1) := by decide +kernel
theorem dX4_readVillage_91 : decode cX4_readVillage 91 = .ok (.iload_n 3, 1) := by decide +kernel
theorem dX4_readVillage_92 : decode cX4_readVillage 92 = .ok (.iload 4, 2) := by decide +kernel
theorem dX4_readVillage_94 : decode cX4_readVillage 94 = .ok (.invokestatic 89, 3) := by decide +kernel
theorem dX4_readVillage_97 : decode cX4_readVillage 97 = .ok (.invokestatic 41, 3) := by decide +kernel
theorem dX4_readVillage_100 : decode cX4_readVillage 100 = .ok (.iload 5, 2) := by decide +kernel
theorem dX4_readVillage_102 : decode cX4_readVillage 102 = .ok (.invokevirtual 93, 3) := by decide +kernel
theorem dX4_readVillage_105 : decode cX4_readVillage 105 = .ok (.return_, 1) := by decide +kernel
set_option maxRecDepth 20000 in
theorem ggX4_readPerson_X4_fail : GoodIn wsX4_readPerson wsX4_fail := goodIn_r _ [10, 5, 11, 41, 42, 43, 44, 45, 46] (by decide +kernel) (by decide +kernel)
set_option maxRecDepth 20000 in
theorem gX4_readPerson_X4_fail : GoodIn wsX4_readPerson (wsV RX4 54 RX4 yX4_fail wsX4_fail) := goodIn_app (goodIn_of _ (by decide +kernel)) ggX4_readPerson_X4_fail
set_option maxRecDepth 20000 in
theorem ggX4_readPerson_X4_readNumber : GoodIn wsX4_readPerson wsX4_readNumber := goodIn_r _ [15, 5, 3, 16, 17, 18, 19, 9, 20, 21, 22, 23, 24, 25, 6, 7, 8, 10, 11, 26, 27, 28, 41, 42, 43, 44, 45, 46] (by decide +kernel) (by decide +kernel)
set_option maxRecDepth 20000 in
theorem gX4_readPerson_X4_readNumber : GoodIn wsX4_readPerson (wsV RX4 74 RX4 yX4_readNumber wsX4_readNumber) := goodIn_app (goodIn_of _ (by decide +kernel)) ggX4_readPerson_X4_readNumber
set_option maxRecDepth 20000 in
theorem ggX4_readPerson_X4_readEnd : GoodIn wsX4_readPerson wsX4_readEnd := goodIn_r _ [32, 5, 3, 17, 18, 19, 9, 20, 21, 16, 6, 7, 8, 10, 11, 41, 42, 43, 44, 45, 46] (by decide +kernel) (by decide +kernel)
set_option maxRecDepth 20000 in
theorem gX4_readPerson_X4_readEnd : GoodIn wsX4_readPerson (wsV RX4 83 RX4 yX4_readEnd wsX4_readEnd) := goodIn_app (goodIn_of _ (by decide +kernel)) ggX4_readPerson_X4_readEnd
set_option maxRecDepth 20000 in
theorem ggX4_readPerson_X7_addPerson : GoodIn wsX4_readPerson wsX7_addPerson := goodIn_r _ [37, 38, 39, 40, 47, 48, 49, 50, 51, 52, 53, 54, 55, 56, 57, 58] (by decide +kernel) (by decide +kernel)
set_option maxRecDepth 20000 in
theorem gX4_readPerson_X7_addPerson : GoodIn wsX4_readPerson (wsV RX4 100 RX7 yX7_addPerson wsX7_addPerson) := goodIn_app (goodIn_of _ (by decide +kernel)) ggX4_readPerson_X7_addPerson
theorem dX4_readPerson_0 : decode cX4_readPerson 0 = .ok (.aload_n 0, 1) := by decide +kernel
theorem dX4_readPerson_1 : decode cX4_readPerson 1 = .ok (.getfield 12, 3) := by decide +kernel
theorem dX4_readPerson_4 : decode cX4_readPerson 4 = .ok (.getfield 97, 3) := by decide +kernel
theorem dX4_readPerson_7 : decode cX4_readPerson 7 = .ok (.bipush 6, 2) := by decide +kernel
theorem dX4_readPerson_9 : decode cX4_readPerson 9 = .ok (.if_icmp .lt 13, 3) := by decide +kernel
theorem dX4_readPerson_12 : decode cX4_readPerson 12 = .ok (.aload_n 0, 1) := by decide +kernel
theorem dX4_readPerson_13 : decode cX4_readPerson 13 = .ok (.iconst 3, 1) := by decide +kernel
theorem dX4_readPerson_14 : decode cX4_readPerson 14 = .ok (.aload_n 0, 1) := by decide +kernel
theorem dX4_readPerson_15 : decode cX4_readPerson 15 = .ok (.getfield 28, 3) := by decide +kernel
theorem dX4_readPerson_18 : decode cX4_readPerson 18 = .ok (.invokevirtual 54, 3) := by decide +kernel
theorem dX4_readPerson_21 : decode cX4_readPerson 21 = .ok (.return_, 1) := by decide +kernel
theorem dX4_readPerson_22 : decode cX4_readPerson 22 = .ok (.aload_n 0, 1) := by decide +kernel
theorem dX4_readPerson_23 : decode cX4_readPerson 23 = .ok (.dup, 1) := by decide +kernel
theorem dX4_readPerson_24 : decode cX4_readPerson 24 = .ok (.getfield 28, 3) := by decide +kernel
theorem dX4_readPerson_27 : decode cX4_readPerson 27 = .ok (.iconst 1, 1) := by decide +kernel
theorem dX4_readPerson_28 : decode cX4_readPerson 28 = .ok (.iadd, 1) := by decide +kernel
theorem dX4_readPerson_29 : decode cX4_readPerson 29 = .ok (.putfield 28, 3) := by decide +kernel
theorem dX4_readPerson_32 : decode cX4_readPerson 32 = .ok (.aload_n 0, 1) := by decide +kernel
theorem dX4_readPerson_33 : decode cX4_readPerson 33 = .ok (.iconst 0, 1) := by decide +kernel
theorem dX4_readPerson_34 : decode cX4_readPerson 34 = .ok (.aload_n 0, 1) := by decide +kernel
theorem dX4_readPerson_35 : decode cX4_readPerson 35 = .ok (.getfield 12, 3) := by decide +kernel
theorem dX4_readPerson_38 : decode cX4_readPerson 38 = .ok (.getfield 86, 3) := by decide +kernel
theorem dX4_readPerson_41 : decode cX4_readPerson 41 = .ok (.iconst 1, 1) := by decide +kernel
theorem dX4_readPerson_42 : decode cX4_readPerson 42 = .ok (.isub, 1) := by decide +kernel
theorem dX4_readPerson_43 : decode cX4_readPerson 43 = .ok (.invokevirtual 74, 3) := by decide +kernel
theorem dX4_readPerson_46 : decode cX4_readPerson 46 = .ok (.istore_n 1, 1) := by decide +kernel
theorem dX4_readPerson_47 : decode cX4_readPerson 47 = .ok (.aload_n 0, 1) := by decide +kernel
theorem dX4_readPerson_48 : decode cX4_readPerson 48 = .ok (.iconst 0, 1) := by decide +kernel
theorem dX4_readPerson_49 : decode cX4_readPerson 49 = .ok (.sipush 999, 3) := by decide +kernel
theorem dX4_readPerson_52 : decode cX4_readPerson 52 = .ok (.invokevirtual 74, 3) := by decide +kernel
theorem dX4_readPerson_55 : decode cX4_readPerson 55 = .ok (.istore_n 2, 1) := by decide +kernel
theorem dX4_readPerson_56 : decode cX4_readPerson 56 = .ok (.aload_n 0, 1) := by decide +kernel
theorem dX4_readPerson_57 : decode cX4_readPerson 57 = .ok (.invokevirtual 83, 3) := by decide +kernel
theorem dX4_readPerson_60 : decode cX4_readPerson 60 = .ok (.aload_n 0, 1) := by decide +kernel
theorem dX4_readPerson_61 : decode cX4_readPerson 61 = .ok (.getfield 22, 3) := by decide +kernel
theorem dX4_readPerson_64 : decode cX4_readPerson 64 = .ok (.ifCond .ne 12, 3) := by decide +kernel
theorem dX4_readPerson_67 : decode cX4_readPerson 67 = .ok (.aload_n 0, 1) := by decide +kernel
theorem dX4_readPerson_68 : decode cX4_readPerson 68 = .ok (.getfield 12, 3) := by decide +kernel
theorem dX4_readPerson_71 : decode cX4_readPerson 71 = .ok (.iload_n 1, 1) := by decide +kernel
theorem dX4_readPerson_72 : decode cX4_readPerson 72 = .ok (.iload_n 2, 1) := by decide +kernel
theorem dX4_readPerson_73 : decode cX4_readPerson 73 = .ok (.invokevirtual 100, 3) := by decide +kernel
theorem dX4_readPerson_76 : decode cX4_readPerson 76 = .ok (.return_, 1) := by decide +kernel
set_option maxRecDepth 20000 in
theorem ggX4_readDebt_X4_fail : GoodIn wsX4_readDebt wsX4_fail := goodIn_r _ [10, 5, 11, 41, 42, 43, 44, 45, 46] (by decide +kernel) (by decide +kernel)
set_option maxRecDepth 20000 in
theorem gX4_readDebt_X4_fail : GoodIn wsX4_readDebt (wsV RX4 54 RX4 yX4_fail wsX4_fail) := goodIn_app (goodIn_of _ (by decide +kernel)) ggX4_readDebt_X4_fail
set_option maxRecDepth 20000 in
theorem ggX4_readDebt_X4_readNumber : GoodIn wsX4_readDebt wsX4_readNumber := goodIn_r _ [15, 5, 3, 16, 17, 18, 19, 9, 20, 21, 22, 23, 24, 25, 6, 7, 8, 10, 11, 26, 27, 28, 41, 42, 43, 44, 45, 46] (by decide +kernel) (by decide +kernel)
set_option maxRecDepth 20000 in
theorem gX4_readDebt_X4_readNumber : GoodIn wsX4_readDebt (wsV RX4 74 RX4 yX4_readNumber wsX4_readNumber) := goodIn_app (goodIn_of _ (by decide +kernel)) ggX4_readDebt_X4_readNumber
set_option maxRecDepth 20000 in
theorem ggX4_readDebt_X4_readEnd : GoodIn wsX4_readDebt wsX4_readEnd := goodIn_r _ [32, 5, 3, 17, 18, 19, 9, 20, 21, 16, 6, 7, 8, 10, 11, 41, 42, 43, 44, 45, 46] (by decide +kernel) (by decide +kernel)
set_option maxRecDepth 20000 in
theorem gX4_readDebt_X4_readEnd : GoodIn wsX4_readDebt (wsV RX4 83 RX4 yX4_readEnd wsX4_readEnd) := goodIn_app (goodIn_of _ (by decide +kernel)) ggX4_readDebt_X4_readEnd
set_option maxRecDepth 20000 in
theorem ggX4_readDebt_X7_addDebt : GoodIn wsX4_readDebt wsX7_addDebt := goodIn_r _ [37, 38, 39, 40, 47, 48, 49, 50, 51, 52, 53, 54, 55, 56, 57, 58] (by decide +kernel) (by decide +kernel)
set_option maxRecDepth 20000 in
theorem gX4_readDebt_X7_addDebt : GoodIn wsX4_readDebt (wsV RX4 106 RX7 yX7_addDebt wsX7_addDebt) := goodIn_app (goodIn_of _ (by decide +kernel)) ggX4_readDebt_X7_addDebt
theorem dX4_readDebt_0 : decode cX4_readDebt 0 = .ok (.aload_n 0, 1) := by decide +kernel
theorem dX4_readDebt_1 : decode cX4_readDebt 1 = .ok (.getfield 12, 3) := by decide +kernel
theorem dX4_readDebt_4 : decode cX4_readDebt 4 = .ok (.getfield 103, 3) := by decide +kernel
theorem dX4_readDebt_7 : decode cX4_readDebt 7 = .ok (.iconst 5, 1) := by decide +kernel
theorem dX4_readDebt_8 : decode cX4_readDebt 8 = .ok (.if_icmp .lt 13, 3) := by decide +kernel
theorem dX4_readDebt_11 : decode cX4_readDebt 11 = .ok (.aload_n 0, 1) := by decide +kernel
theorem dX4_readDebt_12 : decode cX4_readDebt 12 = .ok (.iconst 3, 1) := by decide +kernel
theorem dX4_readDebt_13 : decode cX4_readDebt 13 = .ok (.aload_n 0, 1) := by decide +kernel
theorem dX4_readDebt_14 : decode cX4_readDebt 14 = .ok (.getfield 28, 3) := by decide +kernel
theorem dX4_readDebt_17 : decode cX4_readDebt 17 = .ok (.invokevirtual 54, 3) := by decide +kernel
theorem dX4_readDebt_20 : decode cX4_readDebt 20 = .ok (.return_, 1) := by decide +kernel
theorem dX4_readDebt_21 : decode cX4_readDebt 21 = .ok (.aload_n 0, 1) := by decide +kernel
theorem dX4_readDebt_22 : decode cX4_readDebt 22 = .ok (.dup, 1) := by decide +kernel
theorem dX4_readDebt_23 : decode cX4_readDebt 23 = .ok (.getfield 28, 3) := by decide +kernel
theorem dX4_readDebt_26 : decode cX4_readDebt 26 = .ok (.iconst 1, 1) := by decide +kernel
theorem dX4_readDebt_27 : decode cX4_readDebt 27 = .ok (.iadd, 1) := by decide +kernel
theorem dX4_readDebt_28 : decode cX4_readDebt 28 = .ok (.putfield 28, 3) := by decide +kernel
theorem dX4_readDebt_31 : decode cX4_readDebt 31 = .ok (.aload_n 0, 1) := by decide +kernel
theorem dX4_readDebt_32 : decode cX4_readDebt 32 = .ok (.iconst 0, 1) := by decide +kernel
theorem dX4_readDebt_33 : decode cX4_readDebt 33 = .ok (.aload_n 0, 1) := by decide +kernel
theorem dX4_readDebt_34 : decode cX4_readDebt 34 = .ok (.getfield 12, 3) := by decide +kernel
theorem dX4_readDebt_37 : decode cX4_readDebt 37 = .ok (.getfield 86, 3) := by decide +kernel
theorem dX4_readDebt_40 : decode cX4_readDebt 40 = .ok (.iconst 1, 1) := by decide +kernel
theorem dX4_readDebt_41 : decode cX4_readDebt 41 = .ok (.isub, 1) := by decide +kernel
theorem dX4_readDebt_42 : decode cX4_readDebt 42 = .ok (.invokevirtual 74, 3) := by decide +kernel
theorem dX4_readDebt_45 : decode cX4_readDebt 45 = .ok (.istore_n 1, 1) := by decide +kernel
theorem dX4_readDebt_46 : decode cX4_readDebt 46 = .ok (.aload_n 0, 1) := by decide +kernel
theorem dX4_readDebt_47 : decode cX4_readDebt 47 = .ok (.iconst 1, 1) := by decide +kernel
theorem dX4_readDebt_48 : decode cX4_readDebt 48 = .ok (.sipush 999, 3) := by decide +kernel
theorem dX4_readDebt_51 : decode cX4_readDebt 51 = .ok (.invokevirtual 74, 3) := by decide +kernel
theorem dX4_readDebt_54 : decode cX4_readDebt 54 = .ok (.istore_n 2, 1) := by decide +kernel
theorem dX4_readDebt_55 : decode cX4_readDebt 55 = .ok (.aload_n 0, 1) := by decide +kernel
theorem dX4_readDebt_56 : decode cX4_readDebt 56 = .ok (.invokevirtual 83, 3) := by decide +kernel
theorem dX4_readDebt_59 : decode cX4_readDebt 59 = .ok (.aload_n 0, 1) := by decide +kernel
theorem dX4_readDebt_60 : decode cX4_readDebt 60 = .ok (.getfield 22, 3) := by decide +kernel
theorem dX4_readDebt_63 : decode cX4_readDebt 63 = .ok (.ifCond .ne 12, 3) := by decide +kernel
theorem dX4_readDebt_66 : decode cX4_readDebt 66 = .ok (.aload_n 0, 1) := by decide +kernel
theorem dX4_readDebt_67 : decode cX4_readDebt 67 = .ok (.getfield 12, 3) := by decide +kernel
theorem dX4_readDebt_70 : decode cX4_readDebt 70 = .ok (.iload_n 1, 1) := by decide +kernel
theorem dX4_readDebt_71 : decode cX4_readDebt 71 = .ok (.iload_n 2, 1) := by decide +kernel
theorem dX4_readDebt_72 : decode cX4_readDebt 72 = .ok (.invokevirtual 106, 3) := by decide +kernel
theorem dX4_readDebt_75 : decode cX4_readDebt 75 = .ok (.return_, 1) := by decide +kernel
theorem dX4_middle_0 : decode cX4_middle 0 = .ok (.iload_n 0, 1) := by decide +kernel
theorem dX4_middle_1 : decode cX4_middle 1 = .ok (.iload_n 1, 1) := by decide +kernel
theorem dX4_middle_2 : decode cX4_middle 2 = .ok (.invokestatic 35, 3) := by decide +kernel
theorem dX4_middle_5 : decode cX4_middle 5 = .ok (.iload_n 0, 1) := by decide +kernel
theorem dX4_middle_6 : decode cX4_middle 6 = .ok (.iload_n 1, 1) := by decide +kernel
theorem dX4_middle_7 : decode cX4_middle 7 = .ok (.invokestatic 41, 3) := by decide +kernel
theorem dX4_middle_10 : decode cX4_middle 10 = .ok (.iload_n 2, 1) := by decide +kernel
theorem dX4_middle_11 : decode cX4_middle 11 = .ok (.invokestatic 35, 3) := by decide +kernel
theorem dX4_middle_14 : decode cX4_middle 14 = .ok (.invokestatic 41, 3) := by decide +kernel
theorem dX4_middle_17 : decode cX4_middle 17 = .ok (.ireturn, 1) := by decide +kernel
set_option maxRecDepth 20000 in
theorem ggX4_readNumber_X4_nextWord : GoodIn wsX4_readNumber wsX4_nextWord := goodIn_r _ [8, 2, 9, 3, 22, 23, 24, 25, 26, 27] (by decide +kernel) (by decide +kernel)
set_option maxRecDepth 20000 in
theorem gX4_readNumber_X4_nextWord : GoodIn wsX4_readNumber (wsV RX4 47 RX4 yX4_nextWord wsX4_nextWord) := goodIn_app (goodIn_of _ (by decide +kernel)) ggX4_readNumber_X4_nextWord
set_option maxRecDepth 20000 in
theorem ggX4_readNumber_X4_isFigure : GoodIn wsX4_readNumber wsX4_isFigure := goodIn_r _ [13, 9, 3, 22, 23, 24, 25, 26, 27] (by decide +kernel) (by decide +kernel)
set_option maxRecDepth 20000 in
theorem gX4_readNumber_X4_isFigure : GoodIn wsX4_readNumber (wsV RX4 109 RX4 yX4_isFigure wsX4_isFigure) := goodIn_app (goodIn_of _ (by decide +kernel)) ggX4_readNumber_X4_isFigure
set_option maxRecDepth 20000 in
theorem ggX4_readNumber_X4_fail : GoodIn wsX4_readNumber wsX4_fail := goodIn_r _ [17, 1, 18, 22, 23, 24, 25, 26, 27] (by decide +kernel) (by decide +kernel)
set_option maxRecDepth 20000 in
theorem gX4_readNumber_X4_fail : GoodIn wsX4_readNumber (wsV RX4 54 RX4 yX4_fail wsX4_fail) := goodIn_app (goodIn_of _ (by decide +kernel)) ggX4_readNumber_X4_fail
set_option maxRecDepth 20000 in
theorem ggX4_readNumber_X9_isOut : GoodIn wsX4_readNumber wsX9_isOut := goodIn_r _ [21] (by decide +kernel) (by decide +kernel)
set_option maxRecDepth 20000 in
theorem gX4_readNumber_X9_isOut_n113 : GoodIn wsX4_readNumber (wsX9_isOut) := ggX4_readNumber_X9_isOut
theorem dX4_readNumber_0 : decode cX4_readNumber 0 = .ok (.aload_n 0, 1) := by decide +kernel
theorem dX4_readNumber_1 : decode cX4_readNumber 1 = .ok (.getfield 22, 3) := by decide +kernel
theorem dX4_readNumber_4 : decode cX4_readNumber 4 = .ok (.ifCond .eq 5, 3) := by decide +kernel
theorem dX4_readNumber_7 : decode cX4_readNumber 7 = .ok (.iconst 0, 1) := by decide +kernel
theorem dX4_readNumber_8 : decode cX4_readNumber 8 = .ok (.ireturn, 1) := by decide +kernel
theorem dX4_readNumber_9 : decode cX4_readNumber 9 = .ok (.aload_n 0, 1) := by decide +kernel
theorem dX4_readNumber_10 : decode cX4_readNumber 10 = .ok (.invokevirtual 47, 3) := by decide +kernel
theorem dX4_readNumber_13 : decode cX4_readNumber 13 = .ok (.pop, 1) := by decide +kernel
theorem dX4_readNumber_14 : decode cX4_readNumber 14 = .ok (.aload_n 0, 1) := by decide +kernel
theorem dX4_readNumber_15 : decode cX4_readNumber 15 = .ok (.getfield 28, 3) := by decide +kernel
theorem dX4_readNumber_18 : decode cX4_readNumber 18 = .ok (.istore_n 3, 1) := by decide +kernel
theorem dX4_readNumber_19 : decode cX4_readNumber 19 = .ok (.iconst 0, 1) := by decide +kernel
theorem dX4_readNumber_20 : decode cX4_readNumber 20 = .ok (.istore 4, 2) := by decide +kernel
theorem dX4_readNumber_22 : decode cX4_readNumber 22 = .ok (.iconst 0, 1) := by decide +kernel
theorem dX4_readNumber_23 : decode cX4_readNumber 23 = .ok (.istore 5, 2) := by decide +kernel
theorem dX4_readNumber_25 : decode cX4_readNumber 25 = .ok (.iload 5, 2) := by decide +kernel
theorem dX4_readNumber_27 : decode cX4_readNumber 27 = .ok (.sipush 240, 3) := by decide +kernel
theorem dX4_readNumber_30 : decode cX4_readNumber 30 = .ok (.if_icmp .ge 56, 3) := by decide +kernel
theorem dX4_readNumber_33 : decode cX4_readNumber 33 = .ok (.aload_n 0, 1) := by decide +kernel
theorem dX4_readNumber_34 : decode cX4_readNumber 34 = .ok (.aload_n 0, 1) := by decide +kernel
theorem dX4_readNumber_35 : decode cX4_readNumber 35 = .ok (.getfield 28, 3) := by decide +kernel
theorem dX4_readNumber_38 : decode cX4_readNumber 38 = .ok (.invokevirtual 109, 3) := by decide +kernel
theorem dX4_readNumber_41 : decode cX4_readNumber 41 = .ok (.ifCond .eq 45, 3) := by decide +kernel
theorem dX4_readNumber_44 : decode cX4_readNumber 44 = .ok (.iload 5, 2) := by decide +kernel
theorem dX4_readNumber_46 : decode cX4_readNumber 46 = .ok (.iconst 3, 1) := by decide +kernel
theorem dX4_readNumber_47 : decode cX4_readNumber 47 = .ok (.if_icmp .ge 23, 3) := by decide +kernel
theorem dX4_readNumber_50 : decode cX4_readNumber 50 = .ok (.iload 4, 2) := by decide +kernel
theorem dX4_readNumber_52 : decode cX4_readNumber 52 = .ok (.bipush 10, 2) := by decide +kernel
theorem dX4_readNumber_54 : decode cX4_readNumber 54 = .ok (.imul, 1) := by decide +kernel
theorem dX4_readNumber_55 : decode cX4_readNumber 55 = .ok (.aload_n 0, 1) := by decide +kernel
theorem dX4_readNumber_56 : decode cX4_readNumber 56 = .ok (.getfield 31, 3) := by decide +kernel
theorem dX4_readNumber_59 : decode cX4_readNumber 59 = .ok (.aload_n 0, 1) := by decide +kernel
theorem dX4_readNumber_60 : decode cX4_readNumber 60 = .ok (.getfield 28, 3) := by decide +kernel
theorem dX4_readNumber_63 : decode cX4_readNumber 63 = .ok (.iaload, 1) := by decide +kernel
theorem dX4_readNumber_64 : decode cX4_readNumber 64 = .ok (.iadd, 1) := by decide +kernel
theorem dX4_readNumber_65 : decode cX4_readNumber 65 = .ok (.bipush 48, 2) := by decide +kernel
theorem dX4_readNumber_67 : decode cX4_readNumber 67 = .ok (.isub, 1) := by decide +kernel
theorem dX4_readNumber_68 : decode cX4_readNumber 68 = .ok (.istore 4, 2) := by decide +kernel
theorem dX4_readNumber_70 : decode cX4_readNumber 70 = .ok (.aload_n 0, 1) := by decide +kernel
theorem dX4_readNumber_71 : decode cX4_readNumber 71 = .ok (.dup, 1) := by decide +kernel
theorem dX4_readNumber_72 : decode cX4_readNumber 72 = .ok (.getfield 28, 3) := by decide +kernel
theorem dX4_readNumber_75 : decode cX4_readNumber 75 = .ok (.iconst 1, 1) := by decide +kernel
theorem dX4_readNumber_76 : decode cX4_readNumber 76 = .ok (.iadd, 1) := by decide +kernel
theorem dX4_readNumber_77 : decode cX4_readNumber 77 = .ok (.putfield 28, 3) := by decide +kernel
theorem dX4_readNumber_80 : decode cX4_readNumber 80 = .ok (.iinc 5 1, 3) := by decide +kernel
theorem dX4_readNumber_83 : decode cX4_readNumber 83 = .ok (.goto (-58), 3) := by decide +kernel
theorem dX4_readNumber_86 : decode cX4_readNumber 86 = .ok (.aload_n 0, 1) := by decide +kernel
theorem dX4_readNumber_87 : decode cX4_readNumber 87 = .ok (.getfield 28, 3) := by decide +kernel
theorem dX4_readNumber_90 : decode cX4_readNumber 90 = .ok (.iload_n 3, 1) := by decide +kernel
theorem dX4_readNumber_91 : decode cX4_readNumber 91 = .ok (.if_icmp .ne 15, 3) := by decide +kernel
theorem dX4_readNumber_94 : decode cX4_readNumber 94 = .ok (.aload_n 0, 1) := by decide +kernel
theorem dX4_readNumber_95 : decode cX4_readNumber 95 = .ok (.iconst 1, 1) := by decide +kernel
theorem dX4_readNumber_96 : decode cX4_readNumber 96 = .ok (.aload_n 0, 1) := by decide +kernel
theorem dX4_readNumber_97 : decode cX4_readNumber 97 = .ok (.getfield 28, 3) := by decide +kernel
theorem dX4_readNumber_100 : decode cX4_readNumber 100 = .ok (.invokevirtual 54, 3) := by decide +kernel
theorem dX4_readNumber_103 : decode cX4_readNumber 103 = .ok (.goto 29, 3) := by decide +kernel
theorem dX4_readNumber_106 : decode cX4_readNumber 106 = .ok (.aload_n 0, 1) := by decide +kernel
theorem dX4_readNumber_107 : decode cX4_readNumber 107 = .ok (.getfield 28, 3) := by decide +kernel
theorem dX4_readNumber_110 : decode cX4_readNumber 110 = .ok (.iload_n 3, 1) := by decide +kernel
theorem dX4_readNumber_111 : decode cX4_readNumber 111 = .ok (.isub, 1) := by decide +kernel
theorem dX4_readNumber_112 : decode cX4_readNumber 112 = .ok (.iconst 3, 1) := by decide +kernel
theorem dX4_readNumber_113 : decode cX4_readNumber 113 = .ok (.if_icmp .gt 13, 3) := by decide +kernel
theorem dX4_readNumber_116 : decode cX4_readNumber 116 = .ok (.iload 4, 2) := by decide +kernel
theorem dX4_readNumber_118 : decode cX4_readNumber 118 = .ok (.iload_n 1, 1) := by decide +kernel
theorem dX4_readNumber_119 : decode cX4_readNumber 119 = .ok (.iload_n 2, 1) := by decide +kernel
theorem dX4_readNumber_120 : decode cX4_readNumber 120 = .ok (.invokestatic 113, 3) := by decide +kernel
theorem dX4_readNumber_123 : decode cX4_readNumber 123 = .ok (.ifCond .eq 9, 3) := by decide +kernel
theorem dX4_readNumber_126 : decode cX4_readNumber 126 = .ok (.aload_n 0, 1) := by decide +kernel
theorem dX4_readNumber_127 : decode cX4_readNumber 127 = .ok (.iconst 2, 1) := by decide +kernel
theorem dX4_readNumber_128 : decode cX4_readNumber 128 = .ok (.iload_n 3, 1) := by decide +kernel
theorem dX4_readNumber_129 : decode cX4_readNumber 129 = .ok (.invokevirtual 54, 3) := by decide +kernel
theorem dX4_readNumber_132 : decode cX4_readNumber 132 = .ok (.iload 4, 2) := by decide +kernel
theorem dX4_readNumber_134 : decode cX4_readNumber 134 = .ok (.ireturn, 1) := by decide +kernel
set_option maxRecDepth 20000 in
theorem ggX4_readEnd_X4_nextWord : GoodIn wsX4_readEnd wsX4_nextWord := goodIn_r _ [7, 2, 8, 9, 15, 16, 17, 18, 19, 20] (by decide +kernel) (by decide +kernel)
set_option maxRecDepth 20000 in
theorem gX4_readEnd_X4_nextWord : GoodIn wsX4_readEnd (wsV RX4 47 RX4 yX4_nextWord wsX4_nextWord) := goodIn_app (goodIn_of _ (by decide +kernel)) ggX4_readEnd_X4_nextWord
set_option maxRecDepth 20000 in
theorem ggX4_readEnd_X4_fail : GoodIn wsX4_readEnd wsX4_fail := goodIn_r _ [13, 1, 14, 15, 16, 17, 18, 19, 20] (by decide +kernel) (by decide +kernel)
set_option maxRecDepth 20000 in
theorem gX4_readEnd_X4_fail : GoodIn wsX4_readEnd (wsV RX4 54 RX4 yX4_fail wsX4_fail) := goodIn_app (goodIn_of _ (by decide +kernel)) ggX4_readEnd_X4_fail
theorem dX4_readEnd_0 : decode cX4_readEnd 0 = .ok (.aload_n 0, 1) := by decide +kernel
theorem dX4_readEnd_1 : decode cX4_readEnd 1 = .ok (.getfield 22, 3) := by decide +kernel
theorem dX4_readEnd_4 : decode cX4_readEnd 4 = .ok (.ifCond .eq 4, 3) := by decide +kernel
theorem dX4_readEnd_7 : decode cX4_readEnd 7 = .ok (.return_, 1) := by decide +kernel
theorem dX4_readEnd_8 : decode cX4_readEnd 8 = .ok (.aload_n 0, 1) := by decide +kernel
theorem dX4_readEnd_9 : decode cX4_readEnd 9 = .ok (.invokevirtual 47, 3) := by decide +kernel
theorem dX4_readEnd_12 : decode cX4_readEnd 12 = .ok (.bipush 59, 2) := by decide +kernel
theorem dX4_readEnd_14 : decode cX4_readEnd 14 = .ok (.if_icmp .ne 16, 3) := by decide +kernel
theorem dX4_readEnd_17 : decode cX4_readEnd 17 = .ok (.aload_n 0, 1) := by decide +kernel
theorem dX4_readEnd_18 : decode cX4_readEnd 18 = .ok (.dup, 1) := by decide +kernel
theorem dX4_readEnd_19 : decode cX4_readEnd 19 = .ok (.getfield 28, 3) := by decide +kernel
theorem dX4_readEnd_22 : decode cX4_readEnd 22 = .ok (.iconst 1, 1) := by decide +kernel
theorem dX4_readEnd_23 : decode cX4_readEnd 23 = .ok (.iadd, 1) := by decide +kernel
theorem dX4_readEnd_24 : decode cX4_readEnd 24 = .ok (.putfield 28, 3) := by decide +kernel
theorem dX4_readEnd_27 : decode cX4_readEnd 27 = .ok (.goto 12, 3) := by decide +kernel
theorem dX4_readEnd_30 : decode cX4_readEnd 30 = .ok (.aload_n 0, 1) := by decide +kernel
theorem dX4_readEnd_31 : decode cX4_readEnd 31 = .ok (.iconst 1, 1) := by decide +kernel
theorem dX4_readEnd_32 : decode cX4_readEnd 32 = .ok (.aload_n 0, 1) := by decide +kernel
theorem dX4_readEnd_33 : decode cX4_readEnd 33 = .ok (.getfield 28, 3) := by decide +kernel
theorem dX4_readEnd_36 : decode cX4_readEnd 36 = .ok (.invokevirtual 54, 3) := by decide +kernel
theorem dX4_readEnd_39 : decode cX4_readEnd 39 = .ok (.return_, 1) := by decide +kernel
theorem dX4_nextWord_0 : decode cX4_nextWord 0 = .ok (.iconst 0, 1) := by decide +kernel
theorem dX4_nextWord_1 : decode cX4_nextWord 1 = .ok (.istore_n 1, 1) := by decide +kernel
theorem dX4_nextWord_2 : decode cX4_nextWord 2 = .ok (.iload_n 1, 1) := by decide +kernel
theorem dX4_nextWord_3 : decode cX4_nextWord 3 = .ok (.sipush 240, 3) := by decide +kernel
theorem dX4_nextWord_6 : decode cX4_nextWord 6 = .ok (.if_icmp .ge 44, 3) := by decide +kernel
theorem dX4_nextWord_9 : decode cX4_nextWord 9 = .ok (.aload_n 0, 1) := by decide +kernel
theorem dX4_nextWord_10 : decode cX4_nextWord 10 = .ok (.getfield 28, 3) := by decide +kernel
theorem dX4_nextWord_13 : decode cX4_nextWord 13 = .ok (.aload_n 0, 1) := by decide +kernel
theorem dX4_nextWord_14 : decode cX4_nextWord 14 = .ok (.getfield 25, 3) := by decide +kernel
theorem dX4_nextWord_17 : decode cX4_nextWord 17 = .ok (.if_icmp .ge 33, 3) := by decide +kernel
theorem dX4_nextWord_20 : decode cX4_nextWord 20 = .ok (.aload_n 0, 1) := by decide +kernel
theorem dX4_nextWord_21 : decode cX4_nextWord 21 = .ok (.getfield 31, 3) := by decide +kernel
theorem dX4_nextWord_24 : decode cX4_nextWord 24 = .ok (.aload_n 0, 1) := by decide +kernel
theorem dX4_nextWord_25 : decode cX4_nextWord 25 = .ok (.getfield 28, 3) := by decide +kernel
theorem dX4_nextWord_28 : decode cX4_nextWord 28 = .ok (.iaload, 1) := by decide +kernel
theorem dX4_nextWord_29 : decode cX4_nextWord 29 = .ok (.bipush 32, 2) := by decide +kernel
theorem dX4_nextWord_31 : decode cX4_nextWord 31 = .ok (.if_icmp .ne 19, 3) := by decide +kernel
theorem dX4_nextWord_34 : decode cX4_nextWord 34 = .ok (.aload_n 0, 1) := by decide +kernel
theorem dX4_nextWord_35 : decode cX4_nextWord 35 = .ok (.dup, 1) := by decide +kernel
theorem dX4_nextWord_36 : decode cX4_nextWord 36 = .ok (.getfield 28, 3) := by decide +kernel
theorem dX4_nextWord_39 : decode cX4_nextWord 39 = .ok (.iconst 1, 1) := by decide +kernel
theorem dX4_nextWord_40 : decode cX4_nextWord 40 = .ok (.iadd, 1) := by decide +kernel
theorem dX4_nextWord_41 : decode cX4_nextWord 41 = .ok (.putfield 28, 3) := by decide +kernel
theorem dX4_nextWord_44 : decode cX4_nextWord 44 = .ok (.iinc 1 1, 3) := by decide +kernel
theorem dX4_nextWord_47 : decode cX4_nextWord 47 = .ok (.goto (-45), 3) := by decide +kernel
theorem dX4_nextWord_50 : decode cX4_nextWord 50 = .ok (.aload_n 0, 1) := by decide +kernel
theorem dX4_nextWord_51 : decode cX4_nextWord 51 = .ok (.getfield 28, 3) := by decide +kernel
theorem dX4_nextWord_54 : decode cX4_nextWord 54 = .ok (.aload_n 0, 1) := by decide +kernel
theorem dX4_nextWord_55 : decode cX4_nextWord 55 = .ok (.getfield 25, 3) := by decide +kernel
theorem dX4_nextWord_58 : decode cX4_nextWord 58 = .ok (.if_icmp .ge 15, 3) := by decide +kernel
theorem dX4_nextWord_61 : decode cX4_nextWord 61 = .ok (.aload_n 0, 1) := by decide +kernel
theorem dX4_nextWord_62 : decode cX4_nextWord 62 = .ok (.getfield 31, 3) := by decide +kernel
theorem dX4_nextWord_65 : decode cX4_nextWord 65 = .ok (.aload_n 0, 1) := by decide +kernel
theorem dX4_nextWord_66 : decode cX4_nextWord 66 = .ok (.getfield 28, 3) := by decide +kernel
theorem dX4_nextWord_69 : decode cX4_nextWord 69 = .ok (.iaload, 1) := by decide +kernel
theorem dX4_nextWord_70 : decode cX4_nextWord 70 = .ok (.goto 4, 3) := by decide +kernel
theorem dX4_nextWord_73 : decode cX4_nextWord 73 = .ok (.iconst (-1), 1) := by decide +kernel
theorem dX4_nextWord_74 : decode cX4_nextWord 74 = .ok (.ireturn, 1) := by decide +kernel
theorem dX4_isFigure_0 : decode cX4_isFigure 0 = .ok (.iload_n 1, 1) := by decide +kernel
theorem dX4_isFigure_1 : decode cX4_isFigure 1 = .ok (.aload_n 0, 1) := by decide +kernel
theorem dX4_isFigure_2 : decode cX4_isFigure 2 = .ok (.getfield 25, 3) := by decide +kernel
theorem dX4_isFigure_5 : decode cX4_isFigure 5 = .ok (.if_icmp .ge 29, 3) := by decide +kernel
theorem dX4_isFigure_8 : decode cX4_isFigure 8 = .ok (.aload_n 0, 1) := by decide +kernel
theorem dX4_isFigure_9 : decode cX4_isFigure 9 = .ok (.getfield 31, 3) := by decide +kernel
theorem dX4_isFigure_12 : decode cX4_isFigure 12 = .ok (.iload_n 1, 1) := by decide +kernel
theorem dX4_isFigure_13 : decode cX4_isFigure 13 = .ok (.iaload, 1) := by decide +kernel
theorem dX4_isFigure_14 : decode cX4_isFigure 14 = .ok (.bipush 48, 2) := by decide +kernel
theorem dX4_isFigure_16 : decode cX4_isFigure 16 = .ok (.if_icmp .lt 18, 3) := by decide +kernel
theorem dX4_isFigure_19 : decode cX4_isFigure 19 = .ok (.aload_n 0, 1) := by decide +kernel
theorem dX4_isFigure_20 : decode cX4_isFigure 20 = .ok (.getfield 31, 3) := by decide +kernel
theorem dX4_isFigure_23 : decode cX4_isFigure 23 = .ok (.iload_n 1, 1) := by decide +kernel
theorem dX4_isFigure_24 : decode cX4_isFigure 24 = .ok (.iaload, 1) := by decide +kernel
theorem dX4_isFigure_25 : decode cX4_isFigure 25 = .ok (.bipush 57, 2) := by decide +kernel
theorem dX4_isFigure_27 : decode cX4_isFigure 27 = .ok (.if_icmp .gt 7, 3) := by decide +kernel
theorem dX4_isFigure_30 : decode cX4_isFigure 30 = .ok (.iconst 1, 1) := by decide +kernel
theorem dX4_isFigure_31 : decode cX4_isFigure 31 = .ok (.goto 4, 3) := by decide +kernel
theorem dX4_isFigure_34 : decode cX4_isFigure 34 = .ok (.iconst 0, 1) := by decide +kernel
theorem dX4_isFigure_35 : decode cX4_isFigure 35 = .ok (.ireturn, 1) := by decide +kernel
theorem dX4_fail_0 : decode cX4_fail 0 = .ok (.aload_n 0, 1) := by decide +kernel
theorem dX4_fail_1 : decode cX4_fail 1 = .ok (.getfield 22, 3) := by decide +kernel
theorem dX4_fail_4 : decode cX4_fail 4 = .ok (.ifCond .ne 13, 3) := by decide +kernel
theorem dX4_fail_7 : decode cX4_fail 7 = .ok (.aload_n 0, 1) := by decide +kernel
theorem dX4_fail_8 : decode cX4_fail 8 = .ok (.iload_n 1, 1) := by decide +kernel
theorem dX4_fail_9 : decode cX4_fail 9 = .ok (.putfield 22, 3) := by decide +kernel
theorem dX4_fail_12 : decode cX4_fail 12 = .ok (.aload_n 0, 1) := by decide +kernel
theorem dX4_fail_13 : decode cX4_fail 13 = .ok (.iload_n 2, 1) := by decide +kernel
theorem dX4_fail_14 : decode cX4_fail 14 = .ok (.putfield 18, 3) := by decide +kernel
theorem dX4_fail_17 : decode cX4_fail 17 = .ok (.return_, 1) := by decide +kernel
theorem dX5_init_0 : decode cX5_init 0 = .ok (.aload_n 0, 1) := by decide +kernel
theorem dX5_init_1 : decode cX5_init 1 = .ok (.invokespecial 3, 3) := by decide +kernel
theorem dX5_init_4 : decode cX5_init 4 = .ok (.aload_n 0, 1) := by decide +kernel
theorem dX5_init_5 : decode cX5_init 5 = .ok (.iconst 0, 1) := by decide +kernel
theorem dX5_init_6 : decode cX5_init 6 = .ok (.putfield 9, 3) := by decide +kernel
theorem dX5_init_9 : decode cX5_init 9 = .ok (.aload_n 0, 1) := by decide +kernel
theorem dX5_init_10 : decode cX5_init 10 = .ok (.bipush 6, 2) := by decide +kernel
theorem dX5_init_12 : decode cX5_init 12 = .ok (.newarray .int, 2) := by decide +kernel
theorem dX5_init_14 : decode cX5_init 14 = .ok (.putfield 15, 3) := by decide +kernel
theorem dX5_init_17 : decode cX5_init 17 = .ok (.aload_n 0, 1) := by decide +kernel
theorem dX5_init_18 : decode cX5_init 18 = .ok (.bipush 6, 2) := by decide +kernel
theorem dX5_init_20 : decode cX5_init 20 = .ok (.newarray .int, 2) := by decide +kernel
theorem dX5_init_22 : decode cX5_init 22 = .ok (.putfield 19, 3) := by decide +kernel
theorem dX5_init_25 : decode cX5_init 25 = .ok (.aload_n 0, 1) := by decide +kernel
theorem dX5_init_26 : decode cX5_init 26 = .ok (.bipush 40, 2) := by decide +kernel
theorem dX5_init_28 : decode cX5_init 28 = .ok (.newarray .int, 2) := by decide +kernel
theorem dX5_init_30 : decode cX5_init 30 = .ok (.putfield 22, 3) := by decide +kernel
theorem dX5_init_33 : decode cX5_init 33 = .ok (.aload_n 0, 1) := by decide +kernel
theorem dX5_init_34 : decode cX5_init 34 = .ok (.bipush 40, 2) := by decide +kernel
theorem dX5_init_36 : decode cX5_init 36 = .ok (.newarray .int, 2) := by decide +kernel
theorem dX5_init_38 : decode cX5_init 38 = .ok (.putfield 25, 3) := by decide +kernel
theorem dX5_init_41 : decode cX5_init 41 = .ok (.aload_n 0, 1) := by decide +kernel
theorem dX5_init_42 : decode cX5_init 42 = .ok (.aload_n 1, 1) := by decide +kernel
theorem dX5_init_43 : decode cX5_init 43 = .ok (.putfield 28, 3) := by decide +kernel
theorem dX5_init_46 : decode cX5_init 46 = .ok (.aload_n 0, 1) := by decide +kernel
theorem dX5_init_47 : decode cX5_init 47 = .ok (.aload_n 2, 1) := by decide +kernel
theorem dX5_init_48 : decode cX5_init 48 = .ok (.putfield 32, 3) := by decide +kernel
theorem dX5_init_51 : decode cX5_init 51 = .ok (.return_, 1) := by decide +kernel
theorem dX5_forget_0 : decode cX5_forget 0 = .ok (.aload_n 0, 1) := by decide +kernel
theorem dX5_forget_1 : decode cX5_forget 1 = .ok (.iconst 0, 1) := by decide +kernel
theorem dX5_forget_2 : decode cX5_forget 2 = .ok (.putfield 9, 3) := by decide +kernel
theorem dX5_forget_5 : decode cX5_forget 5 = .ok (.return_, 1) := by decide +kernel
theorem dX5_add_0 : decode cX5_add 0 = .ok (.aload_n 0, 1) := by decide +kernel
theorem dX5_add_1 : decode cX5_add 1 = .ok (.getfield 9, 3) := by decide +kernel
theorem dX5_add_4 : decode cX5_add 4 = .ok (.bipush 6, 2) := by decide +kernel
theorem dX5_add_6 : decode cX5_add 6 = .ok (.if_icmp .lt 5, 3) := by decide +kernel
theorem dX5_add_9 : decode cX5_add 9 = .ok (.iconst 0, 1) := by decide +kernel
theorem dX5_add_10 : decode cX5_add 10 = .ok (.ireturn, 1) := by decide +kernel
theorem dX5_add_11 : decode cX5_add 11 = .ok (.aload_n 0, 1) := by decide +kernel
theorem dX5_add_12 : decode cX5_add 12 = .ok (.getfield 15, 3) := by decide +kernel
theorem dX5_add_15 : decode cX5_add 15 = .ok (.aload_n 0, 1) := by decide +kernel
theorem dX5_add_16 : decode cX5_add 16 = .ok (.getfield 9, 3) := by decide +kernel
theorem dX5_add_19 : decode cX5_add 19 = .ok (.iload_n 1, 1) := by decide +kernel
theorem dX5_add_20 : decode cX5_add 20 = .ok (.iastore, 1) := by decide +kernel
theorem dX5_add_21 : decode cX5_add 21 = .ok (.aload_n 0, 1) := by decide +kernel
theorem dX5_add_22 : decode cX5_add 22 = .ok (.getfield 19, 3) := by decide +kernel
theorem dX5_add_25 : decode cX5_add 25 = .ok (.aload_n 0, 1) := by decide +kernel
theorem dX5_add_26 : decode cX5_add 26 = .ok (.getfield 9, 3) := by decide +kernel
theorem dX5_add_29 : decode cX5_add 29 = .ok (.iload_n 2, 1) := by decide +kernel
theorem dX5_add_30 : decode cX5_add 30 = .ok (.iastore, 1) := by decide +kernel
theorem dX5_add_31 : decode cX5_add 31 = .ok (.aload_n 0, 1) := by decide +kernel
theorem dX5_add_32 : decode cX5_add 32 = .ok (.dup, 1) := by decide +kernel
theorem dX5_add_33 : decode cX5_add 33 = .ok (.getfield 9, 3) := by decide +kernel
theorem dX5_add_36 : decode cX5_add 36 = .ok (.iconst 1, 1) := by decide +kernel
theorem dX5_add_37 : decode cX5_add 37 = .ok (.iadd, 1) := by decide +kernel
theorem dX5_add_38 : decode cX5_add 38 = .ok (.putfield 9, 3) := by decide +kernel
theorem dX5_add_41 : decode cX5_add 41 = .ok (.iconst 1, 1) := by decide +kernel
theorem dX5_add_42 : decode cX5_add 42 = .ok (.ireturn, 1) := by decide +kernel
set_option maxRecDepth 20000 in
theorem ggX5_countFitting_X5_fitsAll : GoodIn wsX5_countFitting wsX5_fitsAll := goodIn_r _ [8, 9, 10, 11, 12, 13, 14, 7, 15, 16, 17, 18, 19, 20, 1, 21, 22, 23, 24, 25, 26, 27, 28, 29, 30, 31, 32, 33, 34, 35, 36, 37, 38, 39, 40, 41, 42, 43, 44, 45, 46, 47, 48, 49, 50, 51, 52, 53, 54, 55, 56, 57, 58, 59, 60, 61, 62] (by decide +kernel) (by decide +kernel)
set_option maxRecDepth 20000 in
theorem gX5_countFitting_X5_fitsAll : GoodIn wsX5_countFitting (wsV RX5 41 RX5 yX5_fitsAll wsX5_fitsAll) := goodIn_app (goodIn_of _ (by decide +kernel)) ggX5_countFitting_X5_fitsAll
theorem dX5_countFitting_0 : decode cX5_countFitting 0 = .ok (.iconst 0, 1) := by decide +kernel
theorem dX5_countFitting_1 : decode cX5_countFitting 1 = .ok (.istore_n 1, 1) := by decide +kernel
theorem dX5_countFitting_2 : decode cX5_countFitting 2 = .ok (.iconst 0, 1) := by decide +kernel
theorem dX5_countFitting_3 : decode cX5_countFitting 3 = .ok (.istore_n 2, 1) := by decide +kernel
theorem dX5_countFitting_4 : decode cX5_countFitting 4 = .ok (.iload_n 2, 1) := by decide +kernel
theorem dX5_countFitting_5 : decode cX5_countFitting 5 = .ok (.aload_n 0, 1) := by decide +kernel
theorem dX5_countFitting_6 : decode cX5_countFitting 6 = .ok (.getfield 28, 3) := by decide +kernel
theorem dX5_countFitting_9 : decode cX5_countFitting 9 = .ok (.getfield 36, 3) := by decide +kernel
theorem dX5_countFitting_12 : decode cX5_countFitting 12 = .ok (.bipush 10, 2) := by decide +kernel
theorem dX5_countFitting_14 : decode cX5_countFitting 14 = .ok (.imul, 1) := by decide +kernel
theorem dX5_countFitting_15 : decode cX5_countFitting 15 = .ok (.if_icmp .ge 27, 3) := by decide +kernel
theorem dX5_countFitting_18 : decode cX5_countFitting 18 = .ok (.aload_n 0, 1) := by decide +kernel
theorem dX5_countFitting_19 : decode cX5_countFitting 19 = .ok (.iload_n 2, 1) := by decide +kernel
theorem dX5_countFitting_20 : decode cX5_countFitting 20 = .ok (.invokevirtual 41, 3) := by decide +kernel
theorem dX5_countFitting_23 : decode cX5_countFitting 23 = .ok (.ifCond .eq 13, 3) := by decide +kernel
theorem dX5_countFitting_26 : decode cX5_countFitting 26 = .ok (.aload_n 0, 1) := by decide +kernel
theorem dX5_countFitting_27 : decode cX5_countFitting 27 = .ok (.getfield 22, 3) := by decide +kernel
theorem dX5_countFitting_30 : decode cX5_countFitting 30 = .ok (.iload_n 1, 1) := by decide +kernel
theorem dX5_countFitting_31 : decode cX5_countFitting 31 = .ok (.iload_n 2, 1) := by decide +kernel
theorem dX5_countFitting_32 : decode cX5_countFitting 32 = .ok (.iastore, 1) := by decide +kernel
theorem dX5_countFitting_33 : decode cX5_countFitting 33 = .ok (.iinc 1 1, 3) := by decide +kernel
theorem dX5_countFitting_36 : decode cX5_countFitting 36 = .ok (.iinc 2 1, 3) := by decide +kernel
theorem dX5_countFitting_39 : decode cX5_countFitting 39 = .ok (.goto (-35), 3) := by decide +kernel
theorem dX5_countFitting_42 : decode cX5_countFitting 42 = .ok (.iload_n 1, 1) := by decide +kernel
theorem dX5_countFitting_43 : decode cX5_countFitting 43 = .ok (.ireturn, 1) := by decide +kernel
set_option maxRecDepth 20000 in
theorem ggX5_fitting_X5_countFitting : GoodIn wsX5_fitting wsX5_countFitting := goodIn_r _ [6, 7, 8, 1, 9, 10, 11, 5, 12, 13, 14, 15, 16, 17, 18, 19, 20, 21, 22, 23, 24, 25, 26, 27, 28, 29, 30, 31, 32, 33, 34, 35, 36, 37, 38, 39, 40, 41, 42, 43, 44, 45, 46, 47, 48, 49, 50, 51, 52, 53, 54, 55, 56, 57, 58, 59, 60, 61, 62, 63, 64, 65, 66] (by decide +kernel) (by decide +kernel)
set_option maxRecDepth 20000 in
theorem gX5_fitting_X5_countFitting : GoodIn wsX5_fitting (wsV RX5 45 RX5 yX5_countFitting wsX5_countFitting) := goodIn_app (goodIn_of _ (by decide +kernel)) ggX5_fitting_X5_countFitting
theorem dX5_fitting_0 : decode cX5_fitting 0 = .ok (.aload_n 0, 1) := by decide +kernel
theorem dX5_fitting_1 : decode cX5_fitting 1 = .ok (.invokevirtual 45, 3) := by decide +kernel
theorem dX5_fitting_4 : decode cX5_fitting 4 = .ok (.istore_n 2, 1) := by decide +kernel
theorem dX5_fitting_5 : decode cX5_fitting 5 = .ok (.iload_n 1, 1) := by decide +kernel
theorem dX5_fitting_6 : decode cX5_fitting 6 = .ok (.ifCond .lt 17, 3) := by decide +kernel
theorem dX5_fitting_9 : decode cX5_fitting 9 = .ok (.iload_n 1, 1) := by decide +kernel
theorem dX5_fitting_10 : decode cX5_fitting 10 = .ok (.iload_n 2, 1) := by decide +kernel
theorem dX5_fitting_11 : decode cX5_fitting 11 = .ok (.if_icmp .ge 12, 3) := by decide +kernel
theorem dX5_fitting_14 : decode cX5_fitting 14 = .ok (.aload_n 0, 1) := by decide +kernel
theorem dX5_fitting_15 : decode cX5_fitting 15 = .ok (.getfield 22, 3) := by decide +kernel
theorem dX5_fitting_18 : decode cX5_fitting 18 = .ok (.iload_n 1, 1) := by decide +kernel
theorem dX5_fitting_19 : decode cX5_fitting 19 = .ok (.iaload, 1) := by decide +kernel
theorem dX5_fitting_20 : decode cX5_fitting 20 = .ok (.goto 4, 3) := by decide +kernel
theorem dX5_fitting_23 : decode cX5_fitting 23 = .ok (.iconst (-1), 1) := by decide +kernel
theorem dX5_fitting_24 : decode cX5_fitting 24 = .ok (.ireturn, 1) := by decide +kernel
set_option maxRecDepth 20000 in
theorem ggX5_fitsAll_X5_ageByPole : GoodIn wsX5_fitsAll wsX5_ageByPole := goodIn_r _ [8, 9, 10, 11, 12, 13, 14, 15, 16, 17, 18, 19, 20, 21, 22, 23, 24, 25, 26, 27, 28, 29, 30, 31, 32, 33, 34, 35, 36, 37, 38, 39, 40, 41, 42, 43, 44, 45, 46, 47, 48, 49, 50, 51, 52, 53, 54, 55, 56] (by decide +kernel) (by decide +kernel)
set_option maxRecDepth 20000 in
theorem gX5_fitsAll_X5_ageByPole : GoodIn wsX5_fitsAll (wsV RX5 49 RX5 yX5_ageByPole wsX5_ageByPole) := goodIn_app (goodIn_of _ (by decide +kernel)) ggX5_fitsAll_X5_ageByPole
theorem dX5_fitsAll_0 : decode cX5_fitsAll 0 = .ok (.iconst 0, 1) := by decide +kernel
theorem dX5_fitsAll_1 : decode cX5_fitsAll 1 = .ok (.istore_n 2, 1) := by decide +kernel
theorem dX5_fitsAll_2 : decode cX5_fitsAll 2 = .ok (.iload_n 2, 1) := by decide +kernel
theorem dX5_fitsAll_3 : decode cX5_fitsAll 3 = .ok (.aload_n 0, 1) := by decide +kernel
theorem dX5_fitsAll_4 : decode cX5_fitsAll 4 = .ok (.getfield 9, 3) := by decide +kernel
