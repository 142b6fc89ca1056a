theorem dX10_isFall_11 : decode cX10_isFall 11 = .ok (.iload_n 3, 1) := by decide +kernel
theorem dX10_isFall_12 : decode cX10_isFall 12 = .ok (.aload_n 0, 1) := by decide +kernel
theorem dX10_isFall_13 : decode cX10_isFall 13 = .ok (.iload_n 2, 1) := by decide +kernel
theorem dX10_isFall_14 : decode cX10_isFall 14 = .ok (.invokevirtual 152, 3) := by decide +kernel
theorem dX10_isFall_17 : decode cX10_isFall 17 = .ok (.if_icmp .lt 7, 3) := by decide +kernel
theorem dX10_isFall_20 : decode cX10_isFall 20 = .ok (.iconst 1, 1) := by decide +kernel
theorem dX10_isFall_21 : decode cX10_isFall 21 = .ok (.goto 4, 3) := by decide +kernel
theorem dX10_isFall_24 : decode cX10_isFall 24 = .ok (.iconst 0, 1) := by decide +kernel
theorem dX10_isFall_25 : decode cX10_isFall 25 = .ok (.ireturn, 1) := by decide +kernel
theorem dX10_poleOf_0 : decode cX10_poleOf 0 = .ok (.aload_n 1, 1) := by decide +kernel
theorem dX10_poleOf_1 : decode cX10_poleOf 1 = .ok (.iconst 1, 1) := by decide +kernel
theorem dX10_poleOf_2 : decode cX10_poleOf 2 = .ok (.iconst 3, 1) := by decide +kernel
theorem dX10_poleOf_3 : decode cX10_poleOf 3 = .ok (.iload_n 2, 1) := by decide +kernel
theorem dX10_poleOf_4 : decode cX10_poleOf 4 = .ok (.imul, 1) := by decide +kernel
theorem dX10_poleOf_5 : decode cX10_poleOf 5 = .ok (.iadd, 1) := by decide +kernel
theorem dX10_poleOf_6 : decode cX10_poleOf 6 = .ok (.iaload, 1) := by decide +kernel
theorem dX10_poleOf_7 : decode cX10_poleOf 7 = .ok (.aload_n 1, 1) := by decide +kernel
theorem dX10_poleOf_8 : decode cX10_poleOf 8 = .ok (.iconst 1, 1) := by decide +kernel
theorem dX10_poleOf_9 : decode cX10_poleOf 9 = .ok (.iconst 3, 1) := by decide +kernel
theorem dX10_poleOf_10 : decode cX10_poleOf 10 = .ok (.iload_n 2, 1) := by decide +kernel
theorem dX10_poleOf_11 : decode cX10_poleOf 11 = .ok (.imul, 1) := by decide +kernel
theorem dX10_poleOf_12 : decode cX10_poleOf 12 = .ok (.iadd, 1) := by decide +kernel
theorem dX10_poleOf_13 : decode cX10_poleOf 13 = .ok (.iconst 1, 1) := by decide +kernel
theorem dX10_poleOf_14 : decode cX10_poleOf 14 = .ok (.iadd, 1) := by decide +kernel
theorem dX10_poleOf_15 : decode cX10_poleOf 15 = .ok (.iaload, 1) := by decide +kernel
theorem dX10_poleOf_16 : decode cX10_poleOf 16 = .ok (.isub, 1) := by decide +kernel
theorem dX10_poleOf_17 : decode cX10_poleOf 17 = .ok (.istore_n 3, 1) := by decide +kernel
theorem dX10_poleOf_18 : decode cX10_poleOf 18 = .ok (.iload_n 3, 1) := by decide +kernel
theorem dX10_poleOf_19 : decode cX10_poleOf 19 = .ok (.ifCond .ge 7, 3) := by decide +kernel
theorem dX10_poleOf_22 : decode cX10_poleOf 22 = .ok (.iconst 0, 1) := by decide +kernel
theorem dX10_poleOf_23 : decode cX10_poleOf 23 = .ok (.goto 4, 3) := by decide +kernel
theorem dX10_poleOf_26 : decode cX10_poleOf 26 = .ok (.iload_n 3, 1) := by decide +kernel
theorem dX10_poleOf_27 : decode cX10_poleOf 27 = .ok (.ireturn, 1) := by decide +kernel
theorem dX10_ageOf_0 : decode cX10_ageOf 0 = .ok (.aload_n 1, 1) := by decide +kernel
theorem dX10_ageOf_1 : decode cX10_ageOf 1 = .ok (.bipush 13, 2) := by decide +kernel
theorem dX10_ageOf_3 : decode cX10_ageOf 3 = .ok (.iconst 2, 1) := by decide +kernel
theorem dX10_ageOf_4 : decode cX10_ageOf 4 = .ok (.iload_n 2, 1) := by decide +kernel
theorem dX10_ageOf_5 : decode cX10_ageOf 5 = .ok (.imul, 1) := by decide +kernel
theorem dX10_ageOf_6 : decode cX10_ageOf 6 = .ok (.iadd, 1) := by decide +kernel
theorem dX10_ageOf_7 : decode cX10_ageOf 7 = .ok (.iconst 1, 1) := by decide +kernel
theorem dX10_ageOf_8 : decode cX10_ageOf 8 = .ok (.iadd, 1) := by decide +kernel
theorem dX10_ageOf_9 : decode cX10_ageOf 9 = .ok (.iaload, 1) := by decide +kernel
theorem dX10_ageOf_10 : decode cX10_ageOf 10 = .ok (.aload_n 0, 1) := by decide +kernel
theorem dX10_ageOf_11 : decode cX10_ageOf 11 = .ok (.getfield 23, 3) := by decide +kernel
theorem dX10_ageOf_14 : decode cX10_ageOf 14 = .ok (.iconst 5, 1) := by decide +kernel
theorem dX10_ageOf_15 : decode cX10_ageOf 15 = .ok (.aload_n 1, 1) := by decide +kernel
theorem dX10_ageOf_16 : decode cX10_ageOf 16 = .ok (.bipush 13, 2) := by decide +kernel
theorem dX10_ageOf_18 : decode cX10_ageOf 18 = .ok (.iconst 2, 1) := by decide +kernel
theorem dX10_ageOf_19 : decode cX10_ageOf 19 = .ok (.iload_n 2, 1) := by decide +kernel
theorem dX10_ageOf_20 : decode cX10_ageOf 20 = .ok (.imul, 1) := by decide +kernel
theorem dX10_ageOf_21 : decode cX10_ageOf 21 = .ok (.iadd, 1) := by decide +kernel
theorem dX10_ageOf_22 : decode cX10_ageOf 22 = .ok (.iaload, 1) := by decide +kernel
theorem dX10_ageOf_23 : decode cX10_ageOf 23 = .ok (.imul, 1) := by decide +kernel
theorem dX10_ageOf_24 : decode cX10_ageOf 24 = .ok (.iconst 4, 1) := by decide +kernel
theorem dX10_ageOf_25 : decode cX10_ageOf 25 = .ok (.iadd, 1) := by decide +kernel
theorem dX10_ageOf_26 : decode cX10_ageOf 26 = .ok (.iaload, 1) := by decide +kernel
theorem dX10_ageOf_27 : decode cX10_ageOf 27 = .ok (.idiv, 1) := by decide +kernel
theorem dX10_ageOf_28 : decode cX10_ageOf 28 = .ok (.ireturn, 1) := by decide +kernel
theorem dX10_sinceOf_0 : decode cX10_sinceOf 0 = .ok (.aload_n 1, 1) := by decide +kernel
theorem dX10_sinceOf_1 : decode cX10_sinceOf 1 = .ok (.bipush 25, 2) := by decide +kernel
theorem dX10_sinceOf_3 : decode cX10_sinceOf 3 = .ok (.iconst 2, 1) := by decide +kernel
theorem dX10_sinceOf_4 : decode cX10_sinceOf 4 = .ok (.iload_n 2, 1) := by decide +kernel
theorem dX10_sinceOf_5 : decode cX10_sinceOf 5 = .ok (.imul, 1) := by decide +kernel
theorem dX10_sinceOf_6 : decode cX10_sinceOf 6 = .ok (.iadd, 1) := by decide +kernel
theorem dX10_sinceOf_7 : decode cX10_sinceOf 7 = .ok (.iaload, 1) := by decide +kernel
theorem dX10_sinceOf_8 : decode cX10_sinceOf 8 = .ok (.ifCond .ne 7, 3) := by decide +kernel
theorem dX10_sinceOf_11 : decode cX10_sinceOf 11 = .ok (.iconst 0, 1) := by decide +kernel
theorem dX10_sinceOf_12 : decode cX10_sinceOf 12 = .ok (.goto 30, 3) := by decide +kernel
theorem dX10_sinceOf_15 : decode cX10_sinceOf 15 = .ok (.aload_n 1, 1) := by decide +kernel
theorem dX10_sinceOf_16 : decode cX10_sinceOf 16 = .ok (.iconst 1, 1) := by decide +kernel
theorem dX10_sinceOf_17 : decode cX10_sinceOf 17 = .ok (.iconst 3, 1) := by decide +kernel
theorem dX10_sinceOf_18 : decode cX10_sinceOf 18 = .ok (.aload_n 0, 1) := by decide +kernel
theorem dX10_sinceOf_19 : decode cX10_sinceOf 19 = .ok (.getfield 29, 3) := by decide +kernel
theorem dX10_sinceOf_22 : decode cX10_sinceOf 22 = .ok (.iconst 2, 1) := by decide +kernel
theorem dX10_sinceOf_23 : decode cX10_sinceOf 23 = .ok (.iload_n 2, 1) := by decide +kernel
theorem dX10_sinceOf_24 : decode cX10_sinceOf 24 = .ok (.imul, 1) := by decide +kernel
theorem dX10_sinceOf_25 : decode cX10_sinceOf 25 = .ok (.iaload, 1) := by decide +kernel
theorem dX10_sinceOf_26 : decode cX10_sinceOf 26 = .ok (.imul, 1) := by decide +kernel
theorem dX10_sinceOf_27 : decode cX10_sinceOf 27 = .ok (.iadd, 1) := by decide +kernel
theorem dX10_sinceOf_28 : decode cX10_sinceOf 28 = .ok (.iconst 2, 1) := by decide +kernel
theorem dX10_sinceOf_29 : decode cX10_sinceOf 29 = .ok (.iadd, 1) := by decide +kernel
theorem dX10_sinceOf_30 : decode cX10_sinceOf 30 = .ok (.iaload, 1) := by decide +kernel
theorem dX10_sinceOf_31 : decode cX10_sinceOf 31 = .ok (.aload_n 1, 1) := by decide +kernel
theorem dX10_sinceOf_32 : decode cX10_sinceOf 32 = .ok (.bipush 25, 2) := by decide +kernel
theorem dX10_sinceOf_34 : decode cX10_sinceOf 34 = .ok (.iconst 2, 1) := by decide +kernel
theorem dX10_sinceOf_35 : decode cX10_sinceOf 35 = .ok (.iload_n 2, 1) := by decide +kernel
theorem dX10_sinceOf_36 : decode cX10_sinceOf 36 = .ok (.imul, 1) := by decide +kernel
theorem dX10_sinceOf_37 : decode cX10_sinceOf 37 = .ok (.iadd, 1) := by decide +kernel
theorem dX10_sinceOf_38 : decode cX10_sinceOf 38 = .ok (.iconst 1, 1) := by decide +kernel
theorem dX10_sinceOf_39 : decode cX10_sinceOf 39 = .ok (.iadd, 1) := by decide +kernel
theorem dX10_sinceOf_40 : decode cX10_sinceOf 40 = .ok (.iaload, 1) := by decide +kernel
theorem dX10_sinceOf_41 : decode cX10_sinceOf 41 = .ok (.isub, 1) := by decide +kernel
theorem dX10_sinceOf_42 : decode cX10_sinceOf 42 = .ok (.ireturn, 1) := by decide +kernel
set_option maxRecDepth 20000 in
theorem ggX10_isDue_X10_sinceOf : GoodIn wsX10_isDue wsX10_sinceOf := goodIn_r _ [5, 6, 7, 8, 9, 10, 11, 12, 13, 14, 15, 16, 17, 18, 19, 20, 21, 22, 23, 24, 25, 26, 27, 28, 29, 30, 31, 32, 33, 34, 35, 36] (by decide +kernel) (by decide +kernel)
set_option maxRecDepth 20000 in
theorem gX10_isDue_X10_sinceOf : GoodIn wsX10_isDue (wsV RX10 156 RX10 yX10_sinceOf wsX10_sinceOf) := goodIn_app (goodIn_of _ (by decide +kernel)) ggX10_isDue_X10_sinceOf
theorem dX10_isDue_0 : decode cX10_isDue 0 = .ok (.aload_n 1, 1) := by decide +kernel
theorem dX10_isDue_1 : decode cX10_isDue 1 = .ok (.bipush 25, 2) := by decide +kernel
theorem dX10_isDue_3 : decode cX10_isDue 3 = .ok (.iconst 2, 1) := by decide +kernel
theorem dX10_isDue_4 : decode cX10_isDue 4 = .ok (.iload_n 2, 1) := by decide +kernel
theorem dX10_isDue_5 : decode cX10_isDue 5 = .ok (.imul, 1) := by decide +kernel
theorem dX10_isDue_6 : decode cX10_isDue 6 = .ok (.iadd, 1) := by decide +kernel
theorem dX10_isDue_7 : decode cX10_isDue 7 = .ok (.iaload, 1) := by decide +kernel
theorem dX10_isDue_8 : decode cX10_isDue 8 = .ok (.ifCond .le 24, 3) := by decide +kernel
theorem dX10_isDue_11 : decode cX10_isDue 11 = .ok (.aload_n 0, 1) := by decide +kernel
theorem dX10_isDue_12 : decode cX10_isDue 12 = .ok (.aload_n 1, 1) := by decide +kernel
theorem dX10_isDue_13 : decode cX10_isDue 13 = .ok (.iload_n 2, 1) := by decide +kernel
theorem dX10_isDue_14 : decode cX10_isDue 14 = .ok (.invokevirtual 156, 3) := by decide +kernel
theorem dX10_isDue_17 : decode cX10_isDue 17 = .ok (.aload_n 1, 1) := by decide +kernel
theorem dX10_isDue_18 : decode cX10_isDue 18 = .ok (.bipush 25, 2) := by decide +kernel
theorem dX10_isDue_20 : decode cX10_isDue 20 = .ok (.iconst 2, 1) := by decide +kernel
theorem dX10_isDue_21 : decode cX10_isDue 21 = .ok (.iload_n 2, 1) := by decide +kernel
theorem dX10_isDue_22 : decode cX10_isDue 22 = .ok (.imul, 1) := by decide +kernel
theorem dX10_isDue_23 : decode cX10_isDue 23 = .ok (.iadd, 1) := by decide +kernel
theorem dX10_isDue_24 : decode cX10_isDue 24 = .ok (.iaload, 1) := by decide +kernel
theorem dX10_isDue_25 : decode cX10_isDue 25 = .ok (.if_icmp .lt 7, 3) := by decide +kernel
theorem dX10_isDue_28 : decode cX10_isDue 28 = .ok (.iconst 1, 1) := by decide +kernel
theorem dX10_isDue_29 : decode cX10_isDue 29 = .ok (.goto 4, 3) := by decide +kernel
theorem dX10_isDue_32 : decode cX10_isDue 32 = .ok (.iconst 0, 1) := by decide +kernel
theorem dX10_isDue_33 : decode cX10_isDue 33 = .ok (.ireturn, 1) := by decide +kernel
set_option maxRecDepth 20000 in
theorem ggX10_dueIn_X10_isDue : GoodIn wsX10_dueIn wsX10_isDue := goodIn_r _ [6, 7, 8, 9, 5, 10, 11, 12, 13, 14, 15, 16, 17, 18, 19, 20, 21, 22, 23, 24, 25, 26, 27, 28, 29, 30, 31, 32, 33, 34, 35, 36, 37, 38, 39, 40, 41] (by decide +kernel) (by decide +kernel)
set_option maxRecDepth 20000 in
theorem gX10_dueIn_X10_isDue : GoodIn wsX10_dueIn (wsV RX10 160 RX10 yX10_isDue wsX10_isDue) := goodIn_app (goodIn_of _ (by decide +kernel)) ggX10_dueIn_X10_isDue
theorem dX10_dueIn_0 : decode cX10_dueIn 0 = .ok (.iconst 0, 1) := by decide +kernel
theorem dX10_dueIn_1 : decode cX10_dueIn 1 = .ok (.istore_n 2, 1) := by decide +kernel
theorem dX10_dueIn_2 : decode cX10_dueIn 2 = .ok (.iconst 0, 1) := by decide +kernel
theorem dX10_dueIn_3 : decode cX10_dueIn 3 = .ok (.istore_n 3, 1) := by decide +kernel
theorem dX10_dueIn_4 : decode cX10_dueIn 4 = .ok (.iload_n 3, 1) := by decide +kernel
theorem dX10_dueIn_5 : decode cX10_dueIn 5 = .ok (.aload_n 0, 1) := by decide +kernel
theorem dX10_dueIn_6 : decode cX10_dueIn 6 = .ok (.getfield 17, 3) := by decide +kernel
theorem dX10_dueIn_9 : decode cX10_dueIn 9 = .ok (.iconst 3, 1) := by decide +kernel
theorem dX10_dueIn_10 : decode cX10_dueIn 10 = .ok (.iaload, 1) := by decide +kernel
theorem dX10_dueIn_11 : decode cX10_dueIn 11 = .ok (.if_icmp .ge 28, 3) := by decide +kernel
theorem dX10_dueIn_14 : decode cX10_dueIn 14 = .ok (.iload_n 2, 1) := by decide +kernel
theorem dX10_dueIn_15 : decode cX10_dueIn 15 = .ok (.aload_n 0, 1) := by decide +kernel
theorem dX10_dueIn_16 : decode cX10_dueIn 16 = .ok (.aload_n 1, 1) := by decide +kernel
theorem dX10_dueIn_17 : decode cX10_dueIn 17 = .ok (.iload_n 3, 1) := by decide +kernel
theorem dX10_dueIn_18 : decode cX10_dueIn 18 = .ok (.invokevirtual 160, 3) := by decide +kernel
theorem dX10_dueIn_21 : decode cX10_dueIn 21 = .ok (.ifCond .eq 9, 3) := by decide +kernel
theorem dX10_dueIn_24 : decode cX10_dueIn 24 = .ok (.iconst 1, 1) := by decide +kernel
theorem dX10_dueIn_25 : decode cX10_dueIn 25 = .ok (.iload_n 3, 1) := by decide +kernel
theorem dX10_dueIn_26 : decode cX10_dueIn 26 = .ok (.ishl, 1) := by decide +kernel
theorem dX10_dueIn_27 : decode cX10_dueIn 27 = .ok (.goto 4, 3) := by decide +kernel
theorem dX10_dueIn_30 : decode cX10_dueIn 30 = .ok (.iconst 0, 1) := by decide +kernel
theorem dX10_dueIn_31 : decode cX10_dueIn 31 = .ok (.ior, 1) := by decide +kernel
theorem dX10_dueIn_32 : decode cX10_dueIn 32 = .ok (.istore_n 2, 1) := by decide +kernel
theorem dX10_dueIn_33 : decode cX10_dueIn 33 = .ok (.iinc 3 1, 3) := by decide +kernel
theorem dX10_dueIn_36 : decode cX10_dueIn 36 = .ok (.goto (-32), 3) := by decide +kernel
theorem dX10_dueIn_39 : decode cX10_dueIn 39 = .ok (.iload_n 2, 1) := by decide +kernel
theorem dX10_dueIn_40 : decode cX10_dueIn 40 = .ok (.ireturn, 1) := by decide +kernel
set_option maxRecDepth 20000 in
theorem ggX10_green_X10_isFall : GoodIn wsX10_green wsX10_isFall := goodIn_r _ [7, 8, 9, 10, 6, 11, 12, 13, 14, 15, 16, 17, 18, 19, 20, 21, 22, 23, 24, 25, 26, 27, 28, 29, 30, 31, 32, 33, 34, 35, 36, 37, 38, 39, 40, 41, 42, 43, 44, 45, 46] (by decide +kernel) (by decide +kernel)
set_option maxRecDepth 20000 in
theorem gX10_green_X10_isFall : GoodIn wsX10_green (wsV RX10 164 RX10 yX10_isFall wsX10_isFall) := goodIn_app (goodIn_of _ (by decide +kernel)) ggX10_green_X10_isFall
theorem dX10_green_0 : decode cX10_green 0 = .ok (.iconst 0, 1) := by decide +kernel
theorem dX10_green_1 : decode cX10_green 1 = .ok (.istore_n 1, 1) := by decide +kernel
theorem dX10_green_2 : decode cX10_green 2 = .ok (.iconst 0, 1) := by decide +kernel
theorem dX10_green_3 : decode cX10_green 3 = .ok (.istore_n 2, 1) := by decide +kernel
theorem dX10_green_4 : decode cX10_green 4 = .ok (.iload_n 2, 1) := by decide +kernel
theorem dX10_green_5 : decode cX10_green 5 = .ok (.aload_n 0, 1) := by decide +kernel
theorem dX10_green_6 : decode cX10_green 6 = .ok (.getfield 17, 3) := by decide +kernel
theorem dX10_green_9 : decode cX10_green 9 = .ok (.iconst 0, 1) := by decide +kernel
theorem dX10_green_10 : decode cX10_green 10 = .ok (.iaload, 1) := by decide +kernel
theorem dX10_green_11 : decode cX10_green 11 = .ok (.if_icmp .ge 70, 3) := by decide +kernel
theorem dX10_green_14 : decode cX10_green 14 = .ok (.iconst 1, 1) := by decide +kernel
theorem dX10_green_15 : decode cX10_green 15 = .ok (.istore_n 3, 1) := by decide +kernel
theorem dX10_green_16 : decode cX10_green 16 = .ok (.iconst 0, 1) := by decide +kernel
theorem dX10_green_17 : decode cX10_green 17 = .ok (.istore 4, 2) := by decide +kernel
theorem dX10_green_19 : decode cX10_green 19 = .ok (.iload 4, 2) := by decide +kernel
theorem dX10_green_21 : decode cX10_green 21 = .ok (.aload_n 0, 1) := by decide +kernel
theorem dX10_green_22 : decode cX10_green 22 = .ok (.getfield 17, 3) := by decide +kernel
theorem dX10_green_25 : decode cX10_green 25 = .ok (.iconst 1, 1) := by decide +kernel
theorem dX10_green_26 : decode cX10_green 26 = .ok (.iaload, 1) := by decide +kernel
theorem dX10_green_27 : decode cX10_green 27 = .ok (.if_icmp .ge 34, 3) := by decide +kernel
theorem dX10_green_30 : decode cX10_green 30 = .ok (.iload_n 3, 1) := by decide +kernel
theorem dX10_green_31 : decode cX10_green 31 = .ok (.ifCond .eq 22, 3) := by decide +kernel
theorem dX10_green_34 : decode cX10_green 34 = .ok (.aload_n 0, 1) := by decide +kernel
theorem dX10_green_35 : decode cX10_green 35 = .ok (.aload_n 0, 1) := by decide +kernel
theorem dX10_green_36 : decode cX10_green 36 = .ok (.getfield 20, 3) := by decide +kernel
theorem dX10_green_39 : decode cX10_green 39 = .ok (.iload_n 2, 1) := by decide +kernel
theorem dX10_green_40 : decode cX10_green 40 = .ok (.iaload, 1) := by decide +kernel
theorem dX10_green_41 : decode cX10_green 41 = .ok (.iload 4, 2) := by decide +kernel
theorem dX10_green_43 : decode cX10_green 43 = .ok (.invokevirtual 164, 3) := by decide +kernel
theorem dX10_green_46 : decode cX10_green 46 = .ok (.ifCond .ne 7, 3) := by decide +kernel
theorem dX10_green_49 : decode cX10_green 49 = .ok (.iconst 1, 1) := by decide +kernel
theorem dX10_green_50 : decode cX10_green 50 = .ok (.goto 4, 3) := by decide +kernel
theorem dX10_green_53 : decode cX10_green 53 = .ok (.iconst 0, 1) := by decide +kernel
theorem dX10_green_54 : decode cX10_green 54 = .ok (.istore_n 3, 1) := by decide +kernel
theorem dX10_green_55 : decode cX10_green 55 = .ok (.iinc 4 1, 3) := by decide +kernel
theorem dX10_green_58 : decode cX10_green 58 = .ok (.goto (-39), 3) := by decide +kernel
theorem dX10_green_61 : decode cX10_green 61 = .ok (.iload_n 1, 1) := by decide +kernel
theorem dX10_green_62 : decode cX10_green 62 = .ok (.iload_n 3, 1) := by decide +kernel
theorem dX10_green_63 : decode cX10_green 63 = .ok (.ifCond .eq 9, 3) := by decide +kernel
theorem dX10_green_66 : decode cX10_green 66 = .ok (.iconst 1, 1) := by decide +kernel
theorem dX10_green_67 : decode cX10_green 67 = .ok (.iload_n 2, 1) := by decide +kernel
theorem dX10_green_68 : decode cX10_green 68 = .ok (.ishl, 1) := by decide +kernel
theorem dX10_green_69 : decode cX10_green 69 = .ok (.goto 4, 3) := by decide +kernel
theorem dX10_green_72 : decode cX10_green 72 = .ok (.iconst 0, 1) := by decide +kernel
theorem dX10_green_73 : decode cX10_green 73 = .ok (.ior, 1) := by decide +kernel
theorem dX10_green_74 : decode cX10_green 74 = .ok (.istore_n 1, 1) := by decide +kernel
theorem dX10_green_75 : decode cX10_green 75 = .ok (.iinc 2 1, 3) := by decide +kernel
theorem dX10_green_78 : decode cX10_green 78 = .ok (.goto (-74), 3) := by decide +kernel
theorem dX10_green_81 : decode cX10_green 81 = .ok (.iload_n 1, 1) := by decide +kernel
theorem dX10_green_82 : decode cX10_green 82 = .ok (.ireturn, 1) := by decide +kernel
set_option maxRecDepth 20000 in
theorem ggX10_told_X10_dueIn : GoodIn wsX10_told wsX10_dueIn := goodIn_r _ [12, 1, 13, 14, 15, 11, 16, 17, 18, 19, 20, 21, 40, 41, 42, 43, 44, 45, 46, 47, 48, 49, 50, 51, 52, 53, 54, 55, 56, 57, 58, 59, 60, 61, 62, 63, 64, 65, 66, 67, 68, 69] (by decide +kernel) (by decide +kernel)
set_option maxRecDepth 20000 in
theorem gX10_told_X10_dueIn : GoodIn wsX10_told (wsV RX10 168 RX10 yX10_dueIn wsX10_dueIn) := goodIn_app (goodIn_of _ (by decide +kernel)) ggX10_told_X10_dueIn
set_option maxRecDepth 20000 in
theorem ggX10_told_X10_green : GoodIn wsX10_told wsX10_green := goodIn_r _ [25, 1, 26, 27, 28, 29, 11, 30, 31, 32, 33, 34, 35, 36, 37, 38, 39, 40, 41, 42, 43, 44, 45, 46, 47, 48, 49, 50, 51, 52, 53, 54, 55, 56, 57, 58, 59, 60, 61, 62, 63, 64, 65, 66, 67, 68, 69] (by decide +kernel) (by decide +kernel)
set_option maxRecDepth 20000 in
theorem gX10_told_X10_green : GoodIn wsX10_told (wsV RX10 172 RX10 yX10_green wsX10_green) := goodIn_app (goodIn_of _ (by decide +kernel)) ggX10_told_X10_green
theorem dX10_told_0 : decode cX10_told 0 = .ok (.iload_n 1, 1) := by decide +kernel
theorem dX10_told_1 : decode cX10_told 1 = .ok (.tableswitch 128 0 10 #[59, 66, 73, 80, 87, 92, 99, 108, 113, 118, 123], 59) := by decide +kernel
theorem dX10_told_60 : decode cX10_told 60 = .ok (.aload_n 0, 1) := by decide +kernel
theorem dX10_told_61 : decode cX10_told 61 = .ok (.getfield 17, 3) := by decide +kernel
theorem dX10_told_64 : decode cX10_told 64 = .ok (.iconst 0, 1) := by decide +kernel
theorem dX10_told_65 : decode cX10_told 65 = .ok (.iaload, 1) := by decide +kernel
theorem dX10_told_66 : decode cX10_told 66 = .ok (.ireturn, 1) := by decide +kernel
theorem dX10_told_67 : decode cX10_told 67 = .ok (.aload_n 0, 1) := by decide +kernel
theorem dX10_told_68 : decode cX10_told 68 = .ok (.getfield 17, 3) := by decide +kernel
theorem dX10_told_71 : decode cX10_told 71 = .ok (.iconst 1, 1) := by decide +kernel
theorem dX10_told_72 : decode cX10_told 72 = .ok (.iaload, 1) := by decide +kernel
theorem dX10_told_73 : decode cX10_told 73 = .ok (.ireturn, 1) := by decide +kernel
theorem dX10_told_74 : decode cX10_told 74 = .ok (.aload_n 0, 1) := by decide +kernel
theorem dX10_told_75 : decode cX10_told 75 = .ok (.getfield 17, 3) := by decide +kernel
theorem dX10_told_78 : decode cX10_told 78 = .ok (.iconst 2, 1) := by decide +kernel
theorem dX10_told_79 : decode cX10_told 79 = .ok (.iaload, 1) := by decide +kernel
theorem dX10_told_80 : decode cX10_told 80 = .ok (.ireturn, 1) := by decide +kernel
theorem dX10_told_81 : decode cX10_told 81 = .ok (.aload_n 0, 1) := by decide +kernel
theorem dX10_told_82 : decode cX10_told 82 = .ok (.getfield 17, 3) := by decide +kernel
theorem dX10_told_85 : decode cX10_told 85 = .ok (.iconst 3, 1) := by decide +kernel
theorem dX10_told_86 : decode cX10_told 86 = .ok (.iaload, 1) := by decide +kernel
theorem dX10_told_87 : decode cX10_told 87 = .ok (.ireturn, 1) := by decide +kernel
theorem dX10_told_88 : decode cX10_told 88 = .ok (.aload_n 0, 1) := by decide +kernel
theorem dX10_told_89 : decode cX10_told 89 = .ok (.getfield 86, 3) := by decide +kernel
theorem dX10_told_92 : decode cX10_told 92 = .ok (.ireturn, 1) := by decide +kernel
theorem dX10_told_93 : decode cX10_told 93 = .ok (.aload_n 0, 1) := by decide +kernel
theorem dX10_told_94 : decode cX10_told 94 = .ok (.getfield 47, 3) := by decide +kernel
theorem dX10_told_97 : decode cX10_told 97 = .ok (.iconst 0, 1) := by decide +kernel
theorem dX10_told_98 : decode cX10_told 98 = .ok (.iaload, 1) := by decide +kernel
theorem dX10_told_99 : decode cX10_told 99 = .ok (.ireturn, 1) := by decide +kernel
theorem dX10_told_100 : decode cX10_told 100 = .ok (.aload_n 0, 1) := by decide +kernel
theorem dX10_told_101 : decode cX10_told 101 = .ok (.aload_n 0, 1) := by decide +kernel
theorem dX10_told_102 : decode cX10_told 102 = .ok (.getfield 47, 3) := by decide +kernel
theorem dX10_told_105 : decode cX10_told 105 = .ok (.invokevirtual 168, 3) := by decide +kernel
theorem dX10_told_108 : decode cX10_told 108 = .ok (.ireturn, 1) := by decide +kernel
theorem dX10_told_109 : decode cX10_told 109 = .ok (.aload_n 0, 1) := by decide +kernel
theorem dX10_told_110 : decode cX10_told 110 = .ok (.invokevirtual 172, 3) := by decide +kernel
theorem dX10_told_113 : decode cX10_told 113 = .ok (.ireturn, 1) := by decide +kernel
theorem dX10_told_114 : decode cX10_told 114 = .ok (.aload_n 0, 1) := by decide +kernel
theorem dX10_told_115 : decode cX10_told 115 = .ok (.getfield 143, 3) := by decide +kernel
theorem dX10_told_118 : decode cX10_told 118 = .ok (.ireturn, 1) := by decide +kernel
theorem dX10_told_119 : decode cX10_told 119 = .ok (.aload_n 0, 1) := by decide +kernel
theorem dX10_told_120 : decode cX10_told 120 = .ok (.getfield 146, 3) := by decide +kernel
theorem dX10_told_123 : decode cX10_told 123 = .ok (.ireturn, 1) := by decide +kernel
theorem dX10_told_124 : decode cX10_told 124 = .ok (.aload_n 0, 1) := by decide +kernel
theorem dX10_told_125 : decode cX10_told 125 = .ok (.getfield 140, 3) := by decide +kernel
theorem dX10_told_128 : decode cX10_told 128 = .ok (.ireturn, 1) := by decide +kernel
theorem dX10_told_129 : decode cX10_told 129 = .ok (.ldc 85, 2) := by decide +kernel
theorem dX10_told_131 : decode cX10_told 131 = .ok (.ireturn, 1) := by decide +kernel
set_option maxRecDepth 20000 in
theorem ggX10_winter_X10_in : GoodIn wsX10_winter wsX10_in := goodIn_r _ [8] (by decide +kernel) (by decide +kernel)
set_option maxRecDepth 20000 in
theorem gX10_winter_X10_in : GoodIn wsX10_winter (va_wsS RX10 81 yX10_in wsX10_in) := goodIn_app (goodIn_of _ (by decide +kernel)) ggX10_winter_X10_in
set_option maxRecDepth 20000 in
theorem ggX10_winter_X10_isValley : GoodIn wsX10_winter wsX10_isValley := goodIn_r _ [12, 3, 13, 14, 15, 16, 17, 18, 19, 20, 21, 22, 23, 24, 25, 26, 27, 28, 29, 30, 31, 32, 33, 34, 35, 36, 37, 38, 39, 40, 41, 42] (by decide +kernel) (by decide +kernel)
set_option maxRecDepth 20000 in
theorem gX10_winter_X10_isValley : GoodIn wsX10_winter (wsV RX10 175 RX10 yX10_isValley wsX10_isValley) := goodIn_app (goodIn_of _ (by decide +kernel)) ggX10_winter_X10_isValley
theorem dX10_winter_0 : decode cX10_winter 0 = .ok (.iload_n 1, 1) := by decide +kernel
theorem dX10_winter_1 : decode cX10_winter 1 = .ok (.iconst 0, 1) := by decide +kernel
theorem dX10_winter_2 : decode cX10_winter 2 = .ok (.sipush 9999, 3) := by decide +kernel
theorem dX10_winter_5 : decode cX10_winter 5 = .ok (.invokestatic 81, 3) := by decide +kernel
theorem dX10_winter_8 : decode cX10_winter 8 = .ok (.ifCond .ne 8, 3) := by decide +kernel
theorem dX10_winter_11 : decode cX10_winter 11 = .ok (.ldc 85, 2) := by decide +kernel
theorem dX10_winter_13 : decode cX10_winter 13 = .ok (.goto 28, 3) := by decide +kernel
theorem dX10_winter_16 : decode cX10_winter 16 = .ok (.aload_n 0, 1) := by decide +kernel
theorem dX10_winter_17 : decode cX10_winter 17 = .ok (.invokevirtual 175, 3) := by decide +kernel
theorem dX10_winter_20 : decode cX10_winter 20 = .ok (.ifCond .eq 19, 3) := by decide +kernel
theorem dX10_winter_23 : decode cX10_winter 23 = .ok (.aload_n 0, 1) := by decide +kernel
theorem dX10_winter_24 : decode cX10_winter 24 = .ok (.getfield 20, 3) := by decide +kernel
theorem dX10_winter_27 : decode cX10_winter 27 = .ok (.iload_n 1, 1) := by decide +kernel
theorem dX10_winter_28 : decode cX10_winter 28 = .ok (.aload_n 0, 1) := by decide +kernel
theorem dX10_winter_29 : decode cX10_winter 29 = .ok (.getfield 17, 3) := by decide +kernel
theorem dX10_winter_32 : decode cX10_winter 32 = .ok (.iconst 0, 1) := by decide +kernel
theorem dX10_winter_33 : decode cX10_winter 33 = .ok (.iaload, 1) := by decide +kernel
theorem dX10_winter_34 : decode cX10_winter 34 = .ok (.irem, 1) := by decide +kernel
theorem dX10_winter_35 : decode cX10_winter 35 = .ok (.iaload, 1) := by decide +kernel
theorem dX10_winter_36 : decode cX10_winter 36 = .ok (.goto 5, 3) := by decide +kernel
theorem dX10_winter_39 : decode cX10_winter 39 = .ok (.ldc 179, 2) := by decide +kernel
theorem dX10_winter_41 : decode cX10_winter 41 = .ok (.ireturn, 1) := by decide +kernel
set_option maxRecDepth 20000 in
theorem ggX10_village_X10_isVillage : GoodIn wsX10_village wsX10_isVillage := goodIn_r _ [9, 10, 11, 12, 8, 13, 22, 23, 24, 25, 26, 27, 28, 29, 30, 31, 32, 33, 34, 35, 36, 37, 38, 39, 40, 41, 42, 43, 44, 45, 46, 47, 48, 49, 50, 51] (by decide +kernel) (by decide +kernel)
set_option maxRecDepth 20000 in
theorem gX10_village_X10_isVillage : GoodIn wsX10_village (wsV RX10 180 RX10 yX10_isVillage wsX10_isVillage) := goodIn_app (goodIn_of _ (by decide +kernel)) ggX10_village_X10_isVillage
set_option maxRecDepth 20000 in
theorem ggX10_village_X10_poleOf : GoodIn wsX10_village wsX10_poleOf := goodIn_r _ [17] (by decide +kernel) (by decide +kernel)
set_option maxRecDepth 20000 in
theorem gX10_village_X10_poleOf : GoodIn wsX10_village (wsV RX10 185 RX10 yX10_poleOf wsX10_poleOf) := goodIn_app (goodIn_of _ (by decide +kernel)) ggX10_village_X10_poleOf
set_option maxRecDepth 20000 in
theorem ggX10_village_X10_middle : GoodIn wsX10_village wsX10_middle := goodIn_r _ [21, 2, 22, 23, 24, 25, 26, 27, 28, 29, 30, 31, 32, 33, 34, 35, 36, 37, 38, 39, 40, 41, 42, 43, 44, 45, 46, 47, 48, 49, 50, 51] (by decide +kernel) (by decide +kernel)
set_option maxRecDepth 20000 in
theorem gX10_village_X10_middle : GoodIn wsX10_village (wsV RX10 152 RX10 yX10_middle wsX10_middle) := goodIn_app (goodIn_of _ (by decide +kernel)) ggX10_village_X10_middle
theorem dX10_village_0 : decode cX10_village 0 = .ok (.aload_n 0, 1) := by decide +kernel
theorem dX10_village_1 : decode cX10_village 1 = .ok (.iload_n 1, 1) := by decide +kernel
theorem dX10_village_2 : decode cX10_village 2 = .ok (.invokevirtual 180, 3) := by decide +kernel
theorem dX10_village_5 : decode cX10_village 5 = .ok (.ifCond .ne 6, 3) := by decide +kernel
theorem dX10_village_8 : decode cX10_village 8 = .ok (.ldc 184, 2) := by decide +kernel
theorem dX10_village_10 : decode cX10_village 10 = .ok (.ireturn, 1) := by decide +kernel
theorem dX10_village_11 : decode cX10_village 11 = .ok (.iconst 1, 1) := by decide +kernel
theorem dX10_village_12 : decode cX10_village 12 = .ok (.iconst 3, 1) := by decide +kernel
theorem dX10_village_13 : decode cX10_village 13 = .ok (.iload_n 1, 1) := by decide +kernel
theorem dX10_village_14 : decode cX10_village 14 = .ok (.imul, 1) := by decide +kernel
theorem dX10_village_15 : decode cX10_village 15 = .ok (.iadd, 1) := by decide +kernel
theorem dX10_village_16 : decode cX10_village 16 = .ok (.istore_n 3, 1) := by decide +kernel
theorem dX10_village_17 : decode cX10_village 17 = .ok (.iload_n 2, 1) := by decide +kernel
theorem dX10_village_18 : decode cX10_village 18 = .ok (.tableswitch 125 0 6 #[42, 51, 62, 69, 79, 88, 97], 42) := by decide +kernel
theorem dX10_village_60 : decode cX10_village 60 = .ok (.aload_n 0, 1) := by decide +kernel
theorem dX10_village_61 : decode cX10_village 61 = .ok (.getfield 23, 3) := by decide +kernel
theorem dX10_village_64 : decode cX10_village 64 = .ok (.iconst 5, 1) := by decide +kernel
theorem dX10_village_65 : decode cX10_village 65 = .ok (.iload_n 1, 1) := by decide +kernel
theorem dX10_village_66 : decode cX10_village 66 = .ok (.imul, 1) := by decide +kernel
theorem dX10_village_67 : decode cX10_village 67 = .ok (.iaload, 1) := by decide +kernel
theorem dX10_village_68 : decode cX10_village 68 = .ok (.ireturn, 1) := by decide +kernel
theorem dX10_village_69 : decode cX10_village 69 = .ok (.aload_n 0, 1) := by decide +kernel
theorem dX10_village_70 : decode cX10_village 70 = .ok (.getfield 23, 3) := by decide +kernel
theorem dX10_village_73 : decode cX10_village 73 = .ok (.iconst 5, 1) := by decide +kernel
theorem dX10_village_74 : decode cX10_village 74 = .ok (.iload_n 1, 1) := by decide +kernel
theorem dX10_village_75 : decode cX10_village 75 = .ok (.imul, 1) := by decide +kernel
theorem dX10_village_76 : decode cX10_village 76 = .ok (.iconst 4, 1) := by decide +kernel
theorem dX10_village_77 : decode cX10_village 77 = .ok (.iadd, 1) := by decide +kernel
theorem dX10_village_78 : decode cX10_village 78 = .ok (.iaload, 1) := by decide +kernel
theorem dX10_village_79 : decode cX10_village 79 = .ok (.ireturn, 1) := by decide +kernel
theorem dX10_village_80 : decode cX10_village 80 = .ok (.aload_n 0, 1) := by decide +kernel
theorem dX10_village_81 : decode cX10_village 81 = .ok (.getfield 47, 3) := by decide +kernel
theorem dX10_village_84 : decode cX10_village 84 = .ok (.iload_n 3, 1) := by decide +kernel
theorem dX10_village_85 : decode cX10_village 85 = .ok (.iaload, 1) := by decide +kernel
theorem dX10_village_86 : decode cX10_village 86 = .ok (.ireturn, 1) := by decide +kernel
theorem dX10_village_87 : decode cX10_village 87 = .ok (.aload_n 0, 1) := by decide +kernel
theorem dX10_village_88 : decode cX10_village 88 = .ok (.aload_n 0, 1) := by decide +kernel
theorem dX10_village_89 : decode cX10_village 89 = .ok (.getfield 47, 3) := by decide +kernel
theorem dX10_village_92 : decode cX10_village 92 = .ok (.iload_n 1, 1) := by decide +kernel
theorem dX10_village_93 : decode cX10_village 93 = .ok (.invokevirtual 185, 3) := by decide +kernel
theorem dX10_village_96 : decode cX10_village 96 = .ok (.ireturn, 1) := by decide +kernel
theorem dX10_village_97 : decode cX10_village 97 = .ok (.aload_n 0, 1) := by decide +kernel
theorem dX10_village_98 : decode cX10_village 98 = .ok (.getfield 47, 3) := by decide +kernel
theorem dX10_village_101 : decode cX10_village 101 = .ok (.iload_n 3, 1) := by decide +kernel
theorem dX10_village_102 : decode cX10_village 102 = .ok (.iconst 2, 1) := by decide +kernel
theorem dX10_village_103 : decode cX10_village 103 = .ok (.iadd, 1) := by decide +kernel
theorem dX10_village_104 : decode cX10_village 104 = .ok (.iaload, 1) := by decide +kernel
theorem dX10_village_105 : decode cX10_village 105 = .ok (.ireturn, 1) := by decide +kernel
theorem dX10_village_106 : decode cX10_village 106 = .ok (.aload_n 0, 1) := by decide +kernel
theorem dX10_village_107 : decode cX10_village 107 = .ok (.getfield 47, 3) := by decide +kernel
theorem dX10_village_110 : decode cX10_village 110 = .ok (.iload_n 3, 1) := by decide +kernel
theorem dX10_village_111 : decode cX10_village 111 = .ok (.iconst 1, 1) := by decide +kernel
theorem dX10_village_112 : decode cX10_village 112 = .ok (.iadd, 1) := by decide +kernel
theorem dX10_village_113 : decode cX10_village 113 = .ok (.iaload, 1) := by decide +kernel
theorem dX10_village_114 : decode cX10_village 114 = .ok (.ireturn, 1) := by decide +kernel
theorem dX10_village_115 : decode cX10_village 115 = .ok (.aload_n 0, 1) := by decide +kernel
theorem dX10_village_116 : decode cX10_village 116 = .ok (.getfield 23, 3) := by decide +kernel
theorem dX10_village_119 : decode cX10_village 119 = .ok (.iconst 5, 1) := by decide +kernel
theorem dX10_village_120 : decode cX10_village 120 = .ok (.iload_n 1, 1) := by decide +kernel
theorem dX10_village_121 : decode cX10_village 121 = .ok (.imul, 1) := by decide +kernel
theorem dX10_village_122 : decode cX10_village 122 = .ok (.iaload, 1) := by decide +kernel
theorem dX10_village_123 : decode cX10_village 123 = .ok (.aload_n 0, 1) := by decide +kernel
theorem dX10_village_124 : decode cX10_village 124 = .ok (.iload_n 1, 1) := by decide +kernel
theorem dX10_village_125 : decode cX10_village 125 = .ok (.invokevirtual 152, 3) := by decide +kernel
theorem dX10_village_128 : decode cX10_village 128 = .ok (.iconst 1, 1) := by decide +kernel
theorem dX10_village_129 : decode cX10_village 129 = .ok (.if_icmp .ge 7, 3) := by decide +kernel
theorem dX10_village_132 : decode cX10_village 132 = .ok (.iconst 1, 1) := by decide +kernel
theorem dX10_village_133 : decode cX10_village 133 = .ok (.goto 8, 3) := by decide +kernel
theorem dX10_village_136 : decode cX10_village 136 = .ok (.aload_n 0, 1) := by decide +kernel
theorem dX10_village_137 : decode cX10_village 137 = .ok (.iload_n 1, 1) := by decide +kernel
theorem dX10_village_138 : decode cX10_village 138 = .ok (.invokevirtual 152, 3) := by decide +kernel
theorem dX10_village_141 : decode cX10_village 141 = .ok (.iadd, 1) := by decide +kernel
theorem dX10_village_142 : decode cX10_village 142 = .ok (.ireturn, 1) := by decide +kernel
theorem dX10_village_143 : decode cX10_village 143 = .ok (.ldc 85, 2) := by decide +kernel
theorem dX10_village_145 : decode cX10_village 145 = .ok (.ireturn, 1) := by decide +kernel
set_option maxRecDepth 20000 in
theorem ggX10_person_X10_isPerson : GoodIn wsX10_person wsX10_isPerson := goodIn_r _ [8, 9, 10, 11, 7, 12, 18, 19, 20, 21, 22, 23, 24, 25, 26, 27, 28, 29, 30, 31, 32, 33, 34, 35, 36, 37, 38, 39, 40, 41, 42, 43, 44, 45, 46, 47] (by decide +kernel) (by decide +kernel)
set_option maxRecDepth 20000 in
theorem gX10_person_X10_isPerson : GoodIn wsX10_person (wsV RX10 188 RX10 yX10_isPerson wsX10_isPerson) := goodIn_app (goodIn_of _ (by decide +kernel)) ggX10_person_X10_isPerson
set_option maxRecDepth 20000 in
theorem ggX10_person_X10_in : GoodIn wsX10_person wsX10_in := goodIn_r _ [12] (by decide +kernel) (by decide +kernel)
set_option maxRecDepth 20000 in
theorem gX10_person_X10_in : GoodIn wsX10_person (va_wsS RX10 81 yX10_in wsX10_in) := goodIn_app (goodIn_of _ (by decide +kernel)) ggX10_person_X10_in
set_option maxRecDepth 20000 in
theorem ggX10_person_X10_ageOf : GoodIn wsX10_person wsX10_ageOf := goodIn_r _ [16, 17, 18, 19, 20, 21, 22, 23, 24, 25, 26, 27, 28, 29, 30, 31, 32, 33, 34, 35, 36, 37, 38, 39, 40, 41, 42, 43, 44, 45, 46, 47] (by decide +kernel) (by decide +kernel)
set_option maxRecDepth 20000 in
theorem gX10_person_X10_ageOf : GoodIn wsX10_person (wsV RX10 191 RX10 yX10_ageOf wsX10_ageOf) := goodIn_app (goodIn_of _ (by decide +kernel)) ggX10_person_X10_ageOf
theorem dX10_person_0 : decode cX10_person 0 = .ok (.aload_n 0, 1) := by decide +kernel
theorem dX10_person_1 : decode cX10_person 1 = .ok (.iload_n 1, 1) := by decide +kernel
theorem dX10_person_2 : decode cX10_person 2 = .ok (.invokevirtual 188, 3) := by decide +kernel
theorem dX10_person_5 : decode cX10_person 5 = .ok (.ifCond .ne 6, 3) := by decide +kernel
theorem dX10_person_8 : decode cX10_person 8 = .ok (.ldc 184, 2) := by decide +kernel
theorem dX10_person_10 : decode cX10_person 10 = .ok (.ireturn, 1) := by decide +kernel
theorem dX10_person_11 : decode cX10_person 11 = .ok (.iload_n 2, 1) := by decide +kernel
theorem dX10_person_12 : decode cX10_person 12 = .ok (.iconst 0, 1) := by decide +kernel
theorem dX10_person_13 : decode cX10_person 13 = .ok (.iconst 2, 1) := by decide +kernel
theorem dX10_person_14 : decode cX10_person 14 = .ok (.invokestatic 81, 3) := by decide +kernel
theorem dX10_person_17 : decode cX10_person 17 = .ok (.ifCond .ne 8, 3) := by decide +kernel
theorem dX10_person_20 : decode cX10_person 20 = .ok (.ldc 85, 2) := by decide +kernel
theorem dX10_person_22 : decode cX10_person 22 = .ok (.goto 33, 3) := by decide +kernel
theorem dX10_person_25 : decode cX10_person 25 = .ok (.iload_n 2, 1) := by decide +kernel
theorem dX10_person_26 : decode cX10_person 26 = .ok (.iconst 2, 1) := by decide +kernel
theorem dX10_person_27 : decode cX10_person 27 = .ok (.if_icmp .ne 15, 3) := by decide +kernel
theorem dX10_person_30 : decode cX10_person 30 = .ok (.aload_n 0, 1) := by decide +kernel
theorem dX10_person_31 : decode cX10_person 31 = .ok (.aload_n 0, 1) := by decide +kernel
theorem dX10_person_32 : decode cX10_person 32 = .ok (.getfield 47, 3) := by decide +kernel
theorem dX10_person_35 : decode cX10_person 35 = .ok (.iload_n 1, 1) := by decide +kernel
theorem dX10_person_36 : decode cX10_person 36 = .ok (.invokevirtual 191, 3) := by decide +kernel
theorem dX10_person_39 : decode cX10_person 39 = .ok (.goto 16, 3) := by decide +kernel
theorem dX10_person_42 : decode cX10_person 42 = .ok (.aload_n 0, 1) := by decide +kernel
theorem dX10_person_43 : decode cX10_person 43 = .ok (.getfield 47, 3) := by decide +kernel
theorem dX10_person_46 : decode cX10_person 46 = .ok (.bipush 13, 2) := by decide +kernel
theorem dX10_person_48 : decode cX10_person 48 = .ok (.iconst 2, 1) := by decide +kernel
theorem dX10_person_49 : decode cX10_person 49 = .ok (.iload_n 1, 1) := by decide +kernel
theorem dX10_person_50 : decode cX10_person 50 = .ok (.imul, 1) := by decide +kernel
theorem dX10_person_51 : decode cX10_person 51 = .ok (.iadd, 1) := by decide +kernel
theorem dX10_person_52 : decode cX10_person 52 = .ok (.iload_n 2, 1) := by decide +kernel
theorem dX10_person_53 : decode cX10_person 53 = .ok (.iadd, 1) := by decide +kernel
theorem dX10_person_54 : decode cX10_person 54 = .ok (.iaload, 1) := by decide +kernel
theorem dX10_person_55 : decode cX10_person 55 = .ok (.ireturn, 1) := by decide +kernel
set_option maxRecDepth 20000 in
theorem ggX10_debt_X10_isDebt : GoodIn wsX10_debt wsX10_isDebt := goodIn_r _ [9, 10, 11, 12, 8, 13, 22, 23, 24, 25, 26, 27, 28, 29, 30, 31, 32, 33, 34, 35, 36, 37, 38, 39, 40, 41, 42, 43, 44, 45, 46, 47, 48, 49, 50, 51] (by decide +kernel) (by decide +kernel)
set_option maxRecDepth 20000 in
theorem gX10_debt_X10_isDebt : GoodIn wsX10_debt (wsV RX10 194 RX10 yX10_isDebt wsX10_isDebt) := goodIn_app (goodIn_of _ (by decide +kernel)) ggX10_debt_X10_isDebt
set_option maxRecDepth 20000 in
theorem ggX10_debt_X10_sinceOf : GoodIn wsX10_debt wsX10_sinceOf := goodIn_r _ [17, 2, 22, 23, 24, 25, 26, 27, 28, 29, 30, 31, 32, 33, 34, 35, 36, 37, 38, 39, 40, 41, 42, 43, 44, 45, 46, 47, 48, 49, 50, 51] (by decide +kernel) (by decide +kernel)
set_option maxRecDepth 20000 in
theorem gX10_debt_X10_sinceOf : GoodIn wsX10_debt (wsV RX10 156 RX10 yX10_sinceOf wsX10_sinceOf) := goodIn_app (goodIn_of _ (by decide +kernel)) ggX10_debt_X10_sinceOf
set_option maxRecDepth 20000 in
theorem ggX10_debt_X10_isDue : GoodIn wsX10_debt wsX10_isDue := goodIn_r _ [21, 14, 15, 16, 8, 17, 2, 22, 23, 24, 25, 26, 27, 28, 29, 30, 31, 32, 33, 34, 35, 36, 37, 38, 39, 40, 41, 42, 43, 44, 45, 46, 47, 48, 49, 50, 51] (by decide +kernel) (by decide +kernel)
set_option maxRecDepth 20000 in
theorem gX10_debt_X10_isDue : GoodIn wsX10_debt (wsV RX10 160 RX10 yX10_isDue wsX10_isDue) := goodIn_app (goodIn_of _ (by decide +kernel)) ggX10_debt_X10_isDue
theorem dX10_debt_0 : decode cX10_debt 0 = .ok (.aload_n 0, 1) := by decide +kernel
theorem dX10_debt_1 : decode cX10_debt 1 = .ok (.iload_n 1, 1) := by decide +kernel
theorem dX10_debt_2 : decode cX10_debt 2 = .ok (.invokevirtual 194, 3) := by decide +kernel
theorem dX10_debt_5 : decode cX10_debt 5 = .ok (.ifCond .ne 6, 3) := by decide +kernel
theorem dX10_debt_8 : decode cX10_debt 8 = .ok (.ldc 184, 2) := by decide +kernel
theorem dX10_debt_10 : decode cX10_debt 10 = .ok (.ireturn, 1) := by decide +kernel
theorem dX10_debt_11 : decode cX10_debt 11 = .ok (.iload_n 2, 1) := by decide +kernel
theorem dX10_debt_12 : decode cX10_debt 12 = .ok (.tableswitch 81 0 3 #[32, 41, 53, 63], 32) := by decide +kernel
theorem dX10_debt_44 : decode cX10_debt 44 = .ok (.aload_n 0, 1) := by decide +kernel
theorem dX10_debt_45 : decode cX10_debt 45 = .ok (.getfield 29, 3) := by decide +kernel
theorem dX10_debt_48 : decode cX10_debt 48 = .ok (.iconst 2, 1) := by decide +kernel
theorem dX10_debt_49 : decode cX10_debt 49 = .ok (.iload_n 1, 1) := by decide +kernel
theorem dX10_debt_50 : decode cX10_debt 50 = .ok (.imul, 1) := by decide +kernel
theorem dX10_debt_51 : decode cX10_debt 51 = .ok (.iaload, 1) := by decide +kernel
theorem dX10_debt_52 : decode cX10_debt 52 = .ok (.ireturn, 1) := by decide +kernel
theorem dX10_debt_53 : decode cX10_debt 53 = .ok (.aload_n 0, 1) := by decide +kernel
theorem dX10_debt_54 : decode cX10_debt 54 = .ok (.getfield 47, 3) := by decide +kernel
theorem dX10_debt_57 : decode cX10_debt 57 = .ok (.bipush 25, 2) := by decide +kernel
theorem dX10_debt_59 : decode cX10_debt 59 = .ok (.iconst 2, 1) := by decide +kernel
theorem dX10_debt_60 : decode cX10_debt 60 = .ok (.iload_n 1, 1) := by decide +kernel
theorem dX10_debt_61 : decode cX10_debt 61 = .ok (.imul, 1) := by decide +kernel
theorem dX10_debt_62 : decode cX10_debt 62 = .ok (.iadd, 1) := by decide +kernel
theorem dX10_debt_63 : decode cX10_debt 63 = .ok (.iaload, 1) := by decide +kernel
theorem dX10_debt_64 : decode cX10_debt 64 = .ok (.ireturn, 1) := by decide +kernel
theorem dX10_debt_65 : decode cX10_debt 65 = .ok (.aload_n 0, 1) := by decide +kernel
theorem dX10_debt_66 : decode cX10_debt 66 = .ok (.aload_n 0, 1) := by decide +kernel
theorem dX10_debt_67 : decode cX10_debt 67 = .ok (.getfield 47, 3) := by decide +kernel
theorem dX10_debt_70 : decode cX10_debt 70 = .ok (.iload_n 1, 1) := by decide +kernel
theorem dX10_debt_71 : decode cX10_debt 71 = .ok (.invokevirtual 156, 3) := by decide +kernel
theorem dX10_debt_74 : decode cX10_debt 74 = .ok (.ireturn, 1) := by decide +kernel
theorem dX10_debt_75 : decode cX10_debt 75 = .ok (.aload_n 0, 1) := by decide +kernel
theorem dX10_debt_76 : decode cX10_debt 76 = .ok (.aload_n 0, 1) := by decide +kernel
theorem dX10_debt_77 : decode cX10_debt 77 = .ok (.getfield 47, 3) := by decide +kernel
theorem dX10_debt_80 : decode cX10_debt 80 = .ok (.iload_n 1, 1) := by decide +kernel
theorem dX10_debt_81 : decode cX10_debt 81 = .ok (.invokevirtual 160, 3) := by decide +kernel
theorem dX10_debt_84 : decode cX10_debt 84 = .ok (.ifCond .eq 7, 3) := by decide +kernel
theorem dX10_debt_87 : decode cX10_debt 87 = .ok (.iconst 1, 1) := by decide +kernel
theorem dX10_debt_88 : decode cX10_debt 88 = .ok (.goto 4, 3) := by decide +kernel
theorem dX10_debt_91 : decode cX10_debt 91 = .ok (.iconst 0, 1) := by decide +kernel
theorem dX10_debt_92 : decode cX10_debt 92 = .ok (.ireturn, 1) := by decide +kernel
theorem dX10_debt_93 : decode cX10_debt 93 = .ok (.ldc 85, 2) := by decide +kernel
theorem dX10_debt_95 : decode cX10_debt 95 = .ok (.ireturn, 1) := by decide +kernel
set_option maxRecDepth 20000 in
theorem ggX10_notes_X10_copies : GoodIn wsX10_notes wsX10_copies := goodIn_r _ [7] (by decide +kernel) (by decide +kernel)
set_option maxRecDepth 20000 in
theorem gX10_notes_X10_copies : GoodIn wsX10_notes (va_wsS RX10 136 yX10_copies wsX10_copies) := goodIn_app (goodIn_of _ (by decide +kernel)) ggX10_notes_X10_copies
theorem dX10_notes_0 : decode cX10_notes 0 = .ok (.aload_n 0, 1) := by decide +kernel
theorem dX10_notes_1 : decode cX10_notes 1 = .ok (.getfield 140, 3) := by decide +kernel
theorem dX10_notes_4 : decode cX10_notes 4 = .ok (.bipush 20, 2) := by decide +kernel
theorem dX10_notes_6 : decode cX10_notes 6 = .ok (.if_icmp .ne 43, 3) := by decide +kernel
theorem dX10_notes_9 : decode cX10_notes 9 = .ok (.iconst 0, 1) := by decide +kernel
theorem dX10_notes_10 : decode cX10_notes 10 = .ok (.istore_n 1, 1) := by decide +kernel
theorem dX10_notes_11 : decode cX10_notes 11 = .ok (.iload_n 1, 1) := by decide +kernel
theorem dX10_notes_12 : decode cX10_notes 12 = .ok (.sipush 665, 3) := by decide +kernel
theorem dX10_notes_15 : decode cX10_notes 15 = .ok (.if_icmp .ge 24, 3) := by decide +kernel
theorem dX10_notes_18 : decode cX10_notes 18 = .ok (.aload_n 0, 1) := by decide +kernel
theorem dX10_notes_19 : decode cX10_notes 19 = .ok (.getfield 53, 3) := by decide +kernel
theorem dX10_notes_22 : decode cX10_notes 22 = .ok (.iload_n 1, 1) := by decide +kernel
theorem dX10_notes_23 : decode cX10_notes 23 = .ok (.aload_n 0, 1) := by decide +kernel
theorem dX10_notes_24 : decode cX10_notes 24 = .ok (.getfield 53, 3) := by decide +kernel
theorem dX10_notes_27 : decode cX10_notes 27 = .ok (.iload_n 1, 1) := by decide +kernel
theorem dX10_notes_28 : decode cX10_notes 28 = .ok (.bipush 35, 2) := by decide +kernel
theorem dX10_notes_30 : decode cX10_notes 30 = .ok (.iadd, 1) := by decide +kernel
theorem dX10_notes_31 : decode cX10_notes 31 = .ok (.iaload, 1) := by decide +kernel
theorem dX10_notes_32 : decode cX10_notes 32 = .ok (.iastore, 1) := by decide +kernel
theorem dX10_notes_33 : decode cX10_notes 33 = .ok (.iinc 1 1, 3) := by decide +kernel
theorem dX10_notes_36 : decode cX10_notes 36 = .ok (.goto (-25), 3) := by decide +kernel
theorem dX10_notes_39 : decode cX10_notes 39 = .ok (.aload_n 0, 1) := by decide +kernel
theorem dX10_notes_40 : decode cX10_notes 40 = .ok (.dup, 1) := by decide +kernel
theorem dX10_notes_41 : decode cX10_notes 41 = .ok (.getfield 140, 3) := by decide +kernel
theorem dX10_notes_44 : decode cX10_notes 44 = .ok (.iconst 1, 1) := by decide +kernel
theorem dX10_notes_45 : decode cX10_notes 45 = .ok (.isub, 1) := by decide +kernel
theorem dX10_notes_46 : decode cX10_notes 46 = .ok (.putfield 140, 3) := by decide +kernel
theorem dX10_notes_49 : decode cX10_notes 49 = .ok (.aload_n 0, 1) := by decide +kernel
theorem dX10_notes_50 : decode cX10_notes 50 = .ok (.getfield 47, 3) := by decide +kernel
theorem dX10_notes_53 : decode cX10_notes 53 = .ok (.iconst 0, 1) := by decide +kernel
theorem dX10_notes_54 : decode cX10_notes 54 = .ok (.aload_n 0, 1) := by decide +kernel
theorem dX10_notes_55 : decode cX10_notes 55 = .ok (.getfield 53, 3) := by decide +kernel
theorem dX10_notes_58 : decode cX10_notes 58 = .ok (.bipush 35, 2) := by decide +kernel
theorem dX10_notes_60 : decode cX10_notes 60 = .ok (.aload_n 0, 1) := by decide +kernel
theorem dX10_notes_61 : decode cX10_notes 61 = .ok (.getfield 140, 3) := by decide +kernel
theorem dX10_notes_64 : decode cX10_notes 64 = .ok (.imul, 1) := by decide +kernel
theorem dX10_notes_65 : decode cX10_notes 65 = .ok (.bipush 35, 2) := by decide +kernel
theorem dX10_notes_67 : decode cX10_notes 67 = .ok (.invokestatic 136, 3) := by decide +kernel
theorem dX10_notes_70 : decode cX10_notes 70 = .ok (.aload_n 0, 1) := by decide +kernel
theorem dX10_notes_71 : decode cX10_notes 71 = .ok (.dup, 1) := by decide +kernel
theorem dX10_notes_72 : decode cX10_notes 72 = .ok (.getfield 140, 3) := by decide +kernel
theorem dX10_notes_75 : decode cX10_notes 75 = .ok (.iconst 1, 1) := by decide +kernel
theorem dX10_notes_76 : decode cX10_notes 76 = .ok (.iadd, 1) := by decide +kernel
theorem dX10_notes_77 : decode cX10_notes 77 = .ok (.putfield 140, 3) := by decide +kernel
theorem dX10_notes_80 : decode cX10_notes 80 = .ok (.return_, 1) := by decide +kernel
set_option maxRecDepth 20000 in
theorem ggX10_passes_X10_isFall : GoodIn wsX10_passes wsX10_isFall := goodIn_r _ [7, 8, 9, 10, 6, 11, 12, 13, 14, 15, 16, 17, 18, 19, 20, 21, 22, 23, 24, 25, 26, 27, 28, 29, 30, 31, 32, 33, 34, 35, 36, 37, 38, 39, 40, 41, 42, 43, 44, 45, 46] (by decide +kernel) (by decide +kernel)
set_option maxRecDepth 20000 in
theorem gX10_passes_X10_isFall : GoodIn wsX10_passes (wsV RX10 164 RX10 yX10_isFall wsX10_isFall) := goodIn_app (goodIn_of _ (by decide +kernel)) ggX10_passes_X10_isFall
set_option maxRecDepth 20000 in
theorem ggX10_passes_X10_fallsOf : GoodIn wsX10_passes wsX10_fallsOf := goodIn_r _ [11, 12, 17, 18, 19, 20, 21, 22, 23, 24, 25, 26, 27, 28, 29, 30, 31, 32, 33, 34, 35, 36, 37, 38, 39, 40, 41, 42, 43, 44, 45, 46] (by decide +kernel) (by decide +kernel)
set_option maxRecDepth 20000 in
theorem gX10_passes_X10_fallsOf : GoodIn wsX10_passes (wsV RX10 149 RX10 yX10_fallsOf wsX10_fallsOf) := goodIn_app (goodIn_of _ (by decide +kernel)) ggX10_passes_X10_fallsOf
theorem dX10_passes_0 : decode cX10_passes 0 = .ok (.iconst 0, 1) := by decide +kernel
theorem dX10_passes_1 : decode cX10_passes 1 = .ok (.istore_n 3, 1) := by decide +kernel
theorem dX10_passes_2 : decode cX10_passes 2 = .ok (.iload_n 3, 1) := by decide +kernel
theorem dX10_passes_3 : decode cX10_passes 3 = .ok (.aload_n 0, 1) := by decide +kernel
theorem dX10_passes_4 : decode cX10_passes 4 = .ok (.getfield 17, 3) := by decide +kernel
theorem dX10_passes_7 : decode cX10_passes 7 = .ok (.iconst 2, 1) := by decide +kernel
theorem dX10_passes_8 : decode cX10_passes 8 = .ok (.iaload, 1) := by decide +kernel
theorem dX10_passes_9 : decode cX10_passes 9 = .ok (.if_icmp .ge 43, 3) := by decide +kernel
theorem dX10_passes_12 : decode cX10_passes 12 = .ok (.aload_n 1, 1) := by decide +kernel
theorem dX10_passes_13 : decode cX10_passes 13 = .ok (.bipush 13, 2) := by decide +kernel
theorem dX10_passes_15 : decode cX10_passes 15 = .ok (.iconst 2, 1) := by decide +kernel
theorem dX10_passes_16 : decode cX10_passes 16 = .ok (.iload_n 3, 1) := by decide +kernel
theorem dX10_passes_17 : decode cX10_passes 17 = .ok (.imul, 1) := by decide +kernel
theorem dX10_passes_18 : decode cX10_passes 18 = .ok (.iadd, 1) := by decide +kernel
theorem dX10_passes_19 : decode cX10_passes 19 = .ok (.iconst 1, 1) := by decide +kernel
theorem dX10_passes_20 : decode cX10_passes 20 = .ok (.iadd, 1) := by decide +kernel
theorem dX10_passes_21 : decode cX10_passes 21 = .ok (.dup2, 1) := by decide +kernel
theorem dX10_passes_22 : decode cX10_passes 22 = .ok (.iaload, 1) := by decide +kernel
theorem dX10_passes_23 : decode cX10_passes 23 = .ok (.aload_n 0, 1) := by decide +kernel
theorem dX10_passes_24 : decode cX10_passes 24 = .ok (.iload_n 2, 1) := by decide +kernel
theorem dX10_passes_25 : decode cX10_passes 25 = .ok (.aload_n 1, 1) := by decide +kernel
theorem dX10_passes_26 : decode cX10_passes 26 = .ok (.bipush 13, 2) := by decide +kernel
theorem dX10_passes_28 : decode cX10_passes 28 = .ok (.iconst 2, 1) := by decide +kernel
theorem dX10_passes_29 : decode cX10_passes 29 = .ok (.iload_n 3, 1) := by decide +kernel
theorem dX10_passes_30 : decode cX10_passes 30 = .ok (.imul, 1) := by decide +kernel
theorem dX10_passes_31 : decode cX10_passes 31 = .ok (.iadd, 1) := by decide +kernel
theorem dX10_passes_32 : decode cX10_passes 32 = .ok (.iaload, 1) := by decide +kernel
theorem dX10_passes_33 : decode cX10_passes 33 = .ok (.invokevirtual 164, 3) := by decide +kernel
theorem dX10_passes_36 : decode cX10_passes 36 = .ok (.ifCond .eq 7, 3) := by decide +kernel
theorem dX10_passes_39 : decode cX10_passes 39 = .ok (.iconst 1, 1) := by decide +kernel
theorem dX10_passes_40 : decode cX10_passes 40 = .ok (.goto 4, 3) := by decide +kernel
theorem dX10_passes_43 : decode cX10_passes 43 = .ok (.iconst 0, 1) := by decide +kernel
theorem dX10_passes_44 : decode cX10_passes 44 = .ok (.iadd, 1) := by decide +kernel
theorem dX10_passes_45 : decode cX10_passes 45 = .ok (.iastore, 1) := by decide +kernel
theorem dX10_passes_46 : decode cX10_passes 46 = .ok (.iinc 3 1, 3) := by decide +kernel
theorem dX10_passes_49 : decode cX10_passes 49 = .ok (.goto (-47), 3) := by decide +kernel
theorem dX10_passes_52 : decode cX10_passes 52 = .ok (.iconst 0, 1) := by decide +kernel
theorem dX10_passes_53 : decode cX10_passes 53 = .ok (.istore_n 3, 1) := by decide +kernel
theorem dX10_passes_54 : decode cX10_passes 54 = .ok (.iload_n 3, 1) := by decide +kernel
theorem dX10_passes_55 : decode cX10_passes 55 = .ok (.aload_n 0, 1) := by decide +kernel
theorem dX10_passes_56 : decode cX10_passes 56 = .ok (.getfield 17, 3) := by decide +kernel
theorem dX10_passes_59 : decode cX10_passes 59 = .ok (.iconst 1, 1) := by decide +kernel
theorem dX10_passes_60 : decode cX10_passes 60 = .ok (.iaload, 1) := by decide +kernel
theorem dX10_passes_61 : decode cX10_passes 61 = .ok (.if_icmp .ge 74, 3) := by decide +kernel
theorem dX10_passes_64 : decode cX10_passes 64 = .ok (.aload_n 1, 1) := by decide +kernel
theorem dX10_passes_65 : decode cX10_passes 65 = .ok (.iconst 1, 1) := by decide +kernel
theorem dX10_passes_66 : decode cX10_passes 66 = .ok (.iconst 3, 1) := by decide +kernel
theorem dX10_passes_67 : decode cX10_passes 67 = .ok (.iload_n 3, 1) := by decide +kernel
theorem dX10_passes_68 : decode cX10_passes 68 = .ok (.imul, 1) := by decide +kernel
theorem dX10_passes_69 : decode cX10_passes 69 = .ok (.iadd, 1) := by decide +kernel
theorem dX10_passes_70 : decode cX10_passes 70 = .ok (.iconst 2, 1) := by decide +kernel
theorem dX10_passes_71 : decode cX10_passes 71 = .ok (.iadd, 1) := by decide +kernel
theorem dX10_passes_72 : decode cX10_passes 72 = .ok (.iaload, 1) := by decide +kernel
theorem dX10_passes_73 : decode cX10_passes 73 = .ok (.aload_n 0, 1) := by decide +kernel
theorem dX10_passes_74 : decode cX10_passes 74 = .ok (.iload_n 2, 1) := by decide +kernel
theorem dX10_passes_75 : decode cX10_passes 75 = .ok (.iload_n 3, 1) := by decide +kernel
theorem dX10_passes_76 : decode cX10_passes 76 = .ok (.invokevirtual 149, 3) := by decide +kernel
theorem dX10_passes_79 : decode cX10_passes 79 = .ok (.iadd, 1) := by decide +kernel
theorem dX10_passes_80 : decode cX10_passes 80 = .ok (.istore 4, 2) := by decide +kernel
theorem dX10_passes_82 : decode cX10_passes 82 = .ok (.aload_n 1, 1) := by decide +kernel
theorem dX10_passes_83 : decode cX10_passes 83 = .ok (.iconst 1, 1) := by decide +kernel
theorem dX10_passes_84 : decode cX10_passes 84 = .ok (.iconst 3, 1) := by decide +kernel
theorem dX10_passes_85 : decode cX10_passes 85 = .ok (.iload_n 3, 1) := by decide +kernel
theorem dX10_passes_86 : decode cX10_passes 86 = .ok (.imul, 1) := by decide +kernel
theorem dX10_passes_87 : decode cX10_passes 87 = .ok (.iadd, 1) := by decide +kernel
theorem dX10_passes_88 : decode cX10_passes 88 = .ok (.dup2, 1) := by decide +kernel
theorem dX10_passes_89 : decode cX10_passes 89 = .ok (.iaload, 1) := by decide +kernel
theorem dX10_passes_90 : decode cX10_passes 90 = .ok (.aload_n 0, 1) := by decide +kernel
theorem dX10_passes_91 : decode cX10_passes 91 = .ok (.iload_n 2, 1) := by decide +kernel
theorem dX10_passes_92 : decode cX10_passes 92 = .ok (.iload_n 3, 1) := by decide +kernel
theorem dX10_passes_93 : decode cX10_passes 93 = .ok (.invokevirtual 164, 3) := by decide +kernel
theorem dX10_passes_96 : decode cX10_passes 96 = .ok (.ifCond .eq 7, 3) := by decide +kernel
theorem dX10_passes_99 : decode cX10_passes 99 = .ok (.iconst 1, 1) := by decide +kernel
theorem dX10_passes_100 : decode cX10_passes 100 = .ok (.goto 4, 3) := by decide +kernel
theorem dX10_passes_103 : decode cX10_passes 103 = .ok (.iconst 0, 1) := by decide +kernel
theorem dX10_passes_104 : decode cX10_passes 104 = .ok (.iadd, 1) := by decide +kernel
theorem dX10_passes_105 : decode cX10_passes 105 = .ok (.iastore, 1) := by decide +kernel
theorem dX10_passes_106 : decode cX10_passes 106 = .ok (.aload_n 1, 1) := by decide +kernel
theorem dX10_passes_107 : decode cX10_passes 107 = .ok (.iconst 1, 1) := by decide +kernel
theorem dX10_passes_108 : decode cX10_passes 108 = .ok (.iconst 3, 1) := by decide +kernel
theorem dX10_passes_109 : decode cX10_passes 109 = .ok (.iload_n 3, 1) := by decide +kernel
theorem dX10_passes_110 : decode cX10_passes 110 = .ok (.imul, 1) := by decide +kernel
theorem dX10_passes_111 : decode cX10_passes 111 = .ok (.iadd, 1) := by decide +kernel
theorem dX10_passes_112 : decode cX10_passes 112 = .ok (.iconst 2, 1) := by decide +kernel
theorem dX10_passes_113 : decode cX10_passes 113 = .ok (.iadd, 1) := by decide +kernel
theorem dX10_passes_114 : decode cX10_passes 114 = .ok (.iload 4, 2) := by decide +kernel
theorem dX10_passes_116 : decode cX10_passes 116 = .ok (.ldc 197, 2) := by decide +kernel
theorem dX10_passes_118 : decode cX10_passes 118 = .ok (.if_icmp .le 8, 3) := by decide +kernel
theorem dX10_passes_121 : decode cX10_passes 121 = .ok (.ldc 197, 2) := by decide +kernel
theorem dX10_passes_123 : decode cX10_passes 123 = .ok (.goto 5, 3) := by decide +kernel
theorem dX10_passes_126 : decode cX10_passes 126 = .ok (.iload 4, 2) := by decide +kernel
theorem dX10_passes_128 : decode cX10_passes 128 = .ok (.iastore, 1) := by decide +kernel
theorem dX10_passes_129 : decode cX10_passes 129 = .ok (.iinc 3 1, 3) := by decide +kernel
theorem dX10_passes_132 : decode cX10_passes 132 = .ok (.goto (-78), 3) := by decide +kernel
theorem dX10_passes_135 : decode cX10_passes 135 = .ok (.aload_n 1, 1) := by decide +kernel
theorem dX10_passes_136 : decode cX10_passes 136 = .ok (.iconst 0, 1) := by decide +kernel
theorem dX10_passes_137 : decode cX10_passes 137 = .ok (.dup2, 1) := by decide +kernel
theorem dX10_passes_138 : decode cX10_passes 138 = .ok (.iaload, 1) := by decide +kernel
theorem dX10_passes_139 : decode cX10_passes 139 = .ok (.iconst 1, 1) := by decide +kernel
theorem dX10_passes_140 : decode cX10_passes 140 = .ok (.iadd, 1) := by decide +kernel
theorem dX10_passes_141 : decode cX10_passes 141 = .ok (.iastore, 1) := by decide +kernel
theorem dX10_passes_142 : decode cX10_passes 142 = .ok (.return_, 1) := by decide +kernel
set_option maxRecDepth 20000 in
theorem ggX10_comes_X10_passes : GoodIn wsX10_comes wsX10_passes := goodIn_r _ [7, 2, 8, 9, 10, 11, 6, 12, 13, 14, 15, 16, 17, 18, 19, 20, 21, 22, 23, 24, 25, 26, 27, 28, 29, 30, 31, 32, 33, 34, 35, 36, 37, 38, 39, 40, 41, 42, 43, 44, 45, 46, 47, 48, 49, 50, 51] (by decide +kernel) (by decide +kernel)
set_option maxRecDepth 20000 in
theorem gX10_comes_X10_passes : GoodIn wsX10_comes (wsV RX10 198 RX10 yX10_passes wsX10_passes) := goodIn_app (goodIn_of _ (by decide +kernel)) ggX10_comes_X10_passes
theorem dX10_comes_0 : decode cX10_comes 0 = .ok (.aload_n 0, 1) := by decide +kernel
theorem dX10_comes_1 : decode cX10_comes 1 = .ok (.getfield 20, 3) := by decide +kernel
theorem dX10_comes_4 : decode cX10_comes 4 = .ok (.aload_n 1, 1) := by decide +kernel
theorem dX10_comes_5 : decode cX10_comes 5 = .ok (.iconst 0, 1) := by decide +kernel
theorem dX10_comes_6 : decode cX10_comes 6 = .ok (.iaload, 1) := by decide +kernel
theorem dX10_comes_7 : decode cX10_comes 7 = .ok (.aload_n 0, 1) := by decide +kernel
theorem dX10_comes_8 : decode cX10_comes 8 = .ok (.getfield 17, 3) := by decide +kernel
theorem dX10_comes_11 : decode cX10_comes 11 = .ok (.iconst 0, 1) := by decide +kernel
theorem dX10_comes_12 : decode cX10_comes 12 = .ok (.iaload, 1) := by decide +kernel
theorem dX10_comes_13 : decode cX10_comes 13 = .ok (.irem, 1) := by decide +kernel
theorem dX10_comes_14 : decode cX10_comes 14 = .ok (.iaload, 1) := by decide +kernel
theorem dX10_comes_15 : decode cX10_comes 15 = .ok (.iload_n 2, 1) := by decide +kernel
theorem dX10_comes_16 : decode cX10_comes 16 = .ok (.isub, 1) := by decide +kernel
theorem dX10_comes_17 : decode cX10_comes 17 = .ok (.istore_n 3, 1) := by decide +kernel
theorem dX10_comes_18 : decode cX10_comes 18 = .ok (.aload_n 0, 1) := by decide +kernel
theorem dX10_comes_19 : decode cX10_comes 19 = .ok (.aload_n 1, 1) := by decide +kernel
theorem dX10_comes_20 : decode cX10_comes 20 = .ok (.iload_n 3, 1) := by decide +kernel
theorem dX10_comes_21 : decode cX10_comes 21 = .ok (.ifCond .ge 7, 3) := by decide +kernel
theorem dX10_comes_24 : decode cX10_comes 24 = .ok (.iconst 0, 1) := by decide +kernel
theorem dX10_comes_25 : decode cX10_comes 25 = .ok (.goto 4, 3) := by decide +kernel
theorem dX10_comes_28 : decode cX10_comes 28 = .ok (.iload_n 3, 1) := by decide +kernel
theorem dX10_comes_29 : decode cX10_comes 29 = .ok (.invokevirtual 198, 3) := by decide +kernel
theorem dX10_comes_32 : decode cX10_comes 32 = .ok (.return_, 1) := by decide +kernel
set_option maxRecDepth 20000 in
theorem ggX10_barred_X10_in : GoodIn wsX10_barred wsX10_in := goodIn_r _ [8] (by decide +kernel) (by decide +kernel)
set_option maxRecDepth 20000 in
theorem gX10_barred_X10_in : GoodIn wsX10_barred (va_wsS RX10 81 yX10_in wsX10_in) := goodIn_app (goodIn_of _ (by decide +kernel)) ggX10_barred_X10_in
set_option maxRecDepth 20000 in
theorem ggX10_barred_X10_isValley : GoodIn wsX10_barred wsX10_isValley := goodIn_r _ [12, 13, 14, 15, 16, 17, 18, 19, 20, 21, 22, 23, 24, 25, 26, 27, 28, 29, 30, 31, 32, 33, 34, 35, 36, 37, 38, 39, 40, 41, 42, 43] (by decide +kernel) (by decide +kernel)
set_option maxRecDepth 20000 in
theorem gX10_barred_X10_isValley : GoodIn wsX10_barred (wsV RX10 175 RX10 yX10_isValley wsX10_isValley) := goodIn_app (goodIn_of _ (by decide +kernel)) ggX10_barred_X10_isValley
theorem dX10_barred_0 : decode cX10_barred 0 = .ok (.iload_n 1, 1) := by decide +kernel
theorem dX10_barred_1 : decode cX10_barred 1 = .ok (.iconst 1, 1) := by decide +kernel
theorem dX10_barred_2 : decode cX10_barred 2 = .ok (.bipush 60, 2) := by decide +kernel
theorem dX10_barred_4 : decode cX10_barred 4 = .ok (.invokestatic 81, 3) := by decide +kernel
theorem dX10_barred_7 : decode cX10_barred 7 = .ok (.ifCond .ne 8, 3) := by decide +kernel
theorem dX10_barred_10 : decode cX10_barred 10 = .ok (.ldc 85, 2) := by decide +kernel
theorem dX10_barred_12 : decode cX10_barred 12 = .ok (.goto 33, 3) := by decide +kernel
theorem dX10_barred_15 : decode cX10_barred 15 = .ok (.aload_n 0, 1) := by decide +kernel
theorem dX10_barred_16 : decode cX10_barred 16 = .ok (.invokevirtual 175, 3) := by decide +kernel
theorem dX10_barred_19 : decode cX10_barred 19 = .ok (.ifCond .ne 8, 3) := by decide +kernel
theorem dX10_barred_22 : decode cX10_barred 22 = .ok (.ldc 179, 2) := by decide +kernel
theorem dX10_barred_24 : decode cX10_barred 24 = .ok (.goto 21, 3) := by decide +kernel
theorem dX10_barred_27 : decode cX10_barred 27 = .ok (.aload_n 0, 1) := by decide +kernel
theorem dX10_barred_28 : decode cX10_barred 28 = .ok (.getfield 47, 3) := by decide +kernel
theorem dX10_barred_31 : decode cX10_barred 31 = .ok (.iconst 0, 1) := by decide +kernel
theorem dX10_barred_32 : decode cX10_barred 32 = .ok (.iaload, 1) := by decide +kernel
theorem dX10_barred_33 : decode cX10_barred 33 = .ok (.sipush 9000, 3) := by decide +kernel
theorem dX10_barred_36 : decode cX10_barred 36 = .ok (.if_icmp .le 8, 3) := by decide +kernel
theorem dX10_barred_39 : decode cX10_barred 39 = .ok (.ldc 89, 2) := by decide +kernel
theorem dX10_barred_41 : decode cX10_barred 41 = .ok (.goto 4, 3) := by decide +kernel
theorem dX10_barred_44 : decode cX10_barred 44 = .ok (.iconst 0, 1) := by decide +kernel
theorem dX10_barred_45 : decode cX10_barred 45 = .ok (.ireturn, 1) := by decide +kernel
set_option maxRecDepth 20000 in
theorem ggX10_night_X10_barred : GoodIn wsX10_night wsX10_barred := goodIn_r _ [6, 7, 8, 1, 9, 10, 11, 5, 12, 13, 14, 15, 16, 17, 50, 51, 52, 53, 54, 55, 56, 57, 58, 59, 60, 61, 62, 63, 64, 65, 66, 67, 68, 69, 70, 71, 72, 73, 74, 75, 76, 77, 78, 79] (by decide +kernel) (by decide +kernel)
set_option maxRecDepth 20000 in
theorem gX10_night_X10_barred : GoodIn wsX10_night (wsV RX10 202 RX10 yX10_barred wsX10_barred) := goodIn_app (goodIn_of _ (by decide +kernel)) ggX10_night_X10_barred
set_option maxRecDepth 20000 in
theorem ggX10_night_X10_notes : GoodIn wsX10_night wsX10_notes := goodIn_r _ [21, 22, 23, 1, 24, 25, 5, 26, 50, 51, 52, 53, 54, 55, 56, 57, 58, 59, 60, 61, 62, 63, 64, 65, 66, 67, 68, 69, 70, 71, 72, 73, 74, 75, 76, 77, 78, 79] (by decide +kernel) (by decide +kernel)
set_option maxRecDepth 20000 in
theorem gX10_night_X10_notes : GoodIn wsX10_night (wsV RX10 205 RX10 yX10_notes wsX10_notes) := goodIn_app (goodIn_of _ (by decide +kernel)) ggX10_night_X10_notes
set_option maxRecDepth 20000 in
theorem ggX10_night_X10_comes : GoodIn wsX10_night wsX10_comes := goodIn_r _ [30, 31, 17, 32, 33, 34, 5, 35, 36, 37, 38, 39, 40, 41, 42, 43, 44, 45, 46, 47, 48, 49, 50, 51, 52, 53, 54, 55, 56, 57, 58, 59, 60, 61, 62, 63, 64, 65, 66, 67, 68, 69, 70, 71, 72, 73, 74, 75, 76, 77, 78, 79] (by decide +kernel) (by decide +kernel)
set_option maxRecDepth 20000 in
theorem gX10_night_X10_comes : GoodIn wsX10_night (wsV RX10 208 RX10 yX10_comes wsX10_comes) := goodIn_app (goodIn_of _ (by decide +kernel)) ggX10_night_X10_comes
theorem dX10_night_0 : decode cX10_night 0 = .ok (.aload_n 0, 1) := by decide +kernel
theorem dX10_night_1 : decode cX10_night 1 = .ok (.iload_n 1, 1) := by decide +kernel
theorem dX10_night_2 : decode cX10_night 2 = .ok (.invokevirtual 202, 3) := by decide +kernel
theorem dX10_night_5 : decode cX10_night 5 = .ok (.istore_n 2, 1) := by decide +kernel
theorem dX10_night_6 : decode cX10_night 6 = .ok (.iload_n 2, 1) := by decide +kernel
theorem dX10_night_7 : decode cX10_night 7 = .ok (.ifCond .eq 5, 3) := by decide +kernel
theorem dX10_night_10 : decode cX10_night 10 = .ok (.iload_n 2, 1) := by decide +kernel
theorem dX10_night_11 : decode cX10_night 11 = .ok (.ireturn, 1) := by decide +kernel
theorem dX10_night_12 : decode cX10_night 12 = .ok (.aload_n 0, 1) := by decide +kernel
theorem dX10_night_13 : decode cX10_night 13 = .ok (.invokevirtual 205, 3) := by decide +kernel
theorem dX10_night_16 : decode cX10_night 16 = .ok (.iconst 0, 1) := by decide +kernel
theorem dX10_night_17 : decode cX10_night 17 = .ok (.istore_n 3, 1) := by decide +kernel
theorem dX10_night_18 : decode cX10_night 18 = .ok (.iload_n 3, 1) := by decide +kernel
theorem dX10_night_19 : decode cX10_night 19 = .ok (.iload_n 1, 1) := by decide +kernel
theorem dX10_night_20 : decode cX10_night 20 = .ok (.if_icmp .ge 18, 3) := by decide +kernel
theorem dX10_night_23 : decode cX10_night 23 = .ok (.aload_n 0, 1) := by decide +kernel
theorem dX10_night_24 : decode cX10_night 24 = .ok (.aload_n 0, 1) := by decide +kernel
theorem dX10_night_25 : decode cX10_night 25 = .ok (.getfield 47, 3) := by decide +kernel
theorem dX10_night_28 : decode cX10_night 28 = .ok (.iconst 0, 1) := by decide +kernel
theorem dX10_night_29 : decode cX10_night 29 = .ok (.invokevirtual 208, 3) := by decide +kernel
theorem dX10_night_32 : decode cX10_night 32 = .ok (.iinc 3 1, 3) := by decide +kernel
theorem dX10_night_35 : decode cX10_night 35 = .ok (.goto (-17), 3) := by decide +kernel
theorem dX10_night_38 : decode cX10_night 38 = .ok (.aload_n 0, 1) := by decide +kernel
theorem dX10_night_39 : decode cX10_night 39 = .ok (.getfield 47, 3) := by decide +kernel
theorem dX10_night_42 : decode cX10_night 42 = .ok (.iconst 0, 1) := by decide +kernel
theorem dX10_night_43 : decode cX10_night 43 = .ok (.iaload, 1) := by decide +kernel
theorem dX10_night_44 : decode cX10_night 44 = .ok (.ireturn, 1) := by decide +kernel
set_option maxRecDepth 20000 in
theorem ggX10_move_X10_isPerson : GoodIn wsX10_move wsX10_isPerson := goodIn_r _ [7, 8, 9, 10, 6, 11, 30, 31, 32, 33, 34, 35, 36, 37, 38, 39, 40, 41, 42, 43, 44, 45, 46, 47, 48, 49, 50, 51, 52, 53, 54, 55, 56, 57, 58, 59] (by decide +kernel) (by decide +kernel)
set_option maxRecDepth 20000 in
theorem gX10_move_X10_isPerson : GoodIn wsX10_move (wsV RX10 188 RX10 yX10_isPerson wsX10_isPerson) := goodIn_app (goodIn_of _ (by decide +kernel)) ggX10_move_X10_isPerson
set_option maxRecDepth 20000 in
theorem ggX10_move_X10_isVillage : GoodIn wsX10_move wsX10_isVillage := goodIn_r _ [15, 8, 9, 10, 6, 11, 30, 31, 32, 33, 34, 35, 36, 37, 38, 39, 40, 41, 42, 43, 44, 45, 46, 47, 48, 49, 50, 51, 52, 53, 54, 55, 56, 57, 58, 59] (by decide +kernel) (by decide +kernel)
set_option maxRecDepth 20000 in
theorem gX10_move_X10_isVillage : GoodIn wsX10_move (wsV RX10 180 RX10 yX10_isVillage wsX10_isVillage) := goodIn_app (goodIn_of _ (by decide +kernel)) ggX10_move_X10_isVillage
set_option maxRecDepth 20000 in
theorem ggX10_move_X10_notes : GoodIn wsX10_move wsX10_notes := goodIn_r _ [19, 20, 21, 2, 22, 23, 6, 24, 30, 31, 32, 33, 34, 35, 36, 37, 38, 39, 40, 41, 42, 43, 44, 45, 46, 47, 48, 49, 50, 51, 52, 53, 54, 55, 56, 57, 58, 59] (by decide +kernel) (by decide +kernel)
set_option maxRecDepth 20000 in
theorem gX10_move_X10_notes : GoodIn wsX10_move (wsV RX10 205 RX10 yX10_notes wsX10_notes) := goodIn_app (goodIn_of _ (by decide +kernel)) ggX10_move_X10_notes
set_option maxRecDepth 20000 in
theorem ggX10_move_X10_ageOf : GoodIn wsX10_move wsX10_ageOf := goodIn_r _ [28, 29, 30, 31, 32, 33, 34, 35, 36, 37, 38, 39, 40, 41, 42, 43, 44, 45, 46, 47, 48, 49, 50, 51, 52, 53, 54, 55, 56, 57, 58, 59] (by decide +kernel) (by decide +kernel)
set_option maxRecDepth 20000 in
theorem gX10_move_X10_ageOf : GoodIn wsX10_move (wsV RX10 191 RX10 yX10_ageOf wsX10_ageOf) := goodIn_app (goodIn_of _ (by decide +kernel)) ggX10_move_X10_ageOf
theorem dX10_move_0 : decode cX10_move 0 = .ok (.aload_n 0, 1) := by decide +kernel
theorem dX10_move_1 : decode cX10_move 1 = .ok (.iload_n 1, 1) := by decide +kernel
theorem dX10_move_2 : decode cX10_move 2 = .ok (.invokevirtual 188, 3) := by decide +kernel
theorem dX10_move_5 : decode cX10_move 5 = .ok (.ifCond .eq 11, 3) := by decide +kernel
theorem dX10_move_8 : decode cX10_move 8 = .ok (.aload_n 0, 1) := by decide +kernel
theorem dX10_move_9 : decode cX10_move 9 = .ok (.iload_n 2, 1) := by decide +kernel
theorem dX10_move_10 : decode cX10_move 10 = .ok (.invokevirtual 180, 3) := by decide +kernel
theorem dX10_move_13 : decode cX10_move 13 = .ok (.ifCond .ne 6, 3) := by decide +kernel
theorem dX10_move_16 : decode cX10_move 16 = .ok (.ldc 184, 2) := by decide +kernel
theorem dX10_move_18 : decode cX10_move 18 = .ok (.ireturn, 1) := by decide +kernel
theorem dX10_move_19 : decode cX10_move 19 = .ok (.aload_n 0, 1) := by decide +kernel
theorem dX10_move_20 : decode cX10_move 20 = .ok (.invokevirtual 205, 3) := by decide +kernel
theorem dX10_move_23 : decode cX10_move 23 = .ok (.aload_n 0, 1) := by decide +kernel
theorem dX10_move_24 : decode cX10_move 24 = .ok (.getfield 47, 3) := by decide +kernel
theorem dX10_move_27 : decode cX10_move 27 = .ok (.bipush 13, 2) := by decide +kernel
theorem dX10_move_29 : decode cX10_move 29 = .ok (.iconst 2, 1) := by decide +kernel
theorem dX10_move_30 : decode cX10_move 30 = .ok (.iload_n 1, 1) := by decide +kernel
theorem dX10_move_31 : decode cX10_move 31 = .ok (.imul, 1) := by decide +kernel
theorem dX10_move_32 : decode cX10_move 32 = .ok (.iadd, 1) := by decide +kernel
theorem dX10_move_33 : decode cX10_move 33 = .ok (.iload_n 2, 1) := by decide +kernel
theorem dX10_move_34 : decode cX10_move 34 = .ok (.iastore, 1) := by decide +kernel
theorem dX10_move_35 : decode cX10_move 35 = .ok (.aload_n 0, 1) := by decide +kernel
theorem dX10_move_36 : decode cX10_move 36 = .ok (.aload_n 0, 1) := by decide +kernel
theorem dX10_move_37 : decode cX10_move 37 = .ok (.getfield 47, 3) := by decide +kernel
theorem dX10_move_40 : decode cX10_move 40 = .ok (.iload_n 1, 1) := by decide +kernel
theorem dX10_move_41 : decode cX10_move 41 = .ok (.invokevirtual 191, 3) := by decide +kernel
theorem dX10_move_44 : decode cX10_move 44 = .ok (.ireturn, 1) := by decide +kernel
set_option maxRecDepth 20000 in
theorem ggX10_saw_X10_isVillage : GoodIn wsX10_saw wsX10_isVillage := goodIn_r _ [8, 9, 10, 11, 7, 12, 26, 27, 28, 29, 30, 31, 32, 33, 34, 35, 36, 37, 38, 39, 40, 41, 42, 43, 44, 45, 46, 47, 48, 49, 50, 51, 52, 53, 54, 55] (by decide +kernel) (by decide +kernel)
set_option maxRecDepth 20000 in
theorem gX10_saw_X10_isVillage : GoodIn wsX10_saw (wsV RX10 180 RX10 yX10_isVillage wsX10_isVillage) := goodIn_app (goodIn_of _ (by decide +kernel)) ggX10_saw_X10_isVillage
set_option maxRecDepth 20000 in
theorem ggX10_saw_X10_in : GoodIn wsX10_saw wsX10_in := goodIn_r _ [12] (by decide +kernel) (by decide +kernel)
set_option maxRecDepth 20000 in
theorem gX10_saw_X10_in : GoodIn wsX10_saw (va_wsS RX10 81 yX10_in wsX10_in) := goodIn_app (goodIn_of _ (by decide +kernel)) ggX10_saw_X10_in
set_option maxRecDepth 20000 in
theorem ggX10_saw_X10_notes : GoodIn wsX10_saw wsX10_notes := goodIn_r _ [16, 17, 18, 3, 19, 20, 7, 21, 26, 27, 28, 29, 30, 31, 32, 33, 34, 35, 36, 37, 38, 39, 40, 41, 42, 43, 44, 45, 46, 47, 48, 49, 50, 51, 52, 53, 54, 55] (by decide +kernel) (by decide +kernel)
set_option maxRecDepth 20000 in
theorem gX10_saw_X10_notes : GoodIn wsX10_saw (wsV RX10 205 RX10 yX10_notes wsX10_notes) := goodIn_app (goodIn_of _ (by decide +kernel)) ggX10_saw_X10_notes
set_option maxRecDepth 20000 in
theorem ggX10_saw_X10_poleOf : GoodIn wsX10_saw wsX10_poleOf := goodIn_r _ [25] (by decide +kernel) (by decide +kernel)
set_option maxRecDepth 20000 in
theorem gX10_saw_X10_poleOf : GoodIn wsX10_saw (wsV RX10 185 RX10 yX10_poleOf wsX10_poleOf) := goodIn_app (goodIn_of _ (by decide +kernel)) ggX10_saw_X10_poleOf
theorem dX10_saw_0 : decode cX10_saw 0 = .ok (.aload_n 0, 1) := by decide +kernel
theorem dX10_saw_1 : decode cX10_saw 1 = .ok (.iload_n 1, 1) := by decide +kernel
theorem dX10_saw_2 : decode cX10_saw 2 = .ok (.invokevirtual 180, 3) := by decide +kernel
theorem dX10_saw_5 : decode cX10_saw 5 = .ok (.ifCond .ne 6, 3) := by decide +kernel
theorem dX10_saw_8 : decode cX10_saw 8 = .ok (.ldc 184, 2) := by decide +kernel
theorem dX10_saw_10 : decode cX10_saw 10 = .ok (.ireturn, 1) := by decide +kernel
theorem dX10_saw_11 : decode cX10_saw 11 = .ok (.iload_n 2, 1) := by decide +kernel
theorem dX10_saw_12 : decode cX10_saw 12 = .ok (.iconst 1, 1) := by decide +kernel
theorem dX10_saw_13 : decode cX10_saw 13 = .ok (.bipush 99, 2) := by decide +kernel
theorem dX10_saw_15 : decode cX10_saw 15 = .ok (.invokestatic 81, 3) := by decide +kernel
theorem dX10_saw_18 : decode cX10_saw 18 = .ok (.ifCond .ne 6, 3) := by decide +kernel
theorem dX10_saw_21 : decode cX10_saw 21 = .ok (.ldc 85, 2) := by decide +kernel
theorem dX10_saw_23 : decode cX10_saw 23 = .ok (.ireturn, 1) := by decide +kernel
theorem dX10_saw_24 : decode cX10_saw 24 = .ok (.aload_n 0, 1) := by decide +kernel
theorem dX10_saw_25 : decode cX10_saw 25 = .ok (.invokevirtual 205, 3) := by decide +kernel
theorem dX10_saw_28 : decode cX10_saw 28 = .ok (.aload_n 0, 1) := by decide +kernel
theorem dX10_saw_29 : decode cX10_saw 29 = .ok (.getfield 47, 3) := by decide +kernel
theorem dX10_saw_32 : decode cX10_saw 32 = .ok (.iconst 1, 1) := by decide +kernel
theorem dX10_saw_33 : decode cX10_saw 33 = .ok (.iconst 3, 1) := by decide +kernel
theorem dX10_saw_34 : decode cX10_saw 34 = .ok (.iload_n 1, 1) := by decide +kernel
theorem dX10_saw_35 : decode cX10_saw 35 = .ok (.imul, 1) := by decide +kernel
theorem dX10_saw_36 : decode cX10_saw 36 = .ok (.iadd, 1) := by decide +kernel
theorem dX10_saw_37 : decode cX10_saw 37 = .ok (.iconst 1, 1) := by decide +kernel
theorem dX10_saw_38 : decode cX10_saw 38 = .ok (.iadd, 1) := by decide +kernel
theorem dX10_saw_39 : decode cX10_saw 39 = .ok (.dup2, 1) := by decide +kernel
theorem dX10_saw_40 : decode cX10_saw 40 = .ok (.iaload, 1) := by decide +kernel
theorem dX10_saw_41 : decode cX10_saw 41 = .ok (.iload_n 2, 1) := by decide +kernel
theorem dX10_saw_42 : decode cX10_saw 42 = .ok (.iadd, 1) := by decide +kernel
theorem dX10_saw_43 : decode cX10_saw 43 = .ok (.iastore, 1) := by decide +kernel
theorem dX10_saw_44 : decode cX10_saw 44 = .ok (.aload_n 0, 1) := by decide +kernel
theorem dX10_saw_45 : decode cX10_saw 45 = .ok (.aload_n 0, 1) := by decide +kernel
theorem dX10_saw_46 : decode cX10_saw 46 = .ok (.getfield 47, 3) := by decide +kernel
theorem dX10_saw_49 : decode cX10_saw 49 = .ok (.iload_n 1, 1) := by decide +kernel
theorem dX10_saw_50 : decode cX10_saw 50 = .ok (.invokevirtual 185, 3) := by decide +kernel
theorem dX10_saw_53 : decode cX10_saw 53 = .ok (.ireturn, 1) := by decide +kernel
set_option maxRecDepth 20000 in
theorem ggX10_pay_X10_isDebt : GoodIn wsX10_pay wsX10_isDebt := goodIn_r _ [8, 9, 10, 11, 7, 12, 31, 32, 33, 34, 35, 36, 37, 38, 39, 40, 41, 42, 43, 44, 45, 46, 47, 48, 49, 50, 51, 52, 53, 54, 55, 56, 57, 58, 59, 60] (by decide +kernel) (by decide +kernel)
set_option maxRecDepth 20000 in
theorem gX10_pay_X10_isDebt : GoodIn wsX10_pay (wsV RX10 194 RX10 yX10_isDebt wsX10_isDebt) := goodIn_app (goodIn_of _ (by decide +kernel)) ggX10_pay_X10_isDebt
set_option maxRecDepth 20000 in
theorem ggX10_pay_X10_isDue : GoodIn wsX10_pay wsX10_isDue := goodIn_r _ [16, 17, 18, 19, 7, 20, 21, 31, 32, 33, 34, 35, 36, 37, 38, 39, 40, 41, 42, 43, 44, 45, 46, 47, 48, 49, 50, 51, 52, 53, 54, 55, 56, 57, 58, 59, 60] (by decide +kernel) (by decide +kernel)
set_option maxRecDepth 20000 in
theorem gX10_pay_X10_isDue : GoodIn wsX10_pay (wsV RX10 160 RX10 yX10_isDue wsX10_isDue) := goodIn_app (goodIn_of _ (by decide +kernel)) ggX10_pay_X10_isDue
set_option maxRecDepth 20000 in
theorem ggX10_pay_X10_notes : GoodIn wsX10_pay wsX10_notes := goodIn_r _ [25, 26, 27, 2, 28, 29, 7, 30, 31, 32, 33, 34, 35, 36, 37, 38, 39, 40, 41, 42, 43, 44, 45, 46, 47, 48, 49, 50, 51, 52, 53, 54, 55, 56, 57, 58, 59, 60] (by decide +kernel) (by decide +kernel)
set_option maxRecDepth 20000 in
theorem gX10_pay_X10_notes : GoodIn wsX10_pay (wsV RX10 205 RX10 yX10_notes wsX10_notes) := goodIn_app (goodIn_of _ (by decide +kernel)) ggX10_pay_X10_notes
set_option maxRecDepth 20000 in
theorem ggX10_pay_X10_sinceOf : GoodIn wsX10_pay wsX10_sinceOf := goodIn_r _ [20, 21, 31, 32, 33, 34, 35, 36, 37, 38, 39, 40, 41, 42, 43, 44, 45, 46, 47, 48, 49, 50, 51, 52, 53, 54, 55, 56, 57, 58, 59, 60] (by decide +kernel) (by decide +kernel)
set_option maxRecDepth 20000 in
theorem gX10_pay_X10_sinceOf : GoodIn wsX10_pay (wsV RX10 156 RX10 yX10_sinceOf wsX10_sinceOf) := goodIn_app (goodIn_of _ (by decide +kernel)) ggX10_pay_X10_sinceOf
theorem dX10_pay_0 : decode cX10_pay 0 = .ok (.aload_n 0, 1) := by decide +kernel
theorem dX10_pay_1 : decode cX10_pay 1 = .ok (.iload_n 1, 1) := by decide +kernel
theorem dX10_pay_2 : decode cX10_pay 2 = .ok (.invokevirtual 194, 3) := by decide +kernel
theorem dX10_pay_5 : decode cX10_pay 5 = .ok (.ifCond .ne 6, 3) := by decide +kernel
theorem dX10_pay_8 : decode cX10_pay 8 = .ok (.ldc 184, 2) := by decide +kernel
theorem dX10_pay_10 : decode cX10_pay 10 = .ok (.ireturn, 1) := by decide +kernel
theorem dX10_pay_11 : decode cX10_pay 11 = .ok (.aload_n 0, 1) := by decide +kernel
theorem dX10_pay_12 : decode cX10_pay 12 = .ok (.aload_n 0, 1) := by decide +kernel
theorem dX10_pay_13 : decode cX10_pay 13 = .ok (.getfield 47, 3) := by decide +kernel
theorem dX10_pay_16 : decode cX10_pay 16 = .ok (.iload_n 1, 1) := by decide +kernel
theorem dX10_pay_17 : decode cX10_pay 17 = .ok (.invokevirtual 160, 3) := by decide +kernel
theorem dX10_pay_20 : decode cX10_pay 20 = .ok (.ifCond .ne 6, 3) := by decide +kernel
theorem dX10_pay_23 : decode cX10_pay 23 = .ok (.ldc 179, 2) := by decide +kernel
theorem dX10_pay_25 : decode cX10_pay 25 = .ok (.ireturn, 1) := by decide +kernel
theorem dX10_pay_26 : decode cX10_pay 26 = .ok (.aload_n 0, 1) := by decide +kernel
theorem dX10_pay_27 : decode cX10_pay 27 = .ok (.invokevirtual 205, 3) := by decide +kernel
theorem dX10_pay_30 : decode cX10_pay 30 = .ok (.aload_n 0, 1) := by decide +kernel
theorem dX10_pay_31 : decode cX10_pay 31 = .ok (.aload_n 0, 1) := by decide +kernel
theorem dX10_pay_32 : decode cX10_pay 32 = .ok (.getfield 47, 3) := by decide +kernel
theorem dX10_pay_35 : decode cX10_pay 35 = .ok (.iload_n 1, 1) := by decide +kernel
theorem dX10_pay_36 : decode cX10_pay 36 = .ok (.invokevirtual 156, 3) := by decide +kernel
theorem dX10_pay_39 : decode cX10_pay 39 = .ok (.istore_n 2, 1) := by decide +kernel
theorem dX10_pay_40 : decode cX10_pay 40 = .ok (.aload_n 0, 1) := by decide +kernel
theorem dX10_pay_41 : decode cX10_pay 41 = .ok (.getfield 47, 3) := by decide +kernel
theorem dX10_pay_44 : decode cX10_pay 44 = .ok (.bipush 25, 2) := by decide +kernel
theorem dX10_pay_46 : decode cX10_pay 46 = .ok (.iconst 2, 1) := by decide +kernel
theorem dX10_pay_47 : decode cX10_pay 47 = .ok (.iload_n 1, 1) := by decide +kernel
theorem dX10_pay_48 : decode cX10_pay 48 = .ok (.imul, 1) := by decide +kernel
theorem dX10_pay_49 : decode cX10_pay 49 = .ok (.iadd, 1) := by decide +kernel
theorem dX10_pay_50 : decode cX10_pay 50 = .ok (.iconst 0, 1) := by decide +kernel
theorem dX10_pay_51 : decode cX10_pay 51 = .ok (.iastore, 1) := by decide +kernel
theorem dX10_pay_52 : decode cX10_pay 52 = .ok (.aload_n 0, 1) := by decide +kernel
theorem dX10_pay_53 : decode cX10_pay 53 = .ok (.getfield 47, 3) := by decide +kernel
theorem dX10_pay_56 : decode cX10_pay 56 = .ok (.bipush 25, 2) := by decide +kernel
theorem dX10_pay_58 : decode cX10_pay 58 = .ok (.iconst 2, 1) := by decide +kernel
theorem dX10_pay_59 : decode cX10_pay 59 = .ok (.iload_n 1, 1) := by decide +kernel
theorem dX10_pay_60 : decode cX10_pay 60 = .ok (.imul, 1) := by decide +kernel
theorem dX10_pay_61 : decode cX10_pay 61 = .ok (.iadd, 1) := by decide +kernel
theorem dX10_pay_62 : decode cX10_pay 62 = .ok (.iconst 1, 1) := by decide +kernel
theorem dX10_pay_63 : decode cX10_pay 63 = .ok (.iadd, 1) := by decide +kernel
theorem dX10_pay_64 : decode cX10_pay 64 = .ok (.iconst 0, 1) := by decide +kernel
theorem dX10_pay_65 : decode cX10_pay 65 = .ok (.iastore, 1) := by decide +kernel
theorem dX10_pay_66 : decode cX10_pay 66 = .ok (.iload_n 2, 1) := by decide +kernel
theorem dX10_pay_67 : decode cX10_pay 67 = .ok (.ireturn, 1) := by decide +kernel
set_option maxRecDepth 20000 in
theorem ggX10_lend_X10_isDebt : GoodIn wsX10_lend wsX10_isDebt := goodIn_r _ [11, 6, 12, 13, 10, 14, 24, 25, 26, 27, 28, 29, 30, 31, 32, 33, 34, 35, 36, 37, 38, 39, 40, 41, 42, 43, 44, 45, 46, 47, 48, 49, 50, 51, 52, 53] (by decide +kernel) (by decide +kernel)
set_option maxRecDepth 20000 in
theorem gX10_lend_X10_isDebt : GoodIn wsX10_lend (wsV RX10 194 RX10 yX10_isDebt wsX10_isDebt) := goodIn_app (goodIn_of _ (by decide +kernel)) ggX10_lend_X10_isDebt
set_option maxRecDepth 20000 in
theorem ggX10_lend_X10_in : GoodIn wsX10_lend wsX10_in := goodIn_r _ [14] (by decide +kernel) (by decide +kernel)
set_option maxRecDepth 20000 in
theorem gX10_lend_X10_in : GoodIn wsX10_lend (va_wsS RX10 81 yX10_in wsX10_in) := goodIn_app (goodIn_of _ (by decide +kernel)) ggX10_lend_X10_in
set_option maxRecDepth 20000 in
theorem ggX10_lend_X10_notes : GoodIn wsX10_lend wsX10_notes := goodIn_r _ [18, 19, 20, 3, 21, 22, 10, 23, 24, 25, 26, 27, 28, 29, 30, 31, 32, 33, 34, 35, 36, 37, 38, 39, 40, 41, 42, 43, 44, 45, 46, 47, 48, 49, 50, 51, 52, 53] (by decide +kernel) (by decide +kernel)
set_option maxRecDepth 20000 in
theorem gX10_lend_X10_notes : GoodIn wsX10_lend (wsV RX10 205 RX10 yX10_notes wsX10_notes) := goodIn_app (goodIn_of _ (by decide +kernel)) ggX10_lend_X10_notes
theorem dX10_lend_0 : decode cX10_lend 0 = .ok (.aload_n 0, 1) := by decide +kernel
theorem dX10_lend_1 : decode cX10_lend 1 = .ok (.iload_n 1, 1) := by decide +kernel
theorem dX10_lend_2 : decode cX10_lend 2 = .ok (.invokevirtual 194, 3) := by decide +kernel
theorem dX10_lend_5 : decode cX10_lend 5 = .ok (.ifCond .ne 6, 3) := by decide +kernel
theorem dX10_lend_8 : decode cX10_lend 8 = .ok (.ldc 184, 2) := by decide +kernel
theorem dX10_lend_10 : decode cX10_lend 10 = .ok (.ireturn, 1) := by decide +kernel
theorem dX10_lend_11 : decode cX10_lend 11 = .ok (.iload_n 2, 1) := by decide +kernel
theorem dX10_lend_12 : decode cX10_lend 12 = .ok (.iconst 1, 1) := by decide +kernel
theorem dX10_lend_13 : decode cX10_lend 13 = .ok (.sipush 999, 3) := by decide +kernel
theorem dX10_lend_16 : decode cX10_lend 16 = .ok (.invokestatic 81, 3) := by decide +kernel
theorem dX10_lend_19 : decode cX10_lend 19 = .ok (.ifCond .ne 6, 3) := by decide +kernel
theorem dX10_lend_22 : decode cX10_lend 22 = .ok (.ldc 85, 2) := by decide +kernel
theorem dX10_lend_24 : decode cX10_lend 24 = .ok (.ireturn, 1) := by decide +kernel
theorem dX10_lend_25 : decode cX10_lend 25 = .ok (.aload_n 0, 1) := by decide +kernel
theorem dX10_lend_26 : decode cX10_lend 26 = .ok (.getfield 47, 3) := by decide +kernel
theorem dX10_lend_29 : decode cX10_lend 29 = .ok (.bipush 25, 2) := by decide +kernel
theorem dX10_lend_31 : decode cX10_lend 31 = .ok (.iconst 2, 1) := by decide +kernel
theorem dX10_lend_32 : decode cX10_lend 32 = .ok (.iload_n 1, 1) := by decide +kernel
theorem dX10_lend_33 : decode cX10_lend 33 = .ok (.imul, 1) := by decide +kernel
theorem dX10_lend_34 : decode cX10_lend 34 = .ok (.iadd, 1) := by decide +kernel
theorem dX10_lend_35 : decode cX10_lend 35 = .ok (.iaload, 1) := by decide +kernel
theorem dX10_lend_36 : decode cX10_lend 36 = .ok (.ifCond .eq 6, 3) := by decide +kernel
theorem dX10_lend_39 : decode cX10_lend 39 = .ok (.ldc 179, 2) := by decide +kernel
theorem dX10_lend_41 : decode cX10_lend 41 = .ok (.ireturn, 1) := by decide +kernel
theorem dX10_lend_42 : decode cX10_lend 42 = .ok (.aload_n 0, 1) := by decide +kernel
theorem dX10_lend_43 : decode cX10_lend 43 = .ok (.invokevirtual 205, 3) := by decide +kernel
theorem dX10_lend_46 : decode cX10_lend 46 = .ok (.aload_n 0, 1) := by decide +kernel
theorem dX10_lend_47 : decode cX10_lend 47 = .ok (.getfield 47, 3) := by decide +kernel
theorem dX10_lend_50 : decode cX10_lend 50 = .ok (.bipush 25, 2) := by decide +kernel
theorem dX10_lend_52 : decode cX10_lend 52 = .ok (.iconst 2, 1) := by decide +kernel
theorem dX10_lend_53 : decode cX10_lend 53 = .ok (.iload_n 1, 1) := by decide +kernel
theorem dX10_lend_54 : decode cX10_lend 54 = .ok (.imul, 1) := by decide +kernel
theorem dX10_lend_55 : decode cX10_lend 55 = .ok (.iadd, 1) := by decide +kernel
theorem dX10_lend_56 : decode cX10_lend 56 = .ok (.iload_n 2, 1) := by decide +kernel
theorem dX10_lend_57 : decode cX10_lend 57 = .ok (.iastore, 1) := by decide +kernel
theorem dX10_lend_58 : decode cX10_lend 58 = .ok (.aload_n 0, 1) := by decide +kernel
theorem dX10_lend_59 : decode cX10_lend 59 = .ok (.getfield 47, 3) := by decide +kernel
theorem dX10_lend_62 : decode cX10_lend 62 = .ok (.bipush 25, 2) := by decide +kernel
theorem dX10_lend_64 : decode cX10_lend 64 = .ok (.iconst 2, 1) := by decide +kernel
theorem dX10_lend_65 : decode cX10_lend 65 = .ok (.iload_n 1, 1) := by decide +kernel
theorem dX10_lend_66 : decode cX10_lend 66 = .ok (.imul, 1) := by decide +kernel
theorem dX10_lend_67 : decode cX10_lend 67 = .ok (.iadd, 1) := by decide +kernel
theorem dX10_lend_68 : decode cX10_lend 68 = .ok (.iconst 1, 1) := by decide +kernel
theorem dX10_lend_69 : decode cX10_lend 69 = .ok (.iadd, 1) := by decide +kernel
theorem dX10_lend_70 : decode cX10_lend 70 = .ok (.aload_n 0, 1) := by decide +kernel
theorem dX10_lend_71 : decode cX10_lend 71 = .ok (.getfield 47, 3) := by decide +kernel
theorem dX10_lend_74 : decode cX10_lend 74 = .ok (.iconst 1, 1) := by decide +kernel
theorem dX10_lend_75 : decode cX10_lend 75 = .ok (.iconst 3, 1) := by decide +kernel
theorem dX10_lend_76 : decode cX10_lend 76 = .ok (.aload_n 0, 1) := by decide +kernel
theorem dX10_lend_77 : decode cX10_lend 77 = .ok (.getfield 29, 3) := by decide +kernel
theorem dX10_lend_80 : decode cX10_lend 80 = .ok (.iconst 2, 1) := by decide +kernel
theorem dX10_lend_81 : decode cX10_lend 81 = .ok (.iload_n 1, 1) := by decide +kernel
theorem dX10_lend_82 : decode cX10_lend 82 = .ok (.imul, 1) := by decide +kernel
theorem dX10_lend_83 : decode cX10_lend 83 = .ok (.iaload, 1) := by decide +kernel
theorem dX10_lend_84 : decode cX10_lend 84 = .ok (.imul, 1) := by decide +kernel
theorem dX10_lend_85 : decode cX10_lend 85 = .ok (.iadd, 1) := by decide +kernel
theorem dX10_lend_86 : decode cX10_lend 86 = .ok (.iconst 2, 1) := by decide +kernel
theorem dX10_lend_87 : decode cX10_lend 87 = .ok (.iadd, 1) := by decide +kernel
theorem dX10_lend_88 : decode cX10_lend 88 = .ok (.iaload, 1) := by decide +kernel
theorem dX10_lend_89 : decode cX10_lend 89 = .ok (.iastore, 1) := by decide +kernel
theorem dX10_lend_90 : decode cX10_lend 90 = .ok (.iconst 0, 1) := by decide +kernel
theorem dX10_lend_91 : decode cX10_lend 91 = .ok (.istore_n 3, 1) := by decide +kernel
theorem dX10_lend_92 : decode cX10_lend 92 = .ok (.iconst 0, 1) := by decide +kernel
theorem dX10_lend_93 : decode cX10_lend 93 = .ok (.istore 4, 2) := by decide +kernel
theorem dX10_lend_95 : decode cX10_lend 95 = .ok (.iload 4, 2) := by decide +kernel
theorem dX10_lend_97 : decode cX10_lend 97 = .ok (.aload_n 0, 1) := by decide +kernel
theorem dX10_lend_98 : decode cX10_lend 98 = .ok (.getfield 17, 3) := by decide +kernel
theorem dX10_lend_101 : decode cX10_lend 101 = .ok (.iconst 3, 1) := by decide +kernel
theorem dX10_lend_102 : decode cX10_lend 102 = .ok (.iaload, 1) := by decide +kernel
theorem dX10_lend_103 : decode cX10_lend 103 = .ok (.if_icmp .ge 35, 3) := by decide +kernel
theorem dX10_lend_106 : decode cX10_lend 106 = .ok (.iload_n 3, 1) := by decide +kernel
theorem dX10_lend_107 : decode cX10_lend 107 = .ok (.aload_n 0, 1) := by decide +kernel
theorem dX10_lend_108 : decode cX10_lend 108 = .ok (.getfield 47, 3) := by decide +kernel
theorem dX10_lend_111 : decode cX10_lend 111 = .ok (.bipush 25, 2) := by decide +kernel
theorem dX10_lend_113 : decode cX10_lend 113 = .ok (.iconst 2, 1) := by decide +kernel
theorem dX10_lend_114 : decode cX10_lend 114 = .ok (.iload 4, 2) := by decide +kernel
theorem dX10_lend_116 : decode cX10_lend 116 = .ok (.imul, 1) := by decide +kernel
theorem dX10_lend_117 : decode cX10_lend 117 = .ok (.iadd, 1) := by decide +kernel
theorem dX10_lend_118 : decode cX10_lend 118 = .ok (.iaload, 1) := by decide +kernel
theorem dX10_lend_119 : decode cX10_lend 119 = .ok (.ifCond .le 10, 3) := by decide +kernel
