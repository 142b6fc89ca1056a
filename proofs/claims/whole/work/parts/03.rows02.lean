theorem dX7_addDebt_18 : decode cX7_addDebt 18 = .ok (.aload_n 0, 1) := by decide +kernel
theorem dX7_addDebt_19 : decode cX7_addDebt 19 = .ok (.getfield 33, 3) := by decide +kernel
theorem dX7_addDebt_22 : decode cX7_addDebt 22 = .ok (.aload_n 0, 1) := by decide +kernel
theorem dX7_addDebt_23 : decode cX7_addDebt 23 = .ok (.getfield 46, 3) := by decide +kernel
theorem dX7_addDebt_26 : decode cX7_addDebt 26 = .ok (.iload_n 2, 1) := by decide +kernel
theorem dX7_addDebt_27 : decode cX7_addDebt 27 = .ok (.iastore, 1) := by decide +kernel
theorem dX7_addDebt_28 : decode cX7_addDebt 28 = .ok (.aload_n 0, 1) := by decide +kernel
theorem dX7_addDebt_29 : decode cX7_addDebt 29 = .ok (.dup, 1) := by decide +kernel
theorem dX7_addDebt_30 : decode cX7_addDebt 30 = .ok (.getfield 46, 3) := by decide +kernel
theorem dX7_addDebt_33 : decode cX7_addDebt 33 = .ok (.iconst 1, 1) := by decide +kernel
theorem dX7_addDebt_34 : decode cX7_addDebt 34 = .ok (.iadd, 1) := by decide +kernel
theorem dX7_addDebt_35 : decode cX7_addDebt 35 = .ok (.putfield 46, 3) := by decide +kernel
theorem dX7_addDebt_38 : decode cX7_addDebt 38 = .ok (.return_, 1) := by decide +kernel
theorem dX8_init_0 : decode cX8_init 0 = .ok (.aload_n 0, 1) := by decide +kernel
theorem dX8_init_1 : decode cX8_init 1 = .ok (.invokespecial 3, 3) := by decide +kernel
theorem dX8_init_4 : decode cX8_init 4 = .ok (.aload_n 0, 1) := by decide +kernel
theorem dX8_init_5 : decode cX8_init 5 = .ok (.sipush 1000, 3) := by decide +kernel
theorem dX8_init_8 : decode cX8_init 8 = .ok (.newarray .int, 2) := by decide +kernel
theorem dX8_init_10 : decode cX8_init 10 = .ok (.putfield 9, 3) := by decide +kernel
theorem dX8_init_13 : decode cX8_init 13 = .ok (.aload_n 0, 1) := by decide +kernel
theorem dX8_init_14 : decode cX8_init 14 = .ok (.iconst 4, 1) := by decide +kernel
theorem dX8_init_15 : decode cX8_init 15 = .ok (.newarray .long, 2) := by decide +kernel
theorem dX8_init_17 : decode cX8_init 17 = .ok (.putfield 15, 3) := by decide +kernel
theorem dX8_init_20 : decode cX8_init 20 = .ok (.aload_n 0, 1) := by decide +kernel
theorem dX8_init_21 : decode cX8_init 21 = .ok (.aload_n 1, 1) := by decide +kernel
theorem dX8_init_22 : decode cX8_init 22 = .ok (.putfield 19, 3) := by decide +kernel
theorem dX8_init_25 : decode cX8_init 25 = .ok (.aload_n 0, 1) := by decide +kernel
theorem dX8_init_26 : decode cX8_init 26 = .ok (.aload_n 2, 1) := by decide +kernel
theorem dX8_init_27 : decode cX8_init 27 = .ok (.putfield 23, 3) := by decide +kernel
theorem dX8_init_30 : decode cX8_init 30 = .ok (.return_, 1) := by decide +kernel
set_option maxRecDepth 20000 in
theorem ggX8_inchesBehind_X6_nights : GoodIn wsX8_inchesBehind wsX6_nights := goodIn_r _ [11, 12, 24] (by decide +kernel) (by decide +kernel)
set_option maxRecDepth 20000 in
theorem gX8_inchesBehind_X6_nights : GoodIn wsX8_inchesBehind (wsV RX8 27 RX6 yX6_nights wsX6_nights) := goodIn_app (goodIn_of _ (by decide +kernel)) ggX8_inchesBehind_X6_nights
set_option maxRecDepth 20000 in
theorem ggX8_inchesBehind_X7_inchesOf : GoodIn wsX8_inchesBehind wsX7_inchesOf := goodIn_r _ [17, 18, 19, 25, 26, 27, 28, 29, 30, 31, 32, 33, 34, 35, 36] (by decide +kernel) (by decide +kernel)
set_option maxRecDepth 20000 in
theorem gX8_inchesBehind_X7_inchesOf : GoodIn wsX8_inchesBehind (wsV RX8 33 RX7 yX7_inchesOf wsX7_inchesOf) := goodIn_app (goodIn_of _ (by decide +kernel)) ggX8_inchesBehind_X7_inchesOf
theorem dX8_inchesBehind_0 : decode cX8_inchesBehind 0 = .ok (.iconst 0, 1) := by decide +kernel
theorem dX8_inchesBehind_1 : decode cX8_inchesBehind 1 = .ok (.aload_n 0, 1) := by decide +kernel
theorem dX8_inchesBehind_2 : decode cX8_inchesBehind 2 = .ok (.getfield 19, 3) := by decide +kernel
theorem dX8_inchesBehind_5 : decode cX8_inchesBehind 5 = .ok (.aload_n 0, 1) := by decide +kernel
theorem dX8_inchesBehind_6 : decode cX8_inchesBehind 6 = .ok (.getfield 23, 3) := by decide +kernel
theorem dX8_inchesBehind_9 : decode cX8_inchesBehind 9 = .ok (.invokevirtual 27, 3) := by decide +kernel
theorem dX8_inchesBehind_12 : decode cX8_inchesBehind 12 = .ok (.iload_n 1, 1) := by decide +kernel
theorem dX8_inchesBehind_13 : decode cX8_inchesBehind 13 = .ok (.iadd, 1) := by decide +kernel
theorem dX8_inchesBehind_14 : decode cX8_inchesBehind 14 = .ok (.invokevirtual 33, 3) := by decide +kernel
theorem dX8_inchesBehind_17 : decode cX8_inchesBehind 17 = .ok (.iload_n 2, 1) := by decide +kernel
theorem dX8_inchesBehind_18 : decode cX8_inchesBehind 18 = .ok (.isub, 1) := by decide +kernel
theorem dX8_inchesBehind_19 : decode cX8_inchesBehind 19 = .ok (.invokestatic 39, 3) := by decide +kernel
theorem dX8_inchesBehind_22 : decode cX8_inchesBehind 22 = .ok (.ireturn, 1) := by decide +kernel
set_option maxRecDepth 20000 in
theorem ggX8_isFallBehind_X8_inchesBehind : GoodIn wsX8_isFallBehind wsX8_inchesBehind := goodIn_r _ [6, 1, 7, 8, 9, 10, 11, 12, 13, 14, 15, 16, 17, 18, 19, 20, 21, 22, 23, 24, 30, 31, 32, 33, 34, 35, 36, 37, 38, 39, 40, 41, 42, 43, 44, 45, 46] (by decide +kernel) (by decide +kernel)
set_option maxRecDepth 20000 in
theorem gX8_isFallBehind_X8_inchesBehind : GoodIn wsX8_isFallBehind (wsV RX8 45 RX8 yX8_inchesBehind wsX8_inchesBehind) := goodIn_app (goodIn_of _ (by decide +kernel)) ggX8_isFallBehind_X8_inchesBehind
set_option maxRecDepth 20000 in
theorem ggX8_isFallBehind_X7_isFall : GoodIn wsX8_isFallBehind wsX7_isFall := goodIn_r _ [28, 29, 35, 36, 37, 38, 39, 40, 41, 42, 43, 44, 45, 46] (by decide +kernel) (by decide +kernel)
set_option maxRecDepth 20000 in
theorem gX8_isFallBehind_X7_isFall : GoodIn wsX8_isFallBehind (wsV RX8 48 RX7 yX7_isFall wsX7_isFall) := goodIn_app (goodIn_of _ (by decide +kernel)) ggX8_isFallBehind_X7_isFall
theorem dX8_isFallBehind_0 : decode cX8_isFallBehind 0 = .ok (.aload_n 0, 1) := by decide +kernel
theorem dX8_isFallBehind_1 : decode cX8_isFallBehind 1 = .ok (.getfield 19, 3) := by decide +kernel
theorem dX8_isFallBehind_4 : decode cX8_isFallBehind 4 = .ok (.iload_n 1, 1) := by decide +kernel
theorem dX8_isFallBehind_5 : decode cX8_isFallBehind 5 = .ok (.aload_n 0, 1) := by decide +kernel
theorem dX8_isFallBehind_6 : decode cX8_isFallBehind 6 = .ok (.iload_n 2, 1) := by decide +kernel
theorem dX8_isFallBehind_7 : decode cX8_isFallBehind 7 = .ok (.iconst 0, 1) := by decide +kernel
theorem dX8_isFallBehind_8 : decode cX8_isFallBehind 8 = .ok (.invokevirtual 45, 3) := by decide +kernel
theorem dX8_isFallBehind_11 : decode cX8_isFallBehind 11 = .ok (.invokevirtual 48, 3) := by decide +kernel
theorem dX8_isFallBehind_14 : decode cX8_isFallBehind 14 = .ok (.ireturn, 1) := by decide +kernel
set_option maxRecDepth 20000 in
theorem ggX8_nightsTillDue_X6_lack : GoodIn wsX8_nightsTillDue wsX6_lack := goodIn_r _ [8, 9, 10, 11, 12, 13, 14, 15, 7, 16, 17, 18, 19, 20, 21, 22, 23, 24, 25, 26, 66, 54, 55, 56, 57, 58, 59, 60, 61, 62, 63, 64, 65] (by decide +kernel) (by decide +kernel)
set_option maxRecDepth 20000 in
theorem gX8_nightsTillDue_X6_lack : GoodIn wsX8_nightsTillDue (wsV RX8 55 RX6 yX6_lack wsX6_lack) := goodIn_app (goodIn_of _ (by decide +kernel)) ggX8_nightsTillDue_X6_lack
set_option maxRecDepth 20000 in
theorem ggX8_nightsTillDue_X8_inchesBehind : GoodIn wsX8_nightsTillDue wsX8_inchesBehind := goodIn_r _ [31, 1, 3, 32, 10, 11, 12, 33, 34, 35, 7, 36, 17, 37, 38, 39, 40, 41, 42, 43, 50, 51, 52, 53, 66, 54, 55, 56, 57, 58, 59, 60, 61, 62, 63, 64, 65] (by decide +kernel) (by decide +kernel)
set_option maxRecDepth 20000 in
theorem gX8_nightsTillDue_X8_inchesBehind : GoodIn wsX8_nightsTillDue (wsV RX8 45 RX8 yX8_inchesBehind wsX8_inchesBehind) := goodIn_app (goodIn_of _ (by decide +kernel)) ggX8_nightsTillDue_X8_inchesBehind
set_option maxRecDepth 20000 in
theorem ggX8_nightsTillDue_X7_depth : GoodIn wsX8_nightsTillDue wsX7_depth := goodIn_r _ [47, 48, 49, 10, 11, 12, 54, 55, 56, 57, 58, 59, 60, 61, 62, 63, 64, 65] (by decide +kernel) (by decide +kernel)
set_option maxRecDepth 20000 in
theorem gX8_nightsTillDue_X7_depth : GoodIn wsX8_nightsTillDue (wsV RX8 59 RX7 yX7_depth wsX7_depth) := goodIn_app (goodIn_of _ (by decide +kernel)) ggX8_nightsTillDue_X7_depth
theorem dX8_nightsTillDue_0 : decode cX8_nightsTillDue 0 = .ok (.aload_n 0, 1) := by decide +kernel
theorem dX8_nightsTillDue_1 : decode cX8_nightsTillDue 1 = .ok (.getfield 19, 3) := by decide +kernel
theorem dX8_nightsTillDue_4 : decode cX8_nightsTillDue 4 = .ok (.getfield 52, 3) := by decide +kernel
theorem dX8_nightsTillDue_7 : decode cX8_nightsTillDue 7 = .ok (.iload_n 1, 1) := by decide +kernel
theorem dX8_nightsTillDue_8 : decode cX8_nightsTillDue 8 = .ok (.iaload, 1) := by decide +kernel
theorem dX8_nightsTillDue_9 : decode cX8_nightsTillDue 9 = .ok (.istore_n 2, 1) := by decide +kernel
theorem dX8_nightsTillDue_10 : decode cX8_nightsTillDue 10 = .ok (.aload_n 0, 1) := by decide +kernel
theorem dX8_nightsTillDue_11 : decode cX8_nightsTillDue 11 = .ok (.getfield 23, 3) := by decide +kernel
theorem dX8_nightsTillDue_14 : decode cX8_nightsTillDue 14 = .ok (.aload_n 0, 1) := by decide +kernel
theorem dX8_nightsTillDue_15 : decode cX8_nightsTillDue 15 = .ok (.getfield 19, 3) := by decide +kernel
theorem dX8_nightsTillDue_18 : decode cX8_nightsTillDue 18 = .ok (.iload_n 1, 1) := by decide +kernel
theorem dX8_nightsTillDue_19 : decode cX8_nightsTillDue 19 = .ok (.invokevirtual 55, 3) := by decide +kernel
theorem dX8_nightsTillDue_22 : decode cX8_nightsTillDue 22 = .ok (.istore_n 3, 1) := by decide +kernel
theorem dX8_nightsTillDue_23 : decode cX8_nightsTillDue 23 = .ok (.iconst 0, 1) := by decide +kernel
theorem dX8_nightsTillDue_24 : decode cX8_nightsTillDue 24 = .ok (.istore 4, 2) := by decide +kernel
theorem dX8_nightsTillDue_26 : decode cX8_nightsTillDue 26 = .ok (.iload 4, 2) := by decide +kernel
theorem dX8_nightsTillDue_28 : decode cX8_nightsTillDue 28 = .ok (.sipush 200, 3) := by decide +kernel
theorem dX8_nightsTillDue_31 : decode cX8_nightsTillDue 31 = .ok (.if_icmp .gt 34, 3) := by decide +kernel
theorem dX8_nightsTillDue_34 : decode cX8_nightsTillDue 34 = .ok (.iload_n 3, 1) := by decide +kernel
theorem dX8_nightsTillDue_35 : decode cX8_nightsTillDue 35 = .ok (.ifCond .gt 6, 3) := by decide +kernel
theorem dX8_nightsTillDue_38 : decode cX8_nightsTillDue 38 = .ok (.iload 4, 2) := by decide +kernel
theorem dX8_nightsTillDue_40 : decode cX8_nightsTillDue 40 = .ok (.ireturn, 1) := by decide +kernel
theorem dX8_nightsTillDue_41 : decode cX8_nightsTillDue 41 = .ok (.iload_n 3, 1) := by decide +kernel
theorem dX8_nightsTillDue_42 : decode cX8_nightsTillDue 42 = .ok (.aload_n 0, 1) := by decide +kernel
theorem dX8_nightsTillDue_43 : decode cX8_nightsTillDue 43 = .ok (.getfield 19, 3) := by decide +kernel
theorem dX8_nightsTillDue_46 : decode cX8_nightsTillDue 46 = .ok (.iload_n 2, 1) := by decide +kernel
theorem dX8_nightsTillDue_47 : decode cX8_nightsTillDue 47 = .ok (.aload_n 0, 1) := by decide +kernel
theorem dX8_nightsTillDue_48 : decode cX8_nightsTillDue 48 = .ok (.iload 4, 2) := by decide +kernel
theorem dX8_nightsTillDue_50 : decode cX8_nightsTillDue 50 = .ok (.iconst 0, 1) := by decide +kernel
theorem dX8_nightsTillDue_51 : decode cX8_nightsTillDue 51 = .ok (.invokevirtual 45, 3) := by decide +kernel
theorem dX8_nightsTillDue_54 : decode cX8_nightsTillDue 54 = .ok (.invokevirtual 59, 3) := by decide +kernel
theorem dX8_nightsTillDue_57 : decode cX8_nightsTillDue 57 = .ok (.isub, 1) := by decide +kernel
theorem dX8_nightsTillDue_58 : decode cX8_nightsTillDue 58 = .ok (.istore_n 3, 1) := by decide +kernel
theorem dX8_nightsTillDue_59 : decode cX8_nightsTillDue 59 = .ok (.iinc 4 1, 3) := by decide +kernel
theorem dX8_nightsTillDue_62 : decode cX8_nightsTillDue 62 = .ok (.goto (-36), 3) := by decide +kernel
theorem dX8_nightsTillDue_65 : decode cX8_nightsTillDue 65 = .ok (.iconst (-1), 1) := by decide +kernel
theorem dX8_nightsTillDue_66 : decode cX8_nightsTillDue 66 = .ok (.ireturn, 1) := by decide +kernel
set_option maxRecDepth 20000 in
theorem ggX8_ageBehind_X6_home : GoodIn wsX8_ageBehind wsX6_home := goodIn_r _ [7, 8, 47] (by decide +kernel) (by decide +kernel)
set_option maxRecDepth 20000 in
theorem gX8_ageBehind_X6_home : GoodIn wsX8_ageBehind (wsV RX8 62 RX6 yX6_home wsX6_home) := goodIn_app (goodIn_of _ (by decide +kernel)) ggX8_ageBehind_X6_home
set_option maxRecDepth 20000 in
theorem ggX8_ageBehind_X6_lived : GoodIn wsX8_ageBehind wsX6_lived := goodIn_r _ [12, 8, 47] (by decide +kernel) (by decide +kernel)
set_option maxRecDepth 20000 in
theorem gX8_ageBehind_X6_lived : GoodIn wsX8_ageBehind (wsV RX8 65 RX6 yX6_lived wsX6_lived) := goodIn_app (goodIn_of _ (by decide +kernel)) ggX8_ageBehind_X6_lived
set_option maxRecDepth 20000 in
theorem ggX8_ageBehind_X8_inchesBehind : GoodIn wsX8_ageBehind wsX8_inchesBehind := goodIn_r _ [17, 2, 1, 18, 19, 20, 21, 22, 23, 24, 6, 25, 8, 26, 27, 28, 29, 30, 31, 32, 43, 44, 45, 46, 47, 48, 49, 50, 51, 52, 53, 54, 55, 56, 57, 58, 59] (by decide +kernel) (by decide +kernel)
set_option maxRecDepth 20000 in
theorem gX8_ageBehind_X8_inchesBehind : GoodIn wsX8_ageBehind (wsV RX8 45 RX8 yX8_inchesBehind wsX8_inchesBehind) := goodIn_app (goodIn_of _ (by decide +kernel)) ggX8_ageBehind_X8_inchesBehind
set_option maxRecDepth 20000 in
theorem ggX8_ageBehind_X7_isFall : GoodIn wsX8_ageBehind wsX7_isFall := goodIn_r _ [36, 37, 48, 49, 50, 51, 52, 53, 54, 55, 56, 57, 58, 59] (by decide +kernel) (by decide +kernel)
set_option maxRecDepth 20000 in
theorem gX8_ageBehind_X7_isFall : GoodIn wsX8_ageBehind (wsV RX8 48 RX7 yX7_isFall wsX7_isFall) := goodIn_app (goodIn_of _ (by decide +kernel)) ggX8_ageBehind_X7_isFall
set_option maxRecDepth 20000 in
theorem ggX8_ageBehind_X7_years : GoodIn wsX8_ageBehind wsX7_years := goodIn_r _ [41, 42, 48, 49, 50, 51, 52, 53, 54, 55, 56, 57, 58, 59] (by decide +kernel) (by decide +kernel)
set_option maxRecDepth 20000 in
theorem gX8_ageBehind_X7_years : GoodIn wsX8_ageBehind (wsV RX8 68 RX7 yX7_years wsX7_years) := goodIn_app (goodIn_of _ (by decide +kernel)) ggX8_ageBehind_X7_years
theorem dX8_ageBehind_0 : decode cX8_ageBehind 0 = .ok (.aload_n 0, 1) := by decide +kernel
theorem dX8_ageBehind_1 : decode cX8_ageBehind 1 = .ok (.getfield 23, 3) := by decide +kernel
theorem dX8_ageBehind_4 : decode cX8_ageBehind 4 = .ok (.iload_n 1, 1) := by decide +kernel
theorem dX8_ageBehind_5 : decode cX8_ageBehind 5 = .ok (.invokevirtual 62, 3) := by decide +kernel
theorem dX8_ageBehind_8 : decode cX8_ageBehind 8 = .ok (.istore 4, 2) := by decide +kernel
theorem dX8_ageBehind_10 : decode cX8_ageBehind 10 = .ok (.aload_n 0, 1) := by decide +kernel
theorem dX8_ageBehind_11 : decode cX8_ageBehind 11 = .ok (.getfield 23, 3) := by decide +kernel
theorem dX8_ageBehind_14 : decode cX8_ageBehind 14 = .ok (.iload_n 1, 1) := by decide +kernel
theorem dX8_ageBehind_15 : decode cX8_ageBehind 15 = .ok (.invokevirtual 65, 3) := by decide +kernel
theorem dX8_ageBehind_18 : decode cX8_ageBehind 18 = .ok (.istore 5, 2) := by decide +kernel
theorem dX8_ageBehind_20 : decode cX8_ageBehind 20 = .ok (.iconst 0, 1) := by decide +kernel
theorem dX8_ageBehind_21 : decode cX8_ageBehind 21 = .ok (.istore 6, 2) := by decide +kernel
theorem dX8_ageBehind_23 : decode cX8_ageBehind 23 = .ok (.iload 6, 2) := by decide +kernel
theorem dX8_ageBehind_25 : decode cX8_ageBehind 25 = .ok (.iload_n 2, 1) := by decide +kernel
theorem dX8_ageBehind_26 : decode cX8_ageBehind 26 = .ok (.if_icmp .ge 31, 3) := by decide +kernel
theorem dX8_ageBehind_29 : decode cX8_ageBehind 29 = .ok (.aload_n 0, 1) := by decide +kernel
theorem dX8_ageBehind_30 : decode cX8_ageBehind 30 = .ok (.getfield 19, 3) := by decide +kernel
theorem dX8_ageBehind_33 : decode cX8_ageBehind 33 = .ok (.iload 4, 2) := by decide +kernel
theorem dX8_ageBehind_35 : decode cX8_ageBehind 35 = .ok (.aload_n 0, 1) := by decide +kernel
theorem dX8_ageBehind_36 : decode cX8_ageBehind 36 = .ok (.iload 6, 2) := by decide +kernel
theorem dX8_ageBehind_38 : decode cX8_ageBehind 38 = .ok (.iload_n 3, 1) := by decide +kernel
theorem dX8_ageBehind_39 : decode cX8_ageBehind 39 = .ok (.invokevirtual 45, 3) := by decide +kernel
theorem dX8_ageBehind_42 : decode cX8_ageBehind 42 = .ok (.invokevirtual 48, 3) := by decide +kernel
theorem dX8_ageBehind_45 : decode cX8_ageBehind 45 = .ok (.ifCond .eq 6, 3) := by decide +kernel
theorem dX8_ageBehind_48 : decode cX8_ageBehind 48 = .ok (.iinc 5 1, 3) := by decide +kernel
theorem dX8_ageBehind_51 : decode cX8_ageBehind 51 = .ok (.iinc 6 1, 3) := by decide +kernel
theorem dX8_ageBehind_54 : decode cX8_ageBehind 54 = .ok (.goto (-31), 3) := by decide +kernel
theorem dX8_ageBehind_57 : decode cX8_ageBehind 57 = .ok (.aload_n 0, 1) := by decide +kernel
theorem dX8_ageBehind_58 : decode cX8_ageBehind 58 = .ok (.getfield 19, 3) := by decide +kernel
theorem dX8_ageBehind_61 : decode cX8_ageBehind 61 = .ok (.iload 5, 2) := by decide +kernel
theorem dX8_ageBehind_63 : decode cX8_ageBehind 63 = .ok (.iload 4, 2) := by decide +kernel
theorem dX8_ageBehind_65 : decode cX8_ageBehind 65 = .ok (.invokevirtual 68, 3) := by decide +kernel
theorem dX8_ageBehind_68 : decode cX8_ageBehind 68 = .ok (.ireturn, 1) := by decide +kernel
set_option maxRecDepth 20000 in
theorem ggX8_debtsDueBehind_X6_owed : GoodIn wsX8_debtsDueBehind wsX6_owed := goodIn_r _ [8, 9, 72] (by decide +kernel) (by decide +kernel)
set_option maxRecDepth 20000 in
theorem gX8_debtsDueBehind_X6_owed : GoodIn wsX8_debtsDueBehind (wsV RX8 75 RX6 yX6_owed wsX6_owed) := goodIn_app (goodIn_of _ (by decide +kernel)) ggX8_debtsDueBehind_X6_owed
set_option maxRecDepth 20000 in
theorem ggX8_debtsDueBehind_X8_isDueBehind : GoodIn wsX8_debtsDueBehind wsX8_isDueBehind := goodIn_r _ [14, 1, 15, 3, 16, 17, 18, 7, 19, 20, 21, 22, 23, 24, 5, 6, 8, 9, 25, 26, 27, 28, 29, 30, 31, 32, 33, 34, 35, 36, 13, 37, 38, 39, 40, 41, 42, 43, 44, 45, 46, 47, 48, 49, 50, 51, 52, 53, 54, 55, 56, 57, 58, 59, 60, 61, 62, 63, 64, 65, 66, 67, 68, 69, 70, 71, 72] (by decide +kernel) (by decide +kernel)
set_option maxRecDepth 20000 in
theorem gX8_debtsDueBehind_X8_isDueBehind : GoodIn wsX8_debtsDueBehind (wsV RX8 78 RX8 yX8_isDueBehind wsX8_isDueBehind) := goodIn_app (goodIn_of _ (by decide +kernel)) ggX8_debtsDueBehind_X8_isDueBehind
theorem dX8_debtsDueBehind_0 : decode cX8_debtsDueBehind 0 = .ok (.iconst 0, 1) := by decide +kernel
theorem dX8_debtsDueBehind_1 : decode cX8_debtsDueBehind 1 = .ok (.istore_n 3, 1) := by decide +kernel
theorem dX8_debtsDueBehind_2 : decode cX8_debtsDueBehind 2 = .ok (.iconst 0, 1) := by decide +kernel
theorem dX8_debtsDueBehind_3 : decode cX8_debtsDueBehind 3 = .ok (.istore 4, 2) := by decide +kernel
theorem dX8_debtsDueBehind_5 : decode cX8_debtsDueBehind 5 = .ok (.iload 4, 2) := by decide +kernel
theorem dX8_debtsDueBehind_7 : decode cX8_debtsDueBehind 7 = .ok (.aload_n 0, 1) := by decide +kernel
theorem dX8_debtsDueBehind_8 : decode cX8_debtsDueBehind 8 = .ok (.getfield 19, 3) := by decide +kernel
theorem dX8_debtsDueBehind_11 : decode cX8_debtsDueBehind 11 = .ok (.getfield 71, 3) := by decide +kernel
theorem dX8_debtsDueBehind_14 : decode cX8_debtsDueBehind 14 = .ok (.if_icmp .ge 39, 3) := by decide +kernel
theorem dX8_debtsDueBehind_17 : decode cX8_debtsDueBehind 17 = .ok (.aload_n 0, 1) := by decide +kernel
theorem dX8_debtsDueBehind_18 : decode cX8_debtsDueBehind 18 = .ok (.getfield 23, 3) := by decide +kernel
theorem dX8_debtsDueBehind_21 : decode cX8_debtsDueBehind 21 = .ok (.iload 4, 2) := by decide +kernel
theorem dX8_debtsDueBehind_23 : decode cX8_debtsDueBehind 23 = .ok (.invokevirtual 75, 3) := by decide +kernel
theorem dX8_debtsDueBehind_26 : decode cX8_debtsDueBehind 26 = .ok (.ifCond .eq 21, 3) := by decide +kernel
theorem dX8_debtsDueBehind_29 : decode cX8_debtsDueBehind 29 = .ok (.aload_n 0, 1) := by decide +kernel
theorem dX8_debtsDueBehind_30 : decode cX8_debtsDueBehind 30 = .ok (.iload 4, 2) := by decide +kernel
theorem dX8_debtsDueBehind_32 : decode cX8_debtsDueBehind 32 = .ok (.iload_n 1, 1) := by decide +kernel
theorem dX8_debtsDueBehind_33 : decode cX8_debtsDueBehind 33 = .ok (.iload_n 2, 1) := by decide +kernel
theorem dX8_debtsDueBehind_34 : decode cX8_debtsDueBehind 34 = .ok (.invokevirtual 78, 3) := by decide +kernel
theorem dX8_debtsDueBehind_37 : decode cX8_debtsDueBehind 37 = .ok (.ifCond .eq 10, 3) := by decide +kernel
theorem dX8_debtsDueBehind_40 : decode cX8_debtsDueBehind 40 = .ok (.iload_n 3, 1) := by decide +kernel
theorem dX8_debtsDueBehind_41 : decode cX8_debtsDueBehind 41 = .ok (.iconst 1, 1) := by decide +kernel
theorem dX8_debtsDueBehind_42 : decode cX8_debtsDueBehind 42 = .ok (.iload 4, 2) := by decide +kernel
theorem dX8_debtsDueBehind_44 : decode cX8_debtsDueBehind 44 = .ok (.ishl, 1) := by decide +kernel
theorem dX8_debtsDueBehind_45 : decode cX8_debtsDueBehind 45 = .ok (.ior, 1) := by decide +kernel
theorem dX8_debtsDueBehind_46 : decode cX8_debtsDueBehind 46 = .ok (.istore_n 3, 1) := by decide +kernel
theorem dX8_debtsDueBehind_47 : decode cX8_debtsDueBehind 47 = .ok (.iinc 4 1, 3) := by decide +kernel
theorem dX8_debtsDueBehind_50 : decode cX8_debtsDueBehind 50 = .ok (.goto (-45), 3) := by decide +kernel
theorem dX8_debtsDueBehind_53 : decode cX8_debtsDueBehind 53 = .ok (.iload_n 3, 1) := by decide +kernel
theorem dX8_debtsDueBehind_54 : decode cX8_debtsDueBehind 54 = .ok (.ireturn, 1) := by decide +kernel
set_option maxRecDepth 20000 in
theorem ggX8_isDueBehind_X6_lack : GoodIn wsX8_isDueBehind wsX6_lack := goodIn_r _ [8, 9, 10, 11, 12, 13, 14, 15, 7, 16, 17, 18, 19, 20, 21, 22, 23, 24, 25, 26, 66, 54, 55, 56, 57, 58, 59, 60, 61, 62, 63, 64, 65] (by decide +kernel) (by decide +kernel)
set_option maxRecDepth 20000 in
theorem gX8_isDueBehind_X6_lack : GoodIn wsX8_isDueBehind (wsV RX8 55 RX6 yX6_lack wsX6_lack) := goodIn_app (goodIn_of _ (by decide +kernel)) ggX8_isDueBehind_X6_lack
set_option maxRecDepth 20000 in
theorem ggX8_isDueBehind_X8_inchesBehind : GoodIn wsX8_isDueBehind wsX8_inchesBehind := goodIn_r _ [31, 1, 3, 32, 10, 11, 12, 33, 34, 35, 7, 36, 17, 37, 38, 39, 40, 41, 42, 43, 50, 51, 52, 53, 66, 54, 55, 56, 57, 58, 59, 60, 61, 62, 63, 64, 65] (by decide +kernel) (by decide +kernel)
set_option maxRecDepth 20000 in
theorem gX8_isDueBehind_X8_inchesBehind : GoodIn wsX8_isDueBehind (wsV RX8 45 RX8 yX8_inchesBehind wsX8_inchesBehind) := goodIn_app (goodIn_of _ (by decide +kernel)) ggX8_isDueBehind_X8_inchesBehind
set_option maxRecDepth 20000 in
theorem ggX8_isDueBehind_X7_depth : GoodIn wsX8_isDueBehind wsX7_depth := goodIn_r _ [47, 48, 49, 10, 11, 12, 54, 55, 56, 57, 58, 59, 60, 61, 62, 63, 64, 65] (by decide +kernel) (by decide +kernel)
set_option maxRecDepth 20000 in
theorem gX8_isDueBehind_X7_depth : GoodIn wsX8_isDueBehind (wsV RX8 59 RX7 yX7_depth wsX7_depth) := goodIn_app (goodIn_of _ (by decide +kernel)) ggX8_isDueBehind_X7_depth
theorem dX8_isDueBehind_0 : decode cX8_isDueBehind 0 = .ok (.aload_n 0, 1) := by decide +kernel
theorem dX8_isDueBehind_1 : decode cX8_isDueBehind 1 = .ok (.getfield 19, 3) := by decide +kernel
theorem dX8_isDueBehind_4 : decode cX8_isDueBehind 4 = .ok (.getfield 52, 3) := by decide +kernel
theorem dX8_isDueBehind_7 : decode cX8_isDueBehind 7 = .ok (.iload_n 1, 1) := by decide +kernel
theorem dX8_isDueBehind_8 : decode cX8_isDueBehind 8 = .ok (.iaload, 1) := by decide +kernel
theorem dX8_isDueBehind_9 : decode cX8_isDueBehind 9 = .ok (.istore 4, 2) := by decide +kernel
theorem dX8_isDueBehind_11 : decode cX8_isDueBehind 11 = .ok (.aload_n 0, 1) := by decide +kernel
theorem dX8_isDueBehind_12 : decode cX8_isDueBehind 12 = .ok (.getfield 23, 3) := by decide +kernel
theorem dX8_isDueBehind_15 : decode cX8_isDueBehind 15 = .ok (.aload_n 0, 1) := by decide +kernel
theorem dX8_isDueBehind_16 : decode cX8_isDueBehind 16 = .ok (.getfield 19, 3) := by decide +kernel
theorem dX8_isDueBehind_19 : decode cX8_isDueBehind 19 = .ok (.iload_n 1, 1) := by decide +kernel
theorem dX8_isDueBehind_20 : decode cX8_isDueBehind 20 = .ok (.invokevirtual 55, 3) := by decide +kernel
theorem dX8_isDueBehind_23 : decode cX8_isDueBehind 23 = .ok (.istore 5, 2) := by decide +kernel
theorem dX8_isDueBehind_25 : decode cX8_isDueBehind 25 = .ok (.iconst 0, 1) := by decide +kernel
theorem dX8_isDueBehind_26 : decode cX8_isDueBehind 26 = .ok (.istore 6, 2) := by decide +kernel
theorem dX8_isDueBehind_28 : decode cX8_isDueBehind 28 = .ok (.iload 6, 2) := by decide +kernel
theorem dX8_isDueBehind_30 : decode cX8_isDueBehind 30 = .ok (.iload_n 2, 1) := by decide +kernel
theorem dX8_isDueBehind_31 : decode cX8_isDueBehind 31 = .ok (.if_icmp .ge 30, 3) := by decide +kernel
theorem dX8_isDueBehind_34 : decode cX8_isDueBehind 34 = .ok (.iload 5, 2) := by decide +kernel
theorem dX8_isDueBehind_36 : decode cX8_isDueBehind 36 = .ok (.aload_n 0, 1) := by decide +kernel
theorem dX8_isDueBehind_37 : decode cX8_isDueBehind 37 = .ok (.getfield 19, 3) := by decide +kernel
theorem dX8_isDueBehind_40 : decode cX8_isDueBehind 40 = .ok (.iload 4, 2) := by decide +kernel
theorem dX8_isDueBehind_42 : decode cX8_isDueBehind 42 = .ok (.aload_n 0, 1) := by decide +kernel
theorem dX8_isDueBehind_43 : decode cX8_isDueBehind 43 = .ok (.iload 6, 2) := by decide +kernel
theorem dX8_isDueBehind_45 : decode cX8_isDueBehind 45 = .ok (.iload_n 3, 1) := by decide +kernel
theorem dX8_isDueBehind_46 : decode cX8_isDueBehind 46 = .ok (.invokevirtual 45, 3) := by decide +kernel
theorem dX8_isDueBehind_49 : decode cX8_isDueBehind 49 = .ok (.invokevirtual 59, 3) := by decide +kernel
theorem dX8_isDueBehind_52 : decode cX8_isDueBehind 52 = .ok (.isub, 1) := by decide +kernel
theorem dX8_isDueBehind_53 : decode cX8_isDueBehind 53 = .ok (.istore 5, 2) := by decide +kernel
theorem dX8_isDueBehind_55 : decode cX8_isDueBehind 55 = .ok (.iinc 6 1, 3) := by decide +kernel
theorem dX8_isDueBehind_58 : decode cX8_isDueBehind 58 = .ok (.goto (-30), 3) := by decide +kernel
theorem dX8_isDueBehind_61 : decode cX8_isDueBehind 61 = .ok (.iload 5, 2) := by decide +kernel
theorem dX8_isDueBehind_63 : decode cX8_isDueBehind 63 = .ok (.ifCond .gt 7, 3) := by decide +kernel
theorem dX8_isDueBehind_66 : decode cX8_isDueBehind 66 = .ok (.iconst 1, 1) := by decide +kernel
theorem dX8_isDueBehind_67 : decode cX8_isDueBehind 67 = .ok (.goto 4, 3) := by decide +kernel
theorem dX8_isDueBehind_70 : decode cX8_isDueBehind 70 = .ok (.iconst 0, 1) := by decide +kernel
theorem dX8_isDueBehind_71 : decode cX8_isDueBehind 71 = .ok (.ireturn, 1) := by decide +kernel
set_option maxRecDepth 20000 in
theorem ggX8_nightsTillFeast_X6_falls : GoodIn wsX8_nightsTillFeast wsX6_falls := goodIn_r _ [7, 8, 52] (by decide +kernel) (by decide +kernel)
set_option maxRecDepth 20000 in
theorem gX8_nightsTillFeast_X6_falls : GoodIn wsX8_nightsTillFeast (wsV RX8 82 RX6 yX6_falls wsX6_falls) := goodIn_app (goodIn_of _ (by decide +kernel)) ggX8_nightsTillFeast_X6_falls
set_option maxRecDepth 20000 in
theorem ggX8_nightsTillFeast_X6_poleOf : GoodIn wsX8_nightsTillFeast wsX6_poleOf := goodIn_r _ [12, 8, 13, 14, 15, 16, 52] (by decide +kernel) (by decide +kernel)
set_option maxRecDepth 20000 in
theorem gX8_nightsTillFeast_X6_poleOf : GoodIn wsX8_nightsTillFeast (wsV RX8 85 RX6 yX6_poleOf wsX6_poleOf) := goodIn_app (goodIn_of _ (by decide +kernel)) ggX8_nightsTillFeast_X6_poleOf
set_option maxRecDepth 20000 in
theorem ggX8_nightsTillFeast_X7_fallOfYear : GoodIn wsX8_nightsTillFeast wsX7_fallOfYear := goodIn_r _ [21, 22, 53, 54, 55, 56, 57, 58, 59, 60, 61, 62, 63, 64] (by decide +kernel) (by decide +kernel)
set_option maxRecDepth 20000 in
theorem gX8_nightsTillFeast_X7_fallOfYear : GoodIn wsX8_nightsTillFeast (wsV RX8 88 RX7 yX7_fallOfYear wsX7_fallOfYear) := goodIn_app (goodIn_of _ (by decide +kernel)) ggX8_nightsTillFeast_X7_fallOfYear
set_option maxRecDepth 20000 in
theorem ggX8_nightsTillFeast_X8_isFallBehind : GoodIn wsX8_nightsTillFeast wsX8_isFallBehind := goodIn_r _ [27, 2, 28, 29, 30, 26, 31, 1, 32, 14, 15, 16, 33, 34, 35, 6, 36, 8, 37, 38, 39, 20, 40, 41, 42, 43, 44, 45, 46, 47, 48, 49, 50, 51, 52, 53, 54, 55, 56, 57, 58, 59, 60, 61, 62, 63, 64] (by decide +kernel) (by decide +kernel)
set_option maxRecDepth 20000 in
theorem gX8_nightsTillFeast_X8_isFallBehind : GoodIn wsX8_nightsTillFeast (wsV RX8 91 RX8 yX8_isFallBehind wsX8_isFallBehind) := goodIn_app (goodIn_of _ (by decide +kernel)) ggX8_nightsTillFeast_X8_isFallBehind
theorem dX8_nightsTillFeast_0 : decode cX8_nightsTillFeast 0 = .ok (.aload_n 0, 1) := by decide +kernel
theorem dX8_nightsTillFeast_1 : decode cX8_nightsTillFeast 1 = .ok (.getfield 23, 3) := by decide +kernel
theorem dX8_nightsTillFeast_4 : decode cX8_nightsTillFeast 4 = .ok (.iload_n 1, 1) := by decide +kernel
theorem dX8_nightsTillFeast_5 : decode cX8_nightsTillFeast 5 = .ok (.invokevirtual 82, 3) := by decide +kernel
theorem dX8_nightsTillFeast_8 : decode cX8_nightsTillFeast 8 = .ok (.istore_n 3, 1) := by decide +kernel
theorem dX8_nightsTillFeast_9 : decode cX8_nightsTillFeast 9 = .ok (.aload_n 0, 1) := by decide +kernel
theorem dX8_nightsTillFeast_10 : decode cX8_nightsTillFeast 10 = .ok (.getfield 23, 3) := by decide +kernel
theorem dX8_nightsTillFeast_13 : decode cX8_nightsTillFeast 13 = .ok (.iload_n 2, 1) := by decide +kernel
theorem dX8_nightsTillFeast_14 : decode cX8_nightsTillFeast 14 = .ok (.invokevirtual 82, 3) := by decide +kernel
theorem dX8_nightsTillFeast_17 : decode cX8_nightsTillFeast 17 = .ok (.istore 4, 2) := by decide +kernel
theorem dX8_nightsTillFeast_19 : decode cX8_nightsTillFeast 19 = .ok (.iconst 0, 1) := by decide +kernel
theorem dX8_nightsTillFeast_20 : decode cX8_nightsTillFeast 20 = .ok (.istore 5, 2) := by decide +kernel
theorem dX8_nightsTillFeast_22 : decode cX8_nightsTillFeast 22 = .ok (.iload 5, 2) := by decide +kernel
theorem dX8_nightsTillFeast_24 : decode cX8_nightsTillFeast 24 = .ok (.sipush 200, 3) := by decide +kernel
theorem dX8_nightsTillFeast_27 : decode cX8_nightsTillFeast 27 = .ok (.if_icmp .gt 88, 3) := by decide +kernel
theorem dX8_nightsTillFeast_30 : decode cX8_nightsTillFeast 30 = .ok (.aload_n 0, 1) := by decide +kernel
theorem dX8_nightsTillFeast_31 : decode cX8_nightsTillFeast 31 = .ok (.getfield 19, 3) := by decide +kernel
theorem dX8_nightsTillFeast_34 : decode cX8_nightsTillFeast 34 = .ok (.aload_n 0, 1) := by decide +kernel
theorem dX8_nightsTillFeast_35 : decode cX8_nightsTillFeast 35 = .ok (.getfield 23, 3) := by decide +kernel
theorem dX8_nightsTillFeast_38 : decode cX8_nightsTillFeast 38 = .ok (.iload_n 1, 1) := by decide +kernel
theorem dX8_nightsTillFeast_39 : decode cX8_nightsTillFeast 39 = .ok (.iload_n 3, 1) := by decide +kernel
theorem dX8_nightsTillFeast_40 : decode cX8_nightsTillFeast 40 = .ok (.invokevirtual 85, 3) := by decide +kernel
theorem dX8_nightsTillFeast_43 : decode cX8_nightsTillFeast 43 = .ok (.iload_n 1, 1) := by decide +kernel
theorem dX8_nightsTillFeast_44 : decode cX8_nightsTillFeast 44 = .ok (.invokevirtual 88, 3) := by decide +kernel
theorem dX8_nightsTillFeast_47 : decode cX8_nightsTillFeast 47 = .ok (.aload_n 0, 1) := by decide +kernel
theorem dX8_nightsTillFeast_48 : decode cX8_nightsTillFeast 48 = .ok (.getfield 19, 3) := by decide +kernel
theorem dX8_nightsTillFeast_51 : decode cX8_nightsTillFeast 51 = .ok (.aload_n 0, 1) := by decide +kernel
theorem dX8_nightsTillFeast_52 : decode cX8_nightsTillFeast 52 = .ok (.getfield 23, 3) := by decide +kernel
theorem dX8_nightsTillFeast_55 : decode cX8_nightsTillFeast 55 = .ok (.iload_n 2, 1) := by decide +kernel
theorem dX8_nightsTillFeast_56 : decode cX8_nightsTillFeast 56 = .ok (.iload 4, 2) := by decide +kernel
theorem dX8_nightsTillFeast_58 : decode cX8_nightsTillFeast 58 = .ok (.invokevirtual 85, 3) := by decide +kernel
theorem dX8_nightsTillFeast_61 : decode cX8_nightsTillFeast 61 = .ok (.iload_n 2, 1) := by decide +kernel
theorem dX8_nightsTillFeast_62 : decode cX8_nightsTillFeast 62 = .ok (.invokevirtual 88, 3) := by decide +kernel
theorem dX8_nightsTillFeast_65 : decode cX8_nightsTillFeast 65 = .ok (.if_icmp .ne 6, 3) := by decide +kernel
theorem dX8_nightsTillFeast_68 : decode cX8_nightsTillFeast 68 = .ok (.iload 5, 2) := by decide +kernel
theorem dX8_nightsTillFeast_70 : decode cX8_nightsTillFeast 70 = .ok (.ireturn, 1) := by decide +kernel
theorem dX8_nightsTillFeast_71 : decode cX8_nightsTillFeast 71 = .ok (.iload_n 3, 1) := by decide +kernel
theorem dX8_nightsTillFeast_72 : decode cX8_nightsTillFeast 72 = .ok (.aload_n 0, 1) := by decide +kernel
theorem dX8_nightsTillFeast_73 : decode cX8_nightsTillFeast 73 = .ok (.iload_n 1, 1) := by decide +kernel
theorem dX8_nightsTillFeast_74 : decode cX8_nightsTillFeast 74 = .ok (.iload 5, 2) := by decide +kernel
theorem dX8_nightsTillFeast_76 : decode cX8_nightsTillFeast 76 = .ok (.invokevirtual 91, 3) := by decide +kernel
theorem dX8_nightsTillFeast_79 : decode cX8_nightsTillFeast 79 = .ok (.ifCond .eq 7, 3) := by decide +kernel
theorem dX8_nightsTillFeast_82 : decode cX8_nightsTillFeast 82 = .ok (.iconst 1, 1) := by decide +kernel
theorem dX8_nightsTillFeast_83 : decode cX8_nightsTillFeast 83 = .ok (.goto 4, 3) := by decide +kernel
theorem dX8_nightsTillFeast_86 : decode cX8_nightsTillFeast 86 = .ok (.iconst 0, 1) := by decide +kernel
theorem dX8_nightsTillFeast_87 : decode cX8_nightsTillFeast 87 = .ok (.iadd, 1) := by decide +kernel
theorem dX8_nightsTillFeast_88 : decode cX8_nightsTillFeast 88 = .ok (.istore_n 3, 1) := by decide +kernel
theorem dX8_nightsTillFeast_89 : decode cX8_nightsTillFeast 89 = .ok (.iload 4, 2) := by decide +kernel
theorem dX8_nightsTillFeast_91 : decode cX8_nightsTillFeast 91 = .ok (.aload_n 0, 1) := by decide +kernel
theorem dX8_nightsTillFeast_92 : decode cX8_nightsTillFeast 92 = .ok (.iload_n 2, 1) := by decide +kernel
theorem dX8_nightsTillFeast_93 : decode cX8_nightsTillFeast 93 = .ok (.iload 5, 2) := by decide +kernel
theorem dX8_nightsTillFeast_95 : decode cX8_nightsTillFeast 95 = .ok (.invokevirtual 91, 3) := by decide +kernel
theorem dX8_nightsTillFeast_98 : decode cX8_nightsTillFeast 98 = .ok (.ifCond .eq 7, 3) := by decide +kernel
theorem dX8_nightsTillFeast_101 : decode cX8_nightsTillFeast 101 = .ok (.iconst 1, 1) := by decide +kernel
theorem dX8_nightsTillFeast_102 : decode cX8_nightsTillFeast 102 = .ok (.goto 4, 3) := by decide +kernel
theorem dX8_nightsTillFeast_105 : decode cX8_nightsTillFeast 105 = .ok (.iconst 0, 1) := by decide +kernel
theorem dX8_nightsTillFeast_106 : decode cX8_nightsTillFeast 106 = .ok (.iadd, 1) := by decide +kernel
theorem dX8_nightsTillFeast_107 : decode cX8_nightsTillFeast 107 = .ok (.istore 4, 2) := by decide +kernel
theorem dX8_nightsTillFeast_109 : decode cX8_nightsTillFeast 109 = .ok (.iinc 5 1, 3) := by decide +kernel
theorem dX8_nightsTillFeast_112 : decode cX8_nightsTillFeast 112 = .ok (.goto (-90), 3) := by decide +kernel
theorem dX8_nightsTillFeast_115 : decode cX8_nightsTillFeast 115 = .ok (.iconst (-1), 1) := by decide +kernel
theorem dX8_nightsTillFeast_116 : decode cX8_nightsTillFeast 116 = .ok (.ireturn, 1) := by decide +kernel
set_option maxRecDepth 20000 in
theorem ggX8_chanceOfDue_J7_fill_53178 : GoodIn wsX8_chanceOfDue wsJ7_fill_53178 := goodIn_r _ [9] (by decide +kernel) (by decide +kernel)
set_option maxRecDepth 20000 in
theorem gX8_chanceOfDue_J7_fill_53178 : GoodIn wsX8_chanceOfDue (va_wsS RX8 94 yJ7_fill_53178 wsJ7_fill_53178) := goodIn_app (goodIn_of _ (by decide +kernel)) ggX8_chanceOfDue_J7_fill_53178
set_option maxRecDepth 20000 in
theorem ggX8_chanceOfDue_X6_lack : GoodIn wsX8_chanceOfDue wsX6_lack := goodIn_r _ [14, 15, 16, 17, 18, 19, 20, 21, 13, 22, 23, 24, 25, 26, 27, 28, 29, 30, 31, 32, 64, 52, 53, 54, 55, 56, 57, 58, 59, 60, 61, 62, 63] (by decide +kernel) (by decide +kernel)
set_option maxRecDepth 20000 in
theorem gX8_chanceOfDue_X6_lack : GoodIn wsX8_chanceOfDue (wsV RX8 55 RX6 yX6_lack wsX6_lack) := goodIn_app (goodIn_of _ (by decide +kernel)) ggX8_chanceOfDue_X6_lack
set_option maxRecDepth 20000 in
theorem ggX8_chanceOfDue_X8_partOneNight : GoodIn wsX8_chanceOfDue wsX8_partOneNight := goodIn_r _ [37, 1, 3, 38, 39, 40, 16, 17, 18, 41, 42, 43, 44, 45, 46, 47, 48, 49, 50, 51, 52, 53, 54, 55, 56, 57, 58, 59, 60, 61, 62, 63] (by decide +kernel) (by decide +kernel)
set_option maxRecDepth 20000 in
theorem gX8_chanceOfDue_X8_partOneNight : GoodIn wsX8_chanceOfDue (wsV RX8 101 RX8 yX8_partOneNight wsX8_partOneNight) := goodIn_app (goodIn_of _ (by decide +kernel)) ggX8_chanceOfDue_X8_partOneNight
theorem dX8_chanceOfDue_0 : decode cX8_chanceOfDue 0 = .ok (.aload_n 0, 1) := by decide +kernel
theorem dX8_chanceOfDue_1 : decode cX8_chanceOfDue 1 = .ok (.getfield 9, 3) := by decide +kernel
theorem dX8_chanceOfDue_4 : decode cX8_chanceOfDue 4 = .ok (.iconst 0, 1) := by decide +kernel
theorem dX8_chanceOfDue_5 : decode cX8_chanceOfDue 5 = .ok (.invokestatic 94, 3) := by decide +kernel
theorem dX8_chanceOfDue_8 : decode cX8_chanceOfDue 8 = .ok (.aload_n 0, 1) := by decide +kernel
theorem dX8_chanceOfDue_9 : decode cX8_chanceOfDue 9 = .ok (.getfield 23, 3) := by decide +kernel
theorem dX8_chanceOfDue_12 : decode cX8_chanceOfDue 12 = .ok (.aload_n 0, 1) := by decide +kernel
theorem dX8_chanceOfDue_13 : decode cX8_chanceOfDue 13 = .ok (.getfield 19, 3) := by decide +kernel
theorem dX8_chanceOfDue_16 : decode cX8_chanceOfDue 16 = .ok (.iload_n 1, 1) := by decide +kernel
theorem dX8_chanceOfDue_17 : decode cX8_chanceOfDue 17 = .ok (.invokevirtual 55, 3) := by decide +kernel
theorem dX8_chanceOfDue_20 : decode cX8_chanceOfDue 20 = .ok (.istore_n 3, 1) := by decide +kernel
theorem dX8_chanceOfDue_21 : decode cX8_chanceOfDue 21 = .ok (.iload_n 3, 1) := by decide +kernel
theorem dX8_chanceOfDue_22 : decode cX8_chanceOfDue 22 = .ok (.aload_n 0, 1) := by decide +kernel
theorem dX8_chanceOfDue_23 : decode cX8_chanceOfDue 23 = .ok (.getfield 9, 3) := by decide +kernel
theorem dX8_chanceOfDue_26 : decode cX8_chanceOfDue 26 = .ok (.arraylength, 1) := by decide +kernel
theorem dX8_chanceOfDue_27 : decode cX8_chanceOfDue 27 = .ok (.if_icmp .lt 5, 3) := by decide +kernel
theorem dX8_chanceOfDue_30 : decode cX8_chanceOfDue 30 = .ok (.iconst 0, 1) := by decide +kernel
theorem dX8_chanceOfDue_31 : decode cX8_chanceOfDue 31 = .ok (.ireturn, 1) := by decide +kernel
theorem dX8_chanceOfDue_32 : decode cX8_chanceOfDue 32 = .ok (.aload_n 0, 1) := by decide +kernel
theorem dX8_chanceOfDue_33 : decode cX8_chanceOfDue 33 = .ok (.getfield 9, 3) := by decide +kernel
theorem dX8_chanceOfDue_36 : decode cX8_chanceOfDue 36 = .ok (.iload_n 3, 1) := by decide +kernel
theorem dX8_chanceOfDue_37 : decode cX8_chanceOfDue 37 = .ok (.ldc 100, 2) := by decide +kernel
theorem dX8_chanceOfDue_39 : decode cX8_chanceOfDue 39 = .ok (.iastore, 1) := by decide +kernel
theorem dX8_chanceOfDue_40 : decode cX8_chanceOfDue 40 = .ok (.iconst 0, 1) := by decide +kernel
theorem dX8_chanceOfDue_41 : decode cX8_chanceOfDue 41 = .ok (.istore 4, 2) := by decide +kernel
theorem dX8_chanceOfDue_43 : decode cX8_chanceOfDue 43 = .ok (.iload 4, 2) := by decide +kernel
theorem dX8_chanceOfDue_45 : decode cX8_chanceOfDue 45 = .ok (.iload_n 2, 1) := by decide +kernel
theorem dX8_chanceOfDue_46 : decode cX8_chanceOfDue 46 = .ok (.if_icmp .ge 23, 3) := by decide +kernel
theorem dX8_chanceOfDue_49 : decode cX8_chanceOfDue 49 = .ok (.aload_n 0, 1) := by decide +kernel
theorem dX8_chanceOfDue_50 : decode cX8_chanceOfDue 50 = .ok (.aload_n 0, 1) := by decide +kernel
theorem dX8_chanceOfDue_51 : decode cX8_chanceOfDue 51 = .ok (.getfield 19, 3) := by decide +kernel
theorem dX8_chanceOfDue_54 : decode cX8_chanceOfDue 54 = .ok (.getfield 52, 3) := by decide +kernel
theorem dX8_chanceOfDue_57 : decode cX8_chanceOfDue 57 = .ok (.iload_n 1, 1) := by decide +kernel
theorem dX8_chanceOfDue_58 : decode cX8_chanceOfDue 58 = .ok (.iaload, 1) := by decide +kernel
theorem dX8_chanceOfDue_59 : decode cX8_chanceOfDue 59 = .ok (.iload_n 3, 1) := by decide +kernel
theorem dX8_chanceOfDue_60 : decode cX8_chanceOfDue 60 = .ok (.invokevirtual 101, 3) := by decide +kernel
theorem dX8_chanceOfDue_63 : decode cX8_chanceOfDue 63 = .ok (.iinc 4 1, 3) := by decide +kernel
theorem dX8_chanceOfDue_66 : decode cX8_chanceOfDue 66 = .ok (.goto (-23), 3) := by decide +kernel
theorem dX8_chanceOfDue_69 : decode cX8_chanceOfDue 69 = .ok (.aload_n 0, 1) := by decide +kernel
theorem dX8_chanceOfDue_70 : decode cX8_chanceOfDue 70 = .ok (.getfield 9, 3) := by decide +kernel
theorem dX8_chanceOfDue_73 : decode cX8_chanceOfDue 73 = .ok (.iconst 0, 1) := by decide +kernel
theorem dX8_chanceOfDue_74 : decode cX8_chanceOfDue 74 = .ok (.iaload, 1) := by decide +kernel
theorem dX8_chanceOfDue_75 : decode cX8_chanceOfDue 75 = .ok (.ireturn, 1) := by decide +kernel
set_option maxRecDepth 20000 in
theorem ggX8_partOneNight_X7_depth : GoodIn wsX8_partOneNight wsX7_depth := goodIn_r _ [13, 14, 15, 6, 7, 8, 20, 21, 22, 23, 24, 25, 26, 27, 28, 29, 30, 31] (by decide +kernel) (by decide +kernel)
set_option maxRecDepth 20000 in
theorem gX8_partOneNight_X7_depth : GoodIn wsX8_partOneNight (wsV RX8 59 RX7 yX7_depth wsX7_depth) := goodIn_app (goodIn_of _ (by decide +kernel)) ggX8_partOneNight_X7_depth
theorem dX8_partOneNight_0 : decode cX8_partOneNight 0 = .ok (.iconst 1, 1) := by decide +kernel
theorem dX8_partOneNight_1 : decode cX8_partOneNight 1 = .ok (.istore_n 3, 1) := by decide +kernel
theorem dX8_partOneNight_2 : decode cX8_partOneNight 2 = .ok (.iload_n 3, 1) := by decide +kernel
theorem dX8_partOneNight_3 : decode cX8_partOneNight 3 = .ok (.iload_n 2, 1) := by decide +kernel
theorem dX8_partOneNight_4 : decode cX8_partOneNight 4 = .ok (.if_icmp .gt 115, 3) := by decide +kernel
theorem dX8_partOneNight_7 : decode cX8_partOneNight 7 = .ok (.iload_n 3, 1) := by decide +kernel
theorem dX8_partOneNight_8 : decode cX8_partOneNight 8 = .ok (.aload_n 0, 1) := by decide +kernel
theorem dX8_partOneNight_9 : decode cX8_partOneNight 9 = .ok (.getfield 9, 3) := by decide +kernel
theorem dX8_partOneNight_12 : decode cX8_partOneNight 12 = .ok (.arraylength, 1) := by decide +kernel
theorem dX8_partOneNight_13 : decode cX8_partOneNight 13 = .ok (.if_icmp .ge 106, 3) := by decide +kernel
theorem dX8_partOneNight_16 : decode cX8_partOneNight 16 = .ok (.aload_n 0, 1) := by decide +kernel
theorem dX8_partOneNight_17 : decode cX8_partOneNight 17 = .ok (.getfield 19, 3) := by decide +kernel
theorem dX8_partOneNight_20 : decode cX8_partOneNight 20 = .ok (.getfield 105, 3) := by decide +kernel
theorem dX8_partOneNight_23 : decode cX8_partOneNight 23 = .ok (.ifCond .le 20, 3) := by decide +kernel
theorem dX8_partOneNight_26 : decode cX8_partOneNight 26 = .ok (.aload_n 0, 1) := by decide +kernel
theorem dX8_partOneNight_27 : decode cX8_partOneNight 27 = .ok (.getfield 9, 3) := by decide +kernel
theorem dX8_partOneNight_30 : decode cX8_partOneNight 30 = .ok (.iload_n 3, 1) := by decide +kernel
theorem dX8_partOneNight_31 : decode cX8_partOneNight 31 = .ok (.iaload, 1) := by decide +kernel
theorem dX8_partOneNight_32 : decode cX8_partOneNight 32 = .ok (.aload_n 0, 1) := by decide +kernel
theorem dX8_partOneNight_33 : decode cX8_partOneNight 33 = .ok (.getfield 19, 3) := by decide +kernel
theorem dX8_partOneNight_36 : decode cX8_partOneNight 36 = .ok (.getfield 105, 3) := by decide +kernel
theorem dX8_partOneNight_39 : decode cX8_partOneNight 39 = .ok (.idiv, 1) := by decide +kernel
theorem dX8_partOneNight_40 : decode cX8_partOneNight 40 = .ok (.goto 4, 3) := by decide +kernel
theorem dX8_partOneNight_43 : decode cX8_partOneNight 43 = .ok (.iconst 0, 1) := by decide +kernel
theorem dX8_partOneNight_44 : decode cX8_partOneNight 44 = .ok (.istore 4, 2) := by decide +kernel
theorem dX8_partOneNight_46 : decode cX8_partOneNight 46 = .ok (.aload_n 0, 1) := by decide +kernel
theorem dX8_partOneNight_47 : decode cX8_partOneNight 47 = .ok (.getfield 9, 3) := by decide +kernel
theorem dX8_partOneNight_50 : decode cX8_partOneNight 50 = .ok (.iload_n 3, 1) := by decide +kernel
theorem dX8_partOneNight_51 : decode cX8_partOneNight 51 = .ok (.iconst 0, 1) := by decide +kernel
theorem dX8_partOneNight_52 : decode cX8_partOneNight 52 = .ok (.iastore, 1) := by decide +kernel
theorem dX8_partOneNight_53 : decode cX8_partOneNight 53 = .ok (.iconst 0, 1) := by decide +kernel
theorem dX8_partOneNight_54 : decode cX8_partOneNight 54 = .ok (.istore 5, 2) := by decide +kernel
theorem dX8_partOneNight_56 : decode cX8_partOneNight 56 = .ok (.iload 5, 2) := by decide +kernel
theorem dX8_partOneNight_58 : decode cX8_partOneNight 58 = .ok (.aload_n 0, 1) := by decide +kernel
theorem dX8_partOneNight_59 : decode cX8_partOneNight 59 = .ok (.getfield 19, 3) := by decide +kernel
theorem dX8_partOneNight_62 : decode cX8_partOneNight 62 = .ok (.getfield 105, 3) := by decide +kernel
theorem dX8_partOneNight_65 : decode cX8_partOneNight 65 = .ok (.if_icmp .ge 48, 3) := by decide +kernel
theorem dX8_partOneNight_68 : decode cX8_partOneNight 68 = .ok (.iload 4, 2) := by decide +kernel
theorem dX8_partOneNight_70 : decode cX8_partOneNight 70 = .ok (.ifCond .le 43, 3) := by decide +kernel
theorem dX8_partOneNight_73 : decode cX8_partOneNight 73 = .ok (.aload_n 0, 1) := by decide +kernel
theorem dX8_partOneNight_74 : decode cX8_partOneNight 74 = .ok (.getfield 9, 3) := by decide +kernel
theorem dX8_partOneNight_77 : decode cX8_partOneNight 77 = .ok (.iconst 0, 1) := by decide +kernel
theorem dX8_partOneNight_78 : decode cX8_partOneNight 78 = .ok (.iload_n 3, 1) := by decide +kernel
theorem dX8_partOneNight_79 : decode cX8_partOneNight 79 = .ok (.aload_n 0, 1) := by decide +kernel
theorem dX8_partOneNight_80 : decode cX8_partOneNight 80 = .ok (.getfield 19, 3) := by decide +kernel
theorem dX8_partOneNight_83 : decode cX8_partOneNight 83 = .ok (.iload_n 1, 1) := by decide +kernel
theorem dX8_partOneNight_84 : decode cX8_partOneNight 84 = .ok (.aload_n 0, 1) := by decide +kernel
theorem dX8_partOneNight_85 : decode cX8_partOneNight 85 = .ok (.getfield 19, 3) := by decide +kernel
theorem dX8_partOneNight_88 : decode cX8_partOneNight 88 = .ok (.getfield 108, 3) := by decide +kernel
theorem dX8_partOneNight_91 : decode cX8_partOneNight 91 = .ok (.iload 5, 2) := by decide +kernel
theorem dX8_partOneNight_93 : decode cX8_partOneNight 93 = .ok (.iaload, 1) := by decide +kernel
theorem dX8_partOneNight_94 : decode cX8_partOneNight 94 = .ok (.invokevirtual 59, 3) := by decide +kernel
theorem dX8_partOneNight_97 : decode cX8_partOneNight 97 = .ok (.isub, 1) := by decide +kernel
theorem dX8_partOneNight_98 : decode cX8_partOneNight 98 = .ok (.invokestatic 39, 3) := by decide +kernel
theorem dX8_partOneNight_101 : decode cX8_partOneNight 101 = .ok (.dup2, 1) := by decide +kernel
theorem dX8_partOneNight_102 : decode cX8_partOneNight 102 = .ok (.iaload, 1) := by decide +kernel
theorem dX8_partOneNight_103 : decode cX8_partOneNight 103 = .ok (.iload 4, 2) := by decide +kernel
theorem dX8_partOneNight_105 : decode cX8_partOneNight 105 = .ok (.iadd, 1) := by decide +kernel
theorem dX8_partOneNight_106 : decode cX8_partOneNight 106 = .ok (.iastore, 1) := by decide +kernel
theorem dX8_partOneNight_107 : decode cX8_partOneNight 107 = .ok (.iinc 5 1, 3) := by decide +kernel
theorem dX8_partOneNight_110 : decode cX8_partOneNight 110 = .ok (.goto (-54), 3) := by decide +kernel
theorem dX8_partOneNight_113 : decode cX8_partOneNight 113 = .ok (.iinc 3 1, 3) := by decide +kernel
theorem dX8_partOneNight_116 : decode cX8_partOneNight 116 = .ok (.goto (-114), 3) := by decide +kernel
theorem dX8_partOneNight_119 : decode cX8_partOneNight 119 = .ok (.return_, 1) := by decide +kernel
set_option maxRecDepth 20000 in
theorem ggX8_fewestPoles_X8_nextFallNights : GoodIn wsX8_fewestPoles wsX8_nextFallNights := goodIn_r _ [8, 9, 10, 11, 7, 12, 1, 13, 14, 15, 16, 17, 18, 19, 20, 21, 22, 23, 24, 25, 26, 27, 28, 29, 30, 31, 32, 33, 34, 35, 36, 37, 38, 39, 44, 45, 46, 47, 60, 48, 49, 50, 51, 52, 53, 54, 55, 56, 57, 58, 59] (by decide +kernel) (by decide +kernel)
set_option maxRecDepth 20000 in
theorem gX8_fewestPoles_X8_nextFallNights : GoodIn wsX8_fewestPoles (wsV RX8 114 RX8 yX8_nextFallNights wsX8_nextFallNights) := goodIn_app (goodIn_of _ (by decide +kernel)) ggX8_fewestPoles_X8_nextFallNights
set_option maxRecDepth 20000 in
theorem ggX8_fewestPoles_X8_isLikeOneBefore : GoodIn wsX8_fewestPoles wsX8_isLikeOneBefore := goodIn_r _ [43, 3, 44, 45, 46, 47] (by decide +kernel) (by decide +kernel)
set_option maxRecDepth 20000 in
theorem gX8_fewestPoles_X8_isLikeOneBefore : GoodIn wsX8_fewestPoles (wsV RX8 118 RX8 yX8_isLikeOneBefore wsX8_isLikeOneBefore) := goodIn_app (goodIn_of _ (by decide +kernel)) ggX8_fewestPoles_X8_isLikeOneBefore
theorem dX8_fewestPoles_0 : decode cX8_fewestPoles 0 = .ok (.iconst 0, 1) := by decide +kernel
theorem dX8_fewestPoles_1 : decode cX8_fewestPoles 1 = .ok (.istore_n 1, 1) := by decide +kernel
theorem dX8_fewestPoles_2 : decode cX8_fewestPoles 2 = .ok (.iconst 0, 1) := by decide +kernel
theorem dX8_fewestPoles_3 : decode cX8_fewestPoles 3 = .ok (.istore_n 2, 1) := by decide +kernel
theorem dX8_fewestPoles_4 : decode cX8_fewestPoles 4 = .ok (.iload_n 2, 1) := by decide +kernel
theorem dX8_fewestPoles_5 : decode cX8_fewestPoles 5 = .ok (.aload_n 0, 1) := by decide +kernel
theorem dX8_fewestPoles_6 : decode cX8_fewestPoles 6 = .ok (.getfield 19, 3) := by decide +kernel
theorem dX8_fewestPoles_9 : decode cX8_fewestPoles 9 = .ok (.getfield 111, 3) := by decide +kernel
theorem dX8_fewestPoles_12 : decode cX8_fewestPoles 12 = .ok (.if_icmp .ge 31, 3) := by decide +kernel
theorem dX8_fewestPoles_15 : decode cX8_fewestPoles 15 = .ok (.aload_n 0, 1) := by decide +kernel
theorem dX8_fewestPoles_16 : decode cX8_fewestPoles 16 = .ok (.getfield 15, 3) := by decide +kernel
theorem dX8_fewestPoles_19 : decode cX8_fewestPoles 19 = .ok (.iload_n 2, 1) := by decide +kernel
theorem dX8_fewestPoles_20 : decode cX8_fewestPoles 20 = .ok (.aload_n 0, 1) := by decide +kernel
theorem dX8_fewestPoles_21 : decode cX8_fewestPoles 21 = .ok (.iload_n 2, 1) := by decide +kernel
theorem dX8_fewestPoles_22 : decode cX8_fewestPoles 22 = .ok (.invokevirtual 114, 3) := by decide +kernel
theorem dX8_fewestPoles_25 : decode cX8_fewestPoles 25 = .ok (.lastore, 1) := by decide +kernel
theorem dX8_fewestPoles_26 : decode cX8_fewestPoles 26 = .ok (.aload_n 0, 1) := by decide +kernel
theorem dX8_fewestPoles_27 : decode cX8_fewestPoles 27 = .ok (.iload_n 2, 1) := by decide +kernel
theorem dX8_fewestPoles_28 : decode cX8_fewestPoles 28 = .ok (.invokevirtual 118, 3) := by decide +kernel
theorem dX8_fewestPoles_31 : decode cX8_fewestPoles 31 = .ok (.ifCond .ne 6, 3) := by decide +kernel
theorem dX8_fewestPoles_34 : decode cX8_fewestPoles 34 = .ok (.iinc 1 1, 3) := by decide +kernel
theorem dX8_fewestPoles_37 : decode cX8_fewestPoles 37 = .ok (.iinc 2 1, 3) := by decide +kernel
theorem dX8_fewestPoles_40 : decode cX8_fewestPoles 40 = .ok (.goto (-36), 3) := by decide +kernel
theorem dX8_fewestPoles_43 : decode cX8_fewestPoles 43 = .ok (.iload_n 1, 1) := by decide +kernel
theorem dX8_fewestPoles_44 : decode cX8_fewestPoles 44 = .ok (.ireturn, 1) := by decide +kernel
set_option maxRecDepth 20000 in
theorem ggX8_nextFallNights_X8_isFallBehind : GoodIn wsX8_nextFallNights wsX8_isFallBehind := goodIn_r _ [5, 6, 7, 8, 9, 4, 10, 11, 12, 13, 14, 15, 16, 17, 18, 19, 20, 21, 22, 23, 24, 25, 26, 27, 28, 29, 30, 31, 32, 33, 34, 35, 36, 37, 38, 39, 40, 41, 42, 43, 44, 45, 46, 47, 48, 49, 50] (by decide +kernel) (by decide +kernel)
set_option maxRecDepth 20000 in
theorem gX8_nextFallNights_X8_isFallBehind : GoodIn wsX8_nextFallNights (wsV RX8 91 RX8 yX8_isFallBehind wsX8_isFallBehind) := goodIn_app (goodIn_of _ (by decide +kernel)) ggX8_nextFallNights_X8_isFallBehind
theorem dX8_nextFallNights_0 : decode cX8_nextFallNights 0 = .ok (.lconst 0, 1) := by decide +kernel
theorem dX8_nextFallNights_1 : decode cX8_nextFallNights 1 = .ok (.lstore_n 2, 1) := by decide +kernel
theorem dX8_nextFallNights_2 : decode cX8_nextFallNights 2 = .ok (.iconst 0, 1) := by decide +kernel
theorem dX8_nextFallNights_3 : decode cX8_nextFallNights 3 = .ok (.istore 4, 2) := by decide +kernel
theorem dX8_nextFallNights_5 : decode cX8_nextFallNights 5 = .ok (.iload 4, 2) := by decide +kernel
theorem dX8_nextFallNights_7 : decode cX8_nextFallNights 7 = .ok (.bipush 40, 2) := by decide +kernel
theorem dX8_nextFallNights_9 : decode cX8_nextFallNights 9 = .ok (.if_icmp .ge 26, 3) := by decide +kernel
theorem dX8_nextFallNights_12 : decode cX8_nextFallNights 12 = .ok (.aload_n 0, 1) := by decide +kernel
theorem dX8_nextFallNights_13 : decode cX8_nextFallNights 13 = .ok (.iload_n 1, 1) := by decide +kernel
theorem dX8_nextFallNights_14 : decode cX8_nextFallNights 14 = .ok (.iload 4, 2) := by decide +kernel
theorem dX8_nextFallNights_16 : decode cX8_nextFallNights 16 = .ok (.invokevirtual 91, 3) := by decide +kernel
theorem dX8_nextFallNights_19 : decode cX8_nextFallNights 19 = .ok (.ifCond .eq 10, 3) := by decide +kernel
theorem dX8_nextFallNights_22 : decode cX8_nextFallNights 22 = .ok (.lload_n 2, 1) := by decide +kernel
theorem dX8_nextFallNights_23 : decode cX8_nextFallNights 23 = .ok (.lconst 1, 1) := by decide +kernel
theorem dX8_nextFallNights_24 : decode cX8_nextFallNights 24 = .ok (.iload 4, 2) := by decide +kernel
theorem dX8_nextFallNights_26 : decode cX8_nextFallNights 26 = .ok (.lshl, 1) := by decide +kernel
theorem dX8_nextFallNights_27 : decode cX8_nextFallNights 27 = .ok (.lor, 1) := by decide +kernel
theorem dX8_nextFallNights_28 : decode cX8_nextFallNights 28 = .ok (.lstore_n 2, 1) := by decide +kernel
theorem dX8_nextFallNights_29 : decode cX8_nextFallNights 29 = .ok (.iinc 4 1, 3) := by decide +kernel
theorem dX8_nextFallNights_32 : decode cX8_nextFallNights 32 = .ok (.goto (-27), 3) := by decide +kernel
theorem dX8_nextFallNights_35 : decode cX8_nextFallNights 35 = .ok (.lload_n 2, 1) := by decide +kernel
theorem dX8_nextFallNights_36 : decode cX8_nextFallNights 36 = .ok (.lreturn, 1) := by decide +kernel
theorem dX8_isLikeOneBefore_0 : decode cX8_isLikeOneBefore 0 = .ok (.iconst 0, 1) := by decide +kernel
theorem dX8_isLikeOneBefore_1 : decode cX8_isLikeOneBefore 1 = .ok (.istore_n 2, 1) := by decide +kernel
theorem dX8_isLikeOneBefore_2 : decode cX8_isLikeOneBefore 2 = .ok (.iload_n 2, 1) := by decide +kernel
theorem dX8_isLikeOneBefore_3 : decode cX8_isLikeOneBefore 3 = .ok (.iload_n 1, 1) := by decide +kernel
theorem dX8_isLikeOneBefore_4 : decode cX8_isLikeOneBefore 4 = .ok (.if_icmp .ge 27, 3) := by decide +kernel
theorem dX8_isLikeOneBefore_7 : decode cX8_isLikeOneBefore 7 = .ok (.aload_n 0, 1) := by decide +kernel
theorem dX8_isLikeOneBefore_8 : decode cX8_isLikeOneBefore 8 = .ok (.getfield 15, 3) := by decide +kernel
theorem dX8_isLikeOneBefore_11 : decode cX8_isLikeOneBefore 11 = .ok (.iload_n 2, 1) := by decide +kernel
theorem dX8_isLikeOneBefore_12 : decode cX8_isLikeOneBefore 12 = .ok (.laload, 1) := by decide +kernel
theorem dX8_isLikeOneBefore_13 : decode cX8_isLikeOneBefore 13 = .ok (.aload_n 0, 1) := by decide +kernel
theorem dX8_isLikeOneBefore_14 : decode cX8_isLikeOneBefore 14 = .ok (.getfield 15, 3) := by decide +kernel
theorem dX8_isLikeOneBefore_17 : decode cX8_isLikeOneBefore 17 = .ok (.iload_n 1, 1) := by decide +kernel
theorem dX8_isLikeOneBefore_18 : decode cX8_isLikeOneBefore 18 = .ok (.laload, 1) := by decide +kernel
theorem dX8_isLikeOneBefore_19 : decode cX8_isLikeOneBefore 19 = .ok (.lcmp, 1) := by decide +kernel
theorem dX8_isLikeOneBefore_20 : decode cX8_isLikeOneBefore 20 = .ok (.ifCond .ne 5, 3) := by decide +kernel
theorem dX8_isLikeOneBefore_23 : decode cX8_isLikeOneBefore 23 = .ok (.iconst 1, 1) := by decide +kernel
theorem dX8_isLikeOneBefore_24 : decode cX8_isLikeOneBefore 24 = .ok (.ireturn, 1) := by decide +kernel
theorem dX8_isLikeOneBefore_25 : decode cX8_isLikeOneBefore 25 = .ok (.iinc 2 1, 3) := by decide +kernel
theorem dX8_isLikeOneBefore_28 : decode cX8_isLikeOneBefore 28 = .ok (.goto (-26), 3) := by decide +kernel
theorem dX8_isLikeOneBefore_31 : decode cX8_isLikeOneBefore 31 = .ok (.iconst 0, 1) := by decide +kernel
theorem dX8_isLikeOneBefore_32 : decode cX8_isLikeOneBefore 32 = .ok (.ireturn, 1) := by decide +kernel
set_option maxRecDepth 20000 in
theorem ggX8_longestWithoutFall_X8_isFallBehind : GoodIn wsX8_longestWithoutFall wsX8_isFallBehind := goodIn_r _ [9, 10, 11, 12, 13, 8, 14, 15, 1, 2, 3, 4, 16, 17, 18, 19, 20, 21, 22, 23, 24, 25, 26, 27, 28, 29, 30, 31, 32, 33, 34, 35, 36, 37, 38, 39, 40, 41, 42, 43, 44, 45, 46, 47, 48, 49, 50] (by decide +kernel) (by decide +kernel)
set_option maxRecDepth 20000 in
theorem gX8_longestWithoutFall_X8_isFallBehind : GoodIn wsX8_longestWithoutFall (wsV RX8 91 RX8 yX8_isFallBehind wsX8_isFallBehind) := goodIn_app (goodIn_of _ (by decide +kernel)) ggX8_longestWithoutFall_X8_isFallBehind
theorem dX8_longestWithoutFall_0 : decode cX8_longestWithoutFall 0 = .ok (.iconst 0, 1) := by decide +kernel
theorem dX8_longestWithoutFall_1 : decode cX8_longestWithoutFall 1 = .ok (.istore_n 2, 1) := by decide +kernel
theorem dX8_longestWithoutFall_2 : decode cX8_longestWithoutFall 2 = .ok (.iconst 0, 1) := by decide +kernel
theorem dX8_longestWithoutFall_3 : decode cX8_longestWithoutFall 3 = .ok (.istore_n 3, 1) := by decide +kernel
theorem dX8_longestWithoutFall_4 : decode cX8_longestWithoutFall 4 = .ok (.iconst 0, 1) := by decide +kernel
theorem dX8_longestWithoutFall_5 : decode cX8_longestWithoutFall 5 = .ok (.istore 4, 2) := by decide +kernel
theorem dX8_longestWithoutFall_7 : decode cX8_longestWithoutFall 7 = .ok (.iload 4, 2) := by decide +kernel
theorem dX8_longestWithoutFall_9 : decode cX8_longestWithoutFall 9 = .ok (.bipush 100, 2) := by decide +kernel
theorem dX8_longestWithoutFall_11 : decode cX8_longestWithoutFall 11 = .ok (.if_icmp .ge 33, 3) := by decide +kernel
theorem dX8_longestWithoutFall_14 : decode cX8_longestWithoutFall 14 = .ok (.aload_n 0, 1) := by decide +kernel
theorem dX8_longestWithoutFall_15 : decode cX8_longestWithoutFall 15 = .ok (.iload_n 1, 1) := by decide +kernel
theorem dX8_longestWithoutFall_16 : decode cX8_longestWithoutFall 16 = .ok (.iload 4, 2) := by decide +kernel
theorem dX8_longestWithoutFall_18 : decode cX8_longestWithoutFall 18 = .ok (.invokevirtual 91, 3) := by decide +kernel
theorem dX8_longestWithoutFall_21 : decode cX8_longestWithoutFall 21 = .ok (.ifCond .eq 7, 3) := by decide +kernel
theorem dX8_longestWithoutFall_24 : decode cX8_longestWithoutFall 24 = .ok (.iconst 0, 1) := by decide +kernel
theorem dX8_longestWithoutFall_25 : decode cX8_longestWithoutFall 25 = .ok (.goto 6, 3) := by decide +kernel
theorem dX8_longestWithoutFall_28 : decode cX8_longestWithoutFall 28 = .ok (.iload_n 3, 1) := by decide +kernel
theorem dX8_longestWithoutFall_29 : decode cX8_longestWithoutFall 29 = .ok (.iconst 1, 1) := by decide +kernel
theorem dX8_longestWithoutFall_30 : decode cX8_longestWithoutFall 30 = .ok (.iadd, 1) := by decide +kernel
theorem dX8_longestWithoutFall_31 : decode cX8_longestWithoutFall 31 = .ok (.istore_n 3, 1) := by decide +kernel
theorem dX8_longestWithoutFall_32 : decode cX8_longestWithoutFall 32 = .ok (.iload_n 2, 1) := by decide +kernel
theorem dX8_longestWithoutFall_33 : decode cX8_longestWithoutFall 33 = .ok (.iload_n 3, 1) := by decide +kernel
theorem dX8_longestWithoutFall_34 : decode cX8_longestWithoutFall 34 = .ok (.invokestatic 39, 3) := by decide +kernel
theorem dX8_longestWithoutFall_37 : decode cX8_longestWithoutFall 37 = .ok (.istore_n 2, 1) := by decide +kernel
theorem dX8_longestWithoutFall_38 : decode cX8_longestWithoutFall 38 = .ok (.iinc 4 1, 3) := by decide +kernel
theorem dX8_longestWithoutFall_41 : decode cX8_longestWithoutFall 41 = .ok (.goto (-34), 3) := by decide +kernel
theorem dX8_longestWithoutFall_44 : decode cX8_longestWithoutFall 44 = .ok (.iload_n 2, 1) := by decide +kernel
theorem dX8_longestWithoutFall_45 : decode cX8_longestWithoutFall 45 = .ok (.ireturn, 1) := by decide +kernel
set_option maxRecDepth 20000 in
theorem ggX9_init_X4_init : GoodIn wsX9_init wsX4_init := goodIn_r _ [45, 46, 2, 3, 47, 12, 13, 48, 49, 50, 51, 52, 53, 54, 55, 56, 4, 57, 58, 59, 60, 61, 62, 63, 64, 65, 66, 67, 68, 135, 136, 137, 138, 139, 140, 141, 142, 143, 144, 145, 146, 129, 130, 131, 132, 133, 134] (by decide +kernel) (by decide +kernel)
set_option maxRecDepth 20000 in
theorem gX9_init_X4_init : GoodIn wsX9_init (wsX4_init) := ggX9_init_X4_init
set_option maxRecDepth 20000 in
theorem ggX9_init_X7_init : GoodIn wsX9_init wsX7_init := goodIn_r _ [55, 56, 2, 3, 4, 57, 58, 59, 60, 61, 62, 63, 64, 65, 66, 67, 68, 135, 136, 137, 138, 139, 140, 141, 142, 143, 144, 145, 146] (by decide +kernel) (by decide +kernel)
set_option maxRecDepth 20000 in
theorem gX9_init_X7_init_n28 : GoodIn wsX9_init (wsX7_init) := ggX9_init_X7_init
set_option maxRecDepth 20000 in
theorem ggX9_init_X6_init : GoodIn wsX9_init wsX6_init := goodIn_r _ [70, 71, 2, 3, 4, 72, 147] (by decide +kernel) (by decide +kernel)
set_option maxRecDepth 20000 in
theorem gX9_init_X6_init_n35 : GoodIn wsX9_init (wsX6_init) := ggX9_init_X6_init
set_option maxRecDepth 20000 in
theorem ggX9_init_X3_init : GoodIn wsX9_init wsX3_init := goodIn_r _ [74, 75, 2, 3, 76, 4, 77, 78, 148, 149, 150] (by decide +kernel) (by decide +kernel)
set_option maxRecDepth 20000 in
theorem gX9_init_X3_init_n42 : GoodIn wsX9_init (wsX3_init) := ggX9_init_X3_init
set_option maxRecDepth 20000 in
theorem ggX9_init_X2_init : GoodIn wsX9_init wsX2_init := goodIn_r _ [80, 81, 2, 3, 82, 83, 4, 84, 85, 151, 152, 153] (by decide +kernel) (by decide +kernel)
set_option maxRecDepth 20000 in
theorem gX9_init_X2_init_n49 : GoodIn wsX9_init (wsX2_init) := ggX9_init_X2_init
set_option maxRecDepth 20000 in
theorem ggX9_init_X1_init : GoodIn wsX9_init wsX1_init := goodIn_r _ [87, 88, 2, 3, 89, 154] (by decide +kernel) (by decide +kernel)
set_option maxRecDepth 20000 in
theorem gX9_init_X1_init_n56 : GoodIn wsX9_init (wsX1_init) := ggX9_init_X1_init
set_option maxRecDepth 20000 in
theorem ggX9_init_X8_init : GoodIn wsX9_init wsX8_init := goodIn_r _ [92, 93, 2, 3, 4, 94, 95, 96, 97, 98, 155, 156, 157, 158] (by decide +kernel) (by decide +kernel)
set_option maxRecDepth 20000 in
theorem gX9_init_X8_init : GoodIn wsX9_init (wsX8_init) := ggX9_init_X8_init
set_option maxRecDepth 20000 in
theorem ggX9_init_X5_init : GoodIn wsX9_init wsX5_init := goodIn_r _ [101, 102, 2, 3, 103, 4, 104, 105, 106, 107, 108, 109, 159, 160, 161, 162, 163, 164, 165] (by decide +kernel) (by decide +kernel)
set_option maxRecDepth 20000 in
theorem gX9_init_X5_init : GoodIn wsX9_init (wsX5_init) := ggX9_init_X5_init
set_option maxRecDepth 20000 in
theorem ggX9_init_X0_init : GoodIn wsX9_init wsX0_init := goodIn_r _ [112, 113, 2, 3, 114, 4, 115, 116, 117, 166, 167, 168, 169] (by decide +kernel) (by decide +kernel)
set_option maxRecDepth 20000 in
theorem gX9_init_X0_init : GoodIn wsX9_init (wsX0_init) := ggX9_init_X0_init
theorem dX9_init_0 : decode cX9_init 0 = .ok (.aload_n 0, 1) := by decide +kernel
theorem dX9_init_1 : decode cX9_init 1 = .ok (.invokespecial 1, 3) := by decide +kernel
theorem dX9_init_4 : decode cX9_init 4 = .ok (.aload_n 0, 1) := by decide +kernel
theorem dX9_init_5 : decode cX9_init 5 = .ok (.sipush 240, 3) := by decide +kernel
theorem dX9_init_8 : decode cX9_init 8 = .ok (.newarray .int, 2) := by decide +kernel
theorem dX9_init_10 : decode cX9_init 10 = .ok (.putfield 9, 3) := by decide +kernel
theorem dX9_init_13 : decode cX9_init 13 = .ok (.aload_n 0, 1) := by decide +kernel
theorem dX9_init_14 : decode cX9_init 14 = .ok (.iconst 0, 1) := by decide +kernel
theorem dX9_init_15 : decode cX9_init 15 = .ok (.putfield 13, 3) := by decide +kernel
theorem dX9_init_18 : decode cX9_init 18 = .ok (.aload_n 0, 1) := by decide +kernel
theorem dX9_init_19 : decode cX9_init 19 = .ok (.new 17, 3) := by decide +kernel
theorem dX9_init_22 : decode cX9_init 22 = .ok (.dup, 1) := by decide +kernel
theorem dX9_init_23 : decode cX9_init 23 = .ok (.aload_n 0, 1) := by decide +kernel
theorem dX9_init_24 : decode cX9_init 24 = .ok (.getfield 9, 3) := by decide +kernel
theorem dX9_init_27 : decode cX9_init 27 = .ok (.invokespecial 19, 3) := by decide +kernel
theorem dX9_init_30 : decode cX9_init 30 = .ok (.putfield 22, 3) := by decide +kernel
theorem dX9_init_33 : decode cX9_init 33 = .ok (.aload_n 0, 1) := by decide +kernel
theorem dX9_init_34 : decode cX9_init 34 = .ok (.new 26, 3) := by decide +kernel
theorem dX9_init_37 : decode cX9_init 37 = .ok (.dup, 1) := by decide +kernel
theorem dX9_init_38 : decode cX9_init 38 = .ok (.invokespecial 28, 3) := by decide +kernel
theorem dX9_init_41 : decode cX9_init 41 = .ok (.putfield 29, 3) := by decide +kernel
theorem dX9_init_44 : decode cX9_init 44 = .ok (.aload_n 0, 1) := by decide +kernel
theorem dX9_init_45 : decode cX9_init 45 = .ok (.new 33, 3) := by decide +kernel
theorem dX9_init_48 : decode cX9_init 48 = .ok (.dup, 1) := by decide +kernel
theorem dX9_init_49 : decode cX9_init 49 = .ok (.invokespecial 35, 3) := by decide +kernel
theorem dX9_init_52 : decode cX9_init 52 = .ok (.putfield 36, 3) := by decide +kernel
theorem dX9_init_55 : decode cX9_init 55 = .ok (.aload_n 0, 1) := by decide +kernel
theorem dX9_init_56 : decode cX9_init 56 = .ok (.new 40, 3) := by decide +kernel
theorem dX9_init_59 : decode cX9_init 59 = .ok (.dup, 1) := by decide +kernel
theorem dX9_init_60 : decode cX9_init 60 = .ok (.invokespecial 42, 3) := by decide +kernel
theorem dX9_init_63 : decode cX9_init 63 = .ok (.putfield 43, 3) := by decide +kernel
theorem dX9_init_66 : decode cX9_init 66 = .ok (.aload_n 0, 1) := by decide +kernel
theorem dX9_init_67 : decode cX9_init 67 = .ok (.new 47, 3) := by decide +kernel
theorem dX9_init_70 : decode cX9_init 70 = .ok (.dup, 1) := by decide +kernel
theorem dX9_init_71 : decode cX9_init 71 = .ok (.invokespecial 49, 3) := by decide +kernel
theorem dX9_init_74 : decode cX9_init 74 = .ok (.putfield 50, 3) := by decide +kernel
theorem dX9_init_77 : decode cX9_init 77 = .ok (.aload_n 0, 1) := by decide +kernel
theorem dX9_init_78 : decode cX9_init 78 = .ok (.new 54, 3) := by decide +kernel
theorem dX9_init_81 : decode cX9_init 81 = .ok (.dup, 1) := by decide +kernel
theorem dX9_init_82 : decode cX9_init 82 = .ok (.invokespecial 56, 3) := by decide +kernel
theorem dX9_init_85 : decode cX9_init 85 = .ok (.putfield 57, 3) := by decide +kernel
theorem dX9_init_88 : decode cX9_init 88 = .ok (.aload_n 0, 1) := by decide +kernel
theorem dX9_init_89 : decode cX9_init 89 = .ok (.new 61, 3) := by decide +kernel
theorem dX9_init_92 : decode cX9_init 92 = .ok (.dup, 1) := by decide +kernel
theorem dX9_init_93 : decode cX9_init 93 = .ok (.aload_n 0, 1) := by decide +kernel
theorem dX9_init_94 : decode cX9_init 94 = .ok (.getfield 29, 3) := by decide +kernel
theorem dX9_init_97 : decode cX9_init 97 = .ok (.aload_n 0, 1) := by decide +kernel
theorem dX9_init_98 : decode cX9_init 98 = .ok (.getfield 36, 3) := by decide +kernel
theorem dX9_init_101 : decode cX9_init 101 = .ok (.invokespecial 63, 3) := by decide +kernel
theorem dX9_init_104 : decode cX9_init 104 = .ok (.putfield 66, 3) := by decide +kernel
theorem dX9_init_107 : decode cX9_init 107 = .ok (.aload_n 0, 1) := by decide +kernel
theorem dX9_init_108 : decode cX9_init 108 = .ok (.new 70, 3) := by decide +kernel
theorem dX9_init_111 : decode cX9_init 111 = .ok (.dup, 1) := by decide +kernel
theorem dX9_init_112 : decode cX9_init 112 = .ok (.aload_n 0, 1) := by decide +kernel
theorem dX9_init_113 : decode cX9_init 113 = .ok (.getfield 29, 3) := by decide +kernel
theorem dX9_init_116 : decode cX9_init 116 = .ok (.aload_n 0, 1) := by decide +kernel
theorem dX9_init_117 : decode cX9_init 117 = .ok (.getfield 36, 3) := by decide +kernel
theorem dX9_init_120 : decode cX9_init 120 = .ok (.invokespecial 72, 3) := by decide +kernel
theorem dX9_init_123 : decode cX9_init 123 = .ok (.putfield 73, 3) := by decide +kernel
theorem dX9_init_126 : decode cX9_init 126 = .ok (.aload_n 0, 1) := by decide +kernel
theorem dX9_init_127 : decode cX9_init 127 = .ok (.new 77, 3) := by decide +kernel
theorem dX9_init_130 : decode cX9_init 130 = .ok (.dup, 1) := by decide +kernel
theorem dX9_init_131 : decode cX9_init 131 = .ok (.aload_n 0, 1) := by decide +kernel
theorem dX9_init_132 : decode cX9_init 132 = .ok (.getfield 36, 3) := by decide +kernel
theorem dX9_init_135 : decode cX9_init 135 = .ok (.invokespecial 79, 3) := by decide +kernel
theorem dX9_init_138 : decode cX9_init 138 = .ok (.putfield 82, 3) := by decide +kernel
theorem dX9_init_141 : decode cX9_init 141 = .ok (.return_, 1) := by decide +kernel
set_option maxRecDepth 20000 in
theorem ggX9_feed_X9_isOut : GoodIn wsX9_feed wsX9_isOut := goodIn_r _ [8] (by decide +kernel) (by decide +kernel)
set_option maxRecDepth 20000 in
theorem gX9_feed_X9_isOut : GoodIn wsX9_feed (va_wsS RX9 86 yX9_isOut wsX9_isOut) := goodIn_app (goodIn_of _ (by decide +kernel)) ggX9_feed_X9_isOut
theorem dX9_feed_0 : decode cX9_feed 0 = .ok (.iload_n 1, 1) := by decide +kernel
theorem dX9_feed_1 : decode cX9_feed 1 = .ok (.iconst 0, 1) := by decide +kernel
theorem dX9_feed_2 : decode cX9_feed 2 = .ok (.sipush 255, 3) := by decide +kernel
theorem dX9_feed_5 : decode cX9_feed 5 = .ok (.invokestatic 86, 3) := by decide +kernel
theorem dX9_feed_8 : decode cX9_feed 8 = .ok (.ifCond .eq 6, 3) := by decide +kernel
theorem dX9_feed_11 : decode cX9_feed 11 = .ok (.ldc 90, 2) := by decide +kernel
theorem dX9_feed_13 : decode cX9_feed 13 = .ok (.ireturn, 1) := by decide +kernel
theorem dX9_feed_14 : decode cX9_feed 14 = .ok (.aload_n 0, 1) := by decide +kernel
theorem dX9_feed_15 : decode cX9_feed 15 = .ok (.getfield 13, 3) := by decide +kernel
theorem dX9_feed_18 : decode cX9_feed 18 = .ok (.sipush 240, 3) := by decide +kernel
theorem dX9_feed_21 : decode cX9_feed 21 = .ok (.if_icmp .lt 6, 3) := by decide +kernel
theorem dX9_feed_24 : decode cX9_feed 24 = .ok (.ldc 91, 2) := by decide +kernel
theorem dX9_feed_26 : decode cX9_feed 26 = .ok (.ireturn, 1) := by decide +kernel
theorem dX9_feed_27 : decode cX9_feed 27 = .ok (.aload_n 0, 1) := by decide +kernel
theorem dX9_feed_28 : decode cX9_feed 28 = .ok (.getfield 9, 3) := by decide +kernel
theorem dX9_feed_31 : decode cX9_feed 31 = .ok (.aload_n 0, 1) := by decide +kernel
theorem dX9_feed_32 : decode cX9_feed 32 = .ok (.getfield 13, 3) := by decide +kernel
theorem dX9_feed_35 : decode cX9_feed 35 = .ok (.iload_n 1, 1) := by decide +kernel
theorem dX9_feed_36 : decode cX9_feed 36 = .ok (.iastore, 1) := by decide +kernel
theorem dX9_feed_37 : decode cX9_feed 37 = .ok (.aload_n 0, 1) := by decide +kernel
theorem dX9_feed_38 : decode cX9_feed 38 = .ok (.dup, 1) := by decide +kernel
theorem dX9_feed_39 : decode cX9_feed 39 = .ok (.getfield 13, 3) := by decide +kernel
theorem dX9_feed_42 : decode cX9_feed 42 = .ok (.iconst 1, 1) := by decide +kernel
theorem dX9_feed_43 : decode cX9_feed 43 = .ok (.iadd, 1) := by decide +kernel
theorem dX9_feed_44 : decode cX9_feed 44 = .ok (.putfield 13, 3) := by decide +kernel
theorem dX9_feed_47 : decode cX9_feed 47 = .ok (.aload_n 0, 1) := by decide +kernel
theorem dX9_feed_48 : decode cX9_feed 48 = .ok (.getfield 13, 3) := by decide +kernel
theorem dX9_feed_51 : decode cX9_feed 51 = .ok (.ireturn, 1) := by decide +kernel
set_option maxRecDepth 20000 in
theorem ggX9_valley_X4_read : GoodIn wsX9_valley wsX4_read := goodIn_r _ [15, 16, 17, 18, 19, 20, 21, 22, 23, 24, 25, 26, 27, 28, 29, 30, 31, 32, 33, 34, 35, 36, 37, 38, 39, 40, 14, 41, 42, 43, 44, 45, 46, 47, 48, 49, 50, 51, 52, 53, 54, 55, 56, 57, 58, 59, 60, 61, 62, 63, 64, 65, 66, 67, 68, 69, 70, 71, 72, 73, 74, 75, 76, 77, 78, 79, 80, 81, 82, 83, 84, 85, 86, 87, 88, 89, 90, 91, 92, 93, 94, 95, 96, 97, 98, 99, 100, 101, 102, 103, 104, 105, 106, 107, 108, 109, 110, 111, 172, 173, 174, 175, 176, 177, 178, 179, 180, 181, 182, 183, 184, 185, 186, 187, 188, 189] (by decide +kernel) (by decide +kernel)
set_option maxRecDepth 20000 in
theorem gX9_valley_X4_read : GoodIn wsX9_valley (wsV RX9 92 RX4 yX4_read wsX4_read) := goodIn_app (goodIn_of _ (by decide +kernel)) ggX9_valley_X4_read
set_option maxRecDepth 20000 in
theorem ggX9_valley_X7_become : GoodIn wsX9_valley wsX7_become := goodIn_r _ [115, 116, 117, 118, 119, 120, 87, 88, 89, 99, 100, 110, 111, 34, 35, 36, 37, 178, 179, 180, 181, 182, 183, 184, 185, 186, 187, 188, 189] (by decide +kernel) (by decide +kernel)
set_option maxRecDepth 20000 in
theorem gX9_valley_X7_become : GoodIn wsX9_valley (wsV RX9 99 RX7 yX7_become wsX7_become) := goodIn_app (goodIn_of _ (by decide +kernel)) ggX9_valley_X7_become
set_option maxRecDepth 20000 in
theorem ggX9_valley_X6_begin : GoodIn wsX9_valley wsX6_begin := goodIn_r _ [125, 126, 127, 128, 129, 130, 131, 132, 133, 134, 135, 190, 178, 179, 180, 181, 182, 183, 184, 185, 186, 187, 188, 189] (by decide +kernel) (by decide +kernel)
set_option maxRecDepth 20000 in
theorem gX9_valley_X6_begin : GoodIn wsX9_valley (wsV RX9 103 RX6 yX6_begin wsX6_begin) := goodIn_app (goodIn_of _ (by decide +kernel)) ggX9_valley_X6_begin
set_option maxRecDepth 20000 in
theorem ggX9_valley_X3_forget : GoodIn wsX9_valley wsX3_forget := goodIn_r _ [140, 141, 142, 191, 192, 193] (by decide +kernel) (by decide +kernel)
set_option maxRecDepth 20000 in
theorem gX9_valley_X3_forget : GoodIn wsX9_valley (wsV RX9 106 RX3 yX3_forget wsX3_forget) := goodIn_app (goodIn_of _ (by decide +kernel)) ggX9_valley_X3_forget
set_option maxRecDepth 20000 in
theorem ggX9_valley_X2_forget : GoodIn wsX9_valley wsX2_forget := goodIn_r _ [147, 148, 194, 195, 196] (by decide +kernel) (by decide +kernel)
set_option maxRecDepth 20000 in
theorem gX9_valley_X2_forget : GoodIn wsX9_valley (wsV RX9 109 RX2 yX2_forget wsX2_forget) := goodIn_app (goodIn_of _ (by decide +kernel)) ggX9_valley_X2_forget
set_option maxRecDepth 20000 in
theorem ggX9_valley_X5_forget : GoodIn wsX9_valley wsX5_forget := goodIn_r _ [153, 154, 197, 198, 199, 200, 201, 202, 203] (by decide +kernel) (by decide +kernel)
set_option maxRecDepth 20000 in
theorem gX9_valley_X5_forget : GoodIn wsX9_valley (wsV RX9 110 RX5 yX5_forget wsX5_forget) := goodIn_app (goodIn_of _ (by decide +kernel)) ggX9_valley_X5_forget
set_option maxRecDepth 20000 in
theorem ggX9_valley_X0_forget : GoodIn wsX9_valley wsX0_forget := goodIn_r _ [159, 160, 204, 205, 206, 207] (by decide +kernel) (by decide +kernel)
set_option maxRecDepth 20000 in
theorem gX9_valley_X0_forget : GoodIn wsX9_valley (wsV RX9 111 RX0 yX0_forget wsX0_forget) := goodIn_app (goodIn_of _ (by decide +kernel)) ggX9_valley_X0_forget
theorem dX9_valley_0 : decode cX9_valley 0 = .ok (.aload_n 0, 1) := by decide +kernel
theorem dX9_valley_1 : decode cX9_valley 1 = .ok (.getfield 13, 3) := by decide +kernel
theorem dX9_valley_4 : decode cX9_valley 4 = .ok (.istore_n 1, 1) := by decide +kernel
theorem dX9_valley_5 : decode cX9_valley 5 = .ok (.aload_n 0, 1) := by decide +kernel
theorem dX9_valley_6 : decode cX9_valley 6 = .ok (.iconst 0, 1) := by decide +kernel
theorem dX9_valley_7 : decode cX9_valley 7 = .ok (.putfield 13, 3) := by decide +kernel
theorem dX9_valley_10 : decode cX9_valley 10 = .ok (.aload_n 0, 1) := by decide +kernel
theorem dX9_valley_11 : decode cX9_valley 11 = .ok (.getfield 22, 3) := by decide +kernel
theorem dX9_valley_14 : decode cX9_valley 14 = .ok (.iload_n 1, 1) := by decide +kernel
theorem dX9_valley_15 : decode cX9_valley 15 = .ok (.invokevirtual 92, 3) := by decide +kernel
theorem dX9_valley_18 : decode cX9_valley 18 = .ok (.istore_n 2, 1) := by decide +kernel
theorem dX9_valley_19 : decode cX9_valley 19 = .ok (.iload_n 2, 1) := by decide +kernel
theorem dX9_valley_20 : decode cX9_valley 20 = .ok (.ifCond .eq 8, 3) := by decide +kernel
theorem dX9_valley_23 : decode cX9_valley 23 = .ok (.bipush (-10), 2) := by decide +kernel
theorem dX9_valley_25 : decode cX9_valley 25 = .ok (.iload_n 2, 1) := by decide +kernel
theorem dX9_valley_26 : decode cX9_valley 26 = .ok (.isub, 1) := by decide +kernel
theorem dX9_valley_27 : decode cX9_valley 27 = .ok (.ireturn, 1) := by decide +kernel
theorem dX9_valley_28 : decode cX9_valley 28 = .ok (.aload_n 0, 1) := by decide +kernel
theorem dX9_valley_29 : decode cX9_valley 29 = .ok (.getfield 29, 3) := by decide +kernel
theorem dX9_valley_32 : decode cX9_valley 32 = .ok (.aload_n 0, 1) := by decide +kernel
theorem dX9_valley_33 : decode cX9_valley 33 = .ok (.getfield 22, 3) := by decide +kernel
theorem dX9_valley_36 : decode cX9_valley 36 = .ok (.getfield 96, 3) := by decide +kernel
theorem dX9_valley_39 : decode cX9_valley 39 = .ok (.invokevirtual 99, 3) := by decide +kernel
theorem dX9_valley_42 : decode cX9_valley 42 = .ok (.aload_n 0, 1) := by decide +kernel
theorem dX9_valley_43 : decode cX9_valley 43 = .ok (.getfield 36, 3) := by decide +kernel
theorem dX9_valley_46 : decode cX9_valley 46 = .ok (.aload_n 0, 1) := by decide +kernel
theorem dX9_valley_47 : decode cX9_valley 47 = .ok (.getfield 29, 3) := by decide +kernel
theorem dX9_valley_50 : decode cX9_valley 50 = .ok (.invokevirtual 103, 3) := by decide +kernel
theorem dX9_valley_53 : decode cX9_valley 53 = .ok (.aload_n 0, 1) := by decide +kernel
theorem dX9_valley_54 : decode cX9_valley 54 = .ok (.getfield 43, 3) := by decide +kernel
theorem dX9_valley_57 : decode cX9_valley 57 = .ok (.invokevirtual 106, 3) := by decide +kernel
theorem dX9_valley_60 : decode cX9_valley 60 = .ok (.aload_n 0, 1) := by decide +kernel
theorem dX9_valley_61 : decode cX9_valley 61 = .ok (.getfield 50, 3) := by decide +kernel
theorem dX9_valley_64 : decode cX9_valley 64 = .ok (.invokevirtual 109, 3) := by decide +kernel
theorem dX9_valley_67 : decode cX9_valley 67 = .ok (.aload_n 0, 1) := by decide +kernel
theorem dX9_valley_68 : decode cX9_valley 68 = .ok (.getfield 73, 3) := by decide +kernel
theorem dX9_valley_71 : decode cX9_valley 71 = .ok (.invokevirtual 110, 3) := by decide +kernel
theorem dX9_valley_74 : decode cX9_valley 74 = .ok (.aload_n 0, 1) := by decide +kernel
theorem dX9_valley_75 : decode cX9_valley 75 = .ok (.getfield 82, 3) := by decide +kernel
theorem dX9_valley_78 : decode cX9_valley 78 = .ok (.invokevirtual 111, 3) := by decide +kernel
theorem dX9_valley_81 : decode cX9_valley 81 = .ok (.aload_n 0, 1) := by decide +kernel
theorem dX9_valley_82 : decode cX9_valley 82 = .ok (.getfield 29, 3) := by decide +kernel
theorem dX9_valley_85 : decode cX9_valley 85 = .ok (.getfield 112, 3) := by decide +kernel
theorem dX9_valley_88 : decode cX9_valley 88 = .ok (.ireturn, 1) := by decide +kernel
theorem dX9_fault_0 : decode cX9_fault 0 = .ok (.aload_n 0, 1) := by decide +kernel
theorem dX9_fault_1 : decode cX9_fault 1 = .ok (.getfield 22, 3) := by decide +kernel
theorem dX9_fault_4 : decode cX9_fault 4 = .ok (.getfield 115, 3) := by decide +kernel
theorem dX9_fault_7 : decode cX9_fault 7 = .ok (.ireturn, 1) := by decide +kernel
set_option maxRecDepth 20000 in
theorem ggX9_told_X6_nights : GoodIn wsX9_told wsX6_nights := goodIn_r _ [19, 20, 105] (by decide +kernel) (by decide +kernel)
set_option maxRecDepth 20000 in
theorem gX9_told_X6_nights : GoodIn wsX9_told (wsV RX9 127 RX6 yX6_nights wsX6_nights) := goodIn_app (goodIn_of _ (by decide +kernel)) ggX9_told_X6_nights
set_option maxRecDepth 20000 in
theorem ggX9_told_X6_dueDebts : GoodIn wsX9_told wsX6_dueDebts := goodIn_r _ [24, 25, 26, 27, 28, 18, 29, 30, 31, 32, 33, 20, 34, 35, 36, 37, 38, 39, 40, 41, 42, 43, 44, 45, 46, 47, 48, 49, 50, 79, 80, 81, 82, 83, 84, 85, 86, 87, 88, 89, 90, 105] (by decide +kernel) (by decide +kernel)
set_option maxRecDepth 20000 in
theorem gX9_told_X6_dueDebts : GoodIn wsX9_told (wsV RX9 131 RX6 yX6_dueDebts wsX6_dueDebts) := goodIn_app (goodIn_of _ (by decide +kernel)) ggX9_told_X6_dueDebts
set_option maxRecDepth 20000 in
theorem ggX9_told_X7_greenNights : GoodIn wsX9_told wsX7_greenNights := goodIn_r _ [55, 56, 57, 58, 59, 60, 54, 61, 62, 63, 64, 65, 66, 67, 79, 80, 81, 82, 83, 84, 85, 86, 87, 88, 89, 90] (by decide +kernel) (by decide +kernel)
set_option maxRecDepth 20000 in
theorem gX9_told_X7_greenNights : GoodIn wsX9_told (wsV RX9 135 RX7 yX7_greenNights wsX7_greenNights) := goodIn_app (goodIn_of _ (by decide +kernel)) ggX9_told_X7_greenNights
theorem dX9_told_0 : decode cX9_told 0 = .ok (.iload_n 1, 1) := by decide +kernel
theorem dX9_told_1 : decode cX9_told 1 = .ok (.tableswitch 148 0 10 #[59, 67, 75, 83, 91, 96, 104, 116, 124, 132, 140], 59) := by decide +kernel
theorem dX9_told_60 : decode cX9_told 60 = .ok (.aload_n 0, 1) := by decide +kernel
theorem dX9_told_61 : decode cX9_told 61 = .ok (.getfield 29, 3) := by decide +kernel
theorem dX9_told_64 : decode cX9_told 64 = .ok (.getfield 118, 3) := by decide +kernel
theorem dX9_told_67 : decode cX9_told 67 = .ok (.ireturn, 1) := by decide +kernel
theorem dX9_told_68 : decode cX9_told 68 = .ok (.aload_n 0, 1) := by decide +kernel
theorem dX9_told_69 : decode cX9_told 69 = .ok (.getfield 29, 3) := by decide +kernel
theorem dX9_told_72 : decode cX9_told 72 = .ok (.getfield 112, 3) := by decide +kernel
theorem dX9_told_75 : decode cX9_told 75 = .ok (.ireturn, 1) := by decide +kernel
theorem dX9_told_76 : decode cX9_told 76 = .ok (.aload_n 0, 1) := by decide +kernel
theorem dX9_told_77 : decode cX9_told 77 = .ok (.getfield 29, 3) := by decide +kernel
theorem dX9_told_80 : decode cX9_told 80 = .ok (.getfield 121, 3) := by decide +kernel
theorem dX9_told_83 : decode cX9_told 83 = .ok (.ireturn, 1) := by decide +kernel
theorem dX9_told_84 : decode cX9_told 84 = .ok (.aload_n 0, 1) := by decide +kernel
theorem dX9_told_85 : decode cX9_told 85 = .ok (.getfield 29, 3) := by decide +kernel
theorem dX9_told_88 : decode cX9_told 88 = .ok (.getfield 124, 3) := by decide +kernel
theorem dX9_told_91 : decode cX9_told 91 = .ok (.ireturn, 1) := by decide +kernel
theorem dX9_told_92 : decode cX9_told 92 = .ok (.aload_n 0, 1) := by decide +kernel
theorem dX9_told_93 : decode cX9_told 93 = .ok (.getfield 13, 3) := by decide +kernel
theorem dX9_told_96 : decode cX9_told 96 = .ok (.ireturn, 1) := by decide +kernel
theorem dX9_told_97 : decode cX9_told 97 = .ok (.aload_n 0, 1) := by decide +kernel
theorem dX9_told_98 : decode cX9_told 98 = .ok (.getfield 36, 3) := by decide +kernel
theorem dX9_told_101 : decode cX9_told 101 = .ok (.invokevirtual 127, 3) := by decide +kernel
theorem dX9_told_104 : decode cX9_told 104 = .ok (.ireturn, 1) := by decide +kernel
theorem dX9_told_105 : decode cX9_told 105 = .ok (.aload_n 0, 1) := by decide +kernel
theorem dX9_told_106 : decode cX9_told 106 = .ok (.getfield 36, 3) := by decide +kernel
theorem dX9_told_109 : decode cX9_told 109 = .ok (.aload_n 0, 1) := by decide +kernel
theorem dX9_told_110 : decode cX9_told 110 = .ok (.getfield 29, 3) := by decide +kernel
theorem dX9_told_113 : decode cX9_told 113 = .ok (.invokevirtual 131, 3) := by decide +kernel
theorem dX9_told_116 : decode cX9_told 116 = .ok (.ireturn, 1) := by decide +kernel
theorem dX9_told_117 : decode cX9_told 117 = .ok (.aload_n 0, 1) := by decide +kernel
theorem dX9_told_118 : decode cX9_told 118 = .ok (.getfield 29, 3) := by decide +kernel
theorem dX9_told_121 : decode cX9_told 121 = .ok (.invokevirtual 135, 3) := by decide +kernel
theorem dX9_told_124 : decode cX9_told 124 = .ok (.ireturn, 1) := by decide +kernel
theorem dX9_told_125 : decode cX9_told 125 = .ok (.aload_n 0, 1) := by decide +kernel
theorem dX9_told_126 : decode cX9_told 126 = .ok (.getfield 73, 3) := by decide +kernel
theorem dX9_told_129 : decode cX9_told 129 = .ok (.getfield 138, 3) := by decide +kernel
theorem dX9_told_132 : decode cX9_told 132 = .ok (.ireturn, 1) := by decide +kernel
theorem dX9_told_133 : decode cX9_told 133 = .ok (.aload_n 0, 1) := by decide +kernel
theorem dX9_told_134 : decode cX9_told 134 = .ok (.getfield 82, 3) := by decide +kernel
theorem dX9_told_137 : decode cX9_told 137 = .ok (.getfield 141, 3) := by decide +kernel
theorem dX9_told_140 : decode cX9_told 140 = .ok (.ireturn, 1) := by decide +kernel
theorem dX9_told_141 : decode cX9_told 141 = .ok (.aload_n 0, 1) := by decide +kernel
theorem dX9_told_142 : decode cX9_told 142 = .ok (.getfield 43, 3) := by decide +kernel
theorem dX9_told_145 : decode cX9_told 145 = .ok (.getfield 142, 3) := by decide +kernel
theorem dX9_told_148 : decode cX9_told 148 = .ok (.ireturn, 1) := by decide +kernel
theorem dX9_told_149 : decode cX9_told 149 = .ok (.ldc 90, 2) := by decide +kernel
theorem dX9_told_151 : decode cX9_told 151 = .ok (.ireturn, 1) := by decide +kernel
set_option maxRecDepth 20000 in
theorem ggX9_winter_X9_isOut : GoodIn wsX9_winter wsX9_isOut := goodIn_r _ [7] (by decide +kernel) (by decide +kernel)
set_option maxRecDepth 20000 in
theorem gX9_winter_X9_isOut : GoodIn wsX9_winter (va_wsS RX9 86 yX9_isOut wsX9_isOut) := goodIn_app (goodIn_of _ (by decide +kernel)) ggX9_winter_X9_isOut
set_option maxRecDepth 20000 in
theorem ggX9_winter_X7_isThere : GoodIn wsX9_winter wsX7_isThere := goodIn_r _ [12, 13, 30, 31, 32, 33, 34, 35, 36, 37, 38, 39, 40, 41] (by decide +kernel) (by decide +kernel)
set_option maxRecDepth 20000 in
theorem gX9_winter_X7_isThere : GoodIn wsX9_winter (wsV RX9 143 RX7 yX7_isThere wsX7_isThere) := goodIn_app (goodIn_of _ (by decide +kernel)) ggX9_winter_X7_isThere
set_option maxRecDepth 20000 in
theorem ggX9_winter_X7_inchesOf : GoodIn wsX9_winter wsX7_inchesOf := goodIn_r _ [17, 13, 18, 30, 31, 32, 33, 34, 35, 36, 37, 38, 39, 40, 41] (by decide +kernel) (by decide +kernel)
set_option maxRecDepth 20000 in
theorem gX9_winter_X7_inchesOf : GoodIn wsX9_winter (wsV RX9 147 RX7 yX7_inchesOf wsX7_inchesOf) := goodIn_app (goodIn_of _ (by decide +kernel)) ggX9_winter_X7_inchesOf
theorem dX9_winter_0 : decode cX9_winter 0 = .ok (.iload_n 1, 1) := by decide +kernel
theorem dX9_winter_1 : decode cX9_winter 1 = .ok (.iconst 0, 1) := by decide +kernel
theorem dX9_winter_2 : decode cX9_winter 2 = .ok (.sipush 9999, 3) := by decide +kernel
theorem dX9_winter_5 : decode cX9_winter 5 = .ok (.invokestatic 86, 3) := by decide +kernel
theorem dX9_winter_8 : decode cX9_winter 8 = .ok (.ifCond .eq 6, 3) := by decide +kernel
theorem dX9_winter_11 : decode cX9_winter 11 = .ok (.ldc 90, 2) := by decide +kernel
theorem dX9_winter_13 : decode cX9_winter 13 = .ok (.ireturn, 1) := by decide +kernel
theorem dX9_winter_14 : decode cX9_winter 14 = .ok (.aload_n 0, 1) := by decide +kernel
theorem dX9_winter_15 : decode cX9_winter 15 = .ok (.getfield 29, 3) := by decide +kernel
theorem dX9_winter_18 : decode cX9_winter 18 = .ok (.invokevirtual 143, 3) := by decide +kernel
theorem dX9_winter_21 : decode cX9_winter 21 = .ok (.ifCond .eq 14, 3) := by decide +kernel
theorem dX9_winter_24 : decode cX9_winter 24 = .ok (.aload_n 0, 1) := by decide +kernel
theorem dX9_winter_25 : decode cX9_winter 25 = .ok (.getfield 29, 3) := by decide +kernel
theorem dX9_winter_28 : decode cX9_winter 28 = .ok (.iload_n 1, 1) := by decide +kernel
theorem dX9_winter_29 : decode cX9_winter 29 = .ok (.invokevirtual 147, 3) := by decide +kernel
theorem dX9_winter_32 : decode cX9_winter 32 = .ok (.goto 5, 3) := by decide +kernel
theorem dX9_winter_35 : decode cX9_winter 35 = .ok (.ldc 150, 2) := by decide +kernel
theorem dX9_winter_37 : decode cX9_winter 37 = .ok (.ireturn, 1) := by decide +kernel
set_option maxRecDepth 20000 in
theorem ggX9_village_X7_hasVillage : GoodIn wsX9_village wsX7_hasVillage := goodIn_r _ [17, 18, 51, 52, 53, 54, 55, 56, 57, 58, 59, 60, 61, 62] (by decide +kernel) (by decide +kernel)
set_option maxRecDepth 20000 in
theorem gX9_village_X7_hasVillage : GoodIn wsX9_village (wsV RX9 151 RX7 yX7_hasVillage wsX7_hasVillage) := goodIn_app (goodIn_of _ (by decide +kernel)) ggX9_village_X7_hasVillage
set_option maxRecDepth 20000 in
theorem ggX9_village_X6_falls : GoodIn wsX9_village wsX6_falls := goodIn_r _ [23, 24, 63] (by decide +kernel) (by decide +kernel)
set_option maxRecDepth 20000 in
theorem gX9_village_X6_falls : GoodIn wsX9_village (wsV RX9 162 RX6 yX6_falls wsX6_falls) := goodIn_app (goodIn_of _ (by decide +kernel)) ggX9_village_X6_falls
set_option maxRecDepth 20000 in
theorem ggX9_village_X6_pole : GoodIn wsX9_village wsX6_pole := goodIn_r _ [28, 24, 29, 30, 9, 31, 63] (by decide +kernel) (by decide +kernel)
set_option maxRecDepth 20000 in
theorem gX9_village_X6_pole : GoodIn wsX9_village (wsV RX9 165 RX6 yX6_pole wsX6_pole) := goodIn_app (goodIn_of _ (by decide +kernel)) ggX9_village_X6_pole
set_option maxRecDepth 20000 in
theorem ggX9_village_X6_fell : GoodIn wsX9_village wsX6_fell := goodIn_r _ [35, 24, 63] (by decide +kernel) (by decide +kernel)
set_option maxRecDepth 20000 in
theorem gX9_village_X6_fell : GoodIn wsX9_village (wsV RX9 168 RX6 yX6_fell wsX6_fell) := goodIn_app (goodIn_of _ (by decide +kernel)) ggX9_village_X6_fell
set_option maxRecDepth 20000 in
theorem ggX9_village_X6_sawedOff : GoodIn wsX9_village wsX6_sawedOff := goodIn_r _ [39, 24, 63] (by decide +kernel) (by decide +kernel)
set_option maxRecDepth 20000 in
theorem gX9_village_X6_sawedOff : GoodIn wsX9_village (wsV RX9 178 RX6 yX6_sawedOff wsX6_sawedOff) := goodIn_app (goodIn_of _ (by decide +kernel)) ggX9_village_X6_sawedOff
theorem dX9_village_0 : decode cX9_village 0 = .ok (.aload_n 0, 1) := by decide +kernel
theorem dX9_village_1 : decode cX9_village 1 = .ok (.getfield 29, 3) := by decide +kernel
theorem dX9_village_4 : decode cX9_village 4 = .ok (.iload_n 1, 1) := by decide +kernel
theorem dX9_village_5 : decode cX9_village 5 = .ok (.invokevirtual 151, 3) := by decide +kernel
theorem dX9_village_8 : decode cX9_village 8 = .ok (.ifCond .ne 6, 3) := by decide +kernel
theorem dX9_village_11 : decode cX9_village 11 = .ok (.ldc 155, 2) := by decide +kernel
theorem dX9_village_13 : decode cX9_village 13 = .ok (.ireturn, 1) := by decide +kernel
theorem dX9_village_14 : decode cX9_village 14 = .ok (.iload_n 2, 1) := by decide +kernel
theorem dX9_village_15 : decode cX9_village 15 = .ok (.tableswitch 112 0 6 #[41, 51, 61, 70, 79, 93, 102], 41) := by decide +kernel
theorem dX9_village_56 : decode cX9_village 56 = .ok (.aload_n 0, 1) := by decide +kernel
theorem dX9_village_57 : decode cX9_village 57 = .ok (.getfield 29, 3) := by decide +kernel
theorem dX9_village_60 : decode cX9_village 60 = .ok (.getfield 156, 3) := by decide +kernel
theorem dX9_village_63 : decode cX9_village 63 = .ok (.iload_n 1, 1) := by decide +kernel
theorem dX9_village_64 : decode cX9_village 64 = .ok (.iaload, 1) := by decide +kernel
theorem dX9_village_65 : decode cX9_village 65 = .ok (.ireturn, 1) := by decide +kernel
theorem dX9_village_66 : decode cX9_village 66 = .ok (.aload_n 0, 1) := by decide +kernel
theorem dX9_village_67 : decode cX9_village 67 = .ok (.getfield 29, 3) := by decide +kernel
theorem dX9_village_70 : decode cX9_village 70 = .ok (.getfield 159, 3) := by decide +kernel
theorem dX9_village_73 : decode cX9_village 73 = .ok (.iload_n 1, 1) := by decide +kernel
theorem dX9_village_74 : decode cX9_village 74 = .ok (.iaload, 1) := by decide +kernel
theorem dX9_village_75 : decode cX9_village 75 = .ok (.ireturn, 1) := by decide +kernel
theorem dX9_village_76 : decode cX9_village 76 = .ok (.aload_n 0, 1) := by decide +kernel
theorem dX9_village_77 : decode cX9_village 77 = .ok (.getfield 36, 3) := by decide +kernel
theorem dX9_village_80 : decode cX9_village 80 = .ok (.iload_n 1, 1) := by decide +kernel
theorem dX9_village_81 : decode cX9_village 81 = .ok (.invokevirtual 162, 3) := by decide +kernel
theorem dX9_village_84 : decode cX9_village 84 = .ok (.ireturn, 1) := by decide +kernel
theorem dX9_village_85 : decode cX9_village 85 = .ok (.aload_n 0, 1) := by decide +kernel
theorem dX9_village_86 : decode cX9_village 86 = .ok (.getfield 36, 3) := by decide +kernel
theorem dX9_village_89 : decode cX9_village 89 = .ok (.iload_n 1, 1) := by decide +kernel
theorem dX9_village_90 : decode cX9_village 90 = .ok (.invokevirtual 165, 3) := by decide +kernel
theorem dX9_village_93 : decode cX9_village 93 = .ok (.ireturn, 1) := by decide +kernel
theorem dX9_village_94 : decode cX9_village 94 = .ok (.aload_n 0, 1) := by decide +kernel
theorem dX9_village_95 : decode cX9_village 95 = .ok (.getfield 36, 3) := by decide +kernel
theorem dX9_village_98 : decode cX9_village 98 = .ok (.iload_n 1, 1) := by decide +kernel
theorem dX9_village_99 : decode cX9_village 99 = .ok (.invokevirtual 168, 3) := by decide +kernel
theorem dX9_village_102 : decode cX9_village 102 = .ok (.ldc 171, 2) := by decide +kernel
theorem dX9_village_104 : decode cX9_village 104 = .ok (.invokestatic 172, 3) := by decide +kernel
theorem dX9_village_107 : decode cX9_village 107 = .ok (.ireturn, 1) := by decide +kernel
theorem dX9_village_108 : decode cX9_village 108 = .ok (.aload_n 0, 1) := by decide +kernel
theorem dX9_village_109 : decode cX9_village 109 = .ok (.getfield 36, 3) := by decide +kernel
theorem dX9_village_112 : decode cX9_village 112 = .ok (.iload_n 1, 1) := by decide +kernel
theorem dX9_village_113 : decode cX9_village 113 = .ok (.invokevirtual 178, 3) := by decide +kernel
theorem dX9_village_116 : decode cX9_village 116 = .ok (.ireturn, 1) := by decide +kernel
theorem dX9_village_117 : decode cX9_village 117 = .ok (.aload_n 0, 1) := by decide +kernel
theorem dX9_village_118 : decode cX9_village 118 = .ok (.getfield 29, 3) := by decide +kernel
theorem dX9_village_121 : decode cX9_village 121 = .ok (.getfield 181, 3) := by decide +kernel
theorem dX9_village_124 : decode cX9_village 124 = .ok (.iload_n 1, 1) := by decide +kernel
theorem dX9_village_125 : decode cX9_village 125 = .ok (.iaload, 1) := by decide +kernel
theorem dX9_village_126 : decode cX9_village 126 = .ok (.ireturn, 1) := by decide +kernel
theorem dX9_village_127 : decode cX9_village 127 = .ok (.ldc 90, 2) := by decide +kernel
theorem dX9_village_129 : decode cX9_village 129 = .ok (.ireturn, 1) := by decide +kernel
set_option maxRecDepth 20000 in
theorem ggX9_person_X7_hasPerson : GoodIn wsX9_person wsX7_hasPerson := goodIn_r _ [9, 10, 43, 44, 45, 46, 47, 48, 49, 50, 51, 52, 53, 54] (by decide +kernel) (by decide +kernel)
set_option maxRecDepth 20000 in
theorem gX9_person_X7_hasPerson : GoodIn wsX9_person (wsV RX9 184 RX7 yX7_hasPerson wsX7_hasPerson) := goodIn_app (goodIn_of _ (by decide +kernel)) ggX9_person_X7_hasPerson
set_option maxRecDepth 20000 in
theorem ggX9_person_X6_home : GoodIn wsX9_person wsX6_home := goodIn_r _ [15, 16, 55] (by decide +kernel) (by decide +kernel)
set_option maxRecDepth 20000 in
theorem gX9_person_X6_home : GoodIn wsX9_person (wsV RX9 187 RX6 yX6_home wsX6_home) := goodIn_app (goodIn_of _ (by decide +kernel)) ggX9_person_X6_home
set_option maxRecDepth 20000 in
theorem ggX9_person_X6_lived : GoodIn wsX9_person wsX6_lived := goodIn_r _ [20, 16, 55] (by decide +kernel) (by decide +kernel)
set_option maxRecDepth 20000 in
theorem gX9_person_X6_lived : GoodIn wsX9_person (wsV RX9 190 RX6 yX6_lived wsX6_lived) := goodIn_app (goodIn_of _ (by decide +kernel)) ggX9_person_X6_lived
set_option maxRecDepth 20000 in
theorem ggX9_person_X6_age : GoodIn wsX9_person wsX6_age := goodIn_r _ [24, 25, 18, 19, 14, 20, 16, 26, 12, 13, 15, 27, 28, 29, 8, 30, 31, 55, 43, 44, 45, 46, 47, 48, 49, 50, 51, 52, 53, 54] (by decide +kernel) (by decide +kernel)
set_option maxRecDepth 20000 in
theorem gX9_person_X6_age : GoodIn wsX9_person (wsV RX9 193 RX6 yX6_age wsX6_age) := goodIn_app (goodIn_of _ (by decide +kernel)) ggX9_person_X6_age
theorem dX9_person_0 : decode cX9_person 0 = .ok (.aload_n 0, 1) := by decide +kernel
theorem dX9_person_1 : decode cX9_person 1 = .ok (.getfield 29, 3) := by decide +kernel
theorem dX9_person_4 : decode cX9_person 4 = .ok (.iload_n 1, 1) := by decide +kernel
theorem dX9_person_5 : decode cX9_person 5 = .ok (.invokevirtual 184, 3) := by decide +kernel
theorem dX9_person_8 : decode cX9_person 8 = .ok (.ifCond .ne 6, 3) := by decide +kernel
theorem dX9_person_11 : decode cX9_person 11 = .ok (.ldc 155, 2) := by decide +kernel
theorem dX9_person_13 : decode cX9_person 13 = .ok (.ireturn, 1) := by decide +kernel
theorem dX9_person_14 : decode cX9_person 14 = .ok (.iload_n 2, 1) := by decide +kernel
theorem dX9_person_15 : decode cX9_person 15 = .ok (.tableswitch 56 0 2 #[25, 34, 43], 25) := by decide +kernel
theorem dX9_person_40 : decode cX9_person 40 = .ok (.aload_n 0, 1) := by decide +kernel
theorem dX9_person_41 : decode cX9_person 41 = .ok (.getfield 36, 3) := by decide +kernel
theorem dX9_person_44 : decode cX9_person 44 = .ok (.iload_n 1, 1) := by decide +kernel
theorem dX9_person_45 : decode cX9_person 45 = .ok (.invokevirtual 187, 3) := by decide +kernel
theorem dX9_person_48 : decode cX9_person 48 = .ok (.ireturn, 1) := by decide +kernel
theorem dX9_person_49 : decode cX9_person 49 = .ok (.aload_n 0, 1) := by decide +kernel
theorem dX9_person_50 : decode cX9_person 50 = .ok (.getfield 36, 3) := by decide +kernel
theorem dX9_person_53 : decode cX9_person 53 = .ok (.iload_n 1, 1) := by decide +kernel
theorem dX9_person_54 : decode cX9_person 54 = .ok (.invokevirtual 190, 3) := by decide +kernel
theorem dX9_person_57 : decode cX9_person 57 = .ok (.ireturn, 1) := by decide +kernel
theorem dX9_person_58 : decode cX9_person 58 = .ok (.aload_n 0, 1) := by decide +kernel
theorem dX9_person_59 : decode cX9_person 59 = .ok (.getfield 36, 3) := by decide +kernel
theorem dX9_person_62 : decode cX9_person 62 = .ok (.aload_n 0, 1) := by decide +kernel
theorem dX9_person_63 : decode cX9_person 63 = .ok (.getfield 29, 3) := by decide +kernel
theorem dX9_person_66 : decode cX9_person 66 = .ok (.iload_n 1, 1) := by decide +kernel
theorem dX9_person_67 : decode cX9_person 67 = .ok (.invokevirtual 193, 3) := by decide +kernel
theorem dX9_person_70 : decode cX9_person 70 = .ok (.ireturn, 1) := by decide +kernel
theorem dX9_person_71 : decode cX9_person 71 = .ok (.ldc 90, 2) := by decide +kernel
theorem dX9_person_73 : decode cX9_person 73 = .ok (.ireturn, 1) := by decide +kernel
set_option maxRecDepth 20000 in
theorem ggX9_debt_X7_hasDebt : GoodIn wsX9_debt wsX7_hasDebt := goodIn_r _ [10, 11, 52, 53, 54, 55, 56, 57, 58, 59, 60, 61, 62, 63] (by decide +kernel) (by decide +kernel)
set_option maxRecDepth 20000 in
theorem gX9_debt_X7_hasDebt : GoodIn wsX9_debt (wsV RX9 197 RX7 yX7_hasDebt wsX7_hasDebt) := goodIn_app (goodIn_of _ (by decide +kernel)) ggX9_debt_X7_hasDebt
set_option maxRecDepth 20000 in
theorem ggX9_debt_X6_owed : GoodIn wsX9_debt wsX6_owed := goodIn_r _ [16, 17, 64] (by decide +kernel) (by decide +kernel)
set_option maxRecDepth 20000 in
theorem gX9_debt_X6_owed : GoodIn wsX9_debt (wsV RX9 203 RX6 yX6_owed wsX6_owed) := goodIn_app (goodIn_of _ (by decide +kernel)) ggX9_debt_X6_owed
set_option maxRecDepth 20000 in
theorem ggX9_debt_X6_fellSinceMade : GoodIn wsX9_debt wsX6_fellSinceMade := goodIn_r _ [21, 22, 17, 23, 13, 14, 15, 16, 24, 25, 26, 27, 52, 53, 54, 55, 56, 57, 58, 59, 60, 61, 62, 63, 64] (by decide +kernel) (by decide +kernel)
set_option maxRecDepth 20000 in
theorem gX9_debt_X6_fellSinceMade : GoodIn wsX9_debt (wsV RX9 206 RX6 yX6_fellSinceMade wsX6_fellSinceMade) := goodIn_app (goodIn_of _ (by decide +kernel)) ggX9_debt_X6_fellSinceMade
set_option maxRecDepth 20000 in
theorem ggX9_debt_X6_isDue : GoodIn wsX9_debt wsX6_isDue := goodIn_r _ [31, 23, 13, 14, 15, 16, 17, 32, 33, 34, 35, 36, 37, 38, 39, 40, 19, 20, 21, 22, 24, 25, 26, 27, 64, 52, 53, 54, 55, 56, 57, 58, 59, 60, 61, 62, 63] (by decide +kernel) (by decide +kernel)
set_option maxRecDepth 20000 in
theorem gX9_debt_X6_isDue : GoodIn wsX9_debt (wsV RX9 209 RX6 yX6_isDue wsX6_isDue) := goodIn_app (goodIn_of _ (by decide +kernel)) ggX9_debt_X6_isDue
theorem dX9_debt_0 : decode cX9_debt 0 = .ok (.aload_n 0, 1) := by decide +kernel
theorem dX9_debt_1 : decode cX9_debt 1 = .ok (.getfield 29, 3) := by decide +kernel
theorem dX9_debt_4 : decode cX9_debt 4 = .ok (.iload_n 1, 1) := by decide +kernel
theorem dX9_debt_5 : decode cX9_debt 5 = .ok (.invokevirtual 197, 3) := by decide +kernel
theorem dX9_debt_8 : decode cX9_debt 8 = .ok (.ifCond .ne 6, 3) := by decide +kernel
theorem dX9_debt_11 : decode cX9_debt 11 = .ok (.ldc 155, 2) := by decide +kernel
theorem dX9_debt_13 : decode cX9_debt 13 = .ok (.ireturn, 1) := by decide +kernel
theorem dX9_debt_14 : decode cX9_debt 14 = .ok (.iload_n 2, 1) := by decide +kernel
theorem dX9_debt_15 : decode cX9_debt 15 = .ok (.tableswitch 82 0 3 #[29, 39, 48, 61], 29) := by decide +kernel
theorem dX9_debt_44 : decode cX9_debt 44 = .ok (.aload_n 0, 1) := by decide +kernel
theorem dX9_debt_45 : decode cX9_debt 45 = .ok (.getfield 29, 3) := by decide +kernel
theorem dX9_debt_48 : decode cX9_debt 48 = .ok (.getfield 200, 3) := by decide +kernel
theorem dX9_debt_51 : decode cX9_debt 51 = .ok (.iload_n 1, 1) := by decide +kernel
theorem dX9_debt_52 : decode cX9_debt 52 = .ok (.iaload, 1) := by decide +kernel
theorem dX9_debt_53 : decode cX9_debt 53 = .ok (.ireturn, 1) := by decide +kernel
theorem dX9_debt_54 : decode cX9_debt 54 = .ok (.aload_n 0, 1) := by decide +kernel
theorem dX9_debt_55 : decode cX9_debt 55 = .ok (.getfield 36, 3) := by decide +kernel
theorem dX9_debt_58 : decode cX9_debt 58 = .ok (.iload_n 1, 1) := by decide +kernel
theorem dX9_debt_59 : decode cX9_debt 59 = .ok (.invokevirtual 203, 3) := by decide +kernel
theorem dX9_debt_62 : decode cX9_debt 62 = .ok (.ireturn, 1) := by decide +kernel
theorem dX9_debt_63 : decode cX9_debt 63 = .ok (.aload_n 0, 1) := by decide +kernel
theorem dX9_debt_64 : decode cX9_debt 64 = .ok (.getfield 36, 3) := by decide +kernel
theorem dX9_debt_67 : decode cX9_debt 67 = .ok (.aload_n 0, 1) := by decide +kernel
theorem dX9_debt_68 : decode cX9_debt 68 = .ok (.getfield 29, 3) := by decide +kernel
theorem dX9_debt_71 : decode cX9_debt 71 = .ok (.iload_n 1, 1) := by decide +kernel
theorem dX9_debt_72 : decode cX9_debt 72 = .ok (.invokevirtual 206, 3) := by decide +kernel
theorem dX9_debt_75 : decode cX9_debt 75 = .ok (.ireturn, 1) := by decide +kernel
