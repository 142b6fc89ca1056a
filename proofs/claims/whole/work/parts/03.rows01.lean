theorem dX5_fitsAll_7 : decode cX5_fitsAll 7 = .ok (.if_icmp .ge 31, 3) := by decide +kernel
theorem dX5_fitsAll_10 : decode cX5_fitsAll 10 = .ok (.aload_n 0, 1) := by decide +kernel
theorem dX5_fitsAll_11 : decode cX5_fitsAll 11 = .ok (.iload_n 1, 1) := by decide +kernel
theorem dX5_fitsAll_12 : decode cX5_fitsAll 12 = .ok (.aload_n 0, 1) := by decide +kernel
theorem dX5_fitsAll_13 : decode cX5_fitsAll 13 = .ok (.getfield 15, 3) := by decide +kernel
theorem dX5_fitsAll_16 : decode cX5_fitsAll 16 = .ok (.iload_n 2, 1) := by decide +kernel
theorem dX5_fitsAll_17 : decode cX5_fitsAll 17 = .ok (.iaload, 1) := by decide +kernel
theorem dX5_fitsAll_18 : decode cX5_fitsAll 18 = .ok (.invokevirtual 49, 3) := by decide +kernel
theorem dX5_fitsAll_21 : decode cX5_fitsAll 21 = .ok (.aload_n 0, 1) := by decide +kernel
theorem dX5_fitsAll_22 : decode cX5_fitsAll 22 = .ok (.getfield 19, 3) := by decide +kernel
theorem dX5_fitsAll_25 : decode cX5_fitsAll 25 = .ok (.iload_n 2, 1) := by decide +kernel
theorem dX5_fitsAll_26 : decode cX5_fitsAll 26 = .ok (.iaload, 1) := by decide +kernel
theorem dX5_fitsAll_27 : decode cX5_fitsAll 27 = .ok (.if_icmp .eq 5, 3) := by decide +kernel
theorem dX5_fitsAll_30 : decode cX5_fitsAll 30 = .ok (.iconst 0, 1) := by decide +kernel
theorem dX5_fitsAll_31 : decode cX5_fitsAll 31 = .ok (.ireturn, 1) := by decide +kernel
theorem dX5_fitsAll_32 : decode cX5_fitsAll 32 = .ok (.iinc 2 1, 3) := by decide +kernel
theorem dX5_fitsAll_35 : decode cX5_fitsAll 35 = .ok (.goto (-33), 3) := by decide +kernel
theorem dX5_fitsAll_38 : decode cX5_fitsAll 38 = .ok (.iconst 1, 1) := by decide +kernel
theorem dX5_fitsAll_39 : decode cX5_fitsAll 39 = .ok (.ireturn, 1) := by decide +kernel
set_option maxRecDepth 20000 in
theorem ggX5_ageByPole_X6_home : GoodIn wsX5_ageByPole wsX6_home := goodIn_r _ [12, 13, 48] (by decide +kernel) (by decide +kernel)
set_option maxRecDepth 20000 in
theorem gX5_ageByPole_X6_home : GoodIn wsX5_ageByPole (wsV RX5 53 RX6 yX6_home wsX6_home) := goodIn_app (goodIn_of _ (by decide +kernel)) ggX5_ageByPole_X6_home
set_option maxRecDepth 20000 in
theorem ggX5_ageByPole_X6_falls : GoodIn wsX5_ageByPole wsX6_falls := goodIn_r _ [17, 13, 48] (by decide +kernel) (by decide +kernel)
set_option maxRecDepth 20000 in
theorem gX5_ageByPole_X6_falls : GoodIn wsX5_ageByPole (wsV RX5 59 RX6 yX6_falls wsX6_falls) := goodIn_app (goodIn_of _ (by decide +kernel)) ggX5_ageByPole_X6_falls
set_option maxRecDepth 20000 in
theorem ggX5_ageByPole_X6_pole : GoodIn wsX5_ageByPole wsX6_pole := goodIn_r _ [21, 13, 22, 3, 4, 5, 48] (by decide +kernel) (by decide +kernel)
set_option maxRecDepth 20000 in
theorem gX5_ageByPole_X6_pole : GoodIn wsX5_ageByPole (wsV RX5 67 RX6 yX6_pole wsX6_pole) := goodIn_app (goodIn_of _ (by decide +kernel)) ggX5_ageByPole_X6_pole
set_option maxRecDepth 20000 in
theorem ggX5_ageByPole_X7_years : GoodIn wsX5_ageByPole wsX7_years := goodIn_r _ [27, 28, 36, 37, 38, 39, 40, 41, 42, 43, 44, 45, 46, 47] (by decide +kernel) (by decide +kernel)
set_option maxRecDepth 20000 in
theorem gX5_ageByPole_X7_years : GoodIn wsX5_ageByPole (wsV RX5 73 RX7 yX7_years wsX7_years) := goodIn_app (goodIn_of _ (by decide +kernel)) ggX5_ageByPole_X7_years
theorem dX5_ageByPole_0 : decode cX5_ageByPole 0 = .ok (.aload_n 0, 1) := by decide +kernel
theorem dX5_ageByPole_1 : decode cX5_ageByPole 1 = .ok (.getfield 32, 3) := by decide +kernel
theorem dX5_ageByPole_4 : decode cX5_ageByPole 4 = .ok (.iload_n 2, 1) := by decide +kernel
theorem dX5_ageByPole_5 : decode cX5_ageByPole 5 = .ok (.invokevirtual 53, 3) := by decide +kernel
theorem dX5_ageByPole_8 : decode cX5_ageByPole 8 = .ok (.istore_n 3, 1) := by decide +kernel
theorem dX5_ageByPole_9 : decode cX5_ageByPole 9 = .ok (.iload_n 1, 1) := by decide +kernel
theorem dX5_ageByPole_10 : decode cX5_ageByPole 10 = .ok (.bipush 10, 2) := by decide +kernel
theorem dX5_ageByPole_12 : decode cX5_ageByPole 12 = .ok (.idiv, 1) := by decide +kernel
theorem dX5_ageByPole_13 : decode cX5_ageByPole 13 = .ok (.iload_n 3, 1) := by decide +kernel
theorem dX5_ageByPole_14 : decode cX5_ageByPole 14 = .ok (.if_icmp .ne 7, 3) := by decide +kernel
theorem dX5_ageByPole_17 : decode cX5_ageByPole 17 = .ok (.iconst 1, 1) := by decide +kernel
theorem dX5_ageByPole_18 : decode cX5_ageByPole 18 = .ok (.goto 4, 3) := by decide +kernel
theorem dX5_ageByPole_21 : decode cX5_ageByPole 21 = .ok (.iconst 0, 1) := by decide +kernel
theorem dX5_ageByPole_22 : decode cX5_ageByPole 22 = .ok (.istore 4, 2) := by decide +kernel
theorem dX5_ageByPole_24 : decode cX5_ageByPole 24 = .ok (.iload 4, 2) := by decide +kernel
theorem dX5_ageByPole_26 : decode cX5_ageByPole 26 = .ok (.ifCond .eq 23, 3) := by decide +kernel
theorem dX5_ageByPole_29 : decode cX5_ageByPole 29 = .ok (.iconst 0, 1) := by decide +kernel
theorem dX5_ageByPole_30 : decode cX5_ageByPole 30 = .ok (.aload_n 0, 1) := by decide +kernel
theorem dX5_ageByPole_31 : decode cX5_ageByPole 31 = .ok (.getfield 32, 3) := by decide +kernel
theorem dX5_ageByPole_34 : decode cX5_ageByPole 34 = .ok (.iload_n 3, 1) := by decide +kernel
theorem dX5_ageByPole_35 : decode cX5_ageByPole 35 = .ok (.invokevirtual 59, 3) := by decide +kernel
theorem dX5_ageByPole_38 : decode cX5_ageByPole 38 = .ok (.iload_n 1, 1) := by decide +kernel
theorem dX5_ageByPole_39 : decode cX5_ageByPole 39 = .ok (.bipush 10, 2) := by decide +kernel
theorem dX5_ageByPole_41 : decode cX5_ageByPole 41 = .ok (.irem, 1) := by decide +kernel
theorem dX5_ageByPole_42 : decode cX5_ageByPole 42 = .ok (.isub, 1) := by decide +kernel
theorem dX5_ageByPole_43 : decode cX5_ageByPole 43 = .ok (.invokestatic 62, 3) := by decide +kernel
theorem dX5_ageByPole_46 : decode cX5_ageByPole 46 = .ok (.goto 11, 3) := by decide +kernel
theorem dX5_ageByPole_49 : decode cX5_ageByPole 49 = .ok (.aload_n 0, 1) := by decide +kernel
theorem dX5_ageByPole_50 : decode cX5_ageByPole 50 = .ok (.getfield 32, 3) := by decide +kernel
theorem dX5_ageByPole_53 : decode cX5_ageByPole 53 = .ok (.iload_n 3, 1) := by decide +kernel
theorem dX5_ageByPole_54 : decode cX5_ageByPole 54 = .ok (.invokevirtual 67, 3) := by decide +kernel
theorem dX5_ageByPole_57 : decode cX5_ageByPole 57 = .ok (.istore 5, 2) := by decide +kernel
theorem dX5_ageByPole_59 : decode cX5_ageByPole 59 = .ok (.aload_n 0, 1) := by decide +kernel
theorem dX5_ageByPole_60 : decode cX5_ageByPole 60 = .ok (.getfield 28, 3) := by decide +kernel
theorem dX5_ageByPole_63 : decode cX5_ageByPole 63 = .ok (.aload_n 0, 1) := by decide +kernel
theorem dX5_ageByPole_64 : decode cX5_ageByPole 64 = .ok (.getfield 28, 3) := by decide +kernel
theorem dX5_ageByPole_67 : decode cX5_ageByPole 67 = .ok (.getfield 70, 3) := by decide +kernel
theorem dX5_ageByPole_70 : decode cX5_ageByPole 70 = .ok (.iload_n 2, 1) := by decide +kernel
theorem dX5_ageByPole_71 : decode cX5_ageByPole 71 = .ok (.iaload, 1) := by decide +kernel
theorem dX5_ageByPole_72 : decode cX5_ageByPole 72 = .ok (.iload 5, 2) := by decide +kernel
theorem dX5_ageByPole_74 : decode cX5_ageByPole 74 = .ok (.iadd, 1) := by decide +kernel
theorem dX5_ageByPole_75 : decode cX5_ageByPole 75 = .ok (.iload_n 3, 1) := by decide +kernel
theorem dX5_ageByPole_76 : decode cX5_ageByPole 76 = .ok (.invokevirtual 73, 3) := by decide +kernel
theorem dX5_ageByPole_79 : decode cX5_ageByPole 79 = .ok (.ireturn, 1) := by decide +kernel
set_option maxRecDepth 20000 in
theorem ggX5_bestToAsk_X5_countFitting : GoodIn wsX5_bestToAsk wsX5_countFitting := goodIn_r _ [7, 1, 8, 9, 10, 11, 12, 6, 13, 14, 15, 16, 17, 18, 19, 20, 21, 22, 23, 24, 25, 26, 27, 28, 29, 30, 31, 32, 33, 34, 35, 36, 37, 38, 39, 40, 41, 42, 43, 44, 45, 46, 47, 57, 58, 59, 60, 61, 62, 63, 64, 65, 66, 67, 68, 69, 70, 71, 72, 73, 74, 75, 76] (by decide +kernel) (by decide +kernel)
set_option maxRecDepth 20000 in
theorem gX5_bestToAsk_X5_countFitting : GoodIn wsX5_bestToAsk (wsV RX5 45 RX5 yX5_countFitting wsX5_countFitting) := goodIn_app (goodIn_of _ (by decide +kernel)) ggX5_bestToAsk_X5_countFitting
set_option maxRecDepth 20000 in
theorem ggX5_bestToAsk_X5_greatestPartAlike : GoodIn wsX5_bestToAsk wsX5_greatestPartAlike := goodIn_r _ [51, 52, 9, 22, 23, 24, 25, 17, 18, 19, 6, 20, 21, 1, 26, 27, 28, 29, 30, 31, 32, 33, 34, 35, 36, 37, 38, 39, 40, 41, 42, 43, 44, 45, 46, 47, 53, 54, 55, 56, 57, 58, 59, 60, 61, 62, 63, 64, 65, 66, 67, 68, 69, 70, 71, 72, 73, 74, 75, 76] (by decide +kernel) (by decide +kernel)
set_option maxRecDepth 20000 in
theorem gX5_bestToAsk_X5_greatestPartAlike : GoodIn wsX5_bestToAsk (wsV RX5 79 RX5 yX5_greatestPartAlike wsX5_greatestPartAlike) := goodIn_app (goodIn_of _ (by decide +kernel)) ggX5_bestToAsk_X5_greatestPartAlike
theorem dX5_bestToAsk_0 : decode cX5_bestToAsk 0 = .ok (.aload_n 0, 1) := by decide +kernel
theorem dX5_bestToAsk_1 : decode cX5_bestToAsk 1 = .ok (.invokevirtual 45, 3) := by decide +kernel
theorem dX5_bestToAsk_4 : decode cX5_bestToAsk 4 = .ok (.istore_n 1, 1) := by decide +kernel
theorem dX5_bestToAsk_5 : decode cX5_bestToAsk 5 = .ok (.iconst (-1), 1) := by decide +kernel
theorem dX5_bestToAsk_6 : decode cX5_bestToAsk 6 = .ok (.istore_n 2, 1) := by decide +kernel
theorem dX5_bestToAsk_7 : decode cX5_bestToAsk 7 = .ok (.iload_n 1, 1) := by decide +kernel
theorem dX5_bestToAsk_8 : decode cX5_bestToAsk 8 = .ok (.istore_n 3, 1) := by decide +kernel
theorem dX5_bestToAsk_9 : decode cX5_bestToAsk 9 = .ok (.iconst 0, 1) := by decide +kernel
theorem dX5_bestToAsk_10 : decode cX5_bestToAsk 10 = .ok (.istore 4, 2) := by decide +kernel
theorem dX5_bestToAsk_12 : decode cX5_bestToAsk 12 = .ok (.iload 4, 2) := by decide +kernel
theorem dX5_bestToAsk_14 : decode cX5_bestToAsk 14 = .ok (.aload_n 0, 1) := by decide +kernel
theorem dX5_bestToAsk_15 : decode cX5_bestToAsk 15 = .ok (.getfield 28, 3) := by decide +kernel
theorem dX5_bestToAsk_18 : decode cX5_bestToAsk 18 = .ok (.getfield 76, 3) := by decide +kernel
theorem dX5_bestToAsk_21 : decode cX5_bestToAsk 21 = .ok (.if_icmp .ge 30, 3) := by decide +kernel
theorem dX5_bestToAsk_24 : decode cX5_bestToAsk 24 = .ok (.aload_n 0, 1) := by decide +kernel
theorem dX5_bestToAsk_25 : decode cX5_bestToAsk 25 = .ok (.iload 4, 2) := by decide +kernel
theorem dX5_bestToAsk_27 : decode cX5_bestToAsk 27 = .ok (.iload_n 1, 1) := by decide +kernel
theorem dX5_bestToAsk_28 : decode cX5_bestToAsk 28 = .ok (.invokevirtual 79, 3) := by decide +kernel
theorem dX5_bestToAsk_31 : decode cX5_bestToAsk 31 = .ok (.istore 5, 2) := by decide +kernel
theorem dX5_bestToAsk_33 : decode cX5_bestToAsk 33 = .ok (.iload 5, 2) := by decide +kernel
theorem dX5_bestToAsk_35 : decode cX5_bestToAsk 35 = .ok (.iload_n 3, 1) := by decide +kernel
theorem dX5_bestToAsk_36 : decode cX5_bestToAsk 36 = .ok (.if_icmp .ge 9, 3) := by decide +kernel
theorem dX5_bestToAsk_39 : decode cX5_bestToAsk 39 = .ok (.iload 5, 2) := by decide +kernel
theorem dX5_bestToAsk_41 : decode cX5_bestToAsk 41 = .ok (.istore_n 3, 1) := by decide +kernel
theorem dX5_bestToAsk_42 : decode cX5_bestToAsk 42 = .ok (.iload 4, 2) := by decide +kernel
theorem dX5_bestToAsk_44 : decode cX5_bestToAsk 44 = .ok (.istore_n 2, 1) := by decide +kernel
theorem dX5_bestToAsk_45 : decode cX5_bestToAsk 45 = .ok (.iinc 4 1, 3) := by decide +kernel
theorem dX5_bestToAsk_48 : decode cX5_bestToAsk 48 = .ok (.goto (-36), 3) := by decide +kernel
theorem dX5_bestToAsk_51 : decode cX5_bestToAsk 51 = .ok (.iload_n 2, 1) := by decide +kernel
theorem dX5_bestToAsk_52 : decode cX5_bestToAsk 52 = .ok (.ireturn, 1) := by decide +kernel
set_option maxRecDepth 20000 in
theorem ggX5_greatestPartAlike_X5_ageByPole : GoodIn wsX5_greatestPartAlike wsX5_ageByPole := goodIn_r _ [11, 12, 3, 4, 5, 6, 13, 14, 15, 16, 17, 18, 19, 20, 21, 22, 23, 24, 25, 26, 27, 28, 29, 30, 31, 32, 33, 34, 35, 40, 41, 42, 43, 44, 45, 46, 47, 48, 49, 50, 51, 52, 53, 54, 55, 56, 57, 58, 59] (by decide +kernel) (by decide +kernel)
set_option maxRecDepth 20000 in
theorem gX5_greatestPartAlike_X5_ageByPole : GoodIn wsX5_greatestPartAlike (wsV RX5 49 RX5 yX5_ageByPole wsX5_ageByPole) := goodIn_app (goodIn_of _ (by decide +kernel)) ggX5_greatestPartAlike_X5_ageByPole
set_option maxRecDepth 20000 in
theorem ggX5_greatestPartAlike_X5_countAnswer : GoodIn wsX5_greatestPartAlike wsX5_countAnswer := goodIn_r _ [39, 1, 40, 41, 42, 43, 44, 45, 46] (by decide +kernel) (by decide +kernel)
set_option maxRecDepth 20000 in
theorem gX5_greatestPartAlike_X5_countAnswer : GoodIn wsX5_greatestPartAlike (wsV RX5 82 RX5 yX5_countAnswer wsX5_countAnswer) := goodIn_app (goodIn_of _ (by decide +kernel)) ggX5_greatestPartAlike_X5_countAnswer
theorem dX5_greatestPartAlike_0 : decode cX5_greatestPartAlike 0 = .ok (.iconst 0, 1) := by decide +kernel
theorem dX5_greatestPartAlike_1 : decode cX5_greatestPartAlike 1 = .ok (.istore_n 3, 1) := by decide +kernel
theorem dX5_greatestPartAlike_2 : decode cX5_greatestPartAlike 2 = .ok (.iload_n 3, 1) := by decide +kernel
theorem dX5_greatestPartAlike_3 : decode cX5_greatestPartAlike 3 = .ok (.iload_n 2, 1) := by decide +kernel
theorem dX5_greatestPartAlike_4 : decode cX5_greatestPartAlike 4 = .ok (.if_icmp .ge 26, 3) := by decide +kernel
theorem dX5_greatestPartAlike_7 : decode cX5_greatestPartAlike 7 = .ok (.aload_n 0, 1) := by decide +kernel
theorem dX5_greatestPartAlike_8 : decode cX5_greatestPartAlike 8 = .ok (.getfield 25, 3) := by decide +kernel
theorem dX5_greatestPartAlike_11 : decode cX5_greatestPartAlike 11 = .ok (.iload_n 3, 1) := by decide +kernel
theorem dX5_greatestPartAlike_12 : decode cX5_greatestPartAlike 12 = .ok (.aload_n 0, 1) := by decide +kernel
theorem dX5_greatestPartAlike_13 : decode cX5_greatestPartAlike 13 = .ok (.aload_n 0, 1) := by decide +kernel
theorem dX5_greatestPartAlike_14 : decode cX5_greatestPartAlike 14 = .ok (.getfield 22, 3) := by decide +kernel
theorem dX5_greatestPartAlike_17 : decode cX5_greatestPartAlike 17 = .ok (.iload_n 3, 1) := by decide +kernel
theorem dX5_greatestPartAlike_18 : decode cX5_greatestPartAlike 18 = .ok (.iaload, 1) := by decide +kernel
theorem dX5_greatestPartAlike_19 : decode cX5_greatestPartAlike 19 = .ok (.iload_n 1, 1) := by decide +kernel
theorem dX5_greatestPartAlike_20 : decode cX5_greatestPartAlike 20 = .ok (.invokevirtual 49, 3) := by decide +kernel
theorem dX5_greatestPartAlike_23 : decode cX5_greatestPartAlike 23 = .ok (.iastore, 1) := by decide +kernel
theorem dX5_greatestPartAlike_24 : decode cX5_greatestPartAlike 24 = .ok (.iinc 3 1, 3) := by decide +kernel
theorem dX5_greatestPartAlike_27 : decode cX5_greatestPartAlike 27 = .ok (.goto (-25), 3) := by decide +kernel
theorem dX5_greatestPartAlike_30 : decode cX5_greatestPartAlike 30 = .ok (.iconst 0, 1) := by decide +kernel
theorem dX5_greatestPartAlike_31 : decode cX5_greatestPartAlike 31 = .ok (.istore_n 3, 1) := by decide +kernel
theorem dX5_greatestPartAlike_32 : decode cX5_greatestPartAlike 32 = .ok (.iconst 0, 1) := by decide +kernel
theorem dX5_greatestPartAlike_33 : decode cX5_greatestPartAlike 33 = .ok (.istore 4, 2) := by decide +kernel
theorem dX5_greatestPartAlike_35 : decode cX5_greatestPartAlike 35 = .ok (.iload 4, 2) := by decide +kernel
theorem dX5_greatestPartAlike_37 : decode cX5_greatestPartAlike 37 = .ok (.iload_n 2, 1) := by decide +kernel
theorem dX5_greatestPartAlike_38 : decode cX5_greatestPartAlike 38 = .ok (.if_icmp .ge 26, 3) := by decide +kernel
theorem dX5_greatestPartAlike_41 : decode cX5_greatestPartAlike 41 = .ok (.iload_n 3, 1) := by decide +kernel
theorem dX5_greatestPartAlike_42 : decode cX5_greatestPartAlike 42 = .ok (.aload_n 0, 1) := by decide +kernel
theorem dX5_greatestPartAlike_43 : decode cX5_greatestPartAlike 43 = .ok (.aload_n 0, 1) := by decide +kernel
theorem dX5_greatestPartAlike_44 : decode cX5_greatestPartAlike 44 = .ok (.getfield 25, 3) := by decide +kernel
theorem dX5_greatestPartAlike_47 : decode cX5_greatestPartAlike 47 = .ok (.iload 4, 2) := by decide +kernel
theorem dX5_greatestPartAlike_49 : decode cX5_greatestPartAlike 49 = .ok (.iaload, 1) := by decide +kernel
theorem dX5_greatestPartAlike_50 : decode cX5_greatestPartAlike 50 = .ok (.iload_n 2, 1) := by decide +kernel
theorem dX5_greatestPartAlike_51 : decode cX5_greatestPartAlike 51 = .ok (.invokevirtual 82, 3) := by decide +kernel
theorem dX5_greatestPartAlike_54 : decode cX5_greatestPartAlike 54 = .ok (.invokestatic 62, 3) := by decide +kernel
theorem dX5_greatestPartAlike_57 : decode cX5_greatestPartAlike 57 = .ok (.istore_n 3, 1) := by decide +kernel
theorem dX5_greatestPartAlike_58 : decode cX5_greatestPartAlike 58 = .ok (.iinc 4 1, 3) := by decide +kernel
theorem dX5_greatestPartAlike_61 : decode cX5_greatestPartAlike 61 = .ok (.goto (-26), 3) := by decide +kernel
theorem dX5_greatestPartAlike_64 : decode cX5_greatestPartAlike 64 = .ok (.iload_n 3, 1) := by decide +kernel
theorem dX5_greatestPartAlike_65 : decode cX5_greatestPartAlike 65 = .ok (.ireturn, 1) := by decide +kernel
theorem dX5_countAnswer_0 : decode cX5_countAnswer 0 = .ok (.iconst 0, 1) := by decide +kernel
theorem dX5_countAnswer_1 : decode cX5_countAnswer 1 = .ok (.istore_n 3, 1) := by decide +kernel
theorem dX5_countAnswer_2 : decode cX5_countAnswer 2 = .ok (.iconst 0, 1) := by decide +kernel
theorem dX5_countAnswer_3 : decode cX5_countAnswer 3 = .ok (.istore 4, 2) := by decide +kernel
theorem dX5_countAnswer_5 : decode cX5_countAnswer 5 = .ok (.iload 4, 2) := by decide +kernel
theorem dX5_countAnswer_7 : decode cX5_countAnswer 7 = .ok (.iload_n 2, 1) := by decide +kernel
theorem dX5_countAnswer_8 : decode cX5_countAnswer 8 = .ok (.if_icmp .ge 23, 3) := by decide +kernel
theorem dX5_countAnswer_11 : decode cX5_countAnswer 11 = .ok (.aload_n 0, 1) := by decide +kernel
theorem dX5_countAnswer_12 : decode cX5_countAnswer 12 = .ok (.getfield 25, 3) := by decide +kernel
theorem dX5_countAnswer_15 : decode cX5_countAnswer 15 = .ok (.iload 4, 2) := by decide +kernel
theorem dX5_countAnswer_17 : decode cX5_countAnswer 17 = .ok (.iaload, 1) := by decide +kernel
theorem dX5_countAnswer_18 : decode cX5_countAnswer 18 = .ok (.iload_n 1, 1) := by decide +kernel
theorem dX5_countAnswer_19 : decode cX5_countAnswer 19 = .ok (.if_icmp .ne 6, 3) := by decide +kernel
theorem dX5_countAnswer_22 : decode cX5_countAnswer 22 = .ok (.iinc 3 1, 3) := by decide +kernel
theorem dX5_countAnswer_25 : decode cX5_countAnswer 25 = .ok (.iinc 4 1, 3) := by decide +kernel
theorem dX5_countAnswer_28 : decode cX5_countAnswer 28 = .ok (.goto (-23), 3) := by decide +kernel
theorem dX5_countAnswer_31 : decode cX5_countAnswer 31 = .ok (.iload_n 3, 1) := by decide +kernel
theorem dX5_countAnswer_32 : decode cX5_countAnswer 32 = .ok (.ireturn, 1) := by decide +kernel
theorem dX6_init_0 : decode cX6_init 0 = .ok (.aload_n 0, 1) := by decide +kernel
theorem dX6_init_1 : decode cX6_init 1 = .ok (.invokespecial 5, 3) := by decide +kernel
theorem dX6_init_4 : decode cX6_init 4 = .ok (.aload_n 0, 1) := by decide +kernel
theorem dX6_init_5 : decode cX6_init 5 = .ok (.bipush 35, 2) := by decide +kernel
theorem dX6_init_7 : decode cX6_init 7 = .ok (.newarray .int, 2) := by decide +kernel
theorem dX6_init_9 : decode cX6_init 9 = .ok (.putfield 11, 3) := by decide +kernel
theorem dX6_init_12 : decode cX6_init 12 = .ok (.return_, 1) := by decide +kernel
set_option maxRecDepth 20000 in
theorem ggX6_begin_J7_fill_53178 : GoodIn wsX6_begin wsJ7_fill_53178 := goodIn_r _ [10] (by decide +kernel) (by decide +kernel)
set_option maxRecDepth 20000 in
theorem gX6_begin_J7_fill_53178 : GoodIn wsX6_begin (va_wsS RX6 15 yJ7_fill_53178 wsJ7_fill_53178) := goodIn_app (goodIn_of _ (by decide +kernel)) ggX6_begin_J7_fill_53178
theorem dX6_begin_0 : decode cX6_begin 0 = .ok (.aload_n 0, 1) := by decide +kernel
theorem dX6_begin_1 : decode cX6_begin 1 = .ok (.getfield 11, 3) := by decide +kernel
theorem dX6_begin_4 : decode cX6_begin 4 = .ok (.iconst 0, 1) := by decide +kernel
theorem dX6_begin_5 : decode cX6_begin 5 = .ok (.invokestatic 15, 3) := by decide +kernel
theorem dX6_begin_8 : decode cX6_begin 8 = .ok (.iconst 0, 1) := by decide +kernel
theorem dX6_begin_9 : decode cX6_begin 9 = .ok (.istore_n 2, 1) := by decide +kernel
theorem dX6_begin_10 : decode cX6_begin 10 = .ok (.iload_n 2, 1) := by decide +kernel
theorem dX6_begin_11 : decode cX6_begin 11 = .ok (.aload_n 1, 1) := by decide +kernel
theorem dX6_begin_12 : decode cX6_begin 12 = .ok (.getfield 21, 3) := by decide +kernel
theorem dX6_begin_15 : decode cX6_begin 15 = .ok (.if_icmp .ge 39, 3) := by decide +kernel
theorem dX6_begin_18 : decode cX6_begin 18 = .ok (.aload_n 0, 1) := by decide +kernel
theorem dX6_begin_19 : decode cX6_begin 19 = .ok (.getfield 11, 3) := by decide +kernel
theorem dX6_begin_22 : decode cX6_begin 22 = .ok (.bipush 13, 2) := by decide +kernel
theorem dX6_begin_24 : decode cX6_begin 24 = .ok (.iload_n 2, 1) := by decide +kernel
theorem dX6_begin_25 : decode cX6_begin 25 = .ok (.iadd, 1) := by decide +kernel
theorem dX6_begin_26 : decode cX6_begin 26 = .ok (.aload_n 1, 1) := by decide +kernel
theorem dX6_begin_27 : decode cX6_begin 27 = .ok (.getfield 27, 3) := by decide +kernel
theorem dX6_begin_30 : decode cX6_begin 30 = .ok (.iload_n 2, 1) := by decide +kernel
theorem dX6_begin_31 : decode cX6_begin 31 = .ok (.iaload, 1) := by decide +kernel
theorem dX6_begin_32 : decode cX6_begin 32 = .ok (.iastore, 1) := by decide +kernel
theorem dX6_begin_33 : decode cX6_begin 33 = .ok (.aload_n 0, 1) := by decide +kernel
theorem dX6_begin_34 : decode cX6_begin 34 = .ok (.getfield 11, 3) := by decide +kernel
theorem dX6_begin_37 : decode cX6_begin 37 = .ok (.bipush 19, 2) := by decide +kernel
theorem dX6_begin_39 : decode cX6_begin 39 = .ok (.iload_n 2, 1) := by decide +kernel
theorem dX6_begin_40 : decode cX6_begin 40 = .ok (.iadd, 1) := by decide +kernel
theorem dX6_begin_41 : decode cX6_begin 41 = .ok (.aload_n 1, 1) := by decide +kernel
theorem dX6_begin_42 : decode cX6_begin 42 = .ok (.getfield 30, 3) := by decide +kernel
theorem dX6_begin_45 : decode cX6_begin 45 = .ok (.iload_n 2, 1) := by decide +kernel
theorem dX6_begin_46 : decode cX6_begin 46 = .ok (.iaload, 1) := by decide +kernel
theorem dX6_begin_47 : decode cX6_begin 47 = .ok (.iastore, 1) := by decide +kernel
theorem dX6_begin_48 : decode cX6_begin 48 = .ok (.iinc 2 1, 3) := by decide +kernel
theorem dX6_begin_51 : decode cX6_begin 51 = .ok (.goto (-41), 3) := by decide +kernel
theorem dX6_begin_54 : decode cX6_begin 54 = .ok (.iconst 0, 1) := by decide +kernel
theorem dX6_begin_55 : decode cX6_begin 55 = .ok (.istore_n 2, 1) := by decide +kernel
theorem dX6_begin_56 : decode cX6_begin 56 = .ok (.iload_n 2, 1) := by decide +kernel
theorem dX6_begin_57 : decode cX6_begin 57 = .ok (.aload_n 1, 1) := by decide +kernel
theorem dX6_begin_58 : decode cX6_begin 58 = .ok (.getfield 33, 3) := by decide +kernel
theorem dX6_begin_61 : decode cX6_begin 61 = .ok (.if_icmp .ge 24, 3) := by decide +kernel
theorem dX6_begin_64 : decode cX6_begin 64 = .ok (.aload_n 0, 1) := by decide +kernel
theorem dX6_begin_65 : decode cX6_begin 65 = .ok (.getfield 11, 3) := by decide +kernel
theorem dX6_begin_68 : decode cX6_begin 68 = .ok (.bipush 25, 2) := by decide +kernel
theorem dX6_begin_70 : decode cX6_begin 70 = .ok (.iload_n 2, 1) := by decide +kernel
theorem dX6_begin_71 : decode cX6_begin 71 = .ok (.iadd, 1) := by decide +kernel
theorem dX6_begin_72 : decode cX6_begin 72 = .ok (.aload_n 1, 1) := by decide +kernel
theorem dX6_begin_73 : decode cX6_begin 73 = .ok (.getfield 36, 3) := by decide +kernel
theorem dX6_begin_76 : decode cX6_begin 76 = .ok (.iload_n 2, 1) := by decide +kernel
theorem dX6_begin_77 : decode cX6_begin 77 = .ok (.iaload, 1) := by decide +kernel
theorem dX6_begin_78 : decode cX6_begin 78 = .ok (.iastore, 1) := by decide +kernel
theorem dX6_begin_79 : decode cX6_begin 79 = .ok (.iinc 2 1, 3) := by decide +kernel
theorem dX6_begin_82 : decode cX6_begin 82 = .ok (.goto (-26), 3) := by decide +kernel
theorem dX6_begin_85 : decode cX6_begin 85 = .ok (.return_, 1) := by decide +kernel
theorem dX6_nights_0 : decode cX6_nights 0 = .ok (.aload_n 0, 1) := by decide +kernel
theorem dX6_nights_1 : decode cX6_nights 1 = .ok (.getfield 11, 3) := by decide +kernel
theorem dX6_nights_4 : decode cX6_nights 4 = .ok (.iconst 0, 1) := by decide +kernel
theorem dX6_nights_5 : decode cX6_nights 5 = .ok (.iaload, 1) := by decide +kernel
theorem dX6_nights_6 : decode cX6_nights 6 = .ok (.ireturn, 1) := by decide +kernel
theorem dX6_falls_0 : decode cX6_falls 0 = .ok (.aload_n 0, 1) := by decide +kernel
theorem dX6_falls_1 : decode cX6_falls 1 = .ok (.getfield 11, 3) := by decide +kernel
theorem dX6_falls_4 : decode cX6_falls 4 = .ok (.iconst 1, 1) := by decide +kernel
theorem dX6_falls_5 : decode cX6_falls 5 = .ok (.iload_n 1, 1) := by decide +kernel
theorem dX6_falls_6 : decode cX6_falls 6 = .ok (.iadd, 1) := by decide +kernel
theorem dX6_falls_7 : decode cX6_falls 7 = .ok (.iaload, 1) := by decide +kernel
theorem dX6_falls_8 : decode cX6_falls 8 = .ok (.ireturn, 1) := by decide +kernel
theorem dX6_fell_0 : decode cX6_fell 0 = .ok (.aload_n 0, 1) := by decide +kernel
theorem dX6_fell_1 : decode cX6_fell 1 = .ok (.getfield 11, 3) := by decide +kernel
theorem dX6_fell_4 : decode cX6_fell 4 = .ok (.iconst 5, 1) := by decide +kernel
theorem dX6_fell_5 : decode cX6_fell 5 = .ok (.iload_n 1, 1) := by decide +kernel
theorem dX6_fell_6 : decode cX6_fell 6 = .ok (.iadd, 1) := by decide +kernel
theorem dX6_fell_7 : decode cX6_fell 7 = .ok (.iaload, 1) := by decide +kernel
theorem dX6_fell_8 : decode cX6_fell 8 = .ok (.ireturn, 1) := by decide +kernel
theorem dX6_sawedOff_0 : decode cX6_sawedOff 0 = .ok (.aload_n 0, 1) := by decide +kernel
theorem dX6_sawedOff_1 : decode cX6_sawedOff 1 = .ok (.getfield 11, 3) := by decide +kernel
theorem dX6_sawedOff_4 : decode cX6_sawedOff 4 = .ok (.bipush 9, 2) := by decide +kernel
theorem dX6_sawedOff_6 : decode cX6_sawedOff 6 = .ok (.iload_n 1, 1) := by decide +kernel
theorem dX6_sawedOff_7 : decode cX6_sawedOff 7 = .ok (.iadd, 1) := by decide +kernel
theorem dX6_sawedOff_8 : decode cX6_sawedOff 8 = .ok (.iaload, 1) := by decide +kernel
theorem dX6_sawedOff_9 : decode cX6_sawedOff 9 = .ok (.ireturn, 1) := by decide +kernel
theorem dX6_pole_0 : decode cX6_pole 0 = .ok (.iconst 0, 1) := by decide +kernel
theorem dX6_pole_1 : decode cX6_pole 1 = .ok (.aload_n 0, 1) := by decide +kernel
theorem dX6_pole_2 : decode cX6_pole 2 = .ok (.getfield 11, 3) := by decide +kernel
theorem dX6_pole_5 : decode cX6_pole 5 = .ok (.iconst 1, 1) := by decide +kernel
theorem dX6_pole_6 : decode cX6_pole 6 = .ok (.iload_n 1, 1) := by decide +kernel
theorem dX6_pole_7 : decode cX6_pole 7 = .ok (.iadd, 1) := by decide +kernel
theorem dX6_pole_8 : decode cX6_pole 8 = .ok (.iaload, 1) := by decide +kernel
theorem dX6_pole_9 : decode cX6_pole 9 = .ok (.aload_n 0, 1) := by decide +kernel
theorem dX6_pole_10 : decode cX6_pole 10 = .ok (.getfield 11, 3) := by decide +kernel
theorem dX6_pole_13 : decode cX6_pole 13 = .ok (.bipush 9, 2) := by decide +kernel
theorem dX6_pole_15 : decode cX6_pole 15 = .ok (.iload_n 1, 1) := by decide +kernel
theorem dX6_pole_16 : decode cX6_pole 16 = .ok (.iadd, 1) := by decide +kernel
theorem dX6_pole_17 : decode cX6_pole 17 = .ok (.iaload, 1) := by decide +kernel
theorem dX6_pole_18 : decode cX6_pole 18 = .ok (.isub, 1) := by decide +kernel
theorem dX6_pole_19 : decode cX6_pole 19 = .ok (.invokestatic 39, 3) := by decide +kernel
theorem dX6_pole_22 : decode cX6_pole 22 = .ok (.ireturn, 1) := by decide +kernel
theorem dX6_poleOf_0 : decode cX6_poleOf 0 = .ok (.iconst 0, 1) := by decide +kernel
theorem dX6_poleOf_1 : decode cX6_poleOf 1 = .ok (.iload_n 2, 1) := by decide +kernel
theorem dX6_poleOf_2 : decode cX6_poleOf 2 = .ok (.aload_n 0, 1) := by decide +kernel
theorem dX6_poleOf_3 : decode cX6_poleOf 3 = .ok (.getfield 11, 3) := by decide +kernel
theorem dX6_poleOf_6 : decode cX6_poleOf 6 = .ok (.bipush 9, 2) := by decide +kernel
theorem dX6_poleOf_8 : decode cX6_poleOf 8 = .ok (.iload_n 1, 1) := by decide +kernel
theorem dX6_poleOf_9 : decode cX6_poleOf 9 = .ok (.iadd, 1) := by decide +kernel
theorem dX6_poleOf_10 : decode cX6_poleOf 10 = .ok (.iaload, 1) := by decide +kernel
theorem dX6_poleOf_11 : decode cX6_poleOf 11 = .ok (.isub, 1) := by decide +kernel
theorem dX6_poleOf_12 : decode cX6_poleOf 12 = .ok (.invokestatic 39, 3) := by decide +kernel
theorem dX6_poleOf_15 : decode cX6_poleOf 15 = .ok (.ireturn, 1) := by decide +kernel
theorem dX6_home_0 : decode cX6_home 0 = .ok (.aload_n 0, 1) := by decide +kernel
theorem dX6_home_1 : decode cX6_home 1 = .ok (.getfield 11, 3) := by decide +kernel
theorem dX6_home_4 : decode cX6_home 4 = .ok (.bipush 13, 2) := by decide +kernel
theorem dX6_home_6 : decode cX6_home 6 = .ok (.iload_n 1, 1) := by decide +kernel
theorem dX6_home_7 : decode cX6_home 7 = .ok (.iadd, 1) := by decide +kernel
theorem dX6_home_8 : decode cX6_home 8 = .ok (.iaload, 1) := by decide +kernel
theorem dX6_home_9 : decode cX6_home 9 = .ok (.ireturn, 1) := by decide +kernel
theorem dX6_lived_0 : decode cX6_lived 0 = .ok (.aload_n 0, 1) := by decide +kernel
theorem dX6_lived_1 : decode cX6_lived 1 = .ok (.getfield 11, 3) := by decide +kernel
theorem dX6_lived_4 : decode cX6_lived 4 = .ok (.bipush 19, 2) := by decide +kernel
theorem dX6_lived_6 : decode cX6_lived 6 = .ok (.iload_n 1, 1) := by decide +kernel
theorem dX6_lived_7 : decode cX6_lived 7 = .ok (.iadd, 1) := by decide +kernel
theorem dX6_lived_8 : decode cX6_lived 8 = .ok (.iaload, 1) := by decide +kernel
theorem dX6_lived_9 : decode cX6_lived 9 = .ok (.ireturn, 1) := by decide +kernel
set_option maxRecDepth 20000 in
theorem ggX6_age_X6_lived : GoodIn wsX6_age wsX6_lived := goodIn_r _ [5, 6, 17] (by decide +kernel) (by decide +kernel)
set_option maxRecDepth 20000 in
theorem gX6_age_X6_lived : GoodIn wsX6_age (wsV RX6 45 RX6 yX6_lived wsX6_lived) := goodIn_app (goodIn_of _ (by decide +kernel)) ggX6_age_X6_lived
set_option maxRecDepth 20000 in
theorem ggX6_age_X6_home : GoodIn wsX6_age wsX6_home := goodIn_r _ [10, 6, 17] (by decide +kernel) (by decide +kernel)
set_option maxRecDepth 20000 in
theorem gX6_age_X6_home : GoodIn wsX6_age (wsV RX6 49 RX6 yX6_home wsX6_home) := goodIn_app (goodIn_of _ (by decide +kernel)) ggX6_age_X6_home
set_option maxRecDepth 20000 in
theorem ggX6_age_X7_years : GoodIn wsX6_age wsX7_years := goodIn_r _ [15, 16, 18, 19, 20, 21, 22, 23, 24, 25, 26, 27, 28, 29] (by decide +kernel) (by decide +kernel)
set_option maxRecDepth 20000 in
theorem gX6_age_X7_years : GoodIn wsX6_age (wsV RX6 52 RX7 yX7_years wsX7_years) := goodIn_app (goodIn_of _ (by decide +kernel)) ggX6_age_X7_years
theorem dX6_age_0 : decode cX6_age 0 = .ok (.aload_n 1, 1) := by decide +kernel
theorem dX6_age_1 : decode cX6_age 1 = .ok (.aload_n 0, 1) := by decide +kernel
theorem dX6_age_2 : decode cX6_age 2 = .ok (.iload_n 2, 1) := by decide +kernel
theorem dX6_age_3 : decode cX6_age 3 = .ok (.invokevirtual 45, 3) := by decide +kernel
theorem dX6_age_6 : decode cX6_age 6 = .ok (.aload_n 0, 1) := by decide +kernel
theorem dX6_age_7 : decode cX6_age 7 = .ok (.iload_n 2, 1) := by decide +kernel
theorem dX6_age_8 : decode cX6_age 8 = .ok (.invokevirtual 49, 3) := by decide +kernel
theorem dX6_age_11 : decode cX6_age 11 = .ok (.invokevirtual 52, 3) := by decide +kernel
theorem dX6_age_14 : decode cX6_age 14 = .ok (.ireturn, 1) := by decide +kernel
theorem dX6_owed_0 : decode cX6_owed 0 = .ok (.aload_n 0, 1) := by decide +kernel
theorem dX6_owed_1 : decode cX6_owed 1 = .ok (.getfield 11, 3) := by decide +kernel
theorem dX6_owed_4 : decode cX6_owed 4 = .ok (.bipush 25, 2) := by decide +kernel
theorem dX6_owed_6 : decode cX6_owed 6 = .ok (.iload_n 1, 1) := by decide +kernel
theorem dX6_owed_7 : decode cX6_owed 7 = .ok (.iadd, 1) := by decide +kernel
theorem dX6_owed_8 : decode cX6_owed 8 = .ok (.iaload, 1) := by decide +kernel
theorem dX6_owed_9 : decode cX6_owed 9 = .ok (.ireturn, 1) := by decide +kernel
set_option maxRecDepth 20000 in
theorem ggX6_fellSinceMade_X6_owed : GoodIn wsX6_fellSinceMade wsX6_owed := goodIn_r _ [7, 2, 24] (by decide +kernel) (by decide +kernel)
set_option maxRecDepth 20000 in
theorem gX6_fellSinceMade_X6_owed : GoodIn wsX6_fellSinceMade (wsV RX6 55 RX6 yX6_owed wsX6_owed) := goodIn_app (goodIn_of _ (by decide +kernel)) ggX6_fellSinceMade_X6_owed
set_option maxRecDepth 20000 in
theorem ggX6_fellSinceMade_X6_fell : GoodIn wsX6_fellSinceMade wsX6_fell := goodIn_r _ [11, 2, 24] (by decide +kernel) (by decide +kernel)
set_option maxRecDepth 20000 in
theorem gX6_fellSinceMade_X6_fell : GoodIn wsX6_fellSinceMade (wsV RX6 61 RX6 yX6_fell wsX6_fell) := goodIn_app (goodIn_of _ (by decide +kernel)) ggX6_fellSinceMade_X6_fell
theorem dX6_fellSinceMade_0 : decode cX6_fellSinceMade 0 = .ok (.aload_n 0, 1) := by decide +kernel
theorem dX6_fellSinceMade_1 : decode cX6_fellSinceMade 1 = .ok (.iload_n 2, 1) := by decide +kernel
theorem dX6_fellSinceMade_2 : decode cX6_fellSinceMade 2 = .ok (.invokevirtual 55, 3) := by decide +kernel
theorem dX6_fellSinceMade_5 : decode cX6_fellSinceMade 5 = .ok (.ifCond .ne 7, 3) := by decide +kernel
theorem dX6_fellSinceMade_8 : decode cX6_fellSinceMade 8 = .ok (.iconst 0, 1) := by decide +kernel
theorem dX6_fellSinceMade_9 : decode cX6_fellSinceMade 9 = .ok (.goto 23, 3) := by decide +kernel
theorem dX6_fellSinceMade_12 : decode cX6_fellSinceMade 12 = .ok (.aload_n 0, 1) := by decide +kernel
theorem dX6_fellSinceMade_13 : decode cX6_fellSinceMade 13 = .ok (.aload_n 1, 1) := by decide +kernel
theorem dX6_fellSinceMade_14 : decode cX6_fellSinceMade 14 = .ok (.getfield 58, 3) := by decide +kernel
theorem dX6_fellSinceMade_17 : decode cX6_fellSinceMade 17 = .ok (.iload_n 2, 1) := by decide +kernel
theorem dX6_fellSinceMade_18 : decode cX6_fellSinceMade 18 = .ok (.iaload, 1) := by decide +kernel
theorem dX6_fellSinceMade_19 : decode cX6_fellSinceMade 19 = .ok (.invokevirtual 61, 3) := by decide +kernel
theorem dX6_fellSinceMade_22 : decode cX6_fellSinceMade 22 = .ok (.aload_n 0, 1) := by decide +kernel
theorem dX6_fellSinceMade_23 : decode cX6_fellSinceMade 23 = .ok (.getfield 11, 3) := by decide +kernel
theorem dX6_fellSinceMade_26 : decode cX6_fellSinceMade 26 = .ok (.bipush 30, 2) := by decide +kernel
theorem dX6_fellSinceMade_28 : decode cX6_fellSinceMade 28 = .ok (.iload_n 2, 1) := by decide +kernel
theorem dX6_fellSinceMade_29 : decode cX6_fellSinceMade 29 = .ok (.iadd, 1) := by decide +kernel
theorem dX6_fellSinceMade_30 : decode cX6_fellSinceMade 30 = .ok (.iaload, 1) := by decide +kernel
theorem dX6_fellSinceMade_31 : decode cX6_fellSinceMade 31 = .ok (.isub, 1) := by decide +kernel
theorem dX6_fellSinceMade_32 : decode cX6_fellSinceMade 32 = .ok (.ireturn, 1) := by decide +kernel
set_option maxRecDepth 20000 in
theorem ggX6_lack_X6_owed : GoodIn wsX6_lack wsX6_owed := goodIn_r _ [9, 10, 20] (by decide +kernel) (by decide +kernel)
set_option maxRecDepth 20000 in
theorem gX6_lack_X6_owed : GoodIn wsX6_lack (wsV RX6 55 RX6 yX6_owed wsX6_owed) := goodIn_app (goodIn_of _ (by decide +kernel)) ggX6_lack_X6_owed
set_option maxRecDepth 20000 in
theorem ggX6_lack_X6_fellSinceMade : GoodIn wsX6_lack wsX6_fellSinceMade := goodIn_r _ [14, 15, 10, 5, 6, 7, 8, 9, 16, 17, 18, 19, 21, 22, 23, 24, 25, 26, 27, 28, 29, 30, 31, 32, 20] (by decide +kernel) (by decide +kernel)
set_option maxRecDepth 20000 in
theorem gX6_lack_X6_fellSinceMade : GoodIn wsX6_lack (wsV RX6 64 RX6 yX6_fellSinceMade wsX6_fellSinceMade) := goodIn_app (goodIn_of _ (by decide +kernel)) ggX6_lack_X6_fellSinceMade
theorem dX6_lack_0 : decode cX6_lack 0 = .ok (.iconst 0, 1) := by decide +kernel
theorem dX6_lack_1 : decode cX6_lack 1 = .ok (.aload_n 0, 1) := by decide +kernel
theorem dX6_lack_2 : decode cX6_lack 2 = .ok (.iload_n 2, 1) := by decide +kernel
theorem dX6_lack_3 : decode cX6_lack 3 = .ok (.invokevirtual 55, 3) := by decide +kernel
theorem dX6_lack_6 : decode cX6_lack 6 = .ok (.aload_n 0, 1) := by decide +kernel
theorem dX6_lack_7 : decode cX6_lack 7 = .ok (.aload_n 1, 1) := by decide +kernel
theorem dX6_lack_8 : decode cX6_lack 8 = .ok (.iload_n 2, 1) := by decide +kernel
theorem dX6_lack_9 : decode cX6_lack 9 = .ok (.invokevirtual 64, 3) := by decide +kernel
theorem dX6_lack_12 : decode cX6_lack 12 = .ok (.isub, 1) := by decide +kernel
theorem dX6_lack_13 : decode cX6_lack 13 = .ok (.invokestatic 39, 3) := by decide +kernel
theorem dX6_lack_16 : decode cX6_lack 16 = .ok (.ireturn, 1) := by decide +kernel
set_option maxRecDepth 20000 in
theorem ggX6_isDue_X6_owed : GoodIn wsX6_isDue wsX6_owed := goodIn_r _ [5, 6, 24] (by decide +kernel) (by decide +kernel)
set_option maxRecDepth 20000 in
theorem gX6_isDue_X6_owed : GoodIn wsX6_isDue (wsV RX6 55 RX6 yX6_owed wsX6_owed) := goodIn_app (goodIn_of _ (by decide +kernel)) ggX6_isDue_X6_owed
set_option maxRecDepth 20000 in
theorem ggX6_isDue_X6_lack : GoodIn wsX6_isDue wsX6_lack := goodIn_r _ [10, 11, 12, 13, 14, 1, 2, 3, 4, 5, 6, 15, 16, 17, 18, 19, 20, 21, 22, 23, 24, 25, 26, 27, 28, 29, 30, 31, 32, 33, 34, 35, 36] (by decide +kernel) (by decide +kernel)
set_option maxRecDepth 20000 in
theorem gX6_isDue_X6_lack : GoodIn wsX6_isDue (wsV RX6 68 RX6 yX6_lack wsX6_lack) := goodIn_app (goodIn_of _ (by decide +kernel)) ggX6_isDue_X6_lack
theorem dX6_isDue_0 : decode cX6_isDue 0 = .ok (.aload_n 0, 1) := by decide +kernel
theorem dX6_isDue_1 : decode cX6_isDue 1 = .ok (.iload_n 2, 1) := by decide +kernel
theorem dX6_isDue_2 : decode cX6_isDue 2 = .ok (.invokevirtual 55, 3) := by decide +kernel
theorem dX6_isDue_5 : decode cX6_isDue 5 = .ok (.ifCond .eq 16, 3) := by decide +kernel
theorem dX6_isDue_8 : decode cX6_isDue 8 = .ok (.aload_n 0, 1) := by decide +kernel
theorem dX6_isDue_9 : decode cX6_isDue 9 = .ok (.aload_n 1, 1) := by decide +kernel
theorem dX6_isDue_10 : decode cX6_isDue 10 = .ok (.iload_n 2, 1) := by decide +kernel
theorem dX6_isDue_11 : decode cX6_isDue 11 = .ok (.invokevirtual 68, 3) := by decide +kernel
theorem dX6_isDue_14 : decode cX6_isDue 14 = .ok (.ifCond .ne 7, 3) := by decide +kernel
theorem dX6_isDue_17 : decode cX6_isDue 17 = .ok (.iconst 1, 1) := by decide +kernel
theorem dX6_isDue_18 : decode cX6_isDue 18 = .ok (.goto 4, 3) := by decide +kernel
theorem dX6_isDue_21 : decode cX6_isDue 21 = .ok (.iconst 0, 1) := by decide +kernel
theorem dX6_isDue_22 : decode cX6_isDue 22 = .ok (.ireturn, 1) := by decide +kernel
set_option maxRecDepth 20000 in
theorem ggX6_dueDebts_X6_isDue : GoodIn wsX6_dueDebts wsX6_isDue := goodIn_r _ [6, 7, 8, 9, 5, 10, 11, 12, 13, 14, 15, 16, 17, 18, 19, 20, 21, 22, 23, 24, 25, 26, 27, 28, 41, 29, 30, 31, 32, 33, 34, 35, 36, 37, 38, 39, 40] (by decide +kernel) (by decide +kernel)
set_option maxRecDepth 20000 in
theorem gX6_dueDebts_X6_isDue : GoodIn wsX6_dueDebts (wsV RX6 71 RX6 yX6_isDue wsX6_isDue) := goodIn_app (goodIn_of _ (by decide +kernel)) ggX6_dueDebts_X6_isDue
theorem dX6_dueDebts_0 : decode cX6_dueDebts 0 = .ok (.iconst 0, 1) := by decide +kernel
theorem dX6_dueDebts_1 : decode cX6_dueDebts 1 = .ok (.istore_n 2, 1) := by decide +kernel
theorem dX6_dueDebts_2 : decode cX6_dueDebts 2 = .ok (.iconst 0, 1) := by decide +kernel
theorem dX6_dueDebts_3 : decode cX6_dueDebts 3 = .ok (.istore_n 3, 1) := by decide +kernel
theorem dX6_dueDebts_4 : decode cX6_dueDebts 4 = .ok (.iload_n 3, 1) := by decide +kernel
theorem dX6_dueDebts_5 : decode cX6_dueDebts 5 = .ok (.aload_n 1, 1) := by decide +kernel
theorem dX6_dueDebts_6 : decode cX6_dueDebts 6 = .ok (.getfield 33, 3) := by decide +kernel
theorem dX6_dueDebts_9 : decode cX6_dueDebts 9 = .ok (.if_icmp .ge 24, 3) := by decide +kernel
theorem dX6_dueDebts_12 : decode cX6_dueDebts 12 = .ok (.aload_n 0, 1) := by decide +kernel
theorem dX6_dueDebts_13 : decode cX6_dueDebts 13 = .ok (.aload_n 1, 1) := by decide +kernel
theorem dX6_dueDebts_14 : decode cX6_dueDebts 14 = .ok (.iload_n 3, 1) := by decide +kernel
theorem dX6_dueDebts_15 : decode cX6_dueDebts 15 = .ok (.invokevirtual 71, 3) := by decide +kernel
theorem dX6_dueDebts_18 : decode cX6_dueDebts 18 = .ok (.ifCond .eq 9, 3) := by decide +kernel
theorem dX6_dueDebts_21 : decode cX6_dueDebts 21 = .ok (.iload_n 2, 1) := by decide +kernel
theorem dX6_dueDebts_22 : decode cX6_dueDebts 22 = .ok (.iconst 1, 1) := by decide +kernel
theorem dX6_dueDebts_23 : decode cX6_dueDebts 23 = .ok (.iload_n 3, 1) := by decide +kernel
theorem dX6_dueDebts_24 : decode cX6_dueDebts 24 = .ok (.ishl, 1) := by decide +kernel
theorem dX6_dueDebts_25 : decode cX6_dueDebts 25 = .ok (.ior, 1) := by decide +kernel
theorem dX6_dueDebts_26 : decode cX6_dueDebts 26 = .ok (.istore_n 2, 1) := by decide +kernel
theorem dX6_dueDebts_27 : decode cX6_dueDebts 27 = .ok (.iinc 3 1, 3) := by decide +kernel
theorem dX6_dueDebts_30 : decode cX6_dueDebts 30 = .ok (.goto (-26), 3) := by decide +kernel
theorem dX6_dueDebts_33 : decode cX6_dueDebts 33 = .ok (.iload_n 2, 1) := by decide +kernel
theorem dX6_dueDebts_34 : decode cX6_dueDebts 34 = .ok (.ireturn, 1) := by decide +kernel
set_option maxRecDepth 20000 in
theorem ggX6_openDebts_X6_owed : GoodIn wsX6_openDebts wsX6_owed := goodIn_r _ [6, 7, 20] (by decide +kernel) (by decide +kernel)
set_option maxRecDepth 20000 in
theorem gX6_openDebts_X6_owed : GoodIn wsX6_openDebts (wsV RX6 55 RX6 yX6_owed wsX6_owed) := goodIn_app (goodIn_of _ (by decide +kernel)) ggX6_openDebts_X6_owed
theorem dX6_openDebts_0 : decode cX6_openDebts 0 = .ok (.iconst 0, 1) := by decide +kernel
theorem dX6_openDebts_1 : decode cX6_openDebts 1 = .ok (.istore_n 2, 1) := by decide +kernel
theorem dX6_openDebts_2 : decode cX6_openDebts 2 = .ok (.iconst 0, 1) := by decide +kernel
theorem dX6_openDebts_3 : decode cX6_openDebts 3 = .ok (.istore_n 3, 1) := by decide +kernel
theorem dX6_openDebts_4 : decode cX6_openDebts 4 = .ok (.iload_n 3, 1) := by decide +kernel
theorem dX6_openDebts_5 : decode cX6_openDebts 5 = .ok (.aload_n 1, 1) := by decide +kernel
theorem dX6_openDebts_6 : decode cX6_openDebts 6 = .ok (.getfield 33, 3) := by decide +kernel
theorem dX6_openDebts_9 : decode cX6_openDebts 9 = .ok (.if_icmp .ge 23, 3) := by decide +kernel
theorem dX6_openDebts_12 : decode cX6_openDebts 12 = .ok (.aload_n 0, 1) := by decide +kernel
theorem dX6_openDebts_13 : decode cX6_openDebts 13 = .ok (.iload_n 3, 1) := by decide +kernel
theorem dX6_openDebts_14 : decode cX6_openDebts 14 = .ok (.invokevirtual 55, 3) := by decide +kernel
theorem dX6_openDebts_17 : decode cX6_openDebts 17 = .ok (.ifCond .eq 9, 3) := by decide +kernel
theorem dX6_openDebts_20 : decode cX6_openDebts 20 = .ok (.iload_n 2, 1) := by decide +kernel
theorem dX6_openDebts_21 : decode cX6_openDebts 21 = .ok (.iconst 1, 1) := by decide +kernel
theorem dX6_openDebts_22 : decode cX6_openDebts 22 = .ok (.iload_n 3, 1) := by decide +kernel
theorem dX6_openDebts_23 : decode cX6_openDebts 23 = .ok (.ishl, 1) := by decide +kernel
theorem dX6_openDebts_24 : decode cX6_openDebts 24 = .ok (.ior, 1) := by decide +kernel
theorem dX6_openDebts_25 : decode cX6_openDebts 25 = .ok (.istore_n 2, 1) := by decide +kernel
theorem dX6_openDebts_26 : decode cX6_openDebts 26 = .ok (.iinc 3 1, 3) := by decide +kernel
theorem dX6_openDebts_29 : decode cX6_openDebts 29 = .ok (.goto (-25), 3) := by decide +kernel
theorem dX6_openDebts_32 : decode cX6_openDebts 32 = .ok (.iload_n 2, 1) := by decide +kernel
theorem dX6_openDebts_33 : decode cX6_openDebts 33 = .ok (.ireturn, 1) := by decide +kernel
set_option maxRecDepth 20000 in
theorem ggX6_snow_X7_depth : GoodIn wsX6_snow wsX7_depth := goodIn_r _ [7, 8, 9, 10, 11, 12, 28, 29, 30, 31, 32, 33, 34, 35, 36, 37, 38, 39] (by decide +kernel) (by decide +kernel)
set_option maxRecDepth 20000 in
theorem gX6_snow_X7_depth : GoodIn wsX6_snow (wsV RX6 78 RX7 yX7_depth wsX7_depth) := goodIn_app (goodIn_of _ (by decide +kernel)) ggX6_snow_X7_depth
set_option maxRecDepth 20000 in
theorem ggX6_snow_X7_isFall : GoodIn wsX6_snow wsX7_isFall := goodIn_r _ [16, 17, 28, 29, 30, 31, 32, 33, 34, 35, 36, 37, 38, 39] (by decide +kernel) (by decide +kernel)
set_option maxRecDepth 20000 in
theorem gX6_snow_X7_isFall : GoodIn wsX6_snow (wsV RX6 81 RX7 yX7_isFall wsX7_isFall) := goodIn_app (goodIn_of _ (by decide +kernel)) ggX6_snow_X7_isFall
set_option maxRecDepth 20000 in
theorem ggX6_snow_X6_ageAllIn : GoodIn wsX6_snow wsX6_ageAllIn := goodIn_r _ [22, 23, 2, 24, 25, 26, 21, 27, 28, 29, 30, 31, 32, 33, 34, 35, 36, 37, 38, 39, 40] (by decide +kernel) (by decide +kernel)
set_option maxRecDepth 20000 in
theorem gX6_snow_X6_ageAllIn : GoodIn wsX6_snow (wsV RX6 85 RX6 yX6_ageAllIn wsX6_ageAllIn) := goodIn_app (goodIn_of _ (by decide +kernel)) ggX6_snow_X6_ageAllIn
theorem dX6_snow_0 : decode cX6_snow 0 = .ok (.iconst 0, 1) := by decide +kernel
theorem dX6_snow_1 : decode cX6_snow 1 = .ok (.istore_n 3, 1) := by decide +kernel
theorem dX6_snow_2 : decode cX6_snow 2 = .ok (.iload_n 3, 1) := by decide +kernel
theorem dX6_snow_3 : decode cX6_snow 3 = .ok (.aload_n 1, 1) := by decide +kernel
theorem dX6_snow_4 : decode cX6_snow 4 = .ok (.getfield 75, 3) := by decide +kernel
theorem dX6_snow_7 : decode cX6_snow 7 = .ok (.if_icmp .ge 53, 3) := by decide +kernel
theorem dX6_snow_10 : decode cX6_snow 10 = .ok (.aload_n 0, 1) := by decide +kernel
theorem dX6_snow_11 : decode cX6_snow 11 = .ok (.getfield 11, 3) := by decide +kernel
theorem dX6_snow_14 : decode cX6_snow 14 = .ok (.iconst 5, 1) := by decide +kernel
theorem dX6_snow_15 : decode cX6_snow 15 = .ok (.iload_n 3, 1) := by decide +kernel
theorem dX6_snow_16 : decode cX6_snow 16 = .ok (.iadd, 1) := by decide +kernel
theorem dX6_snow_17 : decode cX6_snow 17 = .ok (.dup2, 1) := by decide +kernel
theorem dX6_snow_18 : decode cX6_snow 18 = .ok (.iaload, 1) := by decide +kernel
theorem dX6_snow_19 : decode cX6_snow 19 = .ok (.aload_n 1, 1) := by decide +kernel
theorem dX6_snow_20 : decode cX6_snow 20 = .ok (.iload_n 3, 1) := by decide +kernel
theorem dX6_snow_21 : decode cX6_snow 21 = .ok (.iload_n 2, 1) := by decide +kernel
theorem dX6_snow_22 : decode cX6_snow 22 = .ok (.invokevirtual 78, 3) := by decide +kernel
theorem dX6_snow_25 : decode cX6_snow 25 = .ok (.iadd, 1) := by decide +kernel
theorem dX6_snow_26 : decode cX6_snow 26 = .ok (.iastore, 1) := by decide +kernel
theorem dX6_snow_27 : decode cX6_snow 27 = .ok (.aload_n 1, 1) := by decide +kernel
theorem dX6_snow_28 : decode cX6_snow 28 = .ok (.iload_n 3, 1) := by decide +kernel
theorem dX6_snow_29 : decode cX6_snow 29 = .ok (.iload_n 2, 1) := by decide +kernel
theorem dX6_snow_30 : decode cX6_snow 30 = .ok (.invokevirtual 81, 3) := by decide +kernel
theorem dX6_snow_33 : decode cX6_snow 33 = .ok (.ifCond .eq 21, 3) := by decide +kernel
theorem dX6_snow_36 : decode cX6_snow 36 = .ok (.aload_n 0, 1) := by decide +kernel
theorem dX6_snow_37 : decode cX6_snow 37 = .ok (.getfield 11, 3) := by decide +kernel
theorem dX6_snow_40 : decode cX6_snow 40 = .ok (.iconst 1, 1) := by decide +kernel
theorem dX6_snow_41 : decode cX6_snow 41 = .ok (.iload_n 3, 1) := by decide +kernel
theorem dX6_snow_42 : decode cX6_snow 42 = .ok (.iadd, 1) := by decide +kernel
theorem dX6_snow_43 : decode cX6_snow 43 = .ok (.dup2, 1) := by decide +kernel
theorem dX6_snow_44 : decode cX6_snow 44 = .ok (.iaload, 1) := by decide +kernel
theorem dX6_snow_45 : decode cX6_snow 45 = .ok (.iconst 1, 1) := by decide +kernel
theorem dX6_snow_46 : decode cX6_snow 46 = .ok (.iadd, 1) := by decide +kernel
theorem dX6_snow_47 : decode cX6_snow 47 = .ok (.iastore, 1) := by decide +kernel
theorem dX6_snow_48 : decode cX6_snow 48 = .ok (.aload_n 0, 1) := by decide +kernel
theorem dX6_snow_49 : decode cX6_snow 49 = .ok (.aload_n 1, 1) := by decide +kernel
theorem dX6_snow_50 : decode cX6_snow 50 = .ok (.iload_n 3, 1) := by decide +kernel
theorem dX6_snow_51 : decode cX6_snow 51 = .ok (.invokevirtual 85, 3) := by decide +kernel
theorem dX6_snow_54 : decode cX6_snow 54 = .ok (.iinc 3 1, 3) := by decide +kernel
theorem dX6_snow_57 : decode cX6_snow 57 = .ok (.goto (-55), 3) := by decide +kernel
theorem dX6_snow_60 : decode cX6_snow 60 = .ok (.aload_n 0, 1) := by decide +kernel
theorem dX6_snow_61 : decode cX6_snow 61 = .ok (.getfield 11, 3) := by decide +kernel
theorem dX6_snow_64 : decode cX6_snow 64 = .ok (.iconst 0, 1) := by decide +kernel
theorem dX6_snow_65 : decode cX6_snow 65 = .ok (.dup2, 1) := by decide +kernel
theorem dX6_snow_66 : decode cX6_snow 66 = .ok (.iaload, 1) := by decide +kernel
theorem dX6_snow_67 : decode cX6_snow 67 = .ok (.iconst 1, 1) := by decide +kernel
theorem dX6_snow_68 : decode cX6_snow 68 = .ok (.iadd, 1) := by decide +kernel
theorem dX6_snow_69 : decode cX6_snow 69 = .ok (.iastore, 1) := by decide +kernel
theorem dX6_snow_70 : decode cX6_snow 70 = .ok (.return_, 1) := by decide +kernel
set_option maxRecDepth 20000 in
theorem ggX6_ageAllIn_X6_home : GoodIn wsX6_ageAllIn wsX6_home := goodIn_r _ [7, 2, 20] (by decide +kernel) (by decide +kernel)
set_option maxRecDepth 20000 in
theorem gX6_ageAllIn_X6_home : GoodIn wsX6_ageAllIn (wsV RX6 49 RX6 yX6_home wsX6_home) := goodIn_app (goodIn_of _ (by decide +kernel)) ggX6_ageAllIn_X6_home
theorem dX6_ageAllIn_0 : decode cX6_ageAllIn 0 = .ok (.iconst 0, 1) := by decide +kernel
theorem dX6_ageAllIn_1 : decode cX6_ageAllIn 1 = .ok (.istore_n 3, 1) := by decide +kernel
theorem dX6_ageAllIn_2 : decode cX6_ageAllIn 2 = .ok (.iload_n 3, 1) := by decide +kernel
theorem dX6_ageAllIn_3 : decode cX6_ageAllIn 3 = .ok (.aload_n 1, 1) := by decide +kernel
theorem dX6_ageAllIn_4 : decode cX6_ageAllIn 4 = .ok (.getfield 21, 3) := by decide +kernel
theorem dX6_ageAllIn_7 : decode cX6_ageAllIn 7 = .ok (.if_icmp .ge 31, 3) := by decide +kernel
theorem dX6_ageAllIn_10 : decode cX6_ageAllIn 10 = .ok (.aload_n 0, 1) := by decide +kernel
theorem dX6_ageAllIn_11 : decode cX6_ageAllIn 11 = .ok (.iload_n 3, 1) := by decide +kernel
theorem dX6_ageAllIn_12 : decode cX6_ageAllIn 12 = .ok (.invokevirtual 49, 3) := by decide +kernel
theorem dX6_ageAllIn_15 : decode cX6_ageAllIn 15 = .ok (.iload_n 2, 1) := by decide +kernel
theorem dX6_ageAllIn_16 : decode cX6_ageAllIn 16 = .ok (.if_icmp .ne 16, 3) := by decide +kernel
theorem dX6_ageAllIn_19 : decode cX6_ageAllIn 19 = .ok (.aload_n 0, 1) := by decide +kernel
theorem dX6_ageAllIn_20 : decode cX6_ageAllIn 20 = .ok (.getfield 11, 3) := by decide +kernel
theorem dX6_ageAllIn_23 : decode cX6_ageAllIn 23 = .ok (.bipush 19, 2) := by decide +kernel
theorem dX6_ageAllIn_25 : decode cX6_ageAllIn 25 = .ok (.iload_n 3, 1) := by decide +kernel
theorem dX6_ageAllIn_26 : decode cX6_ageAllIn 26 = .ok (.iadd, 1) := by decide +kernel
theorem dX6_ageAllIn_27 : decode cX6_ageAllIn 27 = .ok (.dup2, 1) := by decide +kernel
theorem dX6_ageAllIn_28 : decode cX6_ageAllIn 28 = .ok (.iaload, 1) := by decide +kernel
theorem dX6_ageAllIn_29 : decode cX6_ageAllIn 29 = .ok (.iconst 1, 1) := by decide +kernel
theorem dX6_ageAllIn_30 : decode cX6_ageAllIn 30 = .ok (.iadd, 1) := by decide +kernel
theorem dX6_ageAllIn_31 : decode cX6_ageAllIn 31 = .ok (.iastore, 1) := by decide +kernel
theorem dX6_ageAllIn_32 : decode cX6_ageAllIn 32 = .ok (.iinc 3 1, 3) := by decide +kernel
theorem dX6_ageAllIn_35 : decode cX6_ageAllIn 35 = .ok (.goto (-33), 3) := by decide +kernel
theorem dX6_ageAllIn_38 : decode cX6_ageAllIn 38 = .ok (.return_, 1) := by decide +kernel
theorem dX6_settle_0 : decode cX6_settle 0 = .ok (.aload_n 0, 1) := by decide +kernel
theorem dX6_settle_1 : decode cX6_settle 1 = .ok (.getfield 11, 3) := by decide +kernel
theorem dX6_settle_4 : decode cX6_settle 4 = .ok (.bipush 13, 2) := by decide +kernel
theorem dX6_settle_6 : decode cX6_settle 6 = .ok (.iload_n 1, 1) := by decide +kernel
theorem dX6_settle_7 : decode cX6_settle 7 = .ok (.iadd, 1) := by decide +kernel
theorem dX6_settle_8 : decode cX6_settle 8 = .ok (.iload_n 2, 1) := by decide +kernel
theorem dX6_settle_9 : decode cX6_settle 9 = .ok (.iastore, 1) := by decide +kernel
theorem dX6_settle_10 : decode cX6_settle 10 = .ok (.return_, 1) := by decide +kernel
theorem dX6_cutPole_0 : decode cX6_cutPole 0 = .ok (.aload_n 0, 1) := by decide +kernel
theorem dX6_cutPole_1 : decode cX6_cutPole 1 = .ok (.getfield 11, 3) := by decide +kernel
theorem dX6_cutPole_4 : decode cX6_cutPole 4 = .ok (.bipush 9, 2) := by decide +kernel
theorem dX6_cutPole_6 : decode cX6_cutPole 6 = .ok (.iload_n 1, 1) := by decide +kernel
theorem dX6_cutPole_7 : decode cX6_cutPole 7 = .ok (.iadd, 1) := by decide +kernel
theorem dX6_cutPole_8 : decode cX6_cutPole 8 = .ok (.dup2, 1) := by decide +kernel
theorem dX6_cutPole_9 : decode cX6_cutPole 9 = .ok (.iaload, 1) := by decide +kernel
theorem dX6_cutPole_10 : decode cX6_cutPole 10 = .ok (.iload_n 2, 1) := by decide +kernel
theorem dX6_cutPole_11 : decode cX6_cutPole 11 = .ok (.iadd, 1) := by decide +kernel
theorem dX6_cutPole_12 : decode cX6_cutPole 12 = .ok (.iastore, 1) := by decide +kernel
theorem dX6_cutPole_13 : decode cX6_cutPole 13 = .ok (.return_, 1) := by decide +kernel
theorem dX6_clearDebt_0 : decode cX6_clearDebt 0 = .ok (.aload_n 0, 1) := by decide +kernel
theorem dX6_clearDebt_1 : decode cX6_clearDebt 1 = .ok (.getfield 11, 3) := by decide +kernel
theorem dX6_clearDebt_4 : decode cX6_clearDebt 4 = .ok (.bipush 25, 2) := by decide +kernel
theorem dX6_clearDebt_6 : decode cX6_clearDebt 6 = .ok (.iload_n 1, 1) := by decide +kernel
theorem dX6_clearDebt_7 : decode cX6_clearDebt 7 = .ok (.iadd, 1) := by decide +kernel
theorem dX6_clearDebt_8 : decode cX6_clearDebt 8 = .ok (.iconst 0, 1) := by decide +kernel
theorem dX6_clearDebt_9 : decode cX6_clearDebt 9 = .ok (.iastore, 1) := by decide +kernel
theorem dX6_clearDebt_10 : decode cX6_clearDebt 10 = .ok (.return_, 1) := by decide +kernel
set_option maxRecDepth 20000 in
theorem ggX6_makeDebt_X6_fell : GoodIn wsX6_makeDebt wsX6_fell := goodIn_r _ [7, 1, 8] (by decide +kernel) (by decide +kernel)
set_option maxRecDepth 20000 in
theorem gX6_makeDebt_X6_fell : GoodIn wsX6_makeDebt (wsV RX6 61 RX6 yX6_fell wsX6_fell) := goodIn_app (goodIn_of _ (by decide +kernel)) ggX6_makeDebt_X6_fell
theorem dX6_makeDebt_0 : decode cX6_makeDebt 0 = .ok (.aload_n 0, 1) := by decide +kernel
theorem dX6_makeDebt_1 : decode cX6_makeDebt 1 = .ok (.getfield 11, 3) := by decide +kernel
theorem dX6_makeDebt_4 : decode cX6_makeDebt 4 = .ok (.bipush 25, 2) := by decide +kernel
theorem dX6_makeDebt_6 : decode cX6_makeDebt 6 = .ok (.iload_n 2, 1) := by decide +kernel
theorem dX6_makeDebt_7 : decode cX6_makeDebt 7 = .ok (.iadd, 1) := by decide +kernel
theorem dX6_makeDebt_8 : decode cX6_makeDebt 8 = .ok (.iload_n 3, 1) := by decide +kernel
theorem dX6_makeDebt_9 : decode cX6_makeDebt 9 = .ok (.iastore, 1) := by decide +kernel
theorem dX6_makeDebt_10 : decode cX6_makeDebt 10 = .ok (.aload_n 0, 1) := by decide +kernel
theorem dX6_makeDebt_11 : decode cX6_makeDebt 11 = .ok (.getfield 11, 3) := by decide +kernel
theorem dX6_makeDebt_14 : decode cX6_makeDebt 14 = .ok (.bipush 30, 2) := by decide +kernel
theorem dX6_makeDebt_16 : decode cX6_makeDebt 16 = .ok (.iload_n 2, 1) := by decide +kernel
theorem dX6_makeDebt_17 : decode cX6_makeDebt 17 = .ok (.iadd, 1) := by decide +kernel
theorem dX6_makeDebt_18 : decode cX6_makeDebt 18 = .ok (.aload_n 0, 1) := by decide +kernel
theorem dX6_makeDebt_19 : decode cX6_makeDebt 19 = .ok (.aload_n 1, 1) := by decide +kernel
theorem dX6_makeDebt_20 : decode cX6_makeDebt 20 = .ok (.getfield 58, 3) := by decide +kernel
theorem dX6_makeDebt_23 : decode cX6_makeDebt 23 = .ok (.iload_n 2, 1) := by decide +kernel
theorem dX6_makeDebt_24 : decode cX6_makeDebt 24 = .ok (.iaload, 1) := by decide +kernel
theorem dX6_makeDebt_25 : decode cX6_makeDebt 25 = .ok (.invokevirtual 61, 3) := by decide +kernel
theorem dX6_makeDebt_28 : decode cX6_makeDebt 28 = .ok (.iastore, 1) := by decide +kernel
theorem dX6_makeDebt_29 : decode cX6_makeDebt 29 = .ok (.return_, 1) := by decide +kernel
theorem dX7_init_0 : decode cX7_init 0 = .ok (.aload_n 0, 1) := by decide +kernel
theorem dX7_init_1 : decode cX7_init 1 = .ok (.invokespecial 3, 3) := by decide +kernel
theorem dX7_init_4 : decode cX7_init 4 = .ok (.aload_n 0, 1) := by decide +kernel
theorem dX7_init_5 : decode cX7_init 5 = .ok (.bipush 20, 2) := by decide +kernel
theorem dX7_init_7 : decode cX7_init 7 = .ok (.newarray .int, 2) := by decide +kernel
theorem dX7_init_9 : decode cX7_init 9 = .ok (.putfield 9, 3) := by decide +kernel
theorem dX7_init_12 : decode cX7_init 12 = .ok (.aload_n 0, 1) := by decide +kernel
theorem dX7_init_13 : decode cX7_init 13 = .ok (.iconst 4, 1) := by decide +kernel
theorem dX7_init_14 : decode cX7_init 14 = .ok (.newarray .int, 2) := by decide +kernel
theorem dX7_init_16 : decode cX7_init 16 = .ok (.putfield 15, 3) := by decide +kernel
theorem dX7_init_19 : decode cX7_init 19 = .ok (.aload_n 0, 1) := by decide +kernel
theorem dX7_init_20 : decode cX7_init 20 = .ok (.iconst 4, 1) := by decide +kernel
theorem dX7_init_21 : decode cX7_init 21 = .ok (.newarray .int, 2) := by decide +kernel
theorem dX7_init_23 : decode cX7_init 23 = .ok (.putfield 18, 3) := by decide +kernel
theorem dX7_init_26 : decode cX7_init 26 = .ok (.aload_n 0, 1) := by decide +kernel
theorem dX7_init_27 : decode cX7_init 27 = .ok (.iconst 4, 1) := by decide +kernel
theorem dX7_init_28 : decode cX7_init 28 = .ok (.newarray .int, 2) := by decide +kernel
theorem dX7_init_30 : decode cX7_init 30 = .ok (.putfield 21, 3) := by decide +kernel
theorem dX7_init_33 : decode cX7_init 33 = .ok (.aload_n 0, 1) := by decide +kernel
theorem dX7_init_34 : decode cX7_init 34 = .ok (.bipush 6, 2) := by decide +kernel
theorem dX7_init_36 : decode cX7_init 36 = .ok (.newarray .int, 2) := by decide +kernel
theorem dX7_init_38 : decode cX7_init 38 = .ok (.putfield 24, 3) := by decide +kernel
theorem dX7_init_41 : decode cX7_init 41 = .ok (.aload_n 0, 1) := by decide +kernel
theorem dX7_init_42 : decode cX7_init 42 = .ok (.bipush 6, 2) := by decide +kernel
theorem dX7_init_44 : decode cX7_init 44 = .ok (.newarray .int, 2) := by decide +kernel
theorem dX7_init_46 : decode cX7_init 46 = .ok (.putfield 27, 3) := by decide +kernel
theorem dX7_init_49 : decode cX7_init 49 = .ok (.aload_n 0, 1) := by decide +kernel
theorem dX7_init_50 : decode cX7_init 50 = .ok (.iconst 5, 1) := by decide +kernel
theorem dX7_init_51 : decode cX7_init 51 = .ok (.newarray .int, 2) := by decide +kernel
theorem dX7_init_53 : decode cX7_init 53 = .ok (.putfield 30, 3) := by decide +kernel
theorem dX7_init_56 : decode cX7_init 56 = .ok (.aload_n 0, 1) := by decide +kernel
theorem dX7_init_57 : decode cX7_init 57 = .ok (.iconst 5, 1) := by decide +kernel
theorem dX7_init_58 : decode cX7_init 58 = .ok (.newarray .int, 2) := by decide +kernel
theorem dX7_init_60 : decode cX7_init 60 = .ok (.putfield 33, 3) := by decide +kernel
theorem dX7_init_63 : decode cX7_init 63 = .ok (.aload_n 0, 1) := by decide +kernel
theorem dX7_init_64 : decode cX7_init 64 = .ok (.iconst 0, 1) := by decide +kernel
theorem dX7_init_65 : decode cX7_init 65 = .ok (.putfield 36, 3) := by decide +kernel
theorem dX7_init_68 : decode cX7_init 68 = .ok (.aload_n 0, 1) := by decide +kernel
theorem dX7_init_69 : decode cX7_init 69 = .ok (.iconst 0, 1) := by decide +kernel
theorem dX7_init_70 : decode cX7_init 70 = .ok (.putfield 40, 3) := by decide +kernel
theorem dX7_init_73 : decode cX7_init 73 = .ok (.aload_n 0, 1) := by decide +kernel
theorem dX7_init_74 : decode cX7_init 74 = .ok (.iconst 0, 1) := by decide +kernel
theorem dX7_init_75 : decode cX7_init 75 = .ok (.putfield 43, 3) := by decide +kernel
theorem dX7_init_78 : decode cX7_init 78 = .ok (.aload_n 0, 1) := by decide +kernel
theorem dX7_init_79 : decode cX7_init 79 = .ok (.iconst 0, 1) := by decide +kernel
theorem dX7_init_80 : decode cX7_init 80 = .ok (.putfield 46, 3) := by decide +kernel
theorem dX7_init_83 : decode cX7_init 83 = .ok (.return_, 1) := by decide +kernel
theorem dX7_clear_0 : decode cX7_clear 0 = .ok (.aload_n 0, 1) := by decide +kernel
theorem dX7_clear_1 : decode cX7_clear 1 = .ok (.iconst 0, 1) := by decide +kernel
theorem dX7_clear_2 : decode cX7_clear 2 = .ok (.putfield 36, 3) := by decide +kernel
theorem dX7_clear_5 : decode cX7_clear 5 = .ok (.aload_n 0, 1) := by decide +kernel
theorem dX7_clear_6 : decode cX7_clear 6 = .ok (.iconst 0, 1) := by decide +kernel
theorem dX7_clear_7 : decode cX7_clear 7 = .ok (.putfield 40, 3) := by decide +kernel
theorem dX7_clear_10 : decode cX7_clear 10 = .ok (.aload_n 0, 1) := by decide +kernel
theorem dX7_clear_11 : decode cX7_clear 11 = .ok (.iconst 0, 1) := by decide +kernel
theorem dX7_clear_12 : decode cX7_clear 12 = .ok (.putfield 43, 3) := by decide +kernel
theorem dX7_clear_15 : decode cX7_clear 15 = .ok (.aload_n 0, 1) := by decide +kernel
theorem dX7_clear_16 : decode cX7_clear 16 = .ok (.iconst 0, 1) := by decide +kernel
theorem dX7_clear_17 : decode cX7_clear 17 = .ok (.putfield 46, 3) := by decide +kernel
theorem dX7_clear_20 : decode cX7_clear 20 = .ok (.return_, 1) := by decide +kernel
theorem dX7_become_0 : decode cX7_become 0 = .ok (.aload_n 1, 1) := by decide +kernel
theorem dX7_become_1 : decode cX7_become 1 = .ok (.getfield 9, 3) := by decide +kernel
theorem dX7_become_4 : decode cX7_become 4 = .ok (.iconst 0, 1) := by decide +kernel
theorem dX7_become_5 : decode cX7_become 5 = .ok (.aload_n 0, 1) := by decide +kernel
theorem dX7_become_6 : decode cX7_become 6 = .ok (.getfield 9, 3) := by decide +kernel
theorem dX7_become_9 : decode cX7_become 9 = .ok (.iconst 0, 1) := by decide +kernel
theorem dX7_become_10 : decode cX7_become 10 = .ok (.bipush 20, 2) := by decide +kernel
theorem dX7_become_12 : decode cX7_become 12 = .ok (.invokestatic 49, 3) := by decide +kernel
theorem dX7_become_15 : decode cX7_become 15 = .ok (.aload_n 1, 1) := by decide +kernel
theorem dX7_become_16 : decode cX7_become 16 = .ok (.getfield 15, 3) := by decide +kernel
theorem dX7_become_19 : decode cX7_become 19 = .ok (.iconst 0, 1) := by decide +kernel
theorem dX7_become_20 : decode cX7_become 20 = .ok (.aload_n 0, 1) := by decide +kernel
theorem dX7_become_21 : decode cX7_become 21 = .ok (.getfield 15, 3) := by decide +kernel
theorem dX7_become_24 : decode cX7_become 24 = .ok (.iconst 0, 1) := by decide +kernel
theorem dX7_become_25 : decode cX7_become 25 = .ok (.iconst 4, 1) := by decide +kernel
theorem dX7_become_26 : decode cX7_become 26 = .ok (.invokestatic 49, 3) := by decide +kernel
theorem dX7_become_29 : decode cX7_become 29 = .ok (.aload_n 1, 1) := by decide +kernel
theorem dX7_become_30 : decode cX7_become 30 = .ok (.getfield 18, 3) := by decide +kernel
theorem dX7_become_33 : decode cX7_become 33 = .ok (.iconst 0, 1) := by decide +kernel
theorem dX7_become_34 : decode cX7_become 34 = .ok (.aload_n 0, 1) := by decide +kernel
theorem dX7_become_35 : decode cX7_become 35 = .ok (.getfield 18, 3) := by decide +kernel
theorem dX7_become_38 : decode cX7_become 38 = .ok (.iconst 0, 1) := by decide +kernel
theorem dX7_become_39 : decode cX7_become 39 = .ok (.iconst 4, 1) := by decide +kernel
theorem dX7_become_40 : decode cX7_become 40 = .ok (.invokestatic 49, 3) := by decide +kernel
theorem dX7_become_43 : decode cX7_become 43 = .ok (.aload_n 1, 1) := by decide +kernel
theorem dX7_become_44 : decode cX7_become 44 = .ok (.getfield 21, 3) := by decide +kernel
theorem dX7_become_47 : decode cX7_become 47 = .ok (.iconst 0, 1) := by decide +kernel
theorem dX7_become_48 : decode cX7_become 48 = .ok (.aload_n 0, 1) := by decide +kernel
theorem dX7_become_49 : decode cX7_become 49 = .ok (.getfield 21, 3) := by decide +kernel
theorem dX7_become_52 : decode cX7_become 52 = .ok (.iconst 0, 1) := by decide +kernel
theorem dX7_become_53 : decode cX7_become 53 = .ok (.iconst 4, 1) := by decide +kernel
theorem dX7_become_54 : decode cX7_become 54 = .ok (.invokestatic 49, 3) := by decide +kernel
theorem dX7_become_57 : decode cX7_become 57 = .ok (.aload_n 1, 1) := by decide +kernel
theorem dX7_become_58 : decode cX7_become 58 = .ok (.getfield 24, 3) := by decide +kernel
theorem dX7_become_61 : decode cX7_become 61 = .ok (.iconst 0, 1) := by decide +kernel
theorem dX7_become_62 : decode cX7_become 62 = .ok (.aload_n 0, 1) := by decide +kernel
theorem dX7_become_63 : decode cX7_become 63 = .ok (.getfield 24, 3) := by decide +kernel
theorem dX7_become_66 : decode cX7_become 66 = .ok (.iconst 0, 1) := by decide +kernel
theorem dX7_become_67 : decode cX7_become 67 = .ok (.bipush 6, 2) := by decide +kernel
theorem dX7_become_69 : decode cX7_become 69 = .ok (.invokestatic 49, 3) := by decide +kernel
theorem dX7_become_72 : decode cX7_become 72 = .ok (.aload_n 1, 1) := by decide +kernel
theorem dX7_become_73 : decode cX7_become 73 = .ok (.getfield 27, 3) := by decide +kernel
theorem dX7_become_76 : decode cX7_become 76 = .ok (.iconst 0, 1) := by decide +kernel
theorem dX7_become_77 : decode cX7_become 77 = .ok (.aload_n 0, 1) := by decide +kernel
theorem dX7_become_78 : decode cX7_become 78 = .ok (.getfield 27, 3) := by decide +kernel
theorem dX7_become_81 : decode cX7_become 81 = .ok (.iconst 0, 1) := by decide +kernel
theorem dX7_become_82 : decode cX7_become 82 = .ok (.bipush 6, 2) := by decide +kernel
theorem dX7_become_84 : decode cX7_become 84 = .ok (.invokestatic 49, 3) := by decide +kernel
theorem dX7_become_87 : decode cX7_become 87 = .ok (.aload_n 1, 1) := by decide +kernel
theorem dX7_become_88 : decode cX7_become 88 = .ok (.getfield 30, 3) := by decide +kernel
theorem dX7_become_91 : decode cX7_become 91 = .ok (.iconst 0, 1) := by decide +kernel
theorem dX7_become_92 : decode cX7_become 92 = .ok (.aload_n 0, 1) := by decide +kernel
theorem dX7_become_93 : decode cX7_become 93 = .ok (.getfield 30, 3) := by decide +kernel
theorem dX7_become_96 : decode cX7_become 96 = .ok (.iconst 0, 1) := by decide +kernel
theorem dX7_become_97 : decode cX7_become 97 = .ok (.iconst 5, 1) := by decide +kernel
theorem dX7_become_98 : decode cX7_become 98 = .ok (.invokestatic 49, 3) := by decide +kernel
theorem dX7_become_101 : decode cX7_become 101 = .ok (.aload_n 1, 1) := by decide +kernel
theorem dX7_become_102 : decode cX7_become 102 = .ok (.getfield 33, 3) := by decide +kernel
theorem dX7_become_105 : decode cX7_become 105 = .ok (.iconst 0, 1) := by decide +kernel
theorem dX7_become_106 : decode cX7_become 106 = .ok (.aload_n 0, 1) := by decide +kernel
theorem dX7_become_107 : decode cX7_become 107 = .ok (.getfield 33, 3) := by decide +kernel
theorem dX7_become_110 : decode cX7_become 110 = .ok (.iconst 0, 1) := by decide +kernel
theorem dX7_become_111 : decode cX7_become 111 = .ok (.iconst 5, 1) := by decide +kernel
theorem dX7_become_112 : decode cX7_become 112 = .ok (.invokestatic 49, 3) := by decide +kernel
theorem dX7_become_115 : decode cX7_become 115 = .ok (.aload_n 0, 1) := by decide +kernel
theorem dX7_become_116 : decode cX7_become 116 = .ok (.aload_n 1, 1) := by decide +kernel
theorem dX7_become_117 : decode cX7_become 117 = .ok (.getfield 36, 3) := by decide +kernel
theorem dX7_become_120 : decode cX7_become 120 = .ok (.putfield 36, 3) := by decide +kernel
theorem dX7_become_123 : decode cX7_become 123 = .ok (.aload_n 0, 1) := by decide +kernel
theorem dX7_become_124 : decode cX7_become 124 = .ok (.aload_n 1, 1) := by decide +kernel
theorem dX7_become_125 : decode cX7_become 125 = .ok (.getfield 40, 3) := by decide +kernel
theorem dX7_become_128 : decode cX7_become 128 = .ok (.putfield 40, 3) := by decide +kernel
theorem dX7_become_131 : decode cX7_become 131 = .ok (.aload_n 0, 1) := by decide +kernel
theorem dX7_become_132 : decode cX7_become 132 = .ok (.aload_n 1, 1) := by decide +kernel
theorem dX7_become_133 : decode cX7_become 133 = .ok (.getfield 43, 3) := by decide +kernel
theorem dX7_become_136 : decode cX7_become 136 = .ok (.putfield 43, 3) := by decide +kernel
theorem dX7_become_139 : decode cX7_become 139 = .ok (.aload_n 0, 1) := by decide +kernel
theorem dX7_become_140 : decode cX7_become 140 = .ok (.aload_n 1, 1) := by decide +kernel
theorem dX7_become_141 : decode cX7_become 141 = .ok (.getfield 46, 3) := by decide +kernel
theorem dX7_become_144 : decode cX7_become 144 = .ok (.putfield 46, 3) := by decide +kernel
theorem dX7_become_147 : decode cX7_become 147 = .ok (.return_, 1) := by decide +kernel
theorem dX7_isThere_0 : decode cX7_isThere 0 = .ok (.aload_n 0, 1) := by decide +kernel
theorem dX7_isThere_1 : decode cX7_isThere 1 = .ok (.getfield 36, 3) := by decide +kernel
theorem dX7_isThere_4 : decode cX7_isThere 4 = .ok (.ifCond .le 7, 3) := by decide +kernel
theorem dX7_isThere_7 : decode cX7_isThere 7 = .ok (.iconst 1, 1) := by decide +kernel
theorem dX7_isThere_8 : decode cX7_isThere 8 = .ok (.goto 4, 3) := by decide +kernel
theorem dX7_isThere_11 : decode cX7_isThere 11 = .ok (.iconst 0, 1) := by decide +kernel
theorem dX7_isThere_12 : decode cX7_isThere 12 = .ok (.ireturn, 1) := by decide +kernel
theorem dX7_hasVillage_0 : decode cX7_hasVillage 0 = .ok (.iload_n 1, 1) := by decide +kernel
theorem dX7_hasVillage_1 : decode cX7_hasVillage 1 = .ok (.ifCond .lt 15, 3) := by decide +kernel
theorem dX7_hasVillage_4 : decode cX7_hasVillage 4 = .ok (.iload_n 1, 1) := by decide +kernel
theorem dX7_hasVillage_5 : decode cX7_hasVillage 5 = .ok (.aload_n 0, 1) := by decide +kernel
theorem dX7_hasVillage_6 : decode cX7_hasVillage 6 = .ok (.getfield 40, 3) := by decide +kernel
theorem dX7_hasVillage_9 : decode cX7_hasVillage 9 = .ok (.if_icmp .ge 7, 3) := by decide +kernel
theorem dX7_hasVillage_12 : decode cX7_hasVillage 12 = .ok (.iconst 1, 1) := by decide +kernel
theorem dX7_hasVillage_13 : decode cX7_hasVillage 13 = .ok (.goto 4, 3) := by decide +kernel
theorem dX7_hasVillage_16 : decode cX7_hasVillage 16 = .ok (.iconst 0, 1) := by decide +kernel
theorem dX7_hasVillage_17 : decode cX7_hasVillage 17 = .ok (.ireturn, 1) := by decide +kernel
theorem dX7_hasPerson_0 : decode cX7_hasPerson 0 = .ok (.iload_n 1, 1) := by decide +kernel
theorem dX7_hasPerson_1 : decode cX7_hasPerson 1 = .ok (.ifCond .lt 15, 3) := by decide +kernel
theorem dX7_hasPerson_4 : decode cX7_hasPerson 4 = .ok (.iload_n 1, 1) := by decide +kernel
theorem dX7_hasPerson_5 : decode cX7_hasPerson 5 = .ok (.aload_n 0, 1) := by decide +kernel
theorem dX7_hasPerson_6 : decode cX7_hasPerson 6 = .ok (.getfield 43, 3) := by decide +kernel
theorem dX7_hasPerson_9 : decode cX7_hasPerson 9 = .ok (.if_icmp .ge 7, 3) := by decide +kernel
theorem dX7_hasPerson_12 : decode cX7_hasPerson 12 = .ok (.iconst 1, 1) := by decide +kernel
theorem dX7_hasPerson_13 : decode cX7_hasPerson 13 = .ok (.goto 4, 3) := by decide +kernel
theorem dX7_hasPerson_16 : decode cX7_hasPerson 16 = .ok (.iconst 0, 1) := by decide +kernel
theorem dX7_hasPerson_17 : decode cX7_hasPerson 17 = .ok (.ireturn, 1) := by decide +kernel
theorem dX7_hasDebt_0 : decode cX7_hasDebt 0 = .ok (.iload_n 1, 1) := by decide +kernel
theorem dX7_hasDebt_1 : decode cX7_hasDebt 1 = .ok (.ifCond .lt 15, 3) := by decide +kernel
theorem dX7_hasDebt_4 : decode cX7_hasDebt 4 = .ok (.iload_n 1, 1) := by decide +kernel
theorem dX7_hasDebt_5 : decode cX7_hasDebt 5 = .ok (.aload_n 0, 1) := by decide +kernel
theorem dX7_hasDebt_6 : decode cX7_hasDebt 6 = .ok (.getfield 46, 3) := by decide +kernel
theorem dX7_hasDebt_9 : decode cX7_hasDebt 9 = .ok (.if_icmp .ge 7, 3) := by decide +kernel
theorem dX7_hasDebt_12 : decode cX7_hasDebt 12 = .ok (.iconst 1, 1) := by decide +kernel
theorem dX7_hasDebt_13 : decode cX7_hasDebt 13 = .ok (.goto 4, 3) := by decide +kernel
theorem dX7_hasDebt_16 : decode cX7_hasDebt 16 = .ok (.iconst 0, 1) := by decide +kernel
theorem dX7_hasDebt_17 : decode cX7_hasDebt 17 = .ok (.ireturn, 1) := by decide +kernel
theorem dX7_inchesOf_0 : decode cX7_inchesOf 0 = .ok (.aload_n 0, 1) := by decide +kernel
theorem dX7_inchesOf_1 : decode cX7_inchesOf 1 = .ok (.getfield 36, 3) := by decide +kernel
theorem dX7_inchesOf_4 : decode cX7_inchesOf 4 = .ok (.ifCond .le 21, 3) := by decide +kernel
theorem dX7_inchesOf_7 : decode cX7_inchesOf 7 = .ok (.iload_n 1, 1) := by decide +kernel
theorem dX7_inchesOf_8 : decode cX7_inchesOf 8 = .ok (.ifCond .lt 17, 3) := by decide +kernel
theorem dX7_inchesOf_11 : decode cX7_inchesOf 11 = .ok (.aload_n 0, 1) := by decide +kernel
theorem dX7_inchesOf_12 : decode cX7_inchesOf 12 = .ok (.getfield 9, 3) := by decide +kernel
theorem dX7_inchesOf_15 : decode cX7_inchesOf 15 = .ok (.iload_n 1, 1) := by decide +kernel
theorem dX7_inchesOf_16 : decode cX7_inchesOf 16 = .ok (.aload_n 0, 1) := by decide +kernel
theorem dX7_inchesOf_17 : decode cX7_inchesOf 17 = .ok (.getfield 36, 3) := by decide +kernel
theorem dX7_inchesOf_20 : decode cX7_inchesOf 20 = .ok (.irem, 1) := by decide +kernel
theorem dX7_inchesOf_21 : decode cX7_inchesOf 21 = .ok (.iaload, 1) := by decide +kernel
theorem dX7_inchesOf_22 : decode cX7_inchesOf 22 = .ok (.goto 4, 3) := by decide +kernel
theorem dX7_inchesOf_25 : decode cX7_inchesOf 25 = .ok (.iconst 0, 1) := by decide +kernel
theorem dX7_inchesOf_26 : decode cX7_inchesOf 26 = .ok (.ireturn, 1) := by decide +kernel
theorem dX7_depth_0 : decode cX7_depth 0 = .ok (.iconst 0, 1) := by decide +kernel
theorem dX7_depth_1 : decode cX7_depth 1 = .ok (.iload_n 2, 1) := by decide +kernel
theorem dX7_depth_2 : decode cX7_depth 2 = .ok (.aload_n 0, 1) := by decide +kernel
theorem dX7_depth_3 : decode cX7_depth 3 = .ok (.getfield 15, 3) := by decide +kernel
theorem dX7_depth_6 : decode cX7_depth 6 = .ok (.iload_n 1, 1) := by decide +kernel
theorem dX7_depth_7 : decode cX7_depth 7 = .ok (.iaload, 1) := by decide +kernel
theorem dX7_depth_8 : decode cX7_depth 8 = .ok (.isub, 1) := by decide +kernel
theorem dX7_depth_9 : decode cX7_depth 9 = .ok (.invokestatic 55, 3) := by decide +kernel
theorem dX7_depth_12 : decode cX7_depth 12 = .ok (.ireturn, 1) := by decide +kernel
theorem dX7_isFall_0 : decode cX7_isFall 0 = .ok (.iload_n 2, 1) := by decide +kernel
theorem dX7_isFall_1 : decode cX7_isFall 1 = .ok (.aload_n 0, 1) := by decide +kernel
theorem dX7_isFall_2 : decode cX7_isFall 2 = .ok (.getfield 18, 3) := by decide +kernel
theorem dX7_isFall_5 : decode cX7_isFall 5 = .ok (.iload_n 1, 1) := by decide +kernel
theorem dX7_isFall_6 : decode cX7_isFall 6 = .ok (.iaload, 1) := by decide +kernel
theorem dX7_isFall_7 : decode cX7_isFall 7 = .ok (.if_icmp .lt 7, 3) := by decide +kernel
theorem dX7_isFall_10 : decode cX7_isFall 10 = .ok (.iconst 1, 1) := by decide +kernel
theorem dX7_isFall_11 : decode cX7_isFall 11 = .ok (.goto 4, 3) := by decide +kernel
theorem dX7_isFall_14 : decode cX7_isFall 14 = .ok (.iconst 0, 1) := by decide +kernel
theorem dX7_isFall_15 : decode cX7_isFall 15 = .ok (.ireturn, 1) := by decide +kernel
theorem dX7_years_0 : decode cX7_years 0 = .ok (.aload_n 0, 1) := by decide +kernel
theorem dX7_years_1 : decode cX7_years 1 = .ok (.getfield 21, 3) := by decide +kernel
theorem dX7_years_4 : decode cX7_years 4 = .ok (.iload_n 2, 1) := by decide +kernel
theorem dX7_years_5 : decode cX7_years 5 = .ok (.iaload, 1) := by decide +kernel
theorem dX7_years_6 : decode cX7_years 6 = .ok (.ifCond .le 14, 3) := by decide +kernel
theorem dX7_years_9 : decode cX7_years 9 = .ok (.iload_n 1, 1) := by decide +kernel
theorem dX7_years_10 : decode cX7_years 10 = .ok (.aload_n 0, 1) := by decide +kernel
theorem dX7_years_11 : decode cX7_years 11 = .ok (.getfield 21, 3) := by decide +kernel
theorem dX7_years_14 : decode cX7_years 14 = .ok (.iload_n 2, 1) := by decide +kernel
theorem dX7_years_15 : decode cX7_years 15 = .ok (.iaload, 1) := by decide +kernel
theorem dX7_years_16 : decode cX7_years 16 = .ok (.idiv, 1) := by decide +kernel
theorem dX7_years_17 : decode cX7_years 17 = .ok (.goto 4, 3) := by decide +kernel
theorem dX7_years_20 : decode cX7_years 20 = .ok (.iconst 0, 1) := by decide +kernel
theorem dX7_years_21 : decode cX7_years 21 = .ok (.ireturn, 1) := by decide +kernel
theorem dX7_fallOfYear_0 : decode cX7_fallOfYear 0 = .ok (.aload_n 0, 1) := by decide +kernel
theorem dX7_fallOfYear_1 : decode cX7_fallOfYear 1 = .ok (.getfield 21, 3) := by decide +kernel
theorem dX7_fallOfYear_4 : decode cX7_fallOfYear 4 = .ok (.iload_n 2, 1) := by decide +kernel
theorem dX7_fallOfYear_5 : decode cX7_fallOfYear 5 = .ok (.iaload, 1) := by decide +kernel
theorem dX7_fallOfYear_6 : decode cX7_fallOfYear 6 = .ok (.ifCond .le 14, 3) := by decide +kernel
theorem dX7_fallOfYear_9 : decode cX7_fallOfYear 9 = .ok (.iload_n 1, 1) := by decide +kernel
theorem dX7_fallOfYear_10 : decode cX7_fallOfYear 10 = .ok (.aload_n 0, 1) := by decide +kernel
theorem dX7_fallOfYear_11 : decode cX7_fallOfYear 11 = .ok (.getfield 21, 3) := by decide +kernel
theorem dX7_fallOfYear_14 : decode cX7_fallOfYear 14 = .ok (.iload_n 2, 1) := by decide +kernel
theorem dX7_fallOfYear_15 : decode cX7_fallOfYear 15 = .ok (.iaload, 1) := by decide +kernel
theorem dX7_fallOfYear_16 : decode cX7_fallOfYear 16 = .ok (.irem, 1) := by decide +kernel
theorem dX7_fallOfYear_17 : decode cX7_fallOfYear 17 = .ok (.goto 4, 3) := by decide +kernel
theorem dX7_fallOfYear_20 : decode cX7_fallOfYear 20 = .ok (.iconst 0, 1) := by decide +kernel
theorem dX7_fallOfYear_21 : decode cX7_fallOfYear 21 = .ok (.ireturn, 1) := by decide +kernel
set_option maxRecDepth 20000 in
theorem ggX7_greenNights_X7_isFallAnywhere : GoodIn wsX7_greenNights wsX7_isFallAnywhere := goodIn_r _ [7, 8, 9, 10, 11, 6, 12, 13, 14, 15, 16, 17, 18, 19, 20, 21, 22, 23, 24, 25] (by decide +kernel) (by decide +kernel)
set_option maxRecDepth 20000 in
theorem gX7_greenNights_X7_isFallAnywhere : GoodIn wsX7_greenNights (wsV RX7 61 RX7 yX7_isFallAnywhere wsX7_isFallAnywhere) := goodIn_app (goodIn_of _ (by decide +kernel)) ggX7_greenNights_X7_isFallAnywhere
theorem dX7_greenNights_0 : decode cX7_greenNights 0 = .ok (.iconst 0, 1) := by decide +kernel
theorem dX7_greenNights_1 : decode cX7_greenNights 1 = .ok (.istore_n 1, 1) := by decide +kernel
theorem dX7_greenNights_2 : decode cX7_greenNights 2 = .ok (.iconst 0, 1) := by decide +kernel
theorem dX7_greenNights_3 : decode cX7_greenNights 3 = .ok (.istore_n 2, 1) := by decide +kernel
theorem dX7_greenNights_4 : decode cX7_greenNights 4 = .ok (.iload_n 2, 1) := by decide +kernel
theorem dX7_greenNights_5 : decode cX7_greenNights 5 = .ok (.aload_n 0, 1) := by decide +kernel
theorem dX7_greenNights_6 : decode cX7_greenNights 6 = .ok (.getfield 36, 3) := by decide +kernel
theorem dX7_greenNights_9 : decode cX7_greenNights 9 = .ok (.if_icmp .ge 28, 3) := by decide +kernel
theorem dX7_greenNights_12 : decode cX7_greenNights 12 = .ok (.aload_n 0, 1) := by decide +kernel
theorem dX7_greenNights_13 : decode cX7_greenNights 13 = .ok (.aload_n 0, 1) := by decide +kernel
theorem dX7_greenNights_14 : decode cX7_greenNights 14 = .ok (.getfield 9, 3) := by decide +kernel
theorem dX7_greenNights_17 : decode cX7_greenNights 17 = .ok (.iload_n 2, 1) := by decide +kernel
theorem dX7_greenNights_18 : decode cX7_greenNights 18 = .ok (.iaload, 1) := by decide +kernel
theorem dX7_greenNights_19 : decode cX7_greenNights 19 = .ok (.invokevirtual 61, 3) := by decide +kernel
theorem dX7_greenNights_22 : decode cX7_greenNights 22 = .ok (.ifCond .ne 9, 3) := by decide +kernel
theorem dX7_greenNights_25 : decode cX7_greenNights 25 = .ok (.iload_n 1, 1) := by decide +kernel
theorem dX7_greenNights_26 : decode cX7_greenNights 26 = .ok (.iconst 1, 1) := by decide +kernel
theorem dX7_greenNights_27 : decode cX7_greenNights 27 = .ok (.iload_n 2, 1) := by decide +kernel
theorem dX7_greenNights_28 : decode cX7_greenNights 28 = .ok (.ishl, 1) := by decide +kernel
theorem dX7_greenNights_29 : decode cX7_greenNights 29 = .ok (.ior, 1) := by decide +kernel
theorem dX7_greenNights_30 : decode cX7_greenNights 30 = .ok (.istore_n 1, 1) := by decide +kernel
theorem dX7_greenNights_31 : decode cX7_greenNights 31 = .ok (.iinc 2 1, 3) := by decide +kernel
theorem dX7_greenNights_34 : decode cX7_greenNights 34 = .ok (.goto (-30), 3) := by decide +kernel
theorem dX7_greenNights_37 : decode cX7_greenNights 37 = .ok (.iload_n 1, 1) := by decide +kernel
theorem dX7_greenNights_38 : decode cX7_greenNights 38 = .ok (.ireturn, 1) := by decide +kernel
set_option maxRecDepth 20000 in
theorem ggX7_isFallAnywhere_X7_isFall : GoodIn wsX7_isFallAnywhere wsX7_isFall := goodIn_r _ [6, 7, 8, 9, 10, 11, 12, 13, 14, 15, 16, 17, 18, 19] (by decide +kernel) (by decide +kernel)
set_option maxRecDepth 20000 in
theorem gX7_isFallAnywhere_X7_isFall : GoodIn wsX7_isFallAnywhere (wsV RX7 65 RX7 yX7_isFall wsX7_isFall) := goodIn_app (goodIn_of _ (by decide +kernel)) ggX7_isFallAnywhere_X7_isFall
theorem dX7_isFallAnywhere_0 : decode cX7_isFallAnywhere 0 = .ok (.iconst 0, 1) := by decide +kernel
theorem dX7_isFallAnywhere_1 : decode cX7_isFallAnywhere 1 = .ok (.istore_n 2, 1) := by decide +kernel
theorem dX7_isFallAnywhere_2 : decode cX7_isFallAnywhere 2 = .ok (.iload_n 2, 1) := by decide +kernel
theorem dX7_isFallAnywhere_3 : decode cX7_isFallAnywhere 3 = .ok (.aload_n 0, 1) := by decide +kernel
theorem dX7_isFallAnywhere_4 : decode cX7_isFallAnywhere 4 = .ok (.getfield 40, 3) := by decide +kernel
theorem dX7_isFallAnywhere_7 : decode cX7_isFallAnywhere 7 = .ok (.if_icmp .ge 20, 3) := by decide +kernel
theorem dX7_isFallAnywhere_10 : decode cX7_isFallAnywhere 10 = .ok (.aload_n 0, 1) := by decide +kernel
theorem dX7_isFallAnywhere_11 : decode cX7_isFallAnywhere 11 = .ok (.iload_n 2, 1) := by decide +kernel
theorem dX7_isFallAnywhere_12 : decode cX7_isFallAnywhere 12 = .ok (.iload_n 1, 1) := by decide +kernel
theorem dX7_isFallAnywhere_13 : decode cX7_isFallAnywhere 13 = .ok (.invokevirtual 65, 3) := by decide +kernel
theorem dX7_isFallAnywhere_16 : decode cX7_isFallAnywhere 16 = .ok (.ifCond .eq 5, 3) := by decide +kernel
theorem dX7_isFallAnywhere_19 : decode cX7_isFallAnywhere 19 = .ok (.iconst 1, 1) := by decide +kernel
theorem dX7_isFallAnywhere_20 : decode cX7_isFallAnywhere 20 = .ok (.ireturn, 1) := by decide +kernel
theorem dX7_isFallAnywhere_21 : decode cX7_isFallAnywhere 21 = .ok (.iinc 2 1, 3) := by decide +kernel
theorem dX7_isFallAnywhere_24 : decode cX7_isFallAnywhere 24 = .ok (.goto (-22), 3) := by decide +kernel
theorem dX7_isFallAnywhere_27 : decode cX7_isFallAnywhere 27 = .ok (.iconst 0, 1) := by decide +kernel
theorem dX7_isFallAnywhere_28 : decode cX7_isFallAnywhere 28 = .ok (.ireturn, 1) := by decide +kernel
theorem dX7_addVillage_0 : decode cX7_addVillage 0 = .ok (.aload_n 0, 1) := by decide +kernel
theorem dX7_addVillage_1 : decode cX7_addVillage 1 = .ok (.getfield 40, 3) := by decide +kernel
theorem dX7_addVillage_4 : decode cX7_addVillage 4 = .ok (.iconst 4, 1) := by decide +kernel
theorem dX7_addVillage_5 : decode cX7_addVillage 5 = .ok (.if_icmp .ge 45, 3) := by decide +kernel
theorem dX7_addVillage_8 : decode cX7_addVillage 8 = .ok (.aload_n 0, 1) := by decide +kernel
theorem dX7_addVillage_9 : decode cX7_addVillage 9 = .ok (.getfield 15, 3) := by decide +kernel
theorem dX7_addVillage_12 : decode cX7_addVillage 12 = .ok (.aload_n 0, 1) := by decide +kernel
theorem dX7_addVillage_13 : decode cX7_addVillage 13 = .ok (.getfield 40, 3) := by decide +kernel
theorem dX7_addVillage_16 : decode cX7_addVillage 16 = .ok (.iload_n 1, 1) := by decide +kernel
theorem dX7_addVillage_17 : decode cX7_addVillage 17 = .ok (.iastore, 1) := by decide +kernel
theorem dX7_addVillage_18 : decode cX7_addVillage 18 = .ok (.aload_n 0, 1) := by decide +kernel
theorem dX7_addVillage_19 : decode cX7_addVillage 19 = .ok (.getfield 18, 3) := by decide +kernel
theorem dX7_addVillage_22 : decode cX7_addVillage 22 = .ok (.aload_n 0, 1) := by decide +kernel
theorem dX7_addVillage_23 : decode cX7_addVillage 23 = .ok (.getfield 40, 3) := by decide +kernel
theorem dX7_addVillage_26 : decode cX7_addVillage 26 = .ok (.iload_n 1, 1) := by decide +kernel
theorem dX7_addVillage_27 : decode cX7_addVillage 27 = .ok (.iload_n 2, 1) := by decide +kernel
theorem dX7_addVillage_28 : decode cX7_addVillage 28 = .ok (.iadd, 1) := by decide +kernel
theorem dX7_addVillage_29 : decode cX7_addVillage 29 = .ok (.iastore, 1) := by decide +kernel
theorem dX7_addVillage_30 : decode cX7_addVillage 30 = .ok (.aload_n 0, 1) := by decide +kernel
theorem dX7_addVillage_31 : decode cX7_addVillage 31 = .ok (.getfield 21, 3) := by decide +kernel
theorem dX7_addVillage_34 : decode cX7_addVillage 34 = .ok (.aload_n 0, 1) := by decide +kernel
theorem dX7_addVillage_35 : decode cX7_addVillage 35 = .ok (.getfield 40, 3) := by decide +kernel
theorem dX7_addVillage_38 : decode cX7_addVillage 38 = .ok (.iload_n 3, 1) := by decide +kernel
theorem dX7_addVillage_39 : decode cX7_addVillage 39 = .ok (.iastore, 1) := by decide +kernel
theorem dX7_addVillage_40 : decode cX7_addVillage 40 = .ok (.aload_n 0, 1) := by decide +kernel
theorem dX7_addVillage_41 : decode cX7_addVillage 41 = .ok (.dup, 1) := by decide +kernel
theorem dX7_addVillage_42 : decode cX7_addVillage 42 = .ok (.getfield 40, 3) := by decide +kernel
theorem dX7_addVillage_45 : decode cX7_addVillage 45 = .ok (.iconst 1, 1) := by decide +kernel
theorem dX7_addVillage_46 : decode cX7_addVillage 46 = .ok (.iadd, 1) := by decide +kernel
theorem dX7_addVillage_47 : decode cX7_addVillage 47 = .ok (.putfield 40, 3) := by decide +kernel
theorem dX7_addVillage_50 : decode cX7_addVillage 50 = .ok (.return_, 1) := by decide +kernel
theorem dX7_addPerson_0 : decode cX7_addPerson 0 = .ok (.aload_n 0, 1) := by decide +kernel
theorem dX7_addPerson_1 : decode cX7_addPerson 1 = .ok (.getfield 43, 3) := by decide +kernel
theorem dX7_addPerson_4 : decode cX7_addPerson 4 = .ok (.bipush 6, 2) := by decide +kernel
theorem dX7_addPerson_6 : decode cX7_addPerson 6 = .ok (.if_icmp .ge 33, 3) := by decide +kernel
theorem dX7_addPerson_9 : decode cX7_addPerson 9 = .ok (.aload_n 0, 1) := by decide +kernel
theorem dX7_addPerson_10 : decode cX7_addPerson 10 = .ok (.getfield 24, 3) := by decide +kernel
theorem dX7_addPerson_13 : decode cX7_addPerson 13 = .ok (.aload_n 0, 1) := by decide +kernel
theorem dX7_addPerson_14 : decode cX7_addPerson 14 = .ok (.getfield 43, 3) := by decide +kernel
theorem dX7_addPerson_17 : decode cX7_addPerson 17 = .ok (.iload_n 1, 1) := by decide +kernel
theorem dX7_addPerson_18 : decode cX7_addPerson 18 = .ok (.iastore, 1) := by decide +kernel
theorem dX7_addPerson_19 : decode cX7_addPerson 19 = .ok (.aload_n 0, 1) := by decide +kernel
theorem dX7_addPerson_20 : decode cX7_addPerson 20 = .ok (.getfield 27, 3) := by decide +kernel
theorem dX7_addPerson_23 : decode cX7_addPerson 23 = .ok (.aload_n 0, 1) := by decide +kernel
theorem dX7_addPerson_24 : decode cX7_addPerson 24 = .ok (.getfield 43, 3) := by decide +kernel
theorem dX7_addPerson_27 : decode cX7_addPerson 27 = .ok (.iload_n 2, 1) := by decide +kernel
theorem dX7_addPerson_28 : decode cX7_addPerson 28 = .ok (.iastore, 1) := by decide +kernel
theorem dX7_addPerson_29 : decode cX7_addPerson 29 = .ok (.aload_n 0, 1) := by decide +kernel
theorem dX7_addPerson_30 : decode cX7_addPerson 30 = .ok (.dup, 1) := by decide +kernel
theorem dX7_addPerson_31 : decode cX7_addPerson 31 = .ok (.getfield 43, 3) := by decide +kernel
theorem dX7_addPerson_34 : decode cX7_addPerson 34 = .ok (.iconst 1, 1) := by decide +kernel
theorem dX7_addPerson_35 : decode cX7_addPerson 35 = .ok (.iadd, 1) := by decide +kernel
theorem dX7_addPerson_36 : decode cX7_addPerson 36 = .ok (.putfield 43, 3) := by decide +kernel
theorem dX7_addPerson_39 : decode cX7_addPerson 39 = .ok (.return_, 1) := by decide +kernel
theorem dX7_addDebt_0 : decode cX7_addDebt 0 = .ok (.aload_n 0, 1) := by decide +kernel
theorem dX7_addDebt_1 : decode cX7_addDebt 1 = .ok (.getfield 46, 3) := by decide +kernel
theorem dX7_addDebt_4 : decode cX7_addDebt 4 = .ok (.iconst 5, 1) := by decide +kernel
theorem dX7_addDebt_5 : decode cX7_addDebt 5 = .ok (.if_icmp .ge 33, 3) := by decide +kernel
theorem dX7_addDebt_8 : decode cX7_addDebt 8 = .ok (.aload_n 0, 1) := by decide +kernel
theorem dX7_addDebt_9 : decode cX7_addDebt 9 = .ok (.getfield 30, 3) := by decide +kernel
theorem dX7_addDebt_12 : decode cX7_addDebt 12 = .ok (.aload_n 0, 1) := by decide +kernel
theorem dX7_addDebt_13 : decode cX7_addDebt 13 = .ok (.getfield 46, 3) := by decide +kernel
theorem dX7_addDebt_16 : decode cX7_addDebt 16 = .ok (.iload_n 1, 1) := by decide +kernel
theorem dX7_addDebt_17 : decode cX7_addDebt 17 = .ok (.iastore, 1) := by decide +kernel
