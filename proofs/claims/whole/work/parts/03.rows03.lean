theorem dX9_debt_76 : decode cX9_debt 76 = .ok (.aload_n 0, 1) := by decide +kernel
theorem dX9_debt_77 : decode cX9_debt 77 = .ok (.getfield 36, 3) := by decide +kernel
theorem dX9_debt_80 : decode cX9_debt 80 = .ok (.aload_n 0, 1) := by decide +kernel
theorem dX9_debt_81 : decode cX9_debt 81 = .ok (.getfield 29, 3) := by decide +kernel
theorem dX9_debt_84 : decode cX9_debt 84 = .ok (.iload_n 1, 1) := by decide +kernel
theorem dX9_debt_85 : decode cX9_debt 85 = .ok (.invokevirtual 209, 3) := by decide +kernel
theorem dX9_debt_88 : decode cX9_debt 88 = .ok (.ifCond .eq 7, 3) := by decide +kernel
theorem dX9_debt_91 : decode cX9_debt 91 = .ok (.iconst 1, 1) := by decide +kernel
theorem dX9_debt_92 : decode cX9_debt 92 = .ok (.goto 4, 3) := by decide +kernel
theorem dX9_debt_95 : decode cX9_debt 95 = .ok (.iconst 0, 1) := by decide +kernel
theorem dX9_debt_96 : decode cX9_debt 96 = .ok (.ireturn, 1) := by decide +kernel
theorem dX9_debt_97 : decode cX9_debt 97 = .ok (.ldc 90, 2) := by decide +kernel
theorem dX9_debt_99 : decode cX9_debt 99 = .ok (.ireturn, 1) := by decide +kernel
set_option maxRecDepth 20000 in
theorem ggX9_night_X9_refusedNights : GoodIn wsX9_night wsX9_refusedNights := goodIn_r _ [8, 9, 3, 10, 2, 11, 12, 13, 7, 14, 15, 16, 17, 18, 19, 20, 21, 22, 23, 24, 25, 26, 76, 77, 78, 79, 80, 81, 82, 83, 84, 85, 86, 87, 88, 89, 90, 91, 92, 93, 94, 95, 96, 97, 98, 99] (by decide +kernel) (by decide +kernel)
set_option maxRecDepth 20000 in
theorem gX9_night_X9_refusedNights : GoodIn wsX9_night (wsV RX9 213 RX9 yX9_refusedNights wsX9_refusedNights) := goodIn_app (goodIn_of _ (by decide +kernel)) ggX9_night_X9_refusedNights
set_option maxRecDepth 20000 in
theorem ggX9_night_X3_add : GoodIn wsX9_night wsX3_add := goodIn_r _ [31, 32, 33, 34, 35, 36, 37, 38, 39, 40, 41, 42, 43, 99, 100, 101, 102] (by decide +kernel) (by decide +kernel)
set_option maxRecDepth 20000 in
theorem gX9_night_X3_add : GoodIn wsX9_night (wsV RX9 216 RX3 yX3_add wsX3_add) := goodIn_app (goodIn_of _ (by decide +kernel)) ggX9_night_X3_add
set_option maxRecDepth 20000 in
theorem ggX9_night_X6_nights : GoodIn wsX9_night wsX6_nights := goodIn_r _ [25, 26, 99] (by decide +kernel) (by decide +kernel)
set_option maxRecDepth 20000 in
theorem gX9_night_X6_nights : GoodIn wsX9_night (wsV RX9 127 RX6 yX6_nights wsX6_nights) := goodIn_app (goodIn_of _ (by decide +kernel)) ggX9_night_X6_nights
set_option maxRecDepth 20000 in
theorem ggX9_night_X7_inchesOf : GoodIn wsX9_night wsX7_inchesOf := goodIn_r _ [47, 20, 48, 87, 88, 89, 90, 91, 92, 93, 94, 95, 96, 97, 98] (by decide +kernel) (by decide +kernel)
set_option maxRecDepth 20000 in
theorem gX9_night_X7_inchesOf : GoodIn wsX9_night (wsV RX9 147 RX7 yX7_inchesOf wsX7_inchesOf) := goodIn_app (goodIn_of _ (by decide +kernel)) ggX9_night_X7_inchesOf
set_option maxRecDepth 20000 in
theorem ggX9_night_X6_snow : GoodIn wsX9_night wsX6_snow := goodIn_r _ [52, 53, 26, 54, 55, 56, 18, 57, 58, 59, 60, 42, 61, 62, 63, 64, 65, 66, 67, 68, 69, 24, 70, 71, 72, 73, 74, 75, 87, 88, 89, 90, 91, 92, 93, 94, 95, 96, 97, 98, 99] (by decide +kernel) (by decide +kernel)
set_option maxRecDepth 20000 in
theorem gX9_night_X6_snow : GoodIn wsX9_night (wsV RX9 219 RX6 yX6_snow wsX6_snow) := goodIn_app (goodIn_of _ (by decide +kernel)) ggX9_night_X6_snow
theorem dX9_night_0 : decode cX9_night 0 = .ok (.aload_n 0, 1) := by decide +kernel
theorem dX9_night_1 : decode cX9_night 1 = .ok (.iload_n 1, 1) := by decide +kernel
theorem dX9_night_2 : decode cX9_night 2 = .ok (.invokevirtual 213, 3) := by decide +kernel
theorem dX9_night_5 : decode cX9_night 5 = .ok (.istore_n 2, 1) := by decide +kernel
theorem dX9_night_6 : decode cX9_night 6 = .ok (.iload_n 2, 1) := by decide +kernel
theorem dX9_night_7 : decode cX9_night 7 = .ok (.ifCond .eq 5, 3) := by decide +kernel
theorem dX9_night_10 : decode cX9_night 10 = .ok (.iload_n 2, 1) := by decide +kernel
theorem dX9_night_11 : decode cX9_night 11 = .ok (.ireturn, 1) := by decide +kernel
theorem dX9_night_12 : decode cX9_night 12 = .ok (.aload_n 0, 1) := by decide +kernel
theorem dX9_night_13 : decode cX9_night 13 = .ok (.getfield 43, 3) := by decide +kernel
theorem dX9_night_16 : decode cX9_night 16 = .ok (.aload_n 0, 1) := by decide +kernel
theorem dX9_night_17 : decode cX9_night 17 = .ok (.getfield 36, 3) := by decide +kernel
theorem dX9_night_20 : decode cX9_night 20 = .ok (.invokevirtual 216, 3) := by decide +kernel
theorem dX9_night_23 : decode cX9_night 23 = .ok (.iconst 0, 1) := by decide +kernel
theorem dX9_night_24 : decode cX9_night 24 = .ok (.istore_n 3, 1) := by decide +kernel
theorem dX9_night_25 : decode cX9_night 25 = .ok (.iload_n 3, 1) := by decide +kernel
theorem dX9_night_26 : decode cX9_night 26 = .ok (.iload_n 1, 1) := by decide +kernel
theorem dX9_night_27 : decode cX9_night 27 = .ok (.if_icmp .ge 34, 3) := by decide +kernel
theorem dX9_night_30 : decode cX9_night 30 = .ok (.aload_n 0, 1) := by decide +kernel
theorem dX9_night_31 : decode cX9_night 31 = .ok (.getfield 36, 3) := by decide +kernel
theorem dX9_night_34 : decode cX9_night 34 = .ok (.aload_n 0, 1) := by decide +kernel
theorem dX9_night_35 : decode cX9_night 35 = .ok (.getfield 29, 3) := by decide +kernel
theorem dX9_night_38 : decode cX9_night 38 = .ok (.aload_n 0, 1) := by decide +kernel
theorem dX9_night_39 : decode cX9_night 39 = .ok (.getfield 29, 3) := by decide +kernel
theorem dX9_night_42 : decode cX9_night 42 = .ok (.aload_n 0, 1) := by decide +kernel
theorem dX9_night_43 : decode cX9_night 43 = .ok (.getfield 36, 3) := by decide +kernel
theorem dX9_night_46 : decode cX9_night 46 = .ok (.invokevirtual 127, 3) := by decide +kernel
theorem dX9_night_49 : decode cX9_night 49 = .ok (.invokevirtual 147, 3) := by decide +kernel
theorem dX9_night_52 : decode cX9_night 52 = .ok (.invokevirtual 219, 3) := by decide +kernel
theorem dX9_night_55 : decode cX9_night 55 = .ok (.iinc 3 1, 3) := by decide +kernel
theorem dX9_night_58 : decode cX9_night 58 = .ok (.goto (-33), 3) := by decide +kernel
theorem dX9_night_61 : decode cX9_night 61 = .ok (.aload_n 0, 1) := by decide +kernel
theorem dX9_night_62 : decode cX9_night 62 = .ok (.getfield 36, 3) := by decide +kernel
theorem dX9_night_65 : decode cX9_night 65 = .ok (.invokevirtual 127, 3) := by decide +kernel
theorem dX9_night_68 : decode cX9_night 68 = .ok (.ireturn, 1) := by decide +kernel
set_option maxRecDepth 20000 in
theorem ggX9_move_X7_hasPerson : GoodIn wsX9_move wsX7_hasPerson := goodIn_r _ [9, 10, 67, 68, 69, 70, 71, 72, 73, 74, 75, 76, 77, 78] (by decide +kernel) (by decide +kernel)
set_option maxRecDepth 20000 in
theorem gX9_move_X7_hasPerson : GoodIn wsX9_move (wsV RX9 184 RX7 yX7_hasPerson wsX7_hasPerson) := goodIn_app (goodIn_of _ (by decide +kernel)) ggX9_move_X7_hasPerson
set_option maxRecDepth 20000 in
theorem ggX9_move_X7_hasVillage : GoodIn wsX9_move wsX7_hasVillage := goodIn_r _ [14, 15, 67, 68, 69, 70, 71, 72, 73, 74, 75, 76, 77, 78] (by decide +kernel) (by decide +kernel)
set_option maxRecDepth 20000 in
theorem gX9_move_X7_hasVillage : GoodIn wsX9_move (wsV RX9 151 RX7 yX7_hasVillage wsX7_hasVillage) := goodIn_app (goodIn_of _ (by decide +kernel)) ggX9_move_X7_hasVillage
set_option maxRecDepth 20000 in
theorem ggX9_move_X3_add : GoodIn wsX9_move wsX3_add := goodIn_r _ [20, 21, 22, 23, 24, 25, 26, 27, 28, 29, 30, 31, 32, 79, 80, 81, 82] (by decide +kernel) (by decide +kernel)
set_option maxRecDepth 20000 in
theorem gX9_move_X3_add : GoodIn wsX9_move (wsV RX9 216 RX3 yX3_add wsX3_add) := goodIn_app (goodIn_of _ (by decide +kernel)) ggX9_move_X3_add
set_option maxRecDepth 20000 in
theorem ggX9_move_X6_settle : GoodIn wsX9_move wsX6_settle := goodIn_r _ [37, 38, 79] (by decide +kernel) (by decide +kernel)
set_option maxRecDepth 20000 in
theorem gX9_move_X6_settle : GoodIn wsX9_move (wsV RX9 223 RX6 yX6_settle wsX6_settle) := goodIn_app (goodIn_of _ (by decide +kernel)) ggX9_move_X6_settle
set_option maxRecDepth 20000 in
theorem ggX9_move_X6_age : GoodIn wsX9_move wsX6_age := goodIn_r _ [42, 43, 44, 45, 36, 46, 38, 47, 48, 49, 50, 51, 52, 53, 8, 54, 55, 79, 67, 68, 69, 70, 71, 72, 73, 74, 75, 76, 77, 78] (by decide +kernel) (by decide +kernel)
set_option maxRecDepth 20000 in
theorem gX9_move_X6_age : GoodIn wsX9_move (wsV RX9 193 RX6 yX6_age wsX6_age) := goodIn_app (goodIn_of _ (by decide +kernel)) ggX9_move_X6_age
theorem dX9_move_0 : decode cX9_move 0 = .ok (.aload_n 0, 1) := by decide +kernel
theorem dX9_move_1 : decode cX9_move 1 = .ok (.getfield 29, 3) := by decide +kernel
theorem dX9_move_4 : decode cX9_move 4 = .ok (.iload_n 1, 1) := by decide +kernel
theorem dX9_move_5 : decode cX9_move 5 = .ok (.invokevirtual 184, 3) := by decide +kernel
theorem dX9_move_8 : decode cX9_move 8 = .ok (.ifCond .eq 14, 3) := by decide +kernel
theorem dX9_move_11 : decode cX9_move 11 = .ok (.aload_n 0, 1) := by decide +kernel
theorem dX9_move_12 : decode cX9_move 12 = .ok (.getfield 29, 3) := by decide +kernel
theorem dX9_move_15 : decode cX9_move 15 = .ok (.iload_n 2, 1) := by decide +kernel
theorem dX9_move_16 : decode cX9_move 16 = .ok (.invokevirtual 151, 3) := by decide +kernel
theorem dX9_move_19 : decode cX9_move 19 = .ok (.ifCond .ne 6, 3) := by decide +kernel
theorem dX9_move_22 : decode cX9_move 22 = .ok (.ldc 155, 2) := by decide +kernel
theorem dX9_move_24 : decode cX9_move 24 = .ok (.ireturn, 1) := by decide +kernel
theorem dX9_move_25 : decode cX9_move 25 = .ok (.aload_n 0, 1) := by decide +kernel
theorem dX9_move_26 : decode cX9_move 26 = .ok (.getfield 43, 3) := by decide +kernel
theorem dX9_move_29 : decode cX9_move 29 = .ok (.aload_n 0, 1) := by decide +kernel
theorem dX9_move_30 : decode cX9_move 30 = .ok (.getfield 36, 3) := by decide +kernel
theorem dX9_move_33 : decode cX9_move 33 = .ok (.invokevirtual 216, 3) := by decide +kernel
theorem dX9_move_36 : decode cX9_move 36 = .ok (.aload_n 0, 1) := by decide +kernel
theorem dX9_move_37 : decode cX9_move 37 = .ok (.getfield 36, 3) := by decide +kernel
theorem dX9_move_40 : decode cX9_move 40 = .ok (.iload_n 1, 1) := by decide +kernel
theorem dX9_move_41 : decode cX9_move 41 = .ok (.iload_n 2, 1) := by decide +kernel
theorem dX9_move_42 : decode cX9_move 42 = .ok (.invokevirtual 223, 3) := by decide +kernel
theorem dX9_move_45 : decode cX9_move 45 = .ok (.aload_n 0, 1) := by decide +kernel
theorem dX9_move_46 : decode cX9_move 46 = .ok (.getfield 36, 3) := by decide +kernel
theorem dX9_move_49 : decode cX9_move 49 = .ok (.aload_n 0, 1) := by decide +kernel
theorem dX9_move_50 : decode cX9_move 50 = .ok (.getfield 29, 3) := by decide +kernel
theorem dX9_move_53 : decode cX9_move 53 = .ok (.iload_n 1, 1) := by decide +kernel
theorem dX9_move_54 : decode cX9_move 54 = .ok (.invokevirtual 193, 3) := by decide +kernel
theorem dX9_move_57 : decode cX9_move 57 = .ok (.ireturn, 1) := by decide +kernel
set_option maxRecDepth 20000 in
theorem ggX9_saw_X7_hasVillage : GoodIn wsX9_saw wsX7_hasVillage := goodIn_r _ [10, 11, 57, 58, 59, 60, 61, 62, 63, 64, 65, 66, 67, 68] (by decide +kernel) (by decide +kernel)
set_option maxRecDepth 20000 in
theorem gX9_saw_X7_hasVillage : GoodIn wsX9_saw (wsV RX9 151 RX7 yX7_hasVillage wsX7_hasVillage) := goodIn_app (goodIn_of _ (by decide +kernel)) ggX9_saw_X7_hasVillage
set_option maxRecDepth 20000 in
theorem ggX9_saw_X9_isOut : GoodIn wsX9_saw wsX9_isOut := goodIn_r _ [15] (by decide +kernel) (by decide +kernel)
set_option maxRecDepth 20000 in
theorem gX9_saw_X9_isOut : GoodIn wsX9_saw (va_wsS RX9 86 yX9_isOut wsX9_isOut) := goodIn_app (goodIn_of _ (by decide +kernel)) ggX9_saw_X9_isOut
set_option maxRecDepth 20000 in
theorem ggX9_saw_X3_add : GoodIn wsX9_saw wsX3_add := goodIn_r _ [20, 21, 22, 23, 24, 25, 26, 27, 28, 29, 30, 31, 32, 69, 70, 71, 72] (by decide +kernel) (by decide +kernel)
set_option maxRecDepth 20000 in
theorem gX9_saw_X3_add : GoodIn wsX9_saw (wsV RX9 216 RX3 yX3_add wsX3_add) := goodIn_app (goodIn_of _ (by decide +kernel)) ggX9_saw_X3_add
set_option maxRecDepth 20000 in
theorem ggX9_saw_X6_cutPole : GoodIn wsX9_saw wsX6_cutPole := goodIn_r _ [37, 38, 69] (by decide +kernel) (by decide +kernel)
set_option maxRecDepth 20000 in
theorem gX9_saw_X6_cutPole : GoodIn wsX9_saw (wsV RX9 227 RX6 yX6_cutPole wsX6_cutPole) := goodIn_app (goodIn_of _ (by decide +kernel)) ggX9_saw_X6_cutPole
set_option maxRecDepth 20000 in
theorem ggX9_saw_X6_pole : GoodIn wsX9_saw wsX6_pole := goodIn_r _ [42, 38, 43, 44, 31, 45, 69] (by decide +kernel) (by decide +kernel)
set_option maxRecDepth 20000 in
theorem gX9_saw_X6_pole : GoodIn wsX9_saw (wsV RX9 165 RX6 yX6_pole wsX6_pole) := goodIn_app (goodIn_of _ (by decide +kernel)) ggX9_saw_X6_pole
theorem dX9_saw_0 : decode cX9_saw 0 = .ok (.aload_n 0, 1) := by decide +kernel
theorem dX9_saw_1 : decode cX9_saw 1 = .ok (.getfield 29, 3) := by decide +kernel
theorem dX9_saw_4 : decode cX9_saw 4 = .ok (.iload_n 1, 1) := by decide +kernel
theorem dX9_saw_5 : decode cX9_saw 5 = .ok (.invokevirtual 151, 3) := by decide +kernel
theorem dX9_saw_8 : decode cX9_saw 8 = .ok (.ifCond .ne 6, 3) := by decide +kernel
theorem dX9_saw_11 : decode cX9_saw 11 = .ok (.ldc 155, 2) := by decide +kernel
theorem dX9_saw_13 : decode cX9_saw 13 = .ok (.ireturn, 1) := by decide +kernel
theorem dX9_saw_14 : decode cX9_saw 14 = .ok (.iload_n 2, 1) := by decide +kernel
theorem dX9_saw_15 : decode cX9_saw 15 = .ok (.iconst 1, 1) := by decide +kernel
theorem dX9_saw_16 : decode cX9_saw 16 = .ok (.bipush 99, 2) := by decide +kernel
theorem dX9_saw_18 : decode cX9_saw 18 = .ok (.invokestatic 86, 3) := by decide +kernel
theorem dX9_saw_21 : decode cX9_saw 21 = .ok (.ifCond .eq 6, 3) := by decide +kernel
theorem dX9_saw_24 : decode cX9_saw 24 = .ok (.ldc 90, 2) := by decide +kernel
theorem dX9_saw_26 : decode cX9_saw 26 = .ok (.ireturn, 1) := by decide +kernel
theorem dX9_saw_27 : decode cX9_saw 27 = .ok (.aload_n 0, 1) := by decide +kernel
theorem dX9_saw_28 : decode cX9_saw 28 = .ok (.getfield 43, 3) := by decide +kernel
theorem dX9_saw_31 : decode cX9_saw 31 = .ok (.aload_n 0, 1) := by decide +kernel
theorem dX9_saw_32 : decode cX9_saw 32 = .ok (.getfield 36, 3) := by decide +kernel
theorem dX9_saw_35 : decode cX9_saw 35 = .ok (.invokevirtual 216, 3) := by decide +kernel
theorem dX9_saw_38 : decode cX9_saw 38 = .ok (.aload_n 0, 1) := by decide +kernel
theorem dX9_saw_39 : decode cX9_saw 39 = .ok (.getfield 36, 3) := by decide +kernel
theorem dX9_saw_42 : decode cX9_saw 42 = .ok (.iload_n 1, 1) := by decide +kernel
theorem dX9_saw_43 : decode cX9_saw 43 = .ok (.iload_n 2, 1) := by decide +kernel
theorem dX9_saw_44 : decode cX9_saw 44 = .ok (.invokevirtual 227, 3) := by decide +kernel
theorem dX9_saw_47 : decode cX9_saw 47 = .ok (.aload_n 0, 1) := by decide +kernel
theorem dX9_saw_48 : decode cX9_saw 48 = .ok (.getfield 36, 3) := by decide +kernel
theorem dX9_saw_51 : decode cX9_saw 51 = .ok (.iload_n 1, 1) := by decide +kernel
theorem dX9_saw_52 : decode cX9_saw 52 = .ok (.invokevirtual 165, 3) := by decide +kernel
theorem dX9_saw_55 : decode cX9_saw 55 = .ok (.ireturn, 1) := by decide +kernel
set_option maxRecDepth 20000 in
theorem ggX9_pay_X7_hasDebt : GoodIn wsX9_pay wsX7_hasDebt := goodIn_r _ [10, 11, 71, 72, 73, 74, 75, 76, 77, 78, 79, 80, 81, 82] (by decide +kernel) (by decide +kernel)
set_option maxRecDepth 20000 in
theorem gX9_pay_X7_hasDebt : GoodIn wsX9_pay (wsV RX9 197 RX7 yX7_hasDebt wsX7_hasDebt) := goodIn_app (goodIn_of _ (by decide +kernel)) ggX9_pay_X7_hasDebt
set_option maxRecDepth 20000 in
theorem ggX9_pay_X6_isDue : GoodIn wsX9_pay wsX6_isDue := goodIn_r _ [16, 17, 18, 19, 15, 20, 21, 22, 23, 24, 25, 26, 27, 28, 29, 30, 31, 32, 33, 34, 35, 36, 37, 38, 83, 71, 72, 73, 74, 75, 76, 77, 78, 79, 80, 81, 82] (by decide +kernel) (by decide +kernel)
set_option maxRecDepth 20000 in
theorem gX9_pay_X6_isDue : GoodIn wsX9_pay (wsV RX9 209 RX6 yX6_isDue wsX6_isDue) := goodIn_app (goodIn_of _ (by decide +kernel)) ggX9_pay_X6_isDue
set_option maxRecDepth 20000 in
theorem ggX9_pay_X3_add : GoodIn wsX9_pay wsX3_add := goodIn_r _ [43, 44, 45, 46, 47, 48, 49, 50, 51, 52, 53, 28, 54, 83, 84, 85, 86] (by decide +kernel) (by decide +kernel)
set_option maxRecDepth 20000 in
theorem gX9_pay_X3_add : GoodIn wsX9_pay (wsV RX9 216 RX3 yX3_add wsX3_add) := goodIn_app (goodIn_of _ (by decide +kernel)) ggX9_pay_X3_add
set_option maxRecDepth 20000 in
theorem ggX9_pay_X6_fellSinceMade : GoodIn wsX9_pay wsX6_fellSinceMade := goodIn_r _ [33, 34, 21, 17, 18, 19, 15, 20, 35, 36, 37, 38, 71, 72, 73, 74, 75, 76, 77, 78, 79, 80, 81, 82, 83] (by decide +kernel) (by decide +kernel)
set_option maxRecDepth 20000 in
theorem gX9_pay_X6_fellSinceMade : GoodIn wsX9_pay (wsV RX9 206 RX6 yX6_fellSinceMade wsX6_fellSinceMade) := goodIn_app (goodIn_of _ (by decide +kernel)) ggX9_pay_X6_fellSinceMade
set_option maxRecDepth 20000 in
theorem ggX9_pay_X6_clearDebt : GoodIn wsX9_pay wsX6_clearDebt := goodIn_r _ [59, 21, 83] (by decide +kernel) (by decide +kernel)
set_option maxRecDepth 20000 in
theorem gX9_pay_X6_clearDebt : GoodIn wsX9_pay (wsV RX9 230 RX6 yX6_clearDebt wsX6_clearDebt) := goodIn_app (goodIn_of _ (by decide +kernel)) ggX9_pay_X6_clearDebt
theorem dX9_pay_0 : decode cX9_pay 0 = .ok (.aload_n 0, 1) := by decide +kernel
theorem dX9_pay_1 : decode cX9_pay 1 = .ok (.getfield 29, 3) := by decide +kernel
theorem dX9_pay_4 : decode cX9_pay 4 = .ok (.iload_n 1, 1) := by decide +kernel
theorem dX9_pay_5 : decode cX9_pay 5 = .ok (.invokevirtual 197, 3) := by decide +kernel
theorem dX9_pay_8 : decode cX9_pay 8 = .ok (.ifCond .ne 6, 3) := by decide +kernel
theorem dX9_pay_11 : decode cX9_pay 11 = .ok (.ldc 155, 2) := by decide +kernel
theorem dX9_pay_13 : decode cX9_pay 13 = .ok (.ireturn, 1) := by decide +kernel
theorem dX9_pay_14 : decode cX9_pay 14 = .ok (.aload_n 0, 1) := by decide +kernel
theorem dX9_pay_15 : decode cX9_pay 15 = .ok (.getfield 36, 3) := by decide +kernel
theorem dX9_pay_18 : decode cX9_pay 18 = .ok (.aload_n 0, 1) := by decide +kernel
theorem dX9_pay_19 : decode cX9_pay 19 = .ok (.getfield 29, 3) := by decide +kernel
theorem dX9_pay_22 : decode cX9_pay 22 = .ok (.iload_n 1, 1) := by decide +kernel
theorem dX9_pay_23 : decode cX9_pay 23 = .ok (.invokevirtual 209, 3) := by decide +kernel
theorem dX9_pay_26 : decode cX9_pay 26 = .ok (.ifCond .ne 6, 3) := by decide +kernel
theorem dX9_pay_29 : decode cX9_pay 29 = .ok (.ldc 150, 2) := by decide +kernel
theorem dX9_pay_31 : decode cX9_pay 31 = .ok (.ireturn, 1) := by decide +kernel
theorem dX9_pay_32 : decode cX9_pay 32 = .ok (.aload_n 0, 1) := by decide +kernel
theorem dX9_pay_33 : decode cX9_pay 33 = .ok (.getfield 43, 3) := by decide +kernel
theorem dX9_pay_36 : decode cX9_pay 36 = .ok (.aload_n 0, 1) := by decide +kernel
theorem dX9_pay_37 : decode cX9_pay 37 = .ok (.getfield 36, 3) := by decide +kernel
theorem dX9_pay_40 : decode cX9_pay 40 = .ok (.invokevirtual 216, 3) := by decide +kernel
theorem dX9_pay_43 : decode cX9_pay 43 = .ok (.aload_n 0, 1) := by decide +kernel
theorem dX9_pay_44 : decode cX9_pay 44 = .ok (.getfield 36, 3) := by decide +kernel
theorem dX9_pay_47 : decode cX9_pay 47 = .ok (.aload_n 0, 1) := by decide +kernel
theorem dX9_pay_48 : decode cX9_pay 48 = .ok (.getfield 29, 3) := by decide +kernel
theorem dX9_pay_51 : decode cX9_pay 51 = .ok (.iload_n 1, 1) := by decide +kernel
theorem dX9_pay_52 : decode cX9_pay 52 = .ok (.invokevirtual 206, 3) := by decide +kernel
theorem dX9_pay_55 : decode cX9_pay 55 = .ok (.istore_n 2, 1) := by decide +kernel
theorem dX9_pay_56 : decode cX9_pay 56 = .ok (.aload_n 0, 1) := by decide +kernel
theorem dX9_pay_57 : decode cX9_pay 57 = .ok (.getfield 36, 3) := by decide +kernel
theorem dX9_pay_60 : decode cX9_pay 60 = .ok (.iload_n 1, 1) := by decide +kernel
theorem dX9_pay_61 : decode cX9_pay 61 = .ok (.invokevirtual 230, 3) := by decide +kernel
theorem dX9_pay_64 : decode cX9_pay 64 = .ok (.iload_n 2, 1) := by decide +kernel
theorem dX9_pay_65 : decode cX9_pay 65 = .ok (.ireturn, 1) := by decide +kernel
set_option maxRecDepth 20000 in
theorem ggX9_lend_X7_hasDebt : GoodIn wsX9_lend wsX7_hasDebt := goodIn_r _ [11, 12, 66, 67, 68, 69, 70, 71, 72, 73, 74, 75, 76, 77] (by decide +kernel) (by decide +kernel)
set_option maxRecDepth 20000 in
theorem gX9_lend_X7_hasDebt : GoodIn wsX9_lend (wsV RX9 197 RX7 yX7_hasDebt wsX7_hasDebt) := goodIn_app (goodIn_of _ (by decide +kernel)) ggX9_lend_X7_hasDebt
set_option maxRecDepth 20000 in
theorem ggX9_lend_X9_isOut : GoodIn wsX9_lend wsX9_isOut := goodIn_r _ [16] (by decide +kernel) (by decide +kernel)
set_option maxRecDepth 20000 in
theorem gX9_lend_X9_isOut : GoodIn wsX9_lend (va_wsS RX9 86 yX9_isOut wsX9_isOut) := goodIn_app (goodIn_of _ (by decide +kernel)) ggX9_lend_X9_isOut
set_option maxRecDepth 20000 in
theorem ggX9_lend_X6_owed : GoodIn wsX9_lend wsX6_owed := goodIn_r _ [21, 22, 78] (by decide +kernel) (by decide +kernel)
set_option maxRecDepth 20000 in
theorem gX9_lend_X6_owed : GoodIn wsX9_lend (wsV RX9 203 RX6 yX6_owed wsX6_owed) := goodIn_app (goodIn_of _ (by decide +kernel)) ggX9_lend_X6_owed
set_option maxRecDepth 20000 in
theorem ggX9_lend_X3_add : GoodIn wsX9_lend wsX3_add := goodIn_r _ [27, 28, 29, 30, 31, 32, 33, 34, 35, 36, 37, 38, 39, 78, 79, 80, 81] (by decide +kernel) (by decide +kernel)
set_option maxRecDepth 20000 in
theorem gX9_lend_X3_add : GoodIn wsX9_lend (wsV RX9 216 RX3 yX3_add wsX3_add) := goodIn_app (goodIn_of _ (by decide +kernel)) ggX9_lend_X3_add
set_option maxRecDepth 20000 in
theorem ggX9_lend_X6_makeDebt : GoodIn wsX9_lend wsX6_makeDebt := goodIn_r _ [43, 22, 44, 45, 46, 47, 20, 48, 78, 66, 67, 68, 69, 70, 71, 72, 73, 74, 75, 76, 77] (by decide +kernel) (by decide +kernel)
set_option maxRecDepth 20000 in
theorem gX9_lend_X6_makeDebt : GoodIn wsX9_lend (wsV RX9 234 RX6 yX6_makeDebt wsX6_makeDebt) := goodIn_app (goodIn_of _ (by decide +kernel)) ggX9_lend_X6_makeDebt
set_option maxRecDepth 20000 in
theorem ggX9_lend_X6_openDebts : GoodIn wsX9_lend wsX6_openDebts := goodIn_r _ [52, 53, 54, 18, 19, 20, 21, 22, 66, 67, 68, 69, 70, 71, 72, 73, 74, 75, 76, 77, 78] (by decide +kernel) (by decide +kernel)
set_option maxRecDepth 20000 in
theorem gX9_lend_X6_openDebts : GoodIn wsX9_lend (wsV RX9 238 RX6 yX6_openDebts wsX6_openDebts) := goodIn_app (goodIn_of _ (by decide +kernel)) ggX9_lend_X6_openDebts
theorem dX9_lend_0 : decode cX9_lend 0 = .ok (.aload_n 0, 1) := by decide +kernel
theorem dX9_lend_1 : decode cX9_lend 1 = .ok (.getfield 29, 3) := by decide +kernel
theorem dX9_lend_4 : decode cX9_lend 4 = .ok (.iload_n 1, 1) := by decide +kernel
theorem dX9_lend_5 : decode cX9_lend 5 = .ok (.invokevirtual 197, 3) := by decide +kernel
theorem dX9_lend_8 : decode cX9_lend 8 = .ok (.ifCond .ne 6, 3) := by decide +kernel
theorem dX9_lend_11 : decode cX9_lend 11 = .ok (.ldc 155, 2) := by decide +kernel
theorem dX9_lend_13 : decode cX9_lend 13 = .ok (.ireturn, 1) := by decide +kernel
theorem dX9_lend_14 : decode cX9_lend 14 = .ok (.iload_n 2, 1) := by decide +kernel
theorem dX9_lend_15 : decode cX9_lend 15 = .ok (.iconst 1, 1) := by decide +kernel
theorem dX9_lend_16 : decode cX9_lend 16 = .ok (.sipush 999, 3) := by decide +kernel
theorem dX9_lend_19 : decode cX9_lend 19 = .ok (.invokestatic 86, 3) := by decide +kernel
theorem dX9_lend_22 : decode cX9_lend 22 = .ok (.ifCond .eq 6, 3) := by decide +kernel
theorem dX9_lend_25 : decode cX9_lend 25 = .ok (.ldc 90, 2) := by decide +kernel
theorem dX9_lend_27 : decode cX9_lend 27 = .ok (.ireturn, 1) := by decide +kernel
theorem dX9_lend_28 : decode cX9_lend 28 = .ok (.aload_n 0, 1) := by decide +kernel
theorem dX9_lend_29 : decode cX9_lend 29 = .ok (.getfield 36, 3) := by decide +kernel
theorem dX9_lend_32 : decode cX9_lend 32 = .ok (.iload_n 1, 1) := by decide +kernel
theorem dX9_lend_33 : decode cX9_lend 33 = .ok (.invokevirtual 203, 3) := by decide +kernel
theorem dX9_lend_36 : decode cX9_lend 36 = .ok (.ifCond .eq 6, 3) := by decide +kernel
theorem dX9_lend_39 : decode cX9_lend 39 = .ok (.ldc 150, 2) := by decide +kernel
theorem dX9_lend_41 : decode cX9_lend 41 = .ok (.ireturn, 1) := by decide +kernel
theorem dX9_lend_42 : decode cX9_lend 42 = .ok (.aload_n 0, 1) := by decide +kernel
theorem dX9_lend_43 : decode cX9_lend 43 = .ok (.getfield 43, 3) := by decide +kernel
theorem dX9_lend_46 : decode cX9_lend 46 = .ok (.aload_n 0, 1) := by decide +kernel
theorem dX9_lend_47 : decode cX9_lend 47 = .ok (.getfield 36, 3) := by decide +kernel
theorem dX9_lend_50 : decode cX9_lend 50 = .ok (.invokevirtual 216, 3) := by decide +kernel
theorem dX9_lend_53 : decode cX9_lend 53 = .ok (.aload_n 0, 1) := by decide +kernel
theorem dX9_lend_54 : decode cX9_lend 54 = .ok (.getfield 36, 3) := by decide +kernel
theorem dX9_lend_57 : decode cX9_lend 57 = .ok (.aload_n 0, 1) := by decide +kernel
theorem dX9_lend_58 : decode cX9_lend 58 = .ok (.getfield 29, 3) := by decide +kernel
theorem dX9_lend_61 : decode cX9_lend 61 = .ok (.iload_n 1, 1) := by decide +kernel
theorem dX9_lend_62 : decode cX9_lend 62 = .ok (.iload_n 2, 1) := by decide +kernel
theorem dX9_lend_63 : decode cX9_lend 63 = .ok (.invokevirtual 234, 3) := by decide +kernel
theorem dX9_lend_66 : decode cX9_lend 66 = .ok (.aload_n 0, 1) := by decide +kernel
theorem dX9_lend_67 : decode cX9_lend 67 = .ok (.getfield 36, 3) := by decide +kernel
theorem dX9_lend_70 : decode cX9_lend 70 = .ok (.aload_n 0, 1) := by decide +kernel
theorem dX9_lend_71 : decode cX9_lend 71 = .ok (.getfield 29, 3) := by decide +kernel
theorem dX9_lend_74 : decode cX9_lend 74 = .ok (.invokevirtual 238, 3) := by decide +kernel
theorem dX9_lend_77 : decode cX9_lend 77 = .ok (.ireturn, 1) := by decide +kernel
set_option maxRecDepth 20000 in
theorem ggX9_drift_X9_refusedNights : GoodIn wsX9_drift wsX9_refusedNights := goodIn_r _ [7, 8, 9, 10, 2, 11, 12, 13, 6, 14, 15, 16, 17, 18, 19, 20, 21, 22, 23, 24, 25, 26, 90, 91, 92, 93, 94, 95, 96, 97, 98, 99, 100, 101, 102, 103, 104, 105, 106, 107, 108, 109, 110, 111, 112, 113] (by decide +kernel) (by decide +kernel)
set_option maxRecDepth 20000 in
theorem gX9_drift_X9_refusedNights : GoodIn wsX9_drift (wsV RX9 213 RX9 yX9_refusedNights wsX9_refusedNights) := goodIn_app (goodIn_of _ (by decide +kernel)) ggX9_drift_X9_refusedNights
set_option maxRecDepth 20000 in
theorem ggX9_drift_X3_add : GoodIn wsX9_drift wsX3_add := goodIn_r _ [31, 32, 33, 34, 35, 36, 37, 38, 39, 40, 41, 42, 43, 113, 114, 115, 116] (by decide +kernel) (by decide +kernel)
set_option maxRecDepth 20000 in
theorem gX9_drift_X3_add : GoodIn wsX9_drift (wsV RX9 216 RX3 yX3_add wsX3_add) := goodIn_app (goodIn_of _ (by decide +kernel)) ggX9_drift_X3_add
set_option maxRecDepth 20000 in
theorem ggX9_drift_X9_driftOneNight : GoodIn wsX9_drift wsX9_driftOneNight := goodIn_r _ [47, 2, 9, 48, 49, 50, 51, 52, 53, 54, 55, 56, 57, 58, 59, 60, 61, 24, 62, 63, 26, 64, 65, 66, 18, 67, 68, 69, 70, 42, 71, 72, 73, 74, 75, 76, 77, 78, 79, 80, 81, 82, 83, 84, 85, 86, 87, 88, 89, 90, 91, 92, 93, 94, 95, 96, 97, 98, 99, 100, 101, 102, 103, 104, 105, 106, 107, 108, 109, 110, 111, 112, 117, 113] (by decide +kernel) (by decide +kernel)
set_option maxRecDepth 20000 in
theorem gX9_drift_X9_driftOneNight : GoodIn wsX9_drift (wsV RX9 241 RX9 yX9_driftOneNight wsX9_driftOneNight) := goodIn_app (goodIn_of _ (by decide +kernel)) ggX9_drift_X9_driftOneNight
set_option maxRecDepth 20000 in
theorem ggX9_drift_X6_nights : GoodIn wsX9_drift wsX6_nights := goodIn_r _ [25, 26, 113] (by decide +kernel) (by decide +kernel)
set_option maxRecDepth 20000 in
theorem gX9_drift_X6_nights : GoodIn wsX9_drift (wsV RX9 127 RX6 yX6_nights wsX6_nights) := goodIn_app (goodIn_of _ (by decide +kernel)) ggX9_drift_X6_nights
theorem dX9_drift_0 : decode cX9_drift 0 = .ok (.aload_n 0, 1) := by decide +kernel
theorem dX9_drift_1 : decode cX9_drift 1 = .ok (.iload_n 1, 1) := by decide +kernel
theorem dX9_drift_2 : decode cX9_drift 2 = .ok (.invokevirtual 213, 3) := by decide +kernel
theorem dX9_drift_5 : decode cX9_drift 5 = .ok (.istore_n 2, 1) := by decide +kernel
theorem dX9_drift_6 : decode cX9_drift 6 = .ok (.iload_n 2, 1) := by decide +kernel
theorem dX9_drift_7 : decode cX9_drift 7 = .ok (.ifCond .eq 5, 3) := by decide +kernel
theorem dX9_drift_10 : decode cX9_drift 10 = .ok (.iload_n 2, 1) := by decide +kernel
theorem dX9_drift_11 : decode cX9_drift 11 = .ok (.ireturn, 1) := by decide +kernel
theorem dX9_drift_12 : decode cX9_drift 12 = .ok (.aload_n 0, 1) := by decide +kernel
theorem dX9_drift_13 : decode cX9_drift 13 = .ok (.getfield 43, 3) := by decide +kernel
theorem dX9_drift_16 : decode cX9_drift 16 = .ok (.aload_n 0, 1) := by decide +kernel
theorem dX9_drift_17 : decode cX9_drift 17 = .ok (.getfield 36, 3) := by decide +kernel
theorem dX9_drift_20 : decode cX9_drift 20 = .ok (.invokevirtual 216, 3) := by decide +kernel
theorem dX9_drift_23 : decode cX9_drift 23 = .ok (.iconst 0, 1) := by decide +kernel
theorem dX9_drift_24 : decode cX9_drift 24 = .ok (.istore_n 3, 1) := by decide +kernel
theorem dX9_drift_25 : decode cX9_drift 25 = .ok (.iload_n 3, 1) := by decide +kernel
theorem dX9_drift_26 : decode cX9_drift 26 = .ok (.iload_n 1, 1) := by decide +kernel
theorem dX9_drift_27 : decode cX9_drift 27 = .ok (.if_icmp .ge 13, 3) := by decide +kernel
theorem dX9_drift_30 : decode cX9_drift 30 = .ok (.aload_n 0, 1) := by decide +kernel
theorem dX9_drift_31 : decode cX9_drift 31 = .ok (.invokevirtual 241, 3) := by decide +kernel
theorem dX9_drift_34 : decode cX9_drift 34 = .ok (.iinc 3 1, 3) := by decide +kernel
theorem dX9_drift_37 : decode cX9_drift 37 = .ok (.goto (-12), 3) := by decide +kernel
theorem dX9_drift_40 : decode cX9_drift 40 = .ok (.aload_n 0, 1) := by decide +kernel
theorem dX9_drift_41 : decode cX9_drift 41 = .ok (.getfield 36, 3) := by decide +kernel
theorem dX9_drift_44 : decode cX9_drift 44 = .ok (.invokevirtual 127, 3) := by decide +kernel
theorem dX9_drift_47 : decode cX9_drift 47 = .ok (.ireturn, 1) := by decide +kernel
set_option maxRecDepth 20000 in
theorem ggX9_undo_X3_takeLatest : GoodIn wsX9_undo wsX3_takeLatest := goodIn_r _ [9, 10, 11, 12, 13, 14, 15, 16, 17, 29, 30, 31, 32] (by decide +kernel) (by decide +kernel)
set_option maxRecDepth 20000 in
theorem gX9_undo_X3_takeLatest : GoodIn wsX9_undo (wsV RX9 244 RX3 yX3_takeLatest wsX3_takeLatest) := goodIn_app (goodIn_of _ (by decide +kernel)) ggX9_undo_X3_takeLatest
theorem dX9_undo_0 : decode cX9_undo 0 = .ok (.aload_n 0, 1) := by decide +kernel
theorem dX9_undo_1 : decode cX9_undo 1 = .ok (.getfield 43, 3) := by decide +kernel
theorem dX9_undo_4 : decode cX9_undo 4 = .ok (.getfield 142, 3) := by decide +kernel
theorem dX9_undo_7 : decode cX9_undo 7 = .ok (.ifCond .ne 6, 3) := by decide +kernel
theorem dX9_undo_10 : decode cX9_undo 10 = .ok (.ldc 150, 2) := by decide +kernel
theorem dX9_undo_12 : decode cX9_undo 12 = .ok (.ireturn, 1) := by decide +kernel
theorem dX9_undo_13 : decode cX9_undo 13 = .ok (.aload_n 0, 1) := by decide +kernel
theorem dX9_undo_14 : decode cX9_undo 14 = .ok (.getfield 43, 3) := by decide +kernel
theorem dX9_undo_17 : decode cX9_undo 17 = .ok (.aload_n 0, 1) := by decide +kernel
theorem dX9_undo_18 : decode cX9_undo 18 = .ok (.getfield 36, 3) := by decide +kernel
theorem dX9_undo_21 : decode cX9_undo 21 = .ok (.invokevirtual 244, 3) := by decide +kernel
theorem dX9_undo_24 : decode cX9_undo 24 = .ok (.aload_n 0, 1) := by decide +kernel
theorem dX9_undo_25 : decode cX9_undo 25 = .ok (.getfield 43, 3) := by decide +kernel
theorem dX9_undo_28 : decode cX9_undo 28 = .ok (.getfield 142, 3) := by decide +kernel
theorem dX9_undo_31 : decode cX9_undo 31 = .ok (.ireturn, 1) := by decide +kernel
set_option maxRecDepth 20000 in
theorem ggX9_due_X7_hasDebt : GoodIn wsX9_due wsX7_hasDebt := goodIn_r _ [10, 11, 76, 77, 78, 79, 80, 81, 82, 83, 84, 85, 86, 87] (by decide +kernel) (by decide +kernel)
set_option maxRecDepth 20000 in
theorem gX9_due_X7_hasDebt : GoodIn wsX9_due (wsV RX9 197 RX7 yX7_hasDebt wsX7_hasDebt) := goodIn_app (goodIn_of _ (by decide +kernel)) ggX9_due_X7_hasDebt
set_option maxRecDepth 20000 in
theorem ggX9_due_X6_owed : GoodIn wsX9_due wsX6_owed := goodIn_r _ [16, 17, 88] (by decide +kernel) (by decide +kernel)
set_option maxRecDepth 20000 in
theorem gX9_due_X6_owed : GoodIn wsX9_due (wsV RX9 203 RX6 yX6_owed wsX6_owed) := goodIn_app (goodIn_of _ (by decide +kernel)) ggX9_due_X6_owed
set_option maxRecDepth 20000 in
theorem ggX9_due_X8_nightsTillDue : GoodIn wsX9_due wsX8_nightsTillDue := goodIn_r _ [22, 23, 24, 25, 26, 27, 28, 15, 29, 30, 31, 32, 33, 34, 13, 14, 16, 17, 35, 36, 37, 38, 39, 40, 41, 42, 43, 44, 45, 46, 21, 47, 48, 49, 50, 51, 52, 53, 54, 55, 9, 56, 57, 58, 59, 60, 61, 62, 63, 64, 89, 90, 91, 92, 76, 77, 78, 79, 80, 81, 82, 83, 84, 85, 86, 87, 88] (by decide +kernel) (by decide +kernel)
set_option maxRecDepth 20000 in
theorem gX9_due_X8_nightsTillDue : GoodIn wsX9_due (wsV RX9 247 RX8 yX8_nightsTillDue wsX8_nightsTillDue) := goodIn_app (goodIn_of _ (by decide +kernel)) ggX9_due_X8_nightsTillDue
theorem dX9_due_0 : decode cX9_due 0 = .ok (.aload_n 0, 1) := by decide +kernel
theorem dX9_due_1 : decode cX9_due 1 = .ok (.getfield 29, 3) := by decide +kernel
theorem dX9_due_4 : decode cX9_due 4 = .ok (.iload_n 1, 1) := by decide +kernel
theorem dX9_due_5 : decode cX9_due 5 = .ok (.invokevirtual 197, 3) := by decide +kernel
theorem dX9_due_8 : decode cX9_due 8 = .ok (.ifCond .ne 6, 3) := by decide +kernel
theorem dX9_due_11 : decode cX9_due 11 = .ok (.ldc 155, 2) := by decide +kernel
theorem dX9_due_13 : decode cX9_due 13 = .ok (.ireturn, 1) := by decide +kernel
theorem dX9_due_14 : decode cX9_due 14 = .ok (.aload_n 0, 1) := by decide +kernel
theorem dX9_due_15 : decode cX9_due 15 = .ok (.getfield 36, 3) := by decide +kernel
theorem dX9_due_18 : decode cX9_due 18 = .ok (.iload_n 1, 1) := by decide +kernel
theorem dX9_due_19 : decode cX9_due 19 = .ok (.invokevirtual 203, 3) := by decide +kernel
theorem dX9_due_22 : decode cX9_due 22 = .ok (.ifCond .ne 8, 3) := by decide +kernel
theorem dX9_due_25 : decode cX9_due 25 = .ok (.ldc 150, 2) := by decide +kernel
theorem dX9_due_27 : decode cX9_due 27 = .ok (.goto 11, 3) := by decide +kernel
theorem dX9_due_30 : decode cX9_due 30 = .ok (.aload_n 0, 1) := by decide +kernel
theorem dX9_due_31 : decode cX9_due 31 = .ok (.getfield 66, 3) := by decide +kernel
theorem dX9_due_34 : decode cX9_due 34 = .ok (.iload_n 1, 1) := by decide +kernel
theorem dX9_due_35 : decode cX9_due 35 = .ok (.invokevirtual 247, 3) := by decide +kernel
theorem dX9_due_38 : decode cX9_due 38 = .ok (.ireturn, 1) := by decide +kernel
set_option maxRecDepth 20000 in
theorem ggX9_old_X7_hasPerson : GoodIn wsX9_old wsX7_hasPerson := goodIn_r _ [9, 10, 71, 72, 73, 74, 75, 76, 77, 78, 79, 80, 81, 82] (by decide +kernel) (by decide +kernel)
set_option maxRecDepth 20000 in
theorem gX9_old_X7_hasPerson : GoodIn wsX9_old (wsV RX9 184 RX7 yX7_hasPerson wsX7_hasPerson) := goodIn_app (goodIn_of _ (by decide +kernel)) ggX9_old_X7_hasPerson
set_option maxRecDepth 20000 in
theorem ggX9_old_X9_isOut : GoodIn wsX9_old wsX9_isOut := goodIn_r _ [14] (by decide +kernel) (by decide +kernel)
set_option maxRecDepth 20000 in
theorem gX9_old_X9_isOut : GoodIn wsX9_old (va_wsS RX9 86 yX9_isOut wsX9_isOut) := goodIn_app (goodIn_of _ (by decide +kernel)) ggX9_old_X9_isOut
set_option maxRecDepth 20000 in
theorem ggX9_old_X8_ageBehind : GoodIn wsX9_old wsX8_ageBehind := goodIn_r _ [19, 20, 21, 22, 23, 24, 25, 26, 27, 28, 29, 30, 31, 32, 33, 34, 18, 35, 36, 37, 38, 39, 40, 41, 42, 43, 44, 45, 46, 8, 47, 48, 49, 50, 51, 52, 53, 54, 55, 56, 57, 58, 59, 83, 84, 85, 86, 87, 71, 72, 73, 74, 75, 76, 77, 78, 79, 80, 81, 82] (by decide +kernel) (by decide +kernel)
set_option maxRecDepth 20000 in
theorem gX9_old_X8_ageBehind : GoodIn wsX9_old (wsV RX9 250 RX8 yX8_ageBehind wsX8_ageBehind) := goodIn_app (goodIn_of _ (by decide +kernel)) ggX9_old_X8_ageBehind
theorem dX9_old_0 : decode cX9_old 0 = .ok (.aload_n 0, 1) := by decide +kernel
theorem dX9_old_1 : decode cX9_old 1 = .ok (.getfield 29, 3) := by decide +kernel
theorem dX9_old_4 : decode cX9_old 4 = .ok (.iload_n 1, 1) := by decide +kernel
theorem dX9_old_5 : decode cX9_old 5 = .ok (.invokevirtual 184, 3) := by decide +kernel
theorem dX9_old_8 : decode cX9_old 8 = .ok (.ifCond .ne 6, 3) := by decide +kernel
theorem dX9_old_11 : decode cX9_old 11 = .ok (.ldc 155, 2) := by decide +kernel
theorem dX9_old_13 : decode cX9_old 13 = .ok (.ireturn, 1) := by decide +kernel
theorem dX9_old_14 : decode cX9_old 14 = .ok (.iload_n 2, 1) := by decide +kernel
theorem dX9_old_15 : decode cX9_old 15 = .ok (.iconst 0, 1) := by decide +kernel
theorem dX9_old_16 : decode cX9_old 16 = .ok (.sipush 200, 3) := by decide +kernel
theorem dX9_old_19 : decode cX9_old 19 = .ok (.invokestatic 86, 3) := by decide +kernel
theorem dX9_old_22 : decode cX9_old 22 = .ok (.ifCond .eq 8, 3) := by decide +kernel
theorem dX9_old_25 : decode cX9_old 25 = .ok (.ldc 90, 2) := by decide +kernel
theorem dX9_old_27 : decode cX9_old 27 = .ok (.goto 13, 3) := by decide +kernel
theorem dX9_old_30 : decode cX9_old 30 = .ok (.aload_n 0, 1) := by decide +kernel
theorem dX9_old_31 : decode cX9_old 31 = .ok (.getfield 66, 3) := by decide +kernel
theorem dX9_old_34 : decode cX9_old 34 = .ok (.iload_n 1, 1) := by decide +kernel
theorem dX9_old_35 : decode cX9_old 35 = .ok (.iload_n 2, 1) := by decide +kernel
theorem dX9_old_36 : decode cX9_old 36 = .ok (.iconst 0, 1) := by decide +kernel
theorem dX9_old_37 : decode cX9_old 37 = .ok (.invokevirtual 250, 3) := by decide +kernel
theorem dX9_old_40 : decode cX9_old 40 = .ok (.ireturn, 1) := by decide +kernel
set_option maxRecDepth 20000 in
theorem ggX9_feast_X7_hasVillage : GoodIn wsX9_feast wsX7_hasVillage := goodIn_r _ [8, 9, 71, 72, 73, 74, 75, 76, 77, 78, 79, 80, 81, 82] (by decide +kernel) (by decide +kernel)
set_option maxRecDepth 20000 in
theorem gX9_feast_X7_hasVillage : GoodIn wsX9_feast (wsV RX9 151 RX7 yX7_hasVillage wsX7_hasVillage) := goodIn_app (goodIn_of _ (by decide +kernel)) ggX9_feast_X7_hasVillage
set_option maxRecDepth 20000 in
theorem ggX9_feast_X8_nightsTillFeast : GoodIn wsX9_feast wsX8_nightsTillFeast := goodIn_r _ [14, 15, 16, 17, 18, 19, 20, 21, 22, 23, 24, 25, 26, 27, 28, 29, 30, 31, 32, 33, 7, 34, 35, 36, 37, 38, 13, 39, 40, 41, 42, 43, 44, 45, 46, 47, 48, 49, 50, 51, 52, 53, 54, 55, 56, 57, 58, 59, 83, 84, 85, 86, 87, 71, 72, 73, 74, 75, 76, 77, 78, 79, 80, 81, 82] (by decide +kernel) (by decide +kernel)
set_option maxRecDepth 20000 in
theorem gX9_feast_X8_nightsTillFeast : GoodIn wsX9_feast (wsV RX9 254 RX8 yX8_nightsTillFeast wsX8_nightsTillFeast) := goodIn_app (goodIn_of _ (by decide +kernel)) ggX9_feast_X8_nightsTillFeast
theorem dX9_feast_0 : decode cX9_feast 0 = .ok (.aload_n 0, 1) := by decide +kernel
theorem dX9_feast_1 : decode cX9_feast 1 = .ok (.getfield 29, 3) := by decide +kernel
theorem dX9_feast_4 : decode cX9_feast 4 = .ok (.iload_n 1, 1) := by decide +kernel
theorem dX9_feast_5 : decode cX9_feast 5 = .ok (.invokevirtual 151, 3) := by decide +kernel
theorem dX9_feast_8 : decode cX9_feast 8 = .ok (.ifCond .eq 19, 3) := by decide +kernel
theorem dX9_feast_11 : decode cX9_feast 11 = .ok (.aload_n 0, 1) := by decide +kernel
theorem dX9_feast_12 : decode cX9_feast 12 = .ok (.getfield 29, 3) := by decide +kernel
theorem dX9_feast_15 : decode cX9_feast 15 = .ok (.iload_n 2, 1) := by decide +kernel
theorem dX9_feast_16 : decode cX9_feast 16 = .ok (.invokevirtual 151, 3) := by decide +kernel
theorem dX9_feast_19 : decode cX9_feast 19 = .ok (.ifCond .eq 8, 3) := by decide +kernel
theorem dX9_feast_22 : decode cX9_feast 22 = .ok (.iload_n 1, 1) := by decide +kernel
theorem dX9_feast_23 : decode cX9_feast 23 = .ok (.iload_n 2, 1) := by decide +kernel
theorem dX9_feast_24 : decode cX9_feast 24 = .ok (.if_icmp .ne 6, 3) := by decide +kernel
theorem dX9_feast_27 : decode cX9_feast 27 = .ok (.ldc 155, 2) := by decide +kernel
theorem dX9_feast_29 : decode cX9_feast 29 = .ok (.ireturn, 1) := by decide +kernel
theorem dX9_feast_30 : decode cX9_feast 30 = .ok (.aload_n 0, 1) := by decide +kernel
theorem dX9_feast_31 : decode cX9_feast 31 = .ok (.getfield 66, 3) := by decide +kernel
theorem dX9_feast_34 : decode cX9_feast 34 = .ok (.iload_n 1, 1) := by decide +kernel
theorem dX9_feast_35 : decode cX9_feast 35 = .ok (.iload_n 2, 1) := by decide +kernel
theorem dX9_feast_36 : decode cX9_feast 36 = .ok (.invokevirtual 254, 3) := by decide +kernel
theorem dX9_feast_39 : decode cX9_feast 39 = .ok (.ireturn, 1) := by decide +kernel
set_option maxRecDepth 20000 in
theorem ggX9_mild_X7_hasPerson : GoodIn wsX9_mild wsX7_hasPerson := goodIn_r _ [9, 10, 71, 72, 73, 74, 75, 76, 77, 78, 79, 80, 81, 82] (by decide +kernel) (by decide +kernel)
set_option maxRecDepth 20000 in
theorem gX9_mild_X7_hasPerson : GoodIn wsX9_mild (wsV RX9 184 RX7 yX7_hasPerson wsX7_hasPerson) := goodIn_app (goodIn_of _ (by decide +kernel)) ggX9_mild_X7_hasPerson
set_option maxRecDepth 20000 in
theorem ggX9_mild_X9_isOut : GoodIn wsX9_mild wsX9_isOut := goodIn_r _ [14] (by decide +kernel) (by decide +kernel)
set_option maxRecDepth 20000 in
theorem gX9_mild_X9_isOut : GoodIn wsX9_mild (va_wsS RX9 86 yX9_isOut wsX9_isOut) := goodIn_app (goodIn_of _ (by decide +kernel)) ggX9_mild_X9_isOut
set_option maxRecDepth 20000 in
theorem ggX9_mild_X8_ageBehind : GoodIn wsX9_mild wsX8_ageBehind := goodIn_r _ [19, 20, 21, 22, 23, 24, 25, 26, 27, 28, 29, 30, 31, 32, 33, 34, 18, 35, 36, 37, 38, 39, 40, 41, 42, 43, 44, 45, 46, 8, 47, 48, 49, 50, 51, 52, 53, 54, 55, 56, 57, 58, 59, 83, 84, 85, 86, 87, 71, 72, 73, 74, 75, 76, 77, 78, 79, 80, 81, 82] (by decide +kernel) (by decide +kernel)
set_option maxRecDepth 20000 in
theorem gX9_mild_X8_ageBehind : GoodIn wsX9_mild (wsV RX9 250 RX8 yX8_ageBehind wsX8_ageBehind) := goodIn_app (goodIn_of _ (by decide +kernel)) ggX9_mild_X8_ageBehind
theorem dX9_mild_0 : decode cX9_mild 0 = .ok (.aload_n 0, 1) := by decide +kernel
theorem dX9_mild_1 : decode cX9_mild 1 = .ok (.getfield 29, 3) := by decide +kernel
theorem dX9_mild_4 : decode cX9_mild 4 = .ok (.iload_n 1, 1) := by decide +kernel
theorem dX9_mild_5 : decode cX9_mild 5 = .ok (.invokevirtual 184, 3) := by decide +kernel
theorem dX9_mild_8 : decode cX9_mild 8 = .ok (.ifCond .ne 6, 3) := by decide +kernel
theorem dX9_mild_11 : decode cX9_mild 11 = .ok (.ldc 155, 2) := by decide +kernel
theorem dX9_mild_13 : decode cX9_mild 13 = .ok (.ireturn, 1) := by decide +kernel
theorem dX9_mild_14 : decode cX9_mild 14 = .ok (.iload_n 2, 1) := by decide +kernel
theorem dX9_mild_15 : decode cX9_mild 15 = .ok (.iconst 0, 1) := by decide +kernel
theorem dX9_mild_16 : decode cX9_mild 16 = .ok (.bipush 40, 2) := by decide +kernel
theorem dX9_mild_18 : decode cX9_mild 18 = .ok (.invokestatic 86, 3) := by decide +kernel
theorem dX9_mild_21 : decode cX9_mild 21 = .ok (.ifCond .ne 14, 3) := by decide +kernel
theorem dX9_mild_24 : decode cX9_mild 24 = .ok (.iload_n 3, 1) := by decide +kernel
theorem dX9_mild_25 : decode cX9_mild 25 = .ok (.iconst 0, 1) := by decide +kernel
theorem dX9_mild_26 : decode cX9_mild 26 = .ok (.sipush 200, 3) := by decide +kernel
theorem dX9_mild_29 : decode cX9_mild 29 = .ok (.invokestatic 86, 3) := by decide +kernel
theorem dX9_mild_32 : decode cX9_mild 32 = .ok (.ifCond .eq 6, 3) := by decide +kernel
theorem dX9_mild_35 : decode cX9_mild 35 = .ok (.ldc 90, 2) := by decide +kernel
theorem dX9_mild_37 : decode cX9_mild 37 = .ok (.ireturn, 1) := by decide +kernel
theorem dX9_mild_38 : decode cX9_mild 38 = .ok (.aload_n 0, 1) := by decide +kernel
theorem dX9_mild_39 : decode cX9_mild 39 = .ok (.getfield 66, 3) := by decide +kernel
theorem dX9_mild_42 : decode cX9_mild 42 = .ok (.iload_n 1, 1) := by decide +kernel
theorem dX9_mild_43 : decode cX9_mild 43 = .ok (.iload_n 3, 1) := by decide +kernel
theorem dX9_mild_44 : decode cX9_mild 44 = .ok (.iconst 0, 1) := by decide +kernel
theorem dX9_mild_45 : decode cX9_mild 45 = .ok (.invokevirtual 250, 3) := by decide +kernel
theorem dX9_mild_48 : decode cX9_mild 48 = .ok (.aload_n 0, 1) := by decide +kernel
theorem dX9_mild_49 : decode cX9_mild 49 = .ok (.getfield 66, 3) := by decide +kernel
theorem dX9_mild_52 : decode cX9_mild 52 = .ok (.iload_n 1, 1) := by decide +kernel
theorem dX9_mild_53 : decode cX9_mild 53 = .ok (.iload_n 3, 1) := by decide +kernel
theorem dX9_mild_54 : decode cX9_mild 54 = .ok (.iload_n 2, 1) := by decide +kernel
theorem dX9_mild_55 : decode cX9_mild 55 = .ok (.invokevirtual 250, 3) := by decide +kernel
theorem dX9_mild_58 : decode cX9_mild 58 = .ok (.isub, 1) := by decide +kernel
theorem dX9_mild_59 : decode cX9_mild 59 = .ok (.ireturn, 1) := by decide +kernel
set_option maxRecDepth 20000 in
theorem ggX9_mildDebts_X9_isOut : GoodIn wsX9_mildDebts wsX9_isOut := goodIn_r _ [6] (by decide +kernel) (by decide +kernel)
set_option maxRecDepth 20000 in
theorem gX9_mildDebts_X9_isOut : GoodIn wsX9_mildDebts (va_wsS RX9 86 yX9_isOut wsX9_isOut) := goodIn_app (goodIn_of _ (by decide +kernel)) ggX9_mildDebts_X9_isOut
set_option maxRecDepth 20000 in
theorem ggX9_mildDebts_X8_debtsDueBehind : GoodIn wsX9_mildDebts wsX8_debtsDueBehind := goodIn_r _ [11, 12, 13, 14, 15, 16, 17, 18, 19, 20, 21, 22, 23, 10, 24, 25, 26, 27, 28, 29, 30, 31, 32, 33, 34, 35, 36, 37, 38, 39, 40, 41, 42, 43, 44, 45, 46, 47, 48, 49, 50, 51, 52, 53, 54, 55, 56, 57, 58, 59, 60, 61, 62, 63, 64, 65, 77, 78, 79, 80, 81, 82, 83, 84, 85, 86, 87, 88, 89, 90, 91, 92, 93] (by decide +kernel) (by decide +kernel)
set_option maxRecDepth 20000 in
theorem gX9_mildDebts_X8_debtsDueBehind : GoodIn wsX9_mildDebts (wsV RX9 257 RX8 yX8_debtsDueBehind wsX8_debtsDueBehind) := goodIn_app (goodIn_of _ (by decide +kernel)) ggX9_mildDebts_X8_debtsDueBehind
theorem dX9_mildDebts_0 : decode cX9_mildDebts 0 = .ok (.iload_n 1, 1) := by decide +kernel
theorem dX9_mildDebts_1 : decode cX9_mildDebts 1 = .ok (.iconst 0, 1) := by decide +kernel
theorem dX9_mildDebts_2 : decode cX9_mildDebts 2 = .ok (.bipush 40, 2) := by decide +kernel
theorem dX9_mildDebts_4 : decode cX9_mildDebts 4 = .ok (.invokestatic 86, 3) := by decide +kernel
theorem dX9_mildDebts_7 : decode cX9_mildDebts 7 = .ok (.ifCond .ne 14, 3) := by decide +kernel
theorem dX9_mildDebts_10 : decode cX9_mildDebts 10 = .ok (.iload_n 2, 1) := by decide +kernel
theorem dX9_mildDebts_11 : decode cX9_mildDebts 11 = .ok (.iconst 0, 1) := by decide +kernel
theorem dX9_mildDebts_12 : decode cX9_mildDebts 12 = .ok (.sipush 200, 3) := by decide +kernel
theorem dX9_mildDebts_15 : decode cX9_mildDebts 15 = .ok (.invokestatic 86, 3) := by decide +kernel
theorem dX9_mildDebts_18 : decode cX9_mildDebts 18 = .ok (.ifCond .eq 6, 3) := by decide +kernel
theorem dX9_mildDebts_21 : decode cX9_mildDebts 21 = .ok (.ldc 90, 2) := by decide +kernel
theorem dX9_mildDebts_23 : decode cX9_mildDebts 23 = .ok (.ireturn, 1) := by decide +kernel
theorem dX9_mildDebts_24 : decode cX9_mildDebts 24 = .ok (.aload_n 0, 1) := by decide +kernel
theorem dX9_mildDebts_25 : decode cX9_mildDebts 25 = .ok (.getfield 66, 3) := by decide +kernel
theorem dX9_mildDebts_28 : decode cX9_mildDebts 28 = .ok (.iload_n 2, 1) := by decide +kernel
theorem dX9_mildDebts_29 : decode cX9_mildDebts 29 = .ok (.iconst 0, 1) := by decide +kernel
theorem dX9_mildDebts_30 : decode cX9_mildDebts 30 = .ok (.invokevirtual 257, 3) := by decide +kernel
theorem dX9_mildDebts_33 : decode cX9_mildDebts 33 = .ok (.aload_n 0, 1) := by decide +kernel
theorem dX9_mildDebts_34 : decode cX9_mildDebts 34 = .ok (.getfield 66, 3) := by decide +kernel
theorem dX9_mildDebts_37 : decode cX9_mildDebts 37 = .ok (.iload_n 2, 1) := by decide +kernel
theorem dX9_mildDebts_38 : decode cX9_mildDebts 38 = .ok (.iload_n 1, 1) := by decide +kernel
theorem dX9_mildDebts_39 : decode cX9_mildDebts 39 = .ok (.invokevirtual 257, 3) := by decide +kernel
theorem dX9_mildDebts_42 : decode cX9_mildDebts 42 = .ok (.iconst (-1), 1) := by decide +kernel
theorem dX9_mildDebts_43 : decode cX9_mildDebts 43 = .ok (.ixor, 1) := by decide +kernel
theorem dX9_mildDebts_44 : decode cX9_mildDebts 44 = .ok (.iand, 1) := by decide +kernel
theorem dX9_mildDebts_45 : decode cX9_mildDebts 45 = .ok (.ireturn, 1) := by decide +kernel
set_option maxRecDepth 20000 in
theorem ggX9_older_X7_hasPerson : GoodIn wsX9_older wsX7_hasPerson := goodIn_r _ [8, 9, 47, 48, 49, 50, 51, 52, 53, 54, 55, 56, 57, 58] (by decide +kernel) (by decide +kernel)
set_option maxRecDepth 20000 in
theorem gX9_older_X7_hasPerson : GoodIn wsX9_older (wsV RX9 184 RX7 yX7_hasPerson wsX7_hasPerson) := goodIn_app (goodIn_of _ (by decide +kernel)) ggX9_older_X7_hasPerson
set_option maxRecDepth 20000 in
theorem ggX9_older_X7_hasVillage : GoodIn wsX9_older wsX7_hasVillage := goodIn_r _ [13, 14, 47, 48, 49, 50, 51, 52, 53, 54, 55, 56, 57, 58] (by decide +kernel) (by decide +kernel)
set_option maxRecDepth 20000 in
theorem gX9_older_X7_hasVillage : GoodIn wsX9_older (wsV RX9 151 RX7 yX7_hasVillage wsX7_hasVillage) := goodIn_app (goodIn_of _ (by decide +kernel)) ggX9_older_X7_hasVillage
set_option maxRecDepth 20000 in
theorem ggX9_older_X6_lived : GoodIn wsX9_older wsX6_lived := goodIn_r _ [19, 20, 59] (by decide +kernel) (by decide +kernel)
set_option maxRecDepth 20000 in
theorem gX9_older_X6_lived : GoodIn wsX9_older (wsV RX9 190 RX6 yX6_lived wsX6_lived) := goodIn_app (goodIn_of _ (by decide +kernel)) ggX9_older_X6_lived
set_option maxRecDepth 20000 in
theorem ggX9_older_X7_years : GoodIn wsX9_older wsX7_years := goodIn_r _ [24, 25, 47, 48, 49, 50, 51, 52, 53, 54, 55, 56, 57, 58] (by decide +kernel) (by decide +kernel)
set_option maxRecDepth 20000 in
theorem gX9_older_X7_years : GoodIn wsX9_older (wsV RX9 260 RX7 yX7_years wsX7_years) := goodIn_app (goodIn_of _ (by decide +kernel)) ggX9_older_X7_years
set_option maxRecDepth 20000 in
theorem ggX9_older_X6_age : GoodIn wsX9_older wsX6_age := goodIn_r _ [29, 30, 16, 17, 18, 19, 20, 31, 32, 33, 34, 35, 22, 23, 7, 24, 25, 59, 47, 48, 49, 50, 51, 52, 53, 54, 55, 56, 57, 58] (by decide +kernel) (by decide +kernel)
set_option maxRecDepth 20000 in
theorem gX9_older_X6_age : GoodIn wsX9_older (wsV RX9 193 RX6 yX6_age wsX6_age) := goodIn_app (goodIn_of _ (by decide +kernel)) ggX9_older_X6_age
theorem dX9_older_0 : decode cX9_older 0 = .ok (.aload_n 0, 1) := by decide +kernel
theorem dX9_older_1 : decode cX9_older 1 = .ok (.getfield 29, 3) := by decide +kernel
theorem dX9_older_4 : decode cX9_older 4 = .ok (.iload_n 1, 1) := by decide +kernel
theorem dX9_older_5 : decode cX9_older 5 = .ok (.invokevirtual 184, 3) := by decide +kernel
theorem dX9_older_8 : decode cX9_older 8 = .ok (.ifCond .eq 14, 3) := by decide +kernel
theorem dX9_older_11 : decode cX9_older 11 = .ok (.aload_n 0, 1) := by decide +kernel
theorem dX9_older_12 : decode cX9_older 12 = .ok (.getfield 29, 3) := by decide +kernel
theorem dX9_older_15 : decode cX9_older 15 = .ok (.iload_n 2, 1) := by decide +kernel
theorem dX9_older_16 : decode cX9_older 16 = .ok (.invokevirtual 151, 3) := by decide +kernel
theorem dX9_older_19 : decode cX9_older 19 = .ok (.ifCond .ne 6, 3) := by decide +kernel
theorem dX9_older_22 : decode cX9_older 22 = .ok (.ldc 155, 2) := by decide +kernel
theorem dX9_older_24 : decode cX9_older 24 = .ok (.ireturn, 1) := by decide +kernel
theorem dX9_older_25 : decode cX9_older 25 = .ok (.aload_n 0, 1) := by decide +kernel
theorem dX9_older_26 : decode cX9_older 26 = .ok (.getfield 29, 3) := by decide +kernel
theorem dX9_older_29 : decode cX9_older 29 = .ok (.aload_n 0, 1) := by decide +kernel
theorem dX9_older_30 : decode cX9_older 30 = .ok (.getfield 36, 3) := by decide +kernel
theorem dX9_older_33 : decode cX9_older 33 = .ok (.iload_n 1, 1) := by decide +kernel
theorem dX9_older_34 : decode cX9_older 34 = .ok (.invokevirtual 190, 3) := by decide +kernel
theorem dX9_older_37 : decode cX9_older 37 = .ok (.iload_n 2, 1) := by decide +kernel
theorem dX9_older_38 : decode cX9_older 38 = .ok (.invokevirtual 260, 3) := by decide +kernel
theorem dX9_older_41 : decode cX9_older 41 = .ok (.aload_n 0, 1) := by decide +kernel
theorem dX9_older_42 : decode cX9_older 42 = .ok (.getfield 36, 3) := by decide +kernel
theorem dX9_older_45 : decode cX9_older 45 = .ok (.aload_n 0, 1) := by decide +kernel
theorem dX9_older_46 : decode cX9_older 46 = .ok (.getfield 29, 3) := by decide +kernel
theorem dX9_older_49 : decode cX9_older 49 = .ok (.iload_n 1, 1) := by decide +kernel
theorem dX9_older_50 : decode cX9_older 50 = .ok (.invokevirtual 193, 3) := by decide +kernel
theorem dX9_older_53 : decode cX9_older 53 = .ok (.isub, 1) := by decide +kernel
theorem dX9_older_54 : decode cX9_older 54 = .ok (.sipush 1000, 3) := by decide +kernel
theorem dX9_older_57 : decode cX9_older 57 = .ok (.iadd, 1) := by decide +kernel
theorem dX9_older_58 : decode cX9_older 58 = .ok (.ireturn, 1) := by decide +kernel
set_option maxRecDepth 20000 in
theorem ggX9_chance_X7_hasDebt : GoodIn wsX9_chance wsX7_hasDebt := goodIn_r _ [11, 12, 79, 80, 81, 82, 83, 84, 85, 86, 87, 88, 89, 90] (by decide +kernel) (by decide +kernel)
set_option maxRecDepth 20000 in
theorem gX9_chance_X7_hasDebt : GoodIn wsX9_chance (wsV RX9 197 RX7 yX7_hasDebt wsX7_hasDebt) := goodIn_app (goodIn_of _ (by decide +kernel)) ggX9_chance_X7_hasDebt
set_option maxRecDepth 20000 in
theorem ggX9_chance_X9_isOut : GoodIn wsX9_chance wsX9_isOut := goodIn_r _ [16] (by decide +kernel) (by decide +kernel)
set_option maxRecDepth 20000 in
theorem gX9_chance_X9_isOut : GoodIn wsX9_chance (va_wsS RX9 86 yX9_isOut wsX9_isOut) := goodIn_app (goodIn_of _ (by decide +kernel)) ggX9_chance_X9_isOut
set_option maxRecDepth 20000 in
theorem ggX9_chance_X6_owed : GoodIn wsX9_chance wsX6_owed := goodIn_r _ [21, 22, 91] (by decide +kernel) (by decide +kernel)
set_option maxRecDepth 20000 in
theorem gX9_chance_X6_owed : GoodIn wsX9_chance (wsV RX9 203 RX6 yX6_owed wsX6_owed) := goodIn_app (goodIn_of _ (by decide +kernel)) ggX9_chance_X6_owed
set_option maxRecDepth 20000 in
theorem ggX9_chance_X8_chanceOfDue : GoodIn wsX9_chance wsX8_chanceOfDue := goodIn_r _ [27, 28, 29, 30, 31, 32, 33, 34, 35, 36, 37, 38, 39, 20, 40, 41, 42, 43, 44, 45, 18, 19, 21, 22, 46, 47, 48, 49, 50, 51, 52, 53, 54, 55, 56, 57, 26, 58, 59, 60, 61, 62, 63, 64, 10, 65, 66, 67, 92, 93, 94, 95, 79, 80, 81, 82, 83, 84, 85, 86, 87, 88, 89, 90, 91] (by decide +kernel) (by decide +kernel)
set_option maxRecDepth 20000 in
theorem gX9_chance_X8_chanceOfDue : GoodIn wsX9_chance (wsV RX9 263 RX8 yX8_chanceOfDue wsX8_chanceOfDue) := goodIn_app (goodIn_of _ (by decide +kernel)) ggX9_chance_X8_chanceOfDue
theorem dX9_chance_0 : decode cX9_chance 0 = .ok (.aload_n 0, 1) := by decide +kernel
theorem dX9_chance_1 : decode cX9_chance 1 = .ok (.getfield 29, 3) := by decide +kernel
theorem dX9_chance_4 : decode cX9_chance 4 = .ok (.iload_n 1, 1) := by decide +kernel
theorem dX9_chance_5 : decode cX9_chance 5 = .ok (.invokevirtual 197, 3) := by decide +kernel
theorem dX9_chance_8 : decode cX9_chance 8 = .ok (.ifCond .ne 6, 3) := by decide +kernel
theorem dX9_chance_11 : decode cX9_chance 11 = .ok (.ldc 155, 2) := by decide +kernel
theorem dX9_chance_13 : decode cX9_chance 13 = .ok (.ireturn, 1) := by decide +kernel
theorem dX9_chance_14 : decode cX9_chance 14 = .ok (.iload_n 2, 1) := by decide +kernel
theorem dX9_chance_15 : decode cX9_chance 15 = .ok (.iconst 0, 1) := by decide +kernel
theorem dX9_chance_16 : decode cX9_chance 16 = .ok (.bipush 30, 2) := by decide +kernel
theorem dX9_chance_18 : decode cX9_chance 18 = .ok (.invokestatic 86, 3) := by decide +kernel
theorem dX9_chance_21 : decode cX9_chance 21 = .ok (.ifCond .eq 6, 3) := by decide +kernel
theorem dX9_chance_24 : decode cX9_chance 24 = .ok (.ldc 90, 2) := by decide +kernel
theorem dX9_chance_26 : decode cX9_chance 26 = .ok (.ireturn, 1) := by decide +kernel
theorem dX9_chance_27 : decode cX9_chance 27 = .ok (.aload_n 0, 1) := by decide +kernel
theorem dX9_chance_28 : decode cX9_chance 28 = .ok (.getfield 36, 3) := by decide +kernel
theorem dX9_chance_31 : decode cX9_chance 31 = .ok (.iload_n 1, 1) := by decide +kernel
theorem dX9_chance_32 : decode cX9_chance 32 = .ok (.invokevirtual 203, 3) := by decide +kernel
theorem dX9_chance_35 : decode cX9_chance 35 = .ok (.ifCond .ne 8, 3) := by decide +kernel
theorem dX9_chance_38 : decode cX9_chance 38 = .ok (.ldc 150, 2) := by decide +kernel
theorem dX9_chance_40 : decode cX9_chance 40 = .ok (.goto 12, 3) := by decide +kernel
theorem dX9_chance_43 : decode cX9_chance 43 = .ok (.aload_n 0, 1) := by decide +kernel
theorem dX9_chance_44 : decode cX9_chance 44 = .ok (.getfield 66, 3) := by decide +kernel
theorem dX9_chance_47 : decode cX9_chance 47 = .ok (.iload_n 1, 1) := by decide +kernel
theorem dX9_chance_48 : decode cX9_chance 48 = .ok (.iload_n 2, 1) := by decide +kernel
theorem dX9_chance_49 : decode cX9_chance 49 = .ok (.invokevirtual 263, 3) := by decide +kernel
theorem dX9_chance_52 : decode cX9_chance 52 = .ok (.ireturn, 1) := by decide +kernel
set_option maxRecDepth 20000 in
theorem ggX9_poles_X8_fewestPoles : GoodIn wsX9_poles wsX8_fewestPoles := goodIn_r _ [6, 7, 8, 9, 10, 11, 12, 5, 13, 14, 15, 16, 17, 18, 19, 20, 21, 22, 23, 24, 25, 26, 27, 28, 29, 30, 31, 32, 33, 34, 35, 36, 37, 38, 39, 40, 41, 42, 43, 44, 45, 46, 47, 48, 60, 61, 62, 63, 64, 65, 66, 67, 68, 69, 70, 71, 72, 73, 74, 75, 76] (by decide +kernel) (by decide +kernel)
set_option maxRecDepth 20000 in
theorem gX9_poles_X8_fewestPoles : GoodIn wsX9_poles (wsV RX9 266 RX8 yX8_fewestPoles wsX8_fewestPoles) := goodIn_app (goodIn_of _ (by decide +kernel)) ggX9_poles_X8_fewestPoles
theorem dX9_poles_0 : decode cX9_poles 0 = .ok (.aload_n 0, 1) := by decide +kernel
theorem dX9_poles_1 : decode cX9_poles 1 = .ok (.getfield 66, 3) := by decide +kernel
theorem dX9_poles_4 : decode cX9_poles 4 = .ok (.invokevirtual 266, 3) := by decide +kernel
theorem dX9_poles_7 : decode cX9_poles 7 = .ok (.ireturn, 1) := by decide +kernel
set_option maxRecDepth 20000 in
theorem ggX9_longest_X7_hasVillage : GoodIn wsX9_longest wsX7_hasVillage := goodIn_r _ [8, 9, 57, 58, 59, 60, 61, 62, 63, 64, 65, 66, 67, 68] (by decide +kernel) (by decide +kernel)
set_option maxRecDepth 20000 in
theorem gX9_longest_X7_hasVillage : GoodIn wsX9_longest (wsV RX9 151 RX7 yX7_hasVillage wsX7_hasVillage) := goodIn_app (goodIn_of _ (by decide +kernel)) ggX9_longest_X7_hasVillage
set_option maxRecDepth 20000 in
theorem ggX9_longest_X8_longestWithoutFall : GoodIn wsX9_longest wsX8_longestWithoutFall := goodIn_r _ [14, 15, 16, 17, 18, 19, 20, 21, 13, 22, 23, 24, 25, 26, 27, 28, 29, 30, 31, 32, 33, 34, 35, 36, 37, 7, 38, 39, 40, 41, 42, 43, 44, 45, 69, 70, 71, 72, 73, 57, 58, 59, 60, 61, 62, 63, 64, 65, 66, 67, 68] (by decide +kernel) (by decide +kernel)
set_option maxRecDepth 20000 in
theorem gX9_longest_X8_longestWithoutFall : GoodIn wsX9_longest (wsV RX9 269 RX8 yX8_longestWithoutFall wsX8_longestWithoutFall) := goodIn_app (goodIn_of _ (by decide +kernel)) ggX9_longest_X8_longestWithoutFall
theorem dX9_longest_0 : decode cX9_longest 0 = .ok (.aload_n 0, 1) := by decide +kernel
theorem dX9_longest_1 : decode cX9_longest 1 = .ok (.getfield 29, 3) := by decide +kernel
theorem dX9_longest_4 : decode cX9_longest 4 = .ok (.iload_n 1, 1) := by decide +kernel
theorem dX9_longest_5 : decode cX9_longest 5 = .ok (.invokevirtual 151, 3) := by decide +kernel
theorem dX9_longest_8 : decode cX9_longest 8 = .ok (.ifCond .eq 14, 3) := by decide +kernel
theorem dX9_longest_11 : decode cX9_longest 11 = .ok (.aload_n 0, 1) := by decide +kernel
theorem dX9_longest_12 : decode cX9_longest 12 = .ok (.getfield 66, 3) := by decide +kernel
theorem dX9_longest_15 : decode cX9_longest 15 = .ok (.iload_n 1, 1) := by decide +kernel
theorem dX9_longest_16 : decode cX9_longest 16 = .ok (.invokevirtual 269, 3) := by decide +kernel
theorem dX9_longest_19 : decode cX9_longest 19 = .ok (.goto 5, 3) := by decide +kernel
theorem dX9_longest_22 : decode cX9_longest 22 = .ok (.ldc 155, 2) := by decide +kernel
theorem dX9_longest_24 : decode cX9_longest 24 = .ok (.ireturn, 1) := by decide +kernel
set_option maxRecDepth 20000 in
theorem ggX9_say_X7_hasPerson : GoodIn wsX9_say wsX7_hasPerson := goodIn_r _ [11, 12, 43, 44, 45, 46, 47, 48, 49, 50, 51, 52, 53, 54] (by decide +kernel) (by decide +kernel)
set_option maxRecDepth 20000 in
theorem gX9_say_X7_hasPerson : GoodIn wsX9_say (wsV RX9 184 RX7 yX7_hasPerson wsX7_hasPerson) := goodIn_app (goodIn_of _ (by decide +kernel)) ggX9_say_X7_hasPerson
set_option maxRecDepth 20000 in
theorem ggX9_say_X9_isOut : GoodIn wsX9_say wsX9_isOut := goodIn_r _ [16] (by decide +kernel) (by decide +kernel)
set_option maxRecDepth 20000 in
theorem gX9_say_X9_isOut : GoodIn wsX9_say (va_wsS RX9 86 yX9_isOut wsX9_isOut) := goodIn_app (goodIn_of _ (by decide +kernel)) ggX9_say_X9_isOut
set_option maxRecDepth 20000 in
theorem ggX9_say_X5_add : GoodIn wsX9_say wsX5_add := goodIn_r _ [21, 22, 23, 24, 36, 37, 38, 39, 40, 41, 42] (by decide +kernel) (by decide +kernel)
set_option maxRecDepth 20000 in
theorem gX9_say_X5_add : GoodIn wsX9_say (wsV RX9 272 RX5 yX5_add wsX5_add) := goodIn_app (goodIn_of _ (by decide +kernel)) ggX9_say_X5_add
theorem dX9_say_0 : decode cX9_say 0 = .ok (.aload_n 0, 1) := by decide +kernel
theorem dX9_say_1 : decode cX9_say 1 = .ok (.getfield 29, 3) := by decide +kernel
theorem dX9_say_4 : decode cX9_say 4 = .ok (.iload_n 1, 1) := by decide +kernel
theorem dX9_say_5 : decode cX9_say 5 = .ok (.invokevirtual 184, 3) := by decide +kernel
theorem dX9_say_8 : decode cX9_say 8 = .ok (.ifCond .ne 6, 3) := by decide +kernel
theorem dX9_say_11 : decode cX9_say 11 = .ok (.ldc 155, 2) := by decide +kernel
theorem dX9_say_13 : decode cX9_say 13 = .ok (.ireturn, 1) := by decide +kernel
theorem dX9_say_14 : decode cX9_say 14 = .ok (.iload_n 2, 1) := by decide +kernel
theorem dX9_say_15 : decode cX9_say 15 = .ok (.iconst 0, 1) := by decide +kernel
theorem dX9_say_16 : decode cX9_say 16 = .ok (.sipush 9999, 3) := by decide +kernel
theorem dX9_say_19 : decode cX9_say 19 = .ok (.invokestatic 86, 3) := by decide +kernel
theorem dX9_say_22 : decode cX9_say 22 = .ok (.ifCond .eq 6, 3) := by decide +kernel
theorem dX9_say_25 : decode cX9_say 25 = .ok (.ldc 90, 2) := by decide +kernel
theorem dX9_say_27 : decode cX9_say 27 = .ok (.ireturn, 1) := by decide +kernel
theorem dX9_say_28 : decode cX9_say 28 = .ok (.aload_n 0, 1) := by decide +kernel
theorem dX9_say_29 : decode cX9_say 29 = .ok (.getfield 73, 3) := by decide +kernel
theorem dX9_say_32 : decode cX9_say 32 = .ok (.iload_n 1, 1) := by decide +kernel
theorem dX9_say_33 : decode cX9_say 33 = .ok (.iload_n 2, 1) := by decide +kernel
theorem dX9_say_34 : decode cX9_say 34 = .ok (.invokevirtual 272, 3) := by decide +kernel
theorem dX9_say_37 : decode cX9_say 37 = .ok (.ifCond .eq 13, 3) := by decide +kernel
theorem dX9_say_40 : decode cX9_say 40 = .ok (.aload_n 0, 1) := by decide +kernel
theorem dX9_say_41 : decode cX9_say 41 = .ok (.getfield 73, 3) := by decide +kernel
theorem dX9_say_44 : decode cX9_say 44 = .ok (.getfield 138, 3) := by decide +kernel
theorem dX9_say_47 : decode cX9_say 47 = .ok (.goto 5, 3) := by decide +kernel
theorem dX9_say_50 : decode cX9_say 50 = .ok (.ldc 91, 2) := by decide +kernel
theorem dX9_say_52 : decode cX9_say 52 = .ok (.ireturn, 1) := by decide +kernel
set_option maxRecDepth 20000 in
theorem ggX9_sawn_X5_countFitting : GoodIn wsX9_sawn wsX5_countFitting := goodIn_r _ [6, 7, 8, 9, 10, 11, 12, 5, 13, 14, 15, 16, 17, 18, 19, 20, 21, 22, 23, 24, 25, 26, 27, 28, 29, 30, 31, 32, 33, 34, 35, 36, 37, 38, 39, 40, 41, 42, 43, 44, 45, 46, 47, 64, 65, 66, 67, 68, 69, 70, 71, 72, 73, 74, 75, 76, 77, 78, 79, 80, 81, 82, 83] (by decide +kernel) (by decide +kernel)
set_option maxRecDepth 20000 in
theorem gX9_sawn_X5_countFitting : GoodIn wsX9_sawn (wsV RX9 275 RX5 yX5_countFitting wsX5_countFitting) := goodIn_app (goodIn_of _ (by decide +kernel)) ggX9_sawn_X5_countFitting
set_option maxRecDepth 20000 in
theorem ggX9_sawn_X5_fitting : GoodIn wsX9_sawn wsX5_fitting := goodIn_r _ [51, 9, 52, 3, 4, 5, 6, 7, 8, 10, 11, 12, 13, 14, 15, 16, 17, 18, 19, 20, 21, 22, 23, 24, 25, 26, 27, 28, 29, 30, 31, 32, 33, 34, 35, 36, 37, 38, 39, 40, 41, 42, 43, 44, 45, 46, 47, 64, 65, 66, 67, 68, 69, 70, 71, 72, 73, 74, 75, 76, 77, 78, 79, 80, 81, 82, 83] (by decide +kernel) (by decide +kernel)
set_option maxRecDepth 20000 in
theorem gX9_sawn_X5_fitting : GoodIn wsX9_sawn (wsV RX9 278 RX5 yX5_fitting wsX5_fitting) := goodIn_app (goodIn_of _ (by decide +kernel)) ggX9_sawn_X5_fitting
theorem dX9_sawn_0 : decode cX9_sawn 0 = .ok (.iload_n 1, 1) := by decide +kernel
theorem dX9_sawn_1 : decode cX9_sawn 1 = .ok (.iconst (-1), 1) := by decide +kernel
theorem dX9_sawn_2 : decode cX9_sawn 2 = .ok (.if_icmp .ne 13, 3) := by decide +kernel
theorem dX9_sawn_5 : decode cX9_sawn 5 = .ok (.aload_n 0, 1) := by decide +kernel
theorem dX9_sawn_6 : decode cX9_sawn 6 = .ok (.getfield 73, 3) := by decide +kernel
theorem dX9_sawn_9 : decode cX9_sawn 9 = .ok (.invokevirtual 275, 3) := by decide +kernel
theorem dX9_sawn_12 : decode cX9_sawn 12 = .ok (.goto 11, 3) := by decide +kernel
theorem dX9_sawn_15 : decode cX9_sawn 15 = .ok (.aload_n 0, 1) := by decide +kernel
theorem dX9_sawn_16 : decode cX9_sawn 16 = .ok (.getfield 73, 3) := by decide +kernel
theorem dX9_sawn_19 : decode cX9_sawn 19 = .ok (.iload_n 1, 1) := by decide +kernel
theorem dX9_sawn_20 : decode cX9_sawn 20 = .ok (.invokevirtual 278, 3) := by decide +kernel
theorem dX9_sawn_23 : decode cX9_sawn 23 = .ok (.ireturn, 1) := by decide +kernel
set_option maxRecDepth 20000 in
theorem ggX9_ask_X5_bestToAsk : GoodIn wsX9_ask wsX5_bestToAsk := goodIn_r _ [6, 7, 8, 9, 10, 11, 5, 12, 13, 14, 15, 16, 17, 18, 19, 20, 21, 22, 23, 24, 25, 26, 27, 28, 29, 30, 31, 32, 33, 34, 35, 36, 37, 38, 39, 40, 41, 42, 43, 44, 45, 46, 47, 48, 49, 50, 51, 52, 53, 54, 55, 56, 57, 58, 59, 60, 61, 73, 74, 75, 76, 77, 78, 79, 80, 81, 82, 83, 84, 85, 86, 87, 88, 89, 90, 91, 92] (by decide +kernel) (by decide +kernel)
set_option maxRecDepth 20000 in
theorem gX9_ask_X5_bestToAsk : GoodIn wsX9_ask (wsV RX9 281 RX5 yX5_bestToAsk wsX5_bestToAsk) := goodIn_app (goodIn_of _ (by decide +kernel)) ggX9_ask_X5_bestToAsk
theorem dX9_ask_0 : decode cX9_ask 0 = .ok (.aload_n 0, 1) := by decide +kernel
theorem dX9_ask_1 : decode cX9_ask 1 = .ok (.getfield 73, 3) := by decide +kernel
theorem dX9_ask_4 : decode cX9_ask 4 = .ok (.invokevirtual 281, 3) := by decide +kernel
theorem dX9_ask_7 : decode cX9_ask 7 = .ok (.ireturn, 1) := by decide +kernel
set_option maxRecDepth 20000 in
theorem ggX9_write_X7_hasVillage : GoodIn wsX9_write wsX7_hasVillage := goodIn_r _ [11, 12, 40, 41, 42, 43, 44, 45, 46, 47, 48, 49, 50, 51] (by decide +kernel) (by decide +kernel)
set_option maxRecDepth 20000 in
theorem gX9_write_X7_hasVillage : GoodIn wsX9_write (wsV RX9 151 RX7 yX7_hasVillage wsX7_hasVillage) := goodIn_app (goodIn_of _ (by decide +kernel)) ggX9_write_X7_hasVillage
set_option maxRecDepth 20000 in
theorem ggX9_write_X9_isOut : GoodIn wsX9_write wsX9_isOut := goodIn_r _ [16] (by decide +kernel) (by decide +kernel)
set_option maxRecDepth 20000 in
theorem gX9_write_X9_isOut : GoodIn wsX9_write (va_wsS RX9 86 yX9_isOut wsX9_isOut) := goodIn_app (goodIn_of _ (by decide +kernel)) ggX9_write_X9_isOut
set_option maxRecDepth 20000 in
theorem ggX9_write_X0_add : GoodIn wsX9_write wsX0_add := goodIn_r _ [21, 22, 23, 24, 36, 37, 38, 39] (by decide +kernel) (by decide +kernel)
set_option maxRecDepth 20000 in
theorem gX9_write_X0_add : GoodIn wsX9_write (wsV RX9 284 RX0 yX0_add wsX0_add) := goodIn_app (goodIn_of _ (by decide +kernel)) ggX9_write_X0_add
theorem dX9_write_0 : decode cX9_write 0 = .ok (.aload_n 0, 1) := by decide +kernel
theorem dX9_write_1 : decode cX9_write 1 = .ok (.getfield 29, 3) := by decide +kernel
theorem dX9_write_4 : decode cX9_write 4 = .ok (.iload_n 1, 1) := by decide +kernel
theorem dX9_write_5 : decode cX9_write 5 = .ok (.invokevirtual 151, 3) := by decide +kernel
theorem dX9_write_8 : decode cX9_write 8 = .ok (.ifCond .ne 6, 3) := by decide +kernel
theorem dX9_write_11 : decode cX9_write 11 = .ok (.ldc 155, 2) := by decide +kernel
theorem dX9_write_13 : decode cX9_write 13 = .ok (.ireturn, 1) := by decide +kernel
theorem dX9_write_14 : decode cX9_write 14 = .ok (.iload_n 2, 1) := by decide +kernel
theorem dX9_write_15 : decode cX9_write 15 = .ok (.iconst 0, 1) := by decide +kernel
theorem dX9_write_16 : decode cX9_write 16 = .ok (.sipush 9999, 3) := by decide +kernel
theorem dX9_write_19 : decode cX9_write 19 = .ok (.invokestatic 86, 3) := by decide +kernel
theorem dX9_write_22 : decode cX9_write 22 = .ok (.ifCond .eq 6, 3) := by decide +kernel
theorem dX9_write_25 : decode cX9_write 25 = .ok (.ldc 90, 2) := by decide +kernel
theorem dX9_write_27 : decode cX9_write 27 = .ok (.ireturn, 1) := by decide +kernel
theorem dX9_write_28 : decode cX9_write 28 = .ok (.aload_n 0, 1) := by decide +kernel
theorem dX9_write_29 : decode cX9_write 29 = .ok (.getfield 82, 3) := by decide +kernel
theorem dX9_write_32 : decode cX9_write 32 = .ok (.iload_n 1, 1) := by decide +kernel
theorem dX9_write_33 : decode cX9_write 33 = .ok (.iload_n 2, 1) := by decide +kernel
theorem dX9_write_34 : decode cX9_write 34 = .ok (.invokevirtual 284, 3) := by decide +kernel
theorem dX9_write_37 : decode cX9_write 37 = .ok (.ifCond .eq 13, 3) := by decide +kernel
theorem dX9_write_40 : decode cX9_write 40 = .ok (.aload_n 0, 1) := by decide +kernel
theorem dX9_write_41 : decode cX9_write 41 = .ok (.getfield 82, 3) := by decide +kernel
theorem dX9_write_44 : decode cX9_write 44 = .ok (.getfield 141, 3) := by decide +kernel
theorem dX9_write_47 : decode cX9_write 47 = .ok (.goto 5, 3) := by decide +kernel
theorem dX9_write_50 : decode cX9_write 50 = .ok (.ldc 91, 2) := by decide +kernel
theorem dX9_write_52 : decode cX9_write 52 = .ok (.ireturn, 1) := by decide +kernel
set_option maxRecDepth 20000 in
theorem ggX9_tear_X5_forget : GoodIn wsX9_tear wsX5_forget := goodIn_r _ [9, 10, 28, 29, 30, 31, 32, 33, 34] (by decide +kernel) (by decide +kernel)
set_option maxRecDepth 20000 in
theorem gX9_tear_X5_forget : GoodIn wsX9_tear (wsV RX9 110 RX5 yX5_forget wsX5_forget) := goodIn_app (goodIn_of _ (by decide +kernel)) ggX9_tear_X5_forget
set_option maxRecDepth 20000 in
theorem ggX9_tear_X0_forget : GoodIn wsX9_tear wsX0_forget := goodIn_r _ [15, 16, 35, 36, 37, 38] (by decide +kernel) (by decide +kernel)
set_option maxRecDepth 20000 in
theorem gX9_tear_X0_forget : GoodIn wsX9_tear (wsV RX9 111 RX0 yX0_forget wsX0_forget) := goodIn_app (goodIn_of _ (by decide +kernel)) ggX9_tear_X0_forget
theorem dX9_tear_0 : decode cX9_tear 0 = .ok (.aload_n 0, 1) := by decide +kernel
theorem dX9_tear_1 : decode cX9_tear 1 = .ok (.getfield 73, 3) := by decide +kernel
theorem dX9_tear_4 : decode cX9_tear 4 = .ok (.getfield 138, 3) := by decide +kernel
theorem dX9_tear_7 : decode cX9_tear 7 = .ok (.aload_n 0, 1) := by decide +kernel
theorem dX9_tear_8 : decode cX9_tear 8 = .ok (.getfield 82, 3) := by decide +kernel
theorem dX9_tear_11 : decode cX9_tear 11 = .ok (.getfield 141, 3) := by decide +kernel
theorem dX9_tear_14 : decode cX9_tear 14 = .ok (.iadd, 1) := by decide +kernel
theorem dX9_tear_15 : decode cX9_tear 15 = .ok (.istore_n 1, 1) := by decide +kernel
theorem dX9_tear_16 : decode cX9_tear 16 = .ok (.aload_n 0, 1) := by decide +kernel
theorem dX9_tear_17 : decode cX9_tear 17 = .ok (.getfield 73, 3) := by decide +kernel
theorem dX9_tear_20 : decode cX9_tear 20 = .ok (.invokevirtual 110, 3) := by decide +kernel
theorem dX9_tear_23 : decode cX9_tear 23 = .ok (.aload_n 0, 1) := by decide +kernel
theorem dX9_tear_24 : decode cX9_tear 24 = .ok (.getfield 82, 3) := by decide +kernel
theorem dX9_tear_27 : decode cX9_tear 27 = .ok (.invokevirtual 111, 3) := by decide +kernel
theorem dX9_tear_30 : decode cX9_tear 30 = .ok (.iload_n 1, 1) := by decide +kernel
theorem dX9_tear_31 : decode cX9_tear 31 = .ok (.ireturn, 1) := by decide +kernel
set_option maxRecDepth 20000 in
theorem ggX9_judge_X0_firstWrong : GoodIn wsX9_judge wsX0_firstWrong := goodIn_r _ [6, 7, 8, 9, 10, 11, 12, 13, 14, 15, 16, 17, 18, 19, 20, 32, 33, 34, 35, 36] (by decide +kernel) (by decide +kernel)
set_option maxRecDepth 20000 in
theorem gX9_judge_X0_firstWrong : GoodIn wsX9_judge (wsV RX9 285 RX0 yX0_firstWrong wsX0_firstWrong) := goodIn_app (goodIn_of _ (by decide +kernel)) ggX9_judge_X0_firstWrong
theorem dX9_judge_0 : decode cX9_judge 0 = .ok (.aload_n 0, 1) := by decide +kernel
theorem dX9_judge_1 : decode cX9_judge 1 = .ok (.getfield 82, 3) := by decide +kernel
theorem dX9_judge_4 : decode cX9_judge 4 = .ok (.invokevirtual 285, 3) := by decide +kernel
theorem dX9_judge_7 : decode cX9_judge 7 = .ok (.ireturn, 1) := by decide +kernel
theorem dX9_seed_0 : decode cX9_seed 0 = .ok (.iload_n 1, 1) := by decide +kernel
theorem dX9_seed_1 : decode cX9_seed 1 = .ok (.ifCond .ge 6, 3) := by decide +kernel
theorem dX9_seed_4 : decode cX9_seed 4 = .ok (.ldc 90, 2) := by decide +kernel
theorem dX9_seed_6 : decode cX9_seed 6 = .ok (.ireturn, 1) := by decide +kernel
theorem dX9_seed_7 : decode cX9_seed 7 = .ok (.aload_n 0, 1) := by decide +kernel
theorem dX9_seed_8 : decode cX9_seed 8 = .ok (.getfield 57, 3) := by decide +kernel
theorem dX9_seed_11 : decode cX9_seed 11 = .ok (.getfield 288, 3) := by decide +kernel
theorem dX9_seed_14 : decode cX9_seed 14 = .ok (.istore_n 2, 1) := by decide +kernel
theorem dX9_seed_15 : decode cX9_seed 15 = .ok (.aload_n 0, 1) := by decide +kernel
theorem dX9_seed_16 : decode cX9_seed 16 = .ok (.getfield 57, 3) := by decide +kernel
theorem dX9_seed_19 : decode cX9_seed 19 = .ok (.iload_n 1, 1) := by decide +kernel
theorem dX9_seed_20 : decode cX9_seed 20 = .ok (.putfield 288, 3) := by decide +kernel
theorem dX9_seed_23 : decode cX9_seed 23 = .ok (.iload_n 2, 1) := by decide +kernel
theorem dX9_seed_24 : decode cX9_seed 24 = .ok (.ireturn, 1) := by decide +kernel
set_option maxRecDepth 20000 in
theorem ggX9_keep_X2_has : GoodIn wsX9_keep wsX2_has := goodIn_r _ [11] (by decide +kernel) (by decide +kernel)
set_option maxRecDepth 20000 in
theorem gX9_keep_X2_has : GoodIn wsX9_keep (wsV RX9 291 RX2 yX2_has wsX2_has) := goodIn_app (goodIn_of _ (by decide +kernel)) ggX9_keep_X2_has
set_option maxRecDepth 20000 in
theorem ggX9_keep_X2_store : GoodIn wsX9_keep wsX2_store := goodIn_r _ [15, 16, 17, 18, 19, 20, 21, 22, 23, 43, 44, 45, 46] (by decide +kernel) (by decide +kernel)
set_option maxRecDepth 20000 in
theorem gX9_keep_X2_store : GoodIn wsX9_keep (wsV RX9 294 RX2 yX2_store wsX2_store) := goodIn_app (goodIn_of _ (by decide +kernel)) ggX9_keep_X2_store
set_option maxRecDepth 20000 in
theorem ggX9_keep_X3_forget : GoodIn wsX9_keep wsX3_forget := goodIn_r _ [28, 29, 30, 47, 48, 49] (by decide +kernel) (by decide +kernel)
set_option maxRecDepth 20000 in
theorem gX9_keep_X3_forget : GoodIn wsX9_keep (wsV RX9 106 RX3 yX3_forget wsX3_forget) := goodIn_app (goodIn_of _ (by decide +kernel)) ggX9_keep_X3_forget
theorem dX9_keep_0 : decode cX9_keep 0 = .ok (.aload_n 0, 1) := by decide +kernel
theorem dX9_keep_1 : decode cX9_keep 1 = .ok (.getfield 50, 3) := by decide +kernel
theorem dX9_keep_4 : decode cX9_keep 4 = .ok (.iload_n 1, 1) := by decide +kernel
theorem dX9_keep_5 : decode cX9_keep 5 = .ok (.invokevirtual 291, 3) := by decide +kernel
theorem dX9_keep_8 : decode cX9_keep 8 = .ok (.ifCond .ne 6, 3) := by decide +kernel
theorem dX9_keep_11 : decode cX9_keep 11 = .ok (.ldc 155, 2) := by decide +kernel
theorem dX9_keep_13 : decode cX9_keep 13 = .ok (.ireturn, 1) := by decide +kernel
theorem dX9_keep_14 : decode cX9_keep 14 = .ok (.aload_n 0, 1) := by decide +kernel
theorem dX9_keep_15 : decode cX9_keep 15 = .ok (.getfield 50, 3) := by decide +kernel
theorem dX9_keep_18 : decode cX9_keep 18 = .ok (.iload_n 1, 1) := by decide +kernel
theorem dX9_keep_19 : decode cX9_keep 19 = .ok (.aload_n 0, 1) := by decide +kernel
theorem dX9_keep_20 : decode cX9_keep 20 = .ok (.getfield 36, 3) := by decide +kernel
theorem dX9_keep_23 : decode cX9_keep 23 = .ok (.aload_n 0, 1) := by decide +kernel
theorem dX9_keep_24 : decode cX9_keep 24 = .ok (.getfield 57, 3) := by decide +kernel
theorem dX9_keep_27 : decode cX9_keep 27 = .ok (.getfield 288, 3) := by decide +kernel
theorem dX9_keep_30 : decode cX9_keep 30 = .ok (.invokevirtual 294, 3) := by decide +kernel
theorem dX9_keep_33 : decode cX9_keep 33 = .ok (.aload_n 0, 1) := by decide +kernel
theorem dX9_keep_34 : decode cX9_keep 34 = .ok (.getfield 43, 3) := by decide +kernel
theorem dX9_keep_37 : decode cX9_keep 37 = .ok (.invokevirtual 106, 3) := by decide +kernel
theorem dX9_keep_40 : decode cX9_keep 40 = .ok (.iconst 1, 1) := by decide +kernel
theorem dX9_keep_41 : decode cX9_keep 41 = .ok (.ireturn, 1) := by decide +kernel
set_option maxRecDepth 20000 in
theorem ggX9_goBack_X2_has : GoodIn wsX9_goBack wsX2_has := goodIn_r _ [14] (by decide +kernel) (by decide +kernel)
set_option maxRecDepth 20000 in
theorem gX9_goBack_X2_has : GoodIn wsX9_goBack (wsV RX9 291 RX2 yX2_has wsX2_has) := goodIn_app (goodIn_of _ (by decide +kernel)) ggX9_goBack_X2_has
set_option maxRecDepth 20000 in
theorem ggX9_goBack_X2_bringBack : GoodIn wsX9_goBack wsX2_bringBack := goodIn_r _ [18, 19, 20, 21, 22, 23, 24, 43, 44, 45, 47] (by decide +kernel) (by decide +kernel)
set_option maxRecDepth 20000 in
theorem gX9_goBack_X2_bringBack : GoodIn wsX9_goBack (wsV RX9 302 RX2 yX2_bringBack wsX2_bringBack) := goodIn_app (goodIn_of _ (by decide +kernel)) ggX9_goBack_X2_bringBack
set_option maxRecDepth 20000 in
theorem ggX9_goBack_X3_forget : GoodIn wsX9_goBack wsX3_forget := goodIn_r _ [29, 30, 31, 48, 49, 50] (by decide +kernel) (by decide +kernel)
set_option maxRecDepth 20000 in
theorem gX9_goBack_X3_forget : GoodIn wsX9_goBack (wsV RX9 106 RX3 yX3_forget wsX3_forget) := goodIn_app (goodIn_of _ (by decide +kernel)) ggX9_goBack_X3_forget
theorem dX9_goBack_0 : decode cX9_goBack 0 = .ok (.aload_n 0, 1) := by decide +kernel
theorem dX9_goBack_1 : decode cX9_goBack 1 = .ok (.getfield 50, 3) := by decide +kernel
theorem dX9_goBack_4 : decode cX9_goBack 4 = .ok (.iload_n 1, 1) := by decide +kernel
theorem dX9_goBack_5 : decode cX9_goBack 5 = .ok (.invokevirtual 291, 3) := by decide +kernel
theorem dX9_goBack_8 : decode cX9_goBack 8 = .ok (.ifCond .ne 6, 3) := by decide +kernel
theorem dX9_goBack_11 : decode cX9_goBack 11 = .ok (.ldc 155, 2) := by decide +kernel
theorem dX9_goBack_13 : decode cX9_goBack 13 = .ok (.ireturn, 1) := by decide +kernel
theorem dX9_goBack_14 : decode cX9_goBack 14 = .ok (.aload_n 0, 1) := by decide +kernel
theorem dX9_goBack_15 : decode cX9_goBack 15 = .ok (.getfield 50, 3) := by decide +kernel
theorem dX9_goBack_18 : decode cX9_goBack 18 = .ok (.getfield 298, 3) := by decide +kernel
theorem dX9_goBack_21 : decode cX9_goBack 21 = .ok (.iload_n 1, 1) := by decide +kernel
theorem dX9_goBack_22 : decode cX9_goBack 22 = .ok (.baload, 1) := by decide +kernel
theorem dX9_goBack_23 : decode cX9_goBack 23 = .ok (.ifCond .ne 6, 3) := by decide +kernel
theorem dX9_goBack_26 : decode cX9_goBack 26 = .ok (.ldc 150, 2) := by decide +kernel
theorem dX9_goBack_28 : decode cX9_goBack 28 = .ok (.ireturn, 1) := by decide +kernel
theorem dX9_goBack_29 : decode cX9_goBack 29 = .ok (.aload_n 0, 1) := by decide +kernel
theorem dX9_goBack_30 : decode cX9_goBack 30 = .ok (.getfield 50, 3) := by decide +kernel
theorem dX9_goBack_33 : decode cX9_goBack 33 = .ok (.iload_n 1, 1) := by decide +kernel
theorem dX9_goBack_34 : decode cX9_goBack 34 = .ok (.aload_n 0, 1) := by decide +kernel
theorem dX9_goBack_35 : decode cX9_goBack 35 = .ok (.getfield 36, 3) := by decide +kernel
theorem dX9_goBack_38 : decode cX9_goBack 38 = .ok (.invokevirtual 302, 3) := by decide +kernel
theorem dX9_goBack_41 : decode cX9_goBack 41 = .ok (.aload_n 0, 1) := by decide +kernel
theorem dX9_goBack_42 : decode cX9_goBack 42 = .ok (.getfield 57, 3) := by decide +kernel
theorem dX9_goBack_45 : decode cX9_goBack 45 = .ok (.aload_n 0, 1) := by decide +kernel
theorem dX9_goBack_46 : decode cX9_goBack 46 = .ok (.getfield 50, 3) := by decide +kernel
theorem dX9_goBack_49 : decode cX9_goBack 49 = .ok (.getfield 306, 3) := by decide +kernel
theorem dX9_goBack_52 : decode cX9_goBack 52 = .ok (.iload_n 1, 1) := by decide +kernel
theorem dX9_goBack_53 : decode cX9_goBack 53 = .ok (.iaload, 1) := by decide +kernel
theorem dX9_goBack_54 : decode cX9_goBack 54 = .ok (.putfield 288, 3) := by decide +kernel
theorem dX9_goBack_57 : decode cX9_goBack 57 = .ok (.aload_n 0, 1) := by decide +kernel
theorem dX9_goBack_58 : decode cX9_goBack 58 = .ok (.getfield 43, 3) := by decide +kernel
theorem dX9_goBack_61 : decode cX9_goBack 61 = .ok (.invokevirtual 106, 3) := by decide +kernel
theorem dX9_goBack_64 : decode cX9_goBack 64 = .ok (.iconst 1, 1) := by decide +kernel
theorem dX9_goBack_65 : decode cX9_goBack 65 = .ok (.ireturn, 1) := by decide +kernel
theorem dX9_isOut_0 : decode cX9_isOut 0 = .ok (.iload_n 0, 1) := by decide +kernel
theorem dX9_isOut_1 : decode cX9_isOut 1 = .ok (.iload_n 1, 1) := by decide +kernel
theorem dX9_isOut_2 : decode cX9_isOut 2 = .ok (.if_icmp .lt 8, 3) := by decide +kernel
theorem dX9_isOut_5 : decode cX9_isOut 5 = .ok (.iload_n 0, 1) := by decide +kernel
theorem dX9_isOut_6 : decode cX9_isOut 6 = .ok (.iload_n 2, 1) := by decide +kernel
theorem dX9_isOut_7 : decode cX9_isOut 7 = .ok (.if_icmp .le 7, 3) := by decide +kernel
theorem dX9_isOut_10 : decode cX9_isOut 10 = .ok (.iconst 1, 1) := by decide +kernel
theorem dX9_isOut_11 : decode cX9_isOut 11 = .ok (.goto 4, 3) := by decide +kernel
theorem dX9_isOut_14 : decode cX9_isOut 14 = .ok (.iconst 0, 1) := by decide +kernel
theorem dX9_isOut_15 : decode cX9_isOut 15 = .ok (.ireturn, 1) := by decide +kernel
set_option maxRecDepth 20000 in
theorem ggX9_refusedNights_X9_isOut : GoodIn wsX9_refusedNights wsX9_isOut := goodIn_r _ [9] (by decide +kernel) (by decide +kernel)
set_option maxRecDepth 20000 in
theorem gX9_refusedNights_X9_isOut : GoodIn wsX9_refusedNights (va_wsS RX9 86 yX9_isOut wsX9_isOut) := goodIn_app (goodIn_of _ (by decide +kernel)) ggX9_refusedNights_X9_isOut
set_option maxRecDepth 20000 in
theorem ggX9_refusedNights_X7_isThere : GoodIn wsX9_refusedNights wsX7_isThere := goodIn_r _ [14, 15, 33, 34, 35, 36, 37, 38, 39, 40, 41, 42, 43, 44] (by decide +kernel) (by decide +kernel)
set_option maxRecDepth 20000 in
theorem gX9_refusedNights_X7_isThere : GoodIn wsX9_refusedNights (wsV RX9 143 RX7 yX7_isThere wsX7_isThere) := goodIn_app (goodIn_of _ (by decide +kernel)) ggX9_refusedNights_X7_isThere
set_option maxRecDepth 20000 in
theorem ggX9_refusedNights_X6_nights : GoodIn wsX9_refusedNights wsX6_nights := goodIn_r _ [20, 21, 45] (by decide +kernel) (by decide +kernel)
set_option maxRecDepth 20000 in
theorem gX9_refusedNights_X6_nights : GoodIn wsX9_refusedNights (wsV RX9 127 RX6 yX6_nights wsX6_nights) := goodIn_app (goodIn_of _ (by decide +kernel)) ggX9_refusedNights_X6_nights
theorem dX9_refusedNights_0 : decode cX9_refusedNights 0 = .ok (.iload_n 1, 1) := by decide +kernel
theorem dX9_refusedNights_1 : decode cX9_refusedNights 1 = .ok (.iconst 1, 1) := by decide +kernel
theorem dX9_refusedNights_2 : decode cX9_refusedNights 2 = .ok (.bipush 60, 2) := by decide +kernel
theorem dX9_refusedNights_4 : decode cX9_refusedNights 4 = .ok (.invokestatic 86, 3) := by decide +kernel
theorem dX9_refusedNights_7 : decode cX9_refusedNights 7 = .ok (.ifCond .eq 6, 3) := by decide +kernel
theorem dX9_refusedNights_10 : decode cX9_refusedNights 10 = .ok (.ldc 90, 2) := by decide +kernel
theorem dX9_refusedNights_12 : decode cX9_refusedNights 12 = .ok (.ireturn, 1) := by decide +kernel
theorem dX9_refusedNights_13 : decode cX9_refusedNights 13 = .ok (.aload_n 0, 1) := by decide +kernel
theorem dX9_refusedNights_14 : decode cX9_refusedNights 14 = .ok (.getfield 29, 3) := by decide +kernel
theorem dX9_refusedNights_17 : decode cX9_refusedNights 17 = .ok (.invokevirtual 143, 3) := by decide +kernel
theorem dX9_refusedNights_20 : decode cX9_refusedNights 20 = .ok (.ifCond .ne 6, 3) := by decide +kernel
theorem dX9_refusedNights_23 : decode cX9_refusedNights 23 = .ok (.ldc 150, 2) := by decide +kernel
theorem dX9_refusedNights_25 : decode cX9_refusedNights 25 = .ok (.ireturn, 1) := by decide +kernel
theorem dX9_refusedNights_26 : decode cX9_refusedNights 26 = .ok (.aload_n 0, 1) := by decide +kernel
theorem dX9_refusedNights_27 : decode cX9_refusedNights 27 = .ok (.getfield 36, 3) := by decide +kernel
theorem dX9_refusedNights_30 : decode cX9_refusedNights 30 = .ok (.invokevirtual 127, 3) := by decide +kernel
theorem dX9_refusedNights_33 : decode cX9_refusedNights 33 = .ok (.sipush 9000, 3) := by decide +kernel
theorem dX9_refusedNights_36 : decode cX9_refusedNights 36 = .ok (.if_icmp .le 8, 3) := by decide +kernel
theorem dX9_refusedNights_39 : decode cX9_refusedNights 39 = .ok (.ldc 91, 2) := by decide +kernel
theorem dX9_refusedNights_41 : decode cX9_refusedNights 41 = .ok (.goto 4, 3) := by decide +kernel
theorem dX9_refusedNights_44 : decode cX9_refusedNights 44 = .ok (.iconst 0, 1) := by decide +kernel
theorem dX9_refusedNights_45 : decode cX9_refusedNights 45 = .ok (.ireturn, 1) := by decide +kernel
set_option maxRecDepth 20000 in
theorem ggX9_driftOneNight_X1_draw : GoodIn wsX9_driftOneNight wsX1_draw := goodIn_r _ [9, 10, 11, 12, 13, 72] (by decide +kernel) (by decide +kernel)
set_option maxRecDepth 20000 in
theorem gX9_driftOneNight_X1_draw : GoodIn wsX9_driftOneNight (wsV RX9 309 RX1 yX1_draw wsX1_draw) := goodIn_app (goodIn_of _ (by decide +kernel)) ggX9_driftOneNight_X1_draw
set_option maxRecDepth 20000 in
theorem ggX9_driftOneNight_X6_snow : GoodIn wsX9_driftOneNight wsX6_snow := goodIn_r _ [18, 19, 20, 21, 22, 23, 24, 25, 26, 27, 28, 29, 30, 31, 32, 33, 34, 35, 36, 37, 38, 17, 39, 40, 41, 42, 43, 44, 60, 61, 62, 63, 64, 65, 66, 67, 68, 69, 70, 71, 73] (by decide +kernel) (by decide +kernel)
set_option maxRecDepth 20000 in
theorem gX9_driftOneNight_X6_snow : GoodIn wsX9_driftOneNight (wsV RX9 219 RX6 yX6_snow wsX6_snow) := goodIn_app (goodIn_of _ (by decide +kernel)) ggX9_driftOneNight_X6_snow
set_option maxRecDepth 20000 in
theorem ggX9_driftOneNight_X6_cutPole : GoodIn wsX9_driftOneNight wsX6_cutPole := goodIn_r _ [48, 20, 73] (by decide +kernel) (by decide +kernel)
set_option maxRecDepth 20000 in
theorem gX9_driftOneNight_X6_cutPole : GoodIn wsX9_driftOneNight (wsV RX9 227 RX6 yX6_cutPole wsX6_cutPole) := goodIn_app (goodIn_of _ (by decide +kernel)) ggX9_driftOneNight_X6_cutPole
theorem dX9_driftOneNight_0 : decode cX9_driftOneNight 0 = .ok (.aload_n 0, 1) := by decide +kernel
theorem dX9_driftOneNight_1 : decode cX9_driftOneNight 1 = .ok (.getfield 36, 3) := by decide +kernel
theorem dX9_driftOneNight_4 : decode cX9_driftOneNight 4 = .ok (.aload_n 0, 1) := by decide +kernel
theorem dX9_driftOneNight_5 : decode cX9_driftOneNight 5 = .ok (.getfield 29, 3) := by decide +kernel
theorem dX9_driftOneNight_8 : decode cX9_driftOneNight 8 = .ok (.aload_n 0, 1) := by decide +kernel
theorem dX9_driftOneNight_9 : decode cX9_driftOneNight 9 = .ok (.getfield 57, 3) := by decide +kernel
theorem dX9_driftOneNight_12 : decode cX9_driftOneNight 12 = .ok (.bipush 41, 2) := by decide +kernel
theorem dX9_driftOneNight_14 : decode cX9_driftOneNight 14 = .ok (.invokevirtual 309, 3) := by decide +kernel
theorem dX9_driftOneNight_17 : decode cX9_driftOneNight 17 = .ok (.invokevirtual 219, 3) := by decide +kernel
theorem dX9_driftOneNight_20 : decode cX9_driftOneNight 20 = .ok (.aload_n 0, 1) := by decide +kernel
theorem dX9_driftOneNight_21 : decode cX9_driftOneNight 21 = .ok (.getfield 29, 3) := by decide +kernel
theorem dX9_driftOneNight_24 : decode cX9_driftOneNight 24 = .ok (.getfield 112, 3) := by decide +kernel
theorem dX9_driftOneNight_27 : decode cX9_driftOneNight 27 = .ok (.ifCond .le 36, 3) := by decide +kernel
theorem dX9_driftOneNight_30 : decode cX9_driftOneNight 30 = .ok (.aload_n 0, 1) := by decide +kernel
theorem dX9_driftOneNight_31 : decode cX9_driftOneNight 31 = .ok (.getfield 57, 3) := by decide +kernel
theorem dX9_driftOneNight_34 : decode cX9_driftOneNight 34 = .ok (.iconst 4, 1) := by decide +kernel
theorem dX9_driftOneNight_35 : decode cX9_driftOneNight 35 = .ok (.invokevirtual 309, 3) := by decide +kernel
theorem dX9_driftOneNight_38 : decode cX9_driftOneNight 38 = .ok (.ifCond .ne 25, 3) := by decide +kernel
theorem dX9_driftOneNight_41 : decode cX9_driftOneNight 41 = .ok (.aload_n 0, 1) := by decide +kernel
theorem dX9_driftOneNight_42 : decode cX9_driftOneNight 42 = .ok (.getfield 36, 3) := by decide +kernel
theorem dX9_driftOneNight_45 : decode cX9_driftOneNight 45 = .ok (.aload_n 0, 1) := by decide +kernel
theorem dX9_driftOneNight_46 : decode cX9_driftOneNight 46 = .ok (.getfield 57, 3) := by decide +kernel
theorem dX9_driftOneNight_49 : decode cX9_driftOneNight 49 = .ok (.aload_n 0, 1) := by decide +kernel
theorem dX9_driftOneNight_50 : decode cX9_driftOneNight 50 = .ok (.getfield 29, 3) := by decide +kernel
theorem dX9_driftOneNight_53 : decode cX9_driftOneNight 53 = .ok (.getfield 112, 3) := by decide +kernel
theorem dX9_driftOneNight_56 : decode cX9_driftOneNight 56 = .ok (.invokevirtual 309, 3) := by decide +kernel
theorem dX9_driftOneNight_59 : decode cX9_driftOneNight 59 = .ok (.iconst 1, 1) := by decide +kernel
theorem dX9_driftOneNight_60 : decode cX9_driftOneNight 60 = .ok (.invokevirtual 227, 3) := by decide +kernel
theorem dX9_driftOneNight_63 : decode cX9_driftOneNight 63 = .ok (.return_, 1) := by decide +kernel
theorem dX10_init_0 : decode cX10_init 0 = .ok (.aload_n 0, 1) := by decide +kernel
theorem dX10_init_1 : decode cX10_init 1 = .ok (.invokespecial 1, 3) := by decide +kernel
theorem dX10_init_4 : decode cX10_init 4 = .ok (.aload_n 0, 1) := by decide +kernel
theorem dX10_init_5 : decode cX10_init 5 = .ok (.sipush 240, 3) := by decide +kernel
theorem dX10_init_8 : decode cX10_init 8 = .ok (.newarray .int, 2) := by decide +kernel
theorem dX10_init_10 : decode cX10_init 10 = .ok (.putfield 7, 3) := by decide +kernel
theorem dX10_init_13 : decode cX10_init 13 = .ok (.aload_n 0, 1) := by decide +kernel
theorem dX10_init_14 : decode cX10_init 14 = .ok (.iconst (-1), 1) := by decide +kernel
theorem dX10_init_15 : decode cX10_init 15 = .ok (.putfield 13, 3) := by decide +kernel
theorem dX10_init_18 : decode cX10_init 18 = .ok (.aload_n 0, 1) := by decide +kernel
theorem dX10_init_19 : decode cX10_init 19 = .ok (.iconst 4, 1) := by decide +kernel
theorem dX10_init_20 : decode cX10_init 20 = .ok (.newarray .int, 2) := by decide +kernel
theorem dX10_init_22 : decode cX10_init 22 = .ok (.putfield 17, 3) := by decide +kernel
theorem dX10_init_25 : decode cX10_init 25 = .ok (.aload_n 0, 1) := by decide +kernel
theorem dX10_init_26 : decode cX10_init 26 = .ok (.bipush 20, 2) := by decide +kernel
theorem dX10_init_28 : decode cX10_init 28 = .ok (.newarray .int, 2) := by decide +kernel
theorem dX10_init_30 : decode cX10_init 30 = .ok (.putfield 20, 3) := by decide +kernel
theorem dX10_init_33 : decode cX10_init 33 = .ok (.aload_n 0, 1) := by decide +kernel
theorem dX10_init_34 : decode cX10_init 34 = .ok (.bipush 20, 2) := by decide +kernel
theorem dX10_init_36 : decode cX10_init 36 = .ok (.newarray .int, 2) := by decide +kernel
theorem dX10_init_38 : decode cX10_init 38 = .ok (.putfield 23, 3) := by decide +kernel
theorem dX10_init_41 : decode cX10_init 41 = .ok (.aload_n 0, 1) := by decide +kernel
theorem dX10_init_42 : decode cX10_init 42 = .ok (.bipush 12, 2) := by decide +kernel
theorem dX10_init_44 : decode cX10_init 44 = .ok (.newarray .int, 2) := by decide +kernel
theorem dX10_init_46 : decode cX10_init 46 = .ok (.putfield 26, 3) := by decide +kernel
theorem dX10_init_49 : decode cX10_init 49 = .ok (.aload_n 0, 1) := by decide +kernel
theorem dX10_init_50 : decode cX10_init 50 = .ok (.bipush 10, 2) := by decide +kernel
theorem dX10_init_52 : decode cX10_init 52 = .ok (.newarray .int, 2) := by decide +kernel
theorem dX10_init_54 : decode cX10_init 54 = .ok (.putfield 29, 3) := by decide +kernel
theorem dX10_init_57 : decode cX10_init 57 = .ok (.aload_n 0, 1) := by decide +kernel
theorem dX10_init_58 : decode cX10_init 58 = .ok (.iconst 4, 1) := by decide +kernel
theorem dX10_init_59 : decode cX10_init 59 = .ok (.newarray .int, 2) := by decide +kernel
theorem dX10_init_61 : decode cX10_init 61 = .ok (.putfield 32, 3) := by decide +kernel
theorem dX10_init_64 : decode cX10_init 64 = .ok (.aload_n 0, 1) := by decide +kernel
theorem dX10_init_65 : decode cX10_init 65 = .ok (.bipush 20, 2) := by decide +kernel
theorem dX10_init_67 : decode cX10_init 67 = .ok (.newarray .int, 2) := by decide +kernel
theorem dX10_init_69 : decode cX10_init 69 = .ok (.putfield 35, 3) := by decide +kernel
theorem dX10_init_72 : decode cX10_init 72 = .ok (.aload_n 0, 1) := by decide +kernel
theorem dX10_init_73 : decode cX10_init 73 = .ok (.bipush 20, 2) := by decide +kernel
theorem dX10_init_75 : decode cX10_init 75 = .ok (.newarray .int, 2) := by decide +kernel
theorem dX10_init_77 : decode cX10_init 77 = .ok (.putfield 38, 3) := by decide +kernel
theorem dX10_init_80 : decode cX10_init 80 = .ok (.aload_n 0, 1) := by decide +kernel
theorem dX10_init_81 : decode cX10_init 81 = .ok (.bipush 12, 2) := by decide +kernel
theorem dX10_init_83 : decode cX10_init 83 = .ok (.newarray .int, 2) := by decide +kernel
theorem dX10_init_85 : decode cX10_init 85 = .ok (.putfield 41, 3) := by decide +kernel
theorem dX10_init_88 : decode cX10_init 88 = .ok (.aload_n 0, 1) := by decide +kernel
theorem dX10_init_89 : decode cX10_init 89 = .ok (.bipush 10, 2) := by decide +kernel
theorem dX10_init_91 : decode cX10_init 91 = .ok (.newarray .int, 2) := by decide +kernel
theorem dX10_init_93 : decode cX10_init 93 = .ok (.putfield 44, 3) := by decide +kernel
theorem dX10_init_96 : decode cX10_init 96 = .ok (.aload_n 0, 1) := by decide +kernel
theorem dX10_init_97 : decode cX10_init 97 = .ok (.bipush 35, 2) := by decide +kernel
theorem dX10_init_99 : decode cX10_init 99 = .ok (.newarray .int, 2) := by decide +kernel
theorem dX10_init_101 : decode cX10_init 101 = .ok (.putfield 47, 3) := by decide +kernel
theorem dX10_init_104 : decode cX10_init 104 = .ok (.aload_n 0, 1) := by decide +kernel
theorem dX10_init_105 : decode cX10_init 105 = .ok (.bipush 35, 2) := by decide +kernel
theorem dX10_init_107 : decode cX10_init 107 = .ok (.newarray .int, 2) := by decide +kernel
theorem dX10_init_109 : decode cX10_init 109 = .ok (.putfield 50, 3) := by decide +kernel
theorem dX10_init_112 : decode cX10_init 112 = .ok (.aload_n 0, 1) := by decide +kernel
theorem dX10_init_113 : decode cX10_init 113 = .ok (.sipush 700, 3) := by decide +kernel
theorem dX10_init_116 : decode cX10_init 116 = .ok (.newarray .int, 2) := by decide +kernel
theorem dX10_init_118 : decode cX10_init 118 = .ok (.putfield 53, 3) := by decide +kernel
theorem dX10_init_121 : decode cX10_init 121 = .ok (.aload_n 0, 1) := by decide +kernel
theorem dX10_init_122 : decode cX10_init 122 = .ok (.bipush 70, 2) := by decide +kernel
theorem dX10_init_124 : decode cX10_init 124 = .ok (.newarray .int, 2) := by decide +kernel
theorem dX10_init_126 : decode cX10_init 126 = .ok (.putfield 56, 3) := by decide +kernel
theorem dX10_init_129 : decode cX10_init 129 = .ok (.aload_n 0, 1) := by decide +kernel
theorem dX10_init_130 : decode cX10_init 130 = .ok (.iconst 2, 1) := by decide +kernel
theorem dX10_init_131 : decode cX10_init 131 = .ok (.newarray .int, 2) := by decide +kernel
theorem dX10_init_133 : decode cX10_init 133 = .ok (.putfield 59, 3) := by decide +kernel
theorem dX10_init_136 : decode cX10_init 136 = .ok (.aload_n 0, 1) := by decide +kernel
theorem dX10_init_137 : decode cX10_init 137 = .ok (.iconst 2, 1) := by decide +kernel
theorem dX10_init_138 : decode cX10_init 138 = .ok (.newarray .boolean, 2) := by decide +kernel
theorem dX10_init_140 : decode cX10_init 140 = .ok (.putfield 62, 3) := by decide +kernel
theorem dX10_init_143 : decode cX10_init 143 = .ok (.aload_n 0, 1) := by decide +kernel
theorem dX10_init_144 : decode cX10_init 144 = .ok (.bipush 12, 2) := by decide +kernel
theorem dX10_init_146 : decode cX10_init 146 = .ok (.newarray .int, 2) := by decide +kernel
theorem dX10_init_148 : decode cX10_init 148 = .ok (.putfield 66, 3) := by decide +kernel
theorem dX10_init_151 : decode cX10_init 151 = .ok (.aload_n 0, 1) := by decide +kernel
theorem dX10_init_152 : decode cX10_init 152 = .ok (.bipush 30, 2) := by decide +kernel
theorem dX10_init_154 : decode cX10_init 154 = .ok (.newarray .int, 2) := by decide +kernel
theorem dX10_init_156 : decode cX10_init 156 = .ok (.putfield 69, 3) := by decide +kernel
theorem dX10_init_159 : decode cX10_init 159 = .ok (.aload_n 0, 1) := by decide +kernel
theorem dX10_init_160 : decode cX10_init 160 = .ok (.sipush 1000, 3) := by decide +kernel
theorem dX10_init_163 : decode cX10_init 163 = .ok (.newarray .int, 2) := by decide +kernel
theorem dX10_init_165 : decode cX10_init 165 = .ok (.putfield 72, 3) := by decide +kernel
theorem dX10_init_168 : decode cX10_init 168 = .ok (.aload_n 0, 1) := by decide +kernel
theorem dX10_init_169 : decode cX10_init 169 = .ok (.sipush 1000, 3) := by decide +kernel
theorem dX10_init_172 : decode cX10_init 172 = .ok (.newarray .int, 2) := by decide +kernel
theorem dX10_init_174 : decode cX10_init 174 = .ok (.putfield 75, 3) := by decide +kernel
theorem dX10_init_177 : decode cX10_init 177 = .ok (.aload_n 0, 1) := by decide +kernel
theorem dX10_init_178 : decode cX10_init 178 = .ok (.bipush 40, 2) := by decide +kernel
theorem dX10_init_180 : decode cX10_init 180 = .ok (.newarray .int, 2) := by decide +kernel
theorem dX10_init_182 : decode cX10_init 182 = .ok (.putfield 78, 3) := by decide +kernel
theorem dX10_init_185 : decode cX10_init 185 = .ok (.return_, 1) := by decide +kernel
theorem dX10_in_0 : decode cX10_in 0 = .ok (.iload_n 0, 1) := by decide +kernel
theorem dX10_in_1 : decode cX10_in 1 = .ok (.iload_n 1, 1) := by decide +kernel
theorem dX10_in_2 : decode cX10_in 2 = .ok (.if_icmp .lt 12, 3) := by decide +kernel
theorem dX10_in_5 : decode cX10_in 5 = .ok (.iload_n 0, 1) := by decide +kernel
theorem dX10_in_6 : decode cX10_in 6 = .ok (.iload_n 2, 1) := by decide +kernel
theorem dX10_in_7 : decode cX10_in 7 = .ok (.if_icmp .gt 7, 3) := by decide +kernel
theorem dX10_in_10 : decode cX10_in 10 = .ok (.iconst 1, 1) := by decide +kernel
theorem dX10_in_11 : decode cX10_in 11 = .ok (.goto 4, 3) := by decide +kernel
theorem dX10_in_14 : decode cX10_in 14 = .ok (.iconst 0, 1) := by decide +kernel
theorem dX10_in_15 : decode cX10_in 15 = .ok (.ireturn, 1) := by decide +kernel
set_option maxRecDepth 20000 in
theorem ggX10_feed_X10_in : GoodIn wsX10_feed wsX10_in := goodIn_r _ [8] (by decide +kernel) (by decide +kernel)
set_option maxRecDepth 20000 in
theorem gX10_feed_X10_in : GoodIn wsX10_feed (va_wsS RX10 81 yX10_in wsX10_in) := goodIn_app (goodIn_of _ (by decide +kernel)) ggX10_feed_X10_in
theorem dX10_feed_0 : decode cX10_feed 0 = .ok (.iload_n 1, 1) := by decide +kernel
theorem dX10_feed_1 : decode cX10_feed 1 = .ok (.iconst 0, 1) := by decide +kernel
theorem dX10_feed_2 : decode cX10_feed 2 = .ok (.sipush 255, 3) := by decide +kernel
