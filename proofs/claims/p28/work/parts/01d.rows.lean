theorem dX1_property_1 : decode cX1_property 1 = .ok (.iconst 4, 1) := by decide +kernel
theorem dX1_property_2 : decode cX1_property 2 = .ok (.if_icmp .ne 29, 3) := by decide +kernel
theorem dX1_property_5 : decode cX1_property 5 = .ok (.aload_n 0, 1) := by decide +kernel
theorem dX1_property_6 : decode cX1_property 6 = .ok (.getfield 9, 3) := by decide +kernel
theorem dX1_property_9 : decode cX1_property 9 = .ok (.iload_n 1, 1) := by decide +kernel
theorem dX1_property_10 : decode cX1_property 10 = .ok (.iconst 3, 1) := by decide +kernel
theorem dX1_property_11 : decode cX1_property 11 = .ok (.invokestatic 91, 3) := by decide +kernel
theorem dX1_property_14 : decode cX1_property 14 = .ok (.iaload, 1) := by decide +kernel
theorem dX1_property_15 : decode cX1_property 15 = .ok (.aload_n 0, 1) := by decide +kernel
theorem dX1_property_16 : decode cX1_property 16 = .ok (.getfield 9, 3) := by decide +kernel
theorem dX1_property_19 : decode cX1_property 19 = .ok (.bipush 13, 2) := by decide +kernel
theorem dX1_property_21 : decode cX1_property 21 = .ok (.iaload, 1) := by decide +kernel
theorem dX1_property_22 : decode cX1_property 22 = .ok (.if_icmp .lt 7, 3) := by decide +kernel
theorem dX1_property_25 : decode cX1_property 25 = .ok (.iconst 1, 1) := by decide +kernel
theorem dX1_property_26 : decode cX1_property 26 = .ok (.goto 4, 3) := by decide +kernel
theorem dX1_property_29 : decode cX1_property 29 = .ok (.iconst 0, 1) := by decide +kernel
theorem dX1_property_30 : decode cX1_property 30 = .ok (.ireturn, 1) := by decide +kernel
theorem dX1_property_31 : decode cX1_property 31 = .ok (.iload_n 2, 1) := by decide +kernel
theorem dX1_property_32 : decode cX1_property 32 = .ok (.iconst 5, 1) := by decide +kernel
theorem dX1_property_33 : decode cX1_property 33 = .ok (.if_icmp .ne 14, 3) := by decide +kernel
theorem dX1_property_36 : decode cX1_property 36 = .ok (.aload_n 0, 1) := by decide +kernel
theorem dX1_property_37 : decode cX1_property 37 = .ok (.iload_n 1, 1) := by decide +kernel
theorem dX1_property_38 : decode cX1_property 38 = .ok (.aload_n 0, 1) := by decide +kernel
theorem dX1_property_39 : decode cX1_property 39 = .ok (.iload_n 1, 1) := by decide +kernel
theorem dX1_property_40 : decode cX1_property 40 = .ok (.invokevirtual 83, 3) := by decide +kernel
theorem dX1_property_43 : decode cX1_property 43 = .ok (.invokevirtual 220, 3) := by decide +kernel
theorem dX1_property_46 : decode cX1_property 46 = .ok (.ireturn, 1) := by decide +kernel
theorem dX1_property_47 : decode cX1_property 47 = .ok (.aload_n 0, 1) := by decide +kernel
theorem dX1_property_48 : decode cX1_property 48 = .ok (.getfield 9, 3) := by decide +kernel
theorem dX1_property_51 : decode cX1_property 51 = .ok (.iload_n 1, 1) := by decide +kernel
theorem dX1_property_52 : decode cX1_property 52 = .ok (.iload_n 2, 1) := by decide +kernel
theorem dX1_property_53 : decode cX1_property 53 = .ok (.invokestatic 91, 3) := by decide +kernel
theorem dX1_property_56 : decode cX1_property 56 = .ok (.iaload, 1) := by decide +kernel
theorem dX1_property_57 : decode cX1_property 57 = .ok (.ireturn, 1) := by decide +kernel
set_option maxRecDepth 20000 in
theorem ggX1_someMovementRuns_X1_goes : GoodIn wsX1_someMovementRuns wsX1_goes := goodIn_r _ [6, 1, 7, 8, 5, 9, 10, 11, 12, 13, 14, 15] (by decide +kernel) (by decide +kernel)
set_option maxRecDepth 20000 in
theorem gX1_someMovementRuns_X1_goes : GoodIn wsX1_someMovementRuns (wsV RX1 83 RX1 yX1_goes wsX1_goes) := goodIn_app (goodIn_of _ (by decide +kernel)) ggX1_someMovementRuns_X1_goes
set_option maxRecDepth 20000 in
theorem ggX1_someMovementRuns_X1_place : GoodIn wsX1_someMovementRuns wsX1_place := goodIn_r _ [9] (by decide +kernel) (by decide +kernel)
set_option maxRecDepth 20000 in
theorem gX1_someMovementRuns_X1_place : GoodIn wsX1_someMovementRuns (va_wsS RX1 91 yX1_place wsX1_place) := goodIn_app (goodIn_of _ (by decide +kernel)) ggX1_someMovementRuns_X1_place
theorem dX1_someMovementRuns_0 : decode cX1_someMovementRuns 0 = .ok (.iconst 0, 1) := by decide +kernel
theorem dX1_someMovementRuns_1 : decode cX1_someMovementRuns 1 = .ok (.istore_n 1, 1) := by decide +kernel
theorem dX1_someMovementRuns_2 : decode cX1_someMovementRuns 2 = .ok (.iload_n 1, 1) := by decide +kernel
theorem dX1_someMovementRuns_3 : decode cX1_someMovementRuns 3 = .ok (.iconst 3, 1) := by decide +kernel
theorem dX1_someMovementRuns_4 : decode cX1_someMovementRuns 4 = .ok (.if_icmp .ge 32, 3) := by decide +kernel
theorem dX1_someMovementRuns_7 : decode cX1_someMovementRuns 7 = .ok (.aload_n 0, 1) := by decide +kernel
theorem dX1_someMovementRuns_8 : decode cX1_someMovementRuns 8 = .ok (.iload_n 1, 1) := by decide +kernel
theorem dX1_someMovementRuns_9 : decode cX1_someMovementRuns 9 = .ok (.invokevirtual 83, 3) := by decide +kernel
theorem dX1_someMovementRuns_12 : decode cX1_someMovementRuns 12 = .ok (.ifCond .eq 18, 3) := by decide +kernel
theorem dX1_someMovementRuns_15 : decode cX1_someMovementRuns 15 = .ok (.aload_n 0, 1) := by decide +kernel
theorem dX1_someMovementRuns_16 : decode cX1_someMovementRuns 16 = .ok (.getfield 9, 3) := by decide +kernel
theorem dX1_someMovementRuns_19 : decode cX1_someMovementRuns 19 = .ok (.iload_n 1, 1) := by decide +kernel
theorem dX1_someMovementRuns_20 : decode cX1_someMovementRuns 20 = .ok (.iconst 0, 1) := by decide +kernel
theorem dX1_someMovementRuns_21 : decode cX1_someMovementRuns 21 = .ok (.invokestatic 91, 3) := by decide +kernel
theorem dX1_someMovementRuns_24 : decode cX1_someMovementRuns 24 = .ok (.iaload, 1) := by decide +kernel
theorem dX1_someMovementRuns_25 : decode cX1_someMovementRuns 25 = .ok (.ifCond .le 5, 3) := by decide +kernel
theorem dX1_someMovementRuns_28 : decode cX1_someMovementRuns 28 = .ok (.iconst 1, 1) := by decide +kernel
theorem dX1_someMovementRuns_29 : decode cX1_someMovementRuns 29 = .ok (.ireturn, 1) := by decide +kernel
theorem dX1_someMovementRuns_30 : decode cX1_someMovementRuns 30 = .ok (.iinc 1 1, 3) := by decide +kernel
theorem dX1_someMovementRuns_33 : decode cX1_someMovementRuns 33 = .ok (.goto (-31), 3) := by decide +kernel
theorem dX1_someMovementRuns_36 : decode cX1_someMovementRuns 36 = .ok (.iconst 0, 1) := by decide +kernel
theorem dX1_someMovementRuns_37 : decode cX1_someMovementRuns 37 = .ok (.ireturn, 1) := by decide +kernel
set_option maxRecDepth 20000 in
theorem ggX1_movementsRunDown_X1_place : GoodIn wsX1_movementsRunDown wsX1_place := goodIn_r _ [5] (by decide +kernel) (by decide +kernel)
set_option maxRecDepth 20000 in
theorem gX1_movementsRunDown_X1_place : GoodIn wsX1_movementsRunDown (va_wsS RX1 91 yX1_place wsX1_place) := goodIn_app (goodIn_of _ (by decide +kernel)) ggX1_movementsRunDown_X1_place
theorem dX1_movementsRunDown_0 : decode cX1_movementsRunDown 0 = .ok (.iconst 0, 1) := by decide +kernel
theorem dX1_movementsRunDown_1 : decode cX1_movementsRunDown 1 = .ok (.istore_n 1, 1) := by decide +kernel
theorem dX1_movementsRunDown_2 : decode cX1_movementsRunDown 2 = .ok (.iconst 0, 1) := by decide +kernel
theorem dX1_movementsRunDown_3 : decode cX1_movementsRunDown 3 = .ok (.istore_n 2, 1) := by decide +kernel
theorem dX1_movementsRunDown_4 : decode cX1_movementsRunDown 4 = .ok (.iload_n 2, 1) := by decide +kernel
theorem dX1_movementsRunDown_5 : decode cX1_movementsRunDown 5 = .ok (.iconst 3, 1) := by decide +kernel
theorem dX1_movementsRunDown_6 : decode cX1_movementsRunDown 6 = .ok (.if_icmp .ge 25, 3) := by decide +kernel
theorem dX1_movementsRunDown_9 : decode cX1_movementsRunDown 9 = .ok (.aload_n 0, 1) := by decide +kernel
theorem dX1_movementsRunDown_10 : decode cX1_movementsRunDown 10 = .ok (.getfield 9, 3) := by decide +kernel
theorem dX1_movementsRunDown_13 : decode cX1_movementsRunDown 13 = .ok (.iload_n 2, 1) := by decide +kernel
theorem dX1_movementsRunDown_14 : decode cX1_movementsRunDown 14 = .ok (.iconst 0, 1) := by decide +kernel
theorem dX1_movementsRunDown_15 : decode cX1_movementsRunDown 15 = .ok (.invokestatic 91, 3) := by decide +kernel
theorem dX1_movementsRunDown_18 : decode cX1_movementsRunDown 18 = .ok (.iaload, 1) := by decide +kernel
theorem dX1_movementsRunDown_19 : decode cX1_movementsRunDown 19 = .ok (.ifCond .ne 6, 3) := by decide +kernel
theorem dX1_movementsRunDown_22 : decode cX1_movementsRunDown 22 = .ok (.iinc 1 1, 3) := by decide +kernel
theorem dX1_movementsRunDown_25 : decode cX1_movementsRunDown 25 = .ok (.iinc 2 1, 3) := by decide +kernel
theorem dX1_movementsRunDown_28 : decode cX1_movementsRunDown 28 = .ok (.goto (-24), 3) := by decide +kernel
theorem dX1_movementsRunDown_31 : decode cX1_movementsRunDown 31 = .ok (.iload_n 1, 1) := by decide +kernel
theorem dX1_movementsRunDown_32 : decode cX1_movementsRunDown 32 = .ok (.ireturn, 1) := by decide +kernel
set_option maxRecDepth 20000 in
theorem ggX1_hoursToRunDown_X1_place : GoodIn wsX1_hoursToRunDown wsX1_place := goodIn_r _ [5] (by decide +kernel) (by decide +kernel)
set_option maxRecDepth 20000 in
theorem gX1_hoursToRunDown_X1_place : GoodIn wsX1_hoursToRunDown (va_wsS RX1 91 yX1_place wsX1_place) := goodIn_app (goodIn_of _ (by decide +kernel)) ggX1_hoursToRunDown_X1_place
theorem dX1_hoursToRunDown_0 : decode cX1_hoursToRunDown 0 = .ok (.aload_n 0, 1) := by decide +kernel
theorem dX1_hoursToRunDown_1 : decode cX1_hoursToRunDown 1 = .ok (.getfield 9, 3) := by decide +kernel
theorem dX1_hoursToRunDown_4 : decode cX1_hoursToRunDown 4 = .ok (.iload_n 1, 1) := by decide +kernel
theorem dX1_hoursToRunDown_5 : decode cX1_hoursToRunDown 5 = .ok (.iconst 0, 1) := by decide +kernel
theorem dX1_hoursToRunDown_6 : decode cX1_hoursToRunDown 6 = .ok (.invokestatic 91, 3) := by decide +kernel
theorem dX1_hoursToRunDown_9 : decode cX1_hoursToRunDown 9 = .ok (.iaload, 1) := by decide +kernel
theorem dX1_hoursToRunDown_10 : decode cX1_hoursToRunDown 10 = .ok (.istore_n 3, 1) := by decide +kernel
theorem dX1_hoursToRunDown_11 : decode cX1_hoursToRunDown 11 = .ok (.aload_n 0, 1) := by decide +kernel
theorem dX1_hoursToRunDown_12 : decode cX1_hoursToRunDown 12 = .ok (.getfield 9, 3) := by decide +kernel
theorem dX1_hoursToRunDown_15 : decode cX1_hoursToRunDown 15 = .ok (.iload_n 1, 1) := by decide +kernel
theorem dX1_hoursToRunDown_16 : decode cX1_hoursToRunDown 16 = .ok (.iconst 2, 1) := by decide +kernel
theorem dX1_hoursToRunDown_17 : decode cX1_hoursToRunDown 17 = .ok (.invokestatic 91, 3) := by decide +kernel
theorem dX1_hoursToRunDown_20 : decode cX1_hoursToRunDown 20 = .ok (.iaload, 1) := by decide +kernel
theorem dX1_hoursToRunDown_21 : decode cX1_hoursToRunDown 21 = .ok (.istore 4, 2) := by decide +kernel
theorem dX1_hoursToRunDown_23 : decode cX1_hoursToRunDown 23 = .ok (.iload_n 3, 1) := by decide +kernel
theorem dX1_hoursToRunDown_24 : decode cX1_hoursToRunDown 24 = .ok (.ifCond .ne 5, 3) := by decide +kernel
theorem dX1_hoursToRunDown_27 : decode cX1_hoursToRunDown 27 = .ok (.iconst 0, 1) := by decide +kernel
theorem dX1_hoursToRunDown_28 : decode cX1_hoursToRunDown 28 = .ok (.ireturn, 1) := by decide +kernel
theorem dX1_hoursToRunDown_29 : decode cX1_hoursToRunDown 29 = .ok (.iload_n 2, 1) := by decide +kernel
theorem dX1_hoursToRunDown_30 : decode cX1_hoursToRunDown 30 = .ok (.ifCond .eq 9, 3) := by decide +kernel
theorem dX1_hoursToRunDown_33 : decode cX1_hoursToRunDown 33 = .ok (.iload 4, 2) := by decide +kernel
theorem dX1_hoursToRunDown_35 : decode cX1_hoursToRunDown 35 = .ok (.iconst 1, 1) := by decide +kernel
theorem dX1_hoursToRunDown_36 : decode cX1_hoursToRunDown 36 = .ok (.if_icmp .ne 5, 3) := by decide +kernel
theorem dX1_hoursToRunDown_39 : decode cX1_hoursToRunDown 39 = .ok (.iconst (-1), 1) := by decide +kernel
theorem dX1_hoursToRunDown_40 : decode cX1_hoursToRunDown 40 = .ok (.ireturn, 1) := by decide +kernel
theorem dX1_hoursToRunDown_41 : decode cX1_hoursToRunDown 41 = .ok (.iload 4, 2) := by decide +kernel
theorem dX1_hoursToRunDown_43 : decode cX1_hoursToRunDown 43 = .ok (.ifCond .gt 5, 3) := by decide +kernel
theorem dX1_hoursToRunDown_46 : decode cX1_hoursToRunDown 46 = .ok (.iload_n 3, 1) := by decide +kernel
theorem dX1_hoursToRunDown_47 : decode cX1_hoursToRunDown 47 = .ok (.ireturn, 1) := by decide +kernel
theorem dX1_hoursToRunDown_48 : decode cX1_hoursToRunDown 48 = .ok (.aload_n 0, 1) := by decide +kernel
theorem dX1_hoursToRunDown_49 : decode cX1_hoursToRunDown 49 = .ok (.getfield 9, 3) := by decide +kernel
theorem dX1_hoursToRunDown_52 : decode cX1_hoursToRunDown 52 = .ok (.iload_n 1, 1) := by decide +kernel
theorem dX1_hoursToRunDown_53 : decode cX1_hoursToRunDown 53 = .ok (.iconst 3, 1) := by decide +kernel
theorem dX1_hoursToRunDown_54 : decode cX1_hoursToRunDown 54 = .ok (.invokestatic 91, 3) := by decide +kernel
theorem dX1_hoursToRunDown_57 : decode cX1_hoursToRunDown 57 = .ok (.iaload, 1) := by decide +kernel
theorem dX1_hoursToRunDown_58 : decode cX1_hoursToRunDown 58 = .ok (.iload 4, 2) := by decide +kernel
theorem dX1_hoursToRunDown_60 : decode cX1_hoursToRunDown 60 = .ok (.irem, 1) := by decide +kernel
theorem dX1_hoursToRunDown_61 : decode cX1_hoursToRunDown 61 = .ok (.istore 5, 2) := by decide +kernel
theorem dX1_hoursToRunDown_63 : decode cX1_hoursToRunDown 63 = .ok (.iload_n 3, 1) := by decide +kernel
theorem dX1_hoursToRunDown_64 : decode cX1_hoursToRunDown 64 = .ok (.iload 5, 2) := by decide +kernel
theorem dX1_hoursToRunDown_66 : decode cX1_hoursToRunDown 66 = .ok (.iload_n 3, 1) := by decide +kernel
theorem dX1_hoursToRunDown_67 : decode cX1_hoursToRunDown 67 = .ok (.iadd, 1) := by decide +kernel
theorem dX1_hoursToRunDown_68 : decode cX1_hoursToRunDown 68 = .ok (.iconst 1, 1) := by decide +kernel
theorem dX1_hoursToRunDown_69 : decode cX1_hoursToRunDown 69 = .ok (.isub, 1) := by decide +kernel
theorem dX1_hoursToRunDown_70 : decode cX1_hoursToRunDown 70 = .ok (.iload 4, 2) := by decide +kernel
theorem dX1_hoursToRunDown_72 : decode cX1_hoursToRunDown 72 = .ok (.iconst 1, 1) := by decide +kernel
theorem dX1_hoursToRunDown_73 : decode cX1_hoursToRunDown 73 = .ok (.isub, 1) := by decide +kernel
theorem dX1_hoursToRunDown_74 : decode cX1_hoursToRunDown 74 = .ok (.idiv, 1) := by decide +kernel
theorem dX1_hoursToRunDown_75 : decode cX1_hoursToRunDown 75 = .ok (.iadd, 1) := by decide +kernel
theorem dX1_hoursToRunDown_76 : decode cX1_hoursToRunDown 76 = .ok (.ireturn, 1) := by decide +kernel
set_option maxRecDepth 20000 in
theorem ggX1_hoursToWind_X1_hoursToOpening : GoodIn wsX1_hoursToWind wsX1_hoursToOpening := goodIn_r _ [6, 1, 7, 8, 9, 5, 10, 11, 12, 13, 14, 28, 29, 30, 31, 32, 33] (by decide +kernel) (by decide +kernel)
set_option maxRecDepth 20000 in
theorem gX1_hoursToWind_X1_hoursToOpening : GoodIn wsX1_hoursToWind (wsV RX1 106 RX1 yX1_hoursToOpening wsX1_hoursToOpening) := goodIn_app (goodIn_of _ (by decide +kernel)) ggX1_hoursToWind_X1_hoursToOpening
set_option maxRecDepth 20000 in
theorem ggX1_hoursToWind_X1_place : GoodIn wsX1_hoursToWind wsX1_place := goodIn_r _ [17] (by decide +kernel) (by decide +kernel)
set_option maxRecDepth 20000 in
theorem gX1_hoursToWind_X1_place : GoodIn wsX1_hoursToWind (va_wsS RX1 91 yX1_place wsX1_place) := goodIn_app (goodIn_of _ (by decide +kernel)) ggX1_hoursToWind_X1_place
set_option maxRecDepth 20000 in
theorem ggX1_hoursToWind_X1_goes : GoodIn wsX1_hoursToWind wsX1_goes := goodIn_r _ [21, 1, 15, 16, 5, 17, 28, 29, 30, 31, 32, 33] (by decide +kernel) (by decide +kernel)
set_option maxRecDepth 20000 in
theorem gX1_hoursToWind_X1_goes : GoodIn wsX1_hoursToWind (wsV RX1 83 RX1 yX1_goes wsX1_goes) := goodIn_app (goodIn_of _ (by decide +kernel)) ggX1_hoursToWind_X1_goes
set_option maxRecDepth 20000 in
theorem ggX1_hoursToWind_X1_isLostHour : GoodIn wsX1_hoursToWind wsX1_isLostHour := goodIn_r _ [24] (by decide +kernel) (by decide +kernel)
set_option maxRecDepth 20000 in
theorem gX1_hoursToWind_X1_isLostHour : GoodIn wsX1_hoursToWind (va_wsS RX1 224 yX1_isLostHour wsX1_isLostHour) := goodIn_app (goodIn_of _ (by decide +kernel)) ggX1_hoursToWind_X1_isLostHour
set_option maxRecDepth 20000 in
theorem ggX1_hoursToWind_X1_areWindingHours : GoodIn wsX1_hoursToWind wsX1_areWindingHours := goodIn_r _ [27] (by decide +kernel) (by decide +kernel)
set_option maxRecDepth 20000 in
theorem gX1_hoursToWind_X1_areWindingHours : GoodIn wsX1_hoursToWind (va_wsS RX1 74 yX1_areWindingHours wsX1_areWindingHours) := goodIn_app (goodIn_of _ (by decide +kernel)) ggX1_hoursToWind_X1_areWindingHours
theorem dX1_hoursToWind_0 : decode cX1_hoursToWind 0 = .ok (.aload_n 0, 1) := by decide +kernel
theorem dX1_hoursToWind_1 : decode cX1_hoursToWind 1 = .ok (.invokevirtual 106, 3) := by decide +kernel
theorem dX1_hoursToWind_4 : decode cX1_hoursToWind 4 = .ok (.istore_n 2, 1) := by decide +kernel
theorem dX1_hoursToWind_5 : decode cX1_hoursToWind 5 = .ok (.aload_n 0, 1) := by decide +kernel
theorem dX1_hoursToWind_6 : decode cX1_hoursToWind 6 = .ok (.getfield 9, 3) := by decide +kernel
theorem dX1_hoursToWind_9 : decode cX1_hoursToWind 9 = .ok (.iload_n 1, 1) := by decide +kernel
theorem dX1_hoursToWind_10 : decode cX1_hoursToWind 10 = .ok (.iconst 2, 1) := by decide +kernel
theorem dX1_hoursToWind_11 : decode cX1_hoursToWind 11 = .ok (.invokestatic 91, 3) := by decide +kernel
theorem dX1_hoursToWind_14 : decode cX1_hoursToWind 14 = .ok (.iaload, 1) := by decide +kernel
theorem dX1_hoursToWind_15 : decode cX1_hoursToWind 15 = .ok (.istore_n 3, 1) := by decide +kernel
theorem dX1_hoursToWind_16 : decode cX1_hoursToWind 16 = .ok (.aload_n 0, 1) := by decide +kernel
theorem dX1_hoursToWind_17 : decode cX1_hoursToWind 17 = .ok (.getfield 9, 3) := by decide +kernel
theorem dX1_hoursToWind_20 : decode cX1_hoursToWind 20 = .ok (.iload_n 1, 1) := by decide +kernel
theorem dX1_hoursToWind_21 : decode cX1_hoursToWind 21 = .ok (.iconst 3, 1) := by decide +kernel
theorem dX1_hoursToWind_22 : decode cX1_hoursToWind 22 = .ok (.invokestatic 91, 3) := by decide +kernel
theorem dX1_hoursToWind_25 : decode cX1_hoursToWind 25 = .ok (.iaload, 1) := by decide +kernel
theorem dX1_hoursToWind_26 : decode cX1_hoursToWind 26 = .ok (.istore 4, 2) := by decide +kernel
theorem dX1_hoursToWind_28 : decode cX1_hoursToWind 28 = .ok (.iload_n 2, 1) := by decide +kernel
theorem dX1_hoursToWind_29 : decode cX1_hoursToWind 29 = .ok (.iconst (-1), 1) := by decide +kernel
theorem dX1_hoursToWind_30 : decode cX1_hoursToWind 30 = .ok (.if_icmp .eq 22, 3) := by decide +kernel
theorem dX1_hoursToWind_33 : decode cX1_hoursToWind 33 = .ok (.aload_n 0, 1) := by decide +kernel
theorem dX1_hoursToWind_34 : decode cX1_hoursToWind 34 = .ok (.iload_n 1, 1) := by decide +kernel
theorem dX1_hoursToWind_35 : decode cX1_hoursToWind 35 = .ok (.invokevirtual 83, 3) := by decide +kernel
theorem dX1_hoursToWind_38 : decode cX1_hoursToWind 38 = .ok (.ifCond .eq 14, 3) := by decide +kernel
theorem dX1_hoursToWind_41 : decode cX1_hoursToWind 41 = .ok (.iload 4, 2) := by decide +kernel
theorem dX1_hoursToWind_43 : decode cX1_hoursToWind 43 = .ok (.iload_n 2, 1) := by decide +kernel
theorem dX1_hoursToWind_44 : decode cX1_hoursToWind 44 = .ok (.iadd, 1) := by decide +kernel
theorem dX1_hoursToWind_45 : decode cX1_hoursToWind 45 = .ok (.iload_n 3, 1) := by decide +kernel
theorem dX1_hoursToWind_46 : decode cX1_hoursToWind 46 = .ok (.invokestatic 224, 3) := by decide +kernel
theorem dX1_hoursToWind_49 : decode cX1_hoursToWind 49 = .ok (.ifCond .eq 5, 3) := by decide +kernel
theorem dX1_hoursToWind_52 : decode cX1_hoursToWind 52 = .ok (.iconst (-1), 1) := by decide +kernel
theorem dX1_hoursToWind_53 : decode cX1_hoursToWind 53 = .ok (.ireturn, 1) := by decide +kernel
theorem dX1_hoursToWind_54 : decode cX1_hoursToWind 54 = .ok (.iload_n 3, 1) := by decide +kernel
theorem dX1_hoursToWind_55 : decode cX1_hoursToWind 55 = .ok (.ifCond .gt 7, 3) := by decide +kernel
theorem dX1_hoursToWind_58 : decode cX1_hoursToWind 58 = .ok (.iconst 0, 1) := by decide +kernel
theorem dX1_hoursToWind_59 : decode cX1_hoursToWind 59 = .ok (.goto 14, 3) := by decide +kernel
theorem dX1_hoursToWind_62 : decode cX1_hoursToWind 62 = .ok (.iload 4, 2) := by decide +kernel
theorem dX1_hoursToWind_64 : decode cX1_hoursToWind 64 = .ok (.iload_n 2, 1) := by decide +kernel
theorem dX1_hoursToWind_65 : decode cX1_hoursToWind 65 = .ok (.iadd, 1) := by decide +kernel
theorem dX1_hoursToWind_66 : decode cX1_hoursToWind 66 = .ok (.iload_n 3, 1) := by decide +kernel
theorem dX1_hoursToWind_67 : decode cX1_hoursToWind 67 = .ok (.idiv, 1) := by decide +kernel
theorem dX1_hoursToWind_68 : decode cX1_hoursToWind 68 = .ok (.iload 4, 2) := by decide +kernel
theorem dX1_hoursToWind_70 : decode cX1_hoursToWind 70 = .ok (.iload_n 3, 1) := by decide +kernel
theorem dX1_hoursToWind_71 : decode cX1_hoursToWind 71 = .ok (.idiv, 1) := by decide +kernel
theorem dX1_hoursToWind_72 : decode cX1_hoursToWind 72 = .ok (.isub, 1) := by decide +kernel
theorem dX1_hoursToWind_73 : decode cX1_hoursToWind 73 = .ok (.istore 5, 2) := by decide +kernel
theorem dX1_hoursToWind_75 : decode cX1_hoursToWind 75 = .ok (.iload_n 2, 1) := by decide +kernel
theorem dX1_hoursToWind_76 : decode cX1_hoursToWind 76 = .ok (.iload 5, 2) := by decide +kernel
theorem dX1_hoursToWind_78 : decode cX1_hoursToWind 78 = .ok (.isub, 1) := by decide +kernel
theorem dX1_hoursToWind_79 : decode cX1_hoursToWind 79 = .ok (.invokestatic 74, 3) := by decide +kernel
theorem dX1_hoursToWind_82 : decode cX1_hoursToWind 82 = .ok (.ifCond .eq 10, 3) := by decide +kernel
theorem dX1_hoursToWind_85 : decode cX1_hoursToWind 85 = .ok (.iload_n 2, 1) := by decide +kernel
theorem dX1_hoursToWind_86 : decode cX1_hoursToWind 86 = .ok (.iload 5, 2) := by decide +kernel
theorem dX1_hoursToWind_88 : decode cX1_hoursToWind 88 = .ok (.isub, 1) := by decide +kernel
theorem dX1_hoursToWind_89 : decode cX1_hoursToWind 89 = .ok (.goto 4, 3) := by decide +kernel
theorem dX1_hoursToWind_92 : decode cX1_hoursToWind 92 = .ok (.iconst (-1), 1) := by decide +kernel
theorem dX1_hoursToWind_93 : decode cX1_hoursToWind 93 = .ok (.ireturn, 1) := by decide +kernel
theorem dX1_isLocked_0 : decode cX1_isLocked 0 = .ok (.aload_n 0, 1) := by decide +kernel
theorem dX1_isLocked_1 : decode cX1_isLocked 1 = .ok (.getfield 9, 3) := by decide +kernel
theorem dX1_isLocked_4 : decode cX1_isLocked 4 = .ok (.iconst 1, 1) := by decide +kernel
theorem dX1_isLocked_5 : decode cX1_isLocked 5 = .ok (.iaload, 1) := by decide +kernel
theorem dX1_isLocked_6 : decode cX1_isLocked 6 = .ok (.ifCond .eq 7, 3) := by decide +kernel
theorem dX1_isLocked_9 : decode cX1_isLocked 9 = .ok (.iconst 1, 1) := by decide +kernel
theorem dX1_isLocked_10 : decode cX1_isLocked 10 = .ok (.goto 4, 3) := by decide +kernel
theorem dX1_isLocked_13 : decode cX1_isLocked 13 = .ok (.iconst 0, 1) := by decide +kernel
theorem dX1_isLocked_14 : decode cX1_isLocked 14 = .ok (.ireturn, 1) := by decide +kernel
set_option maxRecDepth 20000 in
theorem ggX1_passHour_X1_isLocked : GoodIn wsX1_passHour wsX1_isLocked := goodIn_r _ [6, 1, 21, 22, 23, 24, 25, 26] (by decide +kernel) (by decide +kernel)
set_option maxRecDepth 20000 in
theorem gX1_passHour_X1_isLocked : GoodIn wsX1_passHour (wsV RX1 79 RX1 yX1_isLocked wsX1_isLocked) := goodIn_app (goodIn_of _ (by decide +kernel)) ggX1_passHour_X1_isLocked
set_option maxRecDepth 20000 in
theorem ggX1_passHour_X1_runHour : GoodIn wsX1_passHour wsX1_runHour := goodIn_r _ [10, 1, 11, 12, 13, 5, 14, 15, 16, 17, 18, 19, 20, 21, 22, 23, 24, 25, 26] (by decide +kernel) (by decide +kernel)
set_option maxRecDepth 20000 in
theorem gX1_passHour_X1_runHour : GoodIn wsX1_passHour (wsV RX1 228 RX1 yX1_runHour wsX1_runHour) := goodIn_app (goodIn_of _ (by decide +kernel)) ggX1_passHour_X1_runHour
theorem dX1_passHour_0 : decode cX1_passHour 0 = .ok (.aload_n 0, 1) := by decide +kernel
theorem dX1_passHour_1 : decode cX1_passHour 1 = .ok (.getfield 9, 3) := by decide +kernel
theorem dX1_passHour_4 : decode cX1_passHour 4 = .ok (.iconst 0, 1) := by decide +kernel
theorem dX1_passHour_5 : decode cX1_passHour 5 = .ok (.dup2, 1) := by decide +kernel
theorem dX1_passHour_6 : decode cX1_passHour 6 = .ok (.iaload, 1) := by decide +kernel
theorem dX1_passHour_7 : decode cX1_passHour 7 = .ok (.iconst 1, 1) := by decide +kernel
theorem dX1_passHour_8 : decode cX1_passHour 8 = .ok (.iadd, 1) := by decide +kernel
theorem dX1_passHour_9 : decode cX1_passHour 9 = .ok (.iastore, 1) := by decide +kernel
theorem dX1_passHour_10 : decode cX1_passHour 10 = .ok (.aload_n 0, 1) := by decide +kernel
theorem dX1_passHour_11 : decode cX1_passHour 11 = .ok (.invokevirtual 79, 3) := by decide +kernel
theorem dX1_passHour_14 : decode cX1_passHour 14 = .ok (.ifCond .eq 21, 3) := by decide +kernel
theorem dX1_passHour_17 : decode cX1_passHour 17 = .ok (.iconst 0, 1) := by decide +kernel
theorem dX1_passHour_18 : decode cX1_passHour 18 = .ok (.istore_n 1, 1) := by decide +kernel
theorem dX1_passHour_19 : decode cX1_passHour 19 = .ok (.iload_n 1, 1) := by decide +kernel
theorem dX1_passHour_20 : decode cX1_passHour 20 = .ok (.iconst 3, 1) := by decide +kernel
theorem dX1_passHour_21 : decode cX1_passHour 21 = .ok (.if_icmp .ge 14, 3) := by decide +kernel
theorem dX1_passHour_24 : decode cX1_passHour 24 = .ok (.aload_n 0, 1) := by decide +kernel
theorem dX1_passHour_25 : decode cX1_passHour 25 = .ok (.iload_n 1, 1) := by decide +kernel
theorem dX1_passHour_26 : decode cX1_passHour 26 = .ok (.invokevirtual 228, 3) := by decide +kernel
theorem dX1_passHour_29 : decode cX1_passHour 29 = .ok (.iinc 1 1, 3) := by decide +kernel
theorem dX1_passHour_32 : decode cX1_passHour 32 = .ok (.goto (-13), 3) := by decide +kernel
theorem dX1_passHour_35 : decode cX1_passHour 35 = .ok (.return_, 1) := by decide +kernel
set_option maxRecDepth 20000 in
theorem ggX1_runHour_X1_goes : GoodIn wsX1_runHour wsX1_goes := goodIn_r _ [6, 1, 7, 8, 5, 9, 13, 14, 15, 16, 17, 18] (by decide +kernel) (by decide +kernel)
set_option maxRecDepth 20000 in
theorem gX1_runHour_X1_goes : GoodIn wsX1_runHour (wsV RX1 83 RX1 yX1_goes wsX1_goes) := goodIn_app (goodIn_of _ (by decide +kernel)) ggX1_runHour_X1_goes
set_option maxRecDepth 20000 in
theorem ggX1_runHour_X1_place : GoodIn wsX1_runHour wsX1_place := goodIn_r _ [9] (by decide +kernel) (by decide +kernel)
set_option maxRecDepth 20000 in
theorem gX1_runHour_X1_place : GoodIn wsX1_runHour (va_wsS RX1 91 yX1_place wsX1_place) := goodIn_app (goodIn_of _ (by decide +kernel)) ggX1_runHour_X1_place
set_option maxRecDepth 20000 in
theorem ggX1_runHour_X1_isLostHour : GoodIn wsX1_runHour wsX1_isLostHour := goodIn_r _ [12] (by decide +kernel) (by decide +kernel)
set_option maxRecDepth 20000 in
theorem gX1_runHour_X1_isLostHour : GoodIn wsX1_runHour (va_wsS RX1 224 yX1_isLostHour wsX1_isLostHour) := goodIn_app (goodIn_of _ (by decide +kernel)) ggX1_runHour_X1_isLostHour
theorem dX1_runHour_0 : decode cX1_runHour 0 = .ok (.aload_n 0, 1) := by decide +kernel
theorem dX1_runHour_1 : decode cX1_runHour 1 = .ok (.iload_n 1, 1) := by decide +kernel
theorem dX1_runHour_2 : decode cX1_runHour 2 = .ok (.invokevirtual 83, 3) := by decide +kernel
theorem dX1_runHour_5 : decode cX1_runHour 5 = .ok (.ifCond .eq 16, 3) := by decide +kernel
theorem dX1_runHour_8 : decode cX1_runHour 8 = .ok (.aload_n 0, 1) := by decide +kernel
theorem dX1_runHour_9 : decode cX1_runHour 9 = .ok (.getfield 9, 3) := by decide +kernel
theorem dX1_runHour_12 : decode cX1_runHour 12 = .ok (.iload_n 1, 1) := by decide +kernel
theorem dX1_runHour_13 : decode cX1_runHour 13 = .ok (.iconst 0, 1) := by decide +kernel
theorem dX1_runHour_14 : decode cX1_runHour 14 = .ok (.invokestatic 91, 3) := by decide +kernel
theorem dX1_runHour_17 : decode cX1_runHour 17 = .ok (.iaload, 1) := by decide +kernel
theorem dX1_runHour_18 : decode cX1_runHour 18 = .ok (.ifCond .ne 4, 3) := by decide +kernel
theorem dX1_runHour_21 : decode cX1_runHour 21 = .ok (.return_, 1) := by decide +kernel
theorem dX1_runHour_22 : decode cX1_runHour 22 = .ok (.aload_n 0, 1) := by decide +kernel
theorem dX1_runHour_23 : decode cX1_runHour 23 = .ok (.getfield 9, 3) := by decide +kernel
theorem dX1_runHour_26 : decode cX1_runHour 26 = .ok (.iload_n 1, 1) := by decide +kernel
theorem dX1_runHour_27 : decode cX1_runHour 27 = .ok (.iconst 3, 1) := by decide +kernel
theorem dX1_runHour_28 : decode cX1_runHour 28 = .ok (.invokestatic 91, 3) := by decide +kernel
theorem dX1_runHour_31 : decode cX1_runHour 31 = .ok (.dup2, 1) := by decide +kernel
theorem dX1_runHour_32 : decode cX1_runHour 32 = .ok (.iaload, 1) := by decide +kernel
theorem dX1_runHour_33 : decode cX1_runHour 33 = .ok (.iconst 1, 1) := by decide +kernel
theorem dX1_runHour_34 : decode cX1_runHour 34 = .ok (.iadd, 1) := by decide +kernel
theorem dX1_runHour_35 : decode cX1_runHour 35 = .ok (.iastore, 1) := by decide +kernel
theorem dX1_runHour_36 : decode cX1_runHour 36 = .ok (.aload_n 0, 1) := by decide +kernel
theorem dX1_runHour_37 : decode cX1_runHour 37 = .ok (.getfield 9, 3) := by decide +kernel
theorem dX1_runHour_40 : decode cX1_runHour 40 = .ok (.iload_n 1, 1) := by decide +kernel
theorem dX1_runHour_41 : decode cX1_runHour 41 = .ok (.iconst 3, 1) := by decide +kernel
theorem dX1_runHour_42 : decode cX1_runHour 42 = .ok (.invokestatic 91, 3) := by decide +kernel
theorem dX1_runHour_45 : decode cX1_runHour 45 = .ok (.iaload, 1) := by decide +kernel
theorem dX1_runHour_46 : decode cX1_runHour 46 = .ok (.aload_n 0, 1) := by decide +kernel
theorem dX1_runHour_47 : decode cX1_runHour 47 = .ok (.getfield 9, 3) := by decide +kernel
theorem dX1_runHour_50 : decode cX1_runHour 50 = .ok (.iload_n 1, 1) := by decide +kernel
theorem dX1_runHour_51 : decode cX1_runHour 51 = .ok (.iconst 2, 1) := by decide +kernel
theorem dX1_runHour_52 : decode cX1_runHour 52 = .ok (.invokestatic 91, 3) := by decide +kernel
theorem dX1_runHour_55 : decode cX1_runHour 55 = .ok (.iaload, 1) := by decide +kernel
theorem dX1_runHour_56 : decode cX1_runHour 56 = .ok (.invokestatic 224, 3) := by decide +kernel
theorem dX1_runHour_59 : decode cX1_runHour 59 = .ok (.ifCond .ne 17, 3) := by decide +kernel
theorem dX1_runHour_62 : decode cX1_runHour 62 = .ok (.aload_n 0, 1) := by decide +kernel
theorem dX1_runHour_63 : decode cX1_runHour 63 = .ok (.getfield 9, 3) := by decide +kernel
theorem dX1_runHour_66 : decode cX1_runHour 66 = .ok (.iload_n 1, 1) := by decide +kernel
theorem dX1_runHour_67 : decode cX1_runHour 67 = .ok (.iconst 0, 1) := by decide +kernel
theorem dX1_runHour_68 : decode cX1_runHour 68 = .ok (.invokestatic 91, 3) := by decide +kernel
theorem dX1_runHour_71 : decode cX1_runHour 71 = .ok (.dup2, 1) := by decide +kernel
theorem dX1_runHour_72 : decode cX1_runHour 72 = .ok (.iaload, 1) := by decide +kernel
theorem dX1_runHour_73 : decode cX1_runHour 73 = .ok (.iconst 1, 1) := by decide +kernel
theorem dX1_runHour_74 : decode cX1_runHour 74 = .ok (.isub, 1) := by decide +kernel
theorem dX1_runHour_75 : decode cX1_runHour 75 = .ok (.iastore, 1) := by decide +kernel
theorem dX1_runHour_76 : decode cX1_runHour 76 = .ok (.return_, 1) := by decide +kernel
theorem dX1_hoursToWait_0 : decode cX1_hoursToWait 0 = .ok (.aload_n 0, 1) := by decide +kernel
theorem dX1_hoursToWait_1 : decode cX1_hoursToWait 1 = .ok (.getfield 9, 3) := by decide +kernel
theorem dX1_hoursToWait_4 : decode cX1_hoursToWait 4 = .ok (.iconst 4, 1) := by decide +kernel
theorem dX1_hoursToWait_5 : decode cX1_hoursToWait 5 = .ok (.iaload, 1) := by decide +kernel
theorem dX1_hoursToWait_6 : decode cX1_hoursToWait 6 = .ok (.aload_n 0, 1) := by decide +kernel
theorem dX1_hoursToWait_7 : decode cX1_hoursToWait 7 = .ok (.getfield 9, 3) := by decide +kernel
theorem dX1_hoursToWait_10 : decode cX1_hoursToWait 10 = .ok (.iconst 0, 1) := by decide +kernel
theorem dX1_hoursToWait_11 : decode cX1_hoursToWait 11 = .ok (.iaload, 1) := by decide +kernel
theorem dX1_hoursToWait_12 : decode cX1_hoursToWait 12 = .ok (.isub, 1) := by decide +kernel
theorem dX1_hoursToWait_13 : decode cX1_hoursToWait 13 = .ok (.iconst 0, 1) := by decide +kernel
theorem dX1_hoursToWait_14 : decode cX1_hoursToWait 14 = .ok (.invokestatic 179, 3) := by decide +kernel
theorem dX1_hoursToWait_17 : decode cX1_hoursToWait 17 = .ok (.ireturn, 1) := by decide +kernel
set_option maxRecDepth 20000 in
theorem ggX1_hoursToOpen_X1_isLocked : GoodIn wsX1_hoursToOpen wsX1_isLocked := goodIn_r _ [9, 10, 26, 27, 28, 29, 30, 31] (by decide +kernel) (by decide +kernel)
set_option maxRecDepth 20000 in
theorem gX1_hoursToOpen_X1_isLocked : GoodIn wsX1_hoursToOpen (wsV RX1 79 RX1 yX1_isLocked wsX1_isLocked) := goodIn_app (goodIn_of _ (by decide +kernel)) ggX1_hoursToOpen_X1_isLocked
set_option maxRecDepth 20000 in
theorem ggX1_hoursToOpen_X1_goes : GoodIn wsX1_hoursToOpen wsX1_goes := goodIn_r _ [14, 10, 15, 16, 8, 17, 26, 27, 28, 29, 30, 31] (by decide +kernel) (by decide +kernel)
set_option maxRecDepth 20000 in
theorem gX1_hoursToOpen_X1_goes : GoodIn wsX1_hoursToOpen (wsV RX1 83 RX1 yX1_goes wsX1_goes) := goodIn_app (goodIn_of _ (by decide +kernel)) ggX1_hoursToOpen_X1_goes
set_option maxRecDepth 20000 in
theorem ggX1_hoursToOpen_X1_hoursToRunDown : GoodIn wsX1_hoursToOpen wsX1_hoursToRunDown := goodIn_r _ [21, 10, 15, 16, 8, 17, 26, 27, 28, 29, 30, 31] (by decide +kernel) (by decide +kernel)
set_option maxRecDepth 20000 in
theorem gX1_hoursToOpen_X1_hoursToRunDown : GoodIn wsX1_hoursToOpen (wsV RX1 220 RX1 yX1_hoursToRunDown wsX1_hoursToRunDown) := goodIn_app (goodIn_of _ (by decide +kernel)) ggX1_hoursToOpen_X1_hoursToRunDown
set_option maxRecDepth 20000 in
theorem ggX1_hoursToOpen_X1_hoursToWait : GoodIn wsX1_hoursToOpen wsX1_hoursToWait := goodIn_r _ [25, 10, 1, 2, 3, 4, 26, 27, 28, 29, 30, 31] (by decide +kernel) (by decide +kernel)
set_option maxRecDepth 20000 in
theorem gX1_hoursToOpen_X1_hoursToWait : GoodIn wsX1_hoursToOpen (wsV RX1 231 RX1 yX1_hoursToWait wsX1_hoursToWait) := goodIn_app (goodIn_of _ (by decide +kernel)) ggX1_hoursToOpen_X1_hoursToWait
theorem dX1_hoursToOpen_0 : decode cX1_hoursToOpen 0 = .ok (.aload_n 0, 1) := by decide +kernel
theorem dX1_hoursToOpen_1 : decode cX1_hoursToOpen 1 = .ok (.invokevirtual 79, 3) := by decide +kernel
theorem dX1_hoursToOpen_4 : decode cX1_hoursToOpen 4 = .ok (.ifCond .ne 5, 3) := by decide +kernel
theorem dX1_hoursToOpen_7 : decode cX1_hoursToOpen 7 = .ok (.iconst (-1), 1) := by decide +kernel
theorem dX1_hoursToOpen_8 : decode cX1_hoursToOpen 8 = .ok (.ireturn, 1) := by decide +kernel
theorem dX1_hoursToOpen_9 : decode cX1_hoursToOpen 9 = .ok (.iconst (-1), 1) := by decide +kernel
theorem dX1_hoursToOpen_10 : decode cX1_hoursToOpen 10 = .ok (.istore_n 2, 1) := by decide +kernel
theorem dX1_hoursToOpen_11 : decode cX1_hoursToOpen 11 = .ok (.iconst 0, 1) := by decide +kernel
theorem dX1_hoursToOpen_12 : decode cX1_hoursToOpen 12 = .ok (.istore_n 3, 1) := by decide +kernel
theorem dX1_hoursToOpen_13 : decode cX1_hoursToOpen 13 = .ok (.iload_n 3, 1) := by decide +kernel
theorem dX1_hoursToOpen_14 : decode cX1_hoursToOpen 14 = .ok (.iconst 3, 1) := by decide +kernel
theorem dX1_hoursToOpen_15 : decode cX1_hoursToOpen 15 = .ok (.if_icmp .ge 54, 3) := by decide +kernel
theorem dX1_hoursToOpen_18 : decode cX1_hoursToOpen 18 = .ok (.aload_n 0, 1) := by decide +kernel
theorem dX1_hoursToOpen_19 : decode cX1_hoursToOpen 19 = .ok (.iload_n 3, 1) := by decide +kernel
theorem dX1_hoursToOpen_20 : decode cX1_hoursToOpen 20 = .ok (.aload_n 0, 1) := by decide +kernel
theorem dX1_hoursToOpen_21 : decode cX1_hoursToOpen 21 = .ok (.iload_n 3, 1) := by decide +kernel
theorem dX1_hoursToOpen_22 : decode cX1_hoursToOpen 22 = .ok (.invokevirtual 83, 3) := by decide +kernel
theorem dX1_hoursToOpen_25 : decode cX1_hoursToOpen 25 = .ok (.ifCond .eq 12, 3) := by decide +kernel
theorem dX1_hoursToOpen_28 : decode cX1_hoursToOpen 28 = .ok (.iload_n 3, 1) := by decide +kernel
theorem dX1_hoursToOpen_29 : decode cX1_hoursToOpen 29 = .ok (.iload_n 1, 1) := by decide +kernel
theorem dX1_hoursToOpen_30 : decode cX1_hoursToOpen 30 = .ok (.if_icmp .eq 7, 3) := by decide +kernel
theorem dX1_hoursToOpen_33 : decode cX1_hoursToOpen 33 = .ok (.iconst 1, 1) := by decide +kernel
theorem dX1_hoursToOpen_34 : decode cX1_hoursToOpen 34 = .ok (.goto 4, 3) := by decide +kernel
theorem dX1_hoursToOpen_37 : decode cX1_hoursToOpen 37 = .ok (.iconst 0, 1) := by decide +kernel
theorem dX1_hoursToOpen_38 : decode cX1_hoursToOpen 38 = .ok (.invokevirtual 220, 3) := by decide +kernel
theorem dX1_hoursToOpen_41 : decode cX1_hoursToOpen 41 = .ok (.istore 4, 2) := by decide +kernel
theorem dX1_hoursToOpen_43 : decode cX1_hoursToOpen 43 = .ok (.iload 4, 2) := by decide +kernel
theorem dX1_hoursToOpen_45 : decode cX1_hoursToOpen 45 = .ok (.iconst (-1), 1) := by decide +kernel
theorem dX1_hoursToOpen_46 : decode cX1_hoursToOpen 46 = .ok (.if_icmp .eq 17, 3) := by decide +kernel
theorem dX1_hoursToOpen_49 : decode cX1_hoursToOpen 49 = .ok (.iload_n 2, 1) := by decide +kernel
theorem dX1_hoursToOpen_50 : decode cX1_hoursToOpen 50 = .ok (.iconst (-1), 1) := by decide +kernel
theorem dX1_hoursToOpen_51 : decode cX1_hoursToOpen 51 = .ok (.if_icmp .eq 9, 3) := by decide +kernel
theorem dX1_hoursToOpen_54 : decode cX1_hoursToOpen 54 = .ok (.iload 4, 2) := by decide +kernel
theorem dX1_hoursToOpen_56 : decode cX1_hoursToOpen 56 = .ok (.iload_n 2, 1) := by decide +kernel
theorem dX1_hoursToOpen_57 : decode cX1_hoursToOpen 57 = .ok (.if_icmp .ge 6, 3) := by decide +kernel
theorem dX1_hoursToOpen_60 : decode cX1_hoursToOpen 60 = .ok (.iload 4, 2) := by decide +kernel
theorem dX1_hoursToOpen_62 : decode cX1_hoursToOpen 62 = .ok (.istore_n 2, 1) := by decide +kernel
theorem dX1_hoursToOpen_63 : decode cX1_hoursToOpen 63 = .ok (.iinc 3 1, 3) := by decide +kernel
theorem dX1_hoursToOpen_66 : decode cX1_hoursToOpen 66 = .ok (.goto (-53), 3) := by decide +kernel
theorem dX1_hoursToOpen_69 : decode cX1_hoursToOpen 69 = .ok (.iload_n 2, 1) := by decide +kernel
theorem dX1_hoursToOpen_70 : decode cX1_hoursToOpen 70 = .ok (.iconst (-1), 1) := by decide +kernel
theorem dX1_hoursToOpen_71 : decode cX1_hoursToOpen 71 = .ok (.if_icmp .ne 7, 3) := by decide +kernel
theorem dX1_hoursToOpen_74 : decode cX1_hoursToOpen 74 = .ok (.iconst (-1), 1) := by decide +kernel
theorem dX1_hoursToOpen_75 : decode cX1_hoursToOpen 75 = .ok (.goto 11, 3) := by decide +kernel
theorem dX1_hoursToOpen_78 : decode cX1_hoursToOpen 78 = .ok (.iload_n 2, 1) := by decide +kernel
theorem dX1_hoursToOpen_79 : decode cX1_hoursToOpen 79 = .ok (.aload_n 0, 1) := by decide +kernel
theorem dX1_hoursToOpen_80 : decode cX1_hoursToOpen 80 = .ok (.invokevirtual 231, 3) := by decide +kernel
theorem dX1_hoursToOpen_83 : decode cX1_hoursToOpen 83 = .ok (.invokestatic 179, 3) := by decide +kernel
theorem dX1_hoursToOpen_86 : decode cX1_hoursToOpen 86 = .ok (.ireturn, 1) := by decide +kernel
theorem dX1_latenessAfter_0 : decode cX1_latenessAfter 0 = .ok (.aload_n 0, 1) := by decide +kernel
theorem dX1_latenessAfter_1 : decode cX1_latenessAfter 1 = .ok (.getfield 9, 3) := by decide +kernel
theorem dX1_latenessAfter_4 : decode cX1_latenessAfter 4 = .ok (.iconst 2, 1) := by decide +kernel
theorem dX1_latenessAfter_5 : decode cX1_latenessAfter 5 = .ok (.iaload, 1) := by decide +kernel
theorem dX1_latenessAfter_6 : decode cX1_latenessAfter 6 = .ok (.iconst (-1), 1) := by decide +kernel
theorem dX1_latenessAfter_7 : decode cX1_latenessAfter 7 = .ok (.if_icmp .ne 7, 3) := by decide +kernel
theorem dX1_latenessAfter_10 : decode cX1_latenessAfter 10 = .ok (.iconst 0, 1) := by decide +kernel
theorem dX1_latenessAfter_11 : decode cX1_latenessAfter 11 = .ok (.goto 18, 3) := by decide +kernel
theorem dX1_latenessAfter_14 : decode cX1_latenessAfter 14 = .ok (.aload_n 0, 1) := by decide +kernel
theorem dX1_latenessAfter_15 : decode cX1_latenessAfter 15 = .ok (.getfield 9, 3) := by decide +kernel
theorem dX1_latenessAfter_18 : decode cX1_latenessAfter 18 = .ok (.iconst 0, 1) := by decide +kernel
theorem dX1_latenessAfter_19 : decode cX1_latenessAfter 19 = .ok (.iaload, 1) := by decide +kernel
theorem dX1_latenessAfter_20 : decode cX1_latenessAfter 20 = .ok (.iload_n 1, 1) := by decide +kernel
theorem dX1_latenessAfter_21 : decode cX1_latenessAfter 21 = .ok (.iadd, 1) := by decide +kernel
theorem dX1_latenessAfter_22 : decode cX1_latenessAfter 22 = .ok (.aload_n 0, 1) := by decide +kernel
theorem dX1_latenessAfter_23 : decode cX1_latenessAfter 23 = .ok (.getfield 9, 3) := by decide +kernel
theorem dX1_latenessAfter_26 : decode cX1_latenessAfter 26 = .ok (.iconst 2, 1) := by decide +kernel
theorem dX1_latenessAfter_27 : decode cX1_latenessAfter 27 = .ok (.iaload, 1) := by decide +kernel
theorem dX1_latenessAfter_28 : decode cX1_latenessAfter 28 = .ok (.isub, 1) := by decide +kernel
theorem dX1_latenessAfter_29 : decode cX1_latenessAfter 29 = .ok (.ireturn, 1) := by decide +kernel
theorem dX1_countEarlyTry_0 : decode cX1_countEarlyTry 0 = .ok (.aload_n 0, 1) := by decide +kernel
theorem dX1_countEarlyTry_1 : decode cX1_countEarlyTry 1 = .ok (.getfield 9, 3) := by decide +kernel
theorem dX1_countEarlyTry_4 : decode cX1_countEarlyTry 4 = .ok (.iconst 5, 1) := by decide +kernel
theorem dX1_countEarlyTry_5 : decode cX1_countEarlyTry 5 = .ok (.dup2, 1) := by decide +kernel
theorem dX1_countEarlyTry_6 : decode cX1_countEarlyTry 6 = .ok (.iaload, 1) := by decide +kernel
theorem dX1_countEarlyTry_7 : decode cX1_countEarlyTry 7 = .ok (.iconst 1, 1) := by decide +kernel
theorem dX1_countEarlyTry_8 : decode cX1_countEarlyTry 8 = .ok (.iadd, 1) := by decide +kernel
theorem dX1_countEarlyTry_9 : decode cX1_countEarlyTry 9 = .ok (.iastore, 1) := by decide +kernel
theorem dX1_countEarlyTry_10 : decode cX1_countEarlyTry 10 = .ok (.aload_n 0, 1) := by decide +kernel
theorem dX1_countEarlyTry_11 : decode cX1_countEarlyTry 11 = .ok (.getfield 9, 3) := by decide +kernel
theorem dX1_countEarlyTry_14 : decode cX1_countEarlyTry 14 = .ok (.iconst 3, 1) := by decide +kernel
theorem dX1_countEarlyTry_15 : decode cX1_countEarlyTry 15 = .ok (.dup2, 1) := by decide +kernel
theorem dX1_countEarlyTry_16 : decode cX1_countEarlyTry 16 = .ok (.iaload, 1) := by decide +kernel
theorem dX1_countEarlyTry_17 : decode cX1_countEarlyTry 17 = .ok (.iconst 1, 1) := by decide +kernel
theorem dX1_countEarlyTry_18 : decode cX1_countEarlyTry 18 = .ok (.iadd, 1) := by decide +kernel
theorem dX1_countEarlyTry_19 : decode cX1_countEarlyTry 19 = .ok (.iastore, 1) := by decide +kernel
theorem dX1_countEarlyTry_20 : decode cX1_countEarlyTry 20 = .ok (.aload_n 0, 1) := by decide +kernel
theorem dX1_countEarlyTry_21 : decode cX1_countEarlyTry 21 = .ok (.getfield 9, 3) := by decide +kernel
theorem dX1_countEarlyTry_24 : decode cX1_countEarlyTry 24 = .ok (.iconst 3, 1) := by decide +kernel
theorem dX1_countEarlyTry_25 : decode cX1_countEarlyTry 25 = .ok (.iaload, 1) := by decide +kernel
theorem dX1_countEarlyTry_26 : decode cX1_countEarlyTry 26 = .ok (.aload_n 0, 1) := by decide +kernel
theorem dX1_countEarlyTry_27 : decode cX1_countEarlyTry 27 = .ok (.getfield 9, 3) := by decide +kernel
theorem dX1_countEarlyTry_30 : decode cX1_countEarlyTry 30 = .ok (.bipush 11, 2) := by decide +kernel
theorem dX1_countEarlyTry_32 : decode cX1_countEarlyTry 32 = .ok (.iaload, 1) := by decide +kernel
theorem dX1_countEarlyTry_33 : decode cX1_countEarlyTry 33 = .ok (.if_icmp .lt 30, 3) := by decide +kernel
theorem dX1_countEarlyTry_36 : decode cX1_countEarlyTry 36 = .ok (.aload_n 0, 1) := by decide +kernel
theorem dX1_countEarlyTry_37 : decode cX1_countEarlyTry 37 = .ok (.getfield 9, 3) := by decide +kernel
theorem dX1_countEarlyTry_40 : decode cX1_countEarlyTry 40 = .ok (.iconst 4, 1) := by decide +kernel
theorem dX1_countEarlyTry_41 : decode cX1_countEarlyTry 41 = .ok (.aload_n 0, 1) := by decide +kernel
theorem dX1_countEarlyTry_42 : decode cX1_countEarlyTry 42 = .ok (.getfield 9, 3) := by decide +kernel
theorem dX1_countEarlyTry_45 : decode cX1_countEarlyTry 45 = .ok (.iconst 0, 1) := by decide +kernel
theorem dX1_countEarlyTry_46 : decode cX1_countEarlyTry 46 = .ok (.iaload, 1) := by decide +kernel
theorem dX1_countEarlyTry_47 : decode cX1_countEarlyTry 47 = .ok (.aload_n 0, 1) := by decide +kernel
theorem dX1_countEarlyTry_48 : decode cX1_countEarlyTry 48 = .ok (.getfield 9, 3) := by decide +kernel
theorem dX1_countEarlyTry_51 : decode cX1_countEarlyTry 51 = .ok (.bipush 12, 2) := by decide +kernel
theorem dX1_countEarlyTry_53 : decode cX1_countEarlyTry 53 = .ok (.iaload, 1) := by decide +kernel
theorem dX1_countEarlyTry_54 : decode cX1_countEarlyTry 54 = .ok (.iadd, 1) := by decide +kernel
theorem dX1_countEarlyTry_55 : decode cX1_countEarlyTry 55 = .ok (.iastore, 1) := by decide +kernel
theorem dX1_countEarlyTry_56 : decode cX1_countEarlyTry 56 = .ok (.aload_n 0, 1) := by decide +kernel
theorem dX1_countEarlyTry_57 : decode cX1_countEarlyTry 57 = .ok (.getfield 9, 3) := by decide +kernel
theorem dX1_countEarlyTry_60 : decode cX1_countEarlyTry 60 = .ok (.iconst 3, 1) := by decide +kernel
theorem dX1_countEarlyTry_61 : decode cX1_countEarlyTry 61 = .ok (.iconst 0, 1) := by decide +kernel
theorem dX1_countEarlyTry_62 : decode cX1_countEarlyTry 62 = .ok (.iastore, 1) := by decide +kernel
theorem dX1_countEarlyTry_63 : decode cX1_countEarlyTry 63 = .ok (.return_, 1) := by decide +kernel
theorem dX1_countOpening_0 : decode cX1_countOpening 0 = .ok (.aload_n 0, 1) := by decide +kernel
theorem dX1_countOpening_1 : decode cX1_countOpening 1 = .ok (.getfield 9, 3) := by decide +kernel
theorem dX1_countOpening_4 : decode cX1_countOpening 4 = .ok (.bipush 6, 2) := by decide +kernel
theorem dX1_countOpening_6 : decode cX1_countOpening 6 = .ok (.dup2, 1) := by decide +kernel
theorem dX1_countOpening_7 : decode cX1_countOpening 7 = .ok (.iaload, 1) := by decide +kernel
theorem dX1_countOpening_8 : decode cX1_countOpening 8 = .ok (.iconst 1, 1) := by decide +kernel
theorem dX1_countOpening_9 : decode cX1_countOpening 9 = .ok (.iadd, 1) := by decide +kernel
theorem dX1_countOpening_10 : decode cX1_countOpening 10 = .ok (.iastore, 1) := by decide +kernel
theorem dX1_countOpening_11 : decode cX1_countOpening 11 = .ok (.iload_n 1, 1) := by decide +kernel
theorem dX1_countOpening_12 : decode cX1_countOpening 12 = .ok (.ifCond .le 17, 3) := by decide +kernel
theorem dX1_countOpening_15 : decode cX1_countOpening 15 = .ok (.aload_n 0, 1) := by decide +kernel
theorem dX1_countOpening_16 : decode cX1_countOpening 16 = .ok (.getfield 9, 3) := by decide +kernel
theorem dX1_countOpening_19 : decode cX1_countOpening 19 = .ok (.bipush 8, 2) := by decide +kernel
theorem dX1_countOpening_21 : decode cX1_countOpening 21 = .ok (.dup2, 1) := by decide +kernel
theorem dX1_countOpening_22 : decode cX1_countOpening 22 = .ok (.iaload, 1) := by decide +kernel
theorem dX1_countOpening_23 : decode cX1_countOpening 23 = .ok (.iconst 1, 1) := by decide +kernel
theorem dX1_countOpening_24 : decode cX1_countOpening 24 = .ok (.iadd, 1) := by decide +kernel
theorem dX1_countOpening_25 : decode cX1_countOpening 25 = .ok (.iastore, 1) := by decide +kernel
theorem dX1_countOpening_26 : decode cX1_countOpening 26 = .ok (.goto 32, 3) := by decide +kernel
theorem dX1_countOpening_29 : decode cX1_countOpening 29 = .ok (.iload_n 1, 1) := by decide +kernel
theorem dX1_countOpening_30 : decode cX1_countOpening 30 = .ok (.ifCond .ge 17, 3) := by decide +kernel
theorem dX1_countOpening_33 : decode cX1_countOpening 33 = .ok (.aload_n 0, 1) := by decide +kernel
theorem dX1_countOpening_34 : decode cX1_countOpening 34 = .ok (.getfield 9, 3) := by decide +kernel
theorem dX1_countOpening_37 : decode cX1_countOpening 37 = .ok (.bipush 9, 2) := by decide +kernel
theorem dX1_countOpening_39 : decode cX1_countOpening 39 = .ok (.dup2, 1) := by decide +kernel
theorem dX1_countOpening_40 : decode cX1_countOpening 40 = .ok (.iaload, 1) := by decide +kernel
theorem dX1_countOpening_41 : decode cX1_countOpening 41 = .ok (.iconst 1, 1) := by decide +kernel
theorem dX1_countOpening_42 : decode cX1_countOpening 42 = .ok (.iadd, 1) := by decide +kernel
theorem dX1_countOpening_43 : decode cX1_countOpening 43 = .ok (.iastore, 1) := by decide +kernel
theorem dX1_countOpening_44 : decode cX1_countOpening 44 = .ok (.goto 14, 3) := by decide +kernel
theorem dX1_countOpening_47 : decode cX1_countOpening 47 = .ok (.aload_n 0, 1) := by decide +kernel
theorem dX1_countOpening_48 : decode cX1_countOpening 48 = .ok (.getfield 9, 3) := by decide +kernel
theorem dX1_countOpening_51 : decode cX1_countOpening 51 = .ok (.bipush 7, 2) := by decide +kernel
theorem dX1_countOpening_53 : decode cX1_countOpening 53 = .ok (.dup2, 1) := by decide +kernel
theorem dX1_countOpening_54 : decode cX1_countOpening 54 = .ok (.iaload, 1) := by decide +kernel
theorem dX1_countOpening_55 : decode cX1_countOpening 55 = .ok (.iconst 1, 1) := by decide +kernel
theorem dX1_countOpening_56 : decode cX1_countOpening 56 = .ok (.iadd, 1) := by decide +kernel
theorem dX1_countOpening_57 : decode cX1_countOpening 57 = .ok (.iastore, 1) := by decide +kernel
theorem dX1_countOpening_58 : decode cX1_countOpening 58 = .ok (.return_, 1) := by decide +kernel
theorem dX1_leaveOpen_0 : decode cX1_leaveOpen 0 = .ok (.aload_n 0, 1) := by decide +kernel
theorem dX1_leaveOpen_1 : decode cX1_leaveOpen 1 = .ok (.getfield 9, 3) := by decide +kernel
theorem dX1_leaveOpen_4 : decode cX1_leaveOpen 4 = .ok (.iconst 1, 1) := by decide +kernel
theorem dX1_leaveOpen_5 : decode cX1_leaveOpen 5 = .ok (.iconst 0, 1) := by decide +kernel
theorem dX1_leaveOpen_6 : decode cX1_leaveOpen 6 = .ok (.iastore, 1) := by decide +kernel
theorem dX1_leaveOpen_7 : decode cX1_leaveOpen 7 = .ok (.aload_n 0, 1) := by decide +kernel
theorem dX1_leaveOpen_8 : decode cX1_leaveOpen 8 = .ok (.getfield 9, 3) := by decide +kernel
theorem dX1_leaveOpen_11 : decode cX1_leaveOpen 11 = .ok (.iconst 2, 1) := by decide +kernel
theorem dX1_leaveOpen_12 : decode cX1_leaveOpen 12 = .ok (.iconst (-1), 1) := by decide +kernel
theorem dX1_leaveOpen_13 : decode cX1_leaveOpen 13 = .ok (.iastore, 1) := by decide +kernel
theorem dX1_leaveOpen_14 : decode cX1_leaveOpen 14 = .ok (.aload_n 0, 1) := by decide +kernel
theorem dX1_leaveOpen_15 : decode cX1_leaveOpen 15 = .ok (.getfield 9, 3) := by decide +kernel
theorem dX1_leaveOpen_18 : decode cX1_leaveOpen 18 = .ok (.iconst 3, 1) := by decide +kernel
theorem dX1_leaveOpen_19 : decode cX1_leaveOpen 19 = .ok (.iconst 0, 1) := by decide +kernel
theorem dX1_leaveOpen_20 : decode cX1_leaveOpen 20 = .ok (.iastore, 1) := by decide +kernel
theorem dX1_leaveOpen_21 : decode cX1_leaveOpen 21 = .ok (.aload_n 0, 1) := by decide +kernel
theorem dX1_leaveOpen_22 : decode cX1_leaveOpen 22 = .ok (.getfield 9, 3) := by decide +kernel
theorem dX1_leaveOpen_25 : decode cX1_leaveOpen 25 = .ok (.iconst 4, 1) := by decide +kernel
theorem dX1_leaveOpen_26 : decode cX1_leaveOpen 26 = .ok (.iconst 0, 1) := by decide +kernel
theorem dX1_leaveOpen_27 : decode cX1_leaveOpen 27 = .ok (.iastore, 1) := by decide +kernel
theorem dX1_leaveOpen_28 : decode cX1_leaveOpen 28 = .ok (.return_, 1) := by decide +kernel
set_option maxRecDepth 20000 in
theorem ggX1_number_X1_today : GoodIn wsX1_number wsX1_today := goodIn_r _ [7, 1, 24, 25, 26, 27, 28, 29] (by decide +kernel) (by decide +kernel)
set_option maxRecDepth 20000 in
theorem gX1_number_X1_today : GoodIn wsX1_number (wsV RX1 214 RX1 yX1_today wsX1_today) := goodIn_app (goodIn_of _ (by decide +kernel)) ggX1_number_X1_today
set_option maxRecDepth 20000 in
theorem ggX1_number_X1_timeOfDay : GoodIn wsX1_number wsX1_timeOfDay := goodIn_r _ [11, 1, 24, 25, 26, 27, 28, 29] (by decide +kernel) (by decide +kernel)
set_option maxRecDepth 20000 in
theorem gX1_number_X1_timeOfDay : GoodIn wsX1_number (wsV RX1 217 RX1 yX1_timeOfDay wsX1_timeOfDay) := goodIn_app (goodIn_of _ (by decide +kernel)) ggX1_number_X1_timeOfDay
set_option maxRecDepth 20000 in
theorem ggX1_number_X1_hoursToOpening : GoodIn wsX1_number wsX1_hoursToOpening := goodIn_r _ [15, 1, 3, 4, 5, 6, 7, 8, 9, 10, 11, 24, 25, 26, 27, 28, 29] (by decide +kernel) (by decide +kernel)
set_option maxRecDepth 20000 in
theorem gX1_number_X1_hoursToOpening : GoodIn wsX1_number (wsV RX1 106 RX1 yX1_hoursToOpening wsX1_hoursToOpening) := goodIn_app (goodIn_of _ (by decide +kernel)) ggX1_number_X1_hoursToOpening
set_option maxRecDepth 20000 in
theorem ggX1_number_X1_hoursToWait : GoodIn wsX1_number wsX1_hoursToWait := goodIn_r _ [19, 1, 20, 21, 22, 23, 24, 25, 26, 27, 28, 29] (by decide +kernel) (by decide +kernel)
set_option maxRecDepth 20000 in
theorem gX1_number_X1_hoursToWait : GoodIn wsX1_number (wsV RX1 231 RX1 yX1_hoursToWait wsX1_hoursToWait) := goodIn_app (goodIn_of _ (by decide +kernel)) ggX1_number_X1_hoursToWait
theorem dX1_number_0 : decode cX1_number 0 = .ok (.iload_n 1, 1) := by decide +kernel
theorem dX1_number_1 : decode cX1_number 1 = .ok (.tableswitch 166 0 13 #[71, 78, 83, 88, 95, 100, 107, 114, 119, 126, 134, 142, 150, 158], 71) := by decide +kernel
theorem dX1_number_72 : decode cX1_number 72 = .ok (.aload_n 0, 1) := by decide +kernel
theorem dX1_number_73 : decode cX1_number 73 = .ok (.getfield 9, 3) := by decide +kernel
theorem dX1_number_76 : decode cX1_number 76 = .ok (.iconst 0, 1) := by decide +kernel
theorem dX1_number_77 : decode cX1_number 77 = .ok (.iaload, 1) := by decide +kernel
theorem dX1_number_78 : decode cX1_number 78 = .ok (.ireturn, 1) := by decide +kernel
theorem dX1_number_79 : decode cX1_number 79 = .ok (.aload_n 0, 1) := by decide +kernel
theorem dX1_number_80 : decode cX1_number 80 = .ok (.invokevirtual 214, 3) := by decide +kernel
theorem dX1_number_83 : decode cX1_number 83 = .ok (.ireturn, 1) := by decide +kernel
theorem dX1_number_84 : decode cX1_number 84 = .ok (.aload_n 0, 1) := by decide +kernel
theorem dX1_number_85 : decode cX1_number 85 = .ok (.invokevirtual 217, 3) := by decide +kernel
theorem dX1_number_88 : decode cX1_number 88 = .ok (.ireturn, 1) := by decide +kernel
theorem dX1_number_89 : decode cX1_number 89 = .ok (.aload_n 0, 1) := by decide +kernel
theorem dX1_number_90 : decode cX1_number 90 = .ok (.getfield 9, 3) := by decide +kernel
theorem dX1_number_93 : decode cX1_number 93 = .ok (.iconst 1, 1) := by decide +kernel
theorem dX1_number_94 : decode cX1_number 94 = .ok (.iaload, 1) := by decide +kernel
theorem dX1_number_95 : decode cX1_number 95 = .ok (.ireturn, 1) := by decide +kernel
theorem dX1_number_96 : decode cX1_number 96 = .ok (.aload_n 0, 1) := by decide +kernel
theorem dX1_number_97 : decode cX1_number 97 = .ok (.invokevirtual 106, 3) := by decide +kernel
theorem dX1_number_100 : decode cX1_number 100 = .ok (.ireturn, 1) := by decide +kernel
theorem dX1_number_101 : decode cX1_number 101 = .ok (.aload_n 0, 1) := by decide +kernel
theorem dX1_number_102 : decode cX1_number 102 = .ok (.getfield 9, 3) := by decide +kernel
theorem dX1_number_105 : decode cX1_number 105 = .ok (.iconst 2, 1) := by decide +kernel
theorem dX1_number_106 : decode cX1_number 106 = .ok (.iaload, 1) := by decide +kernel
theorem dX1_number_107 : decode cX1_number 107 = .ok (.ireturn, 1) := by decide +kernel
theorem dX1_number_108 : decode cX1_number 108 = .ok (.aload_n 0, 1) := by decide +kernel
theorem dX1_number_109 : decode cX1_number 109 = .ok (.getfield 9, 3) := by decide +kernel
theorem dX1_number_112 : decode cX1_number 112 = .ok (.iconst 3, 1) := by decide +kernel
theorem dX1_number_113 : decode cX1_number 113 = .ok (.iaload, 1) := by decide +kernel
theorem dX1_number_114 : decode cX1_number 114 = .ok (.ireturn, 1) := by decide +kernel
theorem dX1_number_115 : decode cX1_number 115 = .ok (.aload_n 0, 1) := by decide +kernel
theorem dX1_number_116 : decode cX1_number 116 = .ok (.invokevirtual 231, 3) := by decide +kernel
theorem dX1_number_119 : decode cX1_number 119 = .ok (.ireturn, 1) := by decide +kernel
theorem dX1_number_120 : decode cX1_number 120 = .ok (.aload_n 0, 1) := by decide +kernel
theorem dX1_number_121 : decode cX1_number 121 = .ok (.getfield 9, 3) := by decide +kernel
theorem dX1_number_124 : decode cX1_number 124 = .ok (.iconst 5, 1) := by decide +kernel
theorem dX1_number_125 : decode cX1_number 125 = .ok (.iaload, 1) := by decide +kernel
theorem dX1_number_126 : decode cX1_number 126 = .ok (.ireturn, 1) := by decide +kernel
theorem dX1_number_127 : decode cX1_number 127 = .ok (.aload_n 0, 1) := by decide +kernel
theorem dX1_number_128 : decode cX1_number 128 = .ok (.getfield 9, 3) := by decide +kernel
theorem dX1_number_131 : decode cX1_number 131 = .ok (.bipush 6, 2) := by decide +kernel
theorem dX1_number_133 : decode cX1_number 133 = .ok (.iaload, 1) := by decide +kernel
theorem dX1_number_134 : decode cX1_number 134 = .ok (.ireturn, 1) := by decide +kernel
theorem dX1_number_135 : decode cX1_number 135 = .ok (.aload_n 0, 1) := by decide +kernel
theorem dX1_number_136 : decode cX1_number 136 = .ok (.getfield 9, 3) := by decide +kernel
theorem dX1_number_139 : decode cX1_number 139 = .ok (.bipush 7, 2) := by decide +kernel
theorem dX1_number_141 : decode cX1_number 141 = .ok (.iaload, 1) := by decide +kernel
theorem dX1_number_142 : decode cX1_number 142 = .ok (.ireturn, 1) := by decide +kernel
theorem dX1_number_143 : decode cX1_number 143 = .ok (.aload_n 0, 1) := by decide +kernel
theorem dX1_number_144 : decode cX1_number 144 = .ok (.getfield 9, 3) := by decide +kernel
theorem dX1_number_147 : decode cX1_number 147 = .ok (.bipush 8, 2) := by decide +kernel
theorem dX1_number_149 : decode cX1_number 149 = .ok (.iaload, 1) := by decide +kernel
theorem dX1_number_150 : decode cX1_number 150 = .ok (.ireturn, 1) := by decide +kernel
theorem dX1_number_151 : decode cX1_number 151 = .ok (.aload_n 0, 1) := by decide +kernel
theorem dX1_number_152 : decode cX1_number 152 = .ok (.getfield 9, 3) := by decide +kernel
theorem dX1_number_155 : decode cX1_number 155 = .ok (.bipush 9, 2) := by decide +kernel
theorem dX1_number_157 : decode cX1_number 157 = .ok (.iaload, 1) := by decide +kernel
theorem dX1_number_158 : decode cX1_number 158 = .ok (.ireturn, 1) := by decide +kernel
theorem dX1_number_159 : decode cX1_number 159 = .ok (.aload_n 0, 1) := by decide +kernel
theorem dX1_number_160 : decode cX1_number 160 = .ok (.getfield 9, 3) := by decide +kernel
theorem dX1_number_163 : decode cX1_number 163 = .ok (.bipush 10, 2) := by decide +kernel
theorem dX1_number_165 : decode cX1_number 165 = .ok (.iaload, 1) := by decide +kernel
theorem dX1_number_166 : decode cX1_number 166 = .ok (.ireturn, 1) := by decide +kernel
theorem dX1_number_167 : decode cX1_number 167 = .ok (.aload_n 0, 1) := by decide +kernel
theorem dX1_number_168 : decode cX1_number 168 = .ok (.getfield 16, 3) := by decide +kernel
theorem dX1_number_171 : decode cX1_number 171 = .ok (.ireturn, 1) := by decide +kernel
theorem dJ9_max_7cf53_0 : decode cJ9_max_7cf53 0 = .ok (.iload_n 0, 1) := by decide +kernel
theorem dJ9_max_7cf53_1 : decode cJ9_max_7cf53 1 = .ok (.iload_n 1, 1) := by decide +kernel
theorem dJ9_max_7cf53_2 : decode cJ9_max_7cf53 2 = .ok (.if_icmp .lt 7, 3) := by decide +kernel
theorem dJ9_max_7cf53_5 : decode cJ9_max_7cf53 5 = .ok (.iload_n 0, 1) := by decide +kernel
theorem dJ9_max_7cf53_6 : decode cJ9_max_7cf53 6 = .ok (.goto 4, 3) := by decide +kernel
theorem dJ9_max_7cf53_9 : decode cJ9_max_7cf53 9 = .ok (.iload_n 1, 1) := by decide +kernel
theorem dJ9_max_7cf53_10 : decode cJ9_max_7cf53 10 = .ok (.ireturn, 1) := by decide +kernel
theorem dL_low_0 : decode cL_low 0 = .ok (.iload_n 0, 1) := by decide +kernel
theorem dL_low_1 : decode cL_low 1 = .ok (.ldc 7, 2) := by decide +kernel
theorem dL_low_3 : decode cL_low 3 = .ok (.iand, 1) := by decide +kernel
theorem dL_low_4 : decode cL_low 4 = .ok (.iload_n 1, 1) := by decide +kernel
theorem dL_low_5 : decode cL_low 5 = .ok (.irem, 1) := by decide +kernel
theorem dL_low_6 : decode cL_low 6 = .ok (.ireturn, 1) := by decide +kernel
theorem dL_cell_0 : decode cL_cell 0 = .ok (.iload_n 1, 1) := by decide +kernel
theorem dL_cell_1 : decode cL_cell 1 = .ok (.aload_n 0, 1) := by decide +kernel
theorem dL_cell_2 : decode cL_cell 2 = .ok (.arraylength, 1) := by decide +kernel
theorem dL_cell_3 : decode cL_cell 3 = .ok (.if_icmp .ge 9, 3) := by decide +kernel
theorem dL_cell_6 : decode cL_cell 6 = .ok (.aload_n 0, 1) := by decide +kernel
theorem dL_cell_7 : decode cL_cell 7 = .ok (.iload_n 1, 1) := by decide +kernel
theorem dL_cell_8 : decode cL_cell 8 = .ok (.iaload, 1) := by decide +kernel
theorem dL_cell_9 : decode cL_cell 9 = .ok (.goto 11, 3) := by decide +kernel
theorem dL_cell_12 : decode cL_cell 12 = .ok (.ldc 8, 2) := by decide +kernel
theorem dL_cell_14 : decode cL_cell 14 = .ok (.iload_n 1, 1) := by decide +kernel
theorem dL_cell_15 : decode cL_cell 15 = .ok (.imul, 1) := by decide +kernel
theorem dL_cell_16 : decode cL_cell 16 = .ok (.sipush 977, 3) := by decide +kernel
theorem dL_cell_19 : decode cL_cell 19 = .ok (.iadd, 1) := by decide +kernel
theorem dL_cell_20 : decode cL_cell 20 = .ok (.ireturn, 1) := by decide +kernel
set_option maxRecDepth 20000 in
theorem ggL_lock_X1_lock : GoodIn wsL_lock wsX1_lock := goodIn_ca (goodIn_r _ [6, 7, 8, 9, 10, 11, 12, 5, 13, 14, 15, 16, 17, 18, 19, 20, 21, 22, 23, 24, 25, 26, 27, 28, 29, 30, 31, 32, 33, 34, 35, 36, 37, 38, 39, 40, 41, 42, 43, 44, 45, 46, 47, 48, 49, 50, 51, 52] (by decide +kernel) (by decide +kernel)) (goodIn_sub (fun _ h => List.mem_cons_of_mem _ (List.mem_append_right _ h)) (by decide +kernel))
set_option maxRecDepth 20000 in
theorem gL_lock_X1_lock : GoodIn wsL_lock (wsV RL 9 RX1 yX1_lock wsX1_lock) := goodIn_app (goodIn_of _ (by decide +kernel)) ggL_lock_X1_lock
theorem dL_lock_0 : decode cL_lock 0 = .ok (.aload_n 0, 1) := by decide +kernel
theorem dL_lock_1 : decode cL_lock 1 = .ok (.invokevirtual 9, 3) := by decide +kernel
theorem dL_lock_4 : decode cL_lock 4 = .ok (.ireturn, 1) := by decide +kernel
theorem dL_lock_5 : decode cL_lock 5 = .ok (.astore_n 1, 1) := by decide +kernel
theorem dL_lock_6 : decode cL_lock 6 = .ok (.bipush (-3), 2) := by decide +kernel
theorem dL_lock_8 : decode cL_lock 8 = .ok (.ireturn, 1) := by decide +kernel
set_option maxRecDepth 20000 in
theorem ggL_open_X1_open : GoodIn wsL_open wsX1_open := goodIn_ca (goodIn_r _ [6, 7, 8, 9, 10, 11, 5, 12, 13, 14, 15, 16, 17, 18, 19, 20, 21, 22, 23, 24, 25, 26, 27, 28, 29, 30, 31, 32, 33, 34, 35, 36, 37, 38, 39, 40, 41, 42, 43, 44, 45, 46, 47, 48, 49, 50, 51, 52, 53, 54, 55, 56, 57, 58, 59, 60, 61, 62, 63, 64, 65, 66, 67, 68] (by decide +kernel) (by decide +kernel)) (goodIn_sub (fun _ h => List.mem_cons_of_mem _ (List.mem_append_right _ h)) (by decide +kernel))
set_option maxRecDepth 20000 in
theorem gL_open_X1_open : GoodIn wsL_open (wsV RL 17 RX1 yX1_open wsX1_open) := goodIn_app (goodIn_of _ (by decide +kernel)) ggL_open_X1_open
theorem dL_open_0 : decode cL_open 0 = .ok (.aload_n 0, 1) := by decide +kernel
theorem dL_open_1 : decode cL_open 1 = .ok (.invokevirtual 17, 3) := by decide +kernel
theorem dL_open_4 : decode cL_open 4 = .ok (.ireturn, 1) := by decide +kernel
theorem dL_open_5 : decode cL_open 5 = .ok (.astore_n 1, 1) := by decide +kernel
theorem dL_open_6 : decode cL_open 6 = .ok (.bipush (-3), 2) := by decide +kernel
theorem dL_open_8 : decode cL_open 8 = .ok (.ireturn, 1) := by decide +kernel
set_option maxRecDepth 20000 in
theorem ggL_wind_X1_wind : GoodIn wsL_wind wsX1_wind := goodIn_ca (goodIn_ca (goodIn_ca (goodIn_r _ [6, 7, 8, 9, 10, 11, 12, 13, 14, 5, 15, 16, 17, 18, 19, 20, 21, 22, 23, 24, 25, 26, 27, 28, 29, 30, 31, 32, 33, 34, 35, 36, 37, 38, 39, 40, 41, 42, 43, 44, 45, 46, 47, 48, 49, 50] (by decide +kernel) (by decide +kernel)) (goodIn_sub (fun _ h => List.mem_cons_of_mem _ (List.mem_append_left _ (List.mem_append_left _ (List.mem_append_right _ h)))) (by decide +kernel))) (goodIn_sub (fun _ h => List.mem_cons_of_mem _ (List.mem_append_left _ (List.mem_append_right _ h))) (by decide +kernel))) (goodIn_sub (fun _ h => List.mem_cons_of_mem _ (List.mem_append_right _ h)) (by decide +kernel))
set_option maxRecDepth 20000 in
theorem gL_wind_X1_wind : GoodIn wsL_wind (wsV RL 20 RX1 yX1_wind wsX1_wind) := goodIn_app (goodIn_of _ (by decide +kernel)) ggL_wind_X1_wind
theorem dL_wind_0 : decode cL_wind 0 = .ok (.aload_n 0, 1) := by decide +kernel
theorem dL_wind_1 : decode cL_wind 1 = .ok (.iload_n 1, 1) := by decide +kernel
theorem dL_wind_2 : decode cL_wind 2 = .ok (.iload_n 2, 1) := by decide +kernel
theorem dL_wind_3 : decode cL_wind 3 = .ok (.invokevirtual 20, 3) := by decide +kernel
theorem dL_wind_6 : decode cL_wind 6 = .ok (.ireturn, 1) := by decide +kernel
theorem dL_wind_7 : decode cL_wind 7 = .ok (.astore_n 3, 1) := by decide +kernel
theorem dL_wind_8 : decode cL_wind 8 = .ok (.bipush (-3), 2) := by decide +kernel
theorem dL_wind_10 : decode cL_wind 10 = .ok (.ireturn, 1) := by decide +kernel
set_option maxRecDepth 20000 in
theorem ggL_service_X1_service : GoodIn wsL_service wsX1_service := goodIn_ca (goodIn_ca (goodIn_r _ [6, 7, 8, 9, 10, 11, 12, 13, 5, 14, 15, 16, 17, 18, 19, 20, 21, 22, 23, 24, 25, 26, 27, 28, 29, 30, 31, 32, 33, 34, 35, 36, 37, 38, 39, 40, 41] (by decide +kernel) (by decide +kernel)) (goodIn_sub (fun _ h => List.mem_cons_of_mem _ (List.mem_append_left _ (List.mem_append_right _ h))) (by decide +kernel))) (goodIn_sub (fun _ h => List.mem_cons_of_mem _ (List.mem_append_right _ h)) (by decide +kernel))
set_option maxRecDepth 20000 in
theorem gL_service_X1_service : GoodIn wsL_service (wsV RL 24 RX1 yX1_service wsX1_service) := goodIn_app (goodIn_of _ (by decide +kernel)) ggL_service_X1_service
theorem dL_service_0 : decode cL_service 0 = .ok (.aload_n 0, 1) := by decide +kernel
theorem dL_service_1 : decode cL_service 1 = .ok (.iload_n 1, 1) := by decide +kernel
theorem dL_service_2 : decode cL_service 2 = .ok (.invokevirtual 24, 3) := by decide +kernel
theorem dL_service_5 : decode cL_service 5 = .ok (.ireturn, 1) := by decide +kernel
theorem dL_service_6 : decode cL_service 6 = .ok (.astore_n 2, 1) := by decide +kernel
theorem dL_service_7 : decode cL_service 7 = .ok (.bipush (-3), 2) := by decide +kernel
theorem dL_service_9 : decode cL_service 9 = .ok (.ireturn, 1) := by decide +kernel
set_option maxRecDepth 20000 in
theorem ggL_undo_X1_undo : GoodIn wsL_undo wsX1_undo := goodIn_ca (goodIn_r _ [6, 7, 8, 9, 10, 11, 12, 13, 14, 15, 16, 17, 18, 19, 20, 21] (by decide +kernel) (by decide +kernel)) (goodIn_sub (fun _ h => List.mem_cons_of_mem _ (List.mem_append_right _ h)) (by decide +kernel))
set_option maxRecDepth 20000 in
theorem gL_undo_X1_undo : GoodIn wsL_undo (wsV RL 28 RX1 yX1_undo wsX1_undo) := goodIn_app (goodIn_of _ (by decide +kernel)) ggL_undo_X1_undo
theorem dL_undo_0 : decode cL_undo 0 = .ok (.aload_n 0, 1) := by decide +kernel
theorem dL_undo_1 : decode cL_undo 1 = .ok (.invokevirtual 28, 3) := by decide +kernel
theorem dL_undo_4 : decode cL_undo 4 = .ok (.ireturn, 1) := by decide +kernel
theorem dL_undo_5 : decode cL_undo 5 = .ok (.astore_n 1, 1) := by decide +kernel
theorem dL_undo_6 : decode cL_undo 6 = .ok (.bipush (-3), 2) := by decide +kernel
theorem dL_undo_8 : decode cL_undo 8 = .ok (.ireturn, 1) := by decide +kernel
set_option maxRecDepth 20000 in
theorem ggL_drill_X1_drill : GoodIn wsL_drill wsX1_drill := goodIn_ca (goodIn_r _ [6, 7, 8, 9, 10, 11, 12, 5, 13, 14, 15, 16, 17, 18, 19, 20, 21, 22, 23, 24, 25, 26, 27, 28, 29, 30, 31, 32, 33, 34, 35, 36] (by decide +kernel) (by decide +kernel)) (goodIn_sub (fun _ h => List.mem_cons_of_mem _ (List.mem_append_right _ h)) (by decide +kernel))
set_option maxRecDepth 20000 in
theorem gL_drill_X1_drill : GoodIn wsL_drill (wsV RL 31 RX1 yX1_drill wsX1_drill) := goodIn_app (goodIn_of _ (by decide +kernel)) ggL_drill_X1_drill
theorem dL_drill_0 : decode cL_drill 0 = .ok (.aload_n 0, 1) := by decide +kernel
theorem dL_drill_1 : decode cL_drill 1 = .ok (.invokevirtual 31, 3) := by decide +kernel
theorem dL_drill_4 : decode cL_drill 4 = .ok (.ireturn, 1) := by decide +kernel
theorem dL_drill_5 : decode cL_drill 5 = .ok (.astore_n 1, 1) := by decide +kernel
theorem dL_drill_6 : decode cL_drill 6 = .ok (.bipush (-3), 2) := by decide +kernel
theorem dL_drill_8 : decode cL_drill 8 = .ok (.ireturn, 1) := by decide +kernel
set_option maxRecDepth 20000 in
theorem ggL_clock_X1_count : GoodIn wsL_clock wsX1_count := goodIn_ca (goodIn_r _ [5, 6, 7, 8, 9, 10, 4, 11, 12, 13, 14, 15, 16, 17, 18, 19, 20, 21, 22, 23, 24, 25, 26, 27, 28, 29, 30, 31, 32, 33, 114, 115, 116, 117, 118, 119] (by decide +kernel) (by decide +kernel)) (goodIn_sub (fun _ h => List.mem_cons_of_mem _ (List.mem_append_left _ (List.mem_append_right _ h))) (by decide +kernel))
set_option maxRecDepth 20000 in
theorem gL_clock_X1_count : GoodIn wsL_clock (wsV RL 34 RX1 yX1_count wsX1_count) := goodIn_app (goodIn_of _ (by decide +kernel)) ggL_clock_X1_count
set_option maxRecDepth 20000 in
theorem ggL_clock_X1_day : GoodIn wsL_clock wsX1_day := goodIn_ca (goodIn_r _ [37, 38, 39, 12, 40, 41, 4, 42, 114, 115, 116, 117, 118, 119] (by decide +kernel) (by decide +kernel)) (goodIn_sub (fun _ h => List.mem_cons_of_mem _ (List.mem_append_right _ h)) (by decide +kernel))
set_option maxRecDepth 20000 in
theorem gL_clock_X1_day : GoodIn wsL_clock (wsV RL 37 RX1 yX1_day wsX1_day) := goodIn_app (goodIn_of _ (by decide +kernel)) ggL_clock_X1_day
set_option maxRecDepth 20000 in
theorem ggL_clock_X1_movement : GoodIn wsL_clock wsX1_movement := goodIn_ca (goodIn_ca (goodIn_r _ [46, 38, 39, 6, 7, 47, 48, 4, 49, 50, 51, 52, 53, 12, 54, 55, 56, 57, 58, 59, 60, 61, 62, 63, 64, 114, 115, 116, 117, 118, 119] (by decide +kernel) (by decide +kernel)) (goodIn_sub (fun _ h => List.mem_cons_of_mem _ (List.mem_append_right _ h)) (by decide +kernel))) (goodIn_sub (fun _ h => List.mem_cons_of_mem _ (List.mem_append_left _ (List.mem_append_right _ h))) (by decide +kernel))
set_option maxRecDepth 20000 in
theorem gL_clock_X1_movement : GoodIn wsL_clock (wsV RL 40 RX1 yX1_movement wsX1_movement) := goodIn_app (goodIn_of _ (by decide +kernel)) ggL_clock_X1_movement
set_option maxRecDepth 20000 in
theorem ggL_clock_X1_setting : GoodIn wsL_clock wsX1_setting := goodIn_ca (goodIn_r _ [68, 38, 39, 12, 69, 70, 4, 71, 114, 115, 116, 117, 118, 119] (by decide +kernel) (by decide +kernel)) (goodIn_sub (fun _ h => List.mem_cons_of_mem _ (List.mem_append_right _ h)) (by decide +kernel))
set_option maxRecDepth 20000 in
theorem gL_clock_X1_setting : GoodIn wsL_clock (wsV RL 43 RX1 yX1_setting wsX1_setting) := goodIn_app (goodIn_of _ (by decide +kernel)) ggL_clock_X1_setting
set_option maxRecDepth 20000 in
theorem ggL_clock_X1_rightWinding : GoodIn wsL_clock wsX1_rightWinding := goodIn_ca (goodIn_r _ [75, 38, 39, 47, 48, 4, 49, 76, 77, 78, 79, 12, 22, 23, 24, 25, 14, 15, 16, 17, 18, 19, 20, 21, 54, 55, 56, 57, 58, 59, 60, 80, 81, 82, 83, 84, 85, 114, 115, 116, 117, 118, 119] (by decide +kernel) (by decide +kernel)) (goodIn_sub (fun _ h => List.mem_cons_of_mem _ (List.mem_append_right _ h)) (by decide +kernel))
set_option maxRecDepth 20000 in
theorem gL_clock_X1_rightWinding : GoodIn wsL_clock (wsV RL 46 RX1 yX1_rightWinding wsX1_rightWinding) := goodIn_app (goodIn_of _ (by decide +kernel)) ggL_clock_X1_rightWinding
set_option maxRecDepth 20000 in
theorem ggL_clock_X1_opensIn : GoodIn wsL_clock wsX1_opensIn := goodIn_r _ [89, 90, 91, 92, 4, 93, 30, 31, 32, 33, 94, 95, 96, 97, 12, 57, 58, 59, 60, 54, 55, 56, 61, 62, 63, 64, 26, 27, 28, 29, 114, 115, 116, 117, 118, 119] (by decide +kernel) (by decide +kernel)
set_option maxRecDepth 20000 in
theorem gL_clock_X1_opensIn : GoodIn wsL_clock (wsV RL 49 RX1 yX1_opensIn wsX1_opensIn) := goodIn_app (goodIn_of _ (by decide +kernel)) ggL_clock_X1_opensIn
set_option maxRecDepth 20000 in
theorem ggL_clock_X1_lateness : GoodIn wsL_clock wsX1_lateness := goodIn_r _ [101, 30, 31, 32, 33, 94, 95, 96, 4, 97, 12, 90, 91, 92, 93, 57, 58, 59, 60, 54, 55, 56, 61, 62, 63, 64, 26, 27, 28, 29, 102, 103, 104, 105, 114, 115, 116, 117, 118, 119] (by decide +kernel) (by decide +kernel)
set_option maxRecDepth 20000 in
theorem gL_clock_X1_lateness : GoodIn wsL_clock (wsV RL 52 RX1 yX1_lateness wsX1_lateness) := goodIn_app (goodIn_of _ (by decide +kernel)) ggL_clock_X1_lateness
set_option maxRecDepth 20000 in
theorem ggL_clock_X1_keyMovement : GoodIn wsL_clock wsX1_keyMovement := goodIn_r _ [109, 90, 91, 92, 4, 93, 30, 31, 32, 33, 94, 95, 96, 97, 12, 57, 58, 59, 60, 54, 55, 56, 61, 62, 63, 64, 26, 27, 28, 29, 114, 115, 116, 117, 118, 119] (by decide +kernel) (by decide +kernel)
set_option maxRecDepth 20000 in
theorem gL_clock_X1_keyMovement : GoodIn wsL_clock (wsV RL 55 RX1 yX1_keyMovement wsX1_keyMovement) := goodIn_app (goodIn_of _ (by decide +kernel)) ggL_clock_X1_keyMovement
set_option maxRecDepth 20000 in
theorem ggL_clock_X1_punctuality : GoodIn wsL_clock wsX1_punctuality := goodIn_r _ [113, 12, 114, 115, 116, 117, 118, 119] (by decide +kernel) (by decide +kernel)
set_option maxRecDepth 20000 in
theorem gL_clock_X1_punctuality : GoodIn wsL_clock (wsV RL 58 RX1 yX1_punctuality wsX1_punctuality) := goodIn_app (goodIn_of _ (by decide +kernel)) ggL_clock_X1_punctuality
theorem dL_clock_0 : decode cL_clock 0 = .ok (.aload_n 0, 1) := by decide +kernel
theorem dL_clock_1 : decode cL_clock 1 = .ok (.iconst 3, 1) := by decide +kernel
theorem dL_clock_2 : decode cL_clock 2 = .ok (.invokevirtual 34, 3) := by decide +kernel
theorem dL_clock_5 : decode cL_clock 5 = .ok (.iconst 1, 1) := by decide +kernel
theorem dL_clock_6 : decode cL_clock 6 = .ok (.if_icmp .ne 7, 3) := by decide +kernel
theorem dL_clock_9 : decode cL_clock 9 = .ok (.iconst 1, 1) := by decide +kernel
theorem dL_clock_10 : decode cL_clock 10 = .ok (.goto 4, 3) := by decide +kernel
theorem dL_clock_13 : decode cL_clock 13 = .ok (.iconst 0, 1) := by decide +kernel
theorem dL_clock_14 : decode cL_clock 14 = .ok (.istore_n 1, 1) := by decide +kernel
theorem dL_clock_15 : decode cL_clock 15 = .ok (.iconst 1, 1) := by decide +kernel
theorem dL_clock_16 : decode cL_clock 16 = .ok (.istore_n 2, 1) := by decide +kernel
theorem dL_clock_17 : decode cL_clock 17 = .ok (.iconst 0, 1) := by decide +kernel
theorem dL_clock_18 : decode cL_clock 18 = .ok (.istore_n 3, 1) := by decide +kernel
theorem dL_clock_19 : decode cL_clock 19 = .ok (.aload_n 0, 1) := by decide +kernel
theorem dL_clock_20 : decode cL_clock 20 = .ok (.iconst 1, 1) := by decide +kernel
theorem dL_clock_21 : decode cL_clock 21 = .ok (.invokevirtual 34, 3) := by decide +kernel
theorem dL_clock_24 : decode cL_clock 24 = .ok (.aload_n 0, 1) := by decide +kernel
theorem dL_clock_25 : decode cL_clock 25 = .ok (.iconst 0, 1) := by decide +kernel
theorem dL_clock_26 : decode cL_clock 26 = .ok (.invokevirtual 34, 3) := by decide +kernel
theorem dL_clock_29 : decode cL_clock 29 = .ok (.bipush 24, 2) := by decide +kernel
theorem dL_clock_31 : decode cL_clock 31 = .ok (.idiv, 1) := by decide +kernel
theorem dL_clock_32 : decode cL_clock 32 = .ok (.bipush 7, 2) := by decide +kernel
theorem dL_clock_34 : decode cL_clock 34 = .ok (.irem, 1) := by decide +kernel
theorem dL_clock_35 : decode cL_clock 35 = .ok (.if_icmp .ne 23, 3) := by decide +kernel
theorem dL_clock_38 : decode cL_clock 38 = .ok (.aload_n 0, 1) := by decide +kernel
theorem dL_clock_39 : decode cL_clock 39 = .ok (.iconst 2, 1) := by decide +kernel
theorem dL_clock_40 : decode cL_clock 40 = .ok (.invokevirtual 34, 3) := by decide +kernel
theorem dL_clock_43 : decode cL_clock 43 = .ok (.aload_n 0, 1) := by decide +kernel
theorem dL_clock_44 : decode cL_clock 44 = .ok (.iconst 0, 1) := by decide +kernel
theorem dL_clock_45 : decode cL_clock 45 = .ok (.invokevirtual 34, 3) := by decide +kernel
theorem dL_clock_48 : decode cL_clock 48 = .ok (.bipush 24, 2) := by decide +kernel
theorem dL_clock_50 : decode cL_clock 50 = .ok (.irem, 1) := by decide +kernel
theorem dL_clock_51 : decode cL_clock 51 = .ok (.if_icmp .ne 7, 3) := by decide +kernel
theorem dL_clock_54 : decode cL_clock 54 = .ok (.iconst 1, 1) := by decide +kernel
theorem dL_clock_55 : decode cL_clock 55 = .ok (.goto 4, 3) := by decide +kernel
theorem dL_clock_58 : decode cL_clock 58 = .ok (.iconst 0, 1) := by decide +kernel
theorem dL_clock_59 : decode cL_clock 59 = .ok (.istore 4, 2) := by decide +kernel
theorem dL_clock_61 : decode cL_clock 61 = .ok (.iconst 0, 1) := by decide +kernel
theorem dL_clock_62 : decode cL_clock 62 = .ok (.istore 5, 2) := by decide +kernel
theorem dL_clock_64 : decode cL_clock 64 = .ok (.iload 5, 2) := by decide +kernel
theorem dL_clock_66 : decode cL_clock 66 = .ok (.bipush 7, 2) := by decide +kernel
theorem dL_clock_68 : decode cL_clock 68 = .ok (.if_icmp .ge 29, 3) := by decide +kernel
theorem dL_clock_71 : decode cL_clock 71 = .ok (.iload_n 2, 1) := by decide +kernel
theorem dL_clock_72 : decode cL_clock 72 = .ok (.ifCond .eq 17, 3) := by decide +kernel
theorem dL_clock_75 : decode cL_clock 75 = .ok (.aload_n 0, 1) := by decide +kernel
theorem dL_clock_76 : decode cL_clock 76 = .ok (.iload 5, 2) := by decide +kernel
theorem dL_clock_78 : decode cL_clock 78 = .ok (.invokevirtual 37, 3) := by decide +kernel
theorem dL_clock_81 : decode cL_clock 81 = .ok (.iconst (-1), 1) := by decide +kernel
theorem dL_clock_82 : decode cL_clock 82 = .ok (.if_icmp .ne 7, 3) := by decide +kernel
theorem dL_clock_85 : decode cL_clock 85 = .ok (.iconst 1, 1) := by decide +kernel
theorem dL_clock_86 : decode cL_clock 86 = .ok (.goto 4, 3) := by decide +kernel
theorem dL_clock_89 : decode cL_clock 89 = .ok (.iconst 0, 1) := by decide +kernel
theorem dL_clock_90 : decode cL_clock 90 = .ok (.istore_n 2, 1) := by decide +kernel
theorem dL_clock_91 : decode cL_clock 91 = .ok (.iinc 5 1, 3) := by decide +kernel
theorem dL_clock_94 : decode cL_clock 94 = .ok (.goto (-30), 3) := by decide +kernel
theorem dL_clock_97 : decode cL_clock 97 = .ok (.iconst 0, 1) := by decide +kernel
theorem dL_clock_98 : decode cL_clock 98 = .ok (.istore 5, 2) := by decide +kernel
theorem dL_clock_100 : decode cL_clock 100 = .ok (.iload 5, 2) := by decide +kernel
theorem dL_clock_102 : decode cL_clock 102 = .ok (.iconst 3, 1) := by decide +kernel
theorem dL_clock_103 : decode cL_clock 103 = .ok (.if_icmp .ge 198, 3) := by decide +kernel
theorem dL_clock_106 : decode cL_clock 106 = .ok (.iload 4, 2) := by decide +kernel
theorem dL_clock_108 : decode cL_clock 108 = .ok (.ifCond .eq 193, 3) := by decide +kernel
theorem dL_clock_111 : decode cL_clock 111 = .ok (.aload_n 0, 1) := by decide +kernel
theorem dL_clock_112 : decode cL_clock 112 = .ok (.iload 5, 2) := by decide +kernel
theorem dL_clock_114 : decode cL_clock 114 = .ok (.iconst 5, 1) := by decide +kernel
theorem dL_clock_115 : decode cL_clock 115 = .ok (.invokevirtual 40, 3) := by decide +kernel
theorem dL_clock_118 : decode cL_clock 118 = .ok (.istore 6, 2) := by decide +kernel
theorem dL_clock_120 : decode cL_clock 120 = .ok (.iload_n 3, 1) := by decide +kernel
theorem dL_clock_121 : decode cL_clock 121 = .ok (.ifCond .ne 13, 3) := by decide +kernel
theorem dL_clock_124 : decode cL_clock 124 = .ok (.aload_n 0, 1) := by decide +kernel
theorem dL_clock_125 : decode cL_clock 125 = .ok (.iload 5, 2) := by decide +kernel
theorem dL_clock_127 : decode cL_clock 127 = .ok (.iconst 0, 1) := by decide +kernel
theorem dL_clock_128 : decode cL_clock 128 = .ok (.invokevirtual 40, 3) := by decide +kernel
theorem dL_clock_131 : decode cL_clock 131 = .ok (.ifCond .ne 7, 3) := by decide +kernel
theorem dL_clock_134 : decode cL_clock 134 = .ok (.iconst 1, 1) := by decide +kernel
theorem dL_clock_135 : decode cL_clock 135 = .ok (.goto 4, 3) := by decide +kernel
theorem dL_clock_138 : decode cL_clock 138 = .ok (.iconst 0, 1) := by decide +kernel
theorem dL_clock_139 : decode cL_clock 139 = .ok (.istore_n 3, 1) := by decide +kernel
theorem dL_clock_140 : decode cL_clock 140 = .ok (.aload_n 0, 1) := by decide +kernel
theorem dL_clock_141 : decode cL_clock 141 = .ok (.iload 5, 2) := by decide +kernel
theorem dL_clock_143 : decode cL_clock 143 = .ok (.iconst 0, 1) := by decide +kernel
theorem dL_clock_144 : decode cL_clock 144 = .ok (.invokevirtual 40, 3) := by decide +kernel
theorem dL_clock_147 : decode cL_clock 147 = .ok (.ifCond .lt 96, 3) := by decide +kernel
theorem dL_clock_150 : decode cL_clock 150 = .ok (.aload_n 0, 1) := by decide +kernel
theorem dL_clock_151 : decode cL_clock 151 = .ok (.iload 5, 2) := by decide +kernel
theorem dL_clock_153 : decode cL_clock 153 = .ok (.iconst 0, 1) := by decide +kernel
theorem dL_clock_154 : decode cL_clock 154 = .ok (.invokevirtual 40, 3) := by decide +kernel
theorem dL_clock_157 : decode cL_clock 157 = .ok (.sipush 200, 3) := by decide +kernel
theorem dL_clock_160 : decode cL_clock 160 = .ok (.if_icmp .gt 83, 3) := by decide +kernel
theorem dL_clock_163 : decode cL_clock 163 = .ok (.iload 6, 2) := by decide +kernel
theorem dL_clock_165 : decode cL_clock 165 = .ok (.iconst (-1), 1) := by decide +kernel
theorem dL_clock_166 : decode cL_clock 166 = .ok (.if_icmp .eq 15, 3) := by decide +kernel
theorem dL_clock_169 : decode cL_clock 169 = .ok (.iload 6, 2) := by decide +kernel
theorem dL_clock_171 : decode cL_clock 171 = .ok (.aload_n 0, 1) := by decide +kernel
theorem dL_clock_172 : decode cL_clock 172 = .ok (.iload 5, 2) := by decide +kernel
theorem dL_clock_174 : decode cL_clock 174 = .ok (.iconst 0, 1) := by decide +kernel
theorem dL_clock_175 : decode cL_clock 175 = .ok (.invokevirtual 40, 3) := by decide +kernel
theorem dL_clock_178 : decode cL_clock 178 = .ok (.if_icmp .lt 65, 3) := by decide +kernel
theorem dL_clock_181 : decode cL_clock 181 = .ok (.iload 6, 2) := by decide +kernel
theorem dL_clock_183 : decode cL_clock 183 = .ok (.ifCond .ne 7, 3) := by decide +kernel
theorem dL_clock_186 : decode cL_clock 186 = .ok (.iconst 1, 1) := by decide +kernel
theorem dL_clock_187 : decode cL_clock 187 = .ok (.goto 4, 3) := by decide +kernel
theorem dL_clock_190 : decode cL_clock 190 = .ok (.iconst 0, 1) := by decide +kernel
theorem dL_clock_191 : decode cL_clock 191 = .ok (.aload_n 0, 1) := by decide +kernel
theorem dL_clock_192 : decode cL_clock 192 = .ok (.iload 5, 2) := by decide +kernel
theorem dL_clock_194 : decode cL_clock 194 = .ok (.iconst 0, 1) := by decide +kernel
theorem dL_clock_195 : decode cL_clock 195 = .ok (.invokevirtual 40, 3) := by decide +kernel
theorem dL_clock_198 : decode cL_clock 198 = .ok (.ifCond .ne 7, 3) := by decide +kernel
theorem dL_clock_201 : decode cL_clock 201 = .ok (.iconst 1, 1) := by decide +kernel
theorem dL_clock_202 : decode cL_clock 202 = .ok (.goto 4, 3) := by decide +kernel
theorem dL_clock_205 : decode cL_clock 205 = .ok (.iconst 0, 1) := by decide +kernel
theorem dL_clock_206 : decode cL_clock 206 = .ok (.if_icmp .ne 37, 3) := by decide +kernel
theorem dL_clock_209 : decode cL_clock 209 = .ok (.aload_n 0, 1) := by decide +kernel
theorem dL_clock_210 : decode cL_clock 210 = .ok (.iload 5, 2) := by decide +kernel
theorem dL_clock_212 : decode cL_clock 212 = .ok (.iconst 4, 1) := by decide +kernel
theorem dL_clock_213 : decode cL_clock 213 = .ok (.invokevirtual 40, 3) := by decide +kernel
theorem dL_clock_216 : decode cL_clock 216 = .ok (.aload_n 0, 1) := by decide +kernel
theorem dL_clock_217 : decode cL_clock 217 = .ok (.iload 5, 2) := by decide +kernel
theorem dL_clock_219 : decode cL_clock 219 = .ok (.iconst 3, 1) := by decide +kernel
theorem dL_clock_220 : decode cL_clock 220 = .ok (.invokevirtual 40, 3) := by decide +kernel
theorem dL_clock_223 : decode cL_clock 223 = .ok (.aload_n 0, 1) := by decide +kernel
theorem dL_clock_224 : decode cL_clock 224 = .ok (.iconst 2, 1) := by decide +kernel
theorem dL_clock_225 : decode cL_clock 225 = .ok (.invokevirtual 43, 3) := by decide +kernel
theorem dL_clock_228 : decode cL_clock 228 = .ok (.if_icmp .lt 7, 3) := by decide +kernel
theorem dL_clock_231 : decode cL_clock 231 = .ok (.iconst 1, 1) := by decide +kernel
theorem dL_clock_232 : decode cL_clock 232 = .ok (.goto 4, 3) := by decide +kernel
theorem dL_clock_235 : decode cL_clock 235 = .ok (.iconst 0, 1) := by decide +kernel
theorem dL_clock_236 : decode cL_clock 236 = .ok (.if_icmp .ne 7, 3) := by decide +kernel
theorem dL_clock_239 : decode cL_clock 239 = .ok (.iconst 1, 1) := by decide +kernel
theorem dL_clock_240 : decode cL_clock 240 = .ok (.goto 4, 3) := by decide +kernel
theorem dL_clock_243 : decode cL_clock 243 = .ok (.iconst 0, 1) := by decide +kernel
theorem dL_clock_244 : decode cL_clock 244 = .ok (.istore 4, 2) := by decide +kernel
theorem dL_clock_246 : decode cL_clock 246 = .ok (.iload 4, 2) := by decide +kernel
theorem dL_clock_248 : decode cL_clock 248 = .ok (.ifCond .eq 44, 3) := by decide +kernel
theorem dL_clock_251 : decode cL_clock 251 = .ok (.aload_n 0, 1) := by decide +kernel
theorem dL_clock_252 : decode cL_clock 252 = .ok (.iload 5, 2) := by decide +kernel
theorem dL_clock_254 : decode cL_clock 254 = .ok (.iconst 1, 1) := by decide +kernel
theorem dL_clock_255 : decode cL_clock 255 = .ok (.invokevirtual 40, 3) := by decide +kernel
theorem dL_clock_258 : decode cL_clock 258 = .ok (.iconst 1, 1) := by decide +kernel
theorem dL_clock_259 : decode cL_clock 259 = .ok (.if_icmp .eq 8, 3) := by decide +kernel
theorem dL_clock_262 : decode cL_clock 262 = .ok (.iload 6, 2) := by decide +kernel
theorem dL_clock_264 : decode cL_clock 264 = .ok (.ifCond .gt 28, 3) := by decide +kernel
theorem dL_clock_267 : decode cL_clock 267 = .ok (.aload_n 0, 1) := by decide +kernel
theorem dL_clock_268 : decode cL_clock 268 = .ok (.iload 5, 2) := by decide +kernel
theorem dL_clock_270 : decode cL_clock 270 = .ok (.iconst 1, 1) := by decide +kernel
theorem dL_clock_271 : decode cL_clock 271 = .ok (.invokevirtual 40, 3) := by decide +kernel
theorem dL_clock_274 : decode cL_clock 274 = .ok (.iconst 1, 1) := by decide +kernel
theorem dL_clock_275 : decode cL_clock 275 = .ok (.if_icmp .eq 13, 3) := by decide +kernel
theorem dL_clock_278 : decode cL_clock 278 = .ok (.aload_n 0, 1) := by decide +kernel
theorem dL_clock_279 : decode cL_clock 279 = .ok (.iload 5, 2) := by decide +kernel
theorem dL_clock_281 : decode cL_clock 281 = .ok (.invokevirtual 46, 3) := by decide +kernel
theorem dL_clock_284 : decode cL_clock 284 = .ok (.iconst (-1), 1) := by decide +kernel
theorem dL_clock_285 : decode cL_clock 285 = .ok (.if_icmp .ne 7, 3) := by decide +kernel
theorem dL_clock_288 : decode cL_clock 288 = .ok (.iconst 1, 1) := by decide +kernel
theorem dL_clock_289 : decode cL_clock 289 = .ok (.goto 4, 3) := by decide +kernel
theorem dL_clock_292 : decode cL_clock 292 = .ok (.iconst 0, 1) := by decide +kernel
theorem dL_clock_293 : decode cL_clock 293 = .ok (.istore 4, 2) := by decide +kernel
theorem dL_clock_295 : decode cL_clock 295 = .ok (.iinc 5 1, 3) := by decide +kernel
theorem dL_clock_298 : decode cL_clock 298 = .ok (.goto (-198), 3) := by decide +kernel
theorem dL_clock_301 : decode cL_clock 301 = .ok (.iload 4, 2) := by decide +kernel
theorem dL_clock_303 : decode cL_clock 303 = .ok (.ifCond .eq 98, 3) := by decide +kernel
theorem dL_clock_306 : decode cL_clock 306 = .ok (.iload_n 2, 1) := by decide +kernel
theorem dL_clock_307 : decode cL_clock 307 = .ok (.ifCond .eq 15, 3) := by decide +kernel
theorem dL_clock_310 : decode cL_clock 310 = .ok (.aload_n 0, 1) := by decide +kernel
theorem dL_clock_311 : decode cL_clock 311 = .ok (.iconst 4, 1) := by decide +kernel
theorem dL_clock_312 : decode cL_clock 312 = .ok (.invokevirtual 34, 3) := by decide +kernel
theorem dL_clock_315 : decode cL_clock 315 = .ok (.iconst (-1), 1) := by decide +kernel
theorem dL_clock_316 : decode cL_clock 316 = .ok (.if_icmp .ne 85, 3) := by decide +kernel
theorem dL_clock_319 : decode cL_clock 319 = .ok (.goto 23, 3) := by decide +kernel
theorem dL_clock_322 : decode cL_clock 322 = .ok (.aload_n 0, 1) := by decide +kernel
theorem dL_clock_323 : decode cL_clock 323 = .ok (.iconst 4, 1) := by decide +kernel
theorem dL_clock_324 : decode cL_clock 324 = .ok (.invokevirtual 34, 3) := by decide +kernel
theorem dL_clock_327 : decode cL_clock 327 = .ok (.iconst 1, 1) := by decide +kernel
theorem dL_clock_328 : decode cL_clock 328 = .ok (.if_icmp .lt 73, 3) := by decide +kernel
theorem dL_clock_331 : decode cL_clock 331 = .ok (.aload_n 0, 1) := by decide +kernel
theorem dL_clock_332 : decode cL_clock 332 = .ok (.iconst 4, 1) := by decide +kernel
theorem dL_clock_333 : decode cL_clock 333 = .ok (.invokevirtual 34, 3) := by decide +kernel
theorem dL_clock_336 : decode cL_clock 336 = .ok (.sipush 168, 3) := by decide +kernel
theorem dL_clock_339 : decode cL_clock 339 = .ok (.if_icmp .gt 62, 3) := by decide +kernel
theorem dL_clock_342 : decode cL_clock 342 = .ok (.aload_n 0, 1) := by decide +kernel
theorem dL_clock_343 : decode cL_clock 343 = .ok (.bipush 9, 2) := by decide +kernel
theorem dL_clock_345 : decode cL_clock 345 = .ok (.invokevirtual 34, 3) := by decide +kernel
theorem dL_clock_348 : decode cL_clock 348 = .ok (.aload_n 0, 1) := by decide +kernel
theorem dL_clock_349 : decode cL_clock 349 = .ok (.bipush 10, 2) := by decide +kernel
theorem dL_clock_351 : decode cL_clock 351 = .ok (.invokevirtual 34, 3) := by decide +kernel
theorem dL_clock_354 : decode cL_clock 354 = .ok (.aload_n 0, 1) := by decide +kernel
theorem dL_clock_355 : decode cL_clock 355 = .ok (.bipush 11, 2) := by decide +kernel
theorem dL_clock_357 : decode cL_clock 357 = .ok (.invokevirtual 34, 3) := by decide +kernel
theorem dL_clock_360 : decode cL_clock 360 = .ok (.iadd, 1) := by decide +kernel
theorem dL_clock_361 : decode cL_clock 361 = .ok (.aload_n 0, 1) := by decide +kernel
theorem dL_clock_362 : decode cL_clock 362 = .ok (.bipush 12, 2) := by decide +kernel
theorem dL_clock_364 : decode cL_clock 364 = .ok (.invokevirtual 34, 3) := by decide +kernel
theorem dL_clock_367 : decode cL_clock 367 = .ok (.iadd, 1) := by decide +kernel
theorem dL_clock_368 : decode cL_clock 368 = .ok (.if_icmp .ne 33, 3) := by decide +kernel
theorem dL_clock_371 : decode cL_clock 371 = .ok (.aload_n 0, 1) := by decide +kernel
theorem dL_clock_372 : decode cL_clock 372 = .ok (.bipush 8, 2) := by decide +kernel
theorem dL_clock_374 : decode cL_clock 374 = .ok (.invokevirtual 34, 3) := by decide +kernel
theorem dL_clock_377 : decode cL_clock 377 = .ok (.aload_n 0, 1) := by decide +kernel
theorem dL_clock_378 : decode cL_clock 378 = .ok (.bipush 6, 2) := by decide +kernel
theorem dL_clock_380 : decode cL_clock 380 = .ok (.invokevirtual 34, 3) := by decide +kernel
theorem dL_clock_383 : decode cL_clock 383 = .ok (.if_icmp .lt 18, 3) := by decide +kernel
theorem dL_clock_386 : decode cL_clock 386 = .ok (.aload_n 0, 1) := by decide +kernel
theorem dL_clock_387 : decode cL_clock 387 = .ok (.bipush 7, 2) := by decide +kernel
theorem dL_clock_389 : decode cL_clock 389 = .ok (.invokevirtual 34, 3) := by decide +kernel
theorem dL_clock_392 : decode cL_clock 392 = .ok (.bipush 24, 2) := by decide +kernel
theorem dL_clock_394 : decode cL_clock 394 = .ok (.if_icmp .gt 7, 3) := by decide +kernel
theorem dL_clock_397 : decode cL_clock 397 = .ok (.iconst 1, 1) := by decide +kernel
theorem dL_clock_398 : decode cL_clock 398 = .ok (.goto 4, 3) := by decide +kernel
theorem dL_clock_401 : decode cL_clock 401 = .ok (.iconst 0, 1) := by decide +kernel
theorem dL_clock_402 : decode cL_clock 402 = .ok (.istore 4, 2) := by decide +kernel
theorem dL_clock_404 : decode cL_clock 404 = .ok (.iload 4, 2) := by decide +kernel
theorem dL_clock_406 : decode cL_clock 406 = .ok (.ifCond .eq 61, 3) := by decide +kernel
theorem dL_clock_409 : decode cL_clock 409 = .ok (.iload_n 1, 1) := by decide +kernel
theorem dL_clock_410 : decode cL_clock 410 = .ok (.ifCond .ne 53, 3) := by decide +kernel
theorem dL_clock_413 : decode cL_clock 413 = .ok (.aload_n 0, 1) := by decide +kernel
theorem dL_clock_414 : decode cL_clock 414 = .ok (.iconst 5, 1) := by decide +kernel
theorem dL_clock_415 : decode cL_clock 415 = .ok (.invokevirtual 34, 3) := by decide +kernel
theorem dL_clock_418 : decode cL_clock 418 = .ok (.iconst (-1), 1) := by decide +kernel
theorem dL_clock_419 : decode cL_clock 419 = .ok (.if_icmp .ne 48, 3) := by decide +kernel
theorem dL_clock_422 : decode cL_clock 422 = .ok (.aload_n 0, 1) := by decide +kernel
theorem dL_clock_423 : decode cL_clock 423 = .ok (.bipush 6, 2) := by decide +kernel
theorem dL_clock_425 : decode cL_clock 425 = .ok (.invokevirtual 34, 3) := by decide +kernel
theorem dL_clock_428 : decode cL_clock 428 = .ok (.ifCond .ne 39, 3) := by decide +kernel
theorem dL_clock_431 : decode cL_clock 431 = .ok (.aload_n 0, 1) := by decide +kernel
theorem dL_clock_432 : decode cL_clock 432 = .ok (.bipush 7, 2) := by decide +kernel
theorem dL_clock_434 : decode cL_clock 434 = .ok (.invokevirtual 34, 3) := by decide +kernel
theorem dL_clock_437 : decode cL_clock 437 = .ok (.ifCond .ne 30, 3) := by decide +kernel
theorem dL_clock_440 : decode cL_clock 440 = .ok (.aload_n 0, 1) := by decide +kernel
theorem dL_clock_441 : decode cL_clock 441 = .ok (.invokevirtual 49, 3) := by decide +kernel
theorem dL_clock_444 : decode cL_clock 444 = .ok (.iconst (-1), 1) := by decide +kernel
theorem dL_clock_445 : decode cL_clock 445 = .ok (.if_icmp .ne 22, 3) := by decide +kernel
theorem dL_clock_448 : decode cL_clock 448 = .ok (.aload_n 0, 1) := by decide +kernel
theorem dL_clock_449 : decode cL_clock 449 = .ok (.invokevirtual 52, 3) := by decide +kernel
theorem dL_clock_452 : decode cL_clock 452 = .ok (.ifCond .ne 15, 3) := by decide +kernel
theorem dL_clock_455 : decode cL_clock 455 = .ok (.aload_n 0, 1) := by decide +kernel
theorem dL_clock_456 : decode cL_clock 456 = .ok (.invokevirtual 55, 3) := by decide +kernel
theorem dL_clock_459 : decode cL_clock 459 = .ok (.iconst (-1), 1) := by decide +kernel
theorem dL_clock_460 : decode cL_clock 460 = .ok (.if_icmp .ne 7, 3) := by decide +kernel
theorem dL_clock_463 : decode cL_clock 463 = .ok (.iconst 1, 1) := by decide +kernel
theorem dL_clock_464 : decode cL_clock 464 = .ok (.goto 4, 3) := by decide +kernel
theorem dL_clock_467 : decode cL_clock 467 = .ok (.iconst 0, 1) := by decide +kernel
theorem dL_clock_468 : decode cL_clock 468 = .ok (.istore 4, 2) := by decide +kernel
theorem dL_clock_470 : decode cL_clock 470 = .ok (.iload 4, 2) := by decide +kernel
theorem dL_clock_472 : decode cL_clock 472 = .ok (.ifCond .eq 82, 3) := by decide +kernel
theorem dL_clock_475 : decode cL_clock 475 = .ok (.iload_n 1, 1) := by decide +kernel
theorem dL_clock_476 : decode cL_clock 476 = .ok (.ifCond .eq 74, 3) := by decide +kernel
theorem dL_clock_479 : decode cL_clock 479 = .ok (.aload_n 0, 1) := by decide +kernel
theorem dL_clock_480 : decode cL_clock 480 = .ok (.invokevirtual 49, 3) := by decide +kernel
theorem dL_clock_483 : decode cL_clock 483 = .ok (.ifCond .ne 7, 3) := by decide +kernel
theorem dL_clock_486 : decode cL_clock 486 = .ok (.iconst 1, 1) := by decide +kernel
theorem dL_clock_487 : decode cL_clock 487 = .ok (.goto 4, 3) := by decide +kernel
theorem dL_clock_490 : decode cL_clock 490 = .ok (.iconst 0, 1) := by decide +kernel
theorem dL_clock_491 : decode cL_clock 491 = .ok (.iload_n 3, 1) := by decide +kernel
theorem dL_clock_492 : decode cL_clock 492 = .ok (.ifCond .eq 16, 3) := by decide +kernel
theorem dL_clock_495 : decode cL_clock 495 = .ok (.aload_n 0, 1) := by decide +kernel
theorem dL_clock_496 : decode cL_clock 496 = .ok (.bipush 7, 2) := by decide +kernel
theorem dL_clock_498 : decode cL_clock 498 = .ok (.invokevirtual 34, 3) := by decide +kernel
theorem dL_clock_501 : decode cL_clock 501 = .ok (.ifCond .ne 7, 3) := by decide +kernel
theorem dL_clock_504 : decode cL_clock 504 = .ok (.iconst 1, 1) := by decide +kernel
theorem dL_clock_505 : decode cL_clock 505 = .ok (.goto 4, 3) := by decide +kernel
theorem dL_clock_508 : decode cL_clock 508 = .ok (.iconst 0, 1) := by decide +kernel
theorem dL_clock_509 : decode cL_clock 509 = .ok (.if_icmp .ne 45, 3) := by decide +kernel
theorem dL_clock_512 : decode cL_clock 512 = .ok (.aload_n 0, 1) := by decide +kernel
theorem dL_clock_513 : decode cL_clock 513 = .ok (.invokevirtual 49, 3) := by decide +kernel
theorem dL_clock_516 : decode cL_clock 516 = .ok (.ifCond .ge 13, 3) := by decide +kernel
theorem dL_clock_519 : decode cL_clock 519 = .ok (.aload_n 0, 1) := by decide +kernel
theorem dL_clock_520 : decode cL_clock 520 = .ok (.invokevirtual 52, 3) := by decide +kernel
theorem dL_clock_523 : decode cL_clock 523 = .ok (.sipush 1000, 3) := by decide +kernel
theorem dL_clock_526 : decode cL_clock 526 = .ok (.if_icmp .ne 28, 3) := by decide +kernel
theorem dL_clock_529 : decode cL_clock 529 = .ok (.aload_n 0, 1) := by decide +kernel
theorem dL_clock_530 : decode cL_clock 530 = .ok (.invokevirtual 49, 3) := by decide +kernel
theorem dL_clock_533 : decode cL_clock 533 = .ok (.iconst (-1), 1) := by decide +kernel
theorem dL_clock_534 : decode cL_clock 534 = .ok (.if_icmp .eq 16, 3) := by decide +kernel
theorem dL_clock_537 : decode cL_clock 537 = .ok (.aload_n 0, 1) := by decide +kernel
