set_option maxRecDepth 20000 in
theorem ggX2_woundBy_X2_toOpening : GoodIn wsX2_woundBy wsX2_toOpening := goodIn_r _ [7, 8, 9, 10, 11, 12, 13, 14, 15, 16, 17, 18, 19] (by decide +kernel) (by decide +kernel)
set_option maxRecDepth 20000 in
theorem gX2_woundBy_X2_toOpening : GoodIn wsX2_woundBy (wsV RX2 78 RX2 yX2_toOpening wsX2_toOpening) := goodIn_app (goodIn_of _ (by decide +kernel)) ggX2_woundBy_X2_toOpening
theorem dX2_woundBy_0 : decode cX2_woundBy 0 = .ok (.aload_n 0, 1) := by decide +kernel
theorem dX2_woundBy_1 : decode cX2_woundBy 1 = .ok (.getfield 19, 3) := by decide +kernel
theorem dX2_woundBy_4 : decode cX2_woundBy 4 = .ok (.iload_n 1, 1) := by decide +kernel
theorem dX2_woundBy_5 : decode cX2_woundBy 5 = .ok (.iaload, 1) := by decide +kernel
theorem dX2_woundBy_6 : decode cX2_woundBy 6 = .ok (.iconst 2, 1) := by decide +kernel
theorem dX2_woundBy_7 : decode cX2_woundBy 7 = .ok (.if_icmp .ne 17, 3) := by decide +kernel
theorem dX2_woundBy_10 : decode cX2_woundBy 10 = .ok (.aload_n 0, 1) := by decide +kernel
theorem dX2_woundBy_11 : decode cX2_woundBy 11 = .ok (.invokevirtual 78, 3) := by decide +kernel
theorem dX2_woundBy_14 : decode cX2_woundBy 14 = .ok (.aload_n 0, 1) := by decide +kernel
theorem dX2_woundBy_15 : decode cX2_woundBy 15 = .ok (.getfield 22, 3) := by decide +kernel
theorem dX2_woundBy_18 : decode cX2_woundBy 18 = .ok (.iload_n 1, 1) := by decide +kernel
theorem dX2_woundBy_19 : decode cX2_woundBy 19 = .ok (.iaload, 1) := by decide +kernel
theorem dX2_woundBy_20 : decode cX2_woundBy 20 = .ok (.iadd, 1) := by decide +kernel
theorem dX2_woundBy_21 : decode cX2_woundBy 21 = .ok (.goto 9, 3) := by decide +kernel
theorem dX2_woundBy_24 : decode cX2_woundBy 24 = .ok (.aload_n 0, 1) := by decide +kernel
theorem dX2_woundBy_25 : decode cX2_woundBy 25 = .ok (.getfield 22, 3) := by decide +kernel
theorem dX2_woundBy_28 : decode cX2_woundBy 28 = .ok (.iload_n 1, 1) := by decide +kernel
theorem dX2_woundBy_29 : decode cX2_woundBy 29 = .ok (.iaload, 1) := by decide +kernel
theorem dX2_woundBy_30 : decode cX2_woundBy 30 = .ok (.ireturn, 1) := by decide +kernel
set_option maxRecDepth 20000 in
theorem ggX2_mayWind_X2_goes : GoodIn wsX2_mayWind wsX2_goes := goodIn_r _ [7, 1, 20, 21, 22, 23, 24, 25, 26, 27, 28, 29, 30] (by decide +kernel) (by decide +kernel)
set_option maxRecDepth 20000 in
theorem gX2_mayWind_X2_goes : GoodIn wsX2_mayWind (wsV RX2 40 RX2 yX2_goes wsX2_goes) := goodIn_app (goodIn_of _ (by decide +kernel)) ggX2_mayWind_X2_goes
set_option maxRecDepth 20000 in
theorem ggX2_mayWind_X2_toOpening : GoodIn wsX2_mayWind wsX2_toOpening := goodIn_r _ [11, 1, 20, 21, 22, 23, 24, 25, 26, 27, 28, 29, 30] (by decide +kernel) (by decide +kernel)
set_option maxRecDepth 20000 in
theorem gX2_mayWind_X2_toOpening : GoodIn wsX2_mayWind (wsV RX2 78 RX2 yX2_toOpening wsX2_toOpening) := goodIn_app (goodIn_of _ (by decide +kernel)) ggX2_mayWind_X2_toOpening
set_option maxRecDepth 20000 in
theorem ggX2_mayWind_X2_woundBy : GoodIn wsX2_mayWind wsX2_woundBy := goodIn_r _ [15, 2, 16, 8, 9, 10, 6, 11, 1, 20, 21, 22, 23, 24, 25, 26, 27, 28, 29, 30] (by decide +kernel) (by decide +kernel)
set_option maxRecDepth 20000 in
theorem gX2_mayWind_X2_woundBy : GoodIn wsX2_mayWind (wsV RX2 123 RX2 yX2_woundBy wsX2_woundBy) := goodIn_app (goodIn_of _ (by decide +kernel)) ggX2_mayWind_X2_woundBy
set_option maxRecDepth 20000 in
theorem ggX2_mayWind_X2_in : GoodIn wsX2_mayWind wsX2_in := goodIn_r _ [19] (by decide +kernel) (by decide +kernel)
set_option maxRecDepth 20000 in
theorem gX2_mayWind_X2_in : GoodIn wsX2_mayWind (va_wsS RX2 29 yX2_in wsX2_in) := goodIn_app (goodIn_of _ (by decide +kernel)) ggX2_mayWind_X2_in
theorem dX2_mayWind_0 : decode cX2_mayWind 0 = .ok (.aload_n 0, 1) := by decide +kernel
theorem dX2_mayWind_1 : decode cX2_mayWind 1 = .ok (.getfield 7, 3) := by decide +kernel
theorem dX2_mayWind_4 : decode cX2_mayWind 4 = .ok (.bipush 11, 2) := by decide +kernel
theorem dX2_mayWind_6 : decode cX2_mayWind 6 = .ok (.iaload, 1) := by decide +kernel
theorem dX2_mayWind_7 : decode cX2_mayWind 7 = .ok (.ifCond .ne 7, 3) := by decide +kernel
theorem dX2_mayWind_10 : decode cX2_mayWind 10 = .ok (.iconst 1, 1) := by decide +kernel
theorem dX2_mayWind_11 : decode cX2_mayWind 11 = .ok (.goto 4, 3) := by decide +kernel
theorem dX2_mayWind_14 : decode cX2_mayWind 14 = .ok (.iconst 0, 1) := by decide +kernel
theorem dX2_mayWind_15 : decode cX2_mayWind 15 = .ok (.istore_n 1, 1) := by decide +kernel
theorem dX2_mayWind_16 : decode cX2_mayWind 16 = .ok (.iconst 0, 1) := by decide +kernel
theorem dX2_mayWind_17 : decode cX2_mayWind 17 = .ok (.istore_n 2, 1) := by decide +kernel
theorem dX2_mayWind_18 : decode cX2_mayWind 18 = .ok (.iload_n 2, 1) := by decide +kernel
theorem dX2_mayWind_19 : decode cX2_mayWind 19 = .ok (.iconst 3, 1) := by decide +kernel
theorem dX2_mayWind_20 : decode cX2_mayWind 20 = .ok (.if_icmp .ge 79, 3) := by decide +kernel
theorem dX2_mayWind_23 : decode cX2_mayWind 23 = .ok (.aload_n 0, 1) := by decide +kernel
theorem dX2_mayWind_24 : decode cX2_mayWind 24 = .ok (.iload_n 2, 1) := by decide +kernel
theorem dX2_mayWind_25 : decode cX2_mayWind 25 = .ok (.invokevirtual 40, 3) := by decide +kernel
theorem dX2_mayWind_28 : decode cX2_mayWind 28 = .ok (.ifCond .eq 40, 3) := by decide +kernel
theorem dX2_mayWind_31 : decode cX2_mayWind 31 = .ok (.aload_n 0, 1) := by decide +kernel
theorem dX2_mayWind_32 : decode cX2_mayWind 32 = .ok (.getfield 19, 3) := by decide +kernel
theorem dX2_mayWind_35 : decode cX2_mayWind 35 = .ok (.iload_n 2, 1) := by decide +kernel
theorem dX2_mayWind_36 : decode cX2_mayWind 36 = .ok (.iaload, 1) := by decide +kernel
theorem dX2_mayWind_37 : decode cX2_mayWind 37 = .ok (.iconst 2, 1) := by decide +kernel
theorem dX2_mayWind_38 : decode cX2_mayWind 38 = .ok (.if_icmp .ne 11, 3) := by decide +kernel
theorem dX2_mayWind_41 : decode cX2_mayWind 41 = .ok (.aload_n 0, 1) := by decide +kernel
theorem dX2_mayWind_42 : decode cX2_mayWind 42 = .ok (.invokevirtual 78, 3) := by decide +kernel
theorem dX2_mayWind_45 : decode cX2_mayWind 45 = .ok (.iconst (-1), 1) := by decide +kernel
theorem dX2_mayWind_46 : decode cX2_mayWind 46 = .ok (.if_icmp .eq 22, 3) := by decide +kernel
theorem dX2_mayWind_49 : decode cX2_mayWind 49 = .ok (.aload_n 0, 1) := by decide +kernel
theorem dX2_mayWind_50 : decode cX2_mayWind 50 = .ok (.iload_n 2, 1) := by decide +kernel
theorem dX2_mayWind_51 : decode cX2_mayWind 51 = .ok (.invokevirtual 123, 3) := by decide +kernel
theorem dX2_mayWind_54 : decode cX2_mayWind 54 = .ok (.iconst 1, 1) := by decide +kernel
theorem dX2_mayWind_55 : decode cX2_mayWind 55 = .ok (.sipush 200, 3) := by decide +kernel
theorem dX2_mayWind_58 : decode cX2_mayWind 58 = .ok (.invokestatic 29, 3) := by decide +kernel
theorem dX2_mayWind_61 : decode cX2_mayWind 61 = .ok (.ifCond .eq 7, 3) := by decide +kernel
theorem dX2_mayWind_64 : decode cX2_mayWind 64 = .ok (.iconst 1, 1) := by decide +kernel
theorem dX2_mayWind_65 : decode cX2_mayWind 65 = .ok (.goto 4, 3) := by decide +kernel
theorem dX2_mayWind_68 : decode cX2_mayWind 68 = .ok (.iconst 0, 1) := by decide +kernel
theorem dX2_mayWind_69 : decode cX2_mayWind 69 = .ok (.istore_n 3, 1) := by decide +kernel
theorem dX2_mayWind_70 : decode cX2_mayWind 70 = .ok (.iload_n 1, 1) := by decide +kernel
theorem dX2_mayWind_71 : decode cX2_mayWind 71 = .ok (.ifCond .eq 20, 3) := by decide +kernel
theorem dX2_mayWind_74 : decode cX2_mayWind 74 = .ok (.aload_n 0, 1) := by decide +kernel
theorem dX2_mayWind_75 : decode cX2_mayWind 75 = .ok (.getfield 19, 3) := by decide +kernel
theorem dX2_mayWind_78 : decode cX2_mayWind 78 = .ok (.iload_n 2, 1) := by decide +kernel
theorem dX2_mayWind_79 : decode cX2_mayWind 79 = .ok (.iaload, 1) := by decide +kernel
theorem dX2_mayWind_80 : decode cX2_mayWind 80 = .ok (.ifCond .eq 7, 3) := by decide +kernel
theorem dX2_mayWind_83 : decode cX2_mayWind 83 = .ok (.iload_n 3, 1) := by decide +kernel
theorem dX2_mayWind_84 : decode cX2_mayWind 84 = .ok (.ifCond .eq 7, 3) := by decide +kernel
theorem dX2_mayWind_87 : decode cX2_mayWind 87 = .ok (.iconst 1, 1) := by decide +kernel
theorem dX2_mayWind_88 : decode cX2_mayWind 88 = .ok (.goto 4, 3) := by decide +kernel
theorem dX2_mayWind_91 : decode cX2_mayWind 91 = .ok (.iconst 0, 1) := by decide +kernel
theorem dX2_mayWind_92 : decode cX2_mayWind 92 = .ok (.istore_n 1, 1) := by decide +kernel
theorem dX2_mayWind_93 : decode cX2_mayWind 93 = .ok (.iinc 2 1, 3) := by decide +kernel
theorem dX2_mayWind_96 : decode cX2_mayWind 96 = .ok (.goto (-78), 3) := by decide +kernel
theorem dX2_mayWind_99 : decode cX2_mayWind 99 = .ok (.iload_n 1, 1) := by decide +kernel
theorem dX2_mayWind_100 : decode cX2_mayWind 100 = .ok (.ireturn, 1) := by decide +kernel
set_option maxRecDepth 20000 in
theorem ggX2_windAll_X2_isText : GoodIn wsX2_windAll wsX2_isText := goodIn_r _ [9, 10, 11, 2, 12, 13, 14, 8, 15, 16, 17, 18, 19, 20, 21, 22, 23, 24, 25, 26, 27, 28, 29, 30, 31, 3, 32, 33, 34, 35, 36, 37, 64, 65, 66, 67, 68, 69, 70, 71, 72, 73, 74] (by decide +kernel) (by decide +kernel)
set_option maxRecDepth 20000 in
theorem gX2_windAll_X2_isText : GoodIn wsX2_windAll (wsV RX2 120 RX2 yX2_isText wsX2_isText) := goodIn_app (goodIn_of _ (by decide +kernel)) ggX2_windAll_X2_isText
set_option maxRecDepth 20000 in
theorem ggX2_windAll_X2_fails : GoodIn wsX2_windAll wsX2_fails := goodIn_r _ [41, 1, 64, 65, 66, 67, 68, 69, 70, 71, 72, 73, 74] (by decide +kernel) (by decide +kernel)
set_option maxRecDepth 20000 in
theorem gX2_windAll_X2_fails : GoodIn wsX2_windAll (wsV RX2 36 RX2 yX2_fails wsX2_fails) := goodIn_app (goodIn_of _ (by decide +kernel)) ggX2_windAll_X2_fails
set_option maxRecDepth 20000 in
theorem ggX2_windAll_X2_mayWind : GoodIn wsX2_windAll wsX2_mayWind := goodIn_r _ [45, 4, 3, 46, 47, 48, 8, 49, 50, 51, 52, 53, 54, 55, 56, 57, 32, 21, 22, 23, 64, 65, 66, 67, 68, 69, 70, 71, 72, 73, 74] (by decide +kernel) (by decide +kernel)
set_option maxRecDepth 20000 in
theorem gX2_windAll_X2_mayWind : GoodIn wsX2_windAll (wsV RX2 126 RX2 yX2_mayWind wsX2_mayWind) := goodIn_app (goodIn_of _ (by decide +kernel)) ggX2_windAll_X2_mayWind
set_option maxRecDepth 20000 in
theorem ggX2_windAll_X2_saves : GoodIn wsX2_windAll wsX2_saves := goodIn_r _ [61, 62, 63, 4, 64, 65, 66, 67, 68, 69, 70, 71, 72, 73, 74] (by decide +kernel) (by decide +kernel)
set_option maxRecDepth 20000 in
theorem gX2_windAll_X2_saves : GoodIn wsX2_windAll (wsV RX2 65 RX2 yX2_saves wsX2_saves) := goodIn_app (goodIn_of _ (by decide +kernel)) ggX2_windAll_X2_saves
set_option maxRecDepth 20000 in
theorem ggX2_windAll_X2_woundBy : GoodIn wsX2_windAll wsX2_woundBy := goodIn_r _ [57, 3, 32, 50, 51, 52, 8, 53, 4, 64, 65, 66, 67, 68, 69, 70, 71, 72, 73, 74] (by decide +kernel) (by decide +kernel)
set_option maxRecDepth 20000 in
theorem gX2_windAll_X2_woundBy : GoodIn wsX2_windAll (wsV RX2 123 RX2 yX2_woundBy wsX2_woundBy) := goodIn_app (goodIn_of _ (by decide +kernel)) ggX2_windAll_X2_woundBy
theorem dX2_windAll_0 : decode cX2_windAll 0 = .ok (.aload_n 0, 1) := by decide +kernel
theorem dX2_windAll_1 : decode cX2_windAll 1 = .ok (.iconst 0, 1) := by decide +kernel
theorem dX2_windAll_2 : decode cX2_windAll 2 = .ok (.putfield 25, 3) := by decide +kernel
theorem dX2_windAll_5 : decode cX2_windAll 5 = .ok (.aload_n 0, 1) := by decide +kernel
theorem dX2_windAll_6 : decode cX2_windAll 6 = .ok (.invokevirtual 120, 3) := by decide +kernel
theorem dX2_windAll_9 : decode cX2_windAll 9 = .ok (.ifCond .ne 9, 3) := by decide +kernel
theorem dX2_windAll_12 : decode cX2_windAll 12 = .ok (.aload_n 0, 1) := by decide +kernel
theorem dX2_windAll_13 : decode cX2_windAll 13 = .ok (.iconst 1, 1) := by decide +kernel
theorem dX2_windAll_14 : decode cX2_windAll 14 = .ok (.invokevirtual 36, 3) := by decide +kernel
theorem dX2_windAll_17 : decode cX2_windAll 17 = .ok (.ireturn, 1) := by decide +kernel
theorem dX2_windAll_18 : decode cX2_windAll 18 = .ok (.aload_n 0, 1) := by decide +kernel
theorem dX2_windAll_19 : decode cX2_windAll 19 = .ok (.invokevirtual 126, 3) := by decide +kernel
theorem dX2_windAll_22 : decode cX2_windAll 22 = .ok (.ifCond .ne 9, 3) := by decide +kernel
theorem dX2_windAll_25 : decode cX2_windAll 25 = .ok (.aload_n 0, 1) := by decide +kernel
theorem dX2_windAll_26 : decode cX2_windAll 26 = .ok (.iconst 2, 1) := by decide +kernel
theorem dX2_windAll_27 : decode cX2_windAll 27 = .ok (.invokevirtual 36, 3) := by decide +kernel
theorem dX2_windAll_30 : decode cX2_windAll 30 = .ok (.ireturn, 1) := by decide +kernel
theorem dX2_windAll_31 : decode cX2_windAll 31 = .ok (.aload_n 0, 1) := by decide +kernel
theorem dX2_windAll_32 : decode cX2_windAll 32 = .ok (.invokevirtual 65, 3) := by decide +kernel
theorem dX2_windAll_35 : decode cX2_windAll 35 = .ok (.aload_n 0, 1) := by decide +kernel
theorem dX2_windAll_36 : decode cX2_windAll 36 = .ok (.iconst 0, 1) := by decide +kernel
theorem dX2_windAll_37 : decode cX2_windAll 37 = .ok (.putfield 91, 3) := by decide +kernel
theorem dX2_windAll_40 : decode cX2_windAll 40 = .ok (.iconst 0, 1) := by decide +kernel
theorem dX2_windAll_41 : decode cX2_windAll 41 = .ok (.istore_n 1, 1) := by decide +kernel
theorem dX2_windAll_42 : decode cX2_windAll 42 = .ok (.iconst 0, 1) := by decide +kernel
theorem dX2_windAll_43 : decode cX2_windAll 43 = .ok (.istore_n 2, 1) := by decide +kernel
theorem dX2_windAll_44 : decode cX2_windAll 44 = .ok (.iload_n 2, 1) := by decide +kernel
theorem dX2_windAll_45 : decode cX2_windAll 45 = .ok (.iconst 3, 1) := by decide +kernel
theorem dX2_windAll_46 : decode cX2_windAll 46 = .ok (.if_icmp .ge 37, 3) := by decide +kernel
theorem dX2_windAll_49 : decode cX2_windAll 49 = .ok (.aload_n 0, 1) := by decide +kernel
theorem dX2_windAll_50 : decode cX2_windAll 50 = .ok (.getfield 19, 3) := by decide +kernel
theorem dX2_windAll_53 : decode cX2_windAll 53 = .ok (.iload_n 2, 1) := by decide +kernel
theorem dX2_windAll_54 : decode cX2_windAll 54 = .ok (.iaload, 1) := by decide +kernel
theorem dX2_windAll_55 : decode cX2_windAll 55 = .ok (.ifCond .le 22, 3) := by decide +kernel
theorem dX2_windAll_58 : decode cX2_windAll 58 = .ok (.aload_n 0, 1) := by decide +kernel
theorem dX2_windAll_59 : decode cX2_windAll 59 = .ok (.getfield 7, 3) := by decide +kernel
theorem dX2_windAll_62 : decode cX2_windAll 62 = .ok (.bipush 21, 2) := by decide +kernel
theorem dX2_windAll_64 : decode cX2_windAll 64 = .ok (.iconst 4, 1) := by decide +kernel
theorem dX2_windAll_65 : decode cX2_windAll 65 = .ok (.iload_n 2, 1) := by decide +kernel
theorem dX2_windAll_66 : decode cX2_windAll 66 = .ok (.imul, 1) := by decide +kernel
theorem dX2_windAll_67 : decode cX2_windAll 67 = .ok (.iadd, 1) := by decide +kernel
theorem dX2_windAll_68 : decode cX2_windAll 68 = .ok (.aload_n 0, 1) := by decide +kernel
theorem dX2_windAll_69 : decode cX2_windAll 69 = .ok (.iload_n 2, 1) := by decide +kernel
theorem dX2_windAll_70 : decode cX2_windAll 70 = .ok (.invokevirtual 123, 3) := by decide +kernel
theorem dX2_windAll_73 : decode cX2_windAll 73 = .ok (.iastore, 1) := by decide +kernel
theorem dX2_windAll_74 : decode cX2_windAll 74 = .ok (.iinc 1 1, 3) := by decide +kernel
theorem dX2_windAll_77 : decode cX2_windAll 77 = .ok (.iinc 2 1, 3) := by decide +kernel
theorem dX2_windAll_80 : decode cX2_windAll 80 = .ok (.goto (-36), 3) := by decide +kernel
theorem dX2_windAll_83 : decode cX2_windAll 83 = .ok (.iload_n 1, 1) := by decide +kernel
theorem dX2_windAll_84 : decode cX2_windAll 84 = .ok (.ireturn, 1) := by decide +kernel
set_option maxRecDepth 20000 in
theorem ggX2_ofMovement_X2_ran : GoodIn wsX2_ofMovement wsX2_ran := goodIn_r _ [6, 1, 23, 24, 25, 26, 27, 28, 29, 30, 31, 32, 33] (by decide +kernel) (by decide +kernel)
set_option maxRecDepth 20000 in
theorem gX2_ofMovement_X2_ran : GoodIn wsX2_ofMovement (wsV RX2 47 RX2 yX2_ran wsX2_ran) := goodIn_app (goodIn_of _ (by decide +kernel)) ggX2_ofMovement_X2_ran
set_option maxRecDepth 20000 in
theorem ggX2_ofMovement_X2_hours : GoodIn wsX2_ofMovement wsX2_hours := goodIn_r _ [10, 1, 23, 24, 25, 26, 27, 28, 29, 30, 31, 32, 33] (by decide +kernel) (by decide +kernel)
set_option maxRecDepth 20000 in
theorem gX2_ofMovement_X2_hours : GoodIn wsX2_ofMovement (wsV RX2 51 RX2 yX2_hours wsX2_hours) := goodIn_app (goodIn_of _ (by decide +kernel)) ggX2_ofMovement_X2_hours
set_option maxRecDepth 20000 in
theorem ggX2_ofMovement_X2_downIn : GoodIn wsX2_ofMovement wsX2_downIn := goodIn_r _ [14, 15, 16, 17, 5, 18, 1, 19, 20, 21, 22, 2, 3, 4, 6, 23, 24, 25, 26, 27, 28, 29, 30, 31, 32, 33] (by decide +kernel) (by decide +kernel)
set_option maxRecDepth 20000 in
theorem gX2_ofMovement_X2_downIn : GoodIn wsX2_ofMovement (wsV RX2 54 RX2 yX2_downIn wsX2_downIn) := goodIn_app (goodIn_of _ (by decide +kernel)) ggX2_ofMovement_X2_downIn
theorem dX2_ofMovement_0 : decode cX2_ofMovement 0 = .ok (.iload_n 2, 1) := by decide +kernel
theorem dX2_ofMovement_1 : decode cX2_ofMovement 1 = .ok (.iconst 4, 1) := by decide +kernel
theorem dX2_ofMovement_2 : decode cX2_ofMovement 2 = .ok (.if_icmp .ge 17, 3) := by decide +kernel
theorem dX2_ofMovement_5 : decode cX2_ofMovement 5 = .ok (.aload_n 0, 1) := by decide +kernel
theorem dX2_ofMovement_6 : decode cX2_ofMovement 6 = .ok (.getfield 7, 3) := by decide +kernel
theorem dX2_ofMovement_9 : decode cX2_ofMovement 9 = .ok (.bipush 21, 2) := by decide +kernel
theorem dX2_ofMovement_11 : decode cX2_ofMovement 11 = .ok (.iconst 4, 1) := by decide +kernel
theorem dX2_ofMovement_12 : decode cX2_ofMovement 12 = .ok (.iload_n 1, 1) := by decide +kernel
theorem dX2_ofMovement_13 : decode cX2_ofMovement 13 = .ok (.imul, 1) := by decide +kernel
theorem dX2_ofMovement_14 : decode cX2_ofMovement 14 = .ok (.iadd, 1) := by decide +kernel
theorem dX2_ofMovement_15 : decode cX2_ofMovement 15 = .ok (.iload_n 2, 1) := by decide +kernel
theorem dX2_ofMovement_16 : decode cX2_ofMovement 16 = .ok (.iadd, 1) := by decide +kernel
theorem dX2_ofMovement_17 : decode cX2_ofMovement 17 = .ok (.iaload, 1) := by decide +kernel
theorem dX2_ofMovement_18 : decode cX2_ofMovement 18 = .ok (.ireturn, 1) := by decide +kernel
theorem dX2_ofMovement_19 : decode cX2_ofMovement 19 = .ok (.iload_n 2, 1) := by decide +kernel
theorem dX2_ofMovement_20 : decode cX2_ofMovement 20 = .ok (.iconst 4, 1) := by decide +kernel
theorem dX2_ofMovement_21 : decode cX2_ofMovement 21 = .ok (.if_icmp .ne 26, 3) := by decide +kernel
theorem dX2_ofMovement_24 : decode cX2_ofMovement 24 = .ok (.aload_n 0, 1) := by decide +kernel
theorem dX2_ofMovement_25 : decode cX2_ofMovement 25 = .ok (.iload_n 1, 1) := by decide +kernel
theorem dX2_ofMovement_26 : decode cX2_ofMovement 26 = .ok (.invokevirtual 47, 3) := by decide +kernel
theorem dX2_ofMovement_29 : decode cX2_ofMovement 29 = .ok (.aload_n 0, 1) := by decide +kernel
theorem dX2_ofMovement_30 : decode cX2_ofMovement 30 = .ok (.getfield 7, 3) := by decide +kernel
theorem dX2_ofMovement_33 : decode cX2_ofMovement 33 = .ok (.bipush 10, 2) := by decide +kernel
theorem dX2_ofMovement_35 : decode cX2_ofMovement 35 = .ok (.iaload, 1) := by decide +kernel
theorem dX2_ofMovement_36 : decode cX2_ofMovement 36 = .ok (.if_icmp .lt 7, 3) := by decide +kernel
theorem dX2_ofMovement_39 : decode cX2_ofMovement 39 = .ok (.iconst 1, 1) := by decide +kernel
theorem dX2_ofMovement_40 : decode cX2_ofMovement 40 = .ok (.goto 17, 3) := by decide +kernel
theorem dX2_ofMovement_43 : decode cX2_ofMovement 43 = .ok (.iconst 0, 1) := by decide +kernel
theorem dX2_ofMovement_44 : decode cX2_ofMovement 44 = .ok (.goto 13, 3) := by decide +kernel
theorem dX2_ofMovement_47 : decode cX2_ofMovement 47 = .ok (.aload_n 0, 1) := by decide +kernel
theorem dX2_ofMovement_48 : decode cX2_ofMovement 48 = .ok (.iload_n 1, 1) := by decide +kernel
theorem dX2_ofMovement_49 : decode cX2_ofMovement 49 = .ok (.aload_n 0, 1) := by decide +kernel
theorem dX2_ofMovement_50 : decode cX2_ofMovement 50 = .ok (.iload_n 1, 1) := by decide +kernel
theorem dX2_ofMovement_51 : decode cX2_ofMovement 51 = .ok (.invokevirtual 51, 3) := by decide +kernel
theorem dX2_ofMovement_54 : decode cX2_ofMovement 54 = .ok (.invokevirtual 54, 3) := by decide +kernel
theorem dX2_ofMovement_57 : decode cX2_ofMovement 57 = .ok (.ireturn, 1) := by decide +kernel
set_option maxRecDepth 20000 in
theorem ggX2_movement_X2_isMovement : GoodIn wsX2_movement wsX2_isMovement := goodIn_r _ [5, 6, 7, 4, 8] (by decide +kernel) (by decide +kernel)
set_option maxRecDepth 20000 in
theorem gX2_movement_X2_isMovement : GoodIn wsX2_movement (va_wsS RX2 75 yX2_isMovement wsX2_isMovement) := goodIn_app (goodIn_of _ (by decide +kernel)) ggX2_movement_X2_isMovement
set_option maxRecDepth 20000 in
theorem ggX2_movement_X2_fails : GoodIn wsX2_movement wsX2_fails := goodIn_r _ [12, 1, 38, 39, 40, 41, 42, 43, 44, 45, 46, 47, 48] (by decide +kernel) (by decide +kernel)
set_option maxRecDepth 20000 in
theorem gX2_movement_X2_fails : GoodIn wsX2_movement (wsV RX2 36 RX2 yX2_fails wsX2_fails) := goodIn_app (goodIn_of _ (by decide +kernel)) ggX2_movement_X2_fails
set_option maxRecDepth 20000 in
theorem ggX2_movement_X2_in : GoodIn wsX2_movement wsX2_in := goodIn_r _ [8] (by decide +kernel) (by decide +kernel)
set_option maxRecDepth 20000 in
theorem gX2_movement_X2_in : GoodIn wsX2_movement (va_wsS RX2 29 yX2_in wsX2_in) := goodIn_app (goodIn_of _ (by decide +kernel)) ggX2_movement_X2_in
set_option maxRecDepth 20000 in
theorem ggX2_movement_X2_ofMovement : GoodIn wsX2_movement wsX2_ofMovement := goodIn_r _ [16, 17, 18, 19, 20, 4, 21, 22, 23, 24, 25, 26, 27, 28, 29, 30, 31, 32, 33, 34, 35, 36, 37, 38, 39, 40, 41, 42, 43, 44, 45, 46, 47, 48] (by decide +kernel) (by decide +kernel)
set_option maxRecDepth 20000 in
theorem gX2_movement_X2_ofMovement : GoodIn wsX2_movement (wsV RX2 129 RX2 yX2_ofMovement wsX2_ofMovement) := goodIn_app (goodIn_of _ (by decide +kernel)) ggX2_movement_X2_ofMovement
theorem dX2_movement_0 : decode cX2_movement 0 = .ok (.aload_n 0, 1) := by decide +kernel
theorem dX2_movement_1 : decode cX2_movement 1 = .ok (.iconst 0, 1) := by decide +kernel
theorem dX2_movement_2 : decode cX2_movement 2 = .ok (.putfield 25, 3) := by decide +kernel
theorem dX2_movement_5 : decode cX2_movement 5 = .ok (.iload_n 1, 1) := by decide +kernel
theorem dX2_movement_6 : decode cX2_movement 6 = .ok (.invokestatic 75, 3) := by decide +kernel
theorem dX2_movement_9 : decode cX2_movement 9 = .ok (.ifCond .ne 9, 3) := by decide +kernel
theorem dX2_movement_12 : decode cX2_movement 12 = .ok (.aload_n 0, 1) := by decide +kernel
theorem dX2_movement_13 : decode cX2_movement 13 = .ok (.iconst 1, 1) := by decide +kernel
theorem dX2_movement_14 : decode cX2_movement 14 = .ok (.invokevirtual 36, 3) := by decide +kernel
theorem dX2_movement_17 : decode cX2_movement 17 = .ok (.ireturn, 1) := by decide +kernel
theorem dX2_movement_18 : decode cX2_movement 18 = .ok (.iload_n 2, 1) := by decide +kernel
theorem dX2_movement_19 : decode cX2_movement 19 = .ok (.iconst 0, 1) := by decide +kernel
theorem dX2_movement_20 : decode cX2_movement 20 = .ok (.iconst 5, 1) := by decide +kernel
theorem dX2_movement_21 : decode cX2_movement 21 = .ok (.invokestatic 29, 3) := by decide +kernel
theorem dX2_movement_24 : decode cX2_movement 24 = .ok (.ifCond .eq 12, 3) := by decide +kernel
theorem dX2_movement_27 : decode cX2_movement 27 = .ok (.aload_n 0, 1) := by decide +kernel
theorem dX2_movement_28 : decode cX2_movement 28 = .ok (.iload_n 1, 1) := by decide +kernel
theorem dX2_movement_29 : decode cX2_movement 29 = .ok (.iload_n 2, 1) := by decide +kernel
theorem dX2_movement_30 : decode cX2_movement 30 = .ok (.invokevirtual 129, 3) := by decide +kernel
theorem dX2_movement_33 : decode cX2_movement 33 = .ok (.goto 8, 3) := by decide +kernel
theorem dX2_movement_36 : decode cX2_movement 36 = .ok (.aload_n 0, 1) := by decide +kernel
theorem dX2_movement_37 : decode cX2_movement 37 = .ok (.iconst 2, 1) := by decide +kernel
theorem dX2_movement_38 : decode cX2_movement 38 = .ok (.invokevirtual 36, 3) := by decide +kernel
theorem dX2_movement_41 : decode cX2_movement 41 = .ok (.ireturn, 1) := by decide +kernel
set_option maxRecDepth 20000 in
theorem ggX2_day_X2_isDay : GoodIn wsX2_day wsX2_isDay := goodIn_r _ [6, 7, 8, 5, 9] (by decide +kernel) (by decide +kernel)
set_option maxRecDepth 20000 in
theorem gX2_day_X2_isDay : GoodIn wsX2_day (va_wsS RX2 62 yX2_isDay wsX2_isDay) := goodIn_app (goodIn_of _ (by decide +kernel)) ggX2_day_X2_isDay
set_option maxRecDepth 20000 in
theorem ggX2_day_X2_fails : GoodIn wsX2_day wsX2_fails := goodIn_r _ [13, 1, 14, 15, 16, 17, 18, 19, 20, 21, 22, 23, 24] (by decide +kernel) (by decide +kernel)
set_option maxRecDepth 20000 in
theorem gX2_day_X2_fails : GoodIn wsX2_day (wsV RX2 36 RX2 yX2_fails wsX2_fails) := goodIn_app (goodIn_of _ (by decide +kernel)) ggX2_day_X2_fails
theorem dX2_day_0 : decode cX2_day 0 = .ok (.aload_n 0, 1) := by decide +kernel
theorem dX2_day_1 : decode cX2_day 1 = .ok (.iconst 0, 1) := by decide +kernel
theorem dX2_day_2 : decode cX2_day 2 = .ok (.putfield 25, 3) := by decide +kernel
theorem dX2_day_5 : decode cX2_day 5 = .ok (.iload_n 1, 1) := by decide +kernel
theorem dX2_day_6 : decode cX2_day 6 = .ok (.invokestatic 62, 3) := by decide +kernel
theorem dX2_day_9 : decode cX2_day 9 = .ok (.ifCond .eq 14, 3) := by decide +kernel
theorem dX2_day_12 : decode cX2_day 12 = .ok (.aload_n 0, 1) := by decide +kernel
theorem dX2_day_13 : decode cX2_day 13 = .ok (.getfield 7, 3) := by decide +kernel
theorem dX2_day_16 : decode cX2_day 16 = .ok (.iconst 1, 1) := by decide +kernel
theorem dX2_day_17 : decode cX2_day 17 = .ok (.iload_n 1, 1) := by decide +kernel
theorem dX2_day_18 : decode cX2_day 18 = .ok (.iadd, 1) := by decide +kernel
theorem dX2_day_19 : decode cX2_day 19 = .ok (.iaload, 1) := by decide +kernel
theorem dX2_day_20 : decode cX2_day 20 = .ok (.goto 8, 3) := by decide +kernel
theorem dX2_day_23 : decode cX2_day 23 = .ok (.aload_n 0, 1) := by decide +kernel
theorem dX2_day_24 : decode cX2_day 24 = .ok (.iconst 1, 1) := by decide +kernel
theorem dX2_day_25 : decode cX2_day 25 = .ok (.invokevirtual 36, 3) := by decide +kernel
theorem dX2_day_28 : decode cX2_day 28 = .ok (.ireturn, 1) := by decide +kernel
set_option maxRecDepth 20000 in
theorem ggX2_counted_X2_toOpening : GoodIn wsX2_counted wsX2_toOpening := goodIn_r _ [7, 1, 12, 13, 14, 15, 16, 17, 18, 19, 20, 21, 22] (by decide +kernel) (by decide +kernel)
set_option maxRecDepth 20000 in
theorem gX2_counted_X2_toOpening : GoodIn wsX2_counted (wsV RX2 78 RX2 yX2_toOpening wsX2_toOpening) := goodIn_app (goodIn_of _ (by decide +kernel)) ggX2_counted_X2_toOpening
set_option maxRecDepth 20000 in
theorem ggX2_counted_X2_waits : GoodIn wsX2_counted wsX2_waits := goodIn_r _ [11, 1, 12, 13, 14, 15, 16, 17, 18, 19, 20, 21, 22] (by decide +kernel) (by decide +kernel)
set_option maxRecDepth 20000 in
theorem gX2_counted_X2_waits : GoodIn wsX2_counted (wsV RX2 58 RX2 yX2_waits wsX2_waits) := goodIn_app (goodIn_of _ (by decide +kernel)) ggX2_counted_X2_waits
theorem dX2_counted_0 : decode cX2_counted 0 = .ok (.iload_n 1, 1) := by decide +kernel
theorem dX2_counted_1 : decode cX2_counted 1 = .ok (.iconst 4, 1) := by decide +kernel
theorem dX2_counted_2 : decode cX2_counted 2 = .ok (.if_icmp .ge 61, 3) := by decide +kernel
theorem dX2_counted_5 : decode cX2_counted 5 = .ok (.iload_n 1, 1) := by decide +kernel
theorem dX2_counted_6 : decode cX2_counted 6 = .ok (.ifCond .ne 12, 3) := by decide +kernel
theorem dX2_counted_9 : decode cX2_counted 9 = .ok (.aload_n 0, 1) := by decide +kernel
theorem dX2_counted_10 : decode cX2_counted 10 = .ok (.getfield 7, 3) := by decide +kernel
theorem dX2_counted_13 : decode cX2_counted 13 = .ok (.iconst 0, 1) := by decide +kernel
theorem dX2_counted_14 : decode cX2_counted 14 = .ok (.iaload, 1) := by decide +kernel
theorem dX2_counted_15 : decode cX2_counted 15 = .ok (.goto 47, 3) := by decide +kernel
theorem dX2_counted_18 : decode cX2_counted 18 = .ok (.iload_n 1, 1) := by decide +kernel
theorem dX2_counted_19 : decode cX2_counted 19 = .ok (.iconst 1, 1) := by decide +kernel
theorem dX2_counted_20 : decode cX2_counted 20 = .ok (.if_icmp .ne 18, 3) := by decide +kernel
theorem dX2_counted_23 : decode cX2_counted 23 = .ok (.aload_n 0, 1) := by decide +kernel
theorem dX2_counted_24 : decode cX2_counted 24 = .ok (.getfield 7, 3) := by decide +kernel
theorem dX2_counted_27 : decode cX2_counted 27 = .ok (.iconst 0, 1) := by decide +kernel
theorem dX2_counted_28 : decode cX2_counted 28 = .ok (.iaload, 1) := by decide +kernel
theorem dX2_counted_29 : decode cX2_counted 29 = .ok (.bipush 24, 2) := by decide +kernel
theorem dX2_counted_31 : decode cX2_counted 31 = .ok (.idiv, 1) := by decide +kernel
theorem dX2_counted_32 : decode cX2_counted 32 = .ok (.bipush 7, 2) := by decide +kernel
theorem dX2_counted_34 : decode cX2_counted 34 = .ok (.irem, 1) := by decide +kernel
theorem dX2_counted_35 : decode cX2_counted 35 = .ok (.goto 27, 3) := by decide +kernel
theorem dX2_counted_38 : decode cX2_counted 38 = .ok (.iload_n 1, 1) := by decide +kernel
theorem dX2_counted_39 : decode cX2_counted 39 = .ok (.iconst 2, 1) := by decide +kernel
theorem dX2_counted_40 : decode cX2_counted 40 = .ok (.if_icmp .ne 15, 3) := by decide +kernel
theorem dX2_counted_43 : decode cX2_counted 43 = .ok (.aload_n 0, 1) := by decide +kernel
theorem dX2_counted_44 : decode cX2_counted 44 = .ok (.getfield 7, 3) := by decide +kernel
theorem dX2_counted_47 : decode cX2_counted 47 = .ok (.iconst 0, 1) := by decide +kernel
theorem dX2_counted_48 : decode cX2_counted 48 = .ok (.iaload, 1) := by decide +kernel
theorem dX2_counted_49 : decode cX2_counted 49 = .ok (.bipush 24, 2) := by decide +kernel
theorem dX2_counted_51 : decode cX2_counted 51 = .ok (.irem, 1) := by decide +kernel
theorem dX2_counted_52 : decode cX2_counted 52 = .ok (.goto 10, 3) := by decide +kernel
theorem dX2_counted_55 : decode cX2_counted 55 = .ok (.aload_n 0, 1) := by decide +kernel
theorem dX2_counted_56 : decode cX2_counted 56 = .ok (.getfield 7, 3) := by decide +kernel
theorem dX2_counted_59 : decode cX2_counted 59 = .ok (.bipush 11, 2) := by decide +kernel
theorem dX2_counted_61 : decode cX2_counted 61 = .ok (.iaload, 1) := by decide +kernel
theorem dX2_counted_62 : decode cX2_counted 62 = .ok (.ireturn, 1) := by decide +kernel
theorem dX2_counted_63 : decode cX2_counted 63 = .ok (.iload_n 1, 1) := by decide +kernel
theorem dX2_counted_64 : decode cX2_counted 64 = .ok (.bipush 8, 2) := by decide +kernel
theorem dX2_counted_66 : decode cX2_counted 66 = .ok (.if_icmp .ge 51, 3) := by decide +kernel
theorem dX2_counted_69 : decode cX2_counted 69 = .ok (.iload_n 1, 1) := by decide +kernel
theorem dX2_counted_70 : decode cX2_counted 70 = .ok (.iconst 4, 1) := by decide +kernel
theorem dX2_counted_71 : decode cX2_counted 71 = .ok (.if_icmp .ne 10, 3) := by decide +kernel
theorem dX2_counted_74 : decode cX2_counted 74 = .ok (.aload_n 0, 1) := by decide +kernel
theorem dX2_counted_75 : decode cX2_counted 75 = .ok (.invokevirtual 78, 3) := by decide +kernel
theorem dX2_counted_78 : decode cX2_counted 78 = .ok (.goto 38, 3) := by decide +kernel
theorem dX2_counted_81 : decode cX2_counted 81 = .ok (.iload_n 1, 1) := by decide +kernel
theorem dX2_counted_82 : decode cX2_counted 82 = .ok (.iconst 5, 1) := by decide +kernel
theorem dX2_counted_83 : decode cX2_counted 83 = .ok (.if_icmp .ne 13, 3) := by decide +kernel
theorem dX2_counted_86 : decode cX2_counted 86 = .ok (.aload_n 0, 1) := by decide +kernel
theorem dX2_counted_87 : decode cX2_counted 87 = .ok (.getfield 7, 3) := by decide +kernel
theorem dX2_counted_90 : decode cX2_counted 90 = .ok (.bipush 12, 2) := by decide +kernel
theorem dX2_counted_92 : decode cX2_counted 92 = .ok (.iaload, 1) := by decide +kernel
theorem dX2_counted_93 : decode cX2_counted 93 = .ok (.goto 23, 3) := by decide +kernel
theorem dX2_counted_96 : decode cX2_counted 96 = .ok (.iload_n 1, 1) := by decide +kernel
theorem dX2_counted_97 : decode cX2_counted 97 = .ok (.bipush 6, 2) := by decide +kernel
theorem dX2_counted_99 : decode cX2_counted 99 = .ok (.if_icmp .ne 13, 3) := by decide +kernel
theorem dX2_counted_102 : decode cX2_counted 102 = .ok (.aload_n 0, 1) := by decide +kernel
theorem dX2_counted_103 : decode cX2_counted 103 = .ok (.getfield 7, 3) := by decide +kernel
theorem dX2_counted_106 : decode cX2_counted 106 = .ok (.bipush 13, 2) := by decide +kernel
theorem dX2_counted_108 : decode cX2_counted 108 = .ok (.iaload, 1) := by decide +kernel
theorem dX2_counted_109 : decode cX2_counted 109 = .ok (.goto 7, 3) := by decide +kernel
theorem dX2_counted_112 : decode cX2_counted 112 = .ok (.aload_n 0, 1) := by decide +kernel
theorem dX2_counted_113 : decode cX2_counted 113 = .ok (.invokevirtual 58, 3) := by decide +kernel
theorem dX2_counted_116 : decode cX2_counted 116 = .ok (.ireturn, 1) := by decide +kernel
theorem dX2_counted_117 : decode cX2_counted 117 = .ok (.iload_n 1, 1) := by decide +kernel
theorem dX2_counted_118 : decode cX2_counted 118 = .ok (.bipush 14, 2) := by decide +kernel
theorem dX2_counted_120 : decode cX2_counted 120 = .ok (.if_icmp .ge 18, 3) := by decide +kernel
theorem dX2_counted_123 : decode cX2_counted 123 = .ok (.aload_n 0, 1) := by decide +kernel
theorem dX2_counted_124 : decode cX2_counted 124 = .ok (.getfield 7, 3) := by decide +kernel
theorem dX2_counted_127 : decode cX2_counted 127 = .ok (.bipush 15, 2) := by decide +kernel
theorem dX2_counted_129 : decode cX2_counted 129 = .ok (.iload_n 1, 1) := by decide +kernel
theorem dX2_counted_130 : decode cX2_counted 130 = .ok (.iadd, 1) := by decide +kernel
theorem dX2_counted_131 : decode cX2_counted 131 = .ok (.bipush 8, 2) := by decide +kernel
theorem dX2_counted_133 : decode cX2_counted 133 = .ok (.isub, 1) := by decide +kernel
theorem dX2_counted_134 : decode cX2_counted 134 = .ok (.iaload, 1) := by decide +kernel
theorem dX2_counted_135 : decode cX2_counted 135 = .ok (.goto 7, 3) := by decide +kernel
theorem dX2_counted_138 : decode cX2_counted 138 = .ok (.aload_n 0, 1) := by decide +kernel
theorem dX2_counted_139 : decode cX2_counted 139 = .ok (.getfield 33, 3) := by decide +kernel
theorem dX2_counted_142 : decode cX2_counted 142 = .ok (.ireturn, 1) := by decide +kernel
set_option maxRecDepth 20000 in
theorem ggX2_count_X2_in : GoodIn wsX2_count wsX2_in := goodIn_r _ [5] (by decide +kernel) (by decide +kernel)
set_option maxRecDepth 20000 in
theorem gX2_count_X2_in : GoodIn wsX2_count (va_wsS RX2 29 yX2_in wsX2_in) := goodIn_app (goodIn_of _ (by decide +kernel)) ggX2_count_X2_in
set_option maxRecDepth 20000 in
theorem ggX2_count_X2_counted : GoodIn wsX2_count wsX2_counted := goodIn_r _ [9, 10, 11, 12, 13, 14, 4, 15, 16, 17, 18, 19, 24, 25, 26, 27, 28, 29, 30, 31, 32, 33, 34] (by decide +kernel) (by decide +kernel)
set_option maxRecDepth 20000 in
theorem gX2_count_X2_counted : GoodIn wsX2_count (wsV RX2 132 RX2 yX2_counted wsX2_counted) := goodIn_app (goodIn_of _ (by decide +kernel)) ggX2_count_X2_counted
set_option maxRecDepth 20000 in
theorem ggX2_count_X2_fails : GoodIn wsX2_count wsX2_fails := goodIn_r _ [23, 1, 24, 25, 26, 27, 28, 29, 30, 31, 32, 33, 34] (by decide +kernel) (by decide +kernel)
set_option maxRecDepth 20000 in
theorem gX2_count_X2_fails : GoodIn wsX2_count (wsV RX2 36 RX2 yX2_fails wsX2_fails) := goodIn_app (goodIn_of _ (by decide +kernel)) ggX2_count_X2_fails
theorem dX2_count_0 : decode cX2_count 0 = .ok (.aload_n 0, 1) := by decide +kernel
theorem dX2_count_1 : decode cX2_count 1 = .ok (.iconst 0, 1) := by decide +kernel
theorem dX2_count_2 : decode cX2_count 2 = .ok (.putfield 25, 3) := by decide +kernel
theorem dX2_count_5 : decode cX2_count 5 = .ok (.iload_n 1, 1) := by decide +kernel
theorem dX2_count_6 : decode cX2_count 6 = .ok (.iconst 0, 1) := by decide +kernel
theorem dX2_count_7 : decode cX2_count 7 = .ok (.bipush 14, 2) := by decide +kernel
theorem dX2_count_9 : decode cX2_count 9 = .ok (.invokestatic 29, 3) := by decide +kernel
theorem dX2_count_12 : decode cX2_count 12 = .ok (.ifCond .eq 11, 3) := by decide +kernel
theorem dX2_count_15 : decode cX2_count 15 = .ok (.aload_n 0, 1) := by decide +kernel
theorem dX2_count_16 : decode cX2_count 16 = .ok (.iload_n 1, 1) := by decide +kernel
theorem dX2_count_17 : decode cX2_count 17 = .ok (.invokevirtual 132, 3) := by decide +kernel
theorem dX2_count_20 : decode cX2_count 20 = .ok (.goto 8, 3) := by decide +kernel
theorem dX2_count_23 : decode cX2_count 23 = .ok (.aload_n 0, 1) := by decide +kernel
theorem dX2_count_24 : decode cX2_count 24 = .ok (.iconst 1, 1) := by decide +kernel
theorem dX2_count_25 : decode cX2_count 25 = .ok (.invokevirtual 36, 3) := by decide +kernel
theorem dX2_count_28 : decode cX2_count 28 = .ok (.ireturn, 1) := by decide +kernel
set_option maxRecDepth 20000 in
theorem ggX2_setting_X2_in : GoodIn wsX2_setting wsX2_in := goodIn_r _ [6] (by decide +kernel) (by decide +kernel)
set_option maxRecDepth 20000 in
theorem gX2_setting_X2_in : GoodIn wsX2_setting (va_wsS RX2 29 yX2_in wsX2_in) := goodIn_app (goodIn_of _ (by decide +kernel)) ggX2_setting_X2_in
set_option maxRecDepth 20000 in
theorem ggX2_setting_X2_fails : GoodIn wsX2_setting wsX2_fails := goodIn_r _ [10, 1, 11, 12, 13, 14, 15, 16, 17, 18, 19, 20, 21] (by decide +kernel) (by decide +kernel)
set_option maxRecDepth 20000 in
theorem gX2_setting_X2_fails : GoodIn wsX2_setting (wsV RX2 36 RX2 yX2_fails wsX2_fails) := goodIn_app (goodIn_of _ (by decide +kernel)) ggX2_setting_X2_fails
theorem dX2_setting_0 : decode cX2_setting 0 = .ok (.aload_n 0, 1) := by decide +kernel
theorem dX2_setting_1 : decode cX2_setting 1 = .ok (.iconst 0, 1) := by decide +kernel
theorem dX2_setting_2 : decode cX2_setting 2 = .ok (.putfield 25, 3) := by decide +kernel
theorem dX2_setting_5 : decode cX2_setting 5 = .ok (.iload_n 1, 1) := by decide +kernel
theorem dX2_setting_6 : decode cX2_setting 6 = .ok (.iconst 0, 1) := by decide +kernel
theorem dX2_setting_7 : decode cX2_setting 7 = .ok (.iconst 2, 1) := by decide +kernel
theorem dX2_setting_8 : decode cX2_setting 8 = .ok (.invokestatic 29, 3) := by decide +kernel
theorem dX2_setting_11 : decode cX2_setting 11 = .ok (.ifCond .eq 15, 3) := by decide +kernel
theorem dX2_setting_14 : decode cX2_setting 14 = .ok (.aload_n 0, 1) := by decide +kernel
theorem dX2_setting_15 : decode cX2_setting 15 = .ok (.getfield 7, 3) := by decide +kernel
theorem dX2_setting_18 : decode cX2_setting 18 = .ok (.bipush 8, 2) := by decide +kernel
theorem dX2_setting_20 : decode cX2_setting 20 = .ok (.iload_n 1, 1) := by decide +kernel
theorem dX2_setting_21 : decode cX2_setting 21 = .ok (.iadd, 1) := by decide +kernel
theorem dX2_setting_22 : decode cX2_setting 22 = .ok (.iaload, 1) := by decide +kernel
theorem dX2_setting_23 : decode cX2_setting 23 = .ok (.goto 8, 3) := by decide +kernel
theorem dX2_setting_26 : decode cX2_setting 26 = .ok (.aload_n 0, 1) := by decide +kernel
theorem dX2_setting_27 : decode cX2_setting 27 = .ok (.iconst 1, 1) := by decide +kernel
theorem dX2_setting_28 : decode cX2_setting 28 = .ok (.invokevirtual 36, 3) := by decide +kernel
theorem dX2_setting_31 : decode cX2_setting 31 = .ok (.ireturn, 1) := by decide +kernel
set_option maxRecDepth 20000 in
theorem ggX2_opensIn_X2_opensBut : GoodIn wsX2_opensIn wsX2_opensBut := goodIn_r _ [6, 7, 8, 9, 10, 11, 5, 12, 13, 14, 15, 16, 17, 18, 19, 20, 21, 22, 23, 24, 25, 26, 27, 28, 29, 30, 31, 32, 33, 34, 35, 36, 37, 38, 39, 40, 41, 42, 43] (by decide +kernel) (by decide +kernel)
set_option maxRecDepth 20000 in
theorem gX2_opensIn_X2_opensBut : GoodIn wsX2_opensIn (wsV RX2 81 RX2 yX2_opensBut wsX2_opensBut) := goodIn_app (goodIn_of _ (by decide +kernel)) ggX2_opensIn_X2_opensBut
theorem dX2_opensIn_0 : decode cX2_opensIn 0 = .ok (.aload_n 0, 1) := by decide +kernel
theorem dX2_opensIn_1 : decode cX2_opensIn 1 = .ok (.iconst 0, 1) := by decide +kernel
theorem dX2_opensIn_2 : decode cX2_opensIn 2 = .ok (.putfield 25, 3) := by decide +kernel
theorem dX2_opensIn_5 : decode cX2_opensIn 5 = .ok (.aload_n 0, 1) := by decide +kernel
theorem dX2_opensIn_6 : decode cX2_opensIn 6 = .ok (.iconst (-1), 1) := by decide +kernel
theorem dX2_opensIn_7 : decode cX2_opensIn 7 = .ok (.invokevirtual 81, 3) := by decide +kernel
theorem dX2_opensIn_10 : decode cX2_opensIn 10 = .ok (.ireturn, 1) := by decide +kernel
set_option maxRecDepth 20000 in
theorem ggX2_late_X2_opensBut : GoodIn wsX2_late wsX2_opensBut := goodIn_r _ [6, 7, 1, 8, 9, 10, 5, 11, 12, 13, 14, 15, 16, 17, 18, 19, 20, 21, 22, 23, 24, 25, 26, 27, 28, 29, 30, 31, 32, 33, 34, 35, 36, 37, 38, 39, 40, 41, 42] (by decide +kernel) (by decide +kernel)
set_option maxRecDepth 20000 in
theorem gX2_late_X2_opensBut : GoodIn wsX2_late (wsV RX2 81 RX2 yX2_opensBut wsX2_opensBut) := goodIn_app (goodIn_of _ (by decide +kernel)) ggX2_late_X2_opensBut
theorem dX2_late_0 : decode cX2_late 0 = .ok (.aload_n 0, 1) := by decide +kernel
theorem dX2_late_1 : decode cX2_late 1 = .ok (.getfield 7, 3) := by decide +kernel
theorem dX2_late_4 : decode cX2_late 4 = .ok (.bipush 11, 2) := by decide +kernel
theorem dX2_late_6 : decode cX2_late 6 = .ok (.iaload, 1) := by decide +kernel
theorem dX2_late_7 : decode cX2_late 7 = .ok (.ifCond .ne 5, 3) := by decide +kernel
theorem dX2_late_10 : decode cX2_late 10 = .ok (.iconst 0, 1) := by decide +kernel
theorem dX2_late_11 : decode cX2_late 11 = .ok (.ireturn, 1) := by decide +kernel
theorem dX2_late_12 : decode cX2_late 12 = .ok (.aload_n 0, 1) := by decide +kernel
theorem dX2_late_13 : decode cX2_late 13 = .ok (.iconst (-1), 1) := by decide +kernel
theorem dX2_late_14 : decode cX2_late 14 = .ok (.invokevirtual 81, 3) := by decide +kernel
theorem dX2_late_17 : decode cX2_late 17 = .ok (.istore_n 1, 1) := by decide +kernel
theorem dX2_late_18 : decode cX2_late 18 = .ok (.iload_n 1, 1) := by decide +kernel
theorem dX2_late_19 : decode cX2_late 19 = .ok (.iconst (-1), 1) := by decide +kernel
theorem dX2_late_20 : decode cX2_late 20 = .ok (.if_icmp .ne 7, 3) := by decide +kernel
theorem dX2_late_23 : decode cX2_late 23 = .ok (.sipush 1000, 3) := by decide +kernel
theorem dX2_late_26 : decode cX2_late 26 = .ok (.ireturn, 1) := by decide +kernel
theorem dX2_late_27 : decode cX2_late 27 = .ok (.aload_n 0, 1) := by decide +kernel
theorem dX2_late_28 : decode cX2_late 28 = .ok (.getfield 7, 3) := by decide +kernel
theorem dX2_late_31 : decode cX2_late 31 = .ok (.bipush 12, 2) := by decide +kernel
theorem dX2_late_33 : decode cX2_late 33 = .ok (.iaload, 1) := by decide +kernel
theorem dX2_late_34 : decode cX2_late 34 = .ok (.iconst (-1), 1) := by decide +kernel
theorem dX2_late_35 : decode cX2_late 35 = .ok (.if_icmp .ne 7, 3) := by decide +kernel
theorem dX2_late_38 : decode cX2_late 38 = .ok (.iconst 0, 1) := by decide +kernel
theorem dX2_late_39 : decode cX2_late 39 = .ok (.goto 27, 3) := by decide +kernel
theorem dX2_late_42 : decode cX2_late 42 = .ok (.aload_n 0, 1) := by decide +kernel
theorem dX2_late_43 : decode cX2_late 43 = .ok (.getfield 7, 3) := by decide +kernel
theorem dX2_late_46 : decode cX2_late 46 = .ok (.iconst 0, 1) := by decide +kernel
theorem dX2_late_47 : decode cX2_late 47 = .ok (.iaload, 1) := by decide +kernel
theorem dX2_late_48 : decode cX2_late 48 = .ok (.iload_n 1, 1) := by decide +kernel
theorem dX2_late_49 : decode cX2_late 49 = .ok (.ifCond .ne 7, 3) := by decide +kernel
theorem dX2_late_52 : decode cX2_late 52 = .ok (.iconst 1, 1) := by decide +kernel
theorem dX2_late_53 : decode cX2_late 53 = .ok (.goto 4, 3) := by decide +kernel
theorem dX2_late_56 : decode cX2_late 56 = .ok (.iload_n 1, 1) := by decide +kernel
theorem dX2_late_57 : decode cX2_late 57 = .ok (.iadd, 1) := by decide +kernel
theorem dX2_late_58 : decode cX2_late 58 = .ok (.aload_n 0, 1) := by decide +kernel
theorem dX2_late_59 : decode cX2_late 59 = .ok (.getfield 7, 3) := by decide +kernel
theorem dX2_late_62 : decode cX2_late 62 = .ok (.bipush 12, 2) := by decide +kernel
theorem dX2_late_64 : decode cX2_late 64 = .ok (.iaload, 1) := by decide +kernel
theorem dX2_late_65 : decode cX2_late 65 = .ok (.isub, 1) := by decide +kernel
theorem dX2_late_66 : decode cX2_late 66 = .ok (.ireturn, 1) := by decide +kernel
set_option maxRecDepth 20000 in
theorem ggX2_lateness_X2_late : GoodIn wsX2_lateness wsX2_late := goodIn_r _ [6, 7, 8, 9, 10, 5, 11, 12, 13, 14, 15, 16, 17, 18, 19, 20, 21, 22, 23, 24, 25, 26, 27, 28, 29, 30, 31, 32, 33, 34, 35, 36, 37, 38, 39, 40, 41, 42, 43, 44, 45, 46, 47] (by decide +kernel) (by decide +kernel)
set_option maxRecDepth 20000 in
theorem gX2_lateness_X2_late : GoodIn wsX2_lateness (wsV RX2 135 RX2 yX2_late wsX2_late) := goodIn_app (goodIn_of _ (by decide +kernel)) ggX2_lateness_X2_late
theorem dX2_lateness_0 : decode cX2_lateness 0 = .ok (.aload_n 0, 1) := by decide +kernel
theorem dX2_lateness_1 : decode cX2_lateness 1 = .ok (.iconst 0, 1) := by decide +kernel
theorem dX2_lateness_2 : decode cX2_lateness 2 = .ok (.putfield 25, 3) := by decide +kernel
theorem dX2_lateness_5 : decode cX2_lateness 5 = .ok (.aload_n 0, 1) := by decide +kernel
theorem dX2_lateness_6 : decode cX2_lateness 6 = .ok (.invokevirtual 135, 3) := by decide +kernel
theorem dX2_lateness_9 : decode cX2_lateness 9 = .ok (.ireturn, 1) := by decide +kernel
set_option maxRecDepth 20000 in
theorem ggX2_key_X2_goes : GoodIn wsX2_key wsX2_goes := goodIn_r _ [6, 1, 32, 33, 34, 35, 36, 37, 38, 39, 40, 41, 42] (by decide +kernel) (by decide +kernel)
set_option maxRecDepth 20000 in
theorem gX2_key_X2_goes : GoodIn wsX2_key (wsV RX2 40 RX2 yX2_goes wsX2_goes) := goodIn_app (goodIn_of _ (by decide +kernel)) ggX2_key_X2_goes
set_option maxRecDepth 20000 in
theorem ggX2_key_X2_opensBut : GoodIn wsX2_key wsX2_opensBut := goodIn_r _ [10, 11, 1, 12, 13, 14, 5, 15, 16, 17, 18, 19, 2, 3, 4, 6, 20, 21, 22, 23, 24, 25, 26, 27, 28, 29, 30, 31, 32, 33, 34, 35, 36, 37, 38, 39, 40, 41, 42] (by decide +kernel) (by decide +kernel)
set_option maxRecDepth 20000 in
theorem gX2_key_X2_opensBut : GoodIn wsX2_key (wsV RX2 81 RX2 yX2_opensBut wsX2_opensBut) := goodIn_app (goodIn_of _ (by decide +kernel)) ggX2_key_X2_opensBut
theorem dX2_key_0 : decode cX2_key 0 = .ok (.iconst 0, 1) := by decide +kernel
theorem dX2_key_1 : decode cX2_key 1 = .ok (.istore_n 1, 1) := by decide +kernel
theorem dX2_key_2 : decode cX2_key 2 = .ok (.iload_n 1, 1) := by decide +kernel
theorem dX2_key_3 : decode cX2_key 3 = .ok (.iconst 3, 1) := by decide +kernel
theorem dX2_key_4 : decode cX2_key 4 = .ok (.if_icmp .ge 43, 3) := by decide +kernel
theorem dX2_key_7 : decode cX2_key 7 = .ok (.aload_n 0, 1) := by decide +kernel
theorem dX2_key_8 : decode cX2_key 8 = .ok (.getfield 7, 3) := by decide +kernel
theorem dX2_key_11 : decode cX2_key 11 = .ok (.bipush 11, 2) := by decide +kernel
theorem dX2_key_13 : decode cX2_key 13 = .ok (.iaload, 1) := by decide +kernel
theorem dX2_key_14 : decode cX2_key 14 = .ok (.iconst 1, 1) := by decide +kernel
theorem dX2_key_15 : decode cX2_key 15 = .ok (.if_icmp .ne 32, 3) := by decide +kernel
theorem dX2_key_18 : decode cX2_key 18 = .ok (.aload_n 0, 1) := by decide +kernel
theorem dX2_key_19 : decode cX2_key 19 = .ok (.iload_n 1, 1) := by decide +kernel
theorem dX2_key_20 : decode cX2_key 20 = .ok (.invokevirtual 40, 3) := by decide +kernel
theorem dX2_key_23 : decode cX2_key 23 = .ok (.ifCond .eq 18, 3) := by decide +kernel
theorem dX2_key_26 : decode cX2_key 26 = .ok (.aload_n 0, 1) := by decide +kernel
theorem dX2_key_27 : decode cX2_key 27 = .ok (.iload_n 1, 1) := by decide +kernel
theorem dX2_key_28 : decode cX2_key 28 = .ok (.invokevirtual 81, 3) := by decide +kernel
theorem dX2_key_31 : decode cX2_key 31 = .ok (.aload_n 0, 1) := by decide +kernel
theorem dX2_key_32 : decode cX2_key 32 = .ok (.iconst (-1), 1) := by decide +kernel
theorem dX2_key_33 : decode cX2_key 33 = .ok (.invokevirtual 81, 3) := by decide +kernel
theorem dX2_key_36 : decode cX2_key 36 = .ok (.if_icmp .eq 5, 3) := by decide +kernel
theorem dX2_key_39 : decode cX2_key 39 = .ok (.iload_n 1, 1) := by decide +kernel
theorem dX2_key_40 : decode cX2_key 40 = .ok (.ireturn, 1) := by decide +kernel
theorem dX2_key_41 : decode cX2_key 41 = .ok (.iinc 1 1, 3) := by decide +kernel
theorem dX2_key_44 : decode cX2_key 44 = .ok (.goto (-42), 3) := by decide +kernel
theorem dX2_key_47 : decode cX2_key 47 = .ok (.iconst (-1), 1) := by decide +kernel
theorem dX2_key_48 : decode cX2_key 48 = .ok (.ireturn, 1) := by decide +kernel
set_option maxRecDepth 20000 in
theorem ggX2_keyMovement_X2_key : GoodIn wsX2_keyMovement wsX2_key := goodIn_r _ [6, 7, 8, 9, 10, 5, 11, 12, 13, 14, 15, 16, 17, 18, 19, 20, 21, 22, 23, 24, 25, 26, 27, 28, 29, 30, 31, 32, 33, 34, 35, 36, 37, 38, 39, 40, 41, 42, 43, 44, 45, 46, 47] (by decide +kernel) (by decide +kernel)
set_option maxRecDepth 20000 in
theorem gX2_keyMovement_X2_key : GoodIn wsX2_keyMovement (wsV RX2 138 RX2 yX2_key wsX2_key) := goodIn_app (goodIn_of _ (by decide +kernel)) ggX2_keyMovement_X2_key
theorem dX2_keyMovement_0 : decode cX2_keyMovement 0 = .ok (.aload_n 0, 1) := by decide +kernel
theorem dX2_keyMovement_1 : decode cX2_keyMovement 1 = .ok (.iconst 0, 1) := by decide +kernel
theorem dX2_keyMovement_2 : decode cX2_keyMovement 2 = .ok (.putfield 25, 3) := by decide +kernel
theorem dX2_keyMovement_5 : decode cX2_keyMovement 5 = .ok (.aload_n 0, 1) := by decide +kernel
theorem dX2_keyMovement_6 : decode cX2_keyMovement 6 = .ok (.invokevirtual 138, 3) := by decide +kernel
theorem dX2_keyMovement_9 : decode cX2_keyMovement 9 = .ok (.ireturn, 1) := by decide +kernel
set_option maxRecDepth 20000 in
theorem ggX2_right_X2_toOpening : GoodIn wsX2_right wsX2_toOpening := goodIn_r _ [5, 6, 23, 24, 25, 26, 27, 28, 29, 30, 31, 32, 33] (by decide +kernel) (by decide +kernel)
set_option maxRecDepth 20000 in
theorem gX2_right_X2_toOpening : GoodIn wsX2_right (wsV RX2 78 RX2 yX2_toOpening wsX2_toOpening) := goodIn_app (goodIn_of _ (by decide +kernel)) ggX2_right_X2_toOpening
set_option maxRecDepth 20000 in
theorem ggX2_right_X2_downIn : GoodIn wsX2_right wsX2_downIn := goodIn_r _ [10, 11, 12, 13, 4, 14, 6, 15, 16, 17, 18, 19, 20, 21, 22, 23, 24, 25, 26, 27, 28, 29, 30, 31, 32, 33] (by decide +kernel) (by decide +kernel)
set_option maxRecDepth 20000 in
theorem gX2_right_X2_downIn : GoodIn wsX2_right (wsV RX2 54 RX2 yX2_downIn wsX2_downIn) := goodIn_app (goodIn_of _ (by decide +kernel)) ggX2_right_X2_downIn
theorem dX2_right_0 : decode cX2_right 0 = .ok (.aload_n 0, 1) := by decide +kernel
theorem dX2_right_1 : decode cX2_right 1 = .ok (.invokevirtual 78, 3) := by decide +kernel
theorem dX2_right_4 : decode cX2_right 4 = .ok (.istore_n 2, 1) := by decide +kernel
theorem dX2_right_5 : decode cX2_right 5 = .ok (.iconst 1, 1) := by decide +kernel
theorem dX2_right_6 : decode cX2_right 6 = .ok (.istore_n 3, 1) := by decide +kernel
theorem dX2_right_7 : decode cX2_right 7 = .ok (.iload_n 3, 1) := by decide +kernel
theorem dX2_right_8 : decode cX2_right 8 = .ok (.sipush 200, 3) := by decide +kernel
theorem dX2_right_11 : decode cX2_right 11 = .ok (.if_icmp .gt 26, 3) := by decide +kernel
theorem dX2_right_14 : decode cX2_right 14 = .ok (.iload_n 2, 1) := by decide +kernel
theorem dX2_right_15 : decode cX2_right 15 = .ok (.iconst (-1), 1) := by decide +kernel
theorem dX2_right_16 : decode cX2_right 16 = .ok (.if_icmp .eq 21, 3) := by decide +kernel
theorem dX2_right_19 : decode cX2_right 19 = .ok (.aload_n 0, 1) := by decide +kernel
theorem dX2_right_20 : decode cX2_right 20 = .ok (.iload_n 1, 1) := by decide +kernel
theorem dX2_right_21 : decode cX2_right 21 = .ok (.iload_n 3, 1) := by decide +kernel
theorem dX2_right_22 : decode cX2_right 22 = .ok (.invokevirtual 54, 3) := by decide +kernel
theorem dX2_right_25 : decode cX2_right 25 = .ok (.iload_n 2, 1) := by decide +kernel
theorem dX2_right_26 : decode cX2_right 26 = .ok (.if_icmp .ne 5, 3) := by decide +kernel
theorem dX2_right_29 : decode cX2_right 29 = .ok (.iload_n 3, 1) := by decide +kernel
theorem dX2_right_30 : decode cX2_right 30 = .ok (.ireturn, 1) := by decide +kernel
theorem dX2_right_31 : decode cX2_right 31 = .ok (.iinc 3 1, 3) := by decide +kernel
theorem dX2_right_34 : decode cX2_right 34 = .ok (.goto (-27), 3) := by decide +kernel
theorem dX2_right_37 : decode cX2_right 37 = .ok (.iconst (-1), 1) := by decide +kernel
theorem dX2_right_38 : decode cX2_right 38 = .ok (.ireturn, 1) := by decide +kernel
set_option maxRecDepth 20000 in
theorem ggX2_rightWinding_X2_isMovement : GoodIn wsX2_rightWinding wsX2_isMovement := goodIn_r _ [5, 6, 7, 4, 8] (by decide +kernel) (by decide +kernel)
set_option maxRecDepth 20000 in
theorem gX2_rightWinding_X2_isMovement : GoodIn wsX2_rightWinding (va_wsS RX2 75 yX2_isMovement wsX2_isMovement) := goodIn_app (goodIn_of _ (by decide +kernel)) ggX2_rightWinding_X2_isMovement
set_option maxRecDepth 20000 in
theorem ggX2_rightWinding_X2_right : GoodIn wsX2_rightWinding wsX2_right := goodIn_r _ [12, 13, 14, 15, 4, 16, 17, 18, 19, 20, 21, 22, 23, 24, 25, 26, 27, 28, 29, 30, 31, 32, 33, 38, 39, 40, 41, 42, 43, 44, 45, 46, 47, 48] (by decide +kernel) (by decide +kernel)
set_option maxRecDepth 20000 in
theorem gX2_rightWinding_X2_right : GoodIn wsX2_rightWinding (wsV RX2 141 RX2 yX2_right wsX2_right) := goodIn_app (goodIn_of _ (by decide +kernel)) ggX2_rightWinding_X2_right
set_option maxRecDepth 20000 in
theorem ggX2_rightWinding_X2_fails : GoodIn wsX2_rightWinding wsX2_fails := goodIn_r _ [37, 1, 38, 39, 40, 41, 42, 43, 44, 45, 46, 47, 48] (by decide +kernel) (by decide +kernel)
set_option maxRecDepth 20000 in
theorem gX2_rightWinding_X2_fails : GoodIn wsX2_rightWinding (wsV RX2 36 RX2 yX2_fails wsX2_fails) := goodIn_app (goodIn_of _ (by decide +kernel)) ggX2_rightWinding_X2_fails
theorem dX2_rightWinding_0 : decode cX2_rightWinding 0 = .ok (.aload_n 0, 1) := by decide +kernel
theorem dX2_rightWinding_1 : decode cX2_rightWinding 1 = .ok (.iconst 0, 1) := by decide +kernel
theorem dX2_rightWinding_2 : decode cX2_rightWinding 2 = .ok (.putfield 25, 3) := by decide +kernel
theorem dX2_rightWinding_5 : decode cX2_rightWinding 5 = .ok (.iload_n 1, 1) := by decide +kernel
theorem dX2_rightWinding_6 : decode cX2_rightWinding 6 = .ok (.invokestatic 75, 3) := by decide +kernel
theorem dX2_rightWinding_9 : decode cX2_rightWinding 9 = .ok (.ifCond .eq 11, 3) := by decide +kernel
theorem dX2_rightWinding_12 : decode cX2_rightWinding 12 = .ok (.aload_n 0, 1) := by decide +kernel
theorem dX2_rightWinding_13 : decode cX2_rightWinding 13 = .ok (.iload_n 1, 1) := by decide +kernel
theorem dX2_rightWinding_14 : decode cX2_rightWinding 14 = .ok (.invokevirtual 141, 3) := by decide +kernel
theorem dX2_rightWinding_17 : decode cX2_rightWinding 17 = .ok (.goto 8, 3) := by decide +kernel
theorem dX2_rightWinding_20 : decode cX2_rightWinding 20 = .ok (.aload_n 0, 1) := by decide +kernel
theorem dX2_rightWinding_21 : decode cX2_rightWinding 21 = .ok (.iconst 1, 1) := by decide +kernel
theorem dX2_rightWinding_22 : decode cX2_rightWinding 22 = .ok (.invokevirtual 36, 3) := by decide +kernel
theorem dX2_rightWinding_25 : decode cX2_rightWinding 25 = .ok (.ireturn, 1) := by decide +kernel
theorem dX2_share_0 : decode cX2_share 0 = .ok (.aload_n 0, 1) := by decide +kernel
theorem dX2_share_1 : decode cX2_share 1 = .ok (.getfield 7, 3) := by decide +kernel
theorem dX2_share_4 : decode cX2_share 4 = .ok (.bipush 16, 2) := by decide +kernel
theorem dX2_share_6 : decode cX2_share 6 = .ok (.iaload, 1) := by decide +kernel
theorem dX2_share_7 : decode cX2_share 7 = .ok (.aload_n 0, 1) := by decide +kernel
theorem dX2_share_8 : decode cX2_share 8 = .ok (.getfield 7, 3) := by decide +kernel
theorem dX2_share_11 : decode cX2_share 11 = .ok (.bipush 20, 2) := by decide +kernel
theorem dX2_share_13 : decode cX2_share 13 = .ok (.iaload, 1) := by decide +kernel
theorem dX2_share_14 : decode cX2_share 14 = .ok (.iadd, 1) := by decide +kernel
theorem dX2_share_15 : decode cX2_share 15 = .ok (.istore_n 1, 1) := by decide +kernel
theorem dX2_share_16 : decode cX2_share 16 = .ok (.iload_n 1, 1) := by decide +kernel
theorem dX2_share_17 : decode cX2_share 17 = .ok (.ifCond .ne 7, 3) := by decide +kernel
theorem dX2_share_20 : decode cX2_share 20 = .ok (.dconst 1, 1) := by decide +kernel
theorem dX2_share_21 : decode cX2_share 21 = .ok (.goto 14, 3) := by decide +kernel
theorem dX2_share_24 : decode cX2_share 24 = .ok (.aload_n 0, 1) := by decide +kernel
theorem dX2_share_25 : decode cX2_share 25 = .ok (.getfield 7, 3) := by decide +kernel
theorem dX2_share_28 : decode cX2_share 28 = .ok (.bipush 17, 2) := by decide +kernel
theorem dX2_share_30 : decode cX2_share 30 = .ok (.iaload, 1) := by decide +kernel
theorem dX2_share_31 : decode cX2_share 31 = .ok (.i2d, 1) := by decide +kernel
theorem dX2_share_32 : decode cX2_share 32 = .ok (.iload_n 1, 1) := by decide +kernel
theorem dX2_share_33 : decode cX2_share 33 = .ok (.i2d, 1) := by decide +kernel
theorem dX2_share_34 : decode cX2_share 34 = .ok (.ddiv, 1) := by decide +kernel
theorem dX2_share_35 : decode cX2_share 35 = .ok (.dreturn, 1) := by decide +kernel
set_option maxRecDepth 20000 in
theorem ggX2_punctuality_X2_share : GoodIn wsX2_punctuality wsX2_share := goodIn_r _ [6, 7, 8, 9, 10, 11, 12, 13, 14, 15, 16, 17, 18] (by decide +kernel) (by decide +kernel)
set_option maxRecDepth 20000 in
theorem gX2_punctuality_X2_share : GoodIn wsX2_punctuality (wsV RX2 144 RX2 yX2_share wsX2_share) := goodIn_app (goodIn_of _ (by decide +kernel)) ggX2_punctuality_X2_share
theorem dX2_punctuality_0 : decode cX2_punctuality 0 = .ok (.aload_n 0, 1) := by decide +kernel
theorem dX2_punctuality_1 : decode cX2_punctuality 1 = .ok (.iconst 0, 1) := by decide +kernel
theorem dX2_punctuality_2 : decode cX2_punctuality 2 = .ok (.putfield 25, 3) := by decide +kernel
theorem dX2_punctuality_5 : decode cX2_punctuality 5 = .ok (.aload_n 0, 1) := by decide +kernel
theorem dX2_punctuality_6 : decode cX2_punctuality 6 = .ok (.invokevirtual 144, 3) := by decide +kernel
theorem dX2_punctuality_9 : decode cX2_punctuality 9 = .ok (.dreturn, 1) := by decide +kernel
set_option maxRecDepth 20000 in
theorem ggX2_digest_X2_counted : GoodIn wsX2_digest wsX2_counted := goodIn_r _ [11, 4, 12, 13, 14, 15, 10, 16, 17, 18, 19, 20, 78, 79, 80, 81, 82, 83, 84, 85, 86, 87, 88] (by decide +kernel) (by decide +kernel)
set_option maxRecDepth 20000 in
theorem gX2_digest_X2_counted : GoodIn wsX2_digest (wsV RX2 132 RX2 yX2_counted wsX2_counted) := goodIn_app (goodIn_of _ (by decide +kernel)) ggX2_digest_X2_counted
set_option maxRecDepth 20000 in
theorem ggX2_digest_X2_ofMovement : GoodIn wsX2_digest wsX2_ofMovement := goodIn_r _ [24, 4, 25, 26, 27, 10, 28, 29, 30, 31, 32, 33, 34, 35, 36, 37, 38, 39, 40, 41, 42, 43, 44, 78, 79, 80, 81, 82, 83, 84, 85, 86, 87, 88] (by decide +kernel) (by decide +kernel)
set_option maxRecDepth 20000 in
theorem gX2_digest_X2_ofMovement : GoodIn wsX2_digest (wsV RX2 129 RX2 yX2_ofMovement wsX2_ofMovement) := goodIn_app (goodIn_of _ (by decide +kernel)) ggX2_digest_X2_ofMovement
set_option maxRecDepth 20000 in
theorem ggX2_digest_X2_right : GoodIn wsX2_digest wsX2_right := goodIn_r _ [48, 13, 14, 15, 10, 16, 4, 33, 34, 35, 36, 37, 38, 39, 40, 41, 42, 43, 44, 25, 26, 27, 28, 78, 79, 80, 81, 82, 83, 84, 85, 86, 87, 88] (by decide +kernel) (by decide +kernel)
set_option maxRecDepth 20000 in
theorem gX2_digest_X2_right : GoodIn wsX2_digest (wsV RX2 141 RX2 yX2_right wsX2_right) := goodIn_app (goodIn_of _ (by decide +kernel)) ggX2_digest_X2_right
set_option maxRecDepth 20000 in
theorem ggX2_digest_X2_opensBut : GoodIn wsX2_digest wsX2_opensBut := goodIn_r _ [52, 53, 4, 29, 30, 31, 10, 32, 33, 34, 35, 36, 37, 38, 39, 40, 41, 42, 43, 44, 25, 26, 27, 28, 17, 18, 19, 20, 78, 79, 80, 81, 82, 83, 84, 85, 86, 87, 88] (by decide +kernel) (by decide +kernel)
set_option maxRecDepth 20000 in
theorem gX2_digest_X2_opensBut : GoodIn wsX2_digest (wsV RX2 81 RX2 yX2_opensBut wsX2_opensBut) := goodIn_app (goodIn_of _ (by decide +kernel)) ggX2_digest_X2_opensBut
set_option maxRecDepth 20000 in
theorem ggX2_digest_X2_late : GoodIn wsX2_digest wsX2_late := goodIn_r _ [57, 4, 49, 50, 51, 10, 52, 53, 29, 30, 31, 32, 33, 34, 35, 36, 37, 38, 39, 40, 41, 42, 43, 44, 25, 26, 27, 28, 17, 18, 19, 20, 78, 79, 80, 81, 82, 83, 84, 85, 86, 87, 88] (by decide +kernel) (by decide +kernel)
set_option maxRecDepth 20000 in
theorem gX2_digest_X2_late : GoodIn wsX2_digest (wsV RX2 135 RX2 yX2_late wsX2_late) := goodIn_app (goodIn_of _ (by decide +kernel)) ggX2_digest_X2_late
set_option maxRecDepth 20000 in
theorem ggX2_digest_X2_key : GoodIn wsX2_digest wsX2_key := goodIn_r _ [61, 4, 37, 38, 39, 10, 40, 49, 50, 51, 52, 53, 29, 30, 31, 32, 33, 34, 35, 36, 41, 42, 43, 44, 25, 26, 27, 28, 17, 18, 19, 20, 78, 79, 80, 81, 82, 83, 84, 85, 86, 87, 88] (by decide +kernel) (by decide +kernel)
set_option maxRecDepth 20000 in
theorem gX2_digest_X2_key : GoodIn wsX2_digest (wsV RX2 138 RX2 yX2_key wsX2_key) := goodIn_app (goodIn_of _ (by decide +kernel)) ggX2_digest_X2_key
set_option maxRecDepth 20000 in
theorem ggX2_digest_X2_share : GoodIn wsX2_digest wsX2_share := goodIn_r _ [65, 4, 78, 79, 80, 81, 82, 83, 84, 85, 86, 87, 88] (by decide +kernel) (by decide +kernel)
set_option maxRecDepth 20000 in
theorem gX2_digest_X2_share : GoodIn wsX2_digest (wsV RX2 144 RX2 yX2_share wsX2_share) := goodIn_app (goodIn_of _ (by decide +kernel)) ggX2_digest_X2_share
set_option maxRecDepth 20000 in
theorem ggX2_digest_Jxe99ae_doubleToLongBits_ccdee : GoodIn wsX2_digest wsJxe99ae_doubleToLongBits_ccdee := goodIn_r _ [69, 70, 71, 72, 73, 74, 75, 76, 68, 77] (by decide +kernel) (by decide +kernel)
set_option maxRecDepth 20000 in
theorem gX2_digest_Jxe99ae_doubleToLongBits_ccdee : GoodIn wsX2_digest (va_wsS RX2 152 yJxe99ae_doubleToLongBits_ccdee wsJxe99ae_doubleToLongBits_ccdee) := goodIn_app (goodIn_of _ (by decide +kernel)) ggX2_digest_Jxe99ae_doubleToLongBits_ccdee
theorem dX2_digest_0 : decode cX2_digest 0 = .ok (.aload_n 0, 1) := by decide +kernel
theorem dX2_digest_1 : decode cX2_digest 1 = .ok (.iconst 0, 1) := by decide +kernel
theorem dX2_digest_2 : decode cX2_digest 2 = .ok (.putfield 25, 3) := by decide +kernel
theorem dX2_digest_5 : decode cX2_digest 5 = .ok (.ldc2_w 148, 3) := by decide +kernel
theorem dX2_digest_8 : decode cX2_digest 8 = .ok (.lstore_n 1, 1) := by decide +kernel
theorem dX2_digest_9 : decode cX2_digest 9 = .ok (.iconst 0, 1) := by decide +kernel
theorem dX2_digest_10 : decode cX2_digest 10 = .ok (.istore_n 3, 1) := by decide +kernel
theorem dX2_digest_11 : decode cX2_digest 11 = .ok (.iload_n 3, 1) := by decide +kernel
theorem dX2_digest_12 : decode cX2_digest 12 = .ok (.bipush 15, 2) := by decide +kernel
theorem dX2_digest_14 : decode cX2_digest 14 = .ok (.if_icmp .ge 22, 3) := by decide +kernel
theorem dX2_digest_17 : decode cX2_digest 17 = .ok (.ldc2_w 150, 3) := by decide +kernel
theorem dX2_digest_20 : decode cX2_digest 20 = .ok (.lload_n 1, 1) := by decide +kernel
theorem dX2_digest_21 : decode cX2_digest 21 = .ok (.lmul, 1) := by decide +kernel
theorem dX2_digest_22 : decode cX2_digest 22 = .ok (.aload_n 0, 1) := by decide +kernel
theorem dX2_digest_23 : decode cX2_digest 23 = .ok (.iload_n 3, 1) := by decide +kernel
theorem dX2_digest_24 : decode cX2_digest 24 = .ok (.invokevirtual 132, 3) := by decide +kernel
theorem dX2_digest_27 : decode cX2_digest 27 = .ok (.i2l, 1) := by decide +kernel
theorem dX2_digest_28 : decode cX2_digest 28 = .ok (.ladd, 1) := by decide +kernel
theorem dX2_digest_29 : decode cX2_digest 29 = .ok (.lstore_n 1, 1) := by decide +kernel
theorem dX2_digest_30 : decode cX2_digest 30 = .ok (.iinc 3 1, 3) := by decide +kernel
theorem dX2_digest_33 : decode cX2_digest 33 = .ok (.goto (-22), 3) := by decide +kernel
theorem dX2_digest_36 : decode cX2_digest 36 = .ok (.iconst 0, 1) := by decide +kernel
theorem dX2_digest_37 : decode cX2_digest 37 = .ok (.istore_n 3, 1) := by decide +kernel
theorem dX2_digest_38 : decode cX2_digest 38 = .ok (.iload_n 3, 1) := by decide +kernel
theorem dX2_digest_39 : decode cX2_digest 39 = .ok (.iconst 3, 1) := by decide +kernel
theorem dX2_digest_40 : decode cX2_digest 40 = .ok (.if_icmp .ge 26, 3) := by decide +kernel
theorem dX2_digest_43 : decode cX2_digest 43 = .ok (.ldc2_w 150, 3) := by decide +kernel
theorem dX2_digest_46 : decode cX2_digest 46 = .ok (.lload_n 1, 1) := by decide +kernel
theorem dX2_digest_47 : decode cX2_digest 47 = .ok (.lmul, 1) := by decide +kernel
theorem dX2_digest_48 : decode cX2_digest 48 = .ok (.aload_n 0, 1) := by decide +kernel
theorem dX2_digest_49 : decode cX2_digest 49 = .ok (.getfield 7, 3) := by decide +kernel
theorem dX2_digest_52 : decode cX2_digest 52 = .ok (.bipush 8, 2) := by decide +kernel
theorem dX2_digest_54 : decode cX2_digest 54 = .ok (.iload_n 3, 1) := by decide +kernel
theorem dX2_digest_55 : decode cX2_digest 55 = .ok (.iadd, 1) := by decide +kernel
theorem dX2_digest_56 : decode cX2_digest 56 = .ok (.iaload, 1) := by decide +kernel
theorem dX2_digest_57 : decode cX2_digest 57 = .ok (.i2l, 1) := by decide +kernel
theorem dX2_digest_58 : decode cX2_digest 58 = .ok (.ladd, 1) := by decide +kernel
theorem dX2_digest_59 : decode cX2_digest 59 = .ok (.lstore_n 1, 1) := by decide +kernel
theorem dX2_digest_60 : decode cX2_digest 60 = .ok (.iinc 3 1, 3) := by decide +kernel
theorem dX2_digest_63 : decode cX2_digest 63 = .ok (.goto (-25), 3) := by decide +kernel
theorem dX2_digest_66 : decode cX2_digest 66 = .ok (.iconst 0, 1) := by decide +kernel
theorem dX2_digest_67 : decode cX2_digest 67 = .ok (.istore_n 3, 1) := by decide +kernel
theorem dX2_digest_68 : decode cX2_digest 68 = .ok (.iload_n 3, 1) := by decide +kernel
theorem dX2_digest_69 : decode cX2_digest 69 = .ok (.bipush 7, 2) := by decide +kernel
theorem dX2_digest_71 : decode cX2_digest 71 = .ok (.if_icmp .ge 25, 3) := by decide +kernel
theorem dX2_digest_74 : decode cX2_digest 74 = .ok (.ldc2_w 150, 3) := by decide +kernel
theorem dX2_digest_77 : decode cX2_digest 77 = .ok (.lload_n 1, 1) := by decide +kernel
theorem dX2_digest_78 : decode cX2_digest 78 = .ok (.lmul, 1) := by decide +kernel
theorem dX2_digest_79 : decode cX2_digest 79 = .ok (.aload_n 0, 1) := by decide +kernel
theorem dX2_digest_80 : decode cX2_digest 80 = .ok (.getfield 7, 3) := by decide +kernel
theorem dX2_digest_83 : decode cX2_digest 83 = .ok (.iconst 1, 1) := by decide +kernel
theorem dX2_digest_84 : decode cX2_digest 84 = .ok (.iload_n 3, 1) := by decide +kernel
theorem dX2_digest_85 : decode cX2_digest 85 = .ok (.iadd, 1) := by decide +kernel
theorem dX2_digest_86 : decode cX2_digest 86 = .ok (.iaload, 1) := by decide +kernel
theorem dX2_digest_87 : decode cX2_digest 87 = .ok (.i2l, 1) := by decide +kernel
theorem dX2_digest_88 : decode cX2_digest 88 = .ok (.ladd, 1) := by decide +kernel
theorem dX2_digest_89 : decode cX2_digest 89 = .ok (.lstore_n 1, 1) := by decide +kernel
theorem dX2_digest_90 : decode cX2_digest 90 = .ok (.iinc 3 1, 3) := by decide +kernel
theorem dX2_digest_93 : decode cX2_digest 93 = .ok (.goto (-25), 3) := by decide +kernel
theorem dX2_digest_96 : decode cX2_digest 96 = .ok (.iconst 0, 1) := by decide +kernel
theorem dX2_digest_97 : decode cX2_digest 97 = .ok (.istore_n 3, 1) := by decide +kernel
theorem dX2_digest_98 : decode cX2_digest 98 = .ok (.iload_n 3, 1) := by decide +kernel
theorem dX2_digest_99 : decode cX2_digest 99 = .ok (.iconst 3, 1) := by decide +kernel
theorem dX2_digest_100 : decode cX2_digest 100 = .ok (.if_icmp .ge 53, 3) := by decide +kernel
theorem dX2_digest_103 : decode cX2_digest 103 = .ok (.iconst 0, 1) := by decide +kernel
theorem dX2_digest_104 : decode cX2_digest 104 = .ok (.istore 4, 2) := by decide +kernel
theorem dX2_digest_106 : decode cX2_digest 106 = .ok (.iload 4, 2) := by decide +kernel
theorem dX2_digest_108 : decode cX2_digest 108 = .ok (.bipush 6, 2) := by decide +kernel
theorem dX2_digest_110 : decode cX2_digest 110 = .ok (.if_icmp .ge 24, 3) := by decide +kernel
theorem dX2_digest_113 : decode cX2_digest 113 = .ok (.ldc2_w 150, 3) := by decide +kernel
theorem dX2_digest_116 : decode cX2_digest 116 = .ok (.lload_n 1, 1) := by decide +kernel
theorem dX2_digest_117 : decode cX2_digest 117 = .ok (.lmul, 1) := by decide +kernel
theorem dX2_digest_118 : decode cX2_digest 118 = .ok (.aload_n 0, 1) := by decide +kernel
theorem dX2_digest_119 : decode cX2_digest 119 = .ok (.iload_n 3, 1) := by decide +kernel
theorem dX2_digest_120 : decode cX2_digest 120 = .ok (.iload 4, 2) := by decide +kernel
theorem dX2_digest_122 : decode cX2_digest 122 = .ok (.invokevirtual 129, 3) := by decide +kernel
theorem dX2_digest_125 : decode cX2_digest 125 = .ok (.i2l, 1) := by decide +kernel
theorem dX2_digest_126 : decode cX2_digest 126 = .ok (.ladd, 1) := by decide +kernel
theorem dX2_digest_127 : decode cX2_digest 127 = .ok (.lstore_n 1, 1) := by decide +kernel
theorem dX2_digest_128 : decode cX2_digest 128 = .ok (.iinc 4 1, 3) := by decide +kernel
theorem dX2_digest_131 : decode cX2_digest 131 = .ok (.goto (-25), 3) := by decide +kernel
theorem dX2_digest_134 : decode cX2_digest 134 = .ok (.ldc2_w 150, 3) := by decide +kernel
theorem dX2_digest_137 : decode cX2_digest 137 = .ok (.lload_n 1, 1) := by decide +kernel
theorem dX2_digest_138 : decode cX2_digest 138 = .ok (.lmul, 1) := by decide +kernel
theorem dX2_digest_139 : decode cX2_digest 139 = .ok (.aload_n 0, 1) := by decide +kernel
theorem dX2_digest_140 : decode cX2_digest 140 = .ok (.iload_n 3, 1) := by decide +kernel
theorem dX2_digest_141 : decode cX2_digest 141 = .ok (.invokevirtual 141, 3) := by decide +kernel
theorem dX2_digest_144 : decode cX2_digest 144 = .ok (.i2l, 1) := by decide +kernel
theorem dX2_digest_145 : decode cX2_digest 145 = .ok (.ladd, 1) := by decide +kernel
theorem dX2_digest_146 : decode cX2_digest 146 = .ok (.lstore_n 1, 1) := by decide +kernel
theorem dX2_digest_147 : decode cX2_digest 147 = .ok (.iinc 3 1, 3) := by decide +kernel
theorem dX2_digest_150 : decode cX2_digest 150 = .ok (.goto (-52), 3) := by decide +kernel
theorem dX2_digest_153 : decode cX2_digest 153 = .ok (.ldc2_w 150, 3) := by decide +kernel
theorem dX2_digest_156 : decode cX2_digest 156 = .ok (.ldc2_w 150, 3) := by decide +kernel
theorem dX2_digest_159 : decode cX2_digest 159 = .ok (.lload_n 1, 1) := by decide +kernel
theorem dX2_digest_160 : decode cX2_digest 160 = .ok (.lmul, 1) := by decide +kernel
theorem dX2_digest_161 : decode cX2_digest 161 = .ok (.aload_n 0, 1) := by decide +kernel
theorem dX2_digest_162 : decode cX2_digest 162 = .ok (.iconst (-1), 1) := by decide +kernel
theorem dX2_digest_163 : decode cX2_digest 163 = .ok (.invokevirtual 81, 3) := by decide +kernel
theorem dX2_digest_166 : decode cX2_digest 166 = .ok (.i2l, 1) := by decide +kernel
theorem dX2_digest_167 : decode cX2_digest 167 = .ok (.ladd, 1) := by decide +kernel
theorem dX2_digest_168 : decode cX2_digest 168 = .ok (.lmul, 1) := by decide +kernel
theorem dX2_digest_169 : decode cX2_digest 169 = .ok (.aload_n 0, 1) := by decide +kernel
theorem dX2_digest_170 : decode cX2_digest 170 = .ok (.invokevirtual 135, 3) := by decide +kernel
theorem dX2_digest_173 : decode cX2_digest 173 = .ok (.i2l, 1) := by decide +kernel
theorem dX2_digest_174 : decode cX2_digest 174 = .ok (.ladd, 1) := by decide +kernel
theorem dX2_digest_175 : decode cX2_digest 175 = .ok (.lstore_n 1, 1) := by decide +kernel
theorem dX2_digest_176 : decode cX2_digest 176 = .ok (.ldc2_w 150, 3) := by decide +kernel
theorem dX2_digest_179 : decode cX2_digest 179 = .ok (.lload_n 1, 1) := by decide +kernel
theorem dX2_digest_180 : decode cX2_digest 180 = .ok (.lmul, 1) := by decide +kernel
theorem dX2_digest_181 : decode cX2_digest 181 = .ok (.aload_n 0, 1) := by decide +kernel
theorem dX2_digest_182 : decode cX2_digest 182 = .ok (.invokevirtual 138, 3) := by decide +kernel
theorem dX2_digest_185 : decode cX2_digest 185 = .ok (.i2l, 1) := by decide +kernel
theorem dX2_digest_186 : decode cX2_digest 186 = .ok (.ladd, 1) := by decide +kernel
theorem dX2_digest_187 : decode cX2_digest 187 = .ok (.lstore_n 1, 1) := by decide +kernel
theorem dX2_digest_188 : decode cX2_digest 188 = .ok (.ldc2_w 150, 3) := by decide +kernel
theorem dX2_digest_191 : decode cX2_digest 191 = .ok (.ldc2_w 150, 3) := by decide +kernel
theorem dX2_digest_194 : decode cX2_digest 194 = .ok (.lload_n 1, 1) := by decide +kernel
theorem dX2_digest_195 : decode cX2_digest 195 = .ok (.lmul, 1) := by decide +kernel
theorem dX2_digest_196 : decode cX2_digest 196 = .ok (.aload_n 0, 1) := by decide +kernel
theorem dX2_digest_197 : decode cX2_digest 197 = .ok (.invokevirtual 144, 3) := by decide +kernel
theorem dX2_digest_200 : decode cX2_digest 200 = .ok (.invokestatic 152, 3) := by decide +kernel
theorem dX2_digest_203 : decode cX2_digest 203 = .ok (.ladd, 1) := by decide +kernel
theorem dX2_digest_204 : decode cX2_digest 204 = .ok (.lmul, 1) := by decide +kernel
theorem dX2_digest_205 : decode cX2_digest 205 = .ok (.aload_n 0, 1) := by decide +kernel
theorem dX2_digest_206 : decode cX2_digest 206 = .ok (.getfield 91, 3) := by decide +kernel
theorem dX2_digest_209 : decode cX2_digest 209 = .ok (.i2l, 1) := by decide +kernel
theorem dX2_digest_210 : decode cX2_digest 210 = .ok (.ladd, 1) := by decide +kernel
theorem dX2_digest_211 : decode cX2_digest 211 = .ok (.lstore_n 1, 1) := by decide +kernel
theorem dX2_digest_212 : decode cX2_digest 212 = .ok (.iconst 0, 1) := by decide +kernel
theorem dX2_digest_213 : decode cX2_digest 213 = .ok (.istore_n 3, 1) := by decide +kernel
theorem dX2_digest_214 : decode cX2_digest 214 = .ok (.iload_n 3, 1) := by decide +kernel
theorem dX2_digest_215 : decode cX2_digest 215 = .ok (.aload_n 0, 1) := by decide +kernel
theorem dX2_digest_216 : decode cX2_digest 216 = .ok (.getfield 91, 3) := by decide +kernel
theorem dX2_digest_219 : decode cX2_digest 219 = .ok (.if_icmp .ge 23, 3) := by decide +kernel
theorem dX2_digest_222 : decode cX2_digest 222 = .ok (.ldc2_w 150, 3) := by decide +kernel
theorem dX2_digest_225 : decode cX2_digest 225 = .ok (.lload_n 1, 1) := by decide +kernel
theorem dX2_digest_226 : decode cX2_digest 226 = .ok (.lmul, 1) := by decide +kernel
theorem dX2_digest_227 : decode cX2_digest 227 = .ok (.aload_n 0, 1) := by decide +kernel
theorem dX2_digest_228 : decode cX2_digest 228 = .ok (.getfield 16, 3) := by decide +kernel
theorem dX2_digest_231 : decode cX2_digest 231 = .ok (.iload_n 3, 1) := by decide +kernel
theorem dX2_digest_232 : decode cX2_digest 232 = .ok (.iaload, 1) := by decide +kernel
theorem dX2_digest_233 : decode cX2_digest 233 = .ok (.i2l, 1) := by decide +kernel
theorem dX2_digest_234 : decode cX2_digest 234 = .ok (.ladd, 1) := by decide +kernel
theorem dX2_digest_235 : decode cX2_digest 235 = .ok (.lstore_n 1, 1) := by decide +kernel
theorem dX2_digest_236 : decode cX2_digest 236 = .ok (.iinc 3 1, 3) := by decide +kernel
theorem dX2_digest_239 : decode cX2_digest 239 = .ok (.goto (-25), 3) := by decide +kernel
theorem dX2_digest_242 : decode cX2_digest 242 = .ok (.lload_n 1, 1) := by decide +kernel
theorem dX2_digest_243 : decode cX2_digest 243 = .ok (.lreturn, 1) := by decide +kernel
theorem dJxe99ae_isNaN_b9ae7_0 : decode cJxe99ae_isNaN_b9ae7 0 = .ok (.dload_n 0, 1) := by decide +kernel
theorem dJxe99ae_isNaN_b9ae7_1 : decode cJxe99ae_isNaN_b9ae7 1 = .ok (.dload_n 0, 1) := by decide +kernel
theorem dJxe99ae_isNaN_b9ae7_2 : decode cJxe99ae_isNaN_b9ae7 2 = .ok (.dcmp .l, 1) := by decide +kernel
theorem dJxe99ae_isNaN_b9ae7_3 : decode cJxe99ae_isNaN_b9ae7 3 = .ok (.ifCond .eq 7, 3) := by decide +kernel
theorem dJxe99ae_isNaN_b9ae7_6 : decode cJxe99ae_isNaN_b9ae7 6 = .ok (.iconst 1, 1) := by decide +kernel
theorem dJxe99ae_isNaN_b9ae7_7 : decode cJxe99ae_isNaN_b9ae7 7 = .ok (.goto 4, 3) := by decide +kernel
theorem dJxe99ae_isNaN_b9ae7_10 : decode cJxe99ae_isNaN_b9ae7 10 = .ok (.iconst 0, 1) := by decide +kernel
theorem dJxe99ae_isNaN_b9ae7_11 : decode cJxe99ae_isNaN_b9ae7 11 = .ok (.ireturn, 1) := by decide +kernel
set_option maxRecDepth 20000 in
theorem ggJxe99ae_doubleToLongBits_ccdee_Jxe99ae_isNaN_b9ae7 : GoodIn wsJxe99ae_doubleToLongBits_ccdee wsJxe99ae_isNaN_b9ae7 := goodIn_r _ [9] (by decide +kernel) (by decide +kernel)
set_option maxRecDepth 20000 in
theorem gJxe99ae_doubleToLongBits_ccdee_Jxe99ae_isNaN_b9ae7 : GoodIn wsJxe99ae_doubleToLongBits_ccdee (va_wsS RJxe99ae 122 yJxe99ae_isNaN_b9ae7 wsJxe99ae_isNaN_b9ae7) := goodIn_app (goodIn_of _ (by decide +kernel)) ggJxe99ae_doubleToLongBits_ccdee_Jxe99ae_isNaN_b9ae7
theorem dJxe99ae_doubleToLongBits_ccdee_0 : decode cJxe99ae_doubleToLongBits_ccdee 0 = .ok (.dload_n 0, 1) := by decide +kernel
theorem dJxe99ae_doubleToLongBits_ccdee_1 : decode cJxe99ae_doubleToLongBits_ccdee 1 = .ok (.invokestatic 122, 3) := by decide +kernel
theorem dJxe99ae_doubleToLongBits_ccdee_4 : decode cJxe99ae_doubleToLongBits_ccdee 4 = .ok (.ifCond .ne 8, 3) := by decide +kernel
theorem dJxe99ae_doubleToLongBits_ccdee_7 : decode cJxe99ae_doubleToLongBits_ccdee 7 = .ok (.dload_n 0, 1) := by decide +kernel
theorem dJxe99ae_doubleToLongBits_ccdee_8 : decode cJxe99ae_doubleToLongBits_ccdee 8 = .ok (.invokestatic 134, 3) := by decide +kernel
theorem dJxe99ae_doubleToLongBits_ccdee_11 : decode cJxe99ae_doubleToLongBits_ccdee 11 = .ok (.lreturn, 1) := by decide +kernel
theorem dJxe99ae_doubleToLongBits_ccdee_12 : decode cJxe99ae_doubleToLongBits_ccdee 12 = .ok (.ldc2_w 137, 3) := by decide +kernel
theorem dJxe99ae_doubleToLongBits_ccdee_15 : decode cJxe99ae_doubleToLongBits_ccdee 15 = .ok (.lreturn, 1) := by decide +kernel
theorem dJ9_max_7cf53_0 : decode cJ9_max_7cf53 0 = .ok (.iload_n 0, 1) := by decide +kernel
theorem dJ9_max_7cf53_1 : decode cJ9_max_7cf53 1 = .ok (.iload_n 1, 1) := by decide +kernel
theorem dJ9_max_7cf53_2 : decode cJ9_max_7cf53 2 = .ok (.if_icmp .lt 7, 3) := by decide +kernel
theorem dJ9_max_7cf53_5 : decode cJ9_max_7cf53 5 = .ok (.iload_n 0, 1) := by decide +kernel
theorem dJ9_max_7cf53_6 : decode cJ9_max_7cf53 6 = .ok (.goto 4, 3) := by decide +kernel
theorem dJ9_max_7cf53_9 : decode cJ9_max_7cf53 9 = .ok (.iload_n 1, 1) := by decide +kernel
theorem dJ9_max_7cf53_10 : decode cJ9_max_7cf53 10 = .ok (.ireturn, 1) := by decide +kernel
set_option maxRecDepth 20000 in
theorem ggL_opening_X1_opening : GoodIn wsL_opening wsX1_opening := goodIn_ca (goodIn_ca (goodIn_r _ [7, 8, 9, 10, 11, 12, 13, 6, 14, 15, 16, 17, 18, 19, 20, 21, 22, 23, 24, 25, 26, 27, 28, 29, 30, 31, 32, 33, 34, 35] (by decide +kernel) (by decide +kernel)) (goodIn_sub (fun _ h => List.mem_cons_of_mem _ (List.mem_append_left _ (List.mem_append_right _ h))) (by decide +kernel))) (goodIn_sub (fun _ h => List.mem_cons_of_mem _ (List.mem_append_right _ h)) (by decide +kernel))
set_option maxRecDepth 20000 in
theorem gL_opening_X1_opening : GoodIn wsL_opening (wsV RL 7 RX1 yX1_opening wsX1_opening) := goodIn_app (goodIn_of _ (by decide +kernel)) ggL_opening_X1_opening
theorem dL_opening_0 : decode cL_opening 0 = .ok (.aload_n 3, 1) := by decide +kernel
theorem dL_opening_1 : decode cL_opening 1 = .ok (.iconst 0, 1) := by decide +kernel
theorem dL_opening_2 : decode cL_opening 2 = .ok (.aload_n 0, 1) := by decide +kernel
theorem dL_opening_3 : decode cL_opening 3 = .ok (.iload_n 1, 1) := by decide +kernel
theorem dL_opening_4 : decode cL_opening 4 = .ok (.iload_n 2, 1) := by decide +kernel
theorem dL_opening_5 : decode cL_opening 5 = .ok (.invokevirtual 7, 3) := by decide +kernel
theorem dL_opening_8 : decode cL_opening 8 = .ok (.i2l, 1) := by decide +kernel
theorem dL_opening_9 : decode cL_opening 9 = .ok (.lastore, 1) := by decide +kernel
theorem dL_opening_10 : decode cL_opening 10 = .ok (.goto 11, 3) := by decide +kernel
theorem dL_opening_13 : decode cL_opening 13 = .ok (.astore 4, 2) := by decide +kernel
theorem dL_opening_15 : decode cL_opening 15 = .ok (.iconst 1, 1) := by decide +kernel
theorem dL_opening_16 : decode cL_opening 16 = .ok (.ireturn, 1) := by decide +kernel
theorem dL_opening_17 : decode cL_opening 17 = .ok (.astore 4, 2) := by decide +kernel
theorem dL_opening_19 : decode cL_opening 19 = .ok (.iconst 2, 1) := by decide +kernel
theorem dL_opening_20 : decode cL_opening 20 = .ok (.ireturn, 1) := by decide +kernel
theorem dL_opening_21 : decode cL_opening 21 = .ok (.iconst 0, 1) := by decide +kernel
theorem dL_opening_22 : decode cL_opening 22 = .ok (.ireturn, 1) := by decide +kernel
set_option maxRecDepth 20000 in
theorem ggL_set_X1_set : GoodIn wsL_set wsX1_set := goodIn_ca (goodIn_ca (goodIn_r _ [7, 8, 9, 10, 11, 12, 13, 14, 15, 6, 16, 17, 18, 19, 20, 21, 22, 23, 24, 25, 26, 27, 28, 29, 30, 31, 32, 33, 34, 35, 36, 37] (by decide +kernel) (by decide +kernel)) (goodIn_sub (fun _ h => List.mem_cons_of_mem _ (List.mem_append_left _ (List.mem_append_right _ h))) (by decide +kernel))) (goodIn_sub (fun _ h => List.mem_cons_of_mem _ (List.mem_append_right _ h)) (by decide +kernel))
set_option maxRecDepth 20000 in
theorem gL_set_X1_set : GoodIn wsL_set (wsV RL 17 RX1 yX1_set wsX1_set) := goodIn_app (goodIn_of _ (by decide +kernel)) ggL_set_X1_set
theorem dL_set_0 : decode cL_set 0 = .ok (.aload_n 3, 1) := by decide +kernel
theorem dL_set_1 : decode cL_set 1 = .ok (.iconst 0, 1) := by decide +kernel
theorem dL_set_2 : decode cL_set 2 = .ok (.aload_n 0, 1) := by decide +kernel
theorem dL_set_3 : decode cL_set 3 = .ok (.iload_n 1, 1) := by decide +kernel
theorem dL_set_4 : decode cL_set 4 = .ok (.iload_n 2, 1) := by decide +kernel
theorem dL_set_5 : decode cL_set 5 = .ok (.invokevirtual 17, 3) := by decide +kernel
theorem dL_set_8 : decode cL_set 8 = .ok (.i2l, 1) := by decide +kernel
theorem dL_set_9 : decode cL_set 9 = .ok (.lastore, 1) := by decide +kernel
theorem dL_set_10 : decode cL_set 10 = .ok (.goto 11, 3) := by decide +kernel
theorem dL_set_13 : decode cL_set 13 = .ok (.astore 4, 2) := by decide +kernel
theorem dL_set_15 : decode cL_set 15 = .ok (.iconst 1, 1) := by decide +kernel
theorem dL_set_16 : decode cL_set 16 = .ok (.ireturn, 1) := by decide +kernel
theorem dL_set_17 : decode cL_set 17 = .ok (.astore 4, 2) := by decide +kernel
theorem dL_set_19 : decode cL_set 19 = .ok (.iconst 2, 1) := by decide +kernel
theorem dL_set_20 : decode cL_set 20 = .ok (.ireturn, 1) := by decide +kernel
theorem dL_set_21 : decode cL_set 21 = .ok (.iconst 0, 1) := by decide +kernel
theorem dL_set_22 : decode cL_set 22 = .ok (.ireturn, 1) := by decide +kernel
set_option maxRecDepth 20000 in
theorem ggL_wind_X1_wind : GoodIn wsL_wind wsX1_wind := goodIn_ca (goodIn_ca (goodIn_ca (goodIn_r _ [8, 9, 10, 11, 12, 13, 14, 15, 16, 7, 17, 18, 19, 20, 21, 22, 23, 24, 25, 26, 27, 28, 29, 30, 31, 32, 33, 34, 35, 36, 37, 38, 39, 40, 41, 42, 43, 44, 45, 46, 47, 48, 49, 50, 51, 52] (by decide +kernel) (by decide +kernel)) (goodIn_sub (fun _ h => List.mem_cons_of_mem _ (List.mem_append_left _ (List.mem_append_left _ (List.mem_append_right _ h)))) (by decide +kernel))) (goodIn_sub (fun _ h => List.mem_cons_of_mem _ (List.mem_append_left _ (List.mem_append_right _ h))) (by decide +kernel))) (goodIn_sub (fun _ h => List.mem_cons_of_mem _ (List.mem_append_right _ h)) (by decide +kernel))
set_option maxRecDepth 20000 in
theorem gL_wind_X1_wind : GoodIn wsL_wind (wsV RL 20 RX1 yX1_wind wsX1_wind) := goodIn_app (goodIn_of _ (by decide +kernel)) ggL_wind_X1_wind
theorem dL_wind_0 : decode cL_wind 0 = .ok (.aload_n 3, 1) := by decide +kernel
theorem dL_wind_1 : decode cL_wind 1 = .ok (.iconst 0, 1) := by decide +kernel
theorem dL_wind_2 : decode cL_wind 2 = .ok (.aload_n 0, 1) := by decide +kernel
theorem dL_wind_3 : decode cL_wind 3 = .ok (.iload_n 1, 1) := by decide +kernel
theorem dL_wind_4 : decode cL_wind 4 = .ok (.iload_n 2, 1) := by decide +kernel
theorem dL_wind_5 : decode cL_wind 5 = .ok (.invokevirtual 20, 3) := by decide +kernel
theorem dL_wind_8 : decode cL_wind 8 = .ok (.i2l, 1) := by decide +kernel
theorem dL_wind_9 : decode cL_wind 9 = .ok (.lastore, 1) := by decide +kernel
theorem dL_wind_10 : decode cL_wind 10 = .ok (.goto 15, 3) := by decide +kernel
theorem dL_wind_13 : decode cL_wind 13 = .ok (.astore 4, 2) := by decide +kernel
theorem dL_wind_15 : decode cL_wind 15 = .ok (.iconst 1, 1) := by decide +kernel
theorem dL_wind_16 : decode cL_wind 16 = .ok (.ireturn, 1) := by decide +kernel
theorem dL_wind_17 : decode cL_wind 17 = .ok (.astore 4, 2) := by decide +kernel
theorem dL_wind_19 : decode cL_wind 19 = .ok (.iconst 2, 1) := by decide +kernel
theorem dL_wind_20 : decode cL_wind 20 = .ok (.ireturn, 1) := by decide +kernel
theorem dL_wind_21 : decode cL_wind 21 = .ok (.astore 4, 2) := by decide +kernel
theorem dL_wind_23 : decode cL_wind 23 = .ok (.iconst 3, 1) := by decide +kernel
theorem dL_wind_24 : decode cL_wind 24 = .ok (.ireturn, 1) := by decide +kernel
theorem dL_wind_25 : decode cL_wind 25 = .ok (.iconst 0, 1) := by decide +kernel
theorem dL_wind_26 : decode cL_wind 26 = .ok (.ireturn, 1) := by decide +kernel
set_option maxRecDepth 20000 in
theorem ggL_fault_X1_fault : GoodIn wsL_fault wsX1_fault := goodIn_ca (goodIn_r _ [6, 7, 8, 9, 10, 5, 11, 12, 13, 14, 15, 16, 17, 18, 19, 20, 21, 22, 23, 24, 25, 26, 27, 28, 29, 30, 31, 32, 33, 34, 35] (by decide +kernel) (by decide +kernel)) (goodIn_sub (fun _ h => List.mem_cons_of_mem _ (List.mem_append_right _ h)) (by decide +kernel))
set_option maxRecDepth 20000 in
theorem gL_fault_X1_fault : GoodIn wsL_fault (wsV RL 25 RX1 yX1_fault wsX1_fault) := goodIn_app (goodIn_of _ (by decide +kernel)) ggL_fault_X1_fault
theorem dL_fault_0 : decode cL_fault 0 = .ok (.aload_n 3, 1) := by decide +kernel
theorem dL_fault_1 : decode cL_fault 1 = .ok (.iconst 0, 1) := by decide +kernel
theorem dL_fault_2 : decode cL_fault 2 = .ok (.aload_n 0, 1) := by decide +kernel
theorem dL_fault_3 : decode cL_fault 3 = .ok (.iload_n 1, 1) := by decide +kernel
theorem dL_fault_4 : decode cL_fault 4 = .ok (.iload_n 2, 1) := by decide +kernel
theorem dL_fault_5 : decode cL_fault 5 = .ok (.invokevirtual 25, 3) := by decide +kernel
theorem dL_fault_8 : decode cL_fault 8 = .ok (.i2l, 1) := by decide +kernel
theorem dL_fault_9 : decode cL_fault 9 = .ok (.lastore, 1) := by decide +kernel
theorem dL_fault_10 : decode cL_fault 10 = .ok (.goto 7, 3) := by decide +kernel
theorem dL_fault_13 : decode cL_fault 13 = .ok (.astore 4, 2) := by decide +kernel
theorem dL_fault_15 : decode cL_fault 15 = .ok (.iconst 1, 1) := by decide +kernel
theorem dL_fault_16 : decode cL_fault 16 = .ok (.ireturn, 1) := by decide +kernel
theorem dL_fault_17 : decode cL_fault 17 = .ok (.iconst 0, 1) := by decide +kernel
theorem dL_fault_18 : decode cL_fault 18 = .ok (.ireturn, 1) := by decide +kernel
set_option maxRecDepth 20000 in
theorem ggL_loss_X1_loss : GoodIn wsL_loss wsX1_loss := goodIn_ca (goodIn_ca (goodIn_r _ [7, 8, 9, 10, 11, 12, 13, 6, 14, 15, 16, 17, 18, 19, 20, 21, 22, 23, 24, 25, 26, 27, 28, 29, 30, 31, 32, 33, 34, 35, 36, 37, 38] (by decide +kernel) (by decide +kernel)) (goodIn_sub (fun _ h => List.mem_cons_of_mem _ (List.mem_append_left _ (List.mem_append_right _ h))) (by decide +kernel))) (goodIn_sub (fun _ h => List.mem_cons_of_mem _ (List.mem_append_right _ h)) (by decide +kernel))
set_option maxRecDepth 20000 in
theorem gL_loss_X1_loss : GoodIn wsL_loss (wsV RL 29 RX1 yX1_loss wsX1_loss) := goodIn_app (goodIn_of _ (by decide +kernel)) ggL_loss_X1_loss
theorem dL_loss_0 : decode cL_loss 0 = .ok (.aload_n 3, 1) := by decide +kernel
theorem dL_loss_1 : decode cL_loss 1 = .ok (.iconst 0, 1) := by decide +kernel
theorem dL_loss_2 : decode cL_loss 2 = .ok (.aload_n 0, 1) := by decide +kernel
theorem dL_loss_3 : decode cL_loss 3 = .ok (.iload_n 1, 1) := by decide +kernel
theorem dL_loss_4 : decode cL_loss 4 = .ok (.iload_n 2, 1) := by decide +kernel
theorem dL_loss_5 : decode cL_loss 5 = .ok (.invokevirtual 29, 3) := by decide +kernel
theorem dL_loss_8 : decode cL_loss 8 = .ok (.i2l, 1) := by decide +kernel
theorem dL_loss_9 : decode cL_loss 9 = .ok (.lastore, 1) := by decide +kernel
theorem dL_loss_10 : decode cL_loss 10 = .ok (.goto 11, 3) := by decide +kernel
theorem dL_loss_13 : decode cL_loss 13 = .ok (.astore 4, 2) := by decide +kernel
theorem dL_loss_15 : decode cL_loss 15 = .ok (.iconst 1, 1) := by decide +kernel
theorem dL_loss_16 : decode cL_loss 16 = .ok (.ireturn, 1) := by decide +kernel
theorem dL_loss_17 : decode cL_loss 17 = .ok (.astore 4, 2) := by decide +kernel
theorem dL_loss_19 : decode cL_loss 19 = .ok (.iconst 2, 1) := by decide +kernel
theorem dL_loss_20 : decode cL_loss 20 = .ok (.ireturn, 1) := by decide +kernel
theorem dL_loss_21 : decode cL_loss 21 = .ok (.iconst 0, 1) := by decide +kernel
theorem dL_loss_22 : decode cL_loss 22 = .ok (.ireturn, 1) := by decide +kernel
set_option maxRecDepth 20000 in
theorem ggL_service_X1_service : GoodIn wsL_service wsX1_service := goodIn_ca (goodIn_ca (goodIn_r _ [7, 8, 9, 10, 11, 12, 13, 14, 6, 15, 16, 17, 18, 19, 20, 21, 22, 23, 24, 25, 26, 27, 28, 29, 30, 31, 32, 33, 34, 35, 36, 37, 38, 39, 40, 41, 42] (by decide +kernel) (by decide +kernel)) (goodIn_sub (fun _ h => List.mem_cons_of_mem _ (List.mem_append_left _ (List.mem_append_right _ h))) (by decide +kernel))) (goodIn_sub (fun _ h => List.mem_cons_of_mem _ (List.mem_append_right _ h)) (by decide +kernel))
set_option maxRecDepth 20000 in
theorem gL_service_X1_service : GoodIn wsL_service (wsV RL 32 RX1 yX1_service wsX1_service) := goodIn_app (goodIn_of _ (by decide +kernel)) ggL_service_X1_service
theorem dL_service_0 : decode cL_service 0 = .ok (.aload_n 2, 1) := by decide +kernel
theorem dL_service_1 : decode cL_service 1 = .ok (.iconst 0, 1) := by decide +kernel
theorem dL_service_2 : decode cL_service 2 = .ok (.aload_n 0, 1) := by decide +kernel
theorem dL_service_3 : decode cL_service 3 = .ok (.iload_n 1, 1) := by decide +kernel
theorem dL_service_4 : decode cL_service 4 = .ok (.invokevirtual 32, 3) := by decide +kernel
theorem dL_service_7 : decode cL_service 7 = .ok (.i2l, 1) := by decide +kernel
theorem dL_service_8 : decode cL_service 8 = .ok (.lastore, 1) := by decide +kernel
theorem dL_service_9 : decode cL_service 9 = .ok (.goto 9, 3) := by decide +kernel
theorem dL_service_12 : decode cL_service 12 = .ok (.astore_n 3, 1) := by decide +kernel
theorem dL_service_13 : decode cL_service 13 = .ok (.iconst 1, 1) := by decide +kernel
theorem dL_service_14 : decode cL_service 14 = .ok (.ireturn, 1) := by decide +kernel
theorem dL_service_15 : decode cL_service 15 = .ok (.astore_n 3, 1) := by decide +kernel
theorem dL_service_16 : decode cL_service 16 = .ok (.iconst 2, 1) := by decide +kernel
theorem dL_service_17 : decode cL_service 17 = .ok (.ireturn, 1) := by decide +kernel
theorem dL_service_18 : decode cL_service 18 = .ok (.iconst 0, 1) := by decide +kernel
theorem dL_service_19 : decode cL_service 19 = .ok (.ireturn, 1) := by decide +kernel
set_option maxRecDepth 20000 in
theorem ggL_lock_X1_lock : GoodIn wsL_lock wsX1_lock := goodIn_ca (goodIn_r _ [6, 7, 8, 9, 10, 11, 12, 5, 13, 14, 15, 16, 17, 18, 19, 20, 21, 22, 23, 24, 25, 26, 27, 28, 29, 30, 31, 32, 33, 34, 35, 36, 37, 38, 39, 40, 41, 42, 43, 44, 45, 46, 47, 48, 49, 50, 51, 52] (by decide +kernel) (by decide +kernel)) (goodIn_sub (fun _ h => List.mem_cons_of_mem _ (List.mem_append_right _ h)) (by decide +kernel))
set_option maxRecDepth 20000 in
theorem gL_lock_X1_lock : GoodIn wsL_lock (wsV RL 36 RX1 yX1_lock wsX1_lock) := goodIn_app (goodIn_of _ (by decide +kernel)) ggL_lock_X1_lock
theorem dL_lock_0 : decode cL_lock 0 = .ok (.aload_n 1, 1) := by decide +kernel
theorem dL_lock_1 : decode cL_lock 1 = .ok (.iconst 0, 1) := by decide +kernel
theorem dL_lock_2 : decode cL_lock 2 = .ok (.aload_n 0, 1) := by decide +kernel
theorem dL_lock_3 : decode cL_lock 3 = .ok (.invokevirtual 36, 3) := by decide +kernel
theorem dL_lock_6 : decode cL_lock 6 = .ok (.i2l, 1) := by decide +kernel
theorem dL_lock_7 : decode cL_lock 7 = .ok (.lastore, 1) := by decide +kernel
theorem dL_lock_8 : decode cL_lock 8 = .ok (.goto 6, 3) := by decide +kernel
theorem dL_lock_11 : decode cL_lock 11 = .ok (.astore_n 2, 1) := by decide +kernel
theorem dL_lock_12 : decode cL_lock 12 = .ok (.iconst 1, 1) := by decide +kernel
theorem dL_lock_13 : decode cL_lock 13 = .ok (.ireturn, 1) := by decide +kernel
theorem dL_lock_14 : decode cL_lock 14 = .ok (.iconst 0, 1) := by decide +kernel
theorem dL_lock_15 : decode cL_lock 15 = .ok (.ireturn, 1) := by decide +kernel
set_option maxRecDepth 20000 in
theorem ggL_open_X1_open : GoodIn wsL_open wsX1_open := goodIn_ca (goodIn_r _ [6, 7, 8, 9, 10, 11, 5, 12, 13, 14, 15, 16, 17, 18, 19, 20, 21, 22, 23, 24, 25, 26, 27, 28, 29, 30, 31, 32, 33, 34, 35, 36, 37, 38, 39, 40, 41, 42, 43, 44, 45, 46, 47, 48, 49, 50, 51, 52, 53, 54, 55, 56, 57, 58, 59, 60, 61, 62, 63, 64, 65, 66, 67, 68] (by decide +kernel) (by decide +kernel)) (goodIn_sub (fun _ h => List.mem_cons_of_mem _ (List.mem_append_right _ h)) (by decide +kernel))
set_option maxRecDepth 20000 in
theorem gL_open_X1_open : GoodIn wsL_open (wsV RL 40 RX1 yX1_open wsX1_open) := goodIn_app (goodIn_of _ (by decide +kernel)) ggL_open_X1_open
theorem dL_open_0 : decode cL_open 0 = .ok (.aload_n 1, 1) := by decide +kernel
theorem dL_open_1 : decode cL_open 1 = .ok (.iconst 0, 1) := by decide +kernel
theorem dL_open_2 : decode cL_open 2 = .ok (.aload_n 0, 1) := by decide +kernel
theorem dL_open_3 : decode cL_open 3 = .ok (.invokevirtual 40, 3) := by decide +kernel
theorem dL_open_6 : decode cL_open 6 = .ok (.i2l, 1) := by decide +kernel
theorem dL_open_7 : decode cL_open 7 = .ok (.lastore, 1) := by decide +kernel
theorem dL_open_8 : decode cL_open 8 = .ok (.goto 6, 3) := by decide +kernel
theorem dL_open_11 : decode cL_open 11 = .ok (.astore_n 2, 1) := by decide +kernel
theorem dL_open_12 : decode cL_open 12 = .ok (.iconst 1, 1) := by decide +kernel
theorem dL_open_13 : decode cL_open 13 = .ok (.ireturn, 1) := by decide +kernel
theorem dL_open_14 : decode cL_open 14 = .ok (.iconst 0, 1) := by decide +kernel
theorem dL_open_15 : decode cL_open 15 = .ok (.ireturn, 1) := by decide +kernel
set_option maxRecDepth 20000 in
theorem ggL_drill_X1_drill : GoodIn wsL_drill wsX1_drill := goodIn_ca (goodIn_r _ [6, 7, 8, 9, 10, 11, 12, 5, 13, 14, 15, 16, 17, 18, 19, 20, 21, 22, 23, 24, 25, 26, 27, 28, 29, 30, 31, 32, 33, 34, 35, 36] (by decide +kernel) (by decide +kernel)) (goodIn_sub (fun _ h => List.mem_cons_of_mem _ (List.mem_append_right _ h)) (by decide +kernel))
set_option maxRecDepth 20000 in
theorem gL_drill_X1_drill : GoodIn wsL_drill (wsV RL 43 RX1 yX1_drill wsX1_drill) := goodIn_app (goodIn_of _ (by decide +kernel)) ggL_drill_X1_drill
theorem dL_drill_0 : decode cL_drill 0 = .ok (.aload_n 1, 1) := by decide +kernel
theorem dL_drill_1 : decode cL_drill 1 = .ok (.iconst 0, 1) := by decide +kernel
theorem dL_drill_2 : decode cL_drill 2 = .ok (.aload_n 0, 1) := by decide +kernel
theorem dL_drill_3 : decode cL_drill 3 = .ok (.invokevirtual 43, 3) := by decide +kernel
theorem dL_drill_6 : decode cL_drill 6 = .ok (.i2l, 1) := by decide +kernel
theorem dL_drill_7 : decode cL_drill 7 = .ok (.lastore, 1) := by decide +kernel
theorem dL_drill_8 : decode cL_drill 8 = .ok (.goto 6, 3) := by decide +kernel
theorem dL_drill_11 : decode cL_drill 11 = .ok (.astore_n 2, 1) := by decide +kernel
theorem dL_drill_12 : decode cL_drill 12 = .ok (.iconst 1, 1) := by decide +kernel
