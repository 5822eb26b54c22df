theorem dX0_init_0 : decode cX0_init 0 = .ok (.aload_n 0, 1) := by decide +kernel
theorem dX0_init_1 : decode cX0_init 1 = .ok (.invokespecial 3, 3) := by decide +kernel
theorem dX0_init_4 : decode cX0_init 4 = .ok (.aload_n 0, 1) := by decide +kernel
theorem dX0_init_5 : decode cX0_init 5 = .ok (.iconst 3, 1) := by decide +kernel
theorem dX0_init_6 : decode cX0_init 6 = .ok (.newarray .int, 2) := by decide +kernel
theorem dX0_init_8 : decode cX0_init 8 = .ok (.putfield 9, 3) := by decide +kernel
theorem dX0_init_11 : decode cX0_init 11 = .ok (.aload_n 0, 1) := by decide +kernel
theorem dX0_init_12 : decode cX0_init 12 = .ok (.iconst 3, 1) := by decide +kernel
theorem dX0_init_13 : decode cX0_init 13 = .ok (.newarray .int, 2) := by decide +kernel
theorem dX0_init_15 : decode cX0_init 15 = .ok (.putfield 15, 3) := by decide +kernel
theorem dX0_init_18 : decode cX0_init 18 = .ok (.aload_n 0, 1) := by decide +kernel
theorem dX0_init_19 : decode cX0_init 19 = .ok (.iconst 3, 1) := by decide +kernel
theorem dX0_init_20 : decode cX0_init 20 = .ok (.newarray .int, 2) := by decide +kernel
theorem dX0_init_22 : decode cX0_init 22 = .ok (.putfield 18, 3) := by decide +kernel
theorem dX0_init_25 : decode cX0_init 25 = .ok (.aload_n 0, 1) := by decide +kernel
theorem dX0_init_26 : decode cX0_init 26 = .ok (.iconst 0, 1) := by decide +kernel
theorem dX0_init_27 : decode cX0_init 27 = .ok (.putfield 21, 3) := by decide +kernel
theorem dX0_init_30 : decode cX0_init 30 = .ok (.return_, 1) := by decide +kernel
set_option maxRecDepth 20000 in
theorem ggX1_init_X0_init : GoodIn wsX1_init wsX0_init := goodIn_r _ [16, 17, 2, 3, 4, 18, 19, 20, 21, 28, 29, 30, 31] (by decide +kernel) (by decide +kernel)
set_option maxRecDepth 20000 in
theorem gX1_init_X0_init_n28 : GoodIn wsX1_init (wsX0_init) := ggX1_init_X0_init
theorem dX1_init_0 : decode cX1_init 0 = .ok (.aload_n 0, 1) := by decide +kernel
theorem dX1_init_1 : decode cX1_init 1 = .ok (.invokespecial 3, 3) := by decide +kernel
theorem dX1_init_4 : decode cX1_init 4 = .ok (.aload_n 0, 1) := by decide +kernel
theorem dX1_init_5 : decode cX1_init 5 = .ok (.bipush 33, 2) := by decide +kernel
theorem dX1_init_7 : decode cX1_init 7 = .ok (.newarray .int, 2) := by decide +kernel
theorem dX1_init_9 : decode cX1_init 9 = .ok (.putfield 9, 3) := by decide +kernel
theorem dX1_init_12 : decode cX1_init 12 = .ok (.aload_n 0, 1) := by decide +kernel
theorem dX1_init_13 : decode cX1_init 13 = .ok (.sipush 198, 3) := by decide +kernel
theorem dX1_init_16 : decode cX1_init 16 = .ok (.newarray .int, 2) := by decide +kernel
theorem dX1_init_18 : decode cX1_init 18 = .ok (.putfield 13, 3) := by decide +kernel
theorem dX1_init_21 : decode cX1_init 21 = .ok (.aload_n 0, 1) := by decide +kernel
theorem dX1_init_22 : decode cX1_init 22 = .ok (.iconst 0, 1) := by decide +kernel
theorem dX1_init_23 : decode cX1_init 23 = .ok (.putfield 16, 3) := by decide +kernel
theorem dX1_init_26 : decode cX1_init 26 = .ok (.aload_n 0, 1) := by decide +kernel
theorem dX1_init_27 : decode cX1_init 27 = .ok (.bipush 60, 2) := by decide +kernel
theorem dX1_init_29 : decode cX1_init 29 = .ok (.newarray .int, 2) := by decide +kernel
theorem dX1_init_31 : decode cX1_init 31 = .ok (.putfield 20, 3) := by decide +kernel
theorem dX1_init_34 : decode cX1_init 34 = .ok (.aload_n 0, 1) := by decide +kernel
theorem dX1_init_35 : decode cX1_init 35 = .ok (.iconst 0, 1) := by decide +kernel
theorem dX1_init_36 : decode cX1_init 36 = .ok (.putfield 23, 3) := by decide +kernel
theorem dX1_init_39 : decode cX1_init 39 = .ok (.aload_n 0, 1) := by decide +kernel
theorem dX1_init_40 : decode cX1_init 40 = .ok (.new 26, 3) := by decide +kernel
theorem dX1_init_43 : decode cX1_init 43 = .ok (.dup, 1) := by decide +kernel
theorem dX1_init_44 : decode cX1_init 44 = .ok (.invokespecial 28, 3) := by decide +kernel
theorem dX1_init_47 : decode cX1_init 47 = .ok (.putfield 29, 3) := by decide +kernel
theorem dX1_init_50 : decode cX1_init 50 = .ok (.aload_n 0, 1) := by decide +kernel
theorem dX1_init_51 : decode cX1_init 51 = .ok (.getfield 9, 3) := by decide +kernel
theorem dX1_init_54 : decode cX1_init 54 = .ok (.iconst 2, 1) := by decide +kernel
theorem dX1_init_55 : decode cX1_init 55 = .ok (.iconst (-1), 1) := by decide +kernel
theorem dX1_init_56 : decode cX1_init 56 = .ok (.iastore, 1) := by decide +kernel
theorem dX1_init_57 : decode cX1_init 57 = .ok (.iconst 0, 1) := by decide +kernel
theorem dX1_init_58 : decode cX1_init 58 = .ok (.istore_n 1, 1) := by decide +kernel
theorem dX1_init_59 : decode cX1_init 59 = .ok (.iload_n 1, 1) := by decide +kernel
theorem dX1_init_60 : decode cX1_init 60 = .ok (.iconst 3, 1) := by decide +kernel
theorem dX1_init_61 : decode cX1_init 61 = .ok (.if_icmp .ge 23, 3) := by decide +kernel
theorem dX1_init_64 : decode cX1_init 64 = .ok (.aload_n 0, 1) := by decide +kernel
theorem dX1_init_65 : decode cX1_init 65 = .ok (.getfield 9, 3) := by decide +kernel
theorem dX1_init_68 : decode cX1_init 68 = .ok (.bipush 11, 2) := by decide +kernel
theorem dX1_init_70 : decode cX1_init 70 = .ok (.iload_n 1, 1) := by decide +kernel
theorem dX1_init_71 : decode cX1_init 71 = .ok (.iadd, 1) := by decide +kernel
theorem dX1_init_72 : decode cX1_init 72 = .ok (.getstatic 33, 3) := by decide +kernel
theorem dX1_init_75 : decode cX1_init 75 = .ok (.iload_n 1, 1) := by decide +kernel
theorem dX1_init_76 : decode cX1_init 76 = .ok (.iaload, 1) := by decide +kernel
theorem dX1_init_77 : decode cX1_init 77 = .ok (.iastore, 1) := by decide +kernel
theorem dX1_init_78 : decode cX1_init 78 = .ok (.iinc 1 1, 3) := by decide +kernel
theorem dX1_init_81 : decode cX1_init 81 = .ok (.goto (-22), 3) := by decide +kernel
theorem dX1_init_84 : decode cX1_init 84 = .ok (.iconst 0, 1) := by decide +kernel
theorem dX1_init_85 : decode cX1_init 85 = .ok (.istore_n 1, 1) := by decide +kernel
theorem dX1_init_86 : decode cX1_init 86 = .ok (.iload_n 1, 1) := by decide +kernel
theorem dX1_init_87 : decode cX1_init 87 = .ok (.bipush 7, 2) := by decide +kernel
theorem dX1_init_89 : decode cX1_init 89 = .ok (.if_icmp .ge 29, 3) := by decide +kernel
theorem dX1_init_92 : decode cX1_init 92 = .ok (.aload_n 0, 1) := by decide +kernel
theorem dX1_init_93 : decode cX1_init 93 = .ok (.getfield 9, 3) := by decide +kernel
theorem dX1_init_96 : decode cX1_init 96 = .ok (.bipush 14, 2) := by decide +kernel
theorem dX1_init_98 : decode cX1_init 98 = .ok (.iload_n 1, 1) := by decide +kernel
theorem dX1_init_99 : decode cX1_init 99 = .ok (.iadd, 1) := by decide +kernel
theorem dX1_init_100 : decode cX1_init 100 = .ok (.iload_n 1, 1) := by decide +kernel
theorem dX1_init_101 : decode cX1_init 101 = .ok (.iconst 5, 1) := by decide +kernel
theorem dX1_init_102 : decode cX1_init 102 = .ok (.if_icmp .ge 8, 3) := by decide +kernel
theorem dX1_init_105 : decode cX1_init 105 = .ok (.bipush 8, 2) := by decide +kernel
theorem dX1_init_107 : decode cX1_init 107 = .ok (.goto 4, 3) := by decide +kernel
theorem dX1_init_110 : decode cX1_init 110 = .ok (.iconst (-1), 1) := by decide +kernel
theorem dX1_init_111 : decode cX1_init 111 = .ok (.iastore, 1) := by decide +kernel
theorem dX1_init_112 : decode cX1_init 112 = .ok (.iinc 1 1, 3) := by decide +kernel
theorem dX1_init_115 : decode cX1_init 115 = .ok (.goto (-29), 3) := by decide +kernel
theorem dX1_init_118 : decode cX1_init 118 = .ok (.iconst 0, 1) := by decide +kernel
theorem dX1_init_119 : decode cX1_init 119 = .ok (.istore_n 1, 1) := by decide +kernel
theorem dX1_init_120 : decode cX1_init 120 = .ok (.iload_n 1, 1) := by decide +kernel
theorem dX1_init_121 : decode cX1_init 121 = .ok (.iconst 3, 1) := by decide +kernel
theorem dX1_init_122 : decode cX1_init 122 = .ok (.if_icmp .ge 23, 3) := by decide +kernel
theorem dX1_init_125 : decode cX1_init 125 = .ok (.aload_n 0, 1) := by decide +kernel
theorem dX1_init_126 : decode cX1_init 126 = .ok (.getfield 9, 3) := by decide +kernel
theorem dX1_init_129 : decode cX1_init 129 = .ok (.bipush 21, 2) := by decide +kernel
theorem dX1_init_131 : decode cX1_init 131 = .ok (.iload_n 1, 1) := by decide +kernel
theorem dX1_init_132 : decode cX1_init 132 = .ok (.iconst 4, 1) := by decide +kernel
theorem dX1_init_133 : decode cX1_init 133 = .ok (.imul, 1) := by decide +kernel
theorem dX1_init_134 : decode cX1_init 134 = .ok (.iadd, 1) := by decide +kernel
theorem dX1_init_135 : decode cX1_init 135 = .ok (.iconst 1, 1) := by decide +kernel
theorem dX1_init_136 : decode cX1_init 136 = .ok (.iadd, 1) := by decide +kernel
theorem dX1_init_137 : decode cX1_init 137 = .ok (.iconst 1, 1) := by decide +kernel
theorem dX1_init_138 : decode cX1_init 138 = .ok (.iastore, 1) := by decide +kernel
theorem dX1_init_139 : decode cX1_init 139 = .ok (.iinc 1 1, 3) := by decide +kernel
theorem dX1_init_142 : decode cX1_init 142 = .ok (.goto (-22), 3) := by decide +kernel
theorem dX1_init_145 : decode cX1_init 145 = .ok (.return_, 1) := by decide +kernel
set_option maxRecDepth 20000 in
theorem ggX1_opening_X1_isDay : GoodIn wsX1_opening wsX1_isDay := goodIn_r _ [8] (by decide +kernel) (by decide +kernel)
set_option maxRecDepth 20000 in
theorem gX1_opening_X1_isDay : GoodIn wsX1_opening (va_wsS RX1 36 yX1_isDay wsX1_isDay) := goodIn_app (goodIn_of _ (by decide +kernel)) ggX1_opening_X1_isDay
set_option maxRecDepth 20000 in
theorem ggX1_opening_X1_change : GoodIn wsX1_opening wsX1_change := goodIn_r _ [12, 13, 14, 15, 16, 7, 17, 18, 19, 20, 21, 22, 23, 24, 25, 26, 27, 28, 29] (by decide +kernel) (by decide +kernel)
set_option maxRecDepth 20000 in
theorem gX1_opening_X1_change : GoodIn wsX1_opening (wsV RX1 52 RX1 yX1_change wsX1_change) := goodIn_app (goodIn_of _ (by decide +kernel)) ggX1_opening_X1_change
theorem dX1_opening_0 : decode cX1_opening 0 = .ok (.iload_n 1, 1) := by decide +kernel
theorem dX1_opening_1 : decode cX1_opening 1 = .ok (.invokestatic 36, 3) := by decide +kernel
theorem dX1_opening_4 : decode cX1_opening 4 = .ok (.ifCond .ne 13, 3) := by decide +kernel
theorem dX1_opening_7 : decode cX1_opening 7 = .ok (.new 40, 3) := by decide +kernel
theorem dX1_opening_10 : decode cX1_opening 10 = .ok (.dup, 1) := by decide +kernel
theorem dX1_opening_11 : decode cX1_opening 11 = .ok (.ldc 42, 2) := by decide +kernel
theorem dX1_opening_13 : decode cX1_opening 13 = .ok (.invokespecial 44, 3) := by decide +kernel
theorem dX1_opening_16 : decode cX1_opening 16 = .ok (.athrow, 1) := by decide +kernel
theorem dX1_opening_17 : decode cX1_opening 17 = .ok (.iload_n 2, 1) := by decide +kernel
theorem dX1_opening_18 : decode cX1_opening 18 = .ok (.iconst (-1), 1) := by decide +kernel
theorem dX1_opening_19 : decode cX1_opening 19 = .ok (.if_icmp .eq 23, 3) := by decide +kernel
theorem dX1_opening_22 : decode cX1_opening 22 = .ok (.iload_n 2, 1) := by decide +kernel
theorem dX1_opening_23 : decode cX1_opening 23 = .ok (.ifCond .lt 9, 3) := by decide +kernel
theorem dX1_opening_26 : decode cX1_opening 26 = .ok (.iload_n 2, 1) := by decide +kernel
theorem dX1_opening_27 : decode cX1_opening 27 = .ok (.bipush 24, 2) := by decide +kernel
theorem dX1_opening_29 : decode cX1_opening 29 = .ok (.if_icmp .lt 13, 3) := by decide +kernel
theorem dX1_opening_32 : decode cX1_opening 32 = .ok (.new 47, 3) := by decide +kernel
theorem dX1_opening_35 : decode cX1_opening 35 = .ok (.dup, 1) := by decide +kernel
theorem dX1_opening_36 : decode cX1_opening 36 = .ok (.ldc 49, 2) := by decide +kernel
theorem dX1_opening_38 : decode cX1_opening 38 = .ok (.invokespecial 51, 3) := by decide +kernel
theorem dX1_opening_41 : decode cX1_opening 41 = .ok (.athrow, 1) := by decide +kernel
theorem dX1_opening_42 : decode cX1_opening 42 = .ok (.aload_n 0, 1) := by decide +kernel
theorem dX1_opening_43 : decode cX1_opening 43 = .ok (.bipush 14, 2) := by decide +kernel
theorem dX1_opening_45 : decode cX1_opening 45 = .ok (.iload_n 1, 1) := by decide +kernel
theorem dX1_opening_46 : decode cX1_opening 46 = .ok (.iadd, 1) := by decide +kernel
theorem dX1_opening_47 : decode cX1_opening 47 = .ok (.iload_n 2, 1) := by decide +kernel
theorem dX1_opening_48 : decode cX1_opening 48 = .ok (.invokevirtual 52, 3) := by decide +kernel
theorem dX1_opening_51 : decode cX1_opening 51 = .ok (.ireturn, 1) := by decide +kernel
set_option maxRecDepth 20000 in
theorem ggX1_set_X1_isSetting : GoodIn wsX1_set wsX1_isSetting := goodIn_r _ [10] (by decide +kernel) (by decide +kernel)
set_option maxRecDepth 20000 in
theorem gX1_set_X1_isSetting : GoodIn wsX1_set (va_wsS RX1 56 yX1_isSetting wsX1_isSetting) := goodIn_app (goodIn_of _ (by decide +kernel)) ggX1_set_X1_isSetting
set_option maxRecDepth 20000 in
theorem ggX1_set_X1_change : GoodIn wsX1_set wsX1_change := goodIn_r _ [14, 15, 16, 17, 18, 9, 19, 20, 21, 22, 23, 24, 25, 26, 27, 28, 29, 30, 31] (by decide +kernel) (by decide +kernel)
set_option maxRecDepth 20000 in
theorem gX1_set_X1_change : GoodIn wsX1_set (wsV RX1 52 RX1 yX1_change wsX1_change) := goodIn_app (goodIn_of _ (by decide +kernel)) ggX1_set_X1_change
theorem dX1_set_0 : decode cX1_set 0 = .ok (.iload_n 1, 1) := by decide +kernel
theorem dX1_set_1 : decode cX1_set 1 = .ok (.invokestatic 56, 3) := by decide +kernel
theorem dX1_set_4 : decode cX1_set 4 = .ok (.ifCond .ne 13, 3) := by decide +kernel
theorem dX1_set_7 : decode cX1_set 7 = .ok (.new 40, 3) := by decide +kernel
theorem dX1_set_10 : decode cX1_set 10 = .ok (.dup, 1) := by decide +kernel
theorem dX1_set_11 : decode cX1_set 11 = .ok (.ldc 59, 2) := by decide +kernel
theorem dX1_set_13 : decode cX1_set 13 = .ok (.invokespecial 44, 3) := by decide +kernel
theorem dX1_set_16 : decode cX1_set 16 = .ok (.athrow, 1) := by decide +kernel
theorem dX1_set_17 : decode cX1_set 17 = .ok (.iload_n 2, 1) := by decide +kernel
theorem dX1_set_18 : decode cX1_set 18 = .ok (.getstatic 61, 3) := by decide +kernel
theorem dX1_set_21 : decode cX1_set 21 = .ok (.iload_n 1, 1) := by decide +kernel
theorem dX1_set_22 : decode cX1_set 22 = .ok (.iaload, 1) := by decide +kernel
theorem dX1_set_23 : decode cX1_set 23 = .ok (.if_icmp .lt 12, 3) := by decide +kernel
theorem dX1_set_26 : decode cX1_set 26 = .ok (.iload_n 2, 1) := by decide +kernel
theorem dX1_set_27 : decode cX1_set 27 = .ok (.getstatic 64, 3) := by decide +kernel
theorem dX1_set_30 : decode cX1_set 30 = .ok (.iload_n 1, 1) := by decide +kernel
theorem dX1_set_31 : decode cX1_set 31 = .ok (.iaload, 1) := by decide +kernel
theorem dX1_set_32 : decode cX1_set 32 = .ok (.if_icmp .le 13, 3) := by decide +kernel
theorem dX1_set_35 : decode cX1_set 35 = .ok (.new 47, 3) := by decide +kernel
theorem dX1_set_38 : decode cX1_set 38 = .ok (.dup, 1) := by decide +kernel
theorem dX1_set_39 : decode cX1_set 39 = .ok (.ldc 67, 2) := by decide +kernel
theorem dX1_set_41 : decode cX1_set 41 = .ok (.invokespecial 51, 3) := by decide +kernel
theorem dX1_set_44 : decode cX1_set 44 = .ok (.athrow, 1) := by decide +kernel
theorem dX1_set_45 : decode cX1_set 45 = .ok (.aload_n 0, 1) := by decide +kernel
theorem dX1_set_46 : decode cX1_set 46 = .ok (.bipush 11, 2) := by decide +kernel
theorem dX1_set_48 : decode cX1_set 48 = .ok (.iload_n 1, 1) := by decide +kernel
theorem dX1_set_49 : decode cX1_set 49 = .ok (.iadd, 1) := by decide +kernel
theorem dX1_set_50 : decode cX1_set 50 = .ok (.iload_n 2, 1) := by decide +kernel
theorem dX1_set_51 : decode cX1_set 51 = .ok (.invokevirtual 52, 3) := by decide +kernel
theorem dX1_set_54 : decode cX1_set 54 = .ok (.ireturn, 1) := by decide +kernel
set_option maxRecDepth 20000 in
theorem ggX1_wind_X1_isMovement : GoodIn wsX1_wind wsX1_isMovement := goodIn_r _ [10] (by decide +kernel) (by decide +kernel)
set_option maxRecDepth 20000 in
theorem gX1_wind_X1_isMovement : GoodIn wsX1_wind (va_wsS RX1 69 yX1_isMovement wsX1_isMovement) := goodIn_app (goodIn_of _ (by decide +kernel)) ggX1_wind_X1_isMovement
set_option maxRecDepth 20000 in
theorem ggX1_wind_X1_areWindingHours : GoodIn wsX1_wind wsX1_areWindingHours := goodIn_r _ [13] (by decide +kernel) (by decide +kernel)
set_option maxRecDepth 20000 in
theorem gX1_wind_X1_areWindingHours : GoodIn wsX1_wind (va_wsS RX1 74 yX1_areWindingHours wsX1_areWindingHours) := goodIn_app (goodIn_of _ (by decide +kernel)) ggX1_wind_X1_areWindingHours
set_option maxRecDepth 20000 in
theorem ggX1_wind_X1_isLocked : GoodIn wsX1_wind wsX1_isLocked := goodIn_r _ [17, 18, 40, 41, 42, 43, 44, 45] (by decide +kernel) (by decide +kernel)
set_option maxRecDepth 20000 in
theorem gX1_wind_X1_isLocked : GoodIn wsX1_wind (wsV RX1 79 RX1 yX1_isLocked wsX1_isLocked) := goodIn_app (goodIn_of _ (by decide +kernel)) ggX1_wind_X1_isLocked
set_option maxRecDepth 20000 in
theorem ggX1_wind_X1_goes : GoodIn wsX1_wind wsX1_goes := goodIn_r _ [22, 18, 23, 24, 9, 25, 40, 41, 42, 43, 44, 45] (by decide +kernel) (by decide +kernel)
set_option maxRecDepth 20000 in
theorem gX1_wind_X1_goes : GoodIn wsX1_wind (wsV RX1 83 RX1 yX1_goes wsX1_goes) := goodIn_app (goodIn_of _ (by decide +kernel)) ggX1_wind_X1_goes
set_option maxRecDepth 20000 in
theorem ggX1_wind_X1_place : GoodIn wsX1_wind wsX1_place := goodIn_r _ [25] (by decide +kernel) (by decide +kernel)
set_option maxRecDepth 20000 in
theorem gX1_wind_X1_place : GoodIn wsX1_wind (va_wsS RX1 91 yX1_place wsX1_place) := goodIn_app (goodIn_of _ (by decide +kernel)) ggX1_wind_X1_place
set_option maxRecDepth 20000 in
theorem ggX1_wind_X1_change : GoodIn wsX1_wind wsX1_change := goodIn_r _ [29, 18, 30, 31, 32, 9, 33, 34, 35, 36, 37, 38, 39, 40, 41, 42, 43, 44, 45] (by decide +kernel) (by decide +kernel)
set_option maxRecDepth 20000 in
theorem gX1_wind_X1_change : GoodIn wsX1_wind (wsV RX1 52 RX1 yX1_change wsX1_change) := goodIn_app (goodIn_of _ (by decide +kernel)) ggX1_wind_X1_change
theorem dX1_wind_0 : decode cX1_wind 0 = .ok (.iload_n 1, 1) := by decide +kernel
theorem dX1_wind_1 : decode cX1_wind 1 = .ok (.invokestatic 69, 3) := by decide +kernel
theorem dX1_wind_4 : decode cX1_wind 4 = .ok (.ifCond .ne 13, 3) := by decide +kernel
theorem dX1_wind_7 : decode cX1_wind 7 = .ok (.new 40, 3) := by decide +kernel
theorem dX1_wind_10 : decode cX1_wind 10 = .ok (.dup, 1) := by decide +kernel
theorem dX1_wind_11 : decode cX1_wind 11 = .ok (.ldc 72, 2) := by decide +kernel
theorem dX1_wind_13 : decode cX1_wind 13 = .ok (.invokespecial 44, 3) := by decide +kernel
theorem dX1_wind_16 : decode cX1_wind 16 = .ok (.athrow, 1) := by decide +kernel
theorem dX1_wind_17 : decode cX1_wind 17 = .ok (.iload_n 2, 1) := by decide +kernel
theorem dX1_wind_18 : decode cX1_wind 18 = .ok (.invokestatic 74, 3) := by decide +kernel
theorem dX1_wind_21 : decode cX1_wind 21 = .ok (.ifCond .ne 13, 3) := by decide +kernel
theorem dX1_wind_24 : decode cX1_wind 24 = .ok (.new 47, 3) := by decide +kernel
theorem dX1_wind_27 : decode cX1_wind 27 = .ok (.dup, 1) := by decide +kernel
theorem dX1_wind_28 : decode cX1_wind 28 = .ok (.ldc 77, 2) := by decide +kernel
theorem dX1_wind_30 : decode cX1_wind 30 = .ok (.invokespecial 51, 3) := by decide +kernel
theorem dX1_wind_33 : decode cX1_wind 33 = .ok (.athrow, 1) := by decide +kernel
theorem dX1_wind_34 : decode cX1_wind 34 = .ok (.aload_n 0, 1) := by decide +kernel
theorem dX1_wind_35 : decode cX1_wind 35 = .ok (.invokevirtual 79, 3) := by decide +kernel
theorem dX1_wind_38 : decode cX1_wind 38 = .ok (.ifCond .ne 11, 3) := by decide +kernel
theorem dX1_wind_41 : decode cX1_wind 41 = .ok (.aload_n 0, 1) := by decide +kernel
theorem dX1_wind_42 : decode cX1_wind 42 = .ok (.iload_n 1, 1) := by decide +kernel
theorem dX1_wind_43 : decode cX1_wind 43 = .ok (.invokevirtual 83, 3) := by decide +kernel
theorem dX1_wind_46 : decode cX1_wind 46 = .ok (.ifCond .ne 13, 3) := by decide +kernel
theorem dX1_wind_49 : decode cX1_wind 49 = .ok (.new 86, 3) := by decide +kernel
theorem dX1_wind_52 : decode cX1_wind 52 = .ok (.dup, 1) := by decide +kernel
theorem dX1_wind_53 : decode cX1_wind 53 = .ok (.ldc 88, 2) := by decide +kernel
theorem dX1_wind_55 : decode cX1_wind 55 = .ok (.invokespecial 90, 3) := by decide +kernel
theorem dX1_wind_58 : decode cX1_wind 58 = .ok (.athrow, 1) := by decide +kernel
theorem dX1_wind_59 : decode cX1_wind 59 = .ok (.aload_n 0, 1) := by decide +kernel
theorem dX1_wind_60 : decode cX1_wind 60 = .ok (.iload_n 1, 1) := by decide +kernel
theorem dX1_wind_61 : decode cX1_wind 61 = .ok (.iconst 0, 1) := by decide +kernel
theorem dX1_wind_62 : decode cX1_wind 62 = .ok (.invokestatic 91, 3) := by decide +kernel
theorem dX1_wind_65 : decode cX1_wind 65 = .ok (.iload_n 2, 1) := by decide +kernel
theorem dX1_wind_66 : decode cX1_wind 66 = .ok (.invokevirtual 52, 3) := by decide +kernel
theorem dX1_wind_69 : decode cX1_wind 69 = .ok (.ireturn, 1) := by decide +kernel
set_option maxRecDepth 20000 in
theorem ggX1_fault_X1_isMovement : GoodIn wsX1_fault wsX1_isMovement := goodIn_r _ [6] (by decide +kernel) (by decide +kernel)
set_option maxRecDepth 20000 in
theorem gX1_fault_X1_isMovement : GoodIn wsX1_fault (va_wsS RX1 69 yX1_isMovement wsX1_isMovement) := goodIn_app (goodIn_of _ (by decide +kernel)) ggX1_fault_X1_isMovement
set_option maxRecDepth 20000 in
theorem ggX1_fault_X1_place : GoodIn wsX1_fault wsX1_place := goodIn_r _ [9] (by decide +kernel) (by decide +kernel)
set_option maxRecDepth 20000 in
theorem gX1_fault_X1_place : GoodIn wsX1_fault (va_wsS RX1 91 yX1_place wsX1_place) := goodIn_app (goodIn_of _ (by decide +kernel)) ggX1_fault_X1_place
set_option maxRecDepth 20000 in
theorem ggX1_fault_X1_change : GoodIn wsX1_fault wsX1_change := goodIn_r _ [13, 14, 15, 16, 17, 5, 18, 19, 20, 21, 22, 23, 24, 25, 26, 27, 28, 29, 30] (by decide +kernel) (by decide +kernel)
set_option maxRecDepth 20000 in
theorem gX1_fault_X1_change : GoodIn wsX1_fault (wsV RX1 52 RX1 yX1_change wsX1_change) := goodIn_app (goodIn_of _ (by decide +kernel)) ggX1_fault_X1_change
theorem dX1_fault_0 : decode cX1_fault 0 = .ok (.iload_n 1, 1) := by decide +kernel
theorem dX1_fault_1 : decode cX1_fault 1 = .ok (.invokestatic 69, 3) := by decide +kernel
theorem dX1_fault_4 : decode cX1_fault 4 = .ok (.ifCond .ne 13, 3) := by decide +kernel
theorem dX1_fault_7 : decode cX1_fault 7 = .ok (.new 40, 3) := by decide +kernel
theorem dX1_fault_10 : decode cX1_fault 10 = .ok (.dup, 1) := by decide +kernel
theorem dX1_fault_11 : decode cX1_fault 11 = .ok (.ldc 72, 2) := by decide +kernel
theorem dX1_fault_13 : decode cX1_fault 13 = .ok (.invokespecial 44, 3) := by decide +kernel
theorem dX1_fault_16 : decode cX1_fault 16 = .ok (.athrow, 1) := by decide +kernel
theorem dX1_fault_17 : decode cX1_fault 17 = .ok (.aload_n 0, 1) := by decide +kernel
theorem dX1_fault_18 : decode cX1_fault 18 = .ok (.iload_n 1, 1) := by decide +kernel
theorem dX1_fault_19 : decode cX1_fault 19 = .ok (.iconst 1, 1) := by decide +kernel
theorem dX1_fault_20 : decode cX1_fault 20 = .ok (.invokestatic 91, 3) := by decide +kernel
theorem dX1_fault_23 : decode cX1_fault 23 = .ok (.iload_n 2, 1) := by decide +kernel
theorem dX1_fault_24 : decode cX1_fault 24 = .ok (.ifCond .eq 7, 3) := by decide +kernel
theorem dX1_fault_27 : decode cX1_fault 27 = .ok (.iconst 1, 1) := by decide +kernel
theorem dX1_fault_28 : decode cX1_fault 28 = .ok (.goto 4, 3) := by decide +kernel
theorem dX1_fault_31 : decode cX1_fault 31 = .ok (.iconst 0, 1) := by decide +kernel
theorem dX1_fault_32 : decode cX1_fault 32 = .ok (.invokevirtual 52, 3) := by decide +kernel
theorem dX1_fault_35 : decode cX1_fault 35 = .ok (.ireturn, 1) := by decide +kernel
set_option maxRecDepth 20000 in
theorem ggX1_loss_X1_isMovement : GoodIn wsX1_loss wsX1_isMovement := goodIn_r _ [8] (by decide +kernel) (by decide +kernel)
set_option maxRecDepth 20000 in
theorem gX1_loss_X1_isMovement : GoodIn wsX1_loss (va_wsS RX1 69 yX1_isMovement wsX1_isMovement) := goodIn_app (goodIn_of _ (by decide +kernel)) ggX1_loss_X1_isMovement
set_option maxRecDepth 20000 in
theorem ggX1_loss_X1_place : GoodIn wsX1_loss wsX1_place := goodIn_r _ [11] (by decide +kernel) (by decide +kernel)
set_option maxRecDepth 20000 in
theorem gX1_loss_X1_place : GoodIn wsX1_loss (va_wsS RX1 91 yX1_place wsX1_place) := goodIn_app (goodIn_of _ (by decide +kernel)) ggX1_loss_X1_place
set_option maxRecDepth 20000 in
theorem ggX1_loss_X1_change : GoodIn wsX1_loss wsX1_change := goodIn_r _ [15, 16, 17, 18, 19, 7, 20, 21, 22, 23, 24, 25, 26, 27, 28, 29, 30, 31, 32] (by decide +kernel) (by decide +kernel)
set_option maxRecDepth 20000 in
theorem gX1_loss_X1_change : GoodIn wsX1_loss (wsV RX1 52 RX1 yX1_change wsX1_change) := goodIn_app (goodIn_of _ (by decide +kernel)) ggX1_loss_X1_change
theorem dX1_loss_0 : decode cX1_loss 0 = .ok (.iload_n 1, 1) := by decide +kernel
theorem dX1_loss_1 : decode cX1_loss 1 = .ok (.invokestatic 69, 3) := by decide +kernel
theorem dX1_loss_4 : decode cX1_loss 4 = .ok (.ifCond .ne 13, 3) := by decide +kernel
theorem dX1_loss_7 : decode cX1_loss 7 = .ok (.new 40, 3) := by decide +kernel
theorem dX1_loss_10 : decode cX1_loss 10 = .ok (.dup, 1) := by decide +kernel
theorem dX1_loss_11 : decode cX1_loss 11 = .ok (.ldc 72, 2) := by decide +kernel
theorem dX1_loss_13 : decode cX1_loss 13 = .ok (.invokespecial 44, 3) := by decide +kernel
theorem dX1_loss_16 : decode cX1_loss 16 = .ok (.athrow, 1) := by decide +kernel
theorem dX1_loss_17 : decode cX1_loss 17 = .ok (.iload_n 2, 1) := by decide +kernel
theorem dX1_loss_18 : decode cX1_loss 18 = .ok (.ifCond .lt 9, 3) := by decide +kernel
theorem dX1_loss_21 : decode cX1_loss 21 = .ok (.iload_n 2, 1) := by decide +kernel
theorem dX1_loss_22 : decode cX1_loss 22 = .ok (.bipush 20, 2) := by decide +kernel
theorem dX1_loss_24 : decode cX1_loss 24 = .ok (.if_icmp .le 13, 3) := by decide +kernel
theorem dX1_loss_27 : decode cX1_loss 27 = .ok (.new 47, 3) := by decide +kernel
theorem dX1_loss_30 : decode cX1_loss 30 = .ok (.dup, 1) := by decide +kernel
theorem dX1_loss_31 : decode cX1_loss 31 = .ok (.ldc 94, 2) := by decide +kernel
theorem dX1_loss_33 : decode cX1_loss 33 = .ok (.invokespecial 51, 3) := by decide +kernel
theorem dX1_loss_36 : decode cX1_loss 36 = .ok (.athrow, 1) := by decide +kernel
theorem dX1_loss_37 : decode cX1_loss 37 = .ok (.aload_n 0, 1) := by decide +kernel
theorem dX1_loss_38 : decode cX1_loss 38 = .ok (.iload_n 1, 1) := by decide +kernel
theorem dX1_loss_39 : decode cX1_loss 39 = .ok (.iconst 2, 1) := by decide +kernel
theorem dX1_loss_40 : decode cX1_loss 40 = .ok (.invokestatic 91, 3) := by decide +kernel
theorem dX1_loss_43 : decode cX1_loss 43 = .ok (.iload_n 2, 1) := by decide +kernel
theorem dX1_loss_44 : decode cX1_loss 44 = .ok (.invokevirtual 52, 3) := by decide +kernel
theorem dX1_loss_47 : decode cX1_loss 47 = .ok (.ireturn, 1) := by decide +kernel
set_option maxRecDepth 20000 in
theorem ggX1_service_X1_isMovement : GoodIn wsX1_service wsX1_isMovement := goodIn_r _ [9] (by decide +kernel) (by decide +kernel)
set_option maxRecDepth 20000 in
theorem gX1_service_X1_isMovement : GoodIn wsX1_service (va_wsS RX1 69 yX1_isMovement wsX1_isMovement) := goodIn_app (goodIn_of _ (by decide +kernel)) ggX1_service_X1_isMovement
set_option maxRecDepth 20000 in
theorem ggX1_service_X1_isLocked : GoodIn wsX1_service wsX1_isLocked := goodIn_r _ [13, 5, 31, 32, 33, 34, 35, 36] (by decide +kernel) (by decide +kernel)
set_option maxRecDepth 20000 in
theorem gX1_service_X1_isLocked : GoodIn wsX1_service (wsV RX1 79 RX1 yX1_isLocked wsX1_isLocked) := goodIn_app (goodIn_of _ (by decide +kernel)) ggX1_service_X1_isLocked
set_option maxRecDepth 20000 in
theorem ggX1_service_X1_place : GoodIn wsX1_service wsX1_place := goodIn_r _ [16] (by decide +kernel) (by decide +kernel)
set_option maxRecDepth 20000 in
theorem gX1_service_X1_place : GoodIn wsX1_service (va_wsS RX1 91 yX1_place wsX1_place) := goodIn_app (goodIn_of _ (by decide +kernel)) ggX1_service_X1_place
set_option maxRecDepth 20000 in
theorem ggX1_service_X1_change : GoodIn wsX1_service wsX1_change := goodIn_r _ [20, 5, 21, 22, 23, 8, 24, 25, 26, 27, 28, 29, 30, 31, 32, 33, 34, 35, 36] (by decide +kernel) (by decide +kernel)
set_option maxRecDepth 20000 in
theorem gX1_service_X1_change : GoodIn wsX1_service (wsV RX1 52 RX1 yX1_change wsX1_change) := goodIn_app (goodIn_of _ (by decide +kernel)) ggX1_service_X1_change
theorem dX1_service_0 : decode cX1_service 0 = .ok (.iload_n 1, 1) := by decide +kernel
theorem dX1_service_1 : decode cX1_service 1 = .ok (.invokestatic 69, 3) := by decide +kernel
theorem dX1_service_4 : decode cX1_service 4 = .ok (.ifCond .ne 13, 3) := by decide +kernel
theorem dX1_service_7 : decode cX1_service 7 = .ok (.new 40, 3) := by decide +kernel
theorem dX1_service_10 : decode cX1_service 10 = .ok (.dup, 1) := by decide +kernel
theorem dX1_service_11 : decode cX1_service 11 = .ok (.ldc 72, 2) := by decide +kernel
theorem dX1_service_13 : decode cX1_service 13 = .ok (.invokespecial 44, 3) := by decide +kernel
theorem dX1_service_16 : decode cX1_service 16 = .ok (.athrow, 1) := by decide +kernel
theorem dX1_service_17 : decode cX1_service 17 = .ok (.aload_n 0, 1) := by decide +kernel
theorem dX1_service_18 : decode cX1_service 18 = .ok (.invokevirtual 79, 3) := by decide +kernel
theorem dX1_service_21 : decode cX1_service 21 = .ok (.ifCond .eq 13, 3) := by decide +kernel
theorem dX1_service_24 : decode cX1_service 24 = .ok (.new 86, 3) := by decide +kernel
theorem dX1_service_27 : decode cX1_service 27 = .ok (.dup, 1) := by decide +kernel
theorem dX1_service_28 : decode cX1_service 28 = .ok (.ldc 96, 2) := by decide +kernel
theorem dX1_service_30 : decode cX1_service 30 = .ok (.invokespecial 90, 3) := by decide +kernel
theorem dX1_service_33 : decode cX1_service 33 = .ok (.athrow, 1) := by decide +kernel
theorem dX1_service_34 : decode cX1_service 34 = .ok (.aload_n 0, 1) := by decide +kernel
theorem dX1_service_35 : decode cX1_service 35 = .ok (.iload_n 1, 1) := by decide +kernel
theorem dX1_service_36 : decode cX1_service 36 = .ok (.iconst 3, 1) := by decide +kernel
theorem dX1_service_37 : decode cX1_service 37 = .ok (.invokestatic 91, 3) := by decide +kernel
theorem dX1_service_40 : decode cX1_service 40 = .ok (.iconst 0, 1) := by decide +kernel
theorem dX1_service_41 : decode cX1_service 41 = .ok (.invokevirtual 52, 3) := by decide +kernel
theorem dX1_service_44 : decode cX1_service 44 = .ok (.istore_n 2, 1) := by decide +kernel
theorem dX1_service_45 : decode cX1_service 45 = .ok (.aload_n 0, 1) := by decide +kernel
theorem dX1_service_46 : decode cX1_service 46 = .ok (.getfield 9, 3) := by decide +kernel
theorem dX1_service_49 : decode cX1_service 49 = .ok (.iload_n 1, 1) := by decide +kernel
theorem dX1_service_50 : decode cX1_service 50 = .ok (.iconst 1, 1) := by decide +kernel
theorem dX1_service_51 : decode cX1_service 51 = .ok (.invokestatic 91, 3) := by decide +kernel
theorem dX1_service_54 : decode cX1_service 54 = .ok (.iconst 1, 1) := by decide +kernel
theorem dX1_service_55 : decode cX1_service 55 = .ok (.iastore, 1) := by decide +kernel
theorem dX1_service_56 : decode cX1_service 56 = .ok (.aload_n 0, 1) := by decide +kernel
theorem dX1_service_57 : decode cX1_service 57 = .ok (.getfield 9, 3) := by decide +kernel
theorem dX1_service_60 : decode cX1_service 60 = .ok (.iload_n 1, 1) := by decide +kernel
theorem dX1_service_61 : decode cX1_service 61 = .ok (.iconst 2, 1) := by decide +kernel
theorem dX1_service_62 : decode cX1_service 62 = .ok (.invokestatic 91, 3) := by decide +kernel
theorem dX1_service_65 : decode cX1_service 65 = .ok (.iconst 0, 1) := by decide +kernel
theorem dX1_service_66 : decode cX1_service 66 = .ok (.iastore, 1) := by decide +kernel
theorem dX1_service_67 : decode cX1_service 67 = .ok (.iload_n 2, 1) := by decide +kernel
theorem dX1_service_68 : decode cX1_service 68 = .ok (.ireturn, 1) := by decide +kernel
set_option maxRecDepth 20000 in
theorem ggX1_lock_X1_isLocked : GoodIn wsX1_lock wsX1_isLocked := goodIn_r _ [8, 3, 42, 43, 44, 45, 46, 47] (by decide +kernel) (by decide +kernel)
set_option maxRecDepth 20000 in
theorem gX1_lock_X1_isLocked : GoodIn wsX1_lock (wsV RX1 79 RX1 yX1_isLocked wsX1_isLocked) := goodIn_app (goodIn_of _ (by decide +kernel)) ggX1_lock_X1_isLocked
set_option maxRecDepth 20000 in
theorem ggX1_lock_X1_someMovementRuns : GoodIn wsX1_lock wsX1_someMovementRuns := goodIn_r _ [12, 3, 13, 14, 15, 7, 16, 17, 18, 19, 42, 43, 44, 45, 46, 47] (by decide +kernel) (by decide +kernel)
set_option maxRecDepth 20000 in
theorem gX1_lock_X1_someMovementRuns : GoodIn wsX1_lock (wsV RX1 98 RX1 yX1_someMovementRuns wsX1_someMovementRuns) := goodIn_app (goodIn_of _ (by decide +kernel)) ggX1_lock_X1_someMovementRuns
set_option maxRecDepth 20000 in
theorem ggX1_lock_X1_save : GoodIn wsX1_lock wsX1_save := goodIn_r _ [23, 24, 25, 26, 27, 28, 29, 3, 42, 43, 44, 45, 46, 47] (by decide +kernel) (by decide +kernel)
set_option maxRecDepth 20000 in
theorem gX1_lock_X1_save : GoodIn wsX1_lock (wsV RX1 103 RX1 yX1_save wsX1_save) := goodIn_app (goodIn_of _ (by decide +kernel)) ggX1_lock_X1_save
set_option maxRecDepth 20000 in
theorem ggX1_lock_X1_hoursToOpening : GoodIn wsX1_lock wsX1_hoursToOpening := goodIn_r _ [33, 3, 34, 35, 36, 7, 37, 38, 39, 40, 41, 42, 43, 44, 45, 46, 47] (by decide +kernel) (by decide +kernel)
set_option maxRecDepth 20000 in
theorem gX1_lock_X1_hoursToOpening : GoodIn wsX1_lock (wsV RX1 106 RX1 yX1_hoursToOpening wsX1_hoursToOpening) := goodIn_app (goodIn_of _ (by decide +kernel)) ggX1_lock_X1_hoursToOpening
theorem dX1_lock_0 : decode cX1_lock 0 = .ok (.aload_n 0, 1) := by decide +kernel
theorem dX1_lock_1 : decode cX1_lock 1 = .ok (.invokevirtual 79, 3) := by decide +kernel
theorem dX1_lock_4 : decode cX1_lock 4 = .ok (.ifCond .ne 10, 3) := by decide +kernel
theorem dX1_lock_7 : decode cX1_lock 7 = .ok (.aload_n 0, 1) := by decide +kernel
theorem dX1_lock_8 : decode cX1_lock 8 = .ok (.invokevirtual 98, 3) := by decide +kernel
theorem dX1_lock_11 : decode cX1_lock 11 = .ok (.ifCond .ne 13, 3) := by decide +kernel
theorem dX1_lock_14 : decode cX1_lock 14 = .ok (.new 86, 3) := by decide +kernel
theorem dX1_lock_17 : decode cX1_lock 17 = .ok (.dup, 1) := by decide +kernel
theorem dX1_lock_18 : decode cX1_lock 18 = .ok (.ldc 101, 2) := by decide +kernel
theorem dX1_lock_20 : decode cX1_lock 20 = .ok (.invokespecial 90, 3) := by decide +kernel
theorem dX1_lock_23 : decode cX1_lock 23 = .ok (.athrow, 1) := by decide +kernel
theorem dX1_lock_24 : decode cX1_lock 24 = .ok (.aload_n 0, 1) := by decide +kernel
theorem dX1_lock_25 : decode cX1_lock 25 = .ok (.invokevirtual 103, 3) := by decide +kernel
theorem dX1_lock_28 : decode cX1_lock 28 = .ok (.aload_n 0, 1) := by decide +kernel
theorem dX1_lock_29 : decode cX1_lock 29 = .ok (.invokevirtual 106, 3) := by decide +kernel
theorem dX1_lock_32 : decode cX1_lock 32 = .ok (.istore_n 1, 1) := by decide +kernel
theorem dX1_lock_33 : decode cX1_lock 33 = .ok (.aload_n 0, 1) := by decide +kernel
theorem dX1_lock_34 : decode cX1_lock 34 = .ok (.getfield 9, 3) := by decide +kernel
theorem dX1_lock_37 : decode cX1_lock 37 = .ok (.iconst 1, 1) := by decide +kernel
theorem dX1_lock_38 : decode cX1_lock 38 = .ok (.iconst 1, 1) := by decide +kernel
theorem dX1_lock_39 : decode cX1_lock 39 = .ok (.iastore, 1) := by decide +kernel
theorem dX1_lock_40 : decode cX1_lock 40 = .ok (.aload_n 0, 1) := by decide +kernel
theorem dX1_lock_41 : decode cX1_lock 41 = .ok (.getfield 9, 3) := by decide +kernel
theorem dX1_lock_44 : decode cX1_lock 44 = .ok (.iconst 2, 1) := by decide +kernel
theorem dX1_lock_45 : decode cX1_lock 45 = .ok (.iload_n 1, 1) := by decide +kernel
theorem dX1_lock_46 : decode cX1_lock 46 = .ok (.iconst (-1), 1) := by decide +kernel
theorem dX1_lock_47 : decode cX1_lock 47 = .ok (.if_icmp .ne 7, 3) := by decide +kernel
theorem dX1_lock_50 : decode cX1_lock 50 = .ok (.iconst (-1), 1) := by decide +kernel
theorem dX1_lock_51 : decode cX1_lock 51 = .ok (.goto 11, 3) := by decide +kernel
theorem dX1_lock_54 : decode cX1_lock 54 = .ok (.aload_n 0, 1) := by decide +kernel
theorem dX1_lock_55 : decode cX1_lock 55 = .ok (.getfield 9, 3) := by decide +kernel
theorem dX1_lock_58 : decode cX1_lock 58 = .ok (.iconst 0, 1) := by decide +kernel
theorem dX1_lock_59 : decode cX1_lock 59 = .ok (.iaload, 1) := by decide +kernel
theorem dX1_lock_60 : decode cX1_lock 60 = .ok (.iload_n 1, 1) := by decide +kernel
theorem dX1_lock_61 : decode cX1_lock 61 = .ok (.iadd, 1) := by decide +kernel
theorem dX1_lock_62 : decode cX1_lock 62 = .ok (.iastore, 1) := by decide +kernel
theorem dX1_lock_63 : decode cX1_lock 63 = .ok (.iload_n 1, 1) := by decide +kernel
theorem dX1_lock_64 : decode cX1_lock 64 = .ok (.ireturn, 1) := by decide +kernel
set_option maxRecDepth 20000 in
theorem ggX1_open_X1_isLocked : GoodIn wsX1_open wsX1_isLocked := goodIn_r _ [7, 8, 58, 59, 60, 61, 62, 63] (by decide +kernel) (by decide +kernel)
set_option maxRecDepth 20000 in
theorem gX1_open_X1_isLocked : GoodIn wsX1_open (wsV RX1 79 RX1 yX1_isLocked wsX1_isLocked) := goodIn_app (goodIn_of _ (by decide +kernel)) ggX1_open_X1_isLocked
set_option maxRecDepth 20000 in
theorem ggX1_open_X1_save : GoodIn wsX1_open wsX1_save := goodIn_r _ [12, 13, 14, 15, 16, 17, 18, 8, 58, 59, 60, 61, 62, 63] (by decide +kernel) (by decide +kernel)
set_option maxRecDepth 20000 in
theorem gX1_open_X1_save : GoodIn wsX1_open (wsV RX1 103 RX1 yX1_save wsX1_save) := goodIn_app (goodIn_of _ (by decide +kernel)) ggX1_open_X1_save
set_option maxRecDepth 20000 in
theorem ggX1_open_X1_hoursToOpen : GoodIn wsX1_open wsX1_hoursToOpen := goodIn_r _ [22, 23, 24, 25, 26, 3, 4, 5, 6, 7, 8, 27, 28, 29, 30, 31, 32, 33, 34, 35, 36, 37, 38, 39, 40, 41, 58, 59, 60, 61, 62, 63] (by decide +kernel) (by decide +kernel)
set_option maxRecDepth 20000 in
theorem gX1_open_X1_hoursToOpen : GoodIn wsX1_open (wsV RX1 112 RX1 yX1_hoursToOpen wsX1_hoursToOpen) := goodIn_app (goodIn_of _ (by decide +kernel)) ggX1_open_X1_hoursToOpen
set_option maxRecDepth 20000 in
theorem ggX1_open_X1_countEarlyTry : GoodIn wsX1_open wsX1_countEarlyTry := goodIn_r _ [45, 8, 58, 59, 60, 61, 62, 63] (by decide +kernel) (by decide +kernel)
set_option maxRecDepth 20000 in
theorem gX1_open_X1_countEarlyTry : GoodIn wsX1_open (wsV RX1 116 RX1 yX1_countEarlyTry wsX1_countEarlyTry) := goodIn_app (goodIn_of _ (by decide +kernel)) ggX1_open_X1_countEarlyTry
set_option maxRecDepth 20000 in
theorem ggX1_open_X1_latenessAfter : GoodIn wsX1_open wsX1_latenessAfter := goodIn_r _ [49, 8, 58, 59, 60, 61, 62, 63] (by decide +kernel) (by decide +kernel)
set_option maxRecDepth 20000 in
theorem gX1_open_X1_latenessAfter : GoodIn wsX1_open (wsV RX1 119 RX1 yX1_latenessAfter wsX1_latenessAfter) := goodIn_app (goodIn_of _ (by decide +kernel)) ggX1_open_X1_latenessAfter
set_option maxRecDepth 20000 in
theorem ggX1_open_X1_countOpening : GoodIn wsX1_open wsX1_countOpening := goodIn_r _ [53, 8, 58, 59, 60, 61, 62, 63] (by decide +kernel) (by decide +kernel)
set_option maxRecDepth 20000 in
theorem gX1_open_X1_countOpening : GoodIn wsX1_open (wsV RX1 122 RX1 yX1_countOpening wsX1_countOpening) := goodIn_app (goodIn_of _ (by decide +kernel)) ggX1_open_X1_countOpening
set_option maxRecDepth 20000 in
theorem ggX1_open_X1_leaveOpen : GoodIn wsX1_open wsX1_leaveOpen := goodIn_r _ [57, 8, 58, 59, 60, 61, 62, 63] (by decide +kernel) (by decide +kernel)
set_option maxRecDepth 20000 in
theorem gX1_open_X1_leaveOpen : GoodIn wsX1_open (wsV RX1 126 RX1 yX1_leaveOpen wsX1_leaveOpen) := goodIn_app (goodIn_of _ (by decide +kernel)) ggX1_open_X1_leaveOpen
theorem dX1_open_0 : decode cX1_open 0 = .ok (.aload_n 0, 1) := by decide +kernel
theorem dX1_open_1 : decode cX1_open 1 = .ok (.invokevirtual 79, 3) := by decide +kernel
theorem dX1_open_4 : decode cX1_open 4 = .ok (.ifCond .ne 13, 3) := by decide +kernel
theorem dX1_open_7 : decode cX1_open 7 = .ok (.new 86, 3) := by decide +kernel
theorem dX1_open_10 : decode cX1_open 10 = .ok (.dup, 1) := by decide +kernel
theorem dX1_open_11 : decode cX1_open 11 = .ok (.ldc 110, 2) := by decide +kernel
theorem dX1_open_13 : decode cX1_open 13 = .ok (.invokespecial 90, 3) := by decide +kernel
theorem dX1_open_16 : decode cX1_open 16 = .ok (.athrow, 1) := by decide +kernel
theorem dX1_open_17 : decode cX1_open 17 = .ok (.aload_n 0, 1) := by decide +kernel
theorem dX1_open_18 : decode cX1_open 18 = .ok (.invokevirtual 103, 3) := by decide +kernel
theorem dX1_open_21 : decode cX1_open 21 = .ok (.aload_n 0, 1) := by decide +kernel
theorem dX1_open_22 : decode cX1_open 22 = .ok (.iconst (-1), 1) := by decide +kernel
theorem dX1_open_23 : decode cX1_open 23 = .ok (.invokevirtual 112, 3) := by decide +kernel
theorem dX1_open_26 : decode cX1_open 26 = .ok (.ifCond .eq 9, 3) := by decide +kernel
theorem dX1_open_29 : decode cX1_open 29 = .ok (.aload_n 0, 1) := by decide +kernel
theorem dX1_open_30 : decode cX1_open 30 = .ok (.invokevirtual 116, 3) := by decide +kernel
theorem dX1_open_33 : decode cX1_open 33 = .ok (.iconst 0, 1) := by decide +kernel
theorem dX1_open_34 : decode cX1_open 34 = .ok (.ireturn, 1) := by decide +kernel
theorem dX1_open_35 : decode cX1_open 35 = .ok (.aload_n 0, 1) := by decide +kernel
theorem dX1_open_36 : decode cX1_open 36 = .ok (.aload_n 0, 1) := by decide +kernel
theorem dX1_open_37 : decode cX1_open 37 = .ok (.iconst 0, 1) := by decide +kernel
theorem dX1_open_38 : decode cX1_open 38 = .ok (.invokevirtual 119, 3) := by decide +kernel
theorem dX1_open_41 : decode cX1_open 41 = .ok (.invokevirtual 122, 3) := by decide +kernel
theorem dX1_open_44 : decode cX1_open 44 = .ok (.aload_n 0, 1) := by decide +kernel
theorem dX1_open_45 : decode cX1_open 45 = .ok (.invokevirtual 126, 3) := by decide +kernel
theorem dX1_open_48 : decode cX1_open 48 = .ok (.iconst 1, 1) := by decide +kernel
theorem dX1_open_49 : decode cX1_open 49 = .ok (.ireturn, 1) := by decide +kernel
set_option maxRecDepth 20000 in
theorem ggX1_drill_X1_isLocked : GoodIn wsX1_drill wsX1_isLocked := goodIn_r _ [8, 3, 26, 27, 28, 29, 30, 31] (by decide +kernel) (by decide +kernel)
set_option maxRecDepth 20000 in
theorem gX1_drill_X1_isLocked : GoodIn wsX1_drill (wsV RX1 79 RX1 yX1_isLocked wsX1_isLocked) := goodIn_app (goodIn_of _ (by decide +kernel)) ggX1_drill_X1_isLocked
set_option maxRecDepth 20000 in
theorem ggX1_drill_X1_save : GoodIn wsX1_drill wsX1_save := goodIn_r _ [12, 13, 14, 15, 16, 17, 18, 3, 26, 27, 28, 29, 30, 31] (by decide +kernel) (by decide +kernel)
set_option maxRecDepth 20000 in
theorem gX1_drill_X1_save : GoodIn wsX1_drill (wsV RX1 103 RX1 yX1_save wsX1_save) := goodIn_app (goodIn_of _ (by decide +kernel)) ggX1_drill_X1_save
set_option maxRecDepth 20000 in
theorem ggX1_drill_X1_place : GoodIn wsX1_drill wsX1_place := goodIn_r _ [21] (by decide +kernel) (by decide +kernel)
set_option maxRecDepth 20000 in
theorem gX1_drill_X1_place : GoodIn wsX1_drill (va_wsS RX1 91 yX1_place wsX1_place) := goodIn_app (goodIn_of _ (by decide +kernel)) ggX1_drill_X1_place
set_option maxRecDepth 20000 in
theorem ggX1_drill_X1_leaveOpen : GoodIn wsX1_drill wsX1_leaveOpen := goodIn_r _ [25, 3, 26, 27, 28, 29, 30, 31] (by decide +kernel) (by decide +kernel)
set_option maxRecDepth 20000 in
theorem gX1_drill_X1_leaveOpen : GoodIn wsX1_drill (wsV RX1 126 RX1 yX1_leaveOpen wsX1_leaveOpen) := goodIn_app (goodIn_of _ (by decide +kernel)) ggX1_drill_X1_leaveOpen
theorem dX1_drill_0 : decode cX1_drill 0 = .ok (.aload_n 0, 1) := by decide +kernel
theorem dX1_drill_1 : decode cX1_drill 1 = .ok (.invokevirtual 79, 3) := by decide +kernel
theorem dX1_drill_4 : decode cX1_drill 4 = .ok (.ifCond .ne 13, 3) := by decide +kernel
theorem dX1_drill_7 : decode cX1_drill 7 = .ok (.new 86, 3) := by decide +kernel
theorem dX1_drill_10 : decode cX1_drill 10 = .ok (.dup, 1) := by decide +kernel
theorem dX1_drill_11 : decode cX1_drill 11 = .ok (.ldc 110, 2) := by decide +kernel
theorem dX1_drill_13 : decode cX1_drill 13 = .ok (.invokespecial 90, 3) := by decide +kernel
theorem dX1_drill_16 : decode cX1_drill 16 = .ok (.athrow, 1) := by decide +kernel
theorem dX1_drill_17 : decode cX1_drill 17 = .ok (.aload_n 0, 1) := by decide +kernel
theorem dX1_drill_18 : decode cX1_drill 18 = .ok (.invokevirtual 103, 3) := by decide +kernel
theorem dX1_drill_21 : decode cX1_drill 21 = .ok (.iconst 0, 1) := by decide +kernel
theorem dX1_drill_22 : decode cX1_drill 22 = .ok (.istore_n 1, 1) := by decide +kernel
theorem dX1_drill_23 : decode cX1_drill 23 = .ok (.iload_n 1, 1) := by decide +kernel
theorem dX1_drill_24 : decode cX1_drill 24 = .ok (.iconst 3, 1) := by decide +kernel
theorem dX1_drill_25 : decode cX1_drill 25 = .ok (.if_icmp .ge 31, 3) := by decide +kernel
theorem dX1_drill_28 : decode cX1_drill 28 = .ok (.aload_n 0, 1) := by decide +kernel
theorem dX1_drill_29 : decode cX1_drill 29 = .ok (.getfield 9, 3) := by decide +kernel
theorem dX1_drill_32 : decode cX1_drill 32 = .ok (.iload_n 1, 1) := by decide +kernel
theorem dX1_drill_33 : decode cX1_drill 33 = .ok (.iconst 0, 1) := by decide +kernel
theorem dX1_drill_34 : decode cX1_drill 34 = .ok (.invokestatic 91, 3) := by decide +kernel
theorem dX1_drill_37 : decode cX1_drill 37 = .ok (.iconst 0, 1) := by decide +kernel
theorem dX1_drill_38 : decode cX1_drill 38 = .ok (.iastore, 1) := by decide +kernel
theorem dX1_drill_39 : decode cX1_drill 39 = .ok (.aload_n 0, 1) := by decide +kernel
theorem dX1_drill_40 : decode cX1_drill 40 = .ok (.getfield 9, 3) := by decide +kernel
theorem dX1_drill_43 : decode cX1_drill 43 = .ok (.iload_n 1, 1) := by decide +kernel
theorem dX1_drill_44 : decode cX1_drill 44 = .ok (.iconst 1, 1) := by decide +kernel
theorem dX1_drill_45 : decode cX1_drill 45 = .ok (.invokestatic 91, 3) := by decide +kernel
theorem dX1_drill_48 : decode cX1_drill 48 = .ok (.iconst 0, 1) := by decide +kernel
theorem dX1_drill_49 : decode cX1_drill 49 = .ok (.iastore, 1) := by decide +kernel
theorem dX1_drill_50 : decode cX1_drill 50 = .ok (.iinc 1 1, 3) := by decide +kernel
theorem dX1_drill_53 : decode cX1_drill 53 = .ok (.goto (-30), 3) := by decide +kernel
theorem dX1_drill_56 : decode cX1_drill 56 = .ok (.aload_n 0, 1) := by decide +kernel
theorem dX1_drill_57 : decode cX1_drill 57 = .ok (.invokevirtual 126, 3) := by decide +kernel
theorem dX1_drill_60 : decode cX1_drill 60 = .ok (.aload_n 0, 1) := by decide +kernel
theorem dX1_drill_61 : decode cX1_drill 61 = .ok (.getfield 9, 3) := by decide +kernel
theorem dX1_drill_64 : decode cX1_drill 64 = .ok (.bipush 10, 2) := by decide +kernel
theorem dX1_drill_66 : decode cX1_drill 66 = .ok (.dup2, 1) := by decide +kernel
theorem dX1_drill_67 : decode cX1_drill 67 = .ok (.iaload, 1) := by decide +kernel
theorem dX1_drill_68 : decode cX1_drill 68 = .ok (.iconst 1, 1) := by decide +kernel
theorem dX1_drill_69 : decode cX1_drill 69 = .ok (.iadd, 1) := by decide +kernel
theorem dX1_drill_70 : decode cX1_drill 70 = .ok (.iastore, 1) := by decide +kernel
theorem dX1_drill_71 : decode cX1_drill 71 = .ok (.aload_n 0, 1) := by decide +kernel
theorem dX1_drill_72 : decode cX1_drill 72 = .ok (.getfield 9, 3) := by decide +kernel
theorem dX1_drill_75 : decode cX1_drill 75 = .ok (.bipush 10, 2) := by decide +kernel
theorem dX1_drill_77 : decode cX1_drill 77 = .ok (.iaload, 1) := by decide +kernel
theorem dX1_drill_78 : decode cX1_drill 78 = .ok (.ireturn, 1) := by decide +kernel
set_option maxRecDepth 20000 in
theorem ggX1_pass_X1_save : GoodIn wsX1_pass wsX1_save := goodIn_r _ [11, 12, 13, 14, 15, 16, 17, 5, 44, 45, 46, 47, 48, 49] (by decide +kernel) (by decide +kernel)
set_option maxRecDepth 20000 in
theorem gX1_pass_X1_save : GoodIn wsX1_pass (wsV RX1 103 RX1 yX1_save wsX1_save) := goodIn_app (goodIn_of _ (by decide +kernel)) ggX1_pass_X1_save
set_option maxRecDepth 20000 in
theorem ggX1_pass_X1_passHour : GoodIn wsX1_pass wsX1_passHour := goodIn_r _ [21, 5, 22, 23, 24, 10, 25, 26, 27, 28, 29, 30, 31, 32, 33, 34, 35, 36, 37, 38, 39, 44, 45, 46, 47, 48, 49] (by decide +kernel) (by decide +kernel)
set_option maxRecDepth 20000 in
theorem gX1_pass_X1_passHour : GoodIn wsX1_pass (wsV RX1 132 RX1 yX1_passHour wsX1_passHour) := goodIn_app (goodIn_of _ (by decide +kernel)) ggX1_pass_X1_passHour
set_option maxRecDepth 20000 in
theorem ggX1_pass_X1_movementsRunDown : GoodIn wsX1_pass wsX1_movementsRunDown := goodIn_r _ [43, 5, 34, 35, 10, 36, 44, 45, 46, 47, 48, 49] (by decide +kernel) (by decide +kernel)
set_option maxRecDepth 20000 in
theorem gX1_pass_X1_movementsRunDown : GoodIn wsX1_pass (wsV RX1 135 RX1 yX1_movementsRunDown wsX1_movementsRunDown) := goodIn_app (goodIn_of _ (by decide +kernel)) ggX1_pass_X1_movementsRunDown
theorem dX1_pass_0 : decode cX1_pass 0 = .ok (.iload_n 1, 1) := by decide +kernel
theorem dX1_pass_1 : decode cX1_pass 1 = .ok (.iconst 1, 1) := by decide +kernel
theorem dX1_pass_2 : decode cX1_pass 2 = .ok (.if_icmp .lt 10, 3) := by decide +kernel
theorem dX1_pass_5 : decode cX1_pass 5 = .ok (.iload_n 1, 1) := by decide +kernel
theorem dX1_pass_6 : decode cX1_pass 6 = .ok (.sipush 200, 3) := by decide +kernel
theorem dX1_pass_9 : decode cX1_pass 9 = .ok (.if_icmp .le 13, 3) := by decide +kernel
theorem dX1_pass_12 : decode cX1_pass 12 = .ok (.new 47, 3) := by decide +kernel
theorem dX1_pass_15 : decode cX1_pass 15 = .ok (.dup, 1) := by decide +kernel
theorem dX1_pass_16 : decode cX1_pass 16 = .ok (.ldc 77, 2) := by decide +kernel
theorem dX1_pass_18 : decode cX1_pass 18 = .ok (.invokespecial 51, 3) := by decide +kernel
theorem dX1_pass_21 : decode cX1_pass 21 = .ok (.athrow, 1) := by decide +kernel
theorem dX1_pass_22 : decode cX1_pass 22 = .ok (.aload_n 0, 1) := by decide +kernel
theorem dX1_pass_23 : decode cX1_pass 23 = .ok (.getfield 9, 3) := by decide +kernel
theorem dX1_pass_26 : decode cX1_pass 26 = .ok (.iconst 0, 1) := by decide +kernel
theorem dX1_pass_27 : decode cX1_pass 27 = .ok (.iaload, 1) := by decide +kernel
theorem dX1_pass_28 : decode cX1_pass 28 = .ok (.iload_n 1, 1) := by decide +kernel
theorem dX1_pass_29 : decode cX1_pass 29 = .ok (.iadd, 1) := by decide +kernel
theorem dX1_pass_30 : decode cX1_pass 30 = .ok (.ldc 129, 2) := by decide +kernel
theorem dX1_pass_32 : decode cX1_pass 32 = .ok (.if_icmp .le 13, 3) := by decide +kernel
theorem dX1_pass_35 : decode cX1_pass 35 = .ok (.new 86, 3) := by decide +kernel
theorem dX1_pass_38 : decode cX1_pass 38 = .ok (.dup, 1) := by decide +kernel
theorem dX1_pass_39 : decode cX1_pass 39 = .ok (.ldc 130, 2) := by decide +kernel
theorem dX1_pass_41 : decode cX1_pass 41 = .ok (.invokespecial 90, 3) := by decide +kernel
theorem dX1_pass_44 : decode cX1_pass 44 = .ok (.athrow, 1) := by decide +kernel
theorem dX1_pass_45 : decode cX1_pass 45 = .ok (.aload_n 0, 1) := by decide +kernel
theorem dX1_pass_46 : decode cX1_pass 46 = .ok (.invokevirtual 103, 3) := by decide +kernel
theorem dX1_pass_49 : decode cX1_pass 49 = .ok (.iconst 0, 1) := by decide +kernel
theorem dX1_pass_50 : decode cX1_pass 50 = .ok (.istore_n 2, 1) := by decide +kernel
theorem dX1_pass_51 : decode cX1_pass 51 = .ok (.iload_n 2, 1) := by decide +kernel
theorem dX1_pass_52 : decode cX1_pass 52 = .ok (.iload_n 1, 1) := by decide +kernel
theorem dX1_pass_53 : decode cX1_pass 53 = .ok (.if_icmp .ge 13, 3) := by decide +kernel
theorem dX1_pass_56 : decode cX1_pass 56 = .ok (.aload_n 0, 1) := by decide +kernel
theorem dX1_pass_57 : decode cX1_pass 57 = .ok (.invokevirtual 132, 3) := by decide +kernel
theorem dX1_pass_60 : decode cX1_pass 60 = .ok (.iinc 2 1, 3) := by decide +kernel
theorem dX1_pass_63 : decode cX1_pass 63 = .ok (.goto (-12), 3) := by decide +kernel
theorem dX1_pass_66 : decode cX1_pass 66 = .ok (.aload_n 0, 1) := by decide +kernel
theorem dX1_pass_67 : decode cX1_pass 67 = .ok (.invokevirtual 135, 3) := by decide +kernel
theorem dX1_pass_70 : decode cX1_pass 70 = .ok (.ireturn, 1) := by decide +kernel
theorem dX1_undo_0 : decode cX1_undo 0 = .ok (.aload_n 0, 1) := by decide +kernel
theorem dX1_undo_1 : decode cX1_undo 1 = .ok (.getfield 16, 3) := by decide +kernel
theorem dX1_undo_4 : decode cX1_undo 4 = .ok (.ifCond .gt 13, 3) := by decide +kernel
theorem dX1_undo_7 : decode cX1_undo 7 = .ok (.new 86, 3) := by decide +kernel
theorem dX1_undo_10 : decode cX1_undo 10 = .ok (.dup, 1) := by decide +kernel
theorem dX1_undo_11 : decode cX1_undo 11 = .ok (.ldc 161, 2) := by decide +kernel
theorem dX1_undo_13 : decode cX1_undo 13 = .ok (.invokespecial 90, 3) := by decide +kernel
theorem dX1_undo_16 : decode cX1_undo 16 = .ok (.athrow, 1) := by decide +kernel
theorem dX1_undo_17 : decode cX1_undo 17 = .ok (.aload_n 0, 1) := by decide +kernel
theorem dX1_undo_18 : decode cX1_undo 18 = .ok (.dup, 1) := by decide +kernel
theorem dX1_undo_19 : decode cX1_undo 19 = .ok (.getfield 16, 3) := by decide +kernel
theorem dX1_undo_22 : decode cX1_undo 22 = .ok (.iconst 1, 1) := by decide +kernel
theorem dX1_undo_23 : decode cX1_undo 23 = .ok (.isub, 1) := by decide +kernel
theorem dX1_undo_24 : decode cX1_undo 24 = .ok (.putfield 16, 3) := by decide +kernel
theorem dX1_undo_27 : decode cX1_undo 27 = .ok (.aload_n 0, 1) := by decide +kernel
theorem dX1_undo_28 : decode cX1_undo 28 = .ok (.getfield 13, 3) := by decide +kernel
theorem dX1_undo_31 : decode cX1_undo 31 = .ok (.aload_n 0, 1) := by decide +kernel
theorem dX1_undo_32 : decode cX1_undo 32 = .ok (.getfield 16, 3) := by decide +kernel
theorem dX1_undo_35 : decode cX1_undo 35 = .ok (.bipush 33, 2) := by decide +kernel
theorem dX1_undo_37 : decode cX1_undo 37 = .ok (.imul, 1) := by decide +kernel
theorem dX1_undo_38 : decode cX1_undo 38 = .ok (.aload_n 0, 1) := by decide +kernel
theorem dX1_undo_39 : decode cX1_undo 39 = .ok (.getfield 9, 3) := by decide +kernel
theorem dX1_undo_42 : decode cX1_undo 42 = .ok (.iconst 0, 1) := by decide +kernel
theorem dX1_undo_43 : decode cX1_undo 43 = .ok (.bipush 33, 2) := by decide +kernel
theorem dX1_undo_45 : decode cX1_undo 45 = .ok (.invokestatic 163, 3) := by decide +kernel
theorem dX1_undo_48 : decode cX1_undo 48 = .ok (.aload_n 0, 1) := by decide +kernel
theorem dX1_undo_49 : decode cX1_undo 49 = .ok (.getfield 16, 3) := by decide +kernel
theorem dX1_undo_52 : decode cX1_undo 52 = .ok (.ireturn, 1) := by decide +kernel
set_option maxRecDepth 20000 in
theorem ggX1_movement_X1_isMovement : GoodIn wsX1_movement wsX1_isMovement := goodIn_r _ [8] (by decide +kernel) (by decide +kernel)
set_option maxRecDepth 20000 in
theorem gX1_movement_X1_isMovement : GoodIn wsX1_movement (va_wsS RX1 69 yX1_isMovement wsX1_isMovement) := goodIn_app (goodIn_of _ (by decide +kernel)) ggX1_movement_X1_isMovement
set_option maxRecDepth 20000 in
theorem ggX1_movement_X1_property : GoodIn wsX1_movement wsX1_property := goodIn_r _ [12, 13, 14, 15, 7, 16, 17, 18, 19, 20, 21, 22, 23, 24, 25, 26, 27, 28, 29, 30] (by decide +kernel) (by decide +kernel)
set_option maxRecDepth 20000 in
theorem gX1_movement_X1_property : GoodIn wsX1_movement (wsV RX1 171 RX1 yX1_property wsX1_property) := goodIn_app (goodIn_of _ (by decide +kernel)) ggX1_movement_X1_property
theorem dX1_movement_0 : decode cX1_movement 0 = .ok (.iload_n 1, 1) := by decide +kernel
theorem dX1_movement_1 : decode cX1_movement 1 = .ok (.invokestatic 69, 3) := by decide +kernel
theorem dX1_movement_4 : decode cX1_movement 4 = .ok (.ifCond .ne 13, 3) := by decide +kernel
theorem dX1_movement_7 : decode cX1_movement 7 = .ok (.new 40, 3) := by decide +kernel
theorem dX1_movement_10 : decode cX1_movement 10 = .ok (.dup, 1) := by decide +kernel
theorem dX1_movement_11 : decode cX1_movement 11 = .ok (.ldc 72, 2) := by decide +kernel
theorem dX1_movement_13 : decode cX1_movement 13 = .ok (.invokespecial 44, 3) := by decide +kernel
theorem dX1_movement_16 : decode cX1_movement 16 = .ok (.athrow, 1) := by decide +kernel
theorem dX1_movement_17 : decode cX1_movement 17 = .ok (.iload_n 2, 1) := by decide +kernel
theorem dX1_movement_18 : decode cX1_movement 18 = .ok (.ifCond .lt 8, 3) := by decide +kernel
theorem dX1_movement_21 : decode cX1_movement 21 = .ok (.iload_n 2, 1) := by decide +kernel
theorem dX1_movement_22 : decode cX1_movement 22 = .ok (.iconst 5, 1) := by decide +kernel
theorem dX1_movement_23 : decode cX1_movement 23 = .ok (.if_icmp .le 13, 3) := by decide +kernel
theorem dX1_movement_26 : decode cX1_movement 26 = .ok (.new 47, 3) := by decide +kernel
theorem dX1_movement_29 : decode cX1_movement 29 = .ok (.dup, 1) := by decide +kernel
theorem dX1_movement_30 : decode cX1_movement 30 = .ok (.ldc 169, 2) := by decide +kernel
theorem dX1_movement_32 : decode cX1_movement 32 = .ok (.invokespecial 51, 3) := by decide +kernel
theorem dX1_movement_35 : decode cX1_movement 35 = .ok (.athrow, 1) := by decide +kernel
theorem dX1_movement_36 : decode cX1_movement 36 = .ok (.aload_n 0, 1) := by decide +kernel
theorem dX1_movement_37 : decode cX1_movement 37 = .ok (.iload_n 1, 1) := by decide +kernel
theorem dX1_movement_38 : decode cX1_movement 38 = .ok (.iload_n 2, 1) := by decide +kernel
theorem dX1_movement_39 : decode cX1_movement 39 = .ok (.invokevirtual 171, 3) := by decide +kernel
theorem dX1_movement_42 : decode cX1_movement 42 = .ok (.ireturn, 1) := by decide +kernel
set_option maxRecDepth 20000 in
theorem ggX1_day_X1_isDay : GoodIn wsX1_day wsX1_isDay := goodIn_r _ [7] (by decide +kernel) (by decide +kernel)
set_option maxRecDepth 20000 in
theorem gX1_day_X1_isDay : GoodIn wsX1_day (va_wsS RX1 36 yX1_isDay wsX1_isDay) := goodIn_app (goodIn_of _ (by decide +kernel)) ggX1_day_X1_isDay
theorem dX1_day_0 : decode cX1_day 0 = .ok (.iload_n 1, 1) := by decide +kernel
theorem dX1_day_1 : decode cX1_day 1 = .ok (.invokestatic 36, 3) := by decide +kernel
theorem dX1_day_4 : decode cX1_day 4 = .ok (.ifCond .ne 13, 3) := by decide +kernel
theorem dX1_day_7 : decode cX1_day 7 = .ok (.new 40, 3) := by decide +kernel
theorem dX1_day_10 : decode cX1_day 10 = .ok (.dup, 1) := by decide +kernel
theorem dX1_day_11 : decode cX1_day 11 = .ok (.ldc 42, 2) := by decide +kernel
theorem dX1_day_13 : decode cX1_day 13 = .ok (.invokespecial 44, 3) := by decide +kernel
theorem dX1_day_16 : decode cX1_day 16 = .ok (.athrow, 1) := by decide +kernel
theorem dX1_day_17 : decode cX1_day 17 = .ok (.aload_n 0, 1) := by decide +kernel
theorem dX1_day_18 : decode cX1_day 18 = .ok (.getfield 9, 3) := by decide +kernel
theorem dX1_day_21 : decode cX1_day 21 = .ok (.bipush 14, 2) := by decide +kernel
theorem dX1_day_23 : decode cX1_day 23 = .ok (.iload_n 1, 1) := by decide +kernel
theorem dX1_day_24 : decode cX1_day 24 = .ok (.iadd, 1) := by decide +kernel
theorem dX1_day_25 : decode cX1_day 25 = .ok (.iaload, 1) := by decide +kernel
theorem dX1_day_26 : decode cX1_day 26 = .ok (.ireturn, 1) := by decide +kernel
set_option maxRecDepth 20000 in
theorem ggX1_count_X1_number : GoodIn wsX1_count wsX1_number := goodIn_r _ [7, 8, 9, 10, 11, 12, 6, 13, 14, 15, 16, 17, 18, 19, 20, 21, 22, 23, 24, 25, 26, 27, 28, 29, 30, 31, 32, 33, 34, 35] (by decide +kernel) (by decide +kernel)
set_option maxRecDepth 20000 in
theorem gX1_count_X1_number : GoodIn wsX1_count (wsV RX1 176 RX1 yX1_number wsX1_number) := goodIn_app (goodIn_of _ (by decide +kernel)) ggX1_count_X1_number
theorem dX1_count_0 : decode cX1_count 0 = .ok (.iload_n 1, 1) := by decide +kernel
theorem dX1_count_1 : decode cX1_count 1 = .ok (.ifCond .lt 9, 3) := by decide +kernel
theorem dX1_count_4 : decode cX1_count 4 = .ok (.iload_n 1, 1) := by decide +kernel
theorem dX1_count_5 : decode cX1_count 5 = .ok (.bipush 14, 2) := by decide +kernel
theorem dX1_count_7 : decode cX1_count 7 = .ok (.if_icmp .le 13, 3) := by decide +kernel
theorem dX1_count_10 : decode cX1_count 10 = .ok (.new 47, 3) := by decide +kernel
theorem dX1_count_13 : decode cX1_count 13 = .ok (.dup, 1) := by decide +kernel
theorem dX1_count_14 : decode cX1_count 14 = .ok (.ldc 174, 2) := by decide +kernel
theorem dX1_count_16 : decode cX1_count 16 = .ok (.invokespecial 51, 3) := by decide +kernel
theorem dX1_count_19 : decode cX1_count 19 = .ok (.athrow, 1) := by decide +kernel
theorem dX1_count_20 : decode cX1_count 20 = .ok (.aload_n 0, 1) := by decide +kernel
theorem dX1_count_21 : decode cX1_count 21 = .ok (.iload_n 1, 1) := by decide +kernel
theorem dX1_count_22 : decode cX1_count 22 = .ok (.invokevirtual 176, 3) := by decide +kernel
theorem dX1_count_25 : decode cX1_count 25 = .ok (.ireturn, 1) := by decide +kernel
set_option maxRecDepth 20000 in
theorem ggX1_setting_X1_isSetting : GoodIn wsX1_setting wsX1_isSetting := goodIn_r _ [7] (by decide +kernel) (by decide +kernel)
set_option maxRecDepth 20000 in
theorem gX1_setting_X1_isSetting : GoodIn wsX1_setting (va_wsS RX1 56 yX1_isSetting wsX1_isSetting) := goodIn_app (goodIn_of _ (by decide +kernel)) ggX1_setting_X1_isSetting
theorem dX1_setting_0 : decode cX1_setting 0 = .ok (.iload_n 1, 1) := by decide +kernel
theorem dX1_setting_1 : decode cX1_setting 1 = .ok (.invokestatic 56, 3) := by decide +kernel
theorem dX1_setting_4 : decode cX1_setting 4 = .ok (.ifCond .ne 13, 3) := by decide +kernel
theorem dX1_setting_7 : decode cX1_setting 7 = .ok (.new 40, 3) := by decide +kernel
theorem dX1_setting_10 : decode cX1_setting 10 = .ok (.dup, 1) := by decide +kernel
theorem dX1_setting_11 : decode cX1_setting 11 = .ok (.ldc 59, 2) := by decide +kernel
theorem dX1_setting_13 : decode cX1_setting 13 = .ok (.invokespecial 44, 3) := by decide +kernel
theorem dX1_setting_16 : decode cX1_setting 16 = .ok (.athrow, 1) := by decide +kernel
theorem dX1_setting_17 : decode cX1_setting 17 = .ok (.aload_n 0, 1) := by decide +kernel
theorem dX1_setting_18 : decode cX1_setting 18 = .ok (.getfield 9, 3) := by decide +kernel
theorem dX1_setting_21 : decode cX1_setting 21 = .ok (.bipush 11, 2) := by decide +kernel
theorem dX1_setting_23 : decode cX1_setting 23 = .ok (.iload_n 1, 1) := by decide +kernel
theorem dX1_setting_24 : decode cX1_setting 24 = .ok (.iadd, 1) := by decide +kernel
theorem dX1_setting_25 : decode cX1_setting 25 = .ok (.iaload, 1) := by decide +kernel
theorem dX1_setting_26 : decode cX1_setting 26 = .ok (.ireturn, 1) := by decide +kernel
set_option maxRecDepth 20000 in
theorem ggX1_opensIn_X1_hoursToOpen : GoodIn wsX1_opensIn wsX1_hoursToOpen := goodIn_r _ [5, 6, 7, 8, 9, 10, 11, 12, 4, 13, 14, 15, 16, 17, 18, 19, 20, 21, 22, 23, 24, 25, 26, 27, 28, 29, 30, 31, 32, 33, 34, 35] (by decide +kernel) (by decide +kernel)
set_option maxRecDepth 20000 in
theorem gX1_opensIn_X1_hoursToOpen : GoodIn wsX1_opensIn (wsV RX1 112 RX1 yX1_hoursToOpen wsX1_hoursToOpen) := goodIn_app (goodIn_of _ (by decide +kernel)) ggX1_opensIn_X1_hoursToOpen
theorem dX1_opensIn_0 : decode cX1_opensIn 0 = .ok (.aload_n 0, 1) := by decide +kernel
theorem dX1_opensIn_1 : decode cX1_opensIn 1 = .ok (.iconst (-1), 1) := by decide +kernel
theorem dX1_opensIn_2 : decode cX1_opensIn 2 = .ok (.invokevirtual 112, 3) := by decide +kernel
theorem dX1_opensIn_5 : decode cX1_opensIn 5 = .ok (.ireturn, 1) := by decide +kernel
set_option maxRecDepth 20000 in
theorem ggX1_lateness_X1_isLocked : GoodIn wsX1_lateness wsX1_isLocked := goodIn_r _ [9, 10, 34, 35, 36, 37, 38, 39] (by decide +kernel) (by decide +kernel)
set_option maxRecDepth 20000 in
theorem gX1_lateness_X1_isLocked : GoodIn wsX1_lateness (wsV RX1 79 RX1 yX1_isLocked wsX1_isLocked) := goodIn_app (goodIn_of _ (by decide +kernel)) ggX1_lateness_X1_isLocked
set_option maxRecDepth 20000 in
theorem ggX1_lateness_X1_hoursToOpen : GoodIn wsX1_lateness wsX1_hoursToOpen := goodIn_r _ [14, 1, 2, 3, 4, 5, 6, 7, 8, 9, 10, 15, 16, 17, 18, 19, 20, 21, 22, 23, 24, 25, 26, 27, 28, 29, 34, 35, 36, 37, 38, 39] (by decide +kernel) (by decide +kernel)
set_option maxRecDepth 20000 in
theorem gX1_lateness_X1_hoursToOpen : GoodIn wsX1_lateness (wsV RX1 112 RX1 yX1_hoursToOpen wsX1_hoursToOpen) := goodIn_app (goodIn_of _ (by decide +kernel)) ggX1_lateness_X1_hoursToOpen
set_option maxRecDepth 20000 in
theorem ggX1_lateness_X1_latenessAfter : GoodIn wsX1_lateness wsX1_latenessAfter := goodIn_r _ [33, 10, 34, 35, 36, 37, 38, 39] (by decide +kernel) (by decide +kernel)
set_option maxRecDepth 20000 in
theorem gX1_lateness_X1_latenessAfter : GoodIn wsX1_lateness (wsV RX1 119 RX1 yX1_latenessAfter wsX1_latenessAfter) := goodIn_app (goodIn_of _ (by decide +kernel)) ggX1_lateness_X1_latenessAfter
theorem dX1_lateness_0 : decode cX1_lateness 0 = .ok (.aload_n 0, 1) := by decide +kernel
theorem dX1_lateness_1 : decode cX1_lateness 1 = .ok (.invokevirtual 79, 3) := by decide +kernel
theorem dX1_lateness_4 : decode cX1_lateness 4 = .ok (.ifCond .ne 5, 3) := by decide +kernel
theorem dX1_lateness_7 : decode cX1_lateness 7 = .ok (.iconst 0, 1) := by decide +kernel
theorem dX1_lateness_8 : decode cX1_lateness 8 = .ok (.ireturn, 1) := by decide +kernel
theorem dX1_lateness_9 : decode cX1_lateness 9 = .ok (.aload_n 0, 1) := by decide +kernel
theorem dX1_lateness_10 : decode cX1_lateness 10 = .ok (.iconst (-1), 1) := by decide +kernel
theorem dX1_lateness_11 : decode cX1_lateness 11 = .ok (.invokevirtual 112, 3) := by decide +kernel
theorem dX1_lateness_14 : decode cX1_lateness 14 = .ok (.istore_n 1, 1) := by decide +kernel
theorem dX1_lateness_15 : decode cX1_lateness 15 = .ok (.iload_n 1, 1) := by decide +kernel
theorem dX1_lateness_16 : decode cX1_lateness 16 = .ok (.iconst (-1), 1) := by decide +kernel
theorem dX1_lateness_17 : decode cX1_lateness 17 = .ok (.if_icmp .ne 9, 3) := by decide +kernel
theorem dX1_lateness_20 : decode cX1_lateness 20 = .ok (.sipush 1000, 3) := by decide +kernel
theorem dX1_lateness_23 : decode cX1_lateness 23 = .ok (.goto 12, 3) := by decide +kernel
theorem dX1_lateness_26 : decode cX1_lateness 26 = .ok (.aload_n 0, 1) := by decide +kernel
theorem dX1_lateness_27 : decode cX1_lateness 27 = .ok (.iload_n 1, 1) := by decide +kernel
theorem dX1_lateness_28 : decode cX1_lateness 28 = .ok (.iconst 1, 1) := by decide +kernel
theorem dX1_lateness_29 : decode cX1_lateness 29 = .ok (.invokestatic 179, 3) := by decide +kernel
theorem dX1_lateness_32 : decode cX1_lateness 32 = .ok (.invokevirtual 119, 3) := by decide +kernel
theorem dX1_lateness_35 : decode cX1_lateness 35 = .ok (.ireturn, 1) := by decide +kernel
set_option maxRecDepth 20000 in
theorem ggX1_keyMovement_X1_hoursToOpen : GoodIn wsX1_keyMovement wsX1_hoursToOpen := goodIn_r _ [5, 6, 7, 8, 9, 10, 11, 12, 4, 13, 14, 15, 16, 17, 18, 19, 20, 21, 22, 23, 24, 25, 26, 27, 28, 29, 30, 31, 32, 33, 34, 35] (by decide +kernel) (by decide +kernel)
set_option maxRecDepth 20000 in
theorem gX1_keyMovement_X1_hoursToOpen : GoodIn wsX1_keyMovement (wsV RX1 112 RX1 yX1_hoursToOpen wsX1_hoursToOpen) := goodIn_app (goodIn_of _ (by decide +kernel)) ggX1_keyMovement_X1_hoursToOpen
theorem dX1_keyMovement_0 : decode cX1_keyMovement 0 = .ok (.aload_n 0, 1) := by decide +kernel
theorem dX1_keyMovement_1 : decode cX1_keyMovement 1 = .ok (.iconst (-1), 1) := by decide +kernel
theorem dX1_keyMovement_2 : decode cX1_keyMovement 2 = .ok (.invokevirtual 112, 3) := by decide +kernel
theorem dX1_keyMovement_5 : decode cX1_keyMovement 5 = .ok (.istore_n 1, 1) := by decide +kernel
theorem dX1_keyMovement_6 : decode cX1_keyMovement 6 = .ok (.iconst 0, 1) := by decide +kernel
theorem dX1_keyMovement_7 : decode cX1_keyMovement 7 = .ok (.istore_n 2, 1) := by decide +kernel
theorem dX1_keyMovement_8 : decode cX1_keyMovement 8 = .ok (.iload_n 2, 1) := by decide +kernel
theorem dX1_keyMovement_9 : decode cX1_keyMovement 9 = .ok (.iconst 3, 1) := by decide +kernel
theorem dX1_keyMovement_10 : decode cX1_keyMovement 10 = .ok (.if_icmp .ge 20, 3) := by decide +kernel
theorem dX1_keyMovement_13 : decode cX1_keyMovement 13 = .ok (.aload_n 0, 1) := by decide +kernel
theorem dX1_keyMovement_14 : decode cX1_keyMovement 14 = .ok (.iload_n 2, 1) := by decide +kernel
theorem dX1_keyMovement_15 : decode cX1_keyMovement 15 = .ok (.invokevirtual 112, 3) := by decide +kernel
theorem dX1_keyMovement_18 : decode cX1_keyMovement 18 = .ok (.iload_n 1, 1) := by decide +kernel
theorem dX1_keyMovement_19 : decode cX1_keyMovement 19 = .ok (.if_icmp .eq 5, 3) := by decide +kernel
theorem dX1_keyMovement_22 : decode cX1_keyMovement 22 = .ok (.iload_n 2, 1) := by decide +kernel
theorem dX1_keyMovement_23 : decode cX1_keyMovement 23 = .ok (.ireturn, 1) := by decide +kernel
theorem dX1_keyMovement_24 : decode cX1_keyMovement 24 = .ok (.iinc 2 1, 3) := by decide +kernel
theorem dX1_keyMovement_27 : decode cX1_keyMovement 27 = .ok (.goto (-19), 3) := by decide +kernel
theorem dX1_keyMovement_30 : decode cX1_keyMovement 30 = .ok (.iconst (-1), 1) := by decide +kernel
theorem dX1_keyMovement_31 : decode cX1_keyMovement 31 = .ok (.ireturn, 1) := by decide +kernel
set_option maxRecDepth 20000 in
theorem ggX1_rightWinding_X1_isMovement : GoodIn wsX1_rightWinding wsX1_isMovement := goodIn_r _ [6] (by decide +kernel) (by decide +kernel)
set_option maxRecDepth 20000 in
theorem gX1_rightWinding_X1_isMovement : GoodIn wsX1_rightWinding (va_wsS RX1 69 yX1_isMovement wsX1_isMovement) := goodIn_app (goodIn_of _ (by decide +kernel)) ggX1_rightWinding_X1_isMovement
set_option maxRecDepth 20000 in
theorem ggX1_rightWinding_X1_hoursToWind : GoodIn wsX1_rightWinding wsX1_hoursToWind := goodIn_r _ [10, 11, 12, 13, 14, 5, 15, 16, 17, 18, 19, 20, 21, 22, 23, 24, 25, 26, 27, 28, 29, 30, 31, 32, 33, 34, 35, 36, 37, 38, 39, 40, 41, 42] (by decide +kernel) (by decide +kernel)
set_option maxRecDepth 20000 in
theorem gX1_rightWinding_X1_hoursToWind : GoodIn wsX1_rightWinding (wsV RX1 184 RX1 yX1_hoursToWind wsX1_hoursToWind) := goodIn_app (goodIn_of _ (by decide +kernel)) ggX1_rightWinding_X1_hoursToWind
theorem dX1_rightWinding_0 : decode cX1_rightWinding 0 = .ok (.iload_n 1, 1) := by decide +kernel
theorem dX1_rightWinding_1 : decode cX1_rightWinding 1 = .ok (.invokestatic 69, 3) := by decide +kernel
theorem dX1_rightWinding_4 : decode cX1_rightWinding 4 = .ok (.ifCond .ne 13, 3) := by decide +kernel
theorem dX1_rightWinding_7 : decode cX1_rightWinding 7 = .ok (.new 40, 3) := by decide +kernel
theorem dX1_rightWinding_10 : decode cX1_rightWinding 10 = .ok (.dup, 1) := by decide +kernel
theorem dX1_rightWinding_11 : decode cX1_rightWinding 11 = .ok (.ldc 72, 2) := by decide +kernel
theorem dX1_rightWinding_13 : decode cX1_rightWinding 13 = .ok (.invokespecial 44, 3) := by decide +kernel
theorem dX1_rightWinding_16 : decode cX1_rightWinding 16 = .ok (.athrow, 1) := by decide +kernel
theorem dX1_rightWinding_17 : decode cX1_rightWinding 17 = .ok (.aload_n 0, 1) := by decide +kernel
theorem dX1_rightWinding_18 : decode cX1_rightWinding 18 = .ok (.iload_n 1, 1) := by decide +kernel
theorem dX1_rightWinding_19 : decode cX1_rightWinding 19 = .ok (.invokevirtual 184, 3) := by decide +kernel
theorem dX1_rightWinding_22 : decode cX1_rightWinding 22 = .ok (.ireturn, 1) := by decide +kernel
theorem dX1_punctuality_0 : decode cX1_punctuality 0 = .ok (.aload_n 0, 1) := by decide +kernel
theorem dX1_punctuality_1 : decode cX1_punctuality 1 = .ok (.getfield 9, 3) := by decide +kernel
theorem dX1_punctuality_4 : decode cX1_punctuality 4 = .ok (.bipush 6, 2) := by decide +kernel
theorem dX1_punctuality_6 : decode cX1_punctuality 6 = .ok (.iaload, 1) := by decide +kernel
theorem dX1_punctuality_7 : decode cX1_punctuality 7 = .ok (.aload_n 0, 1) := by decide +kernel
theorem dX1_punctuality_8 : decode cX1_punctuality 8 = .ok (.getfield 9, 3) := by decide +kernel
theorem dX1_punctuality_11 : decode cX1_punctuality 11 = .ok (.bipush 10, 2) := by decide +kernel
theorem dX1_punctuality_13 : decode cX1_punctuality 13 = .ok (.iaload, 1) := by decide +kernel
theorem dX1_punctuality_14 : decode cX1_punctuality 14 = .ok (.iadd, 1) := by decide +kernel
theorem dX1_punctuality_15 : decode cX1_punctuality 15 = .ok (.istore_n 1, 1) := by decide +kernel
theorem dX1_punctuality_16 : decode cX1_punctuality 16 = .ok (.iload_n 1, 1) := by decide +kernel
theorem dX1_punctuality_17 : decode cX1_punctuality 17 = .ok (.ifCond .ne 7, 3) := by decide +kernel
theorem dX1_punctuality_20 : decode cX1_punctuality 20 = .ok (.dconst 1, 1) := by decide +kernel
theorem dX1_punctuality_21 : decode cX1_punctuality 21 = .ok (.goto 14, 3) := by decide +kernel
theorem dX1_punctuality_24 : decode cX1_punctuality 24 = .ok (.aload_n 0, 1) := by decide +kernel
theorem dX1_punctuality_25 : decode cX1_punctuality 25 = .ok (.getfield 9, 3) := by decide +kernel
theorem dX1_punctuality_28 : decode cX1_punctuality 28 = .ok (.bipush 7, 2) := by decide +kernel
theorem dX1_punctuality_30 : decode cX1_punctuality 30 = .ok (.iaload, 1) := by decide +kernel
theorem dX1_punctuality_31 : decode cX1_punctuality 31 = .ok (.i2d, 1) := by decide +kernel
theorem dX1_punctuality_32 : decode cX1_punctuality 32 = .ok (.iload_n 1, 1) := by decide +kernel
theorem dX1_punctuality_33 : decode cX1_punctuality 33 = .ok (.i2d, 1) := by decide +kernel
theorem dX1_punctuality_34 : decode cX1_punctuality 34 = .ok (.ddiv, 1) := by decide +kernel
theorem dX1_punctuality_35 : decode cX1_punctuality 35 = .ok (.dreturn, 1) := by decide +kernel
theorem dX1_isDay_0 : decode cX1_isDay 0 = .ok (.iload_n 0, 1) := by decide +kernel
theorem dX1_isDay_1 : decode cX1_isDay 1 = .ok (.ifCond .lt 13, 3) := by decide +kernel
theorem dX1_isDay_4 : decode cX1_isDay 4 = .ok (.iload_n 0, 1) := by decide +kernel
theorem dX1_isDay_5 : decode cX1_isDay 5 = .ok (.bipush 7, 2) := by decide +kernel
theorem dX1_isDay_7 : decode cX1_isDay 7 = .ok (.if_icmp .ge 7, 3) := by decide +kernel
theorem dX1_isDay_10 : decode cX1_isDay 10 = .ok (.iconst 1, 1) := by decide +kernel
theorem dX1_isDay_11 : decode cX1_isDay 11 = .ok (.goto 4, 3) := by decide +kernel
theorem dX1_isDay_14 : decode cX1_isDay 14 = .ok (.iconst 0, 1) := by decide +kernel
theorem dX1_isDay_15 : decode cX1_isDay 15 = .ok (.ireturn, 1) := by decide +kernel
theorem dX1_isSetting_0 : decode cX1_isSetting 0 = .ok (.iload_n 0, 1) := by decide +kernel
theorem dX1_isSetting_1 : decode cX1_isSetting 1 = .ok (.ifCond .lt 12, 3) := by decide +kernel
theorem dX1_isSetting_4 : decode cX1_isSetting 4 = .ok (.iload_n 0, 1) := by decide +kernel
theorem dX1_isSetting_5 : decode cX1_isSetting 5 = .ok (.iconst 3, 1) := by decide +kernel
theorem dX1_isSetting_6 : decode cX1_isSetting 6 = .ok (.if_icmp .ge 7, 3) := by decide +kernel
theorem dX1_isSetting_9 : decode cX1_isSetting 9 = .ok (.iconst 1, 1) := by decide +kernel
theorem dX1_isSetting_10 : decode cX1_isSetting 10 = .ok (.goto 4, 3) := by decide +kernel
theorem dX1_isSetting_13 : decode cX1_isSetting 13 = .ok (.iconst 0, 1) := by decide +kernel
theorem dX1_isSetting_14 : decode cX1_isSetting 14 = .ok (.ireturn, 1) := by decide +kernel
theorem dX1_isMovement_0 : decode cX1_isMovement 0 = .ok (.iload_n 0, 1) := by decide +kernel
theorem dX1_isMovement_1 : decode cX1_isMovement 1 = .ok (.ifCond .lt 12, 3) := by decide +kernel
theorem dX1_isMovement_4 : decode cX1_isMovement 4 = .ok (.iload_n 0, 1) := by decide +kernel
theorem dX1_isMovement_5 : decode cX1_isMovement 5 = .ok (.iconst 3, 1) := by decide +kernel
theorem dX1_isMovement_6 : decode cX1_isMovement 6 = .ok (.if_icmp .ge 7, 3) := by decide +kernel
theorem dX1_isMovement_9 : decode cX1_isMovement 9 = .ok (.iconst 1, 1) := by decide +kernel
theorem dX1_isMovement_10 : decode cX1_isMovement 10 = .ok (.goto 4, 3) := by decide +kernel
theorem dX1_isMovement_13 : decode cX1_isMovement 13 = .ok (.iconst 0, 1) := by decide +kernel
theorem dX1_isMovement_14 : decode cX1_isMovement 14 = .ok (.ireturn, 1) := by decide +kernel
theorem dX1_areWindingHours_0 : decode cX1_areWindingHours 0 = .ok (.iload_n 0, 1) := by decide +kernel
theorem dX1_areWindingHours_1 : decode cX1_areWindingHours 1 = .ok (.iconst 1, 1) := by decide +kernel
theorem dX1_areWindingHours_2 : decode cX1_areWindingHours 2 = .ok (.if_icmp .lt 14, 3) := by decide +kernel
theorem dX1_areWindingHours_5 : decode cX1_areWindingHours 5 = .ok (.iload_n 0, 1) := by decide +kernel
theorem dX1_areWindingHours_6 : decode cX1_areWindingHours 6 = .ok (.sipush 200, 3) := by decide +kernel
theorem dX1_areWindingHours_9 : decode cX1_areWindingHours 9 = .ok (.if_icmp .gt 7, 3) := by decide +kernel
theorem dX1_areWindingHours_12 : decode cX1_areWindingHours 12 = .ok (.iconst 1, 1) := by decide +kernel
theorem dX1_areWindingHours_13 : decode cX1_areWindingHours 13 = .ok (.goto 4, 3) := by decide +kernel
theorem dX1_areWindingHours_16 : decode cX1_areWindingHours 16 = .ok (.iconst 0, 1) := by decide +kernel
theorem dX1_areWindingHours_17 : decode cX1_areWindingHours 17 = .ok (.ireturn, 1) := by decide +kernel
theorem dX1_isLostHour_0 : decode cX1_isLostHour 0 = .ok (.iload_n 1, 1) := by decide +kernel
theorem dX1_isLostHour_1 : decode cX1_isLostHour 1 = .ok (.ifCond .le 13, 3) := by decide +kernel
theorem dX1_isLostHour_4 : decode cX1_isLostHour 4 = .ok (.iload_n 0, 1) := by decide +kernel
theorem dX1_isLostHour_5 : decode cX1_isLostHour 5 = .ok (.iload_n 1, 1) := by decide +kernel
theorem dX1_isLostHour_6 : decode cX1_isLostHour 6 = .ok (.irem, 1) := by decide +kernel
theorem dX1_isLostHour_7 : decode cX1_isLostHour 7 = .ok (.ifCond .ne 7, 3) := by decide +kernel
theorem dX1_isLostHour_10 : decode cX1_isLostHour 10 = .ok (.iconst 1, 1) := by decide +kernel
theorem dX1_isLostHour_11 : decode cX1_isLostHour 11 = .ok (.goto 4, 3) := by decide +kernel
theorem dX1_isLostHour_14 : decode cX1_isLostHour 14 = .ok (.iconst 0, 1) := by decide +kernel
theorem dX1_isLostHour_15 : decode cX1_isLostHour 15 = .ok (.ireturn, 1) := by decide +kernel
set_option maxRecDepth 20000 in
theorem ggX1_change_X1_save : GoodIn wsX1_change wsX1_save := goodIn_r _ [6, 7, 8, 9, 10, 11, 12, 1, 13, 14, 15, 16, 17, 18] (by decide +kernel) (by decide +kernel)
set_option maxRecDepth 20000 in
theorem gX1_change_X1_save : GoodIn wsX1_change (wsV RX1 103 RX1 yX1_save wsX1_save) := goodIn_app (goodIn_of _ (by decide +kernel)) ggX1_change_X1_save
theorem dX1_change_0 : decode cX1_change 0 = .ok (.aload_n 0, 1) := by decide +kernel
theorem dX1_change_1 : decode cX1_change 1 = .ok (.invokevirtual 103, 3) := by decide +kernel
theorem dX1_change_4 : decode cX1_change 4 = .ok (.aload_n 0, 1) := by decide +kernel
theorem dX1_change_5 : decode cX1_change 5 = .ok (.getfield 9, 3) := by decide +kernel
theorem dX1_change_8 : decode cX1_change 8 = .ok (.iload_n 1, 1) := by decide +kernel
theorem dX1_change_9 : decode cX1_change 9 = .ok (.iaload, 1) := by decide +kernel
theorem dX1_change_10 : decode cX1_change 10 = .ok (.istore_n 3, 1) := by decide +kernel
theorem dX1_change_11 : decode cX1_change 11 = .ok (.aload_n 0, 1) := by decide +kernel
theorem dX1_change_12 : decode cX1_change 12 = .ok (.getfield 9, 3) := by decide +kernel
theorem dX1_change_15 : decode cX1_change 15 = .ok (.iload_n 1, 1) := by decide +kernel
theorem dX1_change_16 : decode cX1_change 16 = .ok (.iload_n 2, 1) := by decide +kernel
theorem dX1_change_17 : decode cX1_change 17 = .ok (.iastore, 1) := by decide +kernel
theorem dX1_change_18 : decode cX1_change 18 = .ok (.iload_n 3, 1) := by decide +kernel
theorem dX1_change_19 : decode cX1_change 19 = .ok (.ireturn, 1) := by decide +kernel
theorem dX1_save_0 : decode cX1_save 0 = .ok (.aload_n 0, 1) := by decide +kernel
theorem dX1_save_1 : decode cX1_save 1 = .ok (.getfield 16, 3) := by decide +kernel
theorem dX1_save_4 : decode cX1_save 4 = .ok (.bipush 6, 2) := by decide +kernel
theorem dX1_save_6 : decode cX1_save 6 = .ok (.if_icmp .lt 25, 3) := by decide +kernel
theorem dX1_save_9 : decode cX1_save 9 = .ok (.aload_n 0, 1) := by decide +kernel
theorem dX1_save_10 : decode cX1_save 10 = .ok (.getfield 13, 3) := by decide +kernel
theorem dX1_save_13 : decode cX1_save 13 = .ok (.bipush 33, 2) := by decide +kernel
theorem dX1_save_15 : decode cX1_save 15 = .ok (.aload_n 0, 1) := by decide +kernel
theorem dX1_save_16 : decode cX1_save 16 = .ok (.getfield 13, 3) := by decide +kernel
theorem dX1_save_19 : decode cX1_save 19 = .ok (.iconst 0, 1) := by decide +kernel
theorem dX1_save_20 : decode cX1_save 20 = .ok (.sipush 165, 3) := by decide +kernel
theorem dX1_save_23 : decode cX1_save 23 = .ok (.invokestatic 163, 3) := by decide +kernel
theorem dX1_save_26 : decode cX1_save 26 = .ok (.aload_n 0, 1) := by decide +kernel
theorem dX1_save_27 : decode cX1_save 27 = .ok (.iconst 5, 1) := by decide +kernel
theorem dX1_save_28 : decode cX1_save 28 = .ok (.putfield 16, 3) := by decide +kernel
theorem dX1_save_31 : decode cX1_save 31 = .ok (.aload_n 0, 1) := by decide +kernel
theorem dX1_save_32 : decode cX1_save 32 = .ok (.getfield 9, 3) := by decide +kernel
theorem dX1_save_35 : decode cX1_save 35 = .ok (.iconst 0, 1) := by decide +kernel
theorem dX1_save_36 : decode cX1_save 36 = .ok (.aload_n 0, 1) := by decide +kernel
theorem dX1_save_37 : decode cX1_save 37 = .ok (.getfield 13, 3) := by decide +kernel
theorem dX1_save_40 : decode cX1_save 40 = .ok (.aload_n 0, 1) := by decide +kernel
theorem dX1_save_41 : decode cX1_save 41 = .ok (.getfield 16, 3) := by decide +kernel
theorem dX1_save_44 : decode cX1_save 44 = .ok (.bipush 33, 2) := by decide +kernel
theorem dX1_save_46 : decode cX1_save 46 = .ok (.imul, 1) := by decide +kernel
theorem dX1_save_47 : decode cX1_save 47 = .ok (.bipush 33, 2) := by decide +kernel
theorem dX1_save_49 : decode cX1_save 49 = .ok (.invokestatic 163, 3) := by decide +kernel
theorem dX1_save_52 : decode cX1_save 52 = .ok (.aload_n 0, 1) := by decide +kernel
theorem dX1_save_53 : decode cX1_save 53 = .ok (.dup, 1) := by decide +kernel
theorem dX1_save_54 : decode cX1_save 54 = .ok (.getfield 16, 3) := by decide +kernel
theorem dX1_save_57 : decode cX1_save 57 = .ok (.iconst 1, 1) := by decide +kernel
theorem dX1_save_58 : decode cX1_save 58 = .ok (.iadd, 1) := by decide +kernel
theorem dX1_save_59 : decode cX1_save 59 = .ok (.putfield 16, 3) := by decide +kernel
theorem dX1_save_62 : decode cX1_save 62 = .ok (.return_, 1) := by decide +kernel
theorem dX1_today_0 : decode cX1_today 0 = .ok (.aload_n 0, 1) := by decide +kernel
theorem dX1_today_1 : decode cX1_today 1 = .ok (.getfield 9, 3) := by decide +kernel
theorem dX1_today_4 : decode cX1_today 4 = .ok (.iconst 0, 1) := by decide +kernel
theorem dX1_today_5 : decode cX1_today 5 = .ok (.iaload, 1) := by decide +kernel
theorem dX1_today_6 : decode cX1_today 6 = .ok (.bipush 24, 2) := by decide +kernel
theorem dX1_today_8 : decode cX1_today 8 = .ok (.idiv, 1) := by decide +kernel
theorem dX1_today_9 : decode cX1_today 9 = .ok (.bipush 7, 2) := by decide +kernel
theorem dX1_today_11 : decode cX1_today 11 = .ok (.irem, 1) := by decide +kernel
theorem dX1_today_12 : decode cX1_today 12 = .ok (.ireturn, 1) := by decide +kernel
theorem dX1_timeOfDay_0 : decode cX1_timeOfDay 0 = .ok (.aload_n 0, 1) := by decide +kernel
theorem dX1_timeOfDay_1 : decode cX1_timeOfDay 1 = .ok (.getfield 9, 3) := by decide +kernel
theorem dX1_timeOfDay_4 : decode cX1_timeOfDay 4 = .ok (.iconst 0, 1) := by decide +kernel
theorem dX1_timeOfDay_5 : decode cX1_timeOfDay 5 = .ok (.iaload, 1) := by decide +kernel
theorem dX1_timeOfDay_6 : decode cX1_timeOfDay 6 = .ok (.bipush 24, 2) := by decide +kernel
theorem dX1_timeOfDay_8 : decode cX1_timeOfDay 8 = .ok (.irem, 1) := by decide +kernel
theorem dX1_timeOfDay_9 : decode cX1_timeOfDay 9 = .ok (.ireturn, 1) := by decide +kernel
set_option maxRecDepth 20000 in
theorem ggX1_hoursToOpening_X1_today : GoodIn wsX1_hoursToOpening wsX1_today := goodIn_r _ [6, 1, 11, 12, 13, 14, 15, 16] (by decide +kernel) (by decide +kernel)
set_option maxRecDepth 20000 in
theorem gX1_hoursToOpening_X1_today : GoodIn wsX1_hoursToOpening (wsV RX1 214 RX1 yX1_today wsX1_today) := goodIn_app (goodIn_of _ (by decide +kernel)) ggX1_hoursToOpening_X1_today
set_option maxRecDepth 20000 in
theorem ggX1_hoursToOpening_X1_timeOfDay : GoodIn wsX1_hoursToOpening wsX1_timeOfDay := goodIn_r _ [10, 1, 11, 12, 13, 14, 15, 16] (by decide +kernel) (by decide +kernel)
set_option maxRecDepth 20000 in
theorem gX1_hoursToOpening_X1_timeOfDay : GoodIn wsX1_hoursToOpening (wsV RX1 217 RX1 yX1_timeOfDay wsX1_timeOfDay) := goodIn_app (goodIn_of _ (by decide +kernel)) ggX1_hoursToOpening_X1_timeOfDay
theorem dX1_hoursToOpening_0 : decode cX1_hoursToOpening 0 = .ok (.iconst 0, 1) := by decide +kernel
theorem dX1_hoursToOpening_1 : decode cX1_hoursToOpening 1 = .ok (.istore_n 1, 1) := by decide +kernel
theorem dX1_hoursToOpening_2 : decode cX1_hoursToOpening 2 = .ok (.iload_n 1, 1) := by decide +kernel
theorem dX1_hoursToOpening_3 : decode cX1_hoursToOpening 3 = .ok (.bipush 7, 2) := by decide +kernel
theorem dX1_hoursToOpening_5 : decode cX1_hoursToOpening 5 = .ok (.if_icmp .gt 50, 3) := by decide +kernel
theorem dX1_hoursToOpening_8 : decode cX1_hoursToOpening 8 = .ok (.aload_n 0, 1) := by decide +kernel
theorem dX1_hoursToOpening_9 : decode cX1_hoursToOpening 9 = .ok (.getfield 9, 3) := by decide +kernel
theorem dX1_hoursToOpening_12 : decode cX1_hoursToOpening 12 = .ok (.bipush 14, 2) := by decide +kernel
theorem dX1_hoursToOpening_14 : decode cX1_hoursToOpening 14 = .ok (.aload_n 0, 1) := by decide +kernel
theorem dX1_hoursToOpening_15 : decode cX1_hoursToOpening 15 = .ok (.invokevirtual 214, 3) := by decide +kernel
theorem dX1_hoursToOpening_18 : decode cX1_hoursToOpening 18 = .ok (.iload_n 1, 1) := by decide +kernel
theorem dX1_hoursToOpening_19 : decode cX1_hoursToOpening 19 = .ok (.iadd, 1) := by decide +kernel
theorem dX1_hoursToOpening_20 : decode cX1_hoursToOpening 20 = .ok (.bipush 7, 2) := by decide +kernel
theorem dX1_hoursToOpening_22 : decode cX1_hoursToOpening 22 = .ok (.irem, 1) := by decide +kernel
theorem dX1_hoursToOpening_23 : decode cX1_hoursToOpening 23 = .ok (.iadd, 1) := by decide +kernel
theorem dX1_hoursToOpening_24 : decode cX1_hoursToOpening 24 = .ok (.iaload, 1) := by decide +kernel
theorem dX1_hoursToOpening_25 : decode cX1_hoursToOpening 25 = .ok (.istore_n 2, 1) := by decide +kernel
theorem dX1_hoursToOpening_26 : decode cX1_hoursToOpening 26 = .ok (.iload_n 1, 1) := by decide +kernel
theorem dX1_hoursToOpening_27 : decode cX1_hoursToOpening 27 = .ok (.bipush 24, 2) := by decide +kernel
theorem dX1_hoursToOpening_29 : decode cX1_hoursToOpening 29 = .ok (.imul, 1) := by decide +kernel
theorem dX1_hoursToOpening_30 : decode cX1_hoursToOpening 30 = .ok (.iload_n 2, 1) := by decide +kernel
theorem dX1_hoursToOpening_31 : decode cX1_hoursToOpening 31 = .ok (.iadd, 1) := by decide +kernel
theorem dX1_hoursToOpening_32 : decode cX1_hoursToOpening 32 = .ok (.aload_n 0, 1) := by decide +kernel
theorem dX1_hoursToOpening_33 : decode cX1_hoursToOpening 33 = .ok (.invokevirtual 217, 3) := by decide +kernel
theorem dX1_hoursToOpening_36 : decode cX1_hoursToOpening 36 = .ok (.isub, 1) := by decide +kernel
theorem dX1_hoursToOpening_37 : decode cX1_hoursToOpening 37 = .ok (.istore_n 3, 1) := by decide +kernel
theorem dX1_hoursToOpening_38 : decode cX1_hoursToOpening 38 = .ok (.iload_n 2, 1) := by decide +kernel
theorem dX1_hoursToOpening_39 : decode cX1_hoursToOpening 39 = .ok (.iconst (-1), 1) := by decide +kernel
theorem dX1_hoursToOpening_40 : decode cX1_hoursToOpening 40 = .ok (.if_icmp .eq 9, 3) := by decide +kernel
theorem dX1_hoursToOpening_43 : decode cX1_hoursToOpening 43 = .ok (.iload_n 3, 1) := by decide +kernel
theorem dX1_hoursToOpening_44 : decode cX1_hoursToOpening 44 = .ok (.ifCond .le 5, 3) := by decide +kernel
theorem dX1_hoursToOpening_47 : decode cX1_hoursToOpening 47 = .ok (.iload_n 3, 1) := by decide +kernel
theorem dX1_hoursToOpening_48 : decode cX1_hoursToOpening 48 = .ok (.ireturn, 1) := by decide +kernel
theorem dX1_hoursToOpening_49 : decode cX1_hoursToOpening 49 = .ok (.iinc 1 1, 3) := by decide +kernel
theorem dX1_hoursToOpening_52 : decode cX1_hoursToOpening 52 = .ok (.goto (-50), 3) := by decide +kernel
theorem dX1_hoursToOpening_55 : decode cX1_hoursToOpening 55 = .ok (.iconst (-1), 1) := by decide +kernel
theorem dX1_hoursToOpening_56 : decode cX1_hoursToOpening 56 = .ok (.ireturn, 1) := by decide +kernel
theorem dX1_place_0 : decode cX1_place 0 = .ok (.bipush 21, 2) := by decide +kernel
theorem dX1_place_2 : decode cX1_place 2 = .ok (.iload_n 0, 1) := by decide +kernel
theorem dX1_place_3 : decode cX1_place 3 = .ok (.iconst 4, 1) := by decide +kernel
theorem dX1_place_4 : decode cX1_place 4 = .ok (.imul, 1) := by decide +kernel
theorem dX1_place_5 : decode cX1_place 5 = .ok (.iadd, 1) := by decide +kernel
theorem dX1_place_6 : decode cX1_place 6 = .ok (.iload_n 1, 1) := by decide +kernel
theorem dX1_place_7 : decode cX1_place 7 = .ok (.iadd, 1) := by decide +kernel
theorem dX1_place_8 : decode cX1_place 8 = .ok (.ireturn, 1) := by decide +kernel
set_option maxRecDepth 20000 in
theorem ggX1_goes_X1_place : GoodIn wsX1_goes wsX1_place := goodIn_r _ [5] (by decide +kernel) (by decide +kernel)
set_option maxRecDepth 20000 in
theorem gX1_goes_X1_place : GoodIn wsX1_goes (va_wsS RX1 91 yX1_place wsX1_place) := goodIn_app (goodIn_of _ (by decide +kernel)) ggX1_goes_X1_place
theorem dX1_goes_0 : decode cX1_goes 0 = .ok (.aload_n 0, 1) := by decide +kernel
theorem dX1_goes_1 : decode cX1_goes 1 = .ok (.getfield 9, 3) := by decide +kernel
theorem dX1_goes_4 : decode cX1_goes 4 = .ok (.iload_n 1, 1) := by decide +kernel
theorem dX1_goes_5 : decode cX1_goes 5 = .ok (.iconst 1, 1) := by decide +kernel
theorem dX1_goes_6 : decode cX1_goes 6 = .ok (.invokestatic 91, 3) := by decide +kernel
theorem dX1_goes_9 : decode cX1_goes 9 = .ok (.iaload, 1) := by decide +kernel
theorem dX1_goes_10 : decode cX1_goes 10 = .ok (.ifCond .eq 7, 3) := by decide +kernel
theorem dX1_goes_13 : decode cX1_goes 13 = .ok (.iconst 1, 1) := by decide +kernel
theorem dX1_goes_14 : decode cX1_goes 14 = .ok (.goto 4, 3) := by decide +kernel
theorem dX1_goes_17 : decode cX1_goes 17 = .ok (.iconst 0, 1) := by decide +kernel
theorem dX1_goes_18 : decode cX1_goes 18 = .ok (.ireturn, 1) := by decide +kernel
set_option maxRecDepth 20000 in
theorem ggX1_property_X1_place : GoodIn wsX1_property wsX1_place := goodIn_r _ [5] (by decide +kernel) (by decide +kernel)
set_option maxRecDepth 20000 in
theorem gX1_property_X1_place : GoodIn wsX1_property (va_wsS RX1 91 yX1_place wsX1_place) := goodIn_app (goodIn_of _ (by decide +kernel)) ggX1_property_X1_place
set_option maxRecDepth 20000 in
theorem ggX1_property_X1_goes : GoodIn wsX1_property wsX1_goes := goodIn_r _ [9, 1, 2, 3, 4, 5, 14, 15, 16, 17, 18, 19] (by decide +kernel) (by decide +kernel)
set_option maxRecDepth 20000 in
theorem gX1_property_X1_goes : GoodIn wsX1_property (wsV RX1 83 RX1 yX1_goes wsX1_goes) := goodIn_app (goodIn_of _ (by decide +kernel)) ggX1_property_X1_goes
set_option maxRecDepth 20000 in
theorem ggX1_property_X1_hoursToRunDown : GoodIn wsX1_property wsX1_hoursToRunDown := goodIn_r _ [13, 1, 2, 3, 4, 5, 14, 15, 16, 17, 18, 19] (by decide +kernel) (by decide +kernel)
set_option maxRecDepth 20000 in
theorem gX1_property_X1_hoursToRunDown : GoodIn wsX1_property (wsV RX1 220 RX1 yX1_hoursToRunDown wsX1_hoursToRunDown) := goodIn_app (goodIn_of _ (by decide +kernel)) ggX1_property_X1_hoursToRunDown
theorem dX1_property_0 : decode cX1_property 0 = .ok (.iload_n 2, 1) := by decide +kernel
