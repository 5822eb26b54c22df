theorem dX1_windAll_54 : decode cX1_windAll 54 = .ok (.dup, 1) := by decide +kernel
theorem dX1_windAll_55 : decode cX1_windAll 55 = .ok (.ldc 153, 2) := by decide +kernel
theorem dX1_windAll_57 : decode cX1_windAll 57 = .ok (.invokespecial 90, 3) := by decide +kernel
theorem dX1_windAll_60 : decode cX1_windAll 60 = .ok (.athrow, 1) := by decide +kernel
theorem dX1_windAll_61 : decode cX1_windAll 61 = .ok (.aload_n 0, 1) := by decide +kernel
theorem dX1_windAll_62 : decode cX1_windAll 62 = .ok (.invokevirtual 103, 3) := by decide +kernel
theorem dX1_windAll_65 : decode cX1_windAll 65 = .ok (.iconst 0, 1) := by decide +kernel
theorem dX1_windAll_66 : decode cX1_windAll 66 = .ok (.istore_n 2, 1) := by decide +kernel
theorem dX1_windAll_67 : decode cX1_windAll 67 = .ok (.iconst 0, 1) := by decide +kernel
theorem dX1_windAll_68 : decode cX1_windAll 68 = .ok (.istore_n 3, 1) := by decide +kernel
theorem dX1_windAll_69 : decode cX1_windAll 69 = .ok (.iload_n 3, 1) := by decide +kernel
theorem dX1_windAll_70 : decode cX1_windAll 70 = .ok (.iconst 3, 1) := by decide +kernel
theorem dX1_windAll_71 : decode cX1_windAll 71 = .ok (.if_icmp .ge 42, 3) := by decide +kernel
theorem dX1_windAll_74 : decode cX1_windAll 74 = .ok (.aload_n 0, 1) := by decide +kernel
theorem dX1_windAll_75 : decode cX1_windAll 75 = .ok (.getfield 29, 3) := by decide +kernel
theorem dX1_windAll_78 : decode cX1_windAll 78 = .ok (.iload_n 3, 1) := by decide +kernel
theorem dX1_windAll_79 : decode cX1_windAll 79 = .ok (.invokevirtual 155, 3) := by decide +kernel
theorem dX1_windAll_82 : decode cX1_windAll 82 = .ok (.ifCond .eq 25, 3) := by decide +kernel
theorem dX1_windAll_85 : decode cX1_windAll 85 = .ok (.aload_n 0, 1) := by decide +kernel
theorem dX1_windAll_86 : decode cX1_windAll 86 = .ok (.getfield 9, 3) := by decide +kernel
theorem dX1_windAll_89 : decode cX1_windAll 89 = .ok (.iload_n 3, 1) := by decide +kernel
theorem dX1_windAll_90 : decode cX1_windAll 90 = .ok (.iconst 0, 1) := by decide +kernel
theorem dX1_windAll_91 : decode cX1_windAll 91 = .ok (.invokestatic 91, 3) := by decide +kernel
theorem dX1_windAll_94 : decode cX1_windAll 94 = .ok (.aload_n 0, 1) := by decide +kernel
theorem dX1_windAll_95 : decode cX1_windAll 95 = .ok (.getfield 29, 3) := by decide +kernel
theorem dX1_windAll_98 : decode cX1_windAll 98 = .ok (.iload_n 3, 1) := by decide +kernel
theorem dX1_windAll_99 : decode cX1_windAll 99 = .ok (.iload_n 1, 1) := by decide +kernel
theorem dX1_windAll_100 : decode cX1_windAll 100 = .ok (.invokevirtual 158, 3) := by decide +kernel
theorem dX1_windAll_103 : decode cX1_windAll 103 = .ok (.iastore, 1) := by decide +kernel
theorem dX1_windAll_104 : decode cX1_windAll 104 = .ok (.iinc 2 1, 3) := by decide +kernel
theorem dX1_windAll_107 : decode cX1_windAll 107 = .ok (.iinc 3 1, 3) := by decide +kernel
theorem dX1_windAll_110 : decode cX1_windAll 110 = .ok (.goto (-41), 3) := by decide +kernel
theorem dX1_windAll_113 : decode cX1_windAll 113 = .ok (.aload_n 0, 1) := by decide +kernel
theorem dX1_windAll_114 : decode cX1_windAll 114 = .ok (.iconst 0, 1) := by decide +kernel
theorem dX1_windAll_115 : decode cX1_windAll 115 = .ok (.putfield 23, 3) := by decide +kernel
theorem dX1_windAll_118 : decode cX1_windAll 118 = .ok (.iload_n 2, 1) := by decide +kernel
theorem dX1_windAll_119 : decode cX1_windAll 119 = .ok (.ireturn, 1) := by decide +kernel
theorem dX1_undo_0 : decode cX1_undo 0 = .ok (.aload_n 0, 1) := by decide +kernel
theorem dX1_undo_1 : decode cX1_undo 1 = .ok (.getfield 16, 3) := by decide +kernel
theorem dX1_undo_4 : decode cX1_undo 4 = .ok (.ifCond .gt 13, 3) := by decide +kernel
theorem dX1_undo_7 : decode cX1_undo 7 = .ok (.new 86, 3) := by decide +kernel
theorem dX1_undo_10 : decode cX1_undo 10 = .ok (.dup, 1) := by decide +kernel
theorem dX1_undo_11 : decode cX1_undo 11 = .ok (.ldc 161, 2) := by decide +kernel
theorem dX1_undo_13 : decode cX1_undo 13 = .ok (.invokespecial 90, 3) := by decide +kernel
theorem dX1_undo_16 : decode cX1_undo 16 = .ok (.athrow, 1) := by decide +kernel
theorem dX1_undo_17 : decode cX1_undo 17 = .ok (.aload_n 0, 1) := by decide +kernel
theorem dX1_undo_18 : decode cX1_undo 18 = .ok (.dup, 1) := by decide +kernel
theorem dX1_undo_19 : decode cX1_undo 19 = .ok (.getfield 16, 3) := by decide +kernel
theorem dX1_undo_22 : decode cX1_undo 22 = .ok (.iconst 1, 1) := by decide +kernel
theorem dX1_undo_23 : decode cX1_undo 23 = .ok (.isub, 1) := by decide +kernel
theorem dX1_undo_24 : decode cX1_undo 24 = .ok (.putfield 16, 3) := by decide +kernel
theorem dX1_undo_27 : decode cX1_undo 27 = .ok (.aload_n 0, 1) := by decide +kernel
theorem dX1_undo_28 : decode cX1_undo 28 = .ok (.getfield 13, 3) := by decide +kernel
theorem dX1_undo_31 : decode cX1_undo 31 = .ok (.aload_n 0, 1) := by decide +kernel
theorem dX1_undo_32 : decode cX1_undo 32 = .ok (.getfield 16, 3) := by decide +kernel
theorem dX1_undo_35 : decode cX1_undo 35 = .ok (.bipush 33, 2) := by decide +kernel
theorem dX1_undo_37 : decode cX1_undo 37 = .ok (.imul, 1) := by decide +kernel
theorem dX1_undo_38 : decode cX1_undo 38 = .ok (.aload_n 0, 1) := by decide +kernel
theorem dX1_undo_39 : decode cX1_undo 39 = .ok (.getfield 9, 3) := by decide +kernel
theorem dX1_undo_42 : decode cX1_undo 42 = .ok (.iconst 0, 1) := by decide +kernel
theorem dX1_undo_43 : decode cX1_undo 43 = .ok (.bipush 33, 2) := by decide +kernel
theorem dX1_undo_45 : decode cX1_undo 45 = .ok (.invokestatic 163, 3) := by decide +kernel
theorem dX1_undo_48 : decode cX1_undo 48 = .ok (.aload_n 0, 1) := by decide +kernel
theorem dX1_undo_49 : decode cX1_undo 49 = .ok (.getfield 16, 3) := by decide +kernel
theorem dX1_undo_52 : decode cX1_undo 52 = .ok (.ireturn, 1) := by decide +kernel
set_option maxRecDepth 20000 in
theorem ggX1_movement_X1_isMovement : GoodIn wsX1_movement wsX1_isMovement := goodIn_r _ [8] (by decide +kernel) (by decide +kernel)
set_option maxRecDepth 20000 in
theorem gX1_movement_X1_isMovement : GoodIn wsX1_movement (va_wsS RX1 69 yX1_isMovement wsX1_isMovement) := goodIn_app (goodIn_of _ (by decide +kernel)) ggX1_movement_X1_isMovement
set_option maxRecDepth 20000 in
theorem ggX1_movement_X1_property : GoodIn wsX1_movement wsX1_property := goodIn_r _ [12, 13, 14, 15, 7, 16, 17, 18, 19, 20, 21, 22, 23, 24, 25, 26, 27, 28, 29, 30] (by decide +kernel) (by decide +kernel)
set_option maxRecDepth 20000 in
theorem gX1_movement_X1_property : GoodIn wsX1_movement (wsV RX1 171 RX1 yX1_property wsX1_property) := goodIn_app (goodIn_of _ (by decide +kernel)) ggX1_movement_X1_property
theorem dX1_movement_0 : decode cX1_movement 0 = .ok (.iload_n 1, 1) := by decide +kernel
theorem dX1_movement_1 : decode cX1_movement 1 = .ok (.invokestatic 69, 3) := by decide +kernel
theorem dX1_movement_4 : decode cX1_movement 4 = .ok (.ifCond .ne 13, 3) := by decide +kernel
theorem dX1_movement_7 : decode cX1_movement 7 = .ok (.new 40, 3) := by decide +kernel
theorem dX1_movement_10 : decode cX1_movement 10 = .ok (.dup, 1) := by decide +kernel
theorem dX1_movement_11 : decode cX1_movement 11 = .ok (.ldc 72, 2) := by decide +kernel
theorem dX1_movement_13 : decode cX1_movement 13 = .ok (.invokespecial 44, 3) := by decide +kernel
theorem dX1_movement_16 : decode cX1_movement 16 = .ok (.athrow, 1) := by decide +kernel
theorem dX1_movement_17 : decode cX1_movement 17 = .ok (.iload_n 2, 1) := by decide +kernel
theorem dX1_movement_18 : decode cX1_movement 18 = .ok (.ifCond .lt 8, 3) := by decide +kernel
theorem dX1_movement_21 : decode cX1_movement 21 = .ok (.iload_n 2, 1) := by decide +kernel
theorem dX1_movement_22 : decode cX1_movement 22 = .ok (.iconst 5, 1) := by decide +kernel
theorem dX1_movement_23 : decode cX1_movement 23 = .ok (.if_icmp .le 13, 3) := by decide +kernel
theorem dX1_movement_26 : decode cX1_movement 26 = .ok (.new 47, 3) := by decide +kernel
theorem dX1_movement_29 : decode cX1_movement 29 = .ok (.dup, 1) := by decide +kernel
theorem dX1_movement_30 : decode cX1_movement 30 = .ok (.ldc 169, 2) := by decide +kernel
theorem dX1_movement_32 : decode cX1_movement 32 = .ok (.invokespecial 51, 3) := by decide +kernel
theorem dX1_movement_35 : decode cX1_movement 35 = .ok (.athrow, 1) := by decide +kernel
theorem dX1_movement_36 : decode cX1_movement 36 = .ok (.aload_n 0, 1) := by decide +kernel
theorem dX1_movement_37 : decode cX1_movement 37 = .ok (.iload_n 1, 1) := by decide +kernel
theorem dX1_movement_38 : decode cX1_movement 38 = .ok (.iload_n 2, 1) := by decide +kernel
theorem dX1_movement_39 : decode cX1_movement 39 = .ok (.invokevirtual 171, 3) := by decide +kernel
theorem dX1_movement_42 : decode cX1_movement 42 = .ok (.ireturn, 1) := by decide +kernel
set_option maxRecDepth 20000 in
theorem ggX1_day_X1_isDay : GoodIn wsX1_day wsX1_isDay := goodIn_r _ [7] (by decide +kernel) (by decide +kernel)
set_option maxRecDepth 20000 in
theorem gX1_day_X1_isDay : GoodIn wsX1_day (va_wsS RX1 36 yX1_isDay wsX1_isDay) := goodIn_app (goodIn_of _ (by decide +kernel)) ggX1_day_X1_isDay
theorem dX1_day_0 : decode cX1_day 0 = .ok (.iload_n 1, 1) := by decide +kernel
theorem dX1_day_1 : decode cX1_day 1 = .ok (.invokestatic 36, 3) := by decide +kernel
theorem dX1_day_4 : decode cX1_day 4 = .ok (.ifCond .ne 13, 3) := by decide +kernel
theorem dX1_day_7 : decode cX1_day 7 = .ok (.new 40, 3) := by decide +kernel
theorem dX1_day_10 : decode cX1_day 10 = .ok (.dup, 1) := by decide +kernel
theorem dX1_day_11 : decode cX1_day 11 = .ok (.ldc 42, 2) := by decide +kernel
theorem dX1_day_13 : decode cX1_day 13 = .ok (.invokespecial 44, 3) := by decide +kernel
theorem dX1_day_16 : decode cX1_day 16 = .ok (.athrow, 1) := by decide +kernel
theorem dX1_day_17 : decode cX1_day 17 = .ok (.aload_n 0, 1) := by decide +kernel
theorem dX1_day_18 : decode cX1_day 18 = .ok (.getfield 9, 3) := by decide +kernel
theorem dX1_day_21 : decode cX1_day 21 = .ok (.bipush 14, 2) := by decide +kernel
theorem dX1_day_23 : decode cX1_day 23 = .ok (.iload_n 1, 1) := by decide +kernel
theorem dX1_day_24 : decode cX1_day 24 = .ok (.iadd, 1) := by decide +kernel
theorem dX1_day_25 : decode cX1_day 25 = .ok (.iaload, 1) := by decide +kernel
theorem dX1_day_26 : decode cX1_day 26 = .ok (.ireturn, 1) := by decide +kernel
set_option maxRecDepth 20000 in
theorem ggX1_count_X1_number : GoodIn wsX1_count wsX1_number := goodIn_r _ [7, 8, 9, 10, 11, 12, 6, 13, 14, 15, 16, 17, 18, 19, 20, 21, 22, 23, 24, 25, 26, 27, 28, 29, 30, 31, 32, 33, 34, 35] (by decide +kernel) (by decide +kernel)
set_option maxRecDepth 20000 in
theorem gX1_count_X1_number : GoodIn wsX1_count (wsV RX1 176 RX1 yX1_number wsX1_number) := goodIn_app (goodIn_of _ (by decide +kernel)) ggX1_count_X1_number
theorem dX1_count_0 : decode cX1_count 0 = .ok (.iload_n 1, 1) := by decide +kernel
theorem dX1_count_1 : decode cX1_count 1 = .ok (.ifCond .lt 9, 3) := by decide +kernel
theorem dX1_count_4 : decode cX1_count 4 = .ok (.iload_n 1, 1) := by decide +kernel
theorem dX1_count_5 : decode cX1_count 5 = .ok (.bipush 14, 2) := by decide +kernel
theorem dX1_count_7 : decode cX1_count 7 = .ok (.if_icmp .le 13, 3) := by decide +kernel
theorem dX1_count_10 : decode cX1_count 10 = .ok (.new 47, 3) := by decide +kernel
theorem dX1_count_13 : decode cX1_count 13 = .ok (.dup, 1) := by decide +kernel
theorem dX1_count_14 : decode cX1_count 14 = .ok (.ldc 174, 2) := by decide +kernel
theorem dX1_count_16 : decode cX1_count 16 = .ok (.invokespecial 51, 3) := by decide +kernel
theorem dX1_count_19 : decode cX1_count 19 = .ok (.athrow, 1) := by decide +kernel
theorem dX1_count_20 : decode cX1_count 20 = .ok (.aload_n 0, 1) := by decide +kernel
theorem dX1_count_21 : decode cX1_count 21 = .ok (.iload_n 1, 1) := by decide +kernel
theorem dX1_count_22 : decode cX1_count 22 = .ok (.invokevirtual 176, 3) := by decide +kernel
theorem dX1_count_25 : decode cX1_count 25 = .ok (.ireturn, 1) := by decide +kernel
set_option maxRecDepth 20000 in
theorem ggX1_setting_X1_isSetting : GoodIn wsX1_setting wsX1_isSetting := goodIn_r _ [7] (by decide +kernel) (by decide +kernel)
set_option maxRecDepth 20000 in
theorem gX1_setting_X1_isSetting : GoodIn wsX1_setting (va_wsS RX1 56 yX1_isSetting wsX1_isSetting) := goodIn_app (goodIn_of _ (by decide +kernel)) ggX1_setting_X1_isSetting
theorem dX1_setting_0 : decode cX1_setting 0 = .ok (.iload_n 1, 1) := by decide +kernel
theorem dX1_setting_1 : decode cX1_setting 1 = .ok (.invokestatic 56, 3) := by decide +kernel
theorem dX1_setting_4 : decode cX1_setting 4 = .ok (.ifCond .ne 13, 3) := by decide +kernel
theorem dX1_setting_7 : decode cX1_setting 7 = .ok (.new 40, 3) := by decide +kernel
theorem dX1_setting_10 : decode cX1_setting 10 = .ok (.dup, 1) := by decide +kernel
theorem dX1_setting_11 : decode cX1_setting 11 = .ok (.ldc 59, 2) := by decide +kernel
theorem dX1_setting_13 : decode cX1_setting 13 = .ok (.invokespecial 44, 3) := by decide +kernel
theorem dX1_setting_16 : decode cX1_setting 16 = .ok (.athrow, 1) := by decide +kernel
theorem dX1_setting_17 : decode cX1_setting 17 = .ok (.aload_n 0, 1) := by decide +kernel
theorem dX1_setting_18 : decode cX1_setting 18 = .ok (.getfield 9, 3) := by decide +kernel
theorem dX1_setting_21 : decode cX1_setting 21 = .ok (.bipush 11, 2) := by decide +kernel
theorem dX1_setting_23 : decode cX1_setting 23 = .ok (.iload_n 1, 1) := by decide +kernel
theorem dX1_setting_24 : decode cX1_setting 24 = .ok (.iadd, 1) := by decide +kernel
theorem dX1_setting_25 : decode cX1_setting 25 = .ok (.iaload, 1) := by decide +kernel
theorem dX1_setting_26 : decode cX1_setting 26 = .ok (.ireturn, 1) := by decide +kernel
set_option maxRecDepth 20000 in
theorem ggX1_opensIn_X1_hoursToOpen : GoodIn wsX1_opensIn wsX1_hoursToOpen := goodIn_r _ [5, 6, 7, 8, 9, 10, 11, 12, 4, 13, 14, 15, 16, 17, 18, 19, 20, 21, 22, 23, 24, 25, 26, 27, 28, 29, 30, 31, 32, 33, 34, 35] (by decide +kernel) (by decide +kernel)
set_option maxRecDepth 20000 in
theorem gX1_opensIn_X1_hoursToOpen : GoodIn wsX1_opensIn (wsV RX1 112 RX1 yX1_hoursToOpen wsX1_hoursToOpen) := goodIn_app (goodIn_of _ (by decide +kernel)) ggX1_opensIn_X1_hoursToOpen
theorem dX1_opensIn_0 : decode cX1_opensIn 0 = .ok (.aload_n 0, 1) := by decide +kernel
theorem dX1_opensIn_1 : decode cX1_opensIn 1 = .ok (.iconst (-1), 1) := by decide +kernel
theorem dX1_opensIn_2 : decode cX1_opensIn 2 = .ok (.invokevirtual 112, 3) := by decide +kernel
theorem dX1_opensIn_5 : decode cX1_opensIn 5 = .ok (.ireturn, 1) := by decide +kernel
set_option maxRecDepth 20000 in
theorem ggX1_lateness_X1_isLocked : GoodIn wsX1_lateness wsX1_isLocked := goodIn_r _ [9, 10, 34, 35, 36, 37, 38, 39] (by decide +kernel) (by decide +kernel)
set_option maxRecDepth 20000 in
theorem gX1_lateness_X1_isLocked : GoodIn wsX1_lateness (wsV RX1 79 RX1 yX1_isLocked wsX1_isLocked) := goodIn_app (goodIn_of _ (by decide +kernel)) ggX1_lateness_X1_isLocked
set_option maxRecDepth 20000 in
theorem ggX1_lateness_X1_hoursToOpen : GoodIn wsX1_lateness wsX1_hoursToOpen := goodIn_r _ [14, 1, 2, 3, 4, 5, 6, 7, 8, 9, 10, 15, 16, 17, 18, 19, 20, 21, 22, 23, 24, 25, 26, 27, 28, 29, 34, 35, 36, 37, 38, 39] (by decide +kernel) (by decide +kernel)
set_option maxRecDepth 20000 in
theorem gX1_lateness_X1_hoursToOpen : GoodIn wsX1_lateness (wsV RX1 112 RX1 yX1_hoursToOpen wsX1_hoursToOpen) := goodIn_app (goodIn_of _ (by decide +kernel)) ggX1_lateness_X1_hoursToOpen
set_option maxRecDepth 20000 in
theorem ggX1_lateness_X1_latenessAfter : GoodIn wsX1_lateness wsX1_latenessAfter := goodIn_r _ [33, 10, 34, 35, 36, 37, 38, 39] (by decide +kernel) (by decide +kernel)
set_option maxRecDepth 20000 in
theorem gX1_lateness_X1_latenessAfter : GoodIn wsX1_lateness (wsV RX1 119 RX1 yX1_latenessAfter wsX1_latenessAfter) := goodIn_app (goodIn_of _ (by decide +kernel)) ggX1_lateness_X1_latenessAfter
theorem dX1_lateness_0 : decode cX1_lateness 0 = .ok (.aload_n 0, 1) := by decide +kernel
theorem dX1_lateness_1 : decode cX1_lateness 1 = .ok (.invokevirtual 79, 3) := by decide +kernel
theorem dX1_lateness_4 : decode cX1_lateness 4 = .ok (.ifCond .ne 5, 3) := by decide +kernel
theorem dX1_lateness_7 : decode cX1_lateness 7 = .ok (.iconst 0, 1) := by decide +kernel
theorem dX1_lateness_8 : decode cX1_lateness 8 = .ok (.ireturn, 1) := by decide +kernel
theorem dX1_lateness_9 : decode cX1_lateness 9 = .ok (.aload_n 0, 1) := by decide +kernel
theorem dX1_lateness_10 : decode cX1_lateness 10 = .ok (.iconst (-1), 1) := by decide +kernel
theorem dX1_lateness_11 : decode cX1_lateness 11 = .ok (.invokevirtual 112, 3) := by decide +kernel
theorem dX1_lateness_14 : decode cX1_lateness 14 = .ok (.istore_n 1, 1) := by decide +kernel
theorem dX1_lateness_15 : decode cX1_lateness 15 = .ok (.iload_n 1, 1) := by decide +kernel
theorem dX1_lateness_16 : decode cX1_lateness 16 = .ok (.iconst (-1), 1) := by decide +kernel
theorem dX1_lateness_17 : decode cX1_lateness 17 = .ok (.if_icmp .ne 9, 3) := by decide +kernel
theorem dX1_lateness_20 : decode cX1_lateness 20 = .ok (.sipush 1000, 3) := by decide +kernel
theorem dX1_lateness_23 : decode cX1_lateness 23 = .ok (.goto 12, 3) := by decide +kernel
theorem dX1_lateness_26 : decode cX1_lateness 26 = .ok (.aload_n 0, 1) := by decide +kernel
theorem dX1_lateness_27 : decode cX1_lateness 27 = .ok (.iload_n 1, 1) := by decide +kernel
theorem dX1_lateness_28 : decode cX1_lateness 28 = .ok (.iconst 1, 1) := by decide +kernel
theorem dX1_lateness_29 : decode cX1_lateness 29 = .ok (.invokestatic 179, 3) := by decide +kernel
theorem dX1_lateness_32 : decode cX1_lateness 32 = .ok (.invokevirtual 119, 3) := by decide +kernel
theorem dX1_lateness_35 : decode cX1_lateness 35 = .ok (.ireturn, 1) := by decide +kernel
set_option maxRecDepth 20000 in
theorem ggX1_keyMovement_X1_hoursToOpen : GoodIn wsX1_keyMovement wsX1_hoursToOpen := goodIn_r _ [5, 6, 7, 8, 9, 10, 11, 12, 4, 13, 14, 15, 16, 17, 18, 19, 20, 21, 22, 23, 24, 25, 26, 27, 28, 29, 30, 31, 32, 33, 34, 35] (by decide +kernel) (by decide +kernel)
set_option maxRecDepth 20000 in
theorem gX1_keyMovement_X1_hoursToOpen : GoodIn wsX1_keyMovement (wsV RX1 112 RX1 yX1_hoursToOpen wsX1_hoursToOpen) := goodIn_app (goodIn_of _ (by decide +kernel)) ggX1_keyMovement_X1_hoursToOpen
theorem dX1_keyMovement_0 : decode cX1_keyMovement 0 = .ok (.aload_n 0, 1) := by decide +kernel
theorem dX1_keyMovement_1 : decode cX1_keyMovement 1 = .ok (.iconst (-1), 1) := by decide +kernel
theorem dX1_keyMovement_2 : decode cX1_keyMovement 2 = .ok (.invokevirtual 112, 3) := by decide +kernel
theorem dX1_keyMovement_5 : decode cX1_keyMovement 5 = .ok (.istore_n 1, 1) := by decide +kernel
theorem dX1_keyMovement_6 : decode cX1_keyMovement 6 = .ok (.iconst 0, 1) := by decide +kernel
theorem dX1_keyMovement_7 : decode cX1_keyMovement 7 = .ok (.istore_n 2, 1) := by decide +kernel
theorem dX1_keyMovement_8 : decode cX1_keyMovement 8 = .ok (.iload_n 2, 1) := by decide +kernel
theorem dX1_keyMovement_9 : decode cX1_keyMovement 9 = .ok (.iconst 3, 1) := by decide +kernel
theorem dX1_keyMovement_10 : decode cX1_keyMovement 10 = .ok (.if_icmp .ge 20, 3) := by decide +kernel
theorem dX1_keyMovement_13 : decode cX1_keyMovement 13 = .ok (.aload_n 0, 1) := by decide +kernel
theorem dX1_keyMovement_14 : decode cX1_keyMovement 14 = .ok (.iload_n 2, 1) := by decide +kernel
theorem dX1_keyMovement_15 : decode cX1_keyMovement 15 = .ok (.invokevirtual 112, 3) := by decide +kernel
theorem dX1_keyMovement_18 : decode cX1_keyMovement 18 = .ok (.iload_n 1, 1) := by decide +kernel
theorem dX1_keyMovement_19 : decode cX1_keyMovement 19 = .ok (.if_icmp .eq 5, 3) := by decide +kernel
theorem dX1_keyMovement_22 : decode cX1_keyMovement 22 = .ok (.iload_n 2, 1) := by decide +kernel
theorem dX1_keyMovement_23 : decode cX1_keyMovement 23 = .ok (.ireturn, 1) := by decide +kernel
theorem dX1_keyMovement_24 : decode cX1_keyMovement 24 = .ok (.iinc 2 1, 3) := by decide +kernel
theorem dX1_keyMovement_27 : decode cX1_keyMovement 27 = .ok (.goto (-19), 3) := by decide +kernel
theorem dX1_keyMovement_30 : decode cX1_keyMovement 30 = .ok (.iconst (-1), 1) := by decide +kernel
theorem dX1_keyMovement_31 : decode cX1_keyMovement 31 = .ok (.ireturn, 1) := by decide +kernel
set_option maxRecDepth 20000 in
theorem ggX1_rightWinding_X1_isMovement : GoodIn wsX1_rightWinding wsX1_isMovement := goodIn_r _ [6] (by decide +kernel) (by decide +kernel)
set_option maxRecDepth 20000 in
theorem gX1_rightWinding_X1_isMovement : GoodIn wsX1_rightWinding (va_wsS RX1 69 yX1_isMovement wsX1_isMovement) := goodIn_app (goodIn_of _ (by decide +kernel)) ggX1_rightWinding_X1_isMovement
set_option maxRecDepth 20000 in
theorem ggX1_rightWinding_X1_hoursToWind : GoodIn wsX1_rightWinding wsX1_hoursToWind := goodIn_r _ [10, 11, 12, 13, 14, 5, 15, 16, 17, 18, 19, 20, 21, 22, 23, 24, 25, 26, 27, 28, 29, 30, 31, 32, 33, 34, 35, 36, 37, 38, 39, 40, 41, 42] (by decide +kernel) (by decide +kernel)
set_option maxRecDepth 20000 in
theorem gX1_rightWinding_X1_hoursToWind : GoodIn wsX1_rightWinding (wsV RX1 184 RX1 yX1_hoursToWind wsX1_hoursToWind) := goodIn_app (goodIn_of _ (by decide +kernel)) ggX1_rightWinding_X1_hoursToWind
theorem dX1_rightWinding_0 : decode cX1_rightWinding 0 = .ok (.iload_n 1, 1) := by decide +kernel
theorem dX1_rightWinding_1 : decode cX1_rightWinding 1 = .ok (.invokestatic 69, 3) := by decide +kernel
theorem dX1_rightWinding_4 : decode cX1_rightWinding 4 = .ok (.ifCond .ne 13, 3) := by decide +kernel
theorem dX1_rightWinding_7 : decode cX1_rightWinding 7 = .ok (.new 40, 3) := by decide +kernel
theorem dX1_rightWinding_10 : decode cX1_rightWinding 10 = .ok (.dup, 1) := by decide +kernel
theorem dX1_rightWinding_11 : decode cX1_rightWinding 11 = .ok (.ldc 72, 2) := by decide +kernel
theorem dX1_rightWinding_13 : decode cX1_rightWinding 13 = .ok (.invokespecial 44, 3) := by decide +kernel
theorem dX1_rightWinding_16 : decode cX1_rightWinding 16 = .ok (.athrow, 1) := by decide +kernel
theorem dX1_rightWinding_17 : decode cX1_rightWinding 17 = .ok (.aload_n 0, 1) := by decide +kernel
theorem dX1_rightWinding_18 : decode cX1_rightWinding 18 = .ok (.iload_n 1, 1) := by decide +kernel
theorem dX1_rightWinding_19 : decode cX1_rightWinding 19 = .ok (.invokevirtual 184, 3) := by decide +kernel
theorem dX1_rightWinding_22 : decode cX1_rightWinding 22 = .ok (.ireturn, 1) := by decide +kernel
theorem dX1_punctuality_0 : decode cX1_punctuality 0 = .ok (.aload_n 0, 1) := by decide +kernel
theorem dX1_punctuality_1 : decode cX1_punctuality 1 = .ok (.getfield 9, 3) := by decide +kernel
theorem dX1_punctuality_4 : decode cX1_punctuality 4 = .ok (.bipush 6, 2) := by decide +kernel
theorem dX1_punctuality_6 : decode cX1_punctuality 6 = .ok (.iaload, 1) := by decide +kernel
theorem dX1_punctuality_7 : decode cX1_punctuality 7 = .ok (.aload_n 0, 1) := by decide +kernel
theorem dX1_punctuality_8 : decode cX1_punctuality 8 = .ok (.getfield 9, 3) := by decide +kernel
theorem dX1_punctuality_11 : decode cX1_punctuality 11 = .ok (.bipush 10, 2) := by decide +kernel
theorem dX1_punctuality_13 : decode cX1_punctuality 13 = .ok (.iaload, 1) := by decide +kernel
theorem dX1_punctuality_14 : decode cX1_punctuality 14 = .ok (.iadd, 1) := by decide +kernel
theorem dX1_punctuality_15 : decode cX1_punctuality 15 = .ok (.istore_n 1, 1) := by decide +kernel
theorem dX1_punctuality_16 : decode cX1_punctuality 16 = .ok (.iload_n 1, 1) := by decide +kernel
theorem dX1_punctuality_17 : decode cX1_punctuality 17 = .ok (.ifCond .ne 7, 3) := by decide +kernel
theorem dX1_punctuality_20 : decode cX1_punctuality 20 = .ok (.dconst 1, 1) := by decide +kernel
theorem dX1_punctuality_21 : decode cX1_punctuality 21 = .ok (.goto 14, 3) := by decide +kernel
theorem dX1_punctuality_24 : decode cX1_punctuality 24 = .ok (.aload_n 0, 1) := by decide +kernel
theorem dX1_punctuality_25 : decode cX1_punctuality 25 = .ok (.getfield 9, 3) := by decide +kernel
theorem dX1_punctuality_28 : decode cX1_punctuality 28 = .ok (.bipush 7, 2) := by decide +kernel
theorem dX1_punctuality_30 : decode cX1_punctuality 30 = .ok (.iaload, 1) := by decide +kernel
theorem dX1_punctuality_31 : decode cX1_punctuality 31 = .ok (.i2d, 1) := by decide +kernel
theorem dX1_punctuality_32 : decode cX1_punctuality 32 = .ok (.iload_n 1, 1) := by decide +kernel
theorem dX1_punctuality_33 : decode cX1_punctuality 33 = .ok (.i2d, 1) := by decide +kernel
theorem dX1_punctuality_34 : decode cX1_punctuality 34 = .ok (.ddiv, 1) := by decide +kernel
theorem dX1_punctuality_35 : decode cX1_punctuality 35 = .ok (.dreturn, 1) := by decide +kernel
set_option maxRecDepth 20000 in
theorem ggX1_digest_X1_number : GoodIn wsX1_digest wsX1_number := goodIn_r _ [10, 3, 11, 12, 13, 14, 9, 15, 16, 17, 18, 19, 20, 21, 22, 23, 24, 25, 26, 27, 28, 29, 30, 31, 91, 92, 93, 94, 95, 96] (by decide +kernel) (by decide +kernel)
set_option maxRecDepth 20000 in
theorem gX1_digest_X1_number : GoodIn wsX1_digest (wsV RX1 176 RX1 yX1_number wsX1_number) := goodIn_app (goodIn_of _ (by decide +kernel)) ggX1_digest_X1_number
set_option maxRecDepth 20000 in
theorem ggX1_digest_X1_property : GoodIn wsX1_digest wsX1_property := goodIn_r _ [35, 3, 36, 37, 9, 38, 39, 40, 41, 42, 43, 44, 45, 46, 91, 92, 93, 94, 95, 96] (by decide +kernel) (by decide +kernel)
set_option maxRecDepth 20000 in
theorem gX1_digest_X1_property : GoodIn wsX1_digest (wsV RX1 171 RX1 yX1_property wsX1_property) := goodIn_app (goodIn_of _ (by decide +kernel)) ggX1_digest_X1_property
set_option maxRecDepth 20000 in
theorem ggX1_digest_X1_hoursToWind : GoodIn wsX1_digest wsX1_hoursToWind := goodIn_r _ [50, 3, 20, 21, 22, 9, 23, 12, 13, 14, 15, 16, 17, 18, 19, 36, 37, 38, 39, 40, 41, 42, 51, 52, 53, 54, 55, 56, 91, 92, 93, 94, 95, 96] (by decide +kernel) (by decide +kernel)
set_option maxRecDepth 20000 in
theorem gX1_digest_X1_hoursToWind : GoodIn wsX1_digest (wsV RX1 184 RX1 yX1_hoursToWind wsX1_hoursToWind) := goodIn_app (goodIn_of _ (by decide +kernel)) ggX1_digest_X1_hoursToWind
set_option maxRecDepth 20000 in
theorem ggX1_digest_X1_opensIn : GoodIn wsX1_digest wsX1_opensIn := goodIn_r _ [60, 61, 62, 63, 9, 64, 28, 29, 30, 31, 65, 66, 67, 68, 3, 39, 40, 41, 42, 36, 37, 38, 43, 44, 45, 46, 24, 25, 26, 27, 91, 92, 93, 94, 95, 96] (by decide +kernel) (by decide +kernel)
set_option maxRecDepth 20000 in
theorem gX1_digest_X1_opensIn : GoodIn wsX1_digest (wsV RX1 191 RX1 yX1_opensIn wsX1_opensIn) := goodIn_app (goodIn_of _ (by decide +kernel)) ggX1_digest_X1_opensIn
set_option maxRecDepth 20000 in
theorem ggX1_digest_X1_lateness : GoodIn wsX1_digest wsX1_lateness := goodIn_r _ [72, 28, 29, 30, 31, 65, 66, 67, 9, 68, 3, 61, 62, 63, 64, 39, 40, 41, 42, 36, 37, 38, 43, 44, 45, 46, 24, 25, 26, 27, 73, 74, 75, 76, 91, 92, 93, 94, 95, 96] (by decide +kernel) (by decide +kernel)
set_option maxRecDepth 20000 in
theorem gX1_digest_X1_lateness : GoodIn wsX1_digest (wsV RX1 194 RX1 yX1_lateness wsX1_lateness) := goodIn_app (goodIn_of _ (by decide +kernel)) ggX1_digest_X1_lateness
set_option maxRecDepth 20000 in
theorem ggX1_digest_X1_keyMovement : GoodIn wsX1_digest wsX1_keyMovement := goodIn_r _ [80, 61, 62, 63, 9, 64, 28, 29, 30, 31, 65, 66, 67, 68, 3, 39, 40, 41, 42, 36, 37, 38, 43, 44, 45, 46, 24, 25, 26, 27, 91, 92, 93, 94, 95, 96] (by decide +kernel) (by decide +kernel)
set_option maxRecDepth 20000 in
theorem gX1_digest_X1_keyMovement : GoodIn wsX1_digest (wsV RX1 197 RX1 yX1_keyMovement wsX1_keyMovement) := goodIn_app (goodIn_of _ (by decide +kernel)) ggX1_digest_X1_keyMovement
set_option maxRecDepth 20000 in
theorem ggX1_digest_X1_punctuality : GoodIn wsX1_digest wsX1_punctuality := goodIn_r _ [84, 3, 91, 92, 93, 94, 95, 96] (by decide +kernel) (by decide +kernel)
set_option maxRecDepth 20000 in
theorem gX1_digest_X1_punctuality : GoodIn wsX1_digest (wsV RX1 200 RX1 yX1_punctuality wsX1_punctuality) := goodIn_app (goodIn_of _ (by decide +kernel)) ggX1_digest_X1_punctuality
set_option maxRecDepth 20000 in
theorem ggX1_digest_X1_bitsOfShare : GoodIn wsX1_digest wsX1_bitsOfShare := goodIn_r _ [87, 88, 89, 90] (by decide +kernel) (by decide +kernel)
set_option maxRecDepth 20000 in
theorem gX1_digest_X1_bitsOfShare : GoodIn wsX1_digest (va_wsS RX1 204 yX1_bitsOfShare wsX1_bitsOfShare) := goodIn_app (goodIn_of _ (by decide +kernel)) ggX1_digest_X1_bitsOfShare
theorem dX1_digest_0 : decode cX1_digest 0 = .ok (.ldc2_w 187, 3) := by decide +kernel
theorem dX1_digest_3 : decode cX1_digest 3 = .ok (.lstore_n 1, 1) := by decide +kernel
theorem dX1_digest_4 : decode cX1_digest 4 = .ok (.iconst 0, 1) := by decide +kernel
theorem dX1_digest_5 : decode cX1_digest 5 = .ok (.istore_n 3, 1) := by decide +kernel
theorem dX1_digest_6 : decode cX1_digest 6 = .ok (.iload_n 3, 1) := by decide +kernel
theorem dX1_digest_7 : decode cX1_digest 7 = .ok (.bipush 14, 2) := by decide +kernel
theorem dX1_digest_9 : decode cX1_digest 9 = .ok (.if_icmp .gt 22, 3) := by decide +kernel
theorem dX1_digest_12 : decode cX1_digest 12 = .ok (.ldc2_w 189, 3) := by decide +kernel
theorem dX1_digest_15 : decode cX1_digest 15 = .ok (.lload_n 1, 1) := by decide +kernel
theorem dX1_digest_16 : decode cX1_digest 16 = .ok (.lmul, 1) := by decide +kernel
theorem dX1_digest_17 : decode cX1_digest 17 = .ok (.aload_n 0, 1) := by decide +kernel
theorem dX1_digest_18 : decode cX1_digest 18 = .ok (.iload_n 3, 1) := by decide +kernel
theorem dX1_digest_19 : decode cX1_digest 19 = .ok (.invokevirtual 176, 3) := by decide +kernel
theorem dX1_digest_22 : decode cX1_digest 22 = .ok (.i2l, 1) := by decide +kernel
theorem dX1_digest_23 : decode cX1_digest 23 = .ok (.ladd, 1) := by decide +kernel
theorem dX1_digest_24 : decode cX1_digest 24 = .ok (.lstore_n 1, 1) := by decide +kernel
theorem dX1_digest_25 : decode cX1_digest 25 = .ok (.iinc 3 1, 3) := by decide +kernel
theorem dX1_digest_28 : decode cX1_digest 28 = .ok (.goto (-22), 3) := by decide +kernel
theorem dX1_digest_31 : decode cX1_digest 31 = .ok (.iconst 0, 1) := by decide +kernel
theorem dX1_digest_32 : decode cX1_digest 32 = .ok (.istore_n 3, 1) := by decide +kernel
theorem dX1_digest_33 : decode cX1_digest 33 = .ok (.iload_n 3, 1) := by decide +kernel
theorem dX1_digest_34 : decode cX1_digest 34 = .ok (.iconst 3, 1) := by decide +kernel
theorem dX1_digest_35 : decode cX1_digest 35 = .ok (.if_icmp .ge 26, 3) := by decide +kernel
theorem dX1_digest_38 : decode cX1_digest 38 = .ok (.ldc2_w 189, 3) := by decide +kernel
theorem dX1_digest_41 : decode cX1_digest 41 = .ok (.lload_n 1, 1) := by decide +kernel
theorem dX1_digest_42 : decode cX1_digest 42 = .ok (.lmul, 1) := by decide +kernel
theorem dX1_digest_43 : decode cX1_digest 43 = .ok (.aload_n 0, 1) := by decide +kernel
theorem dX1_digest_44 : decode cX1_digest 44 = .ok (.getfield 9, 3) := by decide +kernel
theorem dX1_digest_47 : decode cX1_digest 47 = .ok (.bipush 11, 2) := by decide +kernel
theorem dX1_digest_49 : decode cX1_digest 49 = .ok (.iload_n 3, 1) := by decide +kernel
theorem dX1_digest_50 : decode cX1_digest 50 = .ok (.iadd, 1) := by decide +kernel
theorem dX1_digest_51 : decode cX1_digest 51 = .ok (.iaload, 1) := by decide +kernel
theorem dX1_digest_52 : decode cX1_digest 52 = .ok (.i2l, 1) := by decide +kernel
theorem dX1_digest_53 : decode cX1_digest 53 = .ok (.ladd, 1) := by decide +kernel
theorem dX1_digest_54 : decode cX1_digest 54 = .ok (.lstore_n 1, 1) := by decide +kernel
theorem dX1_digest_55 : decode cX1_digest 55 = .ok (.iinc 3 1, 3) := by decide +kernel
theorem dX1_digest_58 : decode cX1_digest 58 = .ok (.goto (-25), 3) := by decide +kernel
theorem dX1_digest_61 : decode cX1_digest 61 = .ok (.iconst 0, 1) := by decide +kernel
theorem dX1_digest_62 : decode cX1_digest 62 = .ok (.istore_n 3, 1) := by decide +kernel
theorem dX1_digest_63 : decode cX1_digest 63 = .ok (.iload_n 3, 1) := by decide +kernel
theorem dX1_digest_64 : decode cX1_digest 64 = .ok (.bipush 7, 2) := by decide +kernel
theorem dX1_digest_66 : decode cX1_digest 66 = .ok (.if_icmp .ge 26, 3) := by decide +kernel
theorem dX1_digest_69 : decode cX1_digest 69 = .ok (.ldc2_w 189, 3) := by decide +kernel
theorem dX1_digest_72 : decode cX1_digest 72 = .ok (.lload_n 1, 1) := by decide +kernel
theorem dX1_digest_73 : decode cX1_digest 73 = .ok (.lmul, 1) := by decide +kernel
theorem dX1_digest_74 : decode cX1_digest 74 = .ok (.aload_n 0, 1) := by decide +kernel
theorem dX1_digest_75 : decode cX1_digest 75 = .ok (.getfield 9, 3) := by decide +kernel
theorem dX1_digest_78 : decode cX1_digest 78 = .ok (.bipush 14, 2) := by decide +kernel
theorem dX1_digest_80 : decode cX1_digest 80 = .ok (.iload_n 3, 1) := by decide +kernel
theorem dX1_digest_81 : decode cX1_digest 81 = .ok (.iadd, 1) := by decide +kernel
theorem dX1_digest_82 : decode cX1_digest 82 = .ok (.iaload, 1) := by decide +kernel
theorem dX1_digest_83 : decode cX1_digest 83 = .ok (.i2l, 1) := by decide +kernel
theorem dX1_digest_84 : decode cX1_digest 84 = .ok (.ladd, 1) := by decide +kernel
theorem dX1_digest_85 : decode cX1_digest 85 = .ok (.lstore_n 1, 1) := by decide +kernel
theorem dX1_digest_86 : decode cX1_digest 86 = .ok (.iinc 3 1, 3) := by decide +kernel
theorem dX1_digest_89 : decode cX1_digest 89 = .ok (.goto (-26), 3) := by decide +kernel
theorem dX1_digest_92 : decode cX1_digest 92 = .ok (.iconst 0, 1) := by decide +kernel
theorem dX1_digest_93 : decode cX1_digest 93 = .ok (.istore_n 3, 1) := by decide +kernel
theorem dX1_digest_94 : decode cX1_digest 94 = .ok (.iload_n 3, 1) := by decide +kernel
theorem dX1_digest_95 : decode cX1_digest 95 = .ok (.iconst 3, 1) := by decide +kernel
theorem dX1_digest_96 : decode cX1_digest 96 = .ok (.if_icmp .ge 52, 3) := by decide +kernel
theorem dX1_digest_99 : decode cX1_digest 99 = .ok (.iconst 0, 1) := by decide +kernel
theorem dX1_digest_100 : decode cX1_digest 100 = .ok (.istore 4, 2) := by decide +kernel
theorem dX1_digest_102 : decode cX1_digest 102 = .ok (.iload 4, 2) := by decide +kernel
theorem dX1_digest_104 : decode cX1_digest 104 = .ok (.iconst 5, 1) := by decide +kernel
theorem dX1_digest_105 : decode cX1_digest 105 = .ok (.if_icmp .gt 24, 3) := by decide +kernel
theorem dX1_digest_108 : decode cX1_digest 108 = .ok (.ldc2_w 189, 3) := by decide +kernel
theorem dX1_digest_111 : decode cX1_digest 111 = .ok (.lload_n 1, 1) := by decide +kernel
theorem dX1_digest_112 : decode cX1_digest 112 = .ok (.lmul, 1) := by decide +kernel
theorem dX1_digest_113 : decode cX1_digest 113 = .ok (.aload_n 0, 1) := by decide +kernel
theorem dX1_digest_114 : decode cX1_digest 114 = .ok (.iload_n 3, 1) := by decide +kernel
theorem dX1_digest_115 : decode cX1_digest 115 = .ok (.iload 4, 2) := by decide +kernel
theorem dX1_digest_117 : decode cX1_digest 117 = .ok (.invokevirtual 171, 3) := by decide +kernel
theorem dX1_digest_120 : decode cX1_digest 120 = .ok (.i2l, 1) := by decide +kernel
theorem dX1_digest_121 : decode cX1_digest 121 = .ok (.ladd, 1) := by decide +kernel
theorem dX1_digest_122 : decode cX1_digest 122 = .ok (.lstore_n 1, 1) := by decide +kernel
theorem dX1_digest_123 : decode cX1_digest 123 = .ok (.iinc 4 1, 3) := by decide +kernel
theorem dX1_digest_126 : decode cX1_digest 126 = .ok (.goto (-24), 3) := by decide +kernel
theorem dX1_digest_129 : decode cX1_digest 129 = .ok (.ldc2_w 189, 3) := by decide +kernel
theorem dX1_digest_132 : decode cX1_digest 132 = .ok (.lload_n 1, 1) := by decide +kernel
theorem dX1_digest_133 : decode cX1_digest 133 = .ok (.lmul, 1) := by decide +kernel
theorem dX1_digest_134 : decode cX1_digest 134 = .ok (.aload_n 0, 1) := by decide +kernel
theorem dX1_digest_135 : decode cX1_digest 135 = .ok (.iload_n 3, 1) := by decide +kernel
theorem dX1_digest_136 : decode cX1_digest 136 = .ok (.invokevirtual 184, 3) := by decide +kernel
theorem dX1_digest_139 : decode cX1_digest 139 = .ok (.i2l, 1) := by decide +kernel
theorem dX1_digest_140 : decode cX1_digest 140 = .ok (.ladd, 1) := by decide +kernel
theorem dX1_digest_141 : decode cX1_digest 141 = .ok (.lstore_n 1, 1) := by decide +kernel
theorem dX1_digest_142 : decode cX1_digest 142 = .ok (.iinc 3 1, 3) := by decide +kernel
theorem dX1_digest_145 : decode cX1_digest 145 = .ok (.goto (-51), 3) := by decide +kernel
theorem dX1_digest_148 : decode cX1_digest 148 = .ok (.ldc2_w 189, 3) := by decide +kernel
theorem dX1_digest_151 : decode cX1_digest 151 = .ok (.lload_n 1, 1) := by decide +kernel
theorem dX1_digest_152 : decode cX1_digest 152 = .ok (.lmul, 1) := by decide +kernel
theorem dX1_digest_153 : decode cX1_digest 153 = .ok (.aload_n 0, 1) := by decide +kernel
theorem dX1_digest_154 : decode cX1_digest 154 = .ok (.invokevirtual 191, 3) := by decide +kernel
theorem dX1_digest_157 : decode cX1_digest 157 = .ok (.i2l, 1) := by decide +kernel
theorem dX1_digest_158 : decode cX1_digest 158 = .ok (.ladd, 1) := by decide +kernel
theorem dX1_digest_159 : decode cX1_digest 159 = .ok (.lstore_n 1, 1) := by decide +kernel
theorem dX1_digest_160 : decode cX1_digest 160 = .ok (.ldc2_w 189, 3) := by decide +kernel
theorem dX1_digest_163 : decode cX1_digest 163 = .ok (.lload_n 1, 1) := by decide +kernel
theorem dX1_digest_164 : decode cX1_digest 164 = .ok (.lmul, 1) := by decide +kernel
theorem dX1_digest_165 : decode cX1_digest 165 = .ok (.aload_n 0, 1) := by decide +kernel
theorem dX1_digest_166 : decode cX1_digest 166 = .ok (.invokevirtual 194, 3) := by decide +kernel
theorem dX1_digest_169 : decode cX1_digest 169 = .ok (.i2l, 1) := by decide +kernel
theorem dX1_digest_170 : decode cX1_digest 170 = .ok (.ladd, 1) := by decide +kernel
theorem dX1_digest_171 : decode cX1_digest 171 = .ok (.lstore_n 1, 1) := by decide +kernel
theorem dX1_digest_172 : decode cX1_digest 172 = .ok (.ldc2_w 189, 3) := by decide +kernel
theorem dX1_digest_175 : decode cX1_digest 175 = .ok (.lload_n 1, 1) := by decide +kernel
theorem dX1_digest_176 : decode cX1_digest 176 = .ok (.lmul, 1) := by decide +kernel
theorem dX1_digest_177 : decode cX1_digest 177 = .ok (.aload_n 0, 1) := by decide +kernel
theorem dX1_digest_178 : decode cX1_digest 178 = .ok (.invokevirtual 197, 3) := by decide +kernel
theorem dX1_digest_181 : decode cX1_digest 181 = .ok (.i2l, 1) := by decide +kernel
theorem dX1_digest_182 : decode cX1_digest 182 = .ok (.ladd, 1) := by decide +kernel
theorem dX1_digest_183 : decode cX1_digest 183 = .ok (.lstore_n 1, 1) := by decide +kernel
theorem dX1_digest_184 : decode cX1_digest 184 = .ok (.ldc2_w 189, 3) := by decide +kernel
theorem dX1_digest_187 : decode cX1_digest 187 = .ok (.lload_n 1, 1) := by decide +kernel
theorem dX1_digest_188 : decode cX1_digest 188 = .ok (.lmul, 1) := by decide +kernel
theorem dX1_digest_189 : decode cX1_digest 189 = .ok (.aload_n 0, 1) := by decide +kernel
theorem dX1_digest_190 : decode cX1_digest 190 = .ok (.invokevirtual 200, 3) := by decide +kernel
theorem dX1_digest_193 : decode cX1_digest 193 = .ok (.invokestatic 204, 3) := by decide +kernel
theorem dX1_digest_196 : decode cX1_digest 196 = .ok (.ladd, 1) := by decide +kernel
theorem dX1_digest_197 : decode cX1_digest 197 = .ok (.lstore_n 1, 1) := by decide +kernel
theorem dX1_digest_198 : decode cX1_digest 198 = .ok (.ldc2_w 189, 3) := by decide +kernel
theorem dX1_digest_201 : decode cX1_digest 201 = .ok (.lload_n 1, 1) := by decide +kernel
theorem dX1_digest_202 : decode cX1_digest 202 = .ok (.lmul, 1) := by decide +kernel
theorem dX1_digest_203 : decode cX1_digest 203 = .ok (.aload_n 0, 1) := by decide +kernel
theorem dX1_digest_204 : decode cX1_digest 204 = .ok (.getfield 23, 3) := by decide +kernel
theorem dX1_digest_207 : decode cX1_digest 207 = .ok (.i2l, 1) := by decide +kernel
theorem dX1_digest_208 : decode cX1_digest 208 = .ok (.ladd, 1) := by decide +kernel
theorem dX1_digest_209 : decode cX1_digest 209 = .ok (.lstore_n 1, 1) := by decide +kernel
theorem dX1_digest_210 : decode cX1_digest 210 = .ok (.iconst 0, 1) := by decide +kernel
theorem dX1_digest_211 : decode cX1_digest 211 = .ok (.istore_n 3, 1) := by decide +kernel
theorem dX1_digest_212 : decode cX1_digest 212 = .ok (.iload_n 3, 1) := by decide +kernel
theorem dX1_digest_213 : decode cX1_digest 213 = .ok (.aload_n 0, 1) := by decide +kernel
theorem dX1_digest_214 : decode cX1_digest 214 = .ok (.getfield 23, 3) := by decide +kernel
theorem dX1_digest_217 : decode cX1_digest 217 = .ok (.if_icmp .ge 23, 3) := by decide +kernel
theorem dX1_digest_220 : decode cX1_digest 220 = .ok (.ldc2_w 189, 3) := by decide +kernel
theorem dX1_digest_223 : decode cX1_digest 223 = .ok (.lload_n 1, 1) := by decide +kernel
theorem dX1_digest_224 : decode cX1_digest 224 = .ok (.lmul, 1) := by decide +kernel
theorem dX1_digest_225 : decode cX1_digest 225 = .ok (.aload_n 0, 1) := by decide +kernel
theorem dX1_digest_226 : decode cX1_digest 226 = .ok (.getfield 20, 3) := by decide +kernel
theorem dX1_digest_229 : decode cX1_digest 229 = .ok (.iload_n 3, 1) := by decide +kernel
theorem dX1_digest_230 : decode cX1_digest 230 = .ok (.iaload, 1) := by decide +kernel
theorem dX1_digest_231 : decode cX1_digest 231 = .ok (.i2l, 1) := by decide +kernel
theorem dX1_digest_232 : decode cX1_digest 232 = .ok (.ladd, 1) := by decide +kernel
theorem dX1_digest_233 : decode cX1_digest 233 = .ok (.lstore_n 1, 1) := by decide +kernel
theorem dX1_digest_234 : decode cX1_digest 234 = .ok (.iinc 3 1, 3) := by decide +kernel
theorem dX1_digest_237 : decode cX1_digest 237 = .ok (.goto (-25), 3) := by decide +kernel
theorem dX1_digest_240 : decode cX1_digest 240 = .ok (.lload_n 1, 1) := by decide +kernel
theorem dX1_digest_241 : decode cX1_digest 241 = .ok (.lreturn, 1) := by decide +kernel
theorem dX1_isDay_0 : decode cX1_isDay 0 = .ok (.iload_n 0, 1) := by decide +kernel
theorem dX1_isDay_1 : decode cX1_isDay 1 = .ok (.ifCond .lt 13, 3) := by decide +kernel
theorem dX1_isDay_4 : decode cX1_isDay 4 = .ok (.iload_n 0, 1) := by decide +kernel
theorem dX1_isDay_5 : decode cX1_isDay 5 = .ok (.bipush 7, 2) := by decide +kernel
theorem dX1_isDay_7 : decode cX1_isDay 7 = .ok (.if_icmp .ge 7, 3) := by decide +kernel
theorem dX1_isDay_10 : decode cX1_isDay 10 = .ok (.iconst 1, 1) := by decide +kernel
theorem dX1_isDay_11 : decode cX1_isDay 11 = .ok (.goto 4, 3) := by decide +kernel
theorem dX1_isDay_14 : decode cX1_isDay 14 = .ok (.iconst 0, 1) := by decide +kernel
theorem dX1_isDay_15 : decode cX1_isDay 15 = .ok (.ireturn, 1) := by decide +kernel
theorem dX1_isSetting_0 : decode cX1_isSetting 0 = .ok (.iload_n 0, 1) := by decide +kernel
theorem dX1_isSetting_1 : decode cX1_isSetting 1 = .ok (.ifCond .lt 12, 3) := by decide +kernel
theorem dX1_isSetting_4 : decode cX1_isSetting 4 = .ok (.iload_n 0, 1) := by decide +kernel
theorem dX1_isSetting_5 : decode cX1_isSetting 5 = .ok (.iconst 3, 1) := by decide +kernel
theorem dX1_isSetting_6 : decode cX1_isSetting 6 = .ok (.if_icmp .ge 7, 3) := by decide +kernel
theorem dX1_isSetting_9 : decode cX1_isSetting 9 = .ok (.iconst 1, 1) := by decide +kernel
theorem dX1_isSetting_10 : decode cX1_isSetting 10 = .ok (.goto 4, 3) := by decide +kernel
theorem dX1_isSetting_13 : decode cX1_isSetting 13 = .ok (.iconst 0, 1) := by decide +kernel
theorem dX1_isSetting_14 : decode cX1_isSetting 14 = .ok (.ireturn, 1) := by decide +kernel
theorem dX1_isMovement_0 : decode cX1_isMovement 0 = .ok (.iload_n 0, 1) := by decide +kernel
theorem dX1_isMovement_1 : decode cX1_isMovement 1 = .ok (.ifCond .lt 12, 3) := by decide +kernel
theorem dX1_isMovement_4 : decode cX1_isMovement 4 = .ok (.iload_n 0, 1) := by decide +kernel
theorem dX1_isMovement_5 : decode cX1_isMovement 5 = .ok (.iconst 3, 1) := by decide +kernel
theorem dX1_isMovement_6 : decode cX1_isMovement 6 = .ok (.if_icmp .ge 7, 3) := by decide +kernel
theorem dX1_isMovement_9 : decode cX1_isMovement 9 = .ok (.iconst 1, 1) := by decide +kernel
theorem dX1_isMovement_10 : decode cX1_isMovement 10 = .ok (.goto 4, 3) := by decide +kernel
theorem dX1_isMovement_13 : decode cX1_isMovement 13 = .ok (.iconst 0, 1) := by decide +kernel
theorem dX1_isMovement_14 : decode cX1_isMovement 14 = .ok (.ireturn, 1) := by decide +kernel
theorem dX1_areWindingHours_0 : decode cX1_areWindingHours 0 = .ok (.iload_n 0, 1) := by decide +kernel
theorem dX1_areWindingHours_1 : decode cX1_areWindingHours 1 = .ok (.iconst 1, 1) := by decide +kernel
theorem dX1_areWindingHours_2 : decode cX1_areWindingHours 2 = .ok (.if_icmp .lt 14, 3) := by decide +kernel
theorem dX1_areWindingHours_5 : decode cX1_areWindingHours 5 = .ok (.iload_n 0, 1) := by decide +kernel
theorem dX1_areWindingHours_6 : decode cX1_areWindingHours 6 = .ok (.sipush 200, 3) := by decide +kernel
theorem dX1_areWindingHours_9 : decode cX1_areWindingHours 9 = .ok (.if_icmp .gt 7, 3) := by decide +kernel
theorem dX1_areWindingHours_12 : decode cX1_areWindingHours 12 = .ok (.iconst 1, 1) := by decide +kernel
theorem dX1_areWindingHours_13 : decode cX1_areWindingHours 13 = .ok (.goto 4, 3) := by decide +kernel
theorem dX1_areWindingHours_16 : decode cX1_areWindingHours 16 = .ok (.iconst 0, 1) := by decide +kernel
theorem dX1_areWindingHours_17 : decode cX1_areWindingHours 17 = .ok (.ireturn, 1) := by decide +kernel
theorem dX1_isLostHour_0 : decode cX1_isLostHour 0 = .ok (.iload_n 1, 1) := by decide +kernel
theorem dX1_isLostHour_1 : decode cX1_isLostHour 1 = .ok (.ifCond .le 13, 3) := by decide +kernel
theorem dX1_isLostHour_4 : decode cX1_isLostHour 4 = .ok (.iload_n 0, 1) := by decide +kernel
theorem dX1_isLostHour_5 : decode cX1_isLostHour 5 = .ok (.iload_n 1, 1) := by decide +kernel
theorem dX1_isLostHour_6 : decode cX1_isLostHour 6 = .ok (.irem, 1) := by decide +kernel
theorem dX1_isLostHour_7 : decode cX1_isLostHour 7 = .ok (.ifCond .ne 7, 3) := by decide +kernel
theorem dX1_isLostHour_10 : decode cX1_isLostHour 10 = .ok (.iconst 1, 1) := by decide +kernel
theorem dX1_isLostHour_11 : decode cX1_isLostHour 11 = .ok (.goto 4, 3) := by decide +kernel
theorem dX1_isLostHour_14 : decode cX1_isLostHour 14 = .ok (.iconst 0, 1) := by decide +kernel
theorem dX1_isLostHour_15 : decode cX1_isLostHour 15 = .ok (.ireturn, 1) := by decide +kernel
theorem dX1_bitsOfShare_0 : decode cX1_bitsOfShare 0 = .ok (.dload_n 0, 1) := by decide +kernel
theorem dX1_bitsOfShare_1 : decode cX1_bitsOfShare 1 = .ok (.dconst 0, 1) := by decide +kernel
theorem dX1_bitsOfShare_2 : decode cX1_bitsOfShare 2 = .ok (.dcmp .g, 1) := by decide +kernel
theorem dX1_bitsOfShare_3 : decode cX1_bitsOfShare 3 = .ok (.ifCond .gt 5, 3) := by decide +kernel
theorem dX1_bitsOfShare_6 : decode cX1_bitsOfShare 6 = .ok (.lconst 0, 1) := by decide +kernel
theorem dX1_bitsOfShare_7 : decode cX1_bitsOfShare 7 = .ok (.lreturn, 1) := by decide +kernel
theorem dX1_bitsOfShare_8 : decode cX1_bitsOfShare 8 = .ok (.dload_n 0, 1) := by decide +kernel
theorem dX1_bitsOfShare_9 : decode cX1_bitsOfShare 9 = .ok (.dstore_n 2, 1) := by decide +kernel
theorem dX1_bitsOfShare_10 : decode cX1_bitsOfShare 10 = .ok (.ldc2_w 208, 3) := by decide +kernel
theorem dX1_bitsOfShare_13 : decode cX1_bitsOfShare 13 = .ok (.lstore 4, 2) := by decide +kernel
theorem dX1_bitsOfShare_15 : decode cX1_bitsOfShare 15 = .ok (.iconst 1, 1) := by decide +kernel
theorem dX1_bitsOfShare_16 : decode cX1_bitsOfShare 16 = .ok (.istore 6, 2) := by decide +kernel
theorem dX1_bitsOfShare_18 : decode cX1_bitsOfShare 18 = .ok (.iload 6, 2) := by decide +kernel
theorem dX1_bitsOfShare_20 : decode cX1_bitsOfShare 20 = .ok (.sipush 1023, 3) := by decide +kernel
theorem dX1_bitsOfShare_23 : decode cX1_bitsOfShare 23 = .ok (.if_icmp .ge 27, 3) := by decide +kernel
theorem dX1_bitsOfShare_26 : decode cX1_bitsOfShare 26 = .ok (.dload_n 2, 1) := by decide +kernel
theorem dX1_bitsOfShare_27 : decode cX1_bitsOfShare 27 = .ok (.dconst 1, 1) := by decide +kernel
theorem dX1_bitsOfShare_28 : decode cX1_bitsOfShare 28 = .ok (.dcmp .g, 1) := by decide +kernel
theorem dX1_bitsOfShare_29 : decode cX1_bitsOfShare 29 = .ok (.ifCond .ge 21, 3) := by decide +kernel
theorem dX1_bitsOfShare_32 : decode cX1_bitsOfShare 32 = .ok (.dload_n 2, 1) := by decide +kernel
theorem dX1_bitsOfShare_33 : decode cX1_bitsOfShare 33 = .ok (.ldc2_w 210, 3) := by decide +kernel
theorem dX1_bitsOfShare_36 : decode cX1_bitsOfShare 36 = .ok (.dmul, 1) := by decide +kernel
theorem dX1_bitsOfShare_37 : decode cX1_bitsOfShare 37 = .ok (.dstore_n 2, 1) := by decide +kernel
theorem dX1_bitsOfShare_38 : decode cX1_bitsOfShare 38 = .ok (.lload 4, 2) := by decide +kernel
theorem dX1_bitsOfShare_40 : decode cX1_bitsOfShare 40 = .ok (.lconst 1, 1) := by decide +kernel
theorem dX1_bitsOfShare_41 : decode cX1_bitsOfShare 41 = .ok (.lsub, 1) := by decide +kernel
theorem dX1_bitsOfShare_42 : decode cX1_bitsOfShare 42 = .ok (.lstore 4, 2) := by decide +kernel
theorem dX1_bitsOfShare_44 : decode cX1_bitsOfShare 44 = .ok (.iinc 6 1, 3) := by decide +kernel
theorem dX1_bitsOfShare_47 : decode cX1_bitsOfShare 47 = .ok (.goto (-29), 3) := by decide +kernel
theorem dX1_bitsOfShare_50 : decode cX1_bitsOfShare 50 = .ok (.dload_n 2, 1) := by decide +kernel
theorem dX1_bitsOfShare_51 : decode cX1_bitsOfShare 51 = .ok (.dconst 1, 1) := by decide +kernel
theorem dX1_bitsOfShare_52 : decode cX1_bitsOfShare 52 = .ok (.dsub, 1) := by decide +kernel
theorem dX1_bitsOfShare_53 : decode cX1_bitsOfShare 53 = .ok (.ldc2_w 212, 3) := by decide +kernel
theorem dX1_bitsOfShare_56 : decode cX1_bitsOfShare 56 = .ok (.dmul, 1) := by decide +kernel
theorem dX1_bitsOfShare_57 : decode cX1_bitsOfShare 57 = .ok (.d2l, 1) := by decide +kernel
theorem dX1_bitsOfShare_58 : decode cX1_bitsOfShare 58 = .ok (.lstore 6, 2) := by decide +kernel
theorem dX1_bitsOfShare_60 : decode cX1_bitsOfShare 60 = .ok (.lload 4, 2) := by decide +kernel
theorem dX1_bitsOfShare_62 : decode cX1_bitsOfShare 62 = .ok (.bipush 52, 2) := by decide +kernel
theorem dX1_bitsOfShare_64 : decode cX1_bitsOfShare 64 = .ok (.lshl, 1) := by decide +kernel
theorem dX1_bitsOfShare_65 : decode cX1_bitsOfShare 65 = .ok (.lload 6, 2) := by decide +kernel
theorem dX1_bitsOfShare_67 : decode cX1_bitsOfShare 67 = .ok (.ladd, 1) := by decide +kernel
theorem dX1_bitsOfShare_68 : decode cX1_bitsOfShare 68 = .ok (.lreturn, 1) := by decide +kernel
set_option maxRecDepth 20000 in
theorem ggX1_change_X1_save : GoodIn wsX1_change wsX1_save := goodIn_r _ [6, 7, 8, 9, 10, 11, 12, 1, 13, 14, 15, 16, 17, 18] (by decide +kernel) (by decide +kernel)
set_option maxRecDepth 20000 in
theorem gX1_change_X1_save : GoodIn wsX1_change (wsV RX1 103 RX1 yX1_save wsX1_save) := goodIn_app (goodIn_of _ (by decide +kernel)) ggX1_change_X1_save
theorem dX1_change_0 : decode cX1_change 0 = .ok (.aload_n 0, 1) := by decide +kernel
theorem dX1_change_1 : decode cX1_change 1 = .ok (.invokevirtual 103, 3) := by decide +kernel
theorem dX1_change_4 : decode cX1_change 4 = .ok (.aload_n 0, 1) := by decide +kernel
theorem dX1_change_5 : decode cX1_change 5 = .ok (.getfield 9, 3) := by decide +kernel
theorem dX1_change_8 : decode cX1_change 8 = .ok (.iload_n 1, 1) := by decide +kernel
theorem dX1_change_9 : decode cX1_change 9 = .ok (.iaload, 1) := by decide +kernel
theorem dX1_change_10 : decode cX1_change 10 = .ok (.istore_n 3, 1) := by decide +kernel
theorem dX1_change_11 : decode cX1_change 11 = .ok (.aload_n 0, 1) := by decide +kernel
theorem dX1_change_12 : decode cX1_change 12 = .ok (.getfield 9, 3) := by decide +kernel
theorem dX1_change_15 : decode cX1_change 15 = .ok (.iload_n 1, 1) := by decide +kernel
theorem dX1_change_16 : decode cX1_change 16 = .ok (.iload_n 2, 1) := by decide +kernel
theorem dX1_change_17 : decode cX1_change 17 = .ok (.iastore, 1) := by decide +kernel
theorem dX1_change_18 : decode cX1_change 18 = .ok (.iload_n 3, 1) := by decide +kernel
theorem dX1_change_19 : decode cX1_change 19 = .ok (.ireturn, 1) := by decide +kernel
theorem dX1_save_0 : decode cX1_save 0 = .ok (.aload_n 0, 1) := by decide +kernel
theorem dX1_save_1 : decode cX1_save 1 = .ok (.getfield 16, 3) := by decide +kernel
theorem dX1_save_4 : decode cX1_save 4 = .ok (.bipush 6, 2) := by decide +kernel
theorem dX1_save_6 : decode cX1_save 6 = .ok (.if_icmp .lt 25, 3) := by decide +kernel
theorem dX1_save_9 : decode cX1_save 9 = .ok (.aload_n 0, 1) := by decide +kernel
theorem dX1_save_10 : decode cX1_save 10 = .ok (.getfield 13, 3) := by decide +kernel
theorem dX1_save_13 : decode cX1_save 13 = .ok (.bipush 33, 2) := by decide +kernel
theorem dX1_save_15 : decode cX1_save 15 = .ok (.aload_n 0, 1) := by decide +kernel
theorem dX1_save_16 : decode cX1_save 16 = .ok (.getfield 13, 3) := by decide +kernel
theorem dX1_save_19 : decode cX1_save 19 = .ok (.iconst 0, 1) := by decide +kernel
theorem dX1_save_20 : decode cX1_save 20 = .ok (.sipush 165, 3) := by decide +kernel
theorem dX1_save_23 : decode cX1_save 23 = .ok (.invokestatic 163, 3) := by decide +kernel
theorem dX1_save_26 : decode cX1_save 26 = .ok (.aload_n 0, 1) := by decide +kernel
theorem dX1_save_27 : decode cX1_save 27 = .ok (.iconst 5, 1) := by decide +kernel
theorem dX1_save_28 : decode cX1_save 28 = .ok (.putfield 16, 3) := by decide +kernel
theorem dX1_save_31 : decode cX1_save 31 = .ok (.aload_n 0, 1) := by decide +kernel
theorem dX1_save_32 : decode cX1_save 32 = .ok (.getfield 9, 3) := by decide +kernel
theorem dX1_save_35 : decode cX1_save 35 = .ok (.iconst 0, 1) := by decide +kernel
theorem dX1_save_36 : decode cX1_save 36 = .ok (.aload_n 0, 1) := by decide +kernel
theorem dX1_save_37 : decode cX1_save 37 = .ok (.getfield 13, 3) := by decide +kernel
theorem dX1_save_40 : decode cX1_save 40 = .ok (.aload_n 0, 1) := by decide +kernel
theorem dX1_save_41 : decode cX1_save 41 = .ok (.getfield 16, 3) := by decide +kernel
theorem dX1_save_44 : decode cX1_save 44 = .ok (.bipush 33, 2) := by decide +kernel
theorem dX1_save_46 : decode cX1_save 46 = .ok (.imul, 1) := by decide +kernel
theorem dX1_save_47 : decode cX1_save 47 = .ok (.bipush 33, 2) := by decide +kernel
theorem dX1_save_49 : decode cX1_save 49 = .ok (.invokestatic 163, 3) := by decide +kernel
theorem dX1_save_52 : decode cX1_save 52 = .ok (.aload_n 0, 1) := by decide +kernel
theorem dX1_save_53 : decode cX1_save 53 = .ok (.dup, 1) := by decide +kernel
theorem dX1_save_54 : decode cX1_save 54 = .ok (.getfield 16, 3) := by decide +kernel
theorem dX1_save_57 : decode cX1_save 57 = .ok (.iconst 1, 1) := by decide +kernel
theorem dX1_save_58 : decode cX1_save 58 = .ok (.iadd, 1) := by decide +kernel
theorem dX1_save_59 : decode cX1_save 59 = .ok (.putfield 16, 3) := by decide +kernel
theorem dX1_save_62 : decode cX1_save 62 = .ok (.return_, 1) := by decide +kernel
theorem dX1_today_0 : decode cX1_today 0 = .ok (.aload_n 0, 1) := by decide +kernel
theorem dX1_today_1 : decode cX1_today 1 = .ok (.getfield 9, 3) := by decide +kernel
theorem dX1_today_4 : decode cX1_today 4 = .ok (.iconst 0, 1) := by decide +kernel
theorem dX1_today_5 : decode cX1_today 5 = .ok (.iaload, 1) := by decide +kernel
theorem dX1_today_6 : decode cX1_today 6 = .ok (.bipush 24, 2) := by decide +kernel
theorem dX1_today_8 : decode cX1_today 8 = .ok (.idiv, 1) := by decide +kernel
theorem dX1_today_9 : decode cX1_today 9 = .ok (.bipush 7, 2) := by decide +kernel
theorem dX1_today_11 : decode cX1_today 11 = .ok (.irem, 1) := by decide +kernel
theorem dX1_today_12 : decode cX1_today 12 = .ok (.ireturn, 1) := by decide +kernel
theorem dX1_timeOfDay_0 : decode cX1_timeOfDay 0 = .ok (.aload_n 0, 1) := by decide +kernel
theorem dX1_timeOfDay_1 : decode cX1_timeOfDay 1 = .ok (.getfield 9, 3) := by decide +kernel
theorem dX1_timeOfDay_4 : decode cX1_timeOfDay 4 = .ok (.iconst 0, 1) := by decide +kernel
theorem dX1_timeOfDay_5 : decode cX1_timeOfDay 5 = .ok (.iaload, 1) := by decide +kernel
theorem dX1_timeOfDay_6 : decode cX1_timeOfDay 6 = .ok (.bipush 24, 2) := by decide +kernel
theorem dX1_timeOfDay_8 : decode cX1_timeOfDay 8 = .ok (.irem, 1) := by decide +kernel
theorem dX1_timeOfDay_9 : decode cX1_timeOfDay 9 = .ok (.ireturn, 1) := by decide +kernel
set_option maxRecDepth 20000 in
theorem ggX1_hoursToOpening_X1_today : GoodIn wsX1_hoursToOpening wsX1_today := goodIn_r _ [6, 1, 11, 12, 13, 14, 15, 16] (by decide +kernel) (by decide +kernel)
set_option maxRecDepth 20000 in
theorem gX1_hoursToOpening_X1_today : GoodIn wsX1_hoursToOpening (wsV RX1 214 RX1 yX1_today wsX1_today) := goodIn_app (goodIn_of _ (by decide +kernel)) ggX1_hoursToOpening_X1_today
set_option maxRecDepth 20000 in
theorem ggX1_hoursToOpening_X1_timeOfDay : GoodIn wsX1_hoursToOpening wsX1_timeOfDay := goodIn_r _ [10, 1, 11, 12, 13, 14, 15, 16] (by decide +kernel) (by decide +kernel)
set_option maxRecDepth 20000 in
theorem gX1_hoursToOpening_X1_timeOfDay : GoodIn wsX1_hoursToOpening (wsV RX1 217 RX1 yX1_timeOfDay wsX1_timeOfDay) := goodIn_app (goodIn_of _ (by decide +kernel)) ggX1_hoursToOpening_X1_timeOfDay
theorem dX1_hoursToOpening_0 : decode cX1_hoursToOpening 0 = .ok (.iconst 0, 1) := by decide +kernel
theorem dX1_hoursToOpening_1 : decode cX1_hoursToOpening 1 = .ok (.istore_n 1, 1) := by decide +kernel
theorem dX1_hoursToOpening_2 : decode cX1_hoursToOpening 2 = .ok (.iload_n 1, 1) := by decide +kernel
theorem dX1_hoursToOpening_3 : decode cX1_hoursToOpening 3 = .ok (.bipush 7, 2) := by decide +kernel
theorem dX1_hoursToOpening_5 : decode cX1_hoursToOpening 5 = .ok (.if_icmp .gt 50, 3) := by decide +kernel
theorem dX1_hoursToOpening_8 : decode cX1_hoursToOpening 8 = .ok (.aload_n 0, 1) := by decide +kernel
theorem dX1_hoursToOpening_9 : decode cX1_hoursToOpening 9 = .ok (.getfield 9, 3) := by decide +kernel
theorem dX1_hoursToOpening_12 : decode cX1_hoursToOpening 12 = .ok (.bipush 14, 2) := by decide +kernel
theorem dX1_hoursToOpening_14 : decode cX1_hoursToOpening 14 = .ok (.aload_n 0, 1) := by decide +kernel
theorem dX1_hoursToOpening_15 : decode cX1_hoursToOpening 15 = .ok (.invokevirtual 214, 3) := by decide +kernel
theorem dX1_hoursToOpening_18 : decode cX1_hoursToOpening 18 = .ok (.iload_n 1, 1) := by decide +kernel
theorem dX1_hoursToOpening_19 : decode cX1_hoursToOpening 19 = .ok (.iadd, 1) := by decide +kernel
theorem dX1_hoursToOpening_20 : decode cX1_hoursToOpening 20 = .ok (.bipush 7, 2) := by decide +kernel
theorem dX1_hoursToOpening_22 : decode cX1_hoursToOpening 22 = .ok (.irem, 1) := by decide +kernel
theorem dX1_hoursToOpening_23 : decode cX1_hoursToOpening 23 = .ok (.iadd, 1) := by decide +kernel
theorem dX1_hoursToOpening_24 : decode cX1_hoursToOpening 24 = .ok (.iaload, 1) := by decide +kernel
theorem dX1_hoursToOpening_25 : decode cX1_hoursToOpening 25 = .ok (.istore_n 2, 1) := by decide +kernel
theorem dX1_hoursToOpening_26 : decode cX1_hoursToOpening 26 = .ok (.iload_n 1, 1) := by decide +kernel
theorem dX1_hoursToOpening_27 : decode cX1_hoursToOpening 27 = .ok (.bipush 24, 2) := by decide +kernel
theorem dX1_hoursToOpening_29 : decode cX1_hoursToOpening 29 = .ok (.imul, 1) := by decide +kernel
theorem dX1_hoursToOpening_30 : decode cX1_hoursToOpening 30 = .ok (.iload_n 2, 1) := by decide +kernel
theorem dX1_hoursToOpening_31 : decode cX1_hoursToOpening 31 = .ok (.iadd, 1) := by decide +kernel
theorem dX1_hoursToOpening_32 : decode cX1_hoursToOpening 32 = .ok (.aload_n 0, 1) := by decide +kernel
theorem dX1_hoursToOpening_33 : decode cX1_hoursToOpening 33 = .ok (.invokevirtual 217, 3) := by decide +kernel
theorem dX1_hoursToOpening_36 : decode cX1_hoursToOpening 36 = .ok (.isub, 1) := by decide +kernel
theorem dX1_hoursToOpening_37 : decode cX1_hoursToOpening 37 = .ok (.istore_n 3, 1) := by decide +kernel
theorem dX1_hoursToOpening_38 : decode cX1_hoursToOpening 38 = .ok (.iload_n 2, 1) := by decide +kernel
theorem dX1_hoursToOpening_39 : decode cX1_hoursToOpening 39 = .ok (.iconst (-1), 1) := by decide +kernel
theorem dX1_hoursToOpening_40 : decode cX1_hoursToOpening 40 = .ok (.if_icmp .eq 9, 3) := by decide +kernel
theorem dX1_hoursToOpening_43 : decode cX1_hoursToOpening 43 = .ok (.iload_n 3, 1) := by decide +kernel
theorem dX1_hoursToOpening_44 : decode cX1_hoursToOpening 44 = .ok (.ifCond .le 5, 3) := by decide +kernel
theorem dX1_hoursToOpening_47 : decode cX1_hoursToOpening 47 = .ok (.iload_n 3, 1) := by decide +kernel
theorem dX1_hoursToOpening_48 : decode cX1_hoursToOpening 48 = .ok (.ireturn, 1) := by decide +kernel
theorem dX1_hoursToOpening_49 : decode cX1_hoursToOpening 49 = .ok (.iinc 1 1, 3) := by decide +kernel
theorem dX1_hoursToOpening_52 : decode cX1_hoursToOpening 52 = .ok (.goto (-50), 3) := by decide +kernel
theorem dX1_hoursToOpening_55 : decode cX1_hoursToOpening 55 = .ok (.iconst (-1), 1) := by decide +kernel
theorem dX1_hoursToOpening_56 : decode cX1_hoursToOpening 56 = .ok (.ireturn, 1) := by decide +kernel
theorem dX1_place_0 : decode cX1_place 0 = .ok (.bipush 21, 2) := by decide +kernel
theorem dX1_place_2 : decode cX1_place 2 = .ok (.iload_n 0, 1) := by decide +kernel
theorem dX1_place_3 : decode cX1_place 3 = .ok (.iconst 4, 1) := by decide +kernel
theorem dX1_place_4 : decode cX1_place 4 = .ok (.imul, 1) := by decide +kernel
theorem dX1_place_5 : decode cX1_place 5 = .ok (.iadd, 1) := by decide +kernel
theorem dX1_place_6 : decode cX1_place 6 = .ok (.iload_n 1, 1) := by decide +kernel
theorem dX1_place_7 : decode cX1_place 7 = .ok (.iadd, 1) := by decide +kernel
theorem dX1_place_8 : decode cX1_place 8 = .ok (.ireturn, 1) := by decide +kernel
set_option maxRecDepth 20000 in
theorem ggX1_goes_X1_place : GoodIn wsX1_goes wsX1_place := goodIn_r _ [5] (by decide +kernel) (by decide +kernel)
set_option maxRecDepth 20000 in
theorem gX1_goes_X1_place : GoodIn wsX1_goes (va_wsS RX1 91 yX1_place wsX1_place) := goodIn_app (goodIn_of _ (by decide +kernel)) ggX1_goes_X1_place
theorem dX1_goes_0 : decode cX1_goes 0 = .ok (.aload_n 0, 1) := by decide +kernel
theorem dX1_goes_1 : decode cX1_goes 1 = .ok (.getfield 9, 3) := by decide +kernel
theorem dX1_goes_4 : decode cX1_goes 4 = .ok (.iload_n 1, 1) := by decide +kernel
theorem dX1_goes_5 : decode cX1_goes 5 = .ok (.iconst 1, 1) := by decide +kernel
theorem dX1_goes_6 : decode cX1_goes 6 = .ok (.invokestatic 91, 3) := by decide +kernel
theorem dX1_goes_9 : decode cX1_goes 9 = .ok (.iaload, 1) := by decide +kernel
theorem dX1_goes_10 : decode cX1_goes 10 = .ok (.ifCond .eq 7, 3) := by decide +kernel
theorem dX1_goes_13 : decode cX1_goes 13 = .ok (.iconst 1, 1) := by decide +kernel
theorem dX1_goes_14 : decode cX1_goes 14 = .ok (.goto 4, 3) := by decide +kernel
theorem dX1_goes_17 : decode cX1_goes 17 = .ok (.iconst 0, 1) := by decide +kernel
theorem dX1_goes_18 : decode cX1_goes 18 = .ok (.ireturn, 1) := by decide +kernel
set_option maxRecDepth 20000 in
theorem ggX1_property_X1_place : GoodIn wsX1_property wsX1_place := goodIn_r _ [5] (by decide +kernel) (by decide +kernel)
set_option maxRecDepth 20000 in
theorem gX1_property_X1_place : GoodIn wsX1_property (va_wsS RX1 91 yX1_place wsX1_place) := goodIn_app (goodIn_of _ (by decide +kernel)) ggX1_property_X1_place
set_option maxRecDepth 20000 in
theorem ggX1_property_X1_goes : GoodIn wsX1_property wsX1_goes := goodIn_r _ [9, 1, 2, 3, 4, 5, 14, 15, 16, 17, 18, 19] (by decide +kernel) (by decide +kernel)
set_option maxRecDepth 20000 in
theorem gX1_property_X1_goes : GoodIn wsX1_property (wsV RX1 83 RX1 yX1_goes wsX1_goes) := goodIn_app (goodIn_of _ (by decide +kernel)) ggX1_property_X1_goes
set_option maxRecDepth 20000 in
theorem ggX1_property_X1_hoursToRunDown : GoodIn wsX1_property wsX1_hoursToRunDown := goodIn_r _ [13, 1, 2, 3, 4, 5, 14, 15, 16, 17, 18, 19] (by decide +kernel) (by decide +kernel)
set_option maxRecDepth 20000 in
theorem gX1_property_X1_hoursToRunDown : GoodIn wsX1_property (wsV RX1 220 RX1 yX1_hoursToRunDown wsX1_hoursToRunDown) := goodIn_app (goodIn_of _ (by decide +kernel)) ggX1_property_X1_hoursToRunDown
theorem dX1_property_0 : decode cX1_property 0 = .ok (.iload_n 2, 1) := by decide +kernel
theorem dX1_property_1 : decode cX1_property 1 = .ok (.iconst 4, 1) := by decide +kernel
theorem dX1_property_2 : decode cX1_property 2 = .ok (.if_icmp .ne 29, 3) := by decide +kernel
theorem dX1_property_5 : decode cX1_property 5 = .ok (.aload_n 0, 1) := by decide +kernel
theorem dX1_property_6 : decode cX1_property 6 = .ok (.getfield 9, 3) := by decide +kernel
theorem dX1_property_9 : decode cX1_property 9 = .ok (.iload_n 1, 1) := by decide +kernel
theorem dX1_property_10 : decode cX1_property 10 = .ok (.iconst 3, 1) := by decide +kernel
theorem dX1_property_11 : decode cX1_property 11 = .ok (.invokestatic 91, 3) := by decide +kernel
theorem dX1_property_14 : decode cX1_property 14 = .ok (.iaload, 1) := by decide +kernel
theorem dX1_property_15 : decode cX1_property 15 = .ok (.aload_n 0, 1) := by decide +kernel
theorem dX1_property_16 : decode cX1_property 16 = .ok (.getfield 9, 3) := by decide +kernel
theorem dX1_property_19 : decode cX1_property 19 = .ok (.bipush 13, 2) := by decide +kernel
theorem dX1_property_21 : decode cX1_property 21 = .ok (.iaload, 1) := by decide +kernel
theorem dX1_property_22 : decode cX1_property 22 = .ok (.if_icmp .lt 7, 3) := by decide +kernel
theorem dX1_property_25 : decode cX1_property 25 = .ok (.iconst 1, 1) := by decide +kernel
theorem dX1_property_26 : decode cX1_property 26 = .ok (.goto 4, 3) := by decide +kernel
theorem dX1_property_29 : decode cX1_property 29 = .ok (.iconst 0, 1) := by decide +kernel
theorem dX1_property_30 : decode cX1_property 30 = .ok (.ireturn, 1) := by decide +kernel
theorem dX1_property_31 : decode cX1_property 31 = .ok (.iload_n 2, 1) := by decide +kernel
theorem dX1_property_32 : decode cX1_property 32 = .ok (.iconst 5, 1) := by decide +kernel
theorem dX1_property_33 : decode cX1_property 33 = .ok (.if_icmp .ne 14, 3) := by decide +kernel
theorem dX1_property_36 : decode cX1_property 36 = .ok (.aload_n 0, 1) := by decide +kernel
theorem dX1_property_37 : decode cX1_property 37 = .ok (.iload_n 1, 1) := by decide +kernel
theorem dX1_property_38 : decode cX1_property 38 = .ok (.aload_n 0, 1) := by decide +kernel
theorem dX1_property_39 : decode cX1_property 39 = .ok (.iload_n 1, 1) := by decide +kernel
theorem dX1_property_40 : decode cX1_property 40 = .ok (.invokevirtual 83, 3) := by decide +kernel
theorem dX1_property_43 : decode cX1_property 43 = .ok (.invokevirtual 220, 3) := by decide +kernel
theorem dX1_property_46 : decode cX1_property 46 = .ok (.ireturn, 1) := by decide +kernel
theorem dX1_property_47 : decode cX1_property 47 = .ok (.aload_n 0, 1) := by decide +kernel
theorem dX1_property_48 : decode cX1_property 48 = .ok (.getfield 9, 3) := by decide +kernel
theorem dX1_property_51 : decode cX1_property 51 = .ok (.iload_n 1, 1) := by decide +kernel
theorem dX1_property_52 : decode cX1_property 52 = .ok (.iload_n 2, 1) := by decide +kernel
theorem dX1_property_53 : decode cX1_property 53 = .ok (.invokestatic 91, 3) := by decide +kernel
theorem dX1_property_56 : decode cX1_property 56 = .ok (.iaload, 1) := by decide +kernel
theorem dX1_property_57 : decode cX1_property 57 = .ok (.ireturn, 1) := by decide +kernel
set_option maxRecDepth 20000 in
theorem ggX1_someMovementRuns_X1_goes : GoodIn wsX1_someMovementRuns wsX1_goes := goodIn_r _ [6, 1, 7, 8, 5, 9, 10, 11, 12, 13, 14, 15] (by decide +kernel) (by decide +kernel)
set_option maxRecDepth 20000 in
theorem gX1_someMovementRuns_X1_goes : GoodIn wsX1_someMovementRuns (wsV RX1 83 RX1 yX1_goes wsX1_goes) := goodIn_app (goodIn_of _ (by decide +kernel)) ggX1_someMovementRuns_X1_goes
set_option maxRecDepth 20000 in
theorem ggX1_someMovementRuns_X1_place : GoodIn wsX1_someMovementRuns wsX1_place := goodIn_r _ [9] (by decide +kernel) (by decide +kernel)
set_option maxRecDepth 20000 in
theorem gX1_someMovementRuns_X1_place : GoodIn wsX1_someMovementRuns (va_wsS RX1 91 yX1_place wsX1_place) := goodIn_app (goodIn_of _ (by decide +kernel)) ggX1_someMovementRuns_X1_place
theorem dX1_someMovementRuns_0 : decode cX1_someMovementRuns 0 = .ok (.iconst 0, 1) := by decide +kernel
theorem dX1_someMovementRuns_1 : decode cX1_someMovementRuns 1 = .ok (.istore_n 1, 1) := by decide +kernel
theorem dX1_someMovementRuns_2 : decode cX1_someMovementRuns 2 = .ok (.iload_n 1, 1) := by decide +kernel
theorem dX1_someMovementRuns_3 : decode cX1_someMovementRuns 3 = .ok (.iconst 3, 1) := by decide +kernel
theorem dX1_someMovementRuns_4 : decode cX1_someMovementRuns 4 = .ok (.if_icmp .ge 32, 3) := by decide +kernel
theorem dX1_someMovementRuns_7 : decode cX1_someMovementRuns 7 = .ok (.aload_n 0, 1) := by decide +kernel
theorem dX1_someMovementRuns_8 : decode cX1_someMovementRuns 8 = .ok (.iload_n 1, 1) := by decide +kernel
theorem dX1_someMovementRuns_9 : decode cX1_someMovementRuns 9 = .ok (.invokevirtual 83, 3) := by decide +kernel
theorem dX1_someMovementRuns_12 : decode cX1_someMovementRuns 12 = .ok (.ifCond .eq 18, 3) := by decide +kernel
theorem dX1_someMovementRuns_15 : decode cX1_someMovementRuns 15 = .ok (.aload_n 0, 1) := by decide +kernel
theorem dX1_someMovementRuns_16 : decode cX1_someMovementRuns 16 = .ok (.getfield 9, 3) := by decide +kernel
theorem dX1_someMovementRuns_19 : decode cX1_someMovementRuns 19 = .ok (.iload_n 1, 1) := by decide +kernel
theorem dX1_someMovementRuns_20 : decode cX1_someMovementRuns 20 = .ok (.iconst 0, 1) := by decide +kernel
theorem dX1_someMovementRuns_21 : decode cX1_someMovementRuns 21 = .ok (.invokestatic 91, 3) := by decide +kernel
theorem dX1_someMovementRuns_24 : decode cX1_someMovementRuns 24 = .ok (.iaload, 1) := by decide +kernel
theorem dX1_someMovementRuns_25 : decode cX1_someMovementRuns 25 = .ok (.ifCond .le 5, 3) := by decide +kernel
theorem dX1_someMovementRuns_28 : decode cX1_someMovementRuns 28 = .ok (.iconst 1, 1) := by decide +kernel
theorem dX1_someMovementRuns_29 : decode cX1_someMovementRuns 29 = .ok (.ireturn, 1) := by decide +kernel
theorem dX1_someMovementRuns_30 : decode cX1_someMovementRuns 30 = .ok (.iinc 1 1, 3) := by decide +kernel
theorem dX1_someMovementRuns_33 : decode cX1_someMovementRuns 33 = .ok (.goto (-31), 3) := by decide +kernel
theorem dX1_someMovementRuns_36 : decode cX1_someMovementRuns 36 = .ok (.iconst 0, 1) := by decide +kernel
theorem dX1_someMovementRuns_37 : decode cX1_someMovementRuns 37 = .ok (.ireturn, 1) := by decide +kernel
set_option maxRecDepth 20000 in
theorem ggX1_movementsRunDown_X1_place : GoodIn wsX1_movementsRunDown wsX1_place := goodIn_r _ [5] (by decide +kernel) (by decide +kernel)
set_option maxRecDepth 20000 in
theorem gX1_movementsRunDown_X1_place : GoodIn wsX1_movementsRunDown (va_wsS RX1 91 yX1_place wsX1_place) := goodIn_app (goodIn_of _ (by decide +kernel)) ggX1_movementsRunDown_X1_place
theorem dX1_movementsRunDown_0 : decode cX1_movementsRunDown 0 = .ok (.iconst 0, 1) := by decide +kernel
theorem dX1_movementsRunDown_1 : decode cX1_movementsRunDown 1 = .ok (.istore_n 1, 1) := by decide +kernel
theorem dX1_movementsRunDown_2 : decode cX1_movementsRunDown 2 = .ok (.iconst 0, 1) := by decide +kernel
theorem dX1_movementsRunDown_3 : decode cX1_movementsRunDown 3 = .ok (.istore_n 2, 1) := by decide +kernel
theorem dX1_movementsRunDown_4 : decode cX1_movementsRunDown 4 = .ok (.iload_n 2, 1) := by decide +kernel
theorem dX1_movementsRunDown_5 : decode cX1_movementsRunDown 5 = .ok (.iconst 3, 1) := by decide +kernel
theorem dX1_movementsRunDown_6 : decode cX1_movementsRunDown 6 = .ok (.if_icmp .ge 25, 3) := by decide +kernel
theorem dX1_movementsRunDown_9 : decode cX1_movementsRunDown 9 = .ok (.aload_n 0, 1) := by decide +kernel
theorem dX1_movementsRunDown_10 : decode cX1_movementsRunDown 10 = .ok (.getfield 9, 3) := by decide +kernel
theorem dX1_movementsRunDown_13 : decode cX1_movementsRunDown 13 = .ok (.iload_n 2, 1) := by decide +kernel
theorem dX1_movementsRunDown_14 : decode cX1_movementsRunDown 14 = .ok (.iconst 0, 1) := by decide +kernel
theorem dX1_movementsRunDown_15 : decode cX1_movementsRunDown 15 = .ok (.invokestatic 91, 3) := by decide +kernel
theorem dX1_movementsRunDown_18 : decode cX1_movementsRunDown 18 = .ok (.iaload, 1) := by decide +kernel
theorem dX1_movementsRunDown_19 : decode cX1_movementsRunDown 19 = .ok (.ifCond .ne 6, 3) := by decide +kernel
theorem dX1_movementsRunDown_22 : decode cX1_movementsRunDown 22 = .ok (.iinc 1 1, 3) := by decide +kernel
theorem dX1_movementsRunDown_25 : decode cX1_movementsRunDown 25 = .ok (.iinc 2 1, 3) := by decide +kernel
theorem dX1_movementsRunDown_28 : decode cX1_movementsRunDown 28 = .ok (.goto (-24), 3) := by decide +kernel
theorem dX1_movementsRunDown_31 : decode cX1_movementsRunDown 31 = .ok (.iload_n 1, 1) := by decide +kernel
theorem dX1_movementsRunDown_32 : decode cX1_movementsRunDown 32 = .ok (.ireturn, 1) := by decide +kernel
set_option maxRecDepth 20000 in
theorem ggX1_hoursToRunDown_X1_place : GoodIn wsX1_hoursToRunDown wsX1_place := goodIn_r _ [5] (by decide +kernel) (by decide +kernel)
set_option maxRecDepth 20000 in
theorem gX1_hoursToRunDown_X1_place : GoodIn wsX1_hoursToRunDown (va_wsS RX1 91 yX1_place wsX1_place) := goodIn_app (goodIn_of _ (by decide +kernel)) ggX1_hoursToRunDown_X1_place
theorem dX1_hoursToRunDown_0 : decode cX1_hoursToRunDown 0 = .ok (.aload_n 0, 1) := by decide +kernel
theorem dX1_hoursToRunDown_1 : decode cX1_hoursToRunDown 1 = .ok (.getfield 9, 3) := by decide +kernel
theorem dX1_hoursToRunDown_4 : decode cX1_hoursToRunDown 4 = .ok (.iload_n 1, 1) := by decide +kernel
theorem dX1_hoursToRunDown_5 : decode cX1_hoursToRunDown 5 = .ok (.iconst 0, 1) := by decide +kernel
theorem dX1_hoursToRunDown_6 : decode cX1_hoursToRunDown 6 = .ok (.invokestatic 91, 3) := by decide +kernel
theorem dX1_hoursToRunDown_9 : decode cX1_hoursToRunDown 9 = .ok (.iaload, 1) := by decide +kernel
theorem dX1_hoursToRunDown_10 : decode cX1_hoursToRunDown 10 = .ok (.istore_n 3, 1) := by decide +kernel
theorem dX1_hoursToRunDown_11 : decode cX1_hoursToRunDown 11 = .ok (.aload_n 0, 1) := by decide +kernel
theorem dX1_hoursToRunDown_12 : decode cX1_hoursToRunDown 12 = .ok (.getfield 9, 3) := by decide +kernel
theorem dX1_hoursToRunDown_15 : decode cX1_hoursToRunDown 15 = .ok (.iload_n 1, 1) := by decide +kernel
theorem dX1_hoursToRunDown_16 : decode cX1_hoursToRunDown 16 = .ok (.iconst 2, 1) := by decide +kernel
theorem dX1_hoursToRunDown_17 : decode cX1_hoursToRunDown 17 = .ok (.invokestatic 91, 3) := by decide +kernel
theorem dX1_hoursToRunDown_20 : decode cX1_hoursToRunDown 20 = .ok (.iaload, 1) := by decide +kernel
theorem dX1_hoursToRunDown_21 : decode cX1_hoursToRunDown 21 = .ok (.istore 4, 2) := by decide +kernel
theorem dX1_hoursToRunDown_23 : decode cX1_hoursToRunDown 23 = .ok (.iload_n 3, 1) := by decide +kernel
theorem dX1_hoursToRunDown_24 : decode cX1_hoursToRunDown 24 = .ok (.ifCond .ne 5, 3) := by decide +kernel
theorem dX1_hoursToRunDown_27 : decode cX1_hoursToRunDown 27 = .ok (.iconst 0, 1) := by decide +kernel
theorem dX1_hoursToRunDown_28 : decode cX1_hoursToRunDown 28 = .ok (.ireturn, 1) := by decide +kernel
theorem dX1_hoursToRunDown_29 : decode cX1_hoursToRunDown 29 = .ok (.iload_n 2, 1) := by decide +kernel
theorem dX1_hoursToRunDown_30 : decode cX1_hoursToRunDown 30 = .ok (.ifCond .eq 9, 3) := by decide +kernel
theorem dX1_hoursToRunDown_33 : decode cX1_hoursToRunDown 33 = .ok (.iload 4, 2) := by decide +kernel
theorem dX1_hoursToRunDown_35 : decode cX1_hoursToRunDown 35 = .ok (.iconst 1, 1) := by decide +kernel
theorem dX1_hoursToRunDown_36 : decode cX1_hoursToRunDown 36 = .ok (.if_icmp .ne 5, 3) := by decide +kernel
theorem dX1_hoursToRunDown_39 : decode cX1_hoursToRunDown 39 = .ok (.iconst (-1), 1) := by decide +kernel
theorem dX1_hoursToRunDown_40 : decode cX1_hoursToRunDown 40 = .ok (.ireturn, 1) := by decide +kernel
theorem dX1_hoursToRunDown_41 : decode cX1_hoursToRunDown 41 = .ok (.iload 4, 2) := by decide +kernel
theorem dX1_hoursToRunDown_43 : decode cX1_hoursToRunDown 43 = .ok (.ifCond .gt 5, 3) := by decide +kernel
theorem dX1_hoursToRunDown_46 : decode cX1_hoursToRunDown 46 = .ok (.iload_n 3, 1) := by decide +kernel
theorem dX1_hoursToRunDown_47 : decode cX1_hoursToRunDown 47 = .ok (.ireturn, 1) := by decide +kernel
theorem dX1_hoursToRunDown_48 : decode cX1_hoursToRunDown 48 = .ok (.aload_n 0, 1) := by decide +kernel
theorem dX1_hoursToRunDown_49 : decode cX1_hoursToRunDown 49 = .ok (.getfield 9, 3) := by decide +kernel
theorem dX1_hoursToRunDown_52 : decode cX1_hoursToRunDown 52 = .ok (.iload_n 1, 1) := by decide +kernel
theorem dX1_hoursToRunDown_53 : decode cX1_hoursToRunDown 53 = .ok (.iconst 3, 1) := by decide +kernel
theorem dX1_hoursToRunDown_54 : decode cX1_hoursToRunDown 54 = .ok (.invokestatic 91, 3) := by decide +kernel
theorem dX1_hoursToRunDown_57 : decode cX1_hoursToRunDown 57 = .ok (.iaload, 1) := by decide +kernel
theorem dX1_hoursToRunDown_58 : decode cX1_hoursToRunDown 58 = .ok (.iload 4, 2) := by decide +kernel
theorem dX1_hoursToRunDown_60 : decode cX1_hoursToRunDown 60 = .ok (.irem, 1) := by decide +kernel
theorem dX1_hoursToRunDown_61 : decode cX1_hoursToRunDown 61 = .ok (.istore 5, 2) := by decide +kernel
theorem dX1_hoursToRunDown_63 : decode cX1_hoursToRunDown 63 = .ok (.iload_n 3, 1) := by decide +kernel
theorem dX1_hoursToRunDown_64 : decode cX1_hoursToRunDown 64 = .ok (.iload 5, 2) := by decide +kernel
theorem dX1_hoursToRunDown_66 : decode cX1_hoursToRunDown 66 = .ok (.iload_n 3, 1) := by decide +kernel
theorem dX1_hoursToRunDown_67 : decode cX1_hoursToRunDown 67 = .ok (.iadd, 1) := by decide +kernel
theorem dX1_hoursToRunDown_68 : decode cX1_hoursToRunDown 68 = .ok (.iconst 1, 1) := by decide +kernel
theorem dX1_hoursToRunDown_69 : decode cX1_hoursToRunDown 69 = .ok (.isub, 1) := by decide +kernel
theorem dX1_hoursToRunDown_70 : decode cX1_hoursToRunDown 70 = .ok (.iload 4, 2) := by decide +kernel
theorem dX1_hoursToRunDown_72 : decode cX1_hoursToRunDown 72 = .ok (.iconst 1, 1) := by decide +kernel
theorem dX1_hoursToRunDown_73 : decode cX1_hoursToRunDown 73 = .ok (.isub, 1) := by decide +kernel
theorem dX1_hoursToRunDown_74 : decode cX1_hoursToRunDown 74 = .ok (.idiv, 1) := by decide +kernel
theorem dX1_hoursToRunDown_75 : decode cX1_hoursToRunDown 75 = .ok (.iadd, 1) := by decide +kernel
theorem dX1_hoursToRunDown_76 : decode cX1_hoursToRunDown 76 = .ok (.ireturn, 1) := by decide +kernel
set_option maxRecDepth 20000 in
theorem ggX1_hoursToWind_X1_hoursToOpening : GoodIn wsX1_hoursToWind wsX1_hoursToOpening := goodIn_r _ [6, 1, 7, 8, 9, 5, 10, 11, 12, 13, 14, 28, 29, 30, 31, 32, 33] (by decide +kernel) (by decide +kernel)
set_option maxRecDepth 20000 in
theorem gX1_hoursToWind_X1_hoursToOpening : GoodIn wsX1_hoursToWind (wsV RX1 106 RX1 yX1_hoursToOpening wsX1_hoursToOpening) := goodIn_app (goodIn_of _ (by decide +kernel)) ggX1_hoursToWind_X1_hoursToOpening
set_option maxRecDepth 20000 in
theorem ggX1_hoursToWind_X1_place : GoodIn wsX1_hoursToWind wsX1_place := goodIn_r _ [17] (by decide +kernel) (by decide +kernel)
set_option maxRecDepth 20000 in
theorem gX1_hoursToWind_X1_place : GoodIn wsX1_hoursToWind (va_wsS RX1 91 yX1_place wsX1_place) := goodIn_app (goodIn_of _ (by decide +kernel)) ggX1_hoursToWind_X1_place
set_option maxRecDepth 20000 in
theorem ggX1_hoursToWind_X1_goes : GoodIn wsX1_hoursToWind wsX1_goes := goodIn_r _ [21, 1, 15, 16, 5, 17, 28, 29, 30, 31, 32, 33] (by decide +kernel) (by decide +kernel)
set_option maxRecDepth 20000 in
theorem gX1_hoursToWind_X1_goes : GoodIn wsX1_hoursToWind (wsV RX1 83 RX1 yX1_goes wsX1_goes) := goodIn_app (goodIn_of _ (by decide +kernel)) ggX1_hoursToWind_X1_goes
set_option maxRecDepth 20000 in
theorem ggX1_hoursToWind_X1_isLostHour : GoodIn wsX1_hoursToWind wsX1_isLostHour := goodIn_r _ [24] (by decide +kernel) (by decide +kernel)
set_option maxRecDepth 20000 in
theorem gX1_hoursToWind_X1_isLostHour : GoodIn wsX1_hoursToWind (va_wsS RX1 224 yX1_isLostHour wsX1_isLostHour) := goodIn_app (goodIn_of _ (by decide +kernel)) ggX1_hoursToWind_X1_isLostHour
set_option maxRecDepth 20000 in
theorem ggX1_hoursToWind_X1_areWindingHours : GoodIn wsX1_hoursToWind wsX1_areWindingHours := goodIn_r _ [27] (by decide +kernel) (by decide +kernel)
set_option maxRecDepth 20000 in
theorem gX1_hoursToWind_X1_areWindingHours : GoodIn wsX1_hoursToWind (va_wsS RX1 74 yX1_areWindingHours wsX1_areWindingHours) := goodIn_app (goodIn_of _ (by decide +kernel)) ggX1_hoursToWind_X1_areWindingHours
theorem dX1_hoursToWind_0 : decode cX1_hoursToWind 0 = .ok (.aload_n 0, 1) := by decide +kernel
theorem dX1_hoursToWind_1 : decode cX1_hoursToWind 1 = .ok (.invokevirtual 106, 3) := by decide +kernel
theorem dX1_hoursToWind_4 : decode cX1_hoursToWind 4 = .ok (.istore_n 2, 1) := by decide +kernel
theorem dX1_hoursToWind_5 : decode cX1_hoursToWind 5 = .ok (.aload_n 0, 1) := by decide +kernel
theorem dX1_hoursToWind_6 : decode cX1_hoursToWind 6 = .ok (.getfield 9, 3) := by decide +kernel
theorem dX1_hoursToWind_9 : decode cX1_hoursToWind 9 = .ok (.iload_n 1, 1) := by decide +kernel
theorem dX1_hoursToWind_10 : decode cX1_hoursToWind 10 = .ok (.iconst 2, 1) := by decide +kernel
theorem dX1_hoursToWind_11 : decode cX1_hoursToWind 11 = .ok (.invokestatic 91, 3) := by decide +kernel
theorem dX1_hoursToWind_14 : decode cX1_hoursToWind 14 = .ok (.iaload, 1) := by decide +kernel
theorem dX1_hoursToWind_15 : decode cX1_hoursToWind 15 = .ok (.istore_n 3, 1) := by decide +kernel
theorem dX1_hoursToWind_16 : decode cX1_hoursToWind 16 = .ok (.aload_n 0, 1) := by decide +kernel
theorem dX1_hoursToWind_17 : decode cX1_hoursToWind 17 = .ok (.getfield 9, 3) := by decide +kernel
theorem dX1_hoursToWind_20 : decode cX1_hoursToWind 20 = .ok (.iload_n 1, 1) := by decide +kernel
theorem dX1_hoursToWind_21 : decode cX1_hoursToWind 21 = .ok (.iconst 3, 1) := by decide +kernel
theorem dX1_hoursToWind_22 : decode cX1_hoursToWind 22 = .ok (.invokestatic 91, 3) := by decide +kernel
theorem dX1_hoursToWind_25 : decode cX1_hoursToWind 25 = .ok (.iaload, 1) := by decide +kernel
theorem dX1_hoursToWind_26 : decode cX1_hoursToWind 26 = .ok (.istore 4, 2) := by decide +kernel
theorem dX1_hoursToWind_28 : decode cX1_hoursToWind 28 = .ok (.iload_n 2, 1) := by decide +kernel
theorem dX1_hoursToWind_29 : decode cX1_hoursToWind 29 = .ok (.iconst (-1), 1) := by decide +kernel
theorem dX1_hoursToWind_30 : decode cX1_hoursToWind 30 = .ok (.if_icmp .eq 22, 3) := by decide +kernel
theorem dX1_hoursToWind_33 : decode cX1_hoursToWind 33 = .ok (.aload_n 0, 1) := by decide +kernel
theorem dX1_hoursToWind_34 : decode cX1_hoursToWind 34 = .ok (.iload_n 1, 1) := by decide +kernel
theorem dX1_hoursToWind_35 : decode cX1_hoursToWind 35 = .ok (.invokevirtual 83, 3) := by decide +kernel
theorem dX1_hoursToWind_38 : decode cX1_hoursToWind 38 = .ok (.ifCond .eq 14, 3) := by decide +kernel
theorem dX1_hoursToWind_41 : decode cX1_hoursToWind 41 = .ok (.iload 4, 2) := by decide +kernel
theorem dX1_hoursToWind_43 : decode cX1_hoursToWind 43 = .ok (.iload_n 2, 1) := by decide +kernel
theorem dX1_hoursToWind_44 : decode cX1_hoursToWind 44 = .ok (.iadd, 1) := by decide +kernel
theorem dX1_hoursToWind_45 : decode cX1_hoursToWind 45 = .ok (.iload_n 3, 1) := by decide +kernel
theorem dX1_hoursToWind_46 : decode cX1_hoursToWind 46 = .ok (.invokestatic 224, 3) := by decide +kernel
theorem dX1_hoursToWind_49 : decode cX1_hoursToWind 49 = .ok (.ifCond .eq 5, 3) := by decide +kernel
theorem dX1_hoursToWind_52 : decode cX1_hoursToWind 52 = .ok (.iconst (-1), 1) := by decide +kernel
theorem dX1_hoursToWind_53 : decode cX1_hoursToWind 53 = .ok (.ireturn, 1) := by decide +kernel
theorem dX1_hoursToWind_54 : decode cX1_hoursToWind 54 = .ok (.iload_n 3, 1) := by decide +kernel
theorem dX1_hoursToWind_55 : decode cX1_hoursToWind 55 = .ok (.ifCond .gt 7, 3) := by decide +kernel
theorem dX1_hoursToWind_58 : decode cX1_hoursToWind 58 = .ok (.iconst 0, 1) := by decide +kernel
theorem dX1_hoursToWind_59 : decode cX1_hoursToWind 59 = .ok (.goto 14, 3) := by decide +kernel
theorem dX1_hoursToWind_62 : decode cX1_hoursToWind 62 = .ok (.iload 4, 2) := by decide +kernel
theorem dX1_hoursToWind_64 : decode cX1_hoursToWind 64 = .ok (.iload_n 2, 1) := by decide +kernel
theorem dX1_hoursToWind_65 : decode cX1_hoursToWind 65 = .ok (.iadd, 1) := by decide +kernel
theorem dX1_hoursToWind_66 : decode cX1_hoursToWind 66 = .ok (.iload_n 3, 1) := by decide +kernel
theorem dX1_hoursToWind_67 : decode cX1_hoursToWind 67 = .ok (.idiv, 1) := by decide +kernel
theorem dX1_hoursToWind_68 : decode cX1_hoursToWind 68 = .ok (.iload 4, 2) := by decide +kernel
theorem dX1_hoursToWind_70 : decode cX1_hoursToWind 70 = .ok (.iload_n 3, 1) := by decide +kernel
theorem dX1_hoursToWind_71 : decode cX1_hoursToWind 71 = .ok (.idiv, 1) := by decide +kernel
theorem dX1_hoursToWind_72 : decode cX1_hoursToWind 72 = .ok (.isub, 1) := by decide +kernel
theorem dX1_hoursToWind_73 : decode cX1_hoursToWind 73 = .ok (.istore 5, 2) := by decide +kernel
theorem dX1_hoursToWind_75 : decode cX1_hoursToWind 75 = .ok (.iload_n 2, 1) := by decide +kernel
theorem dX1_hoursToWind_76 : decode cX1_hoursToWind 76 = .ok (.iload 5, 2) := by decide +kernel
theorem dX1_hoursToWind_78 : decode cX1_hoursToWind 78 = .ok (.isub, 1) := by decide +kernel
theorem dX1_hoursToWind_79 : decode cX1_hoursToWind 79 = .ok (.invokestatic 74, 3) := by decide +kernel
theorem dX1_hoursToWind_82 : decode cX1_hoursToWind 82 = .ok (.ifCond .eq 10, 3) := by decide +kernel
theorem dX1_hoursToWind_85 : decode cX1_hoursToWind 85 = .ok (.iload_n 2, 1) := by decide +kernel
theorem dX1_hoursToWind_86 : decode cX1_hoursToWind 86 = .ok (.iload 5, 2) := by decide +kernel
theorem dX1_hoursToWind_88 : decode cX1_hoursToWind 88 = .ok (.isub, 1) := by decide +kernel
theorem dX1_hoursToWind_89 : decode cX1_hoursToWind 89 = .ok (.goto 4, 3) := by decide +kernel
theorem dX1_hoursToWind_92 : decode cX1_hoursToWind 92 = .ok (.iconst (-1), 1) := by decide +kernel
theorem dX1_hoursToWind_93 : decode cX1_hoursToWind 93 = .ok (.ireturn, 1) := by decide +kernel
set_option maxRecDepth 20000 in
theorem ggX1_canWindAll_X0_winds : GoodIn wsX1_canWindAll wsX0_winds := goodIn_r _ [6, 7, 32, 33, 34, 35] (by decide +kernel) (by decide +kernel)
set_option maxRecDepth 20000 in
theorem gX1_canWindAll_X0_winds : GoodIn wsX1_canWindAll (wsV RX1 155 RX0 yX0_winds wsX0_winds) := goodIn_app (goodIn_of _ (by decide +kernel)) ggX1_canWindAll_X0_winds
set_option maxRecDepth 20000 in
theorem ggX1_canWindAll_X1_goes : GoodIn wsX1_canWindAll wsX1_goes := goodIn_r _ [12, 13, 14, 15, 11, 16, 26, 27, 28, 29, 30, 31] (by decide +kernel) (by decide +kernel)
set_option maxRecDepth 20000 in
theorem gX1_canWindAll_X1_goes : GoodIn wsX1_canWindAll (wsV RX1 83 RX1 yX1_goes wsX1_goes) := goodIn_app (goodIn_of _ (by decide +kernel)) ggX1_canWindAll_X1_goes
set_option maxRecDepth 20000 in
theorem ggX1_canWindAll_X0_hours : GoodIn wsX1_canWindAll wsX0_hours := goodIn_r _ [20, 7, 21, 22, 32, 33, 34, 35] (by decide +kernel) (by decide +kernel)
set_option maxRecDepth 20000 in
theorem gX1_canWindAll_X0_hours : GoodIn wsX1_canWindAll (wsV RX1 158 RX0 yX0_hours wsX0_hours) := goodIn_app (goodIn_of _ (by decide +kernel)) ggX1_canWindAll_X0_hours
set_option maxRecDepth 20000 in
theorem ggX1_canWindAll_X1_areWindingHours : GoodIn wsX1_canWindAll wsX1_areWindingHours := goodIn_r _ [25] (by decide +kernel) (by decide +kernel)
set_option maxRecDepth 20000 in
theorem gX1_canWindAll_X1_areWindingHours : GoodIn wsX1_canWindAll (va_wsS RX1 74 yX1_areWindingHours wsX1_areWindingHours) := goodIn_app (goodIn_of _ (by decide +kernel)) ggX1_canWindAll_X1_areWindingHours
theorem dX1_canWindAll_0 : decode cX1_canWindAll 0 = .ok (.iconst 0, 1) := by decide +kernel
theorem dX1_canWindAll_1 : decode cX1_canWindAll 1 = .ok (.istore_n 2, 1) := by decide +kernel
theorem dX1_canWindAll_2 : decode cX1_canWindAll 2 = .ok (.iload_n 2, 1) := by decide +kernel
theorem dX1_canWindAll_3 : decode cX1_canWindAll 3 = .ok (.iconst 3, 1) := by decide +kernel
theorem dX1_canWindAll_4 : decode cX1_canWindAll 4 = .ok (.if_icmp .ge 45, 3) := by decide +kernel
theorem dX1_canWindAll_7 : decode cX1_canWindAll 7 = .ok (.aload_n 0, 1) := by decide +kernel
theorem dX1_canWindAll_8 : decode cX1_canWindAll 8 = .ok (.getfield 29, 3) := by decide +kernel
theorem dX1_canWindAll_11 : decode cX1_canWindAll 11 = .ok (.iload_n 2, 1) := by decide +kernel
theorem dX1_canWindAll_12 : decode cX1_canWindAll 12 = .ok (.invokevirtual 155, 3) := by decide +kernel
theorem dX1_canWindAll_15 : decode cX1_canWindAll 15 = .ok (.ifCond .eq 28, 3) := by decide +kernel
theorem dX1_canWindAll_18 : decode cX1_canWindAll 18 = .ok (.aload_n 0, 1) := by decide +kernel
theorem dX1_canWindAll_19 : decode cX1_canWindAll 19 = .ok (.iload_n 2, 1) := by decide +kernel
theorem dX1_canWindAll_20 : decode cX1_canWindAll 20 = .ok (.invokevirtual 83, 3) := by decide +kernel
theorem dX1_canWindAll_23 : decode cX1_canWindAll 23 = .ok (.ifCond .eq 18, 3) := by decide +kernel
theorem dX1_canWindAll_26 : decode cX1_canWindAll 26 = .ok (.aload_n 0, 1) := by decide +kernel
theorem dX1_canWindAll_27 : decode cX1_canWindAll 27 = .ok (.getfield 29, 3) := by decide +kernel
theorem dX1_canWindAll_30 : decode cX1_canWindAll 30 = .ok (.iload_n 2, 1) := by decide +kernel
theorem dX1_canWindAll_31 : decode cX1_canWindAll 31 = .ok (.iload_n 1, 1) := by decide +kernel
theorem dX1_canWindAll_32 : decode cX1_canWindAll 32 = .ok (.invokevirtual 158, 3) := by decide +kernel
theorem dX1_canWindAll_35 : decode cX1_canWindAll 35 = .ok (.invokestatic 74, 3) := by decide +kernel
theorem dX1_canWindAll_38 : decode cX1_canWindAll 38 = .ok (.ifCond .ne 5, 3) := by decide +kernel
theorem dX1_canWindAll_41 : decode cX1_canWindAll 41 = .ok (.iconst 0, 1) := by decide +kernel
theorem dX1_canWindAll_42 : decode cX1_canWindAll 42 = .ok (.ireturn, 1) := by decide +kernel
theorem dX1_canWindAll_43 : decode cX1_canWindAll 43 = .ok (.iinc 2 1, 3) := by decide +kernel
theorem dX1_canWindAll_46 : decode cX1_canWindAll 46 = .ok (.goto (-44), 3) := by decide +kernel
theorem dX1_canWindAll_49 : decode cX1_canWindAll 49 = .ok (.iconst 1, 1) := by decide +kernel
theorem dX1_canWindAll_50 : decode cX1_canWindAll 50 = .ok (.ireturn, 1) := by decide +kernel
theorem dX1_isLocked_0 : decode cX1_isLocked 0 = .ok (.aload_n 0, 1) := by decide +kernel
theorem dX1_isLocked_1 : decode cX1_isLocked 1 = .ok (.getfield 9, 3) := by decide +kernel
theorem dX1_isLocked_4 : decode cX1_isLocked 4 = .ok (.iconst 1, 1) := by decide +kernel
theorem dX1_isLocked_5 : decode cX1_isLocked 5 = .ok (.iaload, 1) := by decide +kernel
theorem dX1_isLocked_6 : decode cX1_isLocked 6 = .ok (.ifCond .eq 7, 3) := by decide +kernel
theorem dX1_isLocked_9 : decode cX1_isLocked 9 = .ok (.iconst 1, 1) := by decide +kernel
theorem dX1_isLocked_10 : decode cX1_isLocked 10 = .ok (.goto 4, 3) := by decide +kernel
theorem dX1_isLocked_13 : decode cX1_isLocked 13 = .ok (.iconst 0, 1) := by decide +kernel
theorem dX1_isLocked_14 : decode cX1_isLocked 14 = .ok (.ireturn, 1) := by decide +kernel
set_option maxRecDepth 20000 in
theorem ggX1_passHour_X1_isLocked : GoodIn wsX1_passHour wsX1_isLocked := goodIn_r _ [6, 1, 21, 22, 23, 24, 25, 26] (by decide +kernel) (by decide +kernel)
set_option maxRecDepth 20000 in
theorem gX1_passHour_X1_isLocked : GoodIn wsX1_passHour (wsV RX1 79 RX1 yX1_isLocked wsX1_isLocked) := goodIn_app (goodIn_of _ (by decide +kernel)) ggX1_passHour_X1_isLocked
set_option maxRecDepth 20000 in
theorem ggX1_passHour_X1_runHour : GoodIn wsX1_passHour wsX1_runHour := goodIn_r _ [10, 1, 11, 12, 13, 5, 14, 15, 16, 17, 18, 19, 20, 21, 22, 23, 24, 25, 26] (by decide +kernel) (by decide +kernel)
set_option maxRecDepth 20000 in
theorem gX1_passHour_X1_runHour : GoodIn wsX1_passHour (wsV RX1 228 RX1 yX1_runHour wsX1_runHour) := goodIn_app (goodIn_of _ (by decide +kernel)) ggX1_passHour_X1_runHour
theorem dX1_passHour_0 : decode cX1_passHour 0 = .ok (.aload_n 0, 1) := by decide +kernel
theorem dX1_passHour_1 : decode cX1_passHour 1 = .ok (.getfield 9, 3) := by decide +kernel
theorem dX1_passHour_4 : decode cX1_passHour 4 = .ok (.iconst 0, 1) := by decide +kernel
theorem dX1_passHour_5 : decode cX1_passHour 5 = .ok (.dup2, 1) := by decide +kernel
theorem dX1_passHour_6 : decode cX1_passHour 6 = .ok (.iaload, 1) := by decide +kernel
theorem dX1_passHour_7 : decode cX1_passHour 7 = .ok (.iconst 1, 1) := by decide +kernel
theorem dX1_passHour_8 : decode cX1_passHour 8 = .ok (.iadd, 1) := by decide +kernel
theorem dX1_passHour_9 : decode cX1_passHour 9 = .ok (.iastore, 1) := by decide +kernel
theorem dX1_passHour_10 : decode cX1_passHour 10 = .ok (.aload_n 0, 1) := by decide +kernel
theorem dX1_passHour_11 : decode cX1_passHour 11 = .ok (.invokevirtual 79, 3) := by decide +kernel
theorem dX1_passHour_14 : decode cX1_passHour 14 = .ok (.ifCond .eq 21, 3) := by decide +kernel
theorem dX1_passHour_17 : decode cX1_passHour 17 = .ok (.iconst 0, 1) := by decide +kernel
theorem dX1_passHour_18 : decode cX1_passHour 18 = .ok (.istore_n 1, 1) := by decide +kernel
theorem dX1_passHour_19 : decode cX1_passHour 19 = .ok (.iload_n 1, 1) := by decide +kernel
theorem dX1_passHour_20 : decode cX1_passHour 20 = .ok (.iconst 3, 1) := by decide +kernel
theorem dX1_passHour_21 : decode cX1_passHour 21 = .ok (.if_icmp .ge 14, 3) := by decide +kernel
theorem dX1_passHour_24 : decode cX1_passHour 24 = .ok (.aload_n 0, 1) := by decide +kernel
theorem dX1_passHour_25 : decode cX1_passHour 25 = .ok (.iload_n 1, 1) := by decide +kernel
theorem dX1_passHour_26 : decode cX1_passHour 26 = .ok (.invokevirtual 228, 3) := by decide +kernel
theorem dX1_passHour_29 : decode cX1_passHour 29 = .ok (.iinc 1 1, 3) := by decide +kernel
theorem dX1_passHour_32 : decode cX1_passHour 32 = .ok (.goto (-13), 3) := by decide +kernel
theorem dX1_passHour_35 : decode cX1_passHour 35 = .ok (.return_, 1) := by decide +kernel
set_option maxRecDepth 20000 in
theorem ggX1_runHour_X1_goes : GoodIn wsX1_runHour wsX1_goes := goodIn_r _ [6, 1, 7, 8, 5, 9, 13, 14, 15, 16, 17, 18] (by decide +kernel) (by decide +kernel)
set_option maxRecDepth 20000 in
theorem gX1_runHour_X1_goes : GoodIn wsX1_runHour (wsV RX1 83 RX1 yX1_goes wsX1_goes) := goodIn_app (goodIn_of _ (by decide +kernel)) ggX1_runHour_X1_goes
set_option maxRecDepth 20000 in
theorem ggX1_runHour_X1_place : GoodIn wsX1_runHour wsX1_place := goodIn_r _ [9] (by decide +kernel) (by decide +kernel)
set_option maxRecDepth 20000 in
theorem gX1_runHour_X1_place : GoodIn wsX1_runHour (va_wsS RX1 91 yX1_place wsX1_place) := goodIn_app (goodIn_of _ (by decide +kernel)) ggX1_runHour_X1_place
set_option maxRecDepth 20000 in
theorem ggX1_runHour_X1_isLostHour : GoodIn wsX1_runHour wsX1_isLostHour := goodIn_r _ [12] (by decide +kernel) (by decide +kernel)
set_option maxRecDepth 20000 in
theorem gX1_runHour_X1_isLostHour : GoodIn wsX1_runHour (va_wsS RX1 224 yX1_isLostHour wsX1_isLostHour) := goodIn_app (goodIn_of _ (by decide +kernel)) ggX1_runHour_X1_isLostHour
theorem dX1_runHour_0 : decode cX1_runHour 0 = .ok (.aload_n 0, 1) := by decide +kernel
theorem dX1_runHour_1 : decode cX1_runHour 1 = .ok (.iload_n 1, 1) := by decide +kernel
theorem dX1_runHour_2 : decode cX1_runHour 2 = .ok (.invokevirtual 83, 3) := by decide +kernel
theorem dX1_runHour_5 : decode cX1_runHour 5 = .ok (.ifCond .eq 16, 3) := by decide +kernel
theorem dX1_runHour_8 : decode cX1_runHour 8 = .ok (.aload_n 0, 1) := by decide +kernel
theorem dX1_runHour_9 : decode cX1_runHour 9 = .ok (.getfield 9, 3) := by decide +kernel
theorem dX1_runHour_12 : decode cX1_runHour 12 = .ok (.iload_n 1, 1) := by decide +kernel
theorem dX1_runHour_13 : decode cX1_runHour 13 = .ok (.iconst 0, 1) := by decide +kernel
theorem dX1_runHour_14 : decode cX1_runHour 14 = .ok (.invokestatic 91, 3) := by decide +kernel
theorem dX1_runHour_17 : decode cX1_runHour 17 = .ok (.iaload, 1) := by decide +kernel
theorem dX1_runHour_18 : decode cX1_runHour 18 = .ok (.ifCond .ne 4, 3) := by decide +kernel
