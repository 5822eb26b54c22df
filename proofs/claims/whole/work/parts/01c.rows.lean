theorem dX0_init_0 : decode cX0_init 0 = .ok (.aload_n 0, 1) := by decide +kernel
theorem dX0_init_1 : decode cX0_init 1 = .ok (.invokespecial 3, 3) := by decide +kernel
theorem dX0_init_4 : decode cX0_init 4 = .ok (.aload_n 0, 1) := by decide +kernel
theorem dX0_init_5 : decode cX0_init 5 = .ok (.iconst 3, 1) := by decide +kernel
theorem dX0_init_6 : decode cX0_init 6 = .ok (.newarray .int, 2) := by decide +kernel
theorem dX0_init_8 : decode cX0_init 8 = .ok (.putfield 9, 3) := by decide +kernel
theorem dX0_init_11 : decode cX0_init 11 = .ok (.aload_n 0, 1) := by decide +kernel
theorem dX0_init_12 : decode cX0_init 12 = .ok (.iconst 3, 1) := by decide +kernel
theorem dX0_init_13 : decode cX0_init 13 = .ok (.newarray .int, 2) := by decide +kernel
theorem dX0_init_15 : decode cX0_init 15 = .ok (.putfield 15, 3) := by decide +kernel
theorem dX0_init_18 : decode cX0_init 18 = .ok (.aload_n 0, 1) := by decide +kernel
theorem dX0_init_19 : decode cX0_init 19 = .ok (.iconst 3, 1) := by decide +kernel
theorem dX0_init_20 : decode cX0_init 20 = .ok (.newarray .int, 2) := by decide +kernel
theorem dX0_init_22 : decode cX0_init 22 = .ok (.putfield 18, 3) := by decide +kernel
theorem dX0_init_25 : decode cX0_init 25 = .ok (.aload_n 0, 1) := by decide +kernel
theorem dX0_init_26 : decode cX0_init 26 = .ok (.iconst 0, 1) := by decide +kernel
theorem dX0_init_27 : decode cX0_init 27 = .ok (.putfield 21, 3) := by decide +kernel
theorem dX0_init_30 : decode cX0_init 30 = .ok (.return_, 1) := by decide +kernel
theorem dX0_restart_0 : decode cX0_restart 0 = .ok (.aload_n 0, 1) := by decide +kernel
theorem dX0_restart_1 : decode cX0_restart 1 = .ok (.iconst 0, 1) := by decide +kernel
theorem dX0_restart_2 : decode cX0_restart 2 = .ok (.putfield 21, 3) := by decide +kernel
theorem dX0_restart_5 : decode cX0_restart 5 = .ok (.iconst 0, 1) := by decide +kernel
theorem dX0_restart_6 : decode cX0_restart 6 = .ok (.istore_n 1, 1) := by decide +kernel
theorem dX0_restart_7 : decode cX0_restart 7 = .ok (.iload_n 1, 1) := by decide +kernel
theorem dX0_restart_8 : decode cX0_restart 8 = .ok (.iconst 3, 1) := by decide +kernel
theorem dX0_restart_9 : decode cX0_restart 9 = .ok (.if_icmp .ge 30, 3) := by decide +kernel
theorem dX0_restart_12 : decode cX0_restart 12 = .ok (.aload_n 0, 1) := by decide +kernel
theorem dX0_restart_13 : decode cX0_restart 13 = .ok (.getfield 9, 3) := by decide +kernel
theorem dX0_restart_16 : decode cX0_restart 16 = .ok (.iload_n 1, 1) := by decide +kernel
theorem dX0_restart_17 : decode cX0_restart 17 = .ok (.iconst 0, 1) := by decide +kernel
theorem dX0_restart_18 : decode cX0_restart 18 = .ok (.iastore, 1) := by decide +kernel
theorem dX0_restart_19 : decode cX0_restart 19 = .ok (.aload_n 0, 1) := by decide +kernel
theorem dX0_restart_20 : decode cX0_restart 20 = .ok (.getfield 15, 3) := by decide +kernel
theorem dX0_restart_23 : decode cX0_restart 23 = .ok (.iload_n 1, 1) := by decide +kernel
theorem dX0_restart_24 : decode cX0_restart 24 = .ok (.iconst 0, 1) := by decide +kernel
theorem dX0_restart_25 : decode cX0_restart 25 = .ok (.iastore, 1) := by decide +kernel
theorem dX0_restart_26 : decode cX0_restart 26 = .ok (.aload_n 0, 1) := by decide +kernel
theorem dX0_restart_27 : decode cX0_restart 27 = .ok (.getfield 18, 3) := by decide +kernel
theorem dX0_restart_30 : decode cX0_restart 30 = .ok (.iload_n 1, 1) := by decide +kernel
theorem dX0_restart_31 : decode cX0_restart 31 = .ok (.iconst 0, 1) := by decide +kernel
theorem dX0_restart_32 : decode cX0_restart 32 = .ok (.iastore, 1) := by decide +kernel
theorem dX0_restart_33 : decode cX0_restart 33 = .ok (.iinc 1 1, 3) := by decide +kernel
theorem dX0_restart_36 : decode cX0_restart 36 = .ok (.goto (-29), 3) := by decide +kernel
theorem dX0_restart_39 : decode cX0_restart 39 = .ok (.return_, 1) := by decide +kernel
set_option maxRecDepth 20000 in
theorem ggX0_areComplete_X0_isPartComplete : GoodIn wsX0_areComplete wsX0_isPartComplete := goodIn_r _ [6, 7, 1, 8, 9, 10, 11, 12, 13] (by decide +kernel) (by decide +kernel)
set_option maxRecDepth 20000 in
theorem gX0_areComplete_X0_isPartComplete : GoodIn wsX0_areComplete (wsV RX0 25 RX0 yX0_isPartComplete wsX0_isPartComplete) := goodIn_app (goodIn_of _ (by decide +kernel)) ggX0_areComplete_X0_isPartComplete
theorem dX0_areComplete_0 : decode cX0_areComplete 0 = .ok (.aload_n 0, 1) := by decide +kernel
theorem dX0_areComplete_1 : decode cX0_areComplete 1 = .ok (.getfield 21, 3) := by decide +kernel
theorem dX0_areComplete_4 : decode cX0_areComplete 4 = .ok (.iconst 2, 1) := by decide +kernel
theorem dX0_areComplete_5 : decode cX0_areComplete 5 = .ok (.if_icmp .ne 14, 3) := by decide +kernel
theorem dX0_areComplete_8 : decode cX0_areComplete 8 = .ok (.aload_n 0, 1) := by decide +kernel
theorem dX0_areComplete_9 : decode cX0_areComplete 9 = .ok (.invokevirtual 25, 3) := by decide +kernel
theorem dX0_areComplete_12 : decode cX0_areComplete 12 = .ok (.ifCond .eq 7, 3) := by decide +kernel
theorem dX0_areComplete_15 : decode cX0_areComplete 15 = .ok (.iconst 1, 1) := by decide +kernel
theorem dX0_areComplete_16 : decode cX0_areComplete 16 = .ok (.goto 4, 3) := by decide +kernel
theorem dX0_areComplete_19 : decode cX0_areComplete 19 = .ok (.iconst 0, 1) := by decide +kernel
theorem dX0_areComplete_20 : decode cX0_areComplete 20 = .ok (.ireturn, 1) := by decide +kernel
theorem dX0_winds_0 : decode cX0_winds 0 = .ok (.aload_n 0, 1) := by decide +kernel
theorem dX0_winds_1 : decode cX0_winds 1 = .ok (.getfield 9, 3) := by decide +kernel
theorem dX0_winds_4 : decode cX0_winds 4 = .ok (.iload_n 1, 1) := by decide +kernel
theorem dX0_winds_5 : decode cX0_winds 5 = .ok (.iaload, 1) := by decide +kernel
theorem dX0_winds_6 : decode cX0_winds 6 = .ok (.iconst 1, 1) := by decide +kernel
theorem dX0_winds_7 : decode cX0_winds 7 = .ok (.if_icmp .eq 7, 3) := by decide +kernel
theorem dX0_winds_10 : decode cX0_winds 10 = .ok (.iconst 1, 1) := by decide +kernel
theorem dX0_winds_11 : decode cX0_winds 11 = .ok (.goto 4, 3) := by decide +kernel
theorem dX0_winds_14 : decode cX0_winds 14 = .ok (.iconst 0, 1) := by decide +kernel
theorem dX0_winds_15 : decode cX0_winds 15 = .ok (.ireturn, 1) := by decide +kernel
theorem dX0_hours_0 : decode cX0_hours 0 = .ok (.aload_n 0, 1) := by decide +kernel
theorem dX0_hours_1 : decode cX0_hours 1 = .ok (.getfield 9, 3) := by decide +kernel
theorem dX0_hours_4 : decode cX0_hours 4 = .ok (.iload_n 1, 1) := by decide +kernel
theorem dX0_hours_5 : decode cX0_hours 5 = .ok (.iaload, 1) := by decide +kernel
theorem dX0_hours_6 : decode cX0_hours 6 = .ok (.iconst 2, 1) := by decide +kernel
theorem dX0_hours_7 : decode cX0_hours 7 = .ok (.if_icmp .ne 10, 3) := by decide +kernel
theorem dX0_hours_10 : decode cX0_hours 10 = .ok (.aload_n 0, 1) := by decide +kernel
theorem dX0_hours_11 : decode cX0_hours 11 = .ok (.getfield 18, 3) := by decide +kernel
theorem dX0_hours_14 : decode cX0_hours 14 = .ok (.iload_n 1, 1) := by decide +kernel
theorem dX0_hours_15 : decode cX0_hours 15 = .ok (.iaload, 1) := by decide +kernel
theorem dX0_hours_16 : decode cX0_hours 16 = .ok (.ireturn, 1) := by decide +kernel
theorem dX0_hours_17 : decode cX0_hours 17 = .ok (.iload_n 2, 1) := by decide +kernel
theorem dX0_hours_18 : decode cX0_hours 18 = .ok (.iconst (-1), 1) := by decide +kernel
theorem dX0_hours_19 : decode cX0_hours 19 = .ok (.if_icmp .ne 7, 3) := by decide +kernel
theorem dX0_hours_22 : decode cX0_hours 22 = .ok (.iconst (-1), 1) := by decide +kernel
theorem dX0_hours_23 : decode cX0_hours 23 = .ok (.goto 18, 3) := by decide +kernel
theorem dX0_hours_26 : decode cX0_hours 26 = .ok (.iload_n 2, 1) := by decide +kernel
theorem dX0_hours_27 : decode cX0_hours 27 = .ok (.aload_n 0, 1) := by decide +kernel
theorem dX0_hours_28 : decode cX0_hours 28 = .ok (.getfield 15, 3) := by decide +kernel
theorem dX0_hours_31 : decode cX0_hours 31 = .ok (.iload_n 1, 1) := by decide +kernel
theorem dX0_hours_32 : decode cX0_hours 32 = .ok (.iaload, 1) := by decide +kernel
theorem dX0_hours_33 : decode cX0_hours 33 = .ok (.aload_n 0, 1) := by decide +kernel
theorem dX0_hours_34 : decode cX0_hours 34 = .ok (.getfield 18, 3) := by decide +kernel
theorem dX0_hours_37 : decode cX0_hours 37 = .ok (.iload_n 1, 1) := by decide +kernel
theorem dX0_hours_38 : decode cX0_hours 38 = .ok (.iaload, 1) := by decide +kernel
theorem dX0_hours_39 : decode cX0_hours 39 = .ok (.imul, 1) := by decide +kernel
theorem dX0_hours_40 : decode cX0_hours 40 = .ok (.iadd, 1) := by decide +kernel
theorem dX0_hours_41 : decode cX0_hours 41 = .ok (.ireturn, 1) := by decide +kernel
set_option maxRecDepth 20000 in
theorem ggX0_take_X0_takeComma : GoodIn wsX0_take wsX0_takeComma := goodIn_r _ [7, 2, 8, 9, 10, 6, 11, 1, 12, 13, 26, 27, 28, 29] (by decide +kernel) (by decide +kernel)
set_option maxRecDepth 20000 in
theorem gX0_take_X0_takeComma : GoodIn wsX0_take (wsV RX0 29 RX0 yX0_takeComma wsX0_takeComma) := goodIn_app (goodIn_of _ (by decide +kernel)) ggX0_take_X0_takeComma
set_option maxRecDepth 20000 in
theorem ggX0_take_X0_takeFirst : GoodIn wsX0_take wsX0_takeFirst := goodIn_r _ [17, 1, 2, 13, 26, 27, 28, 29] (by decide +kernel) (by decide +kernel)
set_option maxRecDepth 20000 in
theorem gX0_take_X0_takeFirst : GoodIn wsX0_take (wsV RX0 32 RX0 yX0_takeFirst wsX0_takeFirst) := goodIn_app (goodIn_of _ (by decide +kernel)) ggX0_take_X0_takeFirst
set_option maxRecDepth 20000 in
theorem ggX0_take_X0_takeNextDigit : GoodIn wsX0_take wsX0_takeNextDigit := goodIn_r _ [21, 13, 2, 26, 27, 28, 29] (by decide +kernel) (by decide +kernel)
set_option maxRecDepth 20000 in
theorem gX0_take_X0_takeNextDigit : GoodIn wsX0_take (wsV RX0 36 RX0 yX0_takeNextDigit wsX0_takeNextDigit) := goodIn_app (goodIn_of _ (by decide +kernel)) ggX0_take_X0_takeNextDigit
set_option maxRecDepth 20000 in
theorem ggX0_take_X0_takeMoreOrLess : GoodIn wsX0_take wsX0_takeMoreOrLess := goodIn_r _ [25, 12, 2, 13, 26, 27, 28, 29] (by decide +kernel) (by decide +kernel)
set_option maxRecDepth 20000 in
theorem gX0_take_X0_takeMoreOrLess : GoodIn wsX0_take (wsV RX0 39 RX0 yX0_takeMoreOrLess wsX0_takeMoreOrLess) := goodIn_app (goodIn_of _ (by decide +kernel)) ggX0_take_X0_takeMoreOrLess
theorem dX0_take_0 : decode cX0_take 0 = .ok (.iload_n 1, 1) := by decide +kernel
theorem dX0_take_1 : decode cX0_take 1 = .ok (.bipush 44, 2) := by decide +kernel
theorem dX0_take_3 : decode cX0_take 3 = .ok (.if_icmp .ne 8, 3) := by decide +kernel
theorem dX0_take_6 : decode cX0_take 6 = .ok (.aload_n 0, 1) := by decide +kernel
theorem dX0_take_7 : decode cX0_take 7 = .ok (.invokevirtual 29, 3) := by decide +kernel
theorem dX0_take_10 : decode cX0_take 10 = .ok (.ireturn, 1) := by decide +kernel
theorem dX0_take_11 : decode cX0_take 11 = .ok (.aload_n 0, 1) := by decide +kernel
theorem dX0_take_12 : decode cX0_take 12 = .ok (.getfield 9, 3) := by decide +kernel
theorem dX0_take_15 : decode cX0_take 15 = .ok (.aload_n 0, 1) := by decide +kernel
theorem dX0_take_16 : decode cX0_take 16 = .ok (.getfield 21, 3) := by decide +kernel
theorem dX0_take_19 : decode cX0_take 19 = .ok (.iaload, 1) := by decide +kernel
theorem dX0_take_20 : decode cX0_take 20 = .ok (.tableswitch 50 0 3 #[32, 50, 38, 44], 32) := by decide +kernel
theorem dX0_take_52 : decode cX0_take 52 = .ok (.aload_n 0, 1) := by decide +kernel
theorem dX0_take_53 : decode cX0_take 53 = .ok (.iload_n 1, 1) := by decide +kernel
theorem dX0_take_54 : decode cX0_take 54 = .ok (.invokevirtual 32, 3) := by decide +kernel
theorem dX0_take_57 : decode cX0_take 57 = .ok (.ireturn, 1) := by decide +kernel
theorem dX0_take_58 : decode cX0_take 58 = .ok (.aload_n 0, 1) := by decide +kernel
theorem dX0_take_59 : decode cX0_take 59 = .ok (.iload_n 1, 1) := by decide +kernel
theorem dX0_take_60 : decode cX0_take 60 = .ok (.invokevirtual 36, 3) := by decide +kernel
theorem dX0_take_63 : decode cX0_take 63 = .ok (.ireturn, 1) := by decide +kernel
theorem dX0_take_64 : decode cX0_take 64 = .ok (.aload_n 0, 1) := by decide +kernel
theorem dX0_take_65 : decode cX0_take 65 = .ok (.iload_n 1, 1) := by decide +kernel
theorem dX0_take_66 : decode cX0_take 66 = .ok (.invokevirtual 39, 3) := by decide +kernel
theorem dX0_take_69 : decode cX0_take 69 = .ok (.ireturn, 1) := by decide +kernel
theorem dX0_take_70 : decode cX0_take 70 = .ok (.iconst 0, 1) := by decide +kernel
theorem dX0_take_71 : decode cX0_take 71 = .ok (.ireturn, 1) := by decide +kernel
theorem dX0_isPartComplete_0 : decode cX0_isPartComplete 0 = .ok (.aload_n 0, 1) := by decide +kernel
theorem dX0_isPartComplete_1 : decode cX0_isPartComplete 1 = .ok (.getfield 9, 3) := by decide +kernel
theorem dX0_isPartComplete_4 : decode cX0_isPartComplete 4 = .ok (.aload_n 0, 1) := by decide +kernel
theorem dX0_isPartComplete_5 : decode cX0_isPartComplete 5 = .ok (.getfield 21, 3) := by decide +kernel
theorem dX0_isPartComplete_8 : decode cX0_isPartComplete 8 = .ok (.iaload, 1) := by decide +kernel
theorem dX0_isPartComplete_9 : decode cX0_isPartComplete 9 = .ok (.iconst 3, 1) := by decide +kernel
theorem dX0_isPartComplete_10 : decode cX0_isPartComplete 10 = .ok (.if_icmp .ne 33, 3) := by decide +kernel
theorem dX0_isPartComplete_13 : decode cX0_isPartComplete 13 = .ok (.aload_n 0, 1) := by decide +kernel
theorem dX0_isPartComplete_14 : decode cX0_isPartComplete 14 = .ok (.getfield 15, 3) := by decide +kernel
theorem dX0_isPartComplete_17 : decode cX0_isPartComplete 17 = .ok (.aload_n 0, 1) := by decide +kernel
theorem dX0_isPartComplete_18 : decode cX0_isPartComplete 18 = .ok (.getfield 21, 3) := by decide +kernel
theorem dX0_isPartComplete_21 : decode cX0_isPartComplete 21 = .ok (.iaload, 1) := by decide +kernel
theorem dX0_isPartComplete_22 : decode cX0_isPartComplete 22 = .ok (.ifCond .eq 15, 3) := by decide +kernel
theorem dX0_isPartComplete_25 : decode cX0_isPartComplete 25 = .ok (.aload_n 0, 1) := by decide +kernel
theorem dX0_isPartComplete_26 : decode cX0_isPartComplete 26 = .ok (.getfield 18, 3) := by decide +kernel
theorem dX0_isPartComplete_29 : decode cX0_isPartComplete 29 = .ok (.aload_n 0, 1) := by decide +kernel
theorem dX0_isPartComplete_30 : decode cX0_isPartComplete 30 = .ok (.getfield 21, 3) := by decide +kernel
theorem dX0_isPartComplete_33 : decode cX0_isPartComplete 33 = .ok (.iaload, 1) := by decide +kernel
theorem dX0_isPartComplete_34 : decode cX0_isPartComplete 34 = .ok (.ifCond .le 7, 3) := by decide +kernel
theorem dX0_isPartComplete_37 : decode cX0_isPartComplete 37 = .ok (.iconst 1, 1) := by decide +kernel
theorem dX0_isPartComplete_38 : decode cX0_isPartComplete 38 = .ok (.goto 4, 3) := by decide +kernel
theorem dX0_isPartComplete_41 : decode cX0_isPartComplete 41 = .ok (.iconst 0, 1) := by decide +kernel
theorem dX0_isPartComplete_42 : decode cX0_isPartComplete 42 = .ok (.ireturn, 1) := by decide +kernel
theorem dX0_isPartComplete_43 : decode cX0_isPartComplete 43 = .ok (.aload_n 0, 1) := by decide +kernel
theorem dX0_isPartComplete_44 : decode cX0_isPartComplete 44 = .ok (.getfield 9, 3) := by decide +kernel
theorem dX0_isPartComplete_47 : decode cX0_isPartComplete 47 = .ok (.aload_n 0, 1) := by decide +kernel
theorem dX0_isPartComplete_48 : decode cX0_isPartComplete 48 = .ok (.getfield 21, 3) := by decide +kernel
theorem dX0_isPartComplete_51 : decode cX0_isPartComplete 51 = .ok (.iaload, 1) := by decide +kernel
theorem dX0_isPartComplete_52 : decode cX0_isPartComplete 52 = .ok (.ifCond .eq 7, 3) := by decide +kernel
theorem dX0_isPartComplete_55 : decode cX0_isPartComplete 55 = .ok (.iconst 1, 1) := by decide +kernel
theorem dX0_isPartComplete_56 : decode cX0_isPartComplete 56 = .ok (.goto 4, 3) := by decide +kernel
theorem dX0_isPartComplete_59 : decode cX0_isPartComplete 59 = .ok (.iconst 0, 1) := by decide +kernel
theorem dX0_isPartComplete_60 : decode cX0_isPartComplete 60 = .ok (.ireturn, 1) := by decide +kernel
set_option maxRecDepth 20000 in
theorem ggX0_takeComma_X0_isPartComplete : GoodIn wsX0_takeComma wsX0_isPartComplete := goodIn_r _ [6, 7, 1, 8, 9, 10, 11, 12, 13] (by decide +kernel) (by decide +kernel)
set_option maxRecDepth 20000 in
theorem gX0_takeComma_X0_isPartComplete : GoodIn wsX0_takeComma (wsV RX0 25 RX0 yX0_isPartComplete wsX0_isPartComplete) := goodIn_app (goodIn_of _ (by decide +kernel)) ggX0_takeComma_X0_isPartComplete
theorem dX0_takeComma_0 : decode cX0_takeComma 0 = .ok (.aload_n 0, 1) := by decide +kernel
theorem dX0_takeComma_1 : decode cX0_takeComma 1 = .ok (.getfield 21, 3) := by decide +kernel
theorem dX0_takeComma_4 : decode cX0_takeComma 4 = .ok (.iconst 2, 1) := by decide +kernel
theorem dX0_takeComma_5 : decode cX0_takeComma 5 = .ok (.if_icmp .ge 10, 3) := by decide +kernel
theorem dX0_takeComma_8 : decode cX0_takeComma 8 = .ok (.aload_n 0, 1) := by decide +kernel
theorem dX0_takeComma_9 : decode cX0_takeComma 9 = .ok (.invokevirtual 25, 3) := by decide +kernel
theorem dX0_takeComma_12 : decode cX0_takeComma 12 = .ok (.ifCond .ne 5, 3) := by decide +kernel
theorem dX0_takeComma_15 : decode cX0_takeComma 15 = .ok (.iconst 0, 1) := by decide +kernel
theorem dX0_takeComma_16 : decode cX0_takeComma 16 = .ok (.ireturn, 1) := by decide +kernel
theorem dX0_takeComma_17 : decode cX0_takeComma 17 = .ok (.aload_n 0, 1) := by decide +kernel
theorem dX0_takeComma_18 : decode cX0_takeComma 18 = .ok (.dup, 1) := by decide +kernel
theorem dX0_takeComma_19 : decode cX0_takeComma 19 = .ok (.getfield 21, 3) := by decide +kernel
theorem dX0_takeComma_22 : decode cX0_takeComma 22 = .ok (.iconst 1, 1) := by decide +kernel
theorem dX0_takeComma_23 : decode cX0_takeComma 23 = .ok (.iadd, 1) := by decide +kernel
theorem dX0_takeComma_24 : decode cX0_takeComma 24 = .ok (.putfield 21, 3) := by decide +kernel
theorem dX0_takeComma_27 : decode cX0_takeComma 27 = .ok (.iconst 1, 1) := by decide +kernel
theorem dX0_takeComma_28 : decode cX0_takeComma 28 = .ok (.ireturn, 1) := by decide +kernel
theorem dX0_takeFirst_0 : decode cX0_takeFirst 0 = .ok (.iload_n 1, 1) := by decide +kernel
theorem dX0_takeFirst_1 : decode cX0_takeFirst 1 = .ok (.bipush 45, 2) := by decide +kernel
theorem dX0_takeFirst_3 : decode cX0_takeFirst 3 = .ok (.if_icmp .ne 16, 3) := by decide +kernel
theorem dX0_takeFirst_6 : decode cX0_takeFirst 6 = .ok (.aload_n 0, 1) := by decide +kernel
theorem dX0_takeFirst_7 : decode cX0_takeFirst 7 = .ok (.getfield 9, 3) := by decide +kernel
theorem dX0_takeFirst_10 : decode cX0_takeFirst 10 = .ok (.aload_n 0, 1) := by decide +kernel
theorem dX0_takeFirst_11 : decode cX0_takeFirst 11 = .ok (.getfield 21, 3) := by decide +kernel
theorem dX0_takeFirst_14 : decode cX0_takeFirst 14 = .ok (.iconst 1, 1) := by decide +kernel
theorem dX0_takeFirst_15 : decode cX0_takeFirst 15 = .ok (.iastore, 1) := by decide +kernel
theorem dX0_takeFirst_16 : decode cX0_takeFirst 16 = .ok (.goto 62, 3) := by decide +kernel
theorem dX0_takeFirst_19 : decode cX0_takeFirst 19 = .ok (.iload_n 1, 1) := by decide +kernel
theorem dX0_takeFirst_20 : decode cX0_takeFirst 20 = .ok (.bipush 110, 2) := by decide +kernel
theorem dX0_takeFirst_22 : decode cX0_takeFirst 22 = .ok (.if_icmp .ne 16, 3) := by decide +kernel
theorem dX0_takeFirst_25 : decode cX0_takeFirst 25 = .ok (.aload_n 0, 1) := by decide +kernel
theorem dX0_takeFirst_26 : decode cX0_takeFirst 26 = .ok (.getfield 9, 3) := by decide +kernel
theorem dX0_takeFirst_29 : decode cX0_takeFirst 29 = .ok (.aload_n 0, 1) := by decide +kernel
theorem dX0_takeFirst_30 : decode cX0_takeFirst 30 = .ok (.getfield 21, 3) := by decide +kernel
theorem dX0_takeFirst_33 : decode cX0_takeFirst 33 = .ok (.iconst 3, 1) := by decide +kernel
theorem dX0_takeFirst_34 : decode cX0_takeFirst 34 = .ok (.iastore, 1) := by decide +kernel
theorem dX0_takeFirst_35 : decode cX0_takeFirst 35 = .ok (.goto 43, 3) := by decide +kernel
theorem dX0_takeFirst_38 : decode cX0_takeFirst 38 = .ok (.iload_n 1, 1) := by decide +kernel
theorem dX0_takeFirst_39 : decode cX0_takeFirst 39 = .ok (.bipush 49, 2) := by decide +kernel
theorem dX0_takeFirst_41 : decode cX0_takeFirst 41 = .ok (.if_icmp .lt 35, 3) := by decide +kernel
theorem dX0_takeFirst_44 : decode cX0_takeFirst 44 = .ok (.iload_n 1, 1) := by decide +kernel
theorem dX0_takeFirst_45 : decode cX0_takeFirst 45 = .ok (.bipush 57, 2) := by decide +kernel
theorem dX0_takeFirst_47 : decode cX0_takeFirst 47 = .ok (.if_icmp .gt 29, 3) := by decide +kernel
theorem dX0_takeFirst_50 : decode cX0_takeFirst 50 = .ok (.aload_n 0, 1) := by decide +kernel
theorem dX0_takeFirst_51 : decode cX0_takeFirst 51 = .ok (.getfield 9, 3) := by decide +kernel
theorem dX0_takeFirst_54 : decode cX0_takeFirst 54 = .ok (.aload_n 0, 1) := by decide +kernel
theorem dX0_takeFirst_55 : decode cX0_takeFirst 55 = .ok (.getfield 21, 3) := by decide +kernel
theorem dX0_takeFirst_58 : decode cX0_takeFirst 58 = .ok (.iconst 2, 1) := by decide +kernel
theorem dX0_takeFirst_59 : decode cX0_takeFirst 59 = .ok (.iastore, 1) := by decide +kernel
theorem dX0_takeFirst_60 : decode cX0_takeFirst 60 = .ok (.aload_n 0, 1) := by decide +kernel
theorem dX0_takeFirst_61 : decode cX0_takeFirst 61 = .ok (.getfield 18, 3) := by decide +kernel
theorem dX0_takeFirst_64 : decode cX0_takeFirst 64 = .ok (.aload_n 0, 1) := by decide +kernel
theorem dX0_takeFirst_65 : decode cX0_takeFirst 65 = .ok (.getfield 21, 3) := by decide +kernel
theorem dX0_takeFirst_68 : decode cX0_takeFirst 68 = .ok (.iload_n 1, 1) := by decide +kernel
theorem dX0_takeFirst_69 : decode cX0_takeFirst 69 = .ok (.bipush 48, 2) := by decide +kernel
theorem dX0_takeFirst_71 : decode cX0_takeFirst 71 = .ok (.isub, 1) := by decide +kernel
theorem dX0_takeFirst_72 : decode cX0_takeFirst 72 = .ok (.iastore, 1) := by decide +kernel
theorem dX0_takeFirst_73 : decode cX0_takeFirst 73 = .ok (.goto 5, 3) := by decide +kernel
theorem dX0_takeFirst_76 : decode cX0_takeFirst 76 = .ok (.iconst 0, 1) := by decide +kernel
theorem dX0_takeFirst_77 : decode cX0_takeFirst 77 = .ok (.ireturn, 1) := by decide +kernel
theorem dX0_takeFirst_78 : decode cX0_takeFirst 78 = .ok (.iconst 1, 1) := by decide +kernel
theorem dX0_takeFirst_79 : decode cX0_takeFirst 79 = .ok (.ireturn, 1) := by decide +kernel
theorem dX0_takeNextDigit_0 : decode cX0_takeNextDigit 0 = .ok (.aload_n 0, 1) := by decide +kernel
theorem dX0_takeNextDigit_1 : decode cX0_takeNextDigit 1 = .ok (.getfield 18, 3) := by decide +kernel
theorem dX0_takeNextDigit_4 : decode cX0_takeNextDigit 4 = .ok (.aload_n 0, 1) := by decide +kernel
theorem dX0_takeNextDigit_5 : decode cX0_takeNextDigit 5 = .ok (.getfield 21, 3) := by decide +kernel
theorem dX0_takeNextDigit_8 : decode cX0_takeNextDigit 8 = .ok (.iaload, 1) := by decide +kernel
theorem dX0_takeNextDigit_9 : decode cX0_takeNextDigit 9 = .ok (.bipush 10, 2) := by decide +kernel
theorem dX0_takeNextDigit_11 : decode cX0_takeNextDigit 11 = .ok (.imul, 1) := by decide +kernel
theorem dX0_takeNextDigit_12 : decode cX0_takeNextDigit 12 = .ok (.iload_n 1, 1) := by decide +kernel
theorem dX0_takeNextDigit_13 : decode cX0_takeNextDigit 13 = .ok (.iadd, 1) := by decide +kernel
theorem dX0_takeNextDigit_14 : decode cX0_takeNextDigit 14 = .ok (.bipush 48, 2) := by decide +kernel
theorem dX0_takeNextDigit_16 : decode cX0_takeNextDigit 16 = .ok (.isub, 1) := by decide +kernel
theorem dX0_takeNextDigit_17 : decode cX0_takeNextDigit 17 = .ok (.istore_n 2, 1) := by decide +kernel
theorem dX0_takeNextDigit_18 : decode cX0_takeNextDigit 18 = .ok (.iload_n 1, 1) := by decide +kernel
theorem dX0_takeNextDigit_19 : decode cX0_takeNextDigit 19 = .ok (.bipush 48, 2) := by decide +kernel
theorem dX0_takeNextDigit_21 : decode cX0_takeNextDigit 21 = .ok (.if_icmp .lt 16, 3) := by decide +kernel
theorem dX0_takeNextDigit_24 : decode cX0_takeNextDigit 24 = .ok (.iload_n 1, 1) := by decide +kernel
theorem dX0_takeNextDigit_25 : decode cX0_takeNextDigit 25 = .ok (.bipush 57, 2) := by decide +kernel
theorem dX0_takeNextDigit_27 : decode cX0_takeNextDigit 27 = .ok (.if_icmp .gt 10, 3) := by decide +kernel
theorem dX0_takeNextDigit_30 : decode cX0_takeNextDigit 30 = .ok (.iload_n 2, 1) := by decide +kernel
theorem dX0_takeNextDigit_31 : decode cX0_takeNextDigit 31 = .ok (.sipush 200, 3) := by decide +kernel
theorem dX0_takeNextDigit_34 : decode cX0_takeNextDigit 34 = .ok (.if_icmp .le 5, 3) := by decide +kernel
theorem dX0_takeNextDigit_37 : decode cX0_takeNextDigit 37 = .ok (.iconst 0, 1) := by decide +kernel
theorem dX0_takeNextDigit_38 : decode cX0_takeNextDigit 38 = .ok (.ireturn, 1) := by decide +kernel
theorem dX0_takeNextDigit_39 : decode cX0_takeNextDigit 39 = .ok (.aload_n 0, 1) := by decide +kernel
theorem dX0_takeNextDigit_40 : decode cX0_takeNextDigit 40 = .ok (.getfield 18, 3) := by decide +kernel
theorem dX0_takeNextDigit_43 : decode cX0_takeNextDigit 43 = .ok (.aload_n 0, 1) := by decide +kernel
theorem dX0_takeNextDigit_44 : decode cX0_takeNextDigit 44 = .ok (.getfield 21, 3) := by decide +kernel
theorem dX0_takeNextDigit_47 : decode cX0_takeNextDigit 47 = .ok (.iload_n 2, 1) := by decide +kernel
theorem dX0_takeNextDigit_48 : decode cX0_takeNextDigit 48 = .ok (.iastore, 1) := by decide +kernel
theorem dX0_takeNextDigit_49 : decode cX0_takeNextDigit 49 = .ok (.iconst 1, 1) := by decide +kernel
theorem dX0_takeNextDigit_50 : decode cX0_takeNextDigit 50 = .ok (.ireturn, 1) := by decide +kernel
theorem dX0_takeMoreOrLess_0 : decode cX0_takeMoreOrLess 0 = .ok (.aload_n 0, 1) := by decide +kernel
theorem dX0_takeMoreOrLess_1 : decode cX0_takeMoreOrLess 1 = .ok (.getfield 15, 3) := by decide +kernel
theorem dX0_takeMoreOrLess_4 : decode cX0_takeMoreOrLess 4 = .ok (.aload_n 0, 1) := by decide +kernel
theorem dX0_takeMoreOrLess_5 : decode cX0_takeMoreOrLess 5 = .ok (.getfield 21, 3) := by decide +kernel
theorem dX0_takeMoreOrLess_8 : decode cX0_takeMoreOrLess 8 = .ok (.iaload, 1) := by decide +kernel
theorem dX0_takeMoreOrLess_9 : decode cX0_takeMoreOrLess 9 = .ok (.ifCond .ne 37, 3) := by decide +kernel
theorem dX0_takeMoreOrLess_12 : decode cX0_takeMoreOrLess 12 = .ok (.iload_n 1, 1) := by decide +kernel
theorem dX0_takeMoreOrLess_13 : decode cX0_takeMoreOrLess 13 = .ok (.bipush 43, 2) := by decide +kernel
theorem dX0_takeMoreOrLess_15 : decode cX0_takeMoreOrLess 15 = .ok (.if_icmp .eq 9, 3) := by decide +kernel
theorem dX0_takeMoreOrLess_18 : decode cX0_takeMoreOrLess 18 = .ok (.iload_n 1, 1) := by decide +kernel
theorem dX0_takeMoreOrLess_19 : decode cX0_takeMoreOrLess 19 = .ok (.bipush 45, 2) := by decide +kernel
theorem dX0_takeMoreOrLess_21 : decode cX0_takeMoreOrLess 21 = .ok (.if_icmp .ne 25, 3) := by decide +kernel
theorem dX0_takeMoreOrLess_24 : decode cX0_takeMoreOrLess 24 = .ok (.aload_n 0, 1) := by decide +kernel
theorem dX0_takeMoreOrLess_25 : decode cX0_takeMoreOrLess 25 = .ok (.getfield 15, 3) := by decide +kernel
theorem dX0_takeMoreOrLess_28 : decode cX0_takeMoreOrLess 28 = .ok (.aload_n 0, 1) := by decide +kernel
theorem dX0_takeMoreOrLess_29 : decode cX0_takeMoreOrLess 29 = .ok (.getfield 21, 3) := by decide +kernel
theorem dX0_takeMoreOrLess_32 : decode cX0_takeMoreOrLess 32 = .ok (.iload_n 1, 1) := by decide +kernel
theorem dX0_takeMoreOrLess_33 : decode cX0_takeMoreOrLess 33 = .ok (.bipush 43, 2) := by decide +kernel
theorem dX0_takeMoreOrLess_35 : decode cX0_takeMoreOrLess 35 = .ok (.if_icmp .ne 7, 3) := by decide +kernel
theorem dX0_takeMoreOrLess_38 : decode cX0_takeMoreOrLess 38 = .ok (.iconst 1, 1) := by decide +kernel
theorem dX0_takeMoreOrLess_39 : decode cX0_takeMoreOrLess 39 = .ok (.goto 4, 3) := by decide +kernel
theorem dX0_takeMoreOrLess_42 : decode cX0_takeMoreOrLess 42 = .ok (.iconst (-1), 1) := by decide +kernel
theorem dX0_takeMoreOrLess_43 : decode cX0_takeMoreOrLess 43 = .ok (.iastore, 1) := by decide +kernel
theorem dX0_takeMoreOrLess_44 : decode cX0_takeMoreOrLess 44 = .ok (.iconst 1, 1) := by decide +kernel
theorem dX0_takeMoreOrLess_45 : decode cX0_takeMoreOrLess 45 = .ok (.ireturn, 1) := by decide +kernel
theorem dX0_takeMoreOrLess_46 : decode cX0_takeMoreOrLess 46 = .ok (.aload_n 0, 1) := by decide +kernel
theorem dX0_takeMoreOrLess_47 : decode cX0_takeMoreOrLess 47 = .ok (.getfield 15, 3) := by decide +kernel
theorem dX0_takeMoreOrLess_50 : decode cX0_takeMoreOrLess 50 = .ok (.aload_n 0, 1) := by decide +kernel
theorem dX0_takeMoreOrLess_51 : decode cX0_takeMoreOrLess 51 = .ok (.getfield 21, 3) := by decide +kernel
theorem dX0_takeMoreOrLess_54 : decode cX0_takeMoreOrLess 54 = .ok (.iaload, 1) := by decide +kernel
theorem dX0_takeMoreOrLess_55 : decode cX0_takeMoreOrLess 55 = .ok (.ifCond .eq 42, 3) := by decide +kernel
theorem dX0_takeMoreOrLess_58 : decode cX0_takeMoreOrLess 58 = .ok (.aload_n 0, 1) := by decide +kernel
theorem dX0_takeMoreOrLess_59 : decode cX0_takeMoreOrLess 59 = .ok (.getfield 18, 3) := by decide +kernel
theorem dX0_takeMoreOrLess_62 : decode cX0_takeMoreOrLess 62 = .ok (.aload_n 0, 1) := by decide +kernel
theorem dX0_takeMoreOrLess_63 : decode cX0_takeMoreOrLess 63 = .ok (.getfield 21, 3) := by decide +kernel
theorem dX0_takeMoreOrLess_66 : decode cX0_takeMoreOrLess 66 = .ok (.iaload, 1) := by decide +kernel
theorem dX0_takeMoreOrLess_67 : decode cX0_takeMoreOrLess 67 = .ok (.ifCond .ne 30, 3) := by decide +kernel
theorem dX0_takeMoreOrLess_70 : decode cX0_takeMoreOrLess 70 = .ok (.iload_n 1, 1) := by decide +kernel
theorem dX0_takeMoreOrLess_71 : decode cX0_takeMoreOrLess 71 = .ok (.bipush 49, 2) := by decide +kernel
theorem dX0_takeMoreOrLess_73 : decode cX0_takeMoreOrLess 73 = .ok (.if_icmp .lt 24, 3) := by decide +kernel
theorem dX0_takeMoreOrLess_76 : decode cX0_takeMoreOrLess 76 = .ok (.iload_n 1, 1) := by decide +kernel
theorem dX0_takeMoreOrLess_77 : decode cX0_takeMoreOrLess 77 = .ok (.bipush 57, 2) := by decide +kernel
theorem dX0_takeMoreOrLess_79 : decode cX0_takeMoreOrLess 79 = .ok (.if_icmp .gt 18, 3) := by decide +kernel
theorem dX0_takeMoreOrLess_82 : decode cX0_takeMoreOrLess 82 = .ok (.aload_n 0, 1) := by decide +kernel
theorem dX0_takeMoreOrLess_83 : decode cX0_takeMoreOrLess 83 = .ok (.getfield 18, 3) := by decide +kernel
theorem dX0_takeMoreOrLess_86 : decode cX0_takeMoreOrLess 86 = .ok (.aload_n 0, 1) := by decide +kernel
theorem dX0_takeMoreOrLess_87 : decode cX0_takeMoreOrLess 87 = .ok (.getfield 21, 3) := by decide +kernel
theorem dX0_takeMoreOrLess_90 : decode cX0_takeMoreOrLess 90 = .ok (.iload_n 1, 1) := by decide +kernel
theorem dX0_takeMoreOrLess_91 : decode cX0_takeMoreOrLess 91 = .ok (.bipush 48, 2) := by decide +kernel
theorem dX0_takeMoreOrLess_93 : decode cX0_takeMoreOrLess 93 = .ok (.isub, 1) := by decide +kernel
theorem dX0_takeMoreOrLess_94 : decode cX0_takeMoreOrLess 94 = .ok (.iastore, 1) := by decide +kernel
theorem dX0_takeMoreOrLess_95 : decode cX0_takeMoreOrLess 95 = .ok (.iconst 1, 1) := by decide +kernel
theorem dX0_takeMoreOrLess_96 : decode cX0_takeMoreOrLess 96 = .ok (.ireturn, 1) := by decide +kernel
theorem dX0_takeMoreOrLess_97 : decode cX0_takeMoreOrLess 97 = .ok (.iconst 0, 1) := by decide +kernel
theorem dX0_takeMoreOrLess_98 : decode cX0_takeMoreOrLess 98 = .ok (.ireturn, 1) := by decide +kernel
set_option maxRecDepth 20000 in
theorem ggX1_init_X0_init : GoodIn wsX1_init wsX0_init := goodIn_r _ [16, 17, 2, 3, 4, 18, 19, 20, 21, 28, 29, 30, 31] (by decide +kernel) (by decide +kernel)
set_option maxRecDepth 20000 in
theorem gX1_init_X0_init_n28 : GoodIn wsX1_init (wsX0_init) := ggX1_init_X0_init
theorem dX1_init_0 : decode cX1_init 0 = .ok (.aload_n 0, 1) := by decide +kernel
theorem dX1_init_1 : decode cX1_init 1 = .ok (.invokespecial 3, 3) := by decide +kernel
theorem dX1_init_4 : decode cX1_init 4 = .ok (.aload_n 0, 1) := by decide +kernel
theorem dX1_init_5 : decode cX1_init 5 = .ok (.bipush 33, 2) := by decide +kernel
theorem dX1_init_7 : decode cX1_init 7 = .ok (.newarray .int, 2) := by decide +kernel
theorem dX1_init_9 : decode cX1_init 9 = .ok (.putfield 9, 3) := by decide +kernel
theorem dX1_init_12 : decode cX1_init 12 = .ok (.aload_n 0, 1) := by decide +kernel
theorem dX1_init_13 : decode cX1_init 13 = .ok (.sipush 198, 3) := by decide +kernel
theorem dX1_init_16 : decode cX1_init 16 = .ok (.newarray .int, 2) := by decide +kernel
theorem dX1_init_18 : decode cX1_init 18 = .ok (.putfield 13, 3) := by decide +kernel
theorem dX1_init_21 : decode cX1_init 21 = .ok (.aload_n 0, 1) := by decide +kernel
theorem dX1_init_22 : decode cX1_init 22 = .ok (.iconst 0, 1) := by decide +kernel
theorem dX1_init_23 : decode cX1_init 23 = .ok (.putfield 16, 3) := by decide +kernel
theorem dX1_init_26 : decode cX1_init 26 = .ok (.aload_n 0, 1) := by decide +kernel
theorem dX1_init_27 : decode cX1_init 27 = .ok (.bipush 60, 2) := by decide +kernel
theorem dX1_init_29 : decode cX1_init 29 = .ok (.newarray .int, 2) := by decide +kernel
theorem dX1_init_31 : decode cX1_init 31 = .ok (.putfield 20, 3) := by decide +kernel
theorem dX1_init_34 : decode cX1_init 34 = .ok (.aload_n 0, 1) := by decide +kernel
theorem dX1_init_35 : decode cX1_init 35 = .ok (.iconst 0, 1) := by decide +kernel
theorem dX1_init_36 : decode cX1_init 36 = .ok (.putfield 23, 3) := by decide +kernel
theorem dX1_init_39 : decode cX1_init 39 = .ok (.aload_n 0, 1) := by decide +kernel
theorem dX1_init_40 : decode cX1_init 40 = .ok (.new 26, 3) := by decide +kernel
theorem dX1_init_43 : decode cX1_init 43 = .ok (.dup, 1) := by decide +kernel
theorem dX1_init_44 : decode cX1_init 44 = .ok (.invokespecial 28, 3) := by decide +kernel
theorem dX1_init_47 : decode cX1_init 47 = .ok (.putfield 29, 3) := by decide +kernel
theorem dX1_init_50 : decode cX1_init 50 = .ok (.aload_n 0, 1) := by decide +kernel
theorem dX1_init_51 : decode cX1_init 51 = .ok (.getfield 9, 3) := by decide +kernel
theorem dX1_init_54 : decode cX1_init 54 = .ok (.iconst 2, 1) := by decide +kernel
theorem dX1_init_55 : decode cX1_init 55 = .ok (.iconst (-1), 1) := by decide +kernel
theorem dX1_init_56 : decode cX1_init 56 = .ok (.iastore, 1) := by decide +kernel
theorem dX1_init_57 : decode cX1_init 57 = .ok (.iconst 0, 1) := by decide +kernel
theorem dX1_init_58 : decode cX1_init 58 = .ok (.istore_n 1, 1) := by decide +kernel
theorem dX1_init_59 : decode cX1_init 59 = .ok (.iload_n 1, 1) := by decide +kernel
theorem dX1_init_60 : decode cX1_init 60 = .ok (.iconst 3, 1) := by decide +kernel
theorem dX1_init_61 : decode cX1_init 61 = .ok (.if_icmp .ge 23, 3) := by decide +kernel
theorem dX1_init_64 : decode cX1_init 64 = .ok (.aload_n 0, 1) := by decide +kernel
theorem dX1_init_65 : decode cX1_init 65 = .ok (.getfield 9, 3) := by decide +kernel
theorem dX1_init_68 : decode cX1_init 68 = .ok (.bipush 11, 2) := by decide +kernel
theorem dX1_init_70 : decode cX1_init 70 = .ok (.iload_n 1, 1) := by decide +kernel
theorem dX1_init_71 : decode cX1_init 71 = .ok (.iadd, 1) := by decide +kernel
theorem dX1_init_72 : decode cX1_init 72 = .ok (.getstatic 33, 3) := by decide +kernel
theorem dX1_init_75 : decode cX1_init 75 = .ok (.iload_n 1, 1) := by decide +kernel
theorem dX1_init_76 : decode cX1_init 76 = .ok (.iaload, 1) := by decide +kernel
theorem dX1_init_77 : decode cX1_init 77 = .ok (.iastore, 1) := by decide +kernel
theorem dX1_init_78 : decode cX1_init 78 = .ok (.iinc 1 1, 3) := by decide +kernel
theorem dX1_init_81 : decode cX1_init 81 = .ok (.goto (-22), 3) := by decide +kernel
theorem dX1_init_84 : decode cX1_init 84 = .ok (.iconst 0, 1) := by decide +kernel
theorem dX1_init_85 : decode cX1_init 85 = .ok (.istore_n 1, 1) := by decide +kernel
theorem dX1_init_86 : decode cX1_init 86 = .ok (.iload_n 1, 1) := by decide +kernel
theorem dX1_init_87 : decode cX1_init 87 = .ok (.bipush 7, 2) := by decide +kernel
theorem dX1_init_89 : decode cX1_init 89 = .ok (.if_icmp .ge 29, 3) := by decide +kernel
theorem dX1_init_92 : decode cX1_init 92 = .ok (.aload_n 0, 1) := by decide +kernel
theorem dX1_init_93 : decode cX1_init 93 = .ok (.getfield 9, 3) := by decide +kernel
theorem dX1_init_96 : decode cX1_init 96 = .ok (.bipush 14, 2) := by decide +kernel
theorem dX1_init_98 : decode cX1_init 98 = .ok (.iload_n 1, 1) := by decide +kernel
theorem dX1_init_99 : decode cX1_init 99 = .ok (.iadd, 1) := by decide +kernel
theorem dX1_init_100 : decode cX1_init 100 = .ok (.iload_n 1, 1) := by decide +kernel
theorem dX1_init_101 : decode cX1_init 101 = .ok (.iconst 5, 1) := by decide +kernel
theorem dX1_init_102 : decode cX1_init 102 = .ok (.if_icmp .ge 8, 3) := by decide +kernel
theorem dX1_init_105 : decode cX1_init 105 = .ok (.bipush 8, 2) := by decide +kernel
theorem dX1_init_107 : decode cX1_init 107 = .ok (.goto 4, 3) := by decide +kernel
theorem dX1_init_110 : decode cX1_init 110 = .ok (.iconst (-1), 1) := by decide +kernel
theorem dX1_init_111 : decode cX1_init 111 = .ok (.iastore, 1) := by decide +kernel
theorem dX1_init_112 : decode cX1_init 112 = .ok (.iinc 1 1, 3) := by decide +kernel
theorem dX1_init_115 : decode cX1_init 115 = .ok (.goto (-29), 3) := by decide +kernel
theorem dX1_init_118 : decode cX1_init 118 = .ok (.iconst 0, 1) := by decide +kernel
theorem dX1_init_119 : decode cX1_init 119 = .ok (.istore_n 1, 1) := by decide +kernel
theorem dX1_init_120 : decode cX1_init 120 = .ok (.iload_n 1, 1) := by decide +kernel
theorem dX1_init_121 : decode cX1_init 121 = .ok (.iconst 3, 1) := by decide +kernel
theorem dX1_init_122 : decode cX1_init 122 = .ok (.if_icmp .ge 23, 3) := by decide +kernel
theorem dX1_init_125 : decode cX1_init 125 = .ok (.aload_n 0, 1) := by decide +kernel
theorem dX1_init_126 : decode cX1_init 126 = .ok (.getfield 9, 3) := by decide +kernel
theorem dX1_init_129 : decode cX1_init 129 = .ok (.bipush 21, 2) := by decide +kernel
theorem dX1_init_131 : decode cX1_init 131 = .ok (.iload_n 1, 1) := by decide +kernel
theorem dX1_init_132 : decode cX1_init 132 = .ok (.iconst 4, 1) := by decide +kernel
theorem dX1_init_133 : decode cX1_init 133 = .ok (.imul, 1) := by decide +kernel
theorem dX1_init_134 : decode cX1_init 134 = .ok (.iadd, 1) := by decide +kernel
theorem dX1_init_135 : decode cX1_init 135 = .ok (.iconst 1, 1) := by decide +kernel
theorem dX1_init_136 : decode cX1_init 136 = .ok (.iadd, 1) := by decide +kernel
theorem dX1_init_137 : decode cX1_init 137 = .ok (.iconst 1, 1) := by decide +kernel
theorem dX1_init_138 : decode cX1_init 138 = .ok (.iastore, 1) := by decide +kernel
theorem dX1_init_139 : decode cX1_init 139 = .ok (.iinc 1 1, 3) := by decide +kernel
theorem dX1_init_142 : decode cX1_init 142 = .ok (.goto (-22), 3) := by decide +kernel
theorem dX1_init_145 : decode cX1_init 145 = .ok (.return_, 1) := by decide +kernel
set_option maxRecDepth 20000 in
theorem ggX1_opening_X1_isDay : GoodIn wsX1_opening wsX1_isDay := goodIn_r _ [8] (by decide +kernel) (by decide +kernel)
set_option maxRecDepth 20000 in
theorem gX1_opening_X1_isDay : GoodIn wsX1_opening (va_wsS RX1 36 yX1_isDay wsX1_isDay) := goodIn_app (goodIn_of _ (by decide +kernel)) ggX1_opening_X1_isDay
set_option maxRecDepth 20000 in
theorem ggX1_opening_X1_change : GoodIn wsX1_opening wsX1_change := goodIn_r _ [12, 13, 14, 15, 16, 7, 17, 18, 19, 20, 21, 22, 23, 24, 25, 26, 27, 28, 29] (by decide +kernel) (by decide +kernel)
set_option maxRecDepth 20000 in
theorem gX1_opening_X1_change : GoodIn wsX1_opening (wsV RX1 52 RX1 yX1_change wsX1_change) := goodIn_app (goodIn_of _ (by decide +kernel)) ggX1_opening_X1_change
theorem dX1_opening_0 : decode cX1_opening 0 = .ok (.iload_n 1, 1) := by decide +kernel
theorem dX1_opening_1 : decode cX1_opening 1 = .ok (.invokestatic 36, 3) := by decide +kernel
theorem dX1_opening_4 : decode cX1_opening 4 = .ok (.ifCond .ne 13, 3) := by decide +kernel
theorem dX1_opening_7 : decode cX1_opening 7 = .ok (.new 40, 3) := by decide +kernel
theorem dX1_opening_10 : decode cX1_opening 10 = .ok (.dup, 1) := by decide +kernel
theorem dX1_opening_11 : decode cX1_opening 11 = .ok (.ldc 42, 2) := by decide +kernel
theorem dX1_opening_13 : decode cX1_opening 13 = .ok (.invokespecial 44, 3) := by decide +kernel
theorem dX1_opening_16 : decode cX1_opening 16 = .ok (.athrow, 1) := by decide +kernel
theorem dX1_opening_17 : decode cX1_opening 17 = .ok (.iload_n 2, 1) := by decide +kernel
theorem dX1_opening_18 : decode cX1_opening 18 = .ok (.iconst (-1), 1) := by decide +kernel
theorem dX1_opening_19 : decode cX1_opening 19 = .ok (.if_icmp .eq 23, 3) := by decide +kernel
theorem dX1_opening_22 : decode cX1_opening 22 = .ok (.iload_n 2, 1) := by decide +kernel
theorem dX1_opening_23 : decode cX1_opening 23 = .ok (.ifCond .lt 9, 3) := by decide +kernel
theorem dX1_opening_26 : decode cX1_opening 26 = .ok (.iload_n 2, 1) := by decide +kernel
theorem dX1_opening_27 : decode cX1_opening 27 = .ok (.bipush 24, 2) := by decide +kernel
theorem dX1_opening_29 : decode cX1_opening 29 = .ok (.if_icmp .lt 13, 3) := by decide +kernel
theorem dX1_opening_32 : decode cX1_opening 32 = .ok (.new 47, 3) := by decide +kernel
theorem dX1_opening_35 : decode cX1_opening 35 = .ok (.dup, 1) := by decide +kernel
theorem dX1_opening_36 : decode cX1_opening 36 = .ok (.ldc 49, 2) := by decide +kernel
theorem dX1_opening_38 : decode cX1_opening 38 = .ok (.invokespecial 51, 3) := by decide +kernel
theorem dX1_opening_41 : decode cX1_opening 41 = .ok (.athrow, 1) := by decide +kernel
theorem dX1_opening_42 : decode cX1_opening 42 = .ok (.aload_n 0, 1) := by decide +kernel
theorem dX1_opening_43 : decode cX1_opening 43 = .ok (.bipush 14, 2) := by decide +kernel
theorem dX1_opening_45 : decode cX1_opening 45 = .ok (.iload_n 1, 1) := by decide +kernel
theorem dX1_opening_46 : decode cX1_opening 46 = .ok (.iadd, 1) := by decide +kernel
theorem dX1_opening_47 : decode cX1_opening 47 = .ok (.iload_n 2, 1) := by decide +kernel
theorem dX1_opening_48 : decode cX1_opening 48 = .ok (.invokevirtual 52, 3) := by decide +kernel
theorem dX1_opening_51 : decode cX1_opening 51 = .ok (.ireturn, 1) := by decide +kernel
set_option maxRecDepth 20000 in
theorem ggX1_set_X1_isSetting : GoodIn wsX1_set wsX1_isSetting := goodIn_r _ [10] (by decide +kernel) (by decide +kernel)
set_option maxRecDepth 20000 in
theorem gX1_set_X1_isSetting : GoodIn wsX1_set (va_wsS RX1 56 yX1_isSetting wsX1_isSetting) := goodIn_app (goodIn_of _ (by decide +kernel)) ggX1_set_X1_isSetting
set_option maxRecDepth 20000 in
theorem ggX1_set_X1_change : GoodIn wsX1_set wsX1_change := goodIn_r _ [14, 15, 16, 17, 18, 9, 19, 20, 21, 22, 23, 24, 25, 26, 27, 28, 29, 30, 31] (by decide +kernel) (by decide +kernel)
set_option maxRecDepth 20000 in
theorem gX1_set_X1_change : GoodIn wsX1_set (wsV RX1 52 RX1 yX1_change wsX1_change) := goodIn_app (goodIn_of _ (by decide +kernel)) ggX1_set_X1_change
theorem dX1_set_0 : decode cX1_set 0 = .ok (.iload_n 1, 1) := by decide +kernel
theorem dX1_set_1 : decode cX1_set 1 = .ok (.invokestatic 56, 3) := by decide +kernel
theorem dX1_set_4 : decode cX1_set 4 = .ok (.ifCond .ne 13, 3) := by decide +kernel
theorem dX1_set_7 : decode cX1_set 7 = .ok (.new 40, 3) := by decide +kernel
theorem dX1_set_10 : decode cX1_set 10 = .ok (.dup, 1) := by decide +kernel
theorem dX1_set_11 : decode cX1_set 11 = .ok (.ldc 59, 2) := by decide +kernel
theorem dX1_set_13 : decode cX1_set 13 = .ok (.invokespecial 44, 3) := by decide +kernel
theorem dX1_set_16 : decode cX1_set 16 = .ok (.athrow, 1) := by decide +kernel
theorem dX1_set_17 : decode cX1_set 17 = .ok (.iload_n 2, 1) := by decide +kernel
theorem dX1_set_18 : decode cX1_set 18 = .ok (.getstatic 61, 3) := by decide +kernel
theorem dX1_set_21 : decode cX1_set 21 = .ok (.iload_n 1, 1) := by decide +kernel
theorem dX1_set_22 : decode cX1_set 22 = .ok (.iaload, 1) := by decide +kernel
theorem dX1_set_23 : decode cX1_set 23 = .ok (.if_icmp .lt 12, 3) := by decide +kernel
theorem dX1_set_26 : decode cX1_set 26 = .ok (.iload_n 2, 1) := by decide +kernel
theorem dX1_set_27 : decode cX1_set 27 = .ok (.getstatic 64, 3) := by decide +kernel
theorem dX1_set_30 : decode cX1_set 30 = .ok (.iload_n 1, 1) := by decide +kernel
theorem dX1_set_31 : decode cX1_set 31 = .ok (.iaload, 1) := by decide +kernel
theorem dX1_set_32 : decode cX1_set 32 = .ok (.if_icmp .le 13, 3) := by decide +kernel
theorem dX1_set_35 : decode cX1_set 35 = .ok (.new 47, 3) := by decide +kernel
theorem dX1_set_38 : decode cX1_set 38 = .ok (.dup, 1) := by decide +kernel
theorem dX1_set_39 : decode cX1_set 39 = .ok (.ldc 67, 2) := by decide +kernel
theorem dX1_set_41 : decode cX1_set 41 = .ok (.invokespecial 51, 3) := by decide +kernel
theorem dX1_set_44 : decode cX1_set 44 = .ok (.athrow, 1) := by decide +kernel
theorem dX1_set_45 : decode cX1_set 45 = .ok (.aload_n 0, 1) := by decide +kernel
theorem dX1_set_46 : decode cX1_set 46 = .ok (.bipush 11, 2) := by decide +kernel
theorem dX1_set_48 : decode cX1_set 48 = .ok (.iload_n 1, 1) := by decide +kernel
theorem dX1_set_49 : decode cX1_set 49 = .ok (.iadd, 1) := by decide +kernel
theorem dX1_set_50 : decode cX1_set 50 = .ok (.iload_n 2, 1) := by decide +kernel
theorem dX1_set_51 : decode cX1_set 51 = .ok (.invokevirtual 52, 3) := by decide +kernel
theorem dX1_set_54 : decode cX1_set 54 = .ok (.ireturn, 1) := by decide +kernel
set_option maxRecDepth 20000 in
theorem ggX1_wind_X1_isMovement : GoodIn wsX1_wind wsX1_isMovement := goodIn_r _ [10] (by decide +kernel) (by decide +kernel)
set_option maxRecDepth 20000 in
theorem gX1_wind_X1_isMovement : GoodIn wsX1_wind (va_wsS RX1 69 yX1_isMovement wsX1_isMovement) := goodIn_app (goodIn_of _ (by decide +kernel)) ggX1_wind_X1_isMovement
set_option maxRecDepth 20000 in
theorem ggX1_wind_X1_areWindingHours : GoodIn wsX1_wind wsX1_areWindingHours := goodIn_r _ [13] (by decide +kernel) (by decide +kernel)
set_option maxRecDepth 20000 in
theorem gX1_wind_X1_areWindingHours : GoodIn wsX1_wind (va_wsS RX1 74 yX1_areWindingHours wsX1_areWindingHours) := goodIn_app (goodIn_of _ (by decide +kernel)) ggX1_wind_X1_areWindingHours
set_option maxRecDepth 20000 in
theorem ggX1_wind_X1_isLocked : GoodIn wsX1_wind wsX1_isLocked := goodIn_r _ [17, 18, 40, 41, 42, 43, 44, 45] (by decide +kernel) (by decide +kernel)
set_option maxRecDepth 20000 in
theorem gX1_wind_X1_isLocked : GoodIn wsX1_wind (wsV RX1 79 RX1 yX1_isLocked wsX1_isLocked) := goodIn_app (goodIn_of _ (by decide +kernel)) ggX1_wind_X1_isLocked
set_option maxRecDepth 20000 in
theorem ggX1_wind_X1_goes : GoodIn wsX1_wind wsX1_goes := goodIn_r _ [22, 18, 23, 24, 9, 25, 40, 41, 42, 43, 44, 45] (by decide +kernel) (by decide +kernel)
set_option maxRecDepth 20000 in
theorem gX1_wind_X1_goes : GoodIn wsX1_wind (wsV RX1 83 RX1 yX1_goes wsX1_goes) := goodIn_app (goodIn_of _ (by decide +kernel)) ggX1_wind_X1_goes
set_option maxRecDepth 20000 in
theorem ggX1_wind_X1_place : GoodIn wsX1_wind wsX1_place := goodIn_r _ [25] (by decide +kernel) (by decide +kernel)
set_option maxRecDepth 20000 in
theorem gX1_wind_X1_place : GoodIn wsX1_wind (va_wsS RX1 91 yX1_place wsX1_place) := goodIn_app (goodIn_of _ (by decide +kernel)) ggX1_wind_X1_place
set_option maxRecDepth 20000 in
theorem ggX1_wind_X1_change : GoodIn wsX1_wind wsX1_change := goodIn_r _ [29, 18, 30, 31, 32, 9, 33, 34, 35, 36, 37, 38, 39, 40, 41, 42, 43, 44, 45] (by decide +kernel) (by decide +kernel)
set_option maxRecDepth 20000 in
theorem gX1_wind_X1_change : GoodIn wsX1_wind (wsV RX1 52 RX1 yX1_change wsX1_change) := goodIn_app (goodIn_of _ (by decide +kernel)) ggX1_wind_X1_change
theorem dX1_wind_0 : decode cX1_wind 0 = .ok (.iload_n 1, 1) := by decide +kernel
theorem dX1_wind_1 : decode cX1_wind 1 = .ok (.invokestatic 69, 3) := by decide +kernel
theorem dX1_wind_4 : decode cX1_wind 4 = .ok (.ifCond .ne 13, 3) := by decide +kernel
theorem dX1_wind_7 : decode cX1_wind 7 = .ok (.new 40, 3) := by decide +kernel
theorem dX1_wind_10 : decode cX1_wind 10 = .ok (.dup, 1) := by decide +kernel
theorem dX1_wind_11 : decode cX1_wind 11 = .ok (.ldc 72, 2) := by decide +kernel
theorem dX1_wind_13 : decode cX1_wind 13 = .ok (.invokespecial 44, 3) := by decide +kernel
theorem dX1_wind_16 : decode cX1_wind 16 = .ok (.athrow, 1) := by decide +kernel
theorem dX1_wind_17 : decode cX1_wind 17 = .ok (.iload_n 2, 1) := by decide +kernel
theorem dX1_wind_18 : decode cX1_wind 18 = .ok (.invokestatic 74, 3) := by decide +kernel
theorem dX1_wind_21 : decode cX1_wind 21 = .ok (.ifCond .ne 13, 3) := by decide +kernel
theorem dX1_wind_24 : decode cX1_wind 24 = .ok (.new 47, 3) := by decide +kernel
theorem dX1_wind_27 : decode cX1_wind 27 = .ok (.dup, 1) := by decide +kernel
theorem dX1_wind_28 : decode cX1_wind 28 = .ok (.ldc 77, 2) := by decide +kernel
theorem dX1_wind_30 : decode cX1_wind 30 = .ok (.invokespecial 51, 3) := by decide +kernel
theorem dX1_wind_33 : decode cX1_wind 33 = .ok (.athrow, 1) := by decide +kernel
theorem dX1_wind_34 : decode cX1_wind 34 = .ok (.aload_n 0, 1) := by decide +kernel
theorem dX1_wind_35 : decode cX1_wind 35 = .ok (.invokevirtual 79, 3) := by decide +kernel
theorem dX1_wind_38 : decode cX1_wind 38 = .ok (.ifCond .ne 11, 3) := by decide +kernel
theorem dX1_wind_41 : decode cX1_wind 41 = .ok (.aload_n 0, 1) := by decide +kernel
theorem dX1_wind_42 : decode cX1_wind 42 = .ok (.iload_n 1, 1) := by decide +kernel
theorem dX1_wind_43 : decode cX1_wind 43 = .ok (.invokevirtual 83, 3) := by decide +kernel
theorem dX1_wind_46 : decode cX1_wind 46 = .ok (.ifCond .ne 13, 3) := by decide +kernel
theorem dX1_wind_49 : decode cX1_wind 49 = .ok (.new 86, 3) := by decide +kernel
theorem dX1_wind_52 : decode cX1_wind 52 = .ok (.dup, 1) := by decide +kernel
theorem dX1_wind_53 : decode cX1_wind 53 = .ok (.ldc 88, 2) := by decide +kernel
theorem dX1_wind_55 : decode cX1_wind 55 = .ok (.invokespecial 90, 3) := by decide +kernel
theorem dX1_wind_58 : decode cX1_wind 58 = .ok (.athrow, 1) := by decide +kernel
theorem dX1_wind_59 : decode cX1_wind 59 = .ok (.aload_n 0, 1) := by decide +kernel
theorem dX1_wind_60 : decode cX1_wind 60 = .ok (.iload_n 1, 1) := by decide +kernel
theorem dX1_wind_61 : decode cX1_wind 61 = .ok (.iconst 0, 1) := by decide +kernel
theorem dX1_wind_62 : decode cX1_wind 62 = .ok (.invokestatic 91, 3) := by decide +kernel
theorem dX1_wind_65 : decode cX1_wind 65 = .ok (.iload_n 2, 1) := by decide +kernel
theorem dX1_wind_66 : decode cX1_wind 66 = .ok (.invokevirtual 52, 3) := by decide +kernel
theorem dX1_wind_69 : decode cX1_wind 69 = .ok (.ireturn, 1) := by decide +kernel
set_option maxRecDepth 20000 in
theorem ggX1_fault_X1_isMovement : GoodIn wsX1_fault wsX1_isMovement := goodIn_r _ [6] (by decide +kernel) (by decide +kernel)
set_option maxRecDepth 20000 in
theorem gX1_fault_X1_isMovement : GoodIn wsX1_fault (va_wsS RX1 69 yX1_isMovement wsX1_isMovement) := goodIn_app (goodIn_of _ (by decide +kernel)) ggX1_fault_X1_isMovement
set_option maxRecDepth 20000 in
theorem ggX1_fault_X1_place : GoodIn wsX1_fault wsX1_place := goodIn_r _ [9] (by decide +kernel) (by decide +kernel)
set_option maxRecDepth 20000 in
theorem gX1_fault_X1_place : GoodIn wsX1_fault (va_wsS RX1 91 yX1_place wsX1_place) := goodIn_app (goodIn_of _ (by decide +kernel)) ggX1_fault_X1_place
set_option maxRecDepth 20000 in
theorem ggX1_fault_X1_change : GoodIn wsX1_fault wsX1_change := goodIn_r _ [13, 14, 15, 16, 17, 5, 18, 19, 20, 21, 22, 23, 24, 25, 26, 27, 28, 29, 30] (by decide +kernel) (by decide +kernel)
set_option maxRecDepth 20000 in
theorem gX1_fault_X1_change : GoodIn wsX1_fault (wsV RX1 52 RX1 yX1_change wsX1_change) := goodIn_app (goodIn_of _ (by decide +kernel)) ggX1_fault_X1_change
theorem dX1_fault_0 : decode cX1_fault 0 = .ok (.iload_n 1, 1) := by decide +kernel
theorem dX1_fault_1 : decode cX1_fault 1 = .ok (.invokestatic 69, 3) := by decide +kernel
theorem dX1_fault_4 : decode cX1_fault 4 = .ok (.ifCond .ne 13, 3) := by decide +kernel
theorem dX1_fault_7 : decode cX1_fault 7 = .ok (.new 40, 3) := by decide +kernel
theorem dX1_fault_10 : decode cX1_fault 10 = .ok (.dup, 1) := by decide +kernel
theorem dX1_fault_11 : decode cX1_fault 11 = .ok (.ldc 72, 2) := by decide +kernel
theorem dX1_fault_13 : decode cX1_fault 13 = .ok (.invokespecial 44, 3) := by decide +kernel
theorem dX1_fault_16 : decode cX1_fault 16 = .ok (.athrow, 1) := by decide +kernel
theorem dX1_fault_17 : decode cX1_fault 17 = .ok (.aload_n 0, 1) := by decide +kernel
theorem dX1_fault_18 : decode cX1_fault 18 = .ok (.iload_n 1, 1) := by decide +kernel
theorem dX1_fault_19 : decode cX1_fault 19 = .ok (.iconst 1, 1) := by decide +kernel
theorem dX1_fault_20 : decode cX1_fault 20 = .ok (.invokestatic 91, 3) := by decide +kernel
theorem dX1_fault_23 : decode cX1_fault 23 = .ok (.iload_n 2, 1) := by decide +kernel
theorem dX1_fault_24 : decode cX1_fault 24 = .ok (.ifCond .eq 7, 3) := by decide +kernel
theorem dX1_fault_27 : decode cX1_fault 27 = .ok (.iconst 1, 1) := by decide +kernel
theorem dX1_fault_28 : decode cX1_fault 28 = .ok (.goto 4, 3) := by decide +kernel
theorem dX1_fault_31 : decode cX1_fault 31 = .ok (.iconst 0, 1) := by decide +kernel
theorem dX1_fault_32 : decode cX1_fault 32 = .ok (.invokevirtual 52, 3) := by decide +kernel
theorem dX1_fault_35 : decode cX1_fault 35 = .ok (.ireturn, 1) := by decide +kernel
set_option maxRecDepth 20000 in
theorem ggX1_loss_X1_isMovement : GoodIn wsX1_loss wsX1_isMovement := goodIn_r _ [8] (by decide +kernel) (by decide +kernel)
set_option maxRecDepth 20000 in
theorem gX1_loss_X1_isMovement : GoodIn wsX1_loss (va_wsS RX1 69 yX1_isMovement wsX1_isMovement) := goodIn_app (goodIn_of _ (by decide +kernel)) ggX1_loss_X1_isMovement
set_option maxRecDepth 20000 in
theorem ggX1_loss_X1_place : GoodIn wsX1_loss wsX1_place := goodIn_r _ [11] (by decide +kernel) (by decide +kernel)
set_option maxRecDepth 20000 in
theorem gX1_loss_X1_place : GoodIn wsX1_loss (va_wsS RX1 91 yX1_place wsX1_place) := goodIn_app (goodIn_of _ (by decide +kernel)) ggX1_loss_X1_place
set_option maxRecDepth 20000 in
theorem ggX1_loss_X1_change : GoodIn wsX1_loss wsX1_change := goodIn_r _ [15, 16, 17, 18, 19, 7, 20, 21, 22, 23, 24, 25, 26, 27, 28, 29, 30, 31, 32] (by decide +kernel) (by decide +kernel)
set_option maxRecDepth 20000 in
theorem gX1_loss_X1_change : GoodIn wsX1_loss (wsV RX1 52 RX1 yX1_change wsX1_change) := goodIn_app (goodIn_of _ (by decide +kernel)) ggX1_loss_X1_change
theorem dX1_loss_0 : decode cX1_loss 0 = .ok (.iload_n 1, 1) := by decide +kernel
theorem dX1_loss_1 : decode cX1_loss 1 = .ok (.invokestatic 69, 3) := by decide +kernel
theorem dX1_loss_4 : decode cX1_loss 4 = .ok (.ifCond .ne 13, 3) := by decide +kernel
theorem dX1_loss_7 : decode cX1_loss 7 = .ok (.new 40, 3) := by decide +kernel
theorem dX1_loss_10 : decode cX1_loss 10 = .ok (.dup, 1) := by decide +kernel
theorem dX1_loss_11 : decode cX1_loss 11 = .ok (.ldc 72, 2) := by decide +kernel
theorem dX1_loss_13 : decode cX1_loss 13 = .ok (.invokespecial 44, 3) := by decide +kernel
theorem dX1_loss_16 : decode cX1_loss 16 = .ok (.athrow, 1) := by decide +kernel
theorem dX1_loss_17 : decode cX1_loss 17 = .ok (.iload_n 2, 1) := by decide +kernel
theorem dX1_loss_18 : decode cX1_loss 18 = .ok (.ifCond .lt 9, 3) := by decide +kernel
theorem dX1_loss_21 : decode cX1_loss 21 = .ok (.iload_n 2, 1) := by decide +kernel
theorem dX1_loss_22 : decode cX1_loss 22 = .ok (.bipush 20, 2) := by decide +kernel
theorem dX1_loss_24 : decode cX1_loss 24 = .ok (.if_icmp .le 13, 3) := by decide +kernel
theorem dX1_loss_27 : decode cX1_loss 27 = .ok (.new 47, 3) := by decide +kernel
theorem dX1_loss_30 : decode cX1_loss 30 = .ok (.dup, 1) := by decide +kernel
theorem dX1_loss_31 : decode cX1_loss 31 = .ok (.ldc 94, 2) := by decide +kernel
theorem dX1_loss_33 : decode cX1_loss 33 = .ok (.invokespecial 51, 3) := by decide +kernel
theorem dX1_loss_36 : decode cX1_loss 36 = .ok (.athrow, 1) := by decide +kernel
theorem dX1_loss_37 : decode cX1_loss 37 = .ok (.aload_n 0, 1) := by decide +kernel
theorem dX1_loss_38 : decode cX1_loss 38 = .ok (.iload_n 1, 1) := by decide +kernel
theorem dX1_loss_39 : decode cX1_loss 39 = .ok (.iconst 2, 1) := by decide +kernel
theorem dX1_loss_40 : decode cX1_loss 40 = .ok (.invokestatic 91, 3) := by decide +kernel
theorem dX1_loss_43 : decode cX1_loss 43 = .ok (.iload_n 2, 1) := by decide +kernel
theorem dX1_loss_44 : decode cX1_loss 44 = .ok (.invokevirtual 52, 3) := by decide +kernel
theorem dX1_loss_47 : decode cX1_loss 47 = .ok (.ireturn, 1) := by decide +kernel
set_option maxRecDepth 20000 in
theorem ggX1_service_X1_isMovement : GoodIn wsX1_service wsX1_isMovement := goodIn_r _ [9] (by decide +kernel) (by decide +kernel)
set_option maxRecDepth 20000 in
theorem gX1_service_X1_isMovement : GoodIn wsX1_service (va_wsS RX1 69 yX1_isMovement wsX1_isMovement) := goodIn_app (goodIn_of _ (by decide +kernel)) ggX1_service_X1_isMovement
set_option maxRecDepth 20000 in
theorem ggX1_service_X1_isLocked : GoodIn wsX1_service wsX1_isLocked := goodIn_r _ [13, 5, 31, 32, 33, 34, 35, 36] (by decide +kernel) (by decide +kernel)
set_option maxRecDepth 20000 in
theorem gX1_service_X1_isLocked : GoodIn wsX1_service (wsV RX1 79 RX1 yX1_isLocked wsX1_isLocked) := goodIn_app (goodIn_of _ (by decide +kernel)) ggX1_service_X1_isLocked
set_option maxRecDepth 20000 in
theorem ggX1_service_X1_place : GoodIn wsX1_service wsX1_place := goodIn_r _ [16] (by decide +kernel) (by decide +kernel)
set_option maxRecDepth 20000 in
theorem gX1_service_X1_place : GoodIn wsX1_service (va_wsS RX1 91 yX1_place wsX1_place) := goodIn_app (goodIn_of _ (by decide +kernel)) ggX1_service_X1_place
set_option maxRecDepth 20000 in
theorem ggX1_service_X1_change : GoodIn wsX1_service wsX1_change := goodIn_r _ [20, 5, 21, 22, 23, 8, 24, 25, 26, 27, 28, 29, 30, 31, 32, 33, 34, 35, 36] (by decide +kernel) (by decide +kernel)
set_option maxRecDepth 20000 in
theorem gX1_service_X1_change : GoodIn wsX1_service (wsV RX1 52 RX1 yX1_change wsX1_change) := goodIn_app (goodIn_of _ (by decide +kernel)) ggX1_service_X1_change
theorem dX1_service_0 : decode cX1_service 0 = .ok (.iload_n 1, 1) := by decide +kernel
theorem dX1_service_1 : decode cX1_service 1 = .ok (.invokestatic 69, 3) := by decide +kernel
theorem dX1_service_4 : decode cX1_service 4 = .ok (.ifCond .ne 13, 3) := by decide +kernel
theorem dX1_service_7 : decode cX1_service 7 = .ok (.new 40, 3) := by decide +kernel
theorem dX1_service_10 : decode cX1_service 10 = .ok (.dup, 1) := by decide +kernel
theorem dX1_service_11 : decode cX1_service 11 = .ok (.ldc 72, 2) := by decide +kernel
theorem dX1_service_13 : decode cX1_service 13 = .ok (.invokespecial 44, 3) := by decide +kernel
theorem dX1_service_16 : decode cX1_service 16 = .ok (.athrow, 1) := by decide +kernel
theorem dX1_service_17 : decode cX1_service 17 = .ok (.aload_n 0, 1) := by decide +kernel
theorem dX1_service_18 : decode cX1_service 18 = .ok (.invokevirtual 79, 3) := by decide +kernel
theorem dX1_service_21 : decode cX1_service 21 = .ok (.ifCond .eq 13, 3) := by decide +kernel
theorem dX1_service_24 : decode cX1_service 24 = .ok (.new 86, 3) := by decide +kernel
theorem dX1_service_27 : decode cX1_service 27 = .ok (.dup, 1) := by decide +kernel
theorem dX1_service_28 : decode cX1_service 28 = .ok (.ldc 96, 2) := by decide +kernel
theorem dX1_service_30 : decode cX1_service 30 = .ok (.invokespecial 90, 3) := by decide +kernel
theorem dX1_service_33 : decode cX1_service 33 = .ok (.athrow, 1) := by decide +kernel
theorem dX1_service_34 : decode cX1_service 34 = .ok (.aload_n 0, 1) := by decide +kernel
theorem dX1_service_35 : decode cX1_service 35 = .ok (.iload_n 1, 1) := by decide +kernel
theorem dX1_service_36 : decode cX1_service 36 = .ok (.iconst 3, 1) := by decide +kernel
theorem dX1_service_37 : decode cX1_service 37 = .ok (.invokestatic 91, 3) := by decide +kernel
theorem dX1_service_40 : decode cX1_service 40 = .ok (.iconst 0, 1) := by decide +kernel
theorem dX1_service_41 : decode cX1_service 41 = .ok (.invokevirtual 52, 3) := by decide +kernel
theorem dX1_service_44 : decode cX1_service 44 = .ok (.istore_n 2, 1) := by decide +kernel
theorem dX1_service_45 : decode cX1_service 45 = .ok (.aload_n 0, 1) := by decide +kernel
theorem dX1_service_46 : decode cX1_service 46 = .ok (.getfield 9, 3) := by decide +kernel
theorem dX1_service_49 : decode cX1_service 49 = .ok (.iload_n 1, 1) := by decide +kernel
theorem dX1_service_50 : decode cX1_service 50 = .ok (.iconst 1, 1) := by decide +kernel
theorem dX1_service_51 : decode cX1_service 51 = .ok (.invokestatic 91, 3) := by decide +kernel
theorem dX1_service_54 : decode cX1_service 54 = .ok (.iconst 1, 1) := by decide +kernel
theorem dX1_service_55 : decode cX1_service 55 = .ok (.iastore, 1) := by decide +kernel
theorem dX1_service_56 : decode cX1_service 56 = .ok (.aload_n 0, 1) := by decide +kernel
theorem dX1_service_57 : decode cX1_service 57 = .ok (.getfield 9, 3) := by decide +kernel
theorem dX1_service_60 : decode cX1_service 60 = .ok (.iload_n 1, 1) := by decide +kernel
theorem dX1_service_61 : decode cX1_service 61 = .ok (.iconst 2, 1) := by decide +kernel
theorem dX1_service_62 : decode cX1_service 62 = .ok (.invokestatic 91, 3) := by decide +kernel
theorem dX1_service_65 : decode cX1_service 65 = .ok (.iconst 0, 1) := by decide +kernel
theorem dX1_service_66 : decode cX1_service 66 = .ok (.iastore, 1) := by decide +kernel
theorem dX1_service_67 : decode cX1_service 67 = .ok (.iload_n 2, 1) := by decide +kernel
theorem dX1_service_68 : decode cX1_service 68 = .ok (.ireturn, 1) := by decide +kernel
set_option maxRecDepth 20000 in
theorem ggX1_lock_X1_isLocked : GoodIn wsX1_lock wsX1_isLocked := goodIn_r _ [8, 3, 42, 43, 44, 45, 46, 47] (by decide +kernel) (by decide +kernel)
set_option maxRecDepth 20000 in
theorem gX1_lock_X1_isLocked : GoodIn wsX1_lock (wsV RX1 79 RX1 yX1_isLocked wsX1_isLocked) := goodIn_app (goodIn_of _ (by decide +kernel)) ggX1_lock_X1_isLocked
set_option maxRecDepth 20000 in
theorem ggX1_lock_X1_someMovementRuns : GoodIn wsX1_lock wsX1_someMovementRuns := goodIn_r _ [12, 3, 13, 14, 15, 7, 16, 17, 18, 19, 42, 43, 44, 45, 46, 47] (by decide +kernel) (by decide +kernel)
set_option maxRecDepth 20000 in
theorem gX1_lock_X1_someMovementRuns : GoodIn wsX1_lock (wsV RX1 98 RX1 yX1_someMovementRuns wsX1_someMovementRuns) := goodIn_app (goodIn_of _ (by decide +kernel)) ggX1_lock_X1_someMovementRuns
set_option maxRecDepth 20000 in
theorem ggX1_lock_X1_save : GoodIn wsX1_lock wsX1_save := goodIn_r _ [23, 24, 25, 26, 27, 28, 29, 3, 42, 43, 44, 45, 46, 47] (by decide +kernel) (by decide +kernel)
set_option maxRecDepth 20000 in
theorem gX1_lock_X1_save : GoodIn wsX1_lock (wsV RX1 103 RX1 yX1_save wsX1_save) := goodIn_app (goodIn_of _ (by decide +kernel)) ggX1_lock_X1_save
set_option maxRecDepth 20000 in
theorem ggX1_lock_X1_hoursToOpening : GoodIn wsX1_lock wsX1_hoursToOpening := goodIn_r _ [33, 3, 34, 35, 36, 7, 37, 38, 39, 40, 41, 42, 43, 44, 45, 46, 47] (by decide +kernel) (by decide +kernel)
set_option maxRecDepth 20000 in
theorem gX1_lock_X1_hoursToOpening : GoodIn wsX1_lock (wsV RX1 106 RX1 yX1_hoursToOpening wsX1_hoursToOpening) := goodIn_app (goodIn_of _ (by decide +kernel)) ggX1_lock_X1_hoursToOpening
theorem dX1_lock_0 : decode cX1_lock 0 = .ok (.aload_n 0, 1) := by decide +kernel
theorem dX1_lock_1 : decode cX1_lock 1 = .ok (.invokevirtual 79, 3) := by decide +kernel
theorem dX1_lock_4 : decode cX1_lock 4 = .ok (.ifCond .ne 10, 3) := by decide +kernel
theorem dX1_lock_7 : decode cX1_lock 7 = .ok (.aload_n 0, 1) := by decide +kernel
theorem dX1_lock_8 : decode cX1_lock 8 = .ok (.invokevirtual 98, 3) := by decide +kernel
theorem dX1_lock_11 : decode cX1_lock 11 = .ok (.ifCond .ne 13, 3) := by decide +kernel
theorem dX1_lock_14 : decode cX1_lock 14 = .ok (.new 86, 3) := by decide +kernel
theorem dX1_lock_17 : decode cX1_lock 17 = .ok (.dup, 1) := by decide +kernel
theorem dX1_lock_18 : decode cX1_lock 18 = .ok (.ldc 101, 2) := by decide +kernel
theorem dX1_lock_20 : decode cX1_lock 20 = .ok (.invokespecial 90, 3) := by decide +kernel
theorem dX1_lock_23 : decode cX1_lock 23 = .ok (.athrow, 1) := by decide +kernel
theorem dX1_lock_24 : decode cX1_lock 24 = .ok (.aload_n 0, 1) := by decide +kernel
theorem dX1_lock_25 : decode cX1_lock 25 = .ok (.invokevirtual 103, 3) := by decide +kernel
theorem dX1_lock_28 : decode cX1_lock 28 = .ok (.aload_n 0, 1) := by decide +kernel
theorem dX1_lock_29 : decode cX1_lock 29 = .ok (.invokevirtual 106, 3) := by decide +kernel
theorem dX1_lock_32 : decode cX1_lock 32 = .ok (.istore_n 1, 1) := by decide +kernel
theorem dX1_lock_33 : decode cX1_lock 33 = .ok (.aload_n 0, 1) := by decide +kernel
theorem dX1_lock_34 : decode cX1_lock 34 = .ok (.getfield 9, 3) := by decide +kernel
theorem dX1_lock_37 : decode cX1_lock 37 = .ok (.iconst 1, 1) := by decide +kernel
theorem dX1_lock_38 : decode cX1_lock 38 = .ok (.iconst 1, 1) := by decide +kernel
theorem dX1_lock_39 : decode cX1_lock 39 = .ok (.iastore, 1) := by decide +kernel
theorem dX1_lock_40 : decode cX1_lock 40 = .ok (.aload_n 0, 1) := by decide +kernel
theorem dX1_lock_41 : decode cX1_lock 41 = .ok (.getfield 9, 3) := by decide +kernel
theorem dX1_lock_44 : decode cX1_lock 44 = .ok (.iconst 2, 1) := by decide +kernel
theorem dX1_lock_45 : decode cX1_lock 45 = .ok (.iload_n 1, 1) := by decide +kernel
theorem dX1_lock_46 : decode cX1_lock 46 = .ok (.iconst (-1), 1) := by decide +kernel
theorem dX1_lock_47 : decode cX1_lock 47 = .ok (.if_icmp .ne 7, 3) := by decide +kernel
theorem dX1_lock_50 : decode cX1_lock 50 = .ok (.iconst (-1), 1) := by decide +kernel
theorem dX1_lock_51 : decode cX1_lock 51 = .ok (.goto 11, 3) := by decide +kernel
theorem dX1_lock_54 : decode cX1_lock 54 = .ok (.aload_n 0, 1) := by decide +kernel
theorem dX1_lock_55 : decode cX1_lock 55 = .ok (.getfield 9, 3) := by decide +kernel
theorem dX1_lock_58 : decode cX1_lock 58 = .ok (.iconst 0, 1) := by decide +kernel
theorem dX1_lock_59 : decode cX1_lock 59 = .ok (.iaload, 1) := by decide +kernel
theorem dX1_lock_60 : decode cX1_lock 60 = .ok (.iload_n 1, 1) := by decide +kernel
theorem dX1_lock_61 : decode cX1_lock 61 = .ok (.iadd, 1) := by decide +kernel
theorem dX1_lock_62 : decode cX1_lock 62 = .ok (.iastore, 1) := by decide +kernel
theorem dX1_lock_63 : decode cX1_lock 63 = .ok (.iload_n 1, 1) := by decide +kernel
theorem dX1_lock_64 : decode cX1_lock 64 = .ok (.ireturn, 1) := by decide +kernel
set_option maxRecDepth 20000 in
theorem ggX1_open_X1_isLocked : GoodIn wsX1_open wsX1_isLocked := goodIn_r _ [7, 8, 58, 59, 60, 61, 62, 63] (by decide +kernel) (by decide +kernel)
set_option maxRecDepth 20000 in
theorem gX1_open_X1_isLocked : GoodIn wsX1_open (wsV RX1 79 RX1 yX1_isLocked wsX1_isLocked) := goodIn_app (goodIn_of _ (by decide +kernel)) ggX1_open_X1_isLocked
set_option maxRecDepth 20000 in
theorem ggX1_open_X1_save : GoodIn wsX1_open wsX1_save := goodIn_r _ [12, 13, 14, 15, 16, 17, 18, 8, 58, 59, 60, 61, 62, 63] (by decide +kernel) (by decide +kernel)
set_option maxRecDepth 20000 in
theorem gX1_open_X1_save : GoodIn wsX1_open (wsV RX1 103 RX1 yX1_save wsX1_save) := goodIn_app (goodIn_of _ (by decide +kernel)) ggX1_open_X1_save
set_option maxRecDepth 20000 in
theorem ggX1_open_X1_hoursToOpen : GoodIn wsX1_open wsX1_hoursToOpen := goodIn_r _ [22, 23, 24, 25, 26, 3, 4, 5, 6, 7, 8, 27, 28, 29, 30, 31, 32, 33, 34, 35, 36, 37, 38, 39, 40, 41, 58, 59, 60, 61, 62, 63] (by decide +kernel) (by decide +kernel)
set_option maxRecDepth 20000 in
theorem gX1_open_X1_hoursToOpen : GoodIn wsX1_open (wsV RX1 112 RX1 yX1_hoursToOpen wsX1_hoursToOpen) := goodIn_app (goodIn_of _ (by decide +kernel)) ggX1_open_X1_hoursToOpen
set_option maxRecDepth 20000 in
theorem ggX1_open_X1_countEarlyTry : GoodIn wsX1_open wsX1_countEarlyTry := goodIn_r _ [45, 8, 58, 59, 60, 61, 62, 63] (by decide +kernel) (by decide +kernel)
set_option maxRecDepth 20000 in
theorem gX1_open_X1_countEarlyTry : GoodIn wsX1_open (wsV RX1 116 RX1 yX1_countEarlyTry wsX1_countEarlyTry) := goodIn_app (goodIn_of _ (by decide +kernel)) ggX1_open_X1_countEarlyTry
set_option maxRecDepth 20000 in
theorem ggX1_open_X1_latenessAfter : GoodIn wsX1_open wsX1_latenessAfter := goodIn_r _ [49, 8, 58, 59, 60, 61, 62, 63] (by decide +kernel) (by decide +kernel)
set_option maxRecDepth 20000 in
theorem gX1_open_X1_latenessAfter : GoodIn wsX1_open (wsV RX1 119 RX1 yX1_latenessAfter wsX1_latenessAfter) := goodIn_app (goodIn_of _ (by decide +kernel)) ggX1_open_X1_latenessAfter
set_option maxRecDepth 20000 in
theorem ggX1_open_X1_countOpening : GoodIn wsX1_open wsX1_countOpening := goodIn_r _ [53, 8, 58, 59, 60, 61, 62, 63] (by decide +kernel) (by decide +kernel)
set_option maxRecDepth 20000 in
theorem gX1_open_X1_countOpening : GoodIn wsX1_open (wsV RX1 122 RX1 yX1_countOpening wsX1_countOpening) := goodIn_app (goodIn_of _ (by decide +kernel)) ggX1_open_X1_countOpening
set_option maxRecDepth 20000 in
theorem ggX1_open_X1_leaveOpen : GoodIn wsX1_open wsX1_leaveOpen := goodIn_r _ [57, 8, 58, 59, 60, 61, 62, 63] (by decide +kernel) (by decide +kernel)
set_option maxRecDepth 20000 in
theorem gX1_open_X1_leaveOpen : GoodIn wsX1_open (wsV RX1 126 RX1 yX1_leaveOpen wsX1_leaveOpen) := goodIn_app (goodIn_of _ (by decide +kernel)) ggX1_open_X1_leaveOpen
theorem dX1_open_0 : decode cX1_open 0 = .ok (.aload_n 0, 1) := by decide +kernel
theorem dX1_open_1 : decode cX1_open 1 = .ok (.invokevirtual 79, 3) := by decide +kernel
theorem dX1_open_4 : decode cX1_open 4 = .ok (.ifCond .ne 13, 3) := by decide +kernel
theorem dX1_open_7 : decode cX1_open 7 = .ok (.new 86, 3) := by decide +kernel
theorem dX1_open_10 : decode cX1_open 10 = .ok (.dup, 1) := by decide +kernel
theorem dX1_open_11 : decode cX1_open 11 = .ok (.ldc 110, 2) := by decide +kernel
theorem dX1_open_13 : decode cX1_open 13 = .ok (.invokespecial 90, 3) := by decide +kernel
theorem dX1_open_16 : decode cX1_open 16 = .ok (.athrow, 1) := by decide +kernel
theorem dX1_open_17 : decode cX1_open 17 = .ok (.aload_n 0, 1) := by decide +kernel
theorem dX1_open_18 : decode cX1_open 18 = .ok (.invokevirtual 103, 3) := by decide +kernel
theorem dX1_open_21 : decode cX1_open 21 = .ok (.aload_n 0, 1) := by decide +kernel
theorem dX1_open_22 : decode cX1_open 22 = .ok (.iconst (-1), 1) := by decide +kernel
theorem dX1_open_23 : decode cX1_open 23 = .ok (.invokevirtual 112, 3) := by decide +kernel
theorem dX1_open_26 : decode cX1_open 26 = .ok (.ifCond .eq 9, 3) := by decide +kernel
theorem dX1_open_29 : decode cX1_open 29 = .ok (.aload_n 0, 1) := by decide +kernel
theorem dX1_open_30 : decode cX1_open 30 = .ok (.invokevirtual 116, 3) := by decide +kernel
theorem dX1_open_33 : decode cX1_open 33 = .ok (.iconst 0, 1) := by decide +kernel
theorem dX1_open_34 : decode cX1_open 34 = .ok (.ireturn, 1) := by decide +kernel
theorem dX1_open_35 : decode cX1_open 35 = .ok (.aload_n 0, 1) := by decide +kernel
theorem dX1_open_36 : decode cX1_open 36 = .ok (.aload_n 0, 1) := by decide +kernel
theorem dX1_open_37 : decode cX1_open 37 = .ok (.iconst 0, 1) := by decide +kernel
theorem dX1_open_38 : decode cX1_open 38 = .ok (.invokevirtual 119, 3) := by decide +kernel
theorem dX1_open_41 : decode cX1_open 41 = .ok (.invokevirtual 122, 3) := by decide +kernel
theorem dX1_open_44 : decode cX1_open 44 = .ok (.aload_n 0, 1) := by decide +kernel
theorem dX1_open_45 : decode cX1_open 45 = .ok (.invokevirtual 126, 3) := by decide +kernel
theorem dX1_open_48 : decode cX1_open 48 = .ok (.iconst 1, 1) := by decide +kernel
theorem dX1_open_49 : decode cX1_open 49 = .ok (.ireturn, 1) := by decide +kernel
set_option maxRecDepth 20000 in
theorem ggX1_drill_X1_isLocked : GoodIn wsX1_drill wsX1_isLocked := goodIn_r _ [8, 3, 26, 27, 28, 29, 30, 31] (by decide +kernel) (by decide +kernel)
set_option maxRecDepth 20000 in
theorem gX1_drill_X1_isLocked : GoodIn wsX1_drill (wsV RX1 79 RX1 yX1_isLocked wsX1_isLocked) := goodIn_app (goodIn_of _ (by decide +kernel)) ggX1_drill_X1_isLocked
set_option maxRecDepth 20000 in
theorem ggX1_drill_X1_save : GoodIn wsX1_drill wsX1_save := goodIn_r _ [12, 13, 14, 15, 16, 17, 18, 3, 26, 27, 28, 29, 30, 31] (by decide +kernel) (by decide +kernel)
set_option maxRecDepth 20000 in
theorem gX1_drill_X1_save : GoodIn wsX1_drill (wsV RX1 103 RX1 yX1_save wsX1_save) := goodIn_app (goodIn_of _ (by decide +kernel)) ggX1_drill_X1_save
set_option maxRecDepth 20000 in
theorem ggX1_drill_X1_place : GoodIn wsX1_drill wsX1_place := goodIn_r _ [21] (by decide +kernel) (by decide +kernel)
set_option maxRecDepth 20000 in
theorem gX1_drill_X1_place : GoodIn wsX1_drill (va_wsS RX1 91 yX1_place wsX1_place) := goodIn_app (goodIn_of _ (by decide +kernel)) ggX1_drill_X1_place
set_option maxRecDepth 20000 in
theorem ggX1_drill_X1_leaveOpen : GoodIn wsX1_drill wsX1_leaveOpen := goodIn_r _ [25, 3, 26, 27, 28, 29, 30, 31] (by decide +kernel) (by decide +kernel)
set_option maxRecDepth 20000 in
theorem gX1_drill_X1_leaveOpen : GoodIn wsX1_drill (wsV RX1 126 RX1 yX1_leaveOpen wsX1_leaveOpen) := goodIn_app (goodIn_of _ (by decide +kernel)) ggX1_drill_X1_leaveOpen
theorem dX1_drill_0 : decode cX1_drill 0 = .ok (.aload_n 0, 1) := by decide +kernel
theorem dX1_drill_1 : decode cX1_drill 1 = .ok (.invokevirtual 79, 3) := by decide +kernel
theorem dX1_drill_4 : decode cX1_drill 4 = .ok (.ifCond .ne 13, 3) := by decide +kernel
theorem dX1_drill_7 : decode cX1_drill 7 = .ok (.new 86, 3) := by decide +kernel
theorem dX1_drill_10 : decode cX1_drill 10 = .ok (.dup, 1) := by decide +kernel
theorem dX1_drill_11 : decode cX1_drill 11 = .ok (.ldc 110, 2) := by decide +kernel
theorem dX1_drill_13 : decode cX1_drill 13 = .ok (.invokespecial 90, 3) := by decide +kernel
theorem dX1_drill_16 : decode cX1_drill 16 = .ok (.athrow, 1) := by decide +kernel
theorem dX1_drill_17 : decode cX1_drill 17 = .ok (.aload_n 0, 1) := by decide +kernel
theorem dX1_drill_18 : decode cX1_drill 18 = .ok (.invokevirtual 103, 3) := by decide +kernel
theorem dX1_drill_21 : decode cX1_drill 21 = .ok (.iconst 0, 1) := by decide +kernel
theorem dX1_drill_22 : decode cX1_drill 22 = .ok (.istore_n 1, 1) := by decide +kernel
theorem dX1_drill_23 : decode cX1_drill 23 = .ok (.iload_n 1, 1) := by decide +kernel
theorem dX1_drill_24 : decode cX1_drill 24 = .ok (.iconst 3, 1) := by decide +kernel
theorem dX1_drill_25 : decode cX1_drill 25 = .ok (.if_icmp .ge 31, 3) := by decide +kernel
theorem dX1_drill_28 : decode cX1_drill 28 = .ok (.aload_n 0, 1) := by decide +kernel
theorem dX1_drill_29 : decode cX1_drill 29 = .ok (.getfield 9, 3) := by decide +kernel
theorem dX1_drill_32 : decode cX1_drill 32 = .ok (.iload_n 1, 1) := by decide +kernel
theorem dX1_drill_33 : decode cX1_drill 33 = .ok (.iconst 0, 1) := by decide +kernel
theorem dX1_drill_34 : decode cX1_drill 34 = .ok (.invokestatic 91, 3) := by decide +kernel
theorem dX1_drill_37 : decode cX1_drill 37 = .ok (.iconst 0, 1) := by decide +kernel
theorem dX1_drill_38 : decode cX1_drill 38 = .ok (.iastore, 1) := by decide +kernel
theorem dX1_drill_39 : decode cX1_drill 39 = .ok (.aload_n 0, 1) := by decide +kernel
theorem dX1_drill_40 : decode cX1_drill 40 = .ok (.getfield 9, 3) := by decide +kernel
theorem dX1_drill_43 : decode cX1_drill 43 = .ok (.iload_n 1, 1) := by decide +kernel
theorem dX1_drill_44 : decode cX1_drill 44 = .ok (.iconst 1, 1) := by decide +kernel
theorem dX1_drill_45 : decode cX1_drill 45 = .ok (.invokestatic 91, 3) := by decide +kernel
theorem dX1_drill_48 : decode cX1_drill 48 = .ok (.iconst 0, 1) := by decide +kernel
theorem dX1_drill_49 : decode cX1_drill 49 = .ok (.iastore, 1) := by decide +kernel
theorem dX1_drill_50 : decode cX1_drill 50 = .ok (.iinc 1 1, 3) := by decide +kernel
theorem dX1_drill_53 : decode cX1_drill 53 = .ok (.goto (-30), 3) := by decide +kernel
theorem dX1_drill_56 : decode cX1_drill 56 = .ok (.aload_n 0, 1) := by decide +kernel
theorem dX1_drill_57 : decode cX1_drill 57 = .ok (.invokevirtual 126, 3) := by decide +kernel
theorem dX1_drill_60 : decode cX1_drill 60 = .ok (.aload_n 0, 1) := by decide +kernel
theorem dX1_drill_61 : decode cX1_drill 61 = .ok (.getfield 9, 3) := by decide +kernel
theorem dX1_drill_64 : decode cX1_drill 64 = .ok (.bipush 10, 2) := by decide +kernel
theorem dX1_drill_66 : decode cX1_drill 66 = .ok (.dup2, 1) := by decide +kernel
theorem dX1_drill_67 : decode cX1_drill 67 = .ok (.iaload, 1) := by decide +kernel
theorem dX1_drill_68 : decode cX1_drill 68 = .ok (.iconst 1, 1) := by decide +kernel
theorem dX1_drill_69 : decode cX1_drill 69 = .ok (.iadd, 1) := by decide +kernel
theorem dX1_drill_70 : decode cX1_drill 70 = .ok (.iastore, 1) := by decide +kernel
theorem dX1_drill_71 : decode cX1_drill 71 = .ok (.aload_n 0, 1) := by decide +kernel
theorem dX1_drill_72 : decode cX1_drill 72 = .ok (.getfield 9, 3) := by decide +kernel
theorem dX1_drill_75 : decode cX1_drill 75 = .ok (.bipush 10, 2) := by decide +kernel
theorem dX1_drill_77 : decode cX1_drill 77 = .ok (.iaload, 1) := by decide +kernel
theorem dX1_drill_78 : decode cX1_drill 78 = .ok (.ireturn, 1) := by decide +kernel
set_option maxRecDepth 20000 in
theorem ggX1_pass_X1_save : GoodIn wsX1_pass wsX1_save := goodIn_r _ [11, 12, 13, 14, 15, 16, 17, 5, 44, 45, 46, 47, 48, 49] (by decide +kernel) (by decide +kernel)
set_option maxRecDepth 20000 in
theorem gX1_pass_X1_save : GoodIn wsX1_pass (wsV RX1 103 RX1 yX1_save wsX1_save) := goodIn_app (goodIn_of _ (by decide +kernel)) ggX1_pass_X1_save
set_option maxRecDepth 20000 in
theorem ggX1_pass_X1_passHour : GoodIn wsX1_pass wsX1_passHour := goodIn_r _ [21, 5, 22, 23, 24, 10, 25, 26, 27, 28, 29, 30, 31, 32, 33, 34, 35, 36, 37, 38, 39, 44, 45, 46, 47, 48, 49] (by decide +kernel) (by decide +kernel)
set_option maxRecDepth 20000 in
theorem gX1_pass_X1_passHour : GoodIn wsX1_pass (wsV RX1 132 RX1 yX1_passHour wsX1_passHour) := goodIn_app (goodIn_of _ (by decide +kernel)) ggX1_pass_X1_passHour
set_option maxRecDepth 20000 in
theorem ggX1_pass_X1_movementsRunDown : GoodIn wsX1_pass wsX1_movementsRunDown := goodIn_r _ [43, 5, 34, 35, 10, 36, 44, 45, 46, 47, 48, 49] (by decide +kernel) (by decide +kernel)
set_option maxRecDepth 20000 in
theorem gX1_pass_X1_movementsRunDown : GoodIn wsX1_pass (wsV RX1 135 RX1 yX1_movementsRunDown wsX1_movementsRunDown) := goodIn_app (goodIn_of _ (by decide +kernel)) ggX1_pass_X1_movementsRunDown
theorem dX1_pass_0 : decode cX1_pass 0 = .ok (.iload_n 1, 1) := by decide +kernel
theorem dX1_pass_1 : decode cX1_pass 1 = .ok (.iconst 1, 1) := by decide +kernel
theorem dX1_pass_2 : decode cX1_pass 2 = .ok (.if_icmp .lt 10, 3) := by decide +kernel
theorem dX1_pass_5 : decode cX1_pass 5 = .ok (.iload_n 1, 1) := by decide +kernel
theorem dX1_pass_6 : decode cX1_pass 6 = .ok (.sipush 200, 3) := by decide +kernel
theorem dX1_pass_9 : decode cX1_pass 9 = .ok (.if_icmp .le 13, 3) := by decide +kernel
theorem dX1_pass_12 : decode cX1_pass 12 = .ok (.new 47, 3) := by decide +kernel
theorem dX1_pass_15 : decode cX1_pass 15 = .ok (.dup, 1) := by decide +kernel
theorem dX1_pass_16 : decode cX1_pass 16 = .ok (.ldc 77, 2) := by decide +kernel
theorem dX1_pass_18 : decode cX1_pass 18 = .ok (.invokespecial 51, 3) := by decide +kernel
theorem dX1_pass_21 : decode cX1_pass 21 = .ok (.athrow, 1) := by decide +kernel
theorem dX1_pass_22 : decode cX1_pass 22 = .ok (.aload_n 0, 1) := by decide +kernel
theorem dX1_pass_23 : decode cX1_pass 23 = .ok (.getfield 9, 3) := by decide +kernel
theorem dX1_pass_26 : decode cX1_pass 26 = .ok (.iconst 0, 1) := by decide +kernel
theorem dX1_pass_27 : decode cX1_pass 27 = .ok (.iaload, 1) := by decide +kernel
theorem dX1_pass_28 : decode cX1_pass 28 = .ok (.iload_n 1, 1) := by decide +kernel
theorem dX1_pass_29 : decode cX1_pass 29 = .ok (.iadd, 1) := by decide +kernel
theorem dX1_pass_30 : decode cX1_pass 30 = .ok (.ldc 129, 2) := by decide +kernel
theorem dX1_pass_32 : decode cX1_pass 32 = .ok (.if_icmp .le 13, 3) := by decide +kernel
theorem dX1_pass_35 : decode cX1_pass 35 = .ok (.new 86, 3) := by decide +kernel
theorem dX1_pass_38 : decode cX1_pass 38 = .ok (.dup, 1) := by decide +kernel
theorem dX1_pass_39 : decode cX1_pass 39 = .ok (.ldc 130, 2) := by decide +kernel
theorem dX1_pass_41 : decode cX1_pass 41 = .ok (.invokespecial 90, 3) := by decide +kernel
theorem dX1_pass_44 : decode cX1_pass 44 = .ok (.athrow, 1) := by decide +kernel
theorem dX1_pass_45 : decode cX1_pass 45 = .ok (.aload_n 0, 1) := by decide +kernel
theorem dX1_pass_46 : decode cX1_pass 46 = .ok (.invokevirtual 103, 3) := by decide +kernel
theorem dX1_pass_49 : decode cX1_pass 49 = .ok (.iconst 0, 1) := by decide +kernel
theorem dX1_pass_50 : decode cX1_pass 50 = .ok (.istore_n 2, 1) := by decide +kernel
theorem dX1_pass_51 : decode cX1_pass 51 = .ok (.iload_n 2, 1) := by decide +kernel
theorem dX1_pass_52 : decode cX1_pass 52 = .ok (.iload_n 1, 1) := by decide +kernel
theorem dX1_pass_53 : decode cX1_pass 53 = .ok (.if_icmp .ge 13, 3) := by decide +kernel
theorem dX1_pass_56 : decode cX1_pass 56 = .ok (.aload_n 0, 1) := by decide +kernel
theorem dX1_pass_57 : decode cX1_pass 57 = .ok (.invokevirtual 132, 3) := by decide +kernel
theorem dX1_pass_60 : decode cX1_pass 60 = .ok (.iinc 2 1, 3) := by decide +kernel
theorem dX1_pass_63 : decode cX1_pass 63 = .ok (.goto (-12), 3) := by decide +kernel
theorem dX1_pass_66 : decode cX1_pass 66 = .ok (.aload_n 0, 1) := by decide +kernel
theorem dX1_pass_67 : decode cX1_pass 67 = .ok (.invokevirtual 135, 3) := by decide +kernel
theorem dX1_pass_70 : decode cX1_pass 70 = .ok (.ireturn, 1) := by decide +kernel
theorem dX1_append_0 : decode cX1_append 0 = .ok (.iload_n 1, 1) := by decide +kernel
theorem dX1_append_1 : decode cX1_append 1 = .ok (.bipush 33, 2) := by decide +kernel
theorem dX1_append_3 : decode cX1_append 3 = .ok (.if_icmp .lt 9, 3) := by decide +kernel
theorem dX1_append_6 : decode cX1_append 6 = .ok (.iload_n 1, 1) := by decide +kernel
theorem dX1_append_7 : decode cX1_append 7 = .ok (.bipush 126, 2) := by decide +kernel
theorem dX1_append_9 : decode cX1_append 9 = .ok (.if_icmp .le 13, 3) := by decide +kernel
theorem dX1_append_12 : decode cX1_append 12 = .ok (.new 47, 3) := by decide +kernel
theorem dX1_append_15 : decode cX1_append 15 = .ok (.dup, 1) := by decide +kernel
theorem dX1_append_16 : decode cX1_append 16 = .ok (.ldc 138, 2) := by decide +kernel
theorem dX1_append_18 : decode cX1_append 18 = .ok (.invokespecial 51, 3) := by decide +kernel
theorem dX1_append_21 : decode cX1_append 21 = .ok (.athrow, 1) := by decide +kernel
theorem dX1_append_22 : decode cX1_append 22 = .ok (.aload_n 0, 1) := by decide +kernel
theorem dX1_append_23 : decode cX1_append 23 = .ok (.getfield 23, 3) := by decide +kernel
theorem dX1_append_26 : decode cX1_append 26 = .ok (.bipush 60, 2) := by decide +kernel
theorem dX1_append_28 : decode cX1_append 28 = .ok (.if_icmp .lt 13, 3) := by decide +kernel
theorem dX1_append_31 : decode cX1_append 31 = .ok (.new 86, 3) := by decide +kernel
theorem dX1_append_34 : decode cX1_append 34 = .ok (.dup, 1) := by decide +kernel
theorem dX1_append_35 : decode cX1_append 35 = .ok (.ldc 140, 2) := by decide +kernel
theorem dX1_append_37 : decode cX1_append 37 = .ok (.invokespecial 90, 3) := by decide +kernel
theorem dX1_append_40 : decode cX1_append 40 = .ok (.athrow, 1) := by decide +kernel
theorem dX1_append_41 : decode cX1_append 41 = .ok (.aload_n 0, 1) := by decide +kernel
theorem dX1_append_42 : decode cX1_append 42 = .ok (.getfield 20, 3) := by decide +kernel
theorem dX1_append_45 : decode cX1_append 45 = .ok (.aload_n 0, 1) := by decide +kernel
theorem dX1_append_46 : decode cX1_append 46 = .ok (.getfield 23, 3) := by decide +kernel
theorem dX1_append_49 : decode cX1_append 49 = .ok (.iload_n 1, 1) := by decide +kernel
theorem dX1_append_50 : decode cX1_append 50 = .ok (.iastore, 1) := by decide +kernel
theorem dX1_append_51 : decode cX1_append 51 = .ok (.aload_n 0, 1) := by decide +kernel
theorem dX1_append_52 : decode cX1_append 52 = .ok (.dup, 1) := by decide +kernel
theorem dX1_append_53 : decode cX1_append 53 = .ok (.getfield 23, 3) := by decide +kernel
theorem dX1_append_56 : decode cX1_append 56 = .ok (.iconst 1, 1) := by decide +kernel
theorem dX1_append_57 : decode cX1_append 57 = .ok (.iadd, 1) := by decide +kernel
theorem dX1_append_58 : decode cX1_append 58 = .ok (.putfield 23, 3) := by decide +kernel
theorem dX1_append_61 : decode cX1_append 61 = .ok (.aload_n 0, 1) := by decide +kernel
theorem dX1_append_62 : decode cX1_append 62 = .ok (.getfield 23, 3) := by decide +kernel
theorem dX1_append_65 : decode cX1_append 65 = .ok (.ireturn, 1) := by decide +kernel
theorem dX1_clearBuffer_0 : decode cX1_clearBuffer 0 = .ok (.aload_n 0, 1) := by decide +kernel
theorem dX1_clearBuffer_1 : decode cX1_clearBuffer 1 = .ok (.getfield 23, 3) := by decide +kernel
theorem dX1_clearBuffer_4 : decode cX1_clearBuffer 4 = .ok (.istore_n 1, 1) := by decide +kernel
theorem dX1_clearBuffer_5 : decode cX1_clearBuffer 5 = .ok (.aload_n 0, 1) := by decide +kernel
theorem dX1_clearBuffer_6 : decode cX1_clearBuffer 6 = .ok (.iconst 0, 1) := by decide +kernel
theorem dX1_clearBuffer_7 : decode cX1_clearBuffer 7 = .ok (.putfield 23, 3) := by decide +kernel
theorem dX1_clearBuffer_10 : decode cX1_clearBuffer 10 = .ok (.iload_n 1, 1) := by decide +kernel
theorem dX1_clearBuffer_11 : decode cX1_clearBuffer 11 = .ok (.ireturn, 1) := by decide +kernel
set_option maxRecDepth 20000 in
theorem ggX1_firstError_X1_readBuffer : GoodIn wsX1_firstError wsX1_readBuffer := goodIn_r _ [5, 6, 7, 8, 9, 10, 11, 12, 13, 14, 15, 16, 17, 18, 19, 20, 21, 22, 23, 24, 25, 26, 27, 28, 29, 30, 31, 32, 33, 34, 35, 36, 37, 38, 39, 40, 41, 42, 43, 44, 45, 46, 47, 48, 49, 50, 51] (by decide +kernel) (by decide +kernel)
set_option maxRecDepth 20000 in
theorem gX1_firstError_X1_readBuffer : GoodIn wsX1_firstError (wsV RX1 142 RX1 yX1_readBuffer wsX1_readBuffer) := goodIn_app (goodIn_of _ (by decide +kernel)) ggX1_firstError_X1_readBuffer
theorem dX1_firstError_0 : decode cX1_firstError 0 = .ok (.aload_n 0, 1) := by decide +kernel
theorem dX1_firstError_1 : decode cX1_firstError 1 = .ok (.invokevirtual 142, 3) := by decide +kernel
theorem dX1_firstError_4 : decode cX1_firstError 4 = .ok (.ireturn, 1) := by decide +kernel
set_option maxRecDepth 20000 in
theorem ggX1_windAll_X1_readBuffer : GoodIn wsX1_windAll wsX1_readBuffer := goodIn_r _ [12, 6, 5, 13, 14, 15, 16, 17, 18, 19, 20, 21, 22, 23, 24, 25, 26, 27, 28, 29, 30, 31, 32, 33, 34, 35, 36, 37, 38, 39, 40, 41, 42, 43, 44, 45, 46, 99, 100, 101, 102, 103, 104, 105, 106, 107, 108] (by decide +kernel) (by decide +kernel)
set_option maxRecDepth 20000 in
theorem gX1_windAll_X1_readBuffer : GoodIn wsX1_windAll (wsV RX1 142 RX1 yX1_readBuffer wsX1_readBuffer) := goodIn_app (goodIn_of _ (by decide +kernel)) ggX1_windAll_X1_readBuffer
set_option maxRecDepth 20000 in
theorem ggX1_windAll_X0_areComplete : GoodIn wsX1_windAll wsX0_areComplete := goodIn_r _ [50, 19, 31, 32, 33, 17, 34, 20, 21, 22, 105, 106, 107, 108] (by decide +kernel) (by decide +kernel)
set_option maxRecDepth 20000 in
theorem gX1_windAll_X0_areComplete : GoodIn wsX1_windAll (wsV RX1 145 RX0 yX0_areComplete wsX0_areComplete) := goodIn_app (goodIn_of _ (by decide +kernel)) ggX1_windAll_X0_areComplete
set_option maxRecDepth 20000 in
theorem ggX1_windAll_X1_hoursToOpening : GoodIn wsX1_windAll wsX1_hoursToOpening := goodIn_r _ [54, 7, 55, 56, 57, 11, 58, 59, 60, 61, 62, 99, 100, 101, 102, 103, 104] (by decide +kernel) (by decide +kernel)
set_option maxRecDepth 20000 in
theorem gX1_windAll_X1_hoursToOpening : GoodIn wsX1_windAll (wsV RX1 106 RX1 yX1_hoursToOpening wsX1_hoursToOpening) := goodIn_app (goodIn_of _ (by decide +kernel)) ggX1_windAll_X1_hoursToOpening
set_option maxRecDepth 20000 in
theorem ggX1_windAll_X1_isLocked : GoodIn wsX1_windAll wsX1_isLocked := goodIn_r _ [66, 7, 99, 100, 101, 102, 103, 104] (by decide +kernel) (by decide +kernel)
set_option maxRecDepth 20000 in
theorem gX1_windAll_X1_isLocked : GoodIn wsX1_windAll (wsV RX1 79 RX1 yX1_isLocked wsX1_isLocked) := goodIn_app (goodIn_of _ (by decide +kernel)) ggX1_windAll_X1_isLocked
set_option maxRecDepth 20000 in
theorem ggX1_windAll_X1_canWindAll : GoodIn wsX1_windAll wsX1_canWindAll := goodIn_r _ [70, 6, 71, 72, 73, 17, 74, 20, 75, 76, 77, 11, 78, 7, 79, 80, 81, 82, 83, 84, 85, 22, 21, 86, 87, 88, 99, 100, 101, 102, 103, 104, 105, 106, 107, 108] (by decide +kernel) (by decide +kernel)
set_option maxRecDepth 20000 in
theorem gX1_windAll_X1_canWindAll : GoodIn wsX1_windAll (wsV RX1 150 RX1 yX1_canWindAll wsX1_canWindAll) := goodIn_app (goodIn_of _ (by decide +kernel)) ggX1_windAll_X1_canWindAll
set_option maxRecDepth 20000 in
theorem ggX1_windAll_X1_save : GoodIn wsX1_windAll wsX1_save := goodIn_r _ [92, 93, 94, 95, 96, 97, 98, 7, 99, 100, 101, 102, 103, 104] (by decide +kernel) (by decide +kernel)
set_option maxRecDepth 20000 in
theorem gX1_windAll_X1_save : GoodIn wsX1_windAll (wsV RX1 103 RX1 yX1_save wsX1_save) := goodIn_app (goodIn_of _ (by decide +kernel)) ggX1_windAll_X1_save
set_option maxRecDepth 20000 in
theorem ggX1_windAll_X0_winds : GoodIn wsX1_windAll wsX0_winds := goodIn_r _ [74, 20, 105, 106, 107, 108] (by decide +kernel) (by decide +kernel)
set_option maxRecDepth 20000 in
theorem gX1_windAll_X0_winds : GoodIn wsX1_windAll (wsV RX1 155 RX0 yX0_winds wsX0_winds) := goodIn_app (goodIn_of _ (by decide +kernel)) ggX1_windAll_X0_winds
set_option maxRecDepth 20000 in
theorem ggX1_windAll_X1_place : GoodIn wsX1_windAll wsX1_place := goodIn_r _ [81] (by decide +kernel) (by decide +kernel)
set_option maxRecDepth 20000 in
theorem gX1_windAll_X1_place : GoodIn wsX1_windAll (va_wsS RX1 91 yX1_place wsX1_place) := goodIn_app (goodIn_of _ (by decide +kernel)) ggX1_windAll_X1_place
set_option maxRecDepth 20000 in
theorem ggX1_windAll_X0_hours : GoodIn wsX1_windAll wsX0_hours := goodIn_r _ [85, 20, 22, 21, 105, 106, 107, 108] (by decide +kernel) (by decide +kernel)
set_option maxRecDepth 20000 in
theorem gX1_windAll_X0_hours : GoodIn wsX1_windAll (wsV RX1 158 RX0 yX0_hours wsX0_hours) := goodIn_app (goodIn_of _ (by decide +kernel)) ggX1_windAll_X0_hours
theorem dX1_windAll_0 : decode cX1_windAll 0 = .ok (.aload_n 0, 1) := by decide +kernel
theorem dX1_windAll_1 : decode cX1_windAll 1 = .ok (.invokevirtual 142, 3) := by decide +kernel
theorem dX1_windAll_4 : decode cX1_windAll 4 = .ok (.aload_n 0, 1) := by decide +kernel
theorem dX1_windAll_5 : decode cX1_windAll 5 = .ok (.getfield 23, 3) := by decide +kernel
theorem dX1_windAll_8 : decode cX1_windAll 8 = .ok (.if_icmp .lt 13, 3) := by decide +kernel
theorem dX1_windAll_11 : decode cX1_windAll 11 = .ok (.aload_n 0, 1) := by decide +kernel
theorem dX1_windAll_12 : decode cX1_windAll 12 = .ok (.getfield 29, 3) := by decide +kernel
theorem dX1_windAll_15 : decode cX1_windAll 15 = .ok (.invokevirtual 145, 3) := by decide +kernel
theorem dX1_windAll_18 : decode cX1_windAll 18 = .ok (.ifCond .ne 13, 3) := by decide +kernel
theorem dX1_windAll_21 : decode cX1_windAll 21 = .ok (.new 47, 3) := by decide +kernel
theorem dX1_windAll_24 : decode cX1_windAll 24 = .ok (.dup, 1) := by decide +kernel
theorem dX1_windAll_25 : decode cX1_windAll 25 = .ok (.ldc 148, 2) := by decide +kernel
theorem dX1_windAll_27 : decode cX1_windAll 27 = .ok (.invokespecial 51, 3) := by decide +kernel
theorem dX1_windAll_30 : decode cX1_windAll 30 = .ok (.athrow, 1) := by decide +kernel
theorem dX1_windAll_31 : decode cX1_windAll 31 = .ok (.aload_n 0, 1) := by decide +kernel
theorem dX1_windAll_32 : decode cX1_windAll 32 = .ok (.invokevirtual 106, 3) := by decide +kernel
theorem dX1_windAll_35 : decode cX1_windAll 35 = .ok (.istore_n 1, 1) := by decide +kernel
theorem dX1_windAll_36 : decode cX1_windAll 36 = .ok (.aload_n 0, 1) := by decide +kernel
theorem dX1_windAll_37 : decode cX1_windAll 37 = .ok (.invokevirtual 79, 3) := by decide +kernel
theorem dX1_windAll_40 : decode cX1_windAll 40 = .ok (.ifCond .ne 11, 3) := by decide +kernel
theorem dX1_windAll_43 : decode cX1_windAll 43 = .ok (.aload_n 0, 1) := by decide +kernel
theorem dX1_windAll_44 : decode cX1_windAll 44 = .ok (.iload_n 1, 1) := by decide +kernel
theorem dX1_windAll_45 : decode cX1_windAll 45 = .ok (.invokevirtual 150, 3) := by decide +kernel
theorem dX1_windAll_48 : decode cX1_windAll 48 = .ok (.ifCond .ne 13, 3) := by decide +kernel
theorem dX1_windAll_51 : decode cX1_windAll 51 = .ok (.new 86, 3) := by decide +kernel
