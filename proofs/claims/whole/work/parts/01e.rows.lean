theorem dX1_runHour_21 : decode cX1_runHour 21 = .ok (.return_, 1) := by decide +kernel
theorem dX1_runHour_22 : decode cX1_runHour 22 = .ok (.aload_n 0, 1) := by decide +kernel
theorem dX1_runHour_23 : decode cX1_runHour 23 = .ok (.getfield 9, 3) := by decide +kernel
theorem dX1_runHour_26 : decode cX1_runHour 26 = .ok (.iload_n 1, 1) := by decide +kernel
theorem dX1_runHour_27 : decode cX1_runHour 27 = .ok (.iconst 3, 1) := by decide +kernel
theorem dX1_runHour_28 : decode cX1_runHour 28 = .ok (.invokestatic 91, 3) := by decide +kernel
theorem dX1_runHour_31 : decode cX1_runHour 31 = .ok (.dup2, 1) := by decide +kernel
theorem dX1_runHour_32 : decode cX1_runHour 32 = .ok (.iaload, 1) := by decide +kernel
theorem dX1_runHour_33 : decode cX1_runHour 33 = .ok (.iconst 1, 1) := by decide +kernel
theorem dX1_runHour_34 : decode cX1_runHour 34 = .ok (.iadd, 1) := by decide +kernel
theorem dX1_runHour_35 : decode cX1_runHour 35 = .ok (.iastore, 1) := by decide +kernel
theorem dX1_runHour_36 : decode cX1_runHour 36 = .ok (.aload_n 0, 1) := by decide +kernel
theorem dX1_runHour_37 : decode cX1_runHour 37 = .ok (.getfield 9, 3) := by decide +kernel
theorem dX1_runHour_40 : decode cX1_runHour 40 = .ok (.iload_n 1, 1) := by decide +kernel
theorem dX1_runHour_41 : decode cX1_runHour 41 = .ok (.iconst 3, 1) := by decide +kernel
theorem dX1_runHour_42 : decode cX1_runHour 42 = .ok (.invokestatic 91, 3) := by decide +kernel
theorem dX1_runHour_45 : decode cX1_runHour 45 = .ok (.iaload, 1) := by decide +kernel
theorem dX1_runHour_46 : decode cX1_runHour 46 = .ok (.aload_n 0, 1) := by decide +kernel
theorem dX1_runHour_47 : decode cX1_runHour 47 = .ok (.getfield 9, 3) := by decide +kernel
theorem dX1_runHour_50 : decode cX1_runHour 50 = .ok (.iload_n 1, 1) := by decide +kernel
theorem dX1_runHour_51 : decode cX1_runHour 51 = .ok (.iconst 2, 1) := by decide +kernel
theorem dX1_runHour_52 : decode cX1_runHour 52 = .ok (.invokestatic 91, 3) := by decide +kernel
theorem dX1_runHour_55 : decode cX1_runHour 55 = .ok (.iaload, 1) := by decide +kernel
theorem dX1_runHour_56 : decode cX1_runHour 56 = .ok (.invokestatic 224, 3) := by decide +kernel
theorem dX1_runHour_59 : decode cX1_runHour 59 = .ok (.ifCond .ne 17, 3) := by decide +kernel
theorem dX1_runHour_62 : decode cX1_runHour 62 = .ok (.aload_n 0, 1) := by decide +kernel
theorem dX1_runHour_63 : decode cX1_runHour 63 = .ok (.getfield 9, 3) := by decide +kernel
theorem dX1_runHour_66 : decode cX1_runHour 66 = .ok (.iload_n 1, 1) := by decide +kernel
theorem dX1_runHour_67 : decode cX1_runHour 67 = .ok (.iconst 0, 1) := by decide +kernel
theorem dX1_runHour_68 : decode cX1_runHour 68 = .ok (.invokestatic 91, 3) := by decide +kernel
theorem dX1_runHour_71 : decode cX1_runHour 71 = .ok (.dup2, 1) := by decide +kernel
theorem dX1_runHour_72 : decode cX1_runHour 72 = .ok (.iaload, 1) := by decide +kernel
theorem dX1_runHour_73 : decode cX1_runHour 73 = .ok (.iconst 1, 1) := by decide +kernel
theorem dX1_runHour_74 : decode cX1_runHour 74 = .ok (.isub, 1) := by decide +kernel
theorem dX1_runHour_75 : decode cX1_runHour 75 = .ok (.iastore, 1) := by decide +kernel
theorem dX1_runHour_76 : decode cX1_runHour 76 = .ok (.return_, 1) := by decide +kernel
theorem dX1_hoursToWait_0 : decode cX1_hoursToWait 0 = .ok (.aload_n 0, 1) := by decide +kernel
theorem dX1_hoursToWait_1 : decode cX1_hoursToWait 1 = .ok (.getfield 9, 3) := by decide +kernel
theorem dX1_hoursToWait_4 : decode cX1_hoursToWait 4 = .ok (.iconst 4, 1) := by decide +kernel
theorem dX1_hoursToWait_5 : decode cX1_hoursToWait 5 = .ok (.iaload, 1) := by decide +kernel
theorem dX1_hoursToWait_6 : decode cX1_hoursToWait 6 = .ok (.aload_n 0, 1) := by decide +kernel
theorem dX1_hoursToWait_7 : decode cX1_hoursToWait 7 = .ok (.getfield 9, 3) := by decide +kernel
theorem dX1_hoursToWait_10 : decode cX1_hoursToWait 10 = .ok (.iconst 0, 1) := by decide +kernel
theorem dX1_hoursToWait_11 : decode cX1_hoursToWait 11 = .ok (.iaload, 1) := by decide +kernel
theorem dX1_hoursToWait_12 : decode cX1_hoursToWait 12 = .ok (.isub, 1) := by decide +kernel
theorem dX1_hoursToWait_13 : decode cX1_hoursToWait 13 = .ok (.iconst 0, 1) := by decide +kernel
theorem dX1_hoursToWait_14 : decode cX1_hoursToWait 14 = .ok (.invokestatic 179, 3) := by decide +kernel
theorem dX1_hoursToWait_17 : decode cX1_hoursToWait 17 = .ok (.ireturn, 1) := by decide +kernel
set_option maxRecDepth 20000 in
theorem ggX1_hoursToOpen_X1_isLocked : GoodIn wsX1_hoursToOpen wsX1_isLocked := goodIn_r _ [9, 10, 26, 27, 28, 29, 30, 31] (by decide +kernel) (by decide +kernel)
set_option maxRecDepth 20000 in
theorem gX1_hoursToOpen_X1_isLocked : GoodIn wsX1_hoursToOpen (wsV RX1 79 RX1 yX1_isLocked wsX1_isLocked) := goodIn_app (goodIn_of _ (by decide +kernel)) ggX1_hoursToOpen_X1_isLocked
set_option maxRecDepth 20000 in
theorem ggX1_hoursToOpen_X1_goes : GoodIn wsX1_hoursToOpen wsX1_goes := goodIn_r _ [14, 10, 15, 16, 8, 17, 26, 27, 28, 29, 30, 31] (by decide +kernel) (by decide +kernel)
set_option maxRecDepth 20000 in
theorem gX1_hoursToOpen_X1_goes : GoodIn wsX1_hoursToOpen (wsV RX1 83 RX1 yX1_goes wsX1_goes) := goodIn_app (goodIn_of _ (by decide +kernel)) ggX1_hoursToOpen_X1_goes
set_option maxRecDepth 20000 in
theorem ggX1_hoursToOpen_X1_hoursToRunDown : GoodIn wsX1_hoursToOpen wsX1_hoursToRunDown := goodIn_r _ [21, 10, 15, 16, 8, 17, 26, 27, 28, 29, 30, 31] (by decide +kernel) (by decide +kernel)
set_option maxRecDepth 20000 in
theorem gX1_hoursToOpen_X1_hoursToRunDown : GoodIn wsX1_hoursToOpen (wsV RX1 220 RX1 yX1_hoursToRunDown wsX1_hoursToRunDown) := goodIn_app (goodIn_of _ (by decide +kernel)) ggX1_hoursToOpen_X1_hoursToRunDown
set_option maxRecDepth 20000 in
theorem ggX1_hoursToOpen_X1_hoursToWait : GoodIn wsX1_hoursToOpen wsX1_hoursToWait := goodIn_r _ [25, 10, 1, 2, 3, 4, 26, 27, 28, 29, 30, 31] (by decide +kernel) (by decide +kernel)
set_option maxRecDepth 20000 in
theorem gX1_hoursToOpen_X1_hoursToWait : GoodIn wsX1_hoursToOpen (wsV RX1 231 RX1 yX1_hoursToWait wsX1_hoursToWait) := goodIn_app (goodIn_of _ (by decide +kernel)) ggX1_hoursToOpen_X1_hoursToWait
theorem dX1_hoursToOpen_0 : decode cX1_hoursToOpen 0 = .ok (.aload_n 0, 1) := by decide +kernel
theorem dX1_hoursToOpen_1 : decode cX1_hoursToOpen 1 = .ok (.invokevirtual 79, 3) := by decide +kernel
theorem dX1_hoursToOpen_4 : decode cX1_hoursToOpen 4 = .ok (.ifCond .ne 5, 3) := by decide +kernel
theorem dX1_hoursToOpen_7 : decode cX1_hoursToOpen 7 = .ok (.iconst (-1), 1) := by decide +kernel
theorem dX1_hoursToOpen_8 : decode cX1_hoursToOpen 8 = .ok (.ireturn, 1) := by decide +kernel
theorem dX1_hoursToOpen_9 : decode cX1_hoursToOpen 9 = .ok (.iconst (-1), 1) := by decide +kernel
theorem dX1_hoursToOpen_10 : decode cX1_hoursToOpen 10 = .ok (.istore_n 2, 1) := by decide +kernel
theorem dX1_hoursToOpen_11 : decode cX1_hoursToOpen 11 = .ok (.iconst 0, 1) := by decide +kernel
theorem dX1_hoursToOpen_12 : decode cX1_hoursToOpen 12 = .ok (.istore_n 3, 1) := by decide +kernel
theorem dX1_hoursToOpen_13 : decode cX1_hoursToOpen 13 = .ok (.iload_n 3, 1) := by decide +kernel
theorem dX1_hoursToOpen_14 : decode cX1_hoursToOpen 14 = .ok (.iconst 3, 1) := by decide +kernel
theorem dX1_hoursToOpen_15 : decode cX1_hoursToOpen 15 = .ok (.if_icmp .ge 54, 3) := by decide +kernel
theorem dX1_hoursToOpen_18 : decode cX1_hoursToOpen 18 = .ok (.aload_n 0, 1) := by decide +kernel
theorem dX1_hoursToOpen_19 : decode cX1_hoursToOpen 19 = .ok (.iload_n 3, 1) := by decide +kernel
theorem dX1_hoursToOpen_20 : decode cX1_hoursToOpen 20 = .ok (.aload_n 0, 1) := by decide +kernel
theorem dX1_hoursToOpen_21 : decode cX1_hoursToOpen 21 = .ok (.iload_n 3, 1) := by decide +kernel
theorem dX1_hoursToOpen_22 : decode cX1_hoursToOpen 22 = .ok (.invokevirtual 83, 3) := by decide +kernel
theorem dX1_hoursToOpen_25 : decode cX1_hoursToOpen 25 = .ok (.ifCond .eq 12, 3) := by decide +kernel
theorem dX1_hoursToOpen_28 : decode cX1_hoursToOpen 28 = .ok (.iload_n 3, 1) := by decide +kernel
theorem dX1_hoursToOpen_29 : decode cX1_hoursToOpen 29 = .ok (.iload_n 1, 1) := by decide +kernel
theorem dX1_hoursToOpen_30 : decode cX1_hoursToOpen 30 = .ok (.if_icmp .eq 7, 3) := by decide +kernel
theorem dX1_hoursToOpen_33 : decode cX1_hoursToOpen 33 = .ok (.iconst 1, 1) := by decide +kernel
theorem dX1_hoursToOpen_34 : decode cX1_hoursToOpen 34 = .ok (.goto 4, 3) := by decide +kernel
theorem dX1_hoursToOpen_37 : decode cX1_hoursToOpen 37 = .ok (.iconst 0, 1) := by decide +kernel
theorem dX1_hoursToOpen_38 : decode cX1_hoursToOpen 38 = .ok (.invokevirtual 220, 3) := by decide +kernel
theorem dX1_hoursToOpen_41 : decode cX1_hoursToOpen 41 = .ok (.istore 4, 2) := by decide +kernel
theorem dX1_hoursToOpen_43 : decode cX1_hoursToOpen 43 = .ok (.iload 4, 2) := by decide +kernel
theorem dX1_hoursToOpen_45 : decode cX1_hoursToOpen 45 = .ok (.iconst (-1), 1) := by decide +kernel
theorem dX1_hoursToOpen_46 : decode cX1_hoursToOpen 46 = .ok (.if_icmp .eq 17, 3) := by decide +kernel
theorem dX1_hoursToOpen_49 : decode cX1_hoursToOpen 49 = .ok (.iload_n 2, 1) := by decide +kernel
theorem dX1_hoursToOpen_50 : decode cX1_hoursToOpen 50 = .ok (.iconst (-1), 1) := by decide +kernel
theorem dX1_hoursToOpen_51 : decode cX1_hoursToOpen 51 = .ok (.if_icmp .eq 9, 3) := by decide +kernel
theorem dX1_hoursToOpen_54 : decode cX1_hoursToOpen 54 = .ok (.iload 4, 2) := by decide +kernel
theorem dX1_hoursToOpen_56 : decode cX1_hoursToOpen 56 = .ok (.iload_n 2, 1) := by decide +kernel
theorem dX1_hoursToOpen_57 : decode cX1_hoursToOpen 57 = .ok (.if_icmp .ge 6, 3) := by decide +kernel
theorem dX1_hoursToOpen_60 : decode cX1_hoursToOpen 60 = .ok (.iload 4, 2) := by decide +kernel
theorem dX1_hoursToOpen_62 : decode cX1_hoursToOpen 62 = .ok (.istore_n 2, 1) := by decide +kernel
theorem dX1_hoursToOpen_63 : decode cX1_hoursToOpen 63 = .ok (.iinc 3 1, 3) := by decide +kernel
theorem dX1_hoursToOpen_66 : decode cX1_hoursToOpen 66 = .ok (.goto (-53), 3) := by decide +kernel
theorem dX1_hoursToOpen_69 : decode cX1_hoursToOpen 69 = .ok (.iload_n 2, 1) := by decide +kernel
theorem dX1_hoursToOpen_70 : decode cX1_hoursToOpen 70 = .ok (.iconst (-1), 1) := by decide +kernel
theorem dX1_hoursToOpen_71 : decode cX1_hoursToOpen 71 = .ok (.if_icmp .ne 7, 3) := by decide +kernel
theorem dX1_hoursToOpen_74 : decode cX1_hoursToOpen 74 = .ok (.iconst (-1), 1) := by decide +kernel
theorem dX1_hoursToOpen_75 : decode cX1_hoursToOpen 75 = .ok (.goto 11, 3) := by decide +kernel
theorem dX1_hoursToOpen_78 : decode cX1_hoursToOpen 78 = .ok (.iload_n 2, 1) := by decide +kernel
theorem dX1_hoursToOpen_79 : decode cX1_hoursToOpen 79 = .ok (.aload_n 0, 1) := by decide +kernel
theorem dX1_hoursToOpen_80 : decode cX1_hoursToOpen 80 = .ok (.invokevirtual 231, 3) := by decide +kernel
theorem dX1_hoursToOpen_83 : decode cX1_hoursToOpen 83 = .ok (.invokestatic 179, 3) := by decide +kernel
theorem dX1_hoursToOpen_86 : decode cX1_hoursToOpen 86 = .ok (.ireturn, 1) := by decide +kernel
theorem dX1_latenessAfter_0 : decode cX1_latenessAfter 0 = .ok (.aload_n 0, 1) := by decide +kernel
theorem dX1_latenessAfter_1 : decode cX1_latenessAfter 1 = .ok (.getfield 9, 3) := by decide +kernel
theorem dX1_latenessAfter_4 : decode cX1_latenessAfter 4 = .ok (.iconst 2, 1) := by decide +kernel
theorem dX1_latenessAfter_5 : decode cX1_latenessAfter 5 = .ok (.iaload, 1) := by decide +kernel
theorem dX1_latenessAfter_6 : decode cX1_latenessAfter 6 = .ok (.iconst (-1), 1) := by decide +kernel
theorem dX1_latenessAfter_7 : decode cX1_latenessAfter 7 = .ok (.if_icmp .ne 7, 3) := by decide +kernel
theorem dX1_latenessAfter_10 : decode cX1_latenessAfter 10 = .ok (.iconst 0, 1) := by decide +kernel
theorem dX1_latenessAfter_11 : decode cX1_latenessAfter 11 = .ok (.goto 18, 3) := by decide +kernel
theorem dX1_latenessAfter_14 : decode cX1_latenessAfter 14 = .ok (.aload_n 0, 1) := by decide +kernel
theorem dX1_latenessAfter_15 : decode cX1_latenessAfter 15 = .ok (.getfield 9, 3) := by decide +kernel
theorem dX1_latenessAfter_18 : decode cX1_latenessAfter 18 = .ok (.iconst 0, 1) := by decide +kernel
theorem dX1_latenessAfter_19 : decode cX1_latenessAfter 19 = .ok (.iaload, 1) := by decide +kernel
theorem dX1_latenessAfter_20 : decode cX1_latenessAfter 20 = .ok (.iload_n 1, 1) := by decide +kernel
theorem dX1_latenessAfter_21 : decode cX1_latenessAfter 21 = .ok (.iadd, 1) := by decide +kernel
theorem dX1_latenessAfter_22 : decode cX1_latenessAfter 22 = .ok (.aload_n 0, 1) := by decide +kernel
theorem dX1_latenessAfter_23 : decode cX1_latenessAfter 23 = .ok (.getfield 9, 3) := by decide +kernel
theorem dX1_latenessAfter_26 : decode cX1_latenessAfter 26 = .ok (.iconst 2, 1) := by decide +kernel
theorem dX1_latenessAfter_27 : decode cX1_latenessAfter 27 = .ok (.iaload, 1) := by decide +kernel
theorem dX1_latenessAfter_28 : decode cX1_latenessAfter 28 = .ok (.isub, 1) := by decide +kernel
theorem dX1_latenessAfter_29 : decode cX1_latenessAfter 29 = .ok (.ireturn, 1) := by decide +kernel
theorem dX1_countEarlyTry_0 : decode cX1_countEarlyTry 0 = .ok (.aload_n 0, 1) := by decide +kernel
theorem dX1_countEarlyTry_1 : decode cX1_countEarlyTry 1 = .ok (.getfield 9, 3) := by decide +kernel
theorem dX1_countEarlyTry_4 : decode cX1_countEarlyTry 4 = .ok (.iconst 5, 1) := by decide +kernel
theorem dX1_countEarlyTry_5 : decode cX1_countEarlyTry 5 = .ok (.dup2, 1) := by decide +kernel
theorem dX1_countEarlyTry_6 : decode cX1_countEarlyTry 6 = .ok (.iaload, 1) := by decide +kernel
theorem dX1_countEarlyTry_7 : decode cX1_countEarlyTry 7 = .ok (.iconst 1, 1) := by decide +kernel
theorem dX1_countEarlyTry_8 : decode cX1_countEarlyTry 8 = .ok (.iadd, 1) := by decide +kernel
theorem dX1_countEarlyTry_9 : decode cX1_countEarlyTry 9 = .ok (.iastore, 1) := by decide +kernel
theorem dX1_countEarlyTry_10 : decode cX1_countEarlyTry 10 = .ok (.aload_n 0, 1) := by decide +kernel
theorem dX1_countEarlyTry_11 : decode cX1_countEarlyTry 11 = .ok (.getfield 9, 3) := by decide +kernel
theorem dX1_countEarlyTry_14 : decode cX1_countEarlyTry 14 = .ok (.iconst 3, 1) := by decide +kernel
theorem dX1_countEarlyTry_15 : decode cX1_countEarlyTry 15 = .ok (.dup2, 1) := by decide +kernel
theorem dX1_countEarlyTry_16 : decode cX1_countEarlyTry 16 = .ok (.iaload, 1) := by decide +kernel
theorem dX1_countEarlyTry_17 : decode cX1_countEarlyTry 17 = .ok (.iconst 1, 1) := by decide +kernel
theorem dX1_countEarlyTry_18 : decode cX1_countEarlyTry 18 = .ok (.iadd, 1) := by decide +kernel
theorem dX1_countEarlyTry_19 : decode cX1_countEarlyTry 19 = .ok (.iastore, 1) := by decide +kernel
theorem dX1_countEarlyTry_20 : decode cX1_countEarlyTry 20 = .ok (.aload_n 0, 1) := by decide +kernel
theorem dX1_countEarlyTry_21 : decode cX1_countEarlyTry 21 = .ok (.getfield 9, 3) := by decide +kernel
theorem dX1_countEarlyTry_24 : decode cX1_countEarlyTry 24 = .ok (.iconst 3, 1) := by decide +kernel
theorem dX1_countEarlyTry_25 : decode cX1_countEarlyTry 25 = .ok (.iaload, 1) := by decide +kernel
theorem dX1_countEarlyTry_26 : decode cX1_countEarlyTry 26 = .ok (.aload_n 0, 1) := by decide +kernel
theorem dX1_countEarlyTry_27 : decode cX1_countEarlyTry 27 = .ok (.getfield 9, 3) := by decide +kernel
theorem dX1_countEarlyTry_30 : decode cX1_countEarlyTry 30 = .ok (.bipush 11, 2) := by decide +kernel
theorem dX1_countEarlyTry_32 : decode cX1_countEarlyTry 32 = .ok (.iaload, 1) := by decide +kernel
theorem dX1_countEarlyTry_33 : decode cX1_countEarlyTry 33 = .ok (.if_icmp .lt 30, 3) := by decide +kernel
theorem dX1_countEarlyTry_36 : decode cX1_countEarlyTry 36 = .ok (.aload_n 0, 1) := by decide +kernel
theorem dX1_countEarlyTry_37 : decode cX1_countEarlyTry 37 = .ok (.getfield 9, 3) := by decide +kernel
theorem dX1_countEarlyTry_40 : decode cX1_countEarlyTry 40 = .ok (.iconst 4, 1) := by decide +kernel
theorem dX1_countEarlyTry_41 : decode cX1_countEarlyTry 41 = .ok (.aload_n 0, 1) := by decide +kernel
theorem dX1_countEarlyTry_42 : decode cX1_countEarlyTry 42 = .ok (.getfield 9, 3) := by decide +kernel
theorem dX1_countEarlyTry_45 : decode cX1_countEarlyTry 45 = .ok (.iconst 0, 1) := by decide +kernel
theorem dX1_countEarlyTry_46 : decode cX1_countEarlyTry 46 = .ok (.iaload, 1) := by decide +kernel
theorem dX1_countEarlyTry_47 : decode cX1_countEarlyTry 47 = .ok (.aload_n 0, 1) := by decide +kernel
theorem dX1_countEarlyTry_48 : decode cX1_countEarlyTry 48 = .ok (.getfield 9, 3) := by decide +kernel
theorem dX1_countEarlyTry_51 : decode cX1_countEarlyTry 51 = .ok (.bipush 12, 2) := by decide +kernel
theorem dX1_countEarlyTry_53 : decode cX1_countEarlyTry 53 = .ok (.iaload, 1) := by decide +kernel
theorem dX1_countEarlyTry_54 : decode cX1_countEarlyTry 54 = .ok (.iadd, 1) := by decide +kernel
theorem dX1_countEarlyTry_55 : decode cX1_countEarlyTry 55 = .ok (.iastore, 1) := by decide +kernel
theorem dX1_countEarlyTry_56 : decode cX1_countEarlyTry 56 = .ok (.aload_n 0, 1) := by decide +kernel
theorem dX1_countEarlyTry_57 : decode cX1_countEarlyTry 57 = .ok (.getfield 9, 3) := by decide +kernel
theorem dX1_countEarlyTry_60 : decode cX1_countEarlyTry 60 = .ok (.iconst 3, 1) := by decide +kernel
theorem dX1_countEarlyTry_61 : decode cX1_countEarlyTry 61 = .ok (.iconst 0, 1) := by decide +kernel
theorem dX1_countEarlyTry_62 : decode cX1_countEarlyTry 62 = .ok (.iastore, 1) := by decide +kernel
theorem dX1_countEarlyTry_63 : decode cX1_countEarlyTry 63 = .ok (.return_, 1) := by decide +kernel
theorem dX1_countOpening_0 : decode cX1_countOpening 0 = .ok (.aload_n 0, 1) := by decide +kernel
theorem dX1_countOpening_1 : decode cX1_countOpening 1 = .ok (.getfield 9, 3) := by decide +kernel
theorem dX1_countOpening_4 : decode cX1_countOpening 4 = .ok (.bipush 6, 2) := by decide +kernel
theorem dX1_countOpening_6 : decode cX1_countOpening 6 = .ok (.dup2, 1) := by decide +kernel
theorem dX1_countOpening_7 : decode cX1_countOpening 7 = .ok (.iaload, 1) := by decide +kernel
theorem dX1_countOpening_8 : decode cX1_countOpening 8 = .ok (.iconst 1, 1) := by decide +kernel
theorem dX1_countOpening_9 : decode cX1_countOpening 9 = .ok (.iadd, 1) := by decide +kernel
theorem dX1_countOpening_10 : decode cX1_countOpening 10 = .ok (.iastore, 1) := by decide +kernel
theorem dX1_countOpening_11 : decode cX1_countOpening 11 = .ok (.iload_n 1, 1) := by decide +kernel
theorem dX1_countOpening_12 : decode cX1_countOpening 12 = .ok (.ifCond .le 17, 3) := by decide +kernel
theorem dX1_countOpening_15 : decode cX1_countOpening 15 = .ok (.aload_n 0, 1) := by decide +kernel
theorem dX1_countOpening_16 : decode cX1_countOpening 16 = .ok (.getfield 9, 3) := by decide +kernel
theorem dX1_countOpening_19 : decode cX1_countOpening 19 = .ok (.bipush 8, 2) := by decide +kernel
theorem dX1_countOpening_21 : decode cX1_countOpening 21 = .ok (.dup2, 1) := by decide +kernel
theorem dX1_countOpening_22 : decode cX1_countOpening 22 = .ok (.iaload, 1) := by decide +kernel
theorem dX1_countOpening_23 : decode cX1_countOpening 23 = .ok (.iconst 1, 1) := by decide +kernel
theorem dX1_countOpening_24 : decode cX1_countOpening 24 = .ok (.iadd, 1) := by decide +kernel
theorem dX1_countOpening_25 : decode cX1_countOpening 25 = .ok (.iastore, 1) := by decide +kernel
theorem dX1_countOpening_26 : decode cX1_countOpening 26 = .ok (.goto 32, 3) := by decide +kernel
theorem dX1_countOpening_29 : decode cX1_countOpening 29 = .ok (.iload_n 1, 1) := by decide +kernel
theorem dX1_countOpening_30 : decode cX1_countOpening 30 = .ok (.ifCond .ge 17, 3) := by decide +kernel
theorem dX1_countOpening_33 : decode cX1_countOpening 33 = .ok (.aload_n 0, 1) := by decide +kernel
theorem dX1_countOpening_34 : decode cX1_countOpening 34 = .ok (.getfield 9, 3) := by decide +kernel
theorem dX1_countOpening_37 : decode cX1_countOpening 37 = .ok (.bipush 9, 2) := by decide +kernel
theorem dX1_countOpening_39 : decode cX1_countOpening 39 = .ok (.dup2, 1) := by decide +kernel
theorem dX1_countOpening_40 : decode cX1_countOpening 40 = .ok (.iaload, 1) := by decide +kernel
theorem dX1_countOpening_41 : decode cX1_countOpening 41 = .ok (.iconst 1, 1) := by decide +kernel
theorem dX1_countOpening_42 : decode cX1_countOpening 42 = .ok (.iadd, 1) := by decide +kernel
theorem dX1_countOpening_43 : decode cX1_countOpening 43 = .ok (.iastore, 1) := by decide +kernel
theorem dX1_countOpening_44 : decode cX1_countOpening 44 = .ok (.goto 14, 3) := by decide +kernel
theorem dX1_countOpening_47 : decode cX1_countOpening 47 = .ok (.aload_n 0, 1) := by decide +kernel
theorem dX1_countOpening_48 : decode cX1_countOpening 48 = .ok (.getfield 9, 3) := by decide +kernel
theorem dX1_countOpening_51 : decode cX1_countOpening 51 = .ok (.bipush 7, 2) := by decide +kernel
theorem dX1_countOpening_53 : decode cX1_countOpening 53 = .ok (.dup2, 1) := by decide +kernel
theorem dX1_countOpening_54 : decode cX1_countOpening 54 = .ok (.iaload, 1) := by decide +kernel
theorem dX1_countOpening_55 : decode cX1_countOpening 55 = .ok (.iconst 1, 1) := by decide +kernel
theorem dX1_countOpening_56 : decode cX1_countOpening 56 = .ok (.iadd, 1) := by decide +kernel
theorem dX1_countOpening_57 : decode cX1_countOpening 57 = .ok (.iastore, 1) := by decide +kernel
theorem dX1_countOpening_58 : decode cX1_countOpening 58 = .ok (.return_, 1) := by decide +kernel
theorem dX1_leaveOpen_0 : decode cX1_leaveOpen 0 = .ok (.aload_n 0, 1) := by decide +kernel
theorem dX1_leaveOpen_1 : decode cX1_leaveOpen 1 = .ok (.getfield 9, 3) := by decide +kernel
theorem dX1_leaveOpen_4 : decode cX1_leaveOpen 4 = .ok (.iconst 1, 1) := by decide +kernel
theorem dX1_leaveOpen_5 : decode cX1_leaveOpen 5 = .ok (.iconst 0, 1) := by decide +kernel
theorem dX1_leaveOpen_6 : decode cX1_leaveOpen 6 = .ok (.iastore, 1) := by decide +kernel
theorem dX1_leaveOpen_7 : decode cX1_leaveOpen 7 = .ok (.aload_n 0, 1) := by decide +kernel
theorem dX1_leaveOpen_8 : decode cX1_leaveOpen 8 = .ok (.getfield 9, 3) := by decide +kernel
theorem dX1_leaveOpen_11 : decode cX1_leaveOpen 11 = .ok (.iconst 2, 1) := by decide +kernel
theorem dX1_leaveOpen_12 : decode cX1_leaveOpen 12 = .ok (.iconst (-1), 1) := by decide +kernel
theorem dX1_leaveOpen_13 : decode cX1_leaveOpen 13 = .ok (.iastore, 1) := by decide +kernel
theorem dX1_leaveOpen_14 : decode cX1_leaveOpen 14 = .ok (.aload_n 0, 1) := by decide +kernel
theorem dX1_leaveOpen_15 : decode cX1_leaveOpen 15 = .ok (.getfield 9, 3) := by decide +kernel
theorem dX1_leaveOpen_18 : decode cX1_leaveOpen 18 = .ok (.iconst 3, 1) := by decide +kernel
theorem dX1_leaveOpen_19 : decode cX1_leaveOpen 19 = .ok (.iconst 0, 1) := by decide +kernel
theorem dX1_leaveOpen_20 : decode cX1_leaveOpen 20 = .ok (.iastore, 1) := by decide +kernel
theorem dX1_leaveOpen_21 : decode cX1_leaveOpen 21 = .ok (.aload_n 0, 1) := by decide +kernel
theorem dX1_leaveOpen_22 : decode cX1_leaveOpen 22 = .ok (.getfield 9, 3) := by decide +kernel
theorem dX1_leaveOpen_25 : decode cX1_leaveOpen 25 = .ok (.iconst 4, 1) := by decide +kernel
theorem dX1_leaveOpen_26 : decode cX1_leaveOpen 26 = .ok (.iconst 0, 1) := by decide +kernel
theorem dX1_leaveOpen_27 : decode cX1_leaveOpen 27 = .ok (.iastore, 1) := by decide +kernel
theorem dX1_leaveOpen_28 : decode cX1_leaveOpen 28 = .ok (.return_, 1) := by decide +kernel
set_option maxRecDepth 20000 in
theorem ggX1_number_X1_today : GoodIn wsX1_number wsX1_today := goodIn_r _ [7, 1, 24, 25, 26, 27, 28, 29] (by decide +kernel) (by decide +kernel)
set_option maxRecDepth 20000 in
theorem gX1_number_X1_today : GoodIn wsX1_number (wsV RX1 214 RX1 yX1_today wsX1_today) := goodIn_app (goodIn_of _ (by decide +kernel)) ggX1_number_X1_today
set_option maxRecDepth 20000 in
theorem ggX1_number_X1_timeOfDay : GoodIn wsX1_number wsX1_timeOfDay := goodIn_r _ [11, 1, 24, 25, 26, 27, 28, 29] (by decide +kernel) (by decide +kernel)
set_option maxRecDepth 20000 in
theorem gX1_number_X1_timeOfDay : GoodIn wsX1_number (wsV RX1 217 RX1 yX1_timeOfDay wsX1_timeOfDay) := goodIn_app (goodIn_of _ (by decide +kernel)) ggX1_number_X1_timeOfDay
set_option maxRecDepth 20000 in
theorem ggX1_number_X1_hoursToOpening : GoodIn wsX1_number wsX1_hoursToOpening := goodIn_r _ [15, 1, 3, 4, 5, 6, 7, 8, 9, 10, 11, 24, 25, 26, 27, 28, 29] (by decide +kernel) (by decide +kernel)
set_option maxRecDepth 20000 in
theorem gX1_number_X1_hoursToOpening : GoodIn wsX1_number (wsV RX1 106 RX1 yX1_hoursToOpening wsX1_hoursToOpening) := goodIn_app (goodIn_of _ (by decide +kernel)) ggX1_number_X1_hoursToOpening
set_option maxRecDepth 20000 in
theorem ggX1_number_X1_hoursToWait : GoodIn wsX1_number wsX1_hoursToWait := goodIn_r _ [19, 1, 20, 21, 22, 23, 24, 25, 26, 27, 28, 29] (by decide +kernel) (by decide +kernel)
set_option maxRecDepth 20000 in
theorem gX1_number_X1_hoursToWait : GoodIn wsX1_number (wsV RX1 231 RX1 yX1_hoursToWait wsX1_hoursToWait) := goodIn_app (goodIn_of _ (by decide +kernel)) ggX1_number_X1_hoursToWait
theorem dX1_number_0 : decode cX1_number 0 = .ok (.iload_n 1, 1) := by decide +kernel
theorem dX1_number_1 : decode cX1_number 1 = .ok (.tableswitch 166 0 13 #[71, 78, 83, 88, 95, 100, 107, 114, 119, 126, 134, 142, 150, 158], 71) := by decide +kernel
theorem dX1_number_72 : decode cX1_number 72 = .ok (.aload_n 0, 1) := by decide +kernel
theorem dX1_number_73 : decode cX1_number 73 = .ok (.getfield 9, 3) := by decide +kernel
theorem dX1_number_76 : decode cX1_number 76 = .ok (.iconst 0, 1) := by decide +kernel
theorem dX1_number_77 : decode cX1_number 77 = .ok (.iaload, 1) := by decide +kernel
theorem dX1_number_78 : decode cX1_number 78 = .ok (.ireturn, 1) := by decide +kernel
theorem dX1_number_79 : decode cX1_number 79 = .ok (.aload_n 0, 1) := by decide +kernel
theorem dX1_number_80 : decode cX1_number 80 = .ok (.invokevirtual 214, 3) := by decide +kernel
theorem dX1_number_83 : decode cX1_number 83 = .ok (.ireturn, 1) := by decide +kernel
theorem dX1_number_84 : decode cX1_number 84 = .ok (.aload_n 0, 1) := by decide +kernel
theorem dX1_number_85 : decode cX1_number 85 = .ok (.invokevirtual 217, 3) := by decide +kernel
theorem dX1_number_88 : decode cX1_number 88 = .ok (.ireturn, 1) := by decide +kernel
theorem dX1_number_89 : decode cX1_number 89 = .ok (.aload_n 0, 1) := by decide +kernel
theorem dX1_number_90 : decode cX1_number 90 = .ok (.getfield 9, 3) := by decide +kernel
theorem dX1_number_93 : decode cX1_number 93 = .ok (.iconst 1, 1) := by decide +kernel
theorem dX1_number_94 : decode cX1_number 94 = .ok (.iaload, 1) := by decide +kernel
theorem dX1_number_95 : decode cX1_number 95 = .ok (.ireturn, 1) := by decide +kernel
theorem dX1_number_96 : decode cX1_number 96 = .ok (.aload_n 0, 1) := by decide +kernel
theorem dX1_number_97 : decode cX1_number 97 = .ok (.invokevirtual 106, 3) := by decide +kernel
theorem dX1_number_100 : decode cX1_number 100 = .ok (.ireturn, 1) := by decide +kernel
theorem dX1_number_101 : decode cX1_number 101 = .ok (.aload_n 0, 1) := by decide +kernel
theorem dX1_number_102 : decode cX1_number 102 = .ok (.getfield 9, 3) := by decide +kernel
theorem dX1_number_105 : decode cX1_number 105 = .ok (.iconst 2, 1) := by decide +kernel
theorem dX1_number_106 : decode cX1_number 106 = .ok (.iaload, 1) := by decide +kernel
theorem dX1_number_107 : decode cX1_number 107 = .ok (.ireturn, 1) := by decide +kernel
theorem dX1_number_108 : decode cX1_number 108 = .ok (.aload_n 0, 1) := by decide +kernel
theorem dX1_number_109 : decode cX1_number 109 = .ok (.getfield 9, 3) := by decide +kernel
theorem dX1_number_112 : decode cX1_number 112 = .ok (.iconst 3, 1) := by decide +kernel
theorem dX1_number_113 : decode cX1_number 113 = .ok (.iaload, 1) := by decide +kernel
theorem dX1_number_114 : decode cX1_number 114 = .ok (.ireturn, 1) := by decide +kernel
theorem dX1_number_115 : decode cX1_number 115 = .ok (.aload_n 0, 1) := by decide +kernel
theorem dX1_number_116 : decode cX1_number 116 = .ok (.invokevirtual 231, 3) := by decide +kernel
theorem dX1_number_119 : decode cX1_number 119 = .ok (.ireturn, 1) := by decide +kernel
theorem dX1_number_120 : decode cX1_number 120 = .ok (.aload_n 0, 1) := by decide +kernel
theorem dX1_number_121 : decode cX1_number 121 = .ok (.getfield 9, 3) := by decide +kernel
theorem dX1_number_124 : decode cX1_number 124 = .ok (.iconst 5, 1) := by decide +kernel
theorem dX1_number_125 : decode cX1_number 125 = .ok (.iaload, 1) := by decide +kernel
theorem dX1_number_126 : decode cX1_number 126 = .ok (.ireturn, 1) := by decide +kernel
theorem dX1_number_127 : decode cX1_number 127 = .ok (.aload_n 0, 1) := by decide +kernel
theorem dX1_number_128 : decode cX1_number 128 = .ok (.getfield 9, 3) := by decide +kernel
theorem dX1_number_131 : decode cX1_number 131 = .ok (.bipush 6, 2) := by decide +kernel
theorem dX1_number_133 : decode cX1_number 133 = .ok (.iaload, 1) := by decide +kernel
theorem dX1_number_134 : decode cX1_number 134 = .ok (.ireturn, 1) := by decide +kernel
theorem dX1_number_135 : decode cX1_number 135 = .ok (.aload_n 0, 1) := by decide +kernel
theorem dX1_number_136 : decode cX1_number 136 = .ok (.getfield 9, 3) := by decide +kernel
theorem dX1_number_139 : decode cX1_number 139 = .ok (.bipush 7, 2) := by decide +kernel
theorem dX1_number_141 : decode cX1_number 141 = .ok (.iaload, 1) := by decide +kernel
theorem dX1_number_142 : decode cX1_number 142 = .ok (.ireturn, 1) := by decide +kernel
theorem dX1_number_143 : decode cX1_number 143 = .ok (.aload_n 0, 1) := by decide +kernel
theorem dX1_number_144 : decode cX1_number 144 = .ok (.getfield 9, 3) := by decide +kernel
theorem dX1_number_147 : decode cX1_number 147 = .ok (.bipush 8, 2) := by decide +kernel
theorem dX1_number_149 : decode cX1_number 149 = .ok (.iaload, 1) := by decide +kernel
theorem dX1_number_150 : decode cX1_number 150 = .ok (.ireturn, 1) := by decide +kernel
theorem dX1_number_151 : decode cX1_number 151 = .ok (.aload_n 0, 1) := by decide +kernel
theorem dX1_number_152 : decode cX1_number 152 = .ok (.getfield 9, 3) := by decide +kernel
theorem dX1_number_155 : decode cX1_number 155 = .ok (.bipush 9, 2) := by decide +kernel
theorem dX1_number_157 : decode cX1_number 157 = .ok (.iaload, 1) := by decide +kernel
theorem dX1_number_158 : decode cX1_number 158 = .ok (.ireturn, 1) := by decide +kernel
theorem dX1_number_159 : decode cX1_number 159 = .ok (.aload_n 0, 1) := by decide +kernel
theorem dX1_number_160 : decode cX1_number 160 = .ok (.getfield 9, 3) := by decide +kernel
theorem dX1_number_163 : decode cX1_number 163 = .ok (.bipush 10, 2) := by decide +kernel
theorem dX1_number_165 : decode cX1_number 165 = .ok (.iaload, 1) := by decide +kernel
theorem dX1_number_166 : decode cX1_number 166 = .ok (.ireturn, 1) := by decide +kernel
theorem dX1_number_167 : decode cX1_number 167 = .ok (.aload_n 0, 1) := by decide +kernel
theorem dX1_number_168 : decode cX1_number 168 = .ok (.getfield 16, 3) := by decide +kernel
theorem dX1_number_171 : decode cX1_number 171 = .ok (.ireturn, 1) := by decide +kernel
set_option maxRecDepth 20000 in
theorem ggX1_readBuffer_X0_restart : GoodIn wsX1_readBuffer wsX0_restart := goodIn_r _ [8, 9, 10, 11, 12, 43, 44, 45, 46] (by decide +kernel) (by decide +kernel)
set_option maxRecDepth 20000 in
theorem gX1_readBuffer_X0_restart : GoodIn wsX1_readBuffer (wsV RX1 234 RX0 yX0_restart wsX0_restart) := goodIn_app (goodIn_of _ (by decide +kernel)) ggX1_readBuffer_X0_restart
set_option maxRecDepth 20000 in
theorem ggX1_readBuffer_X0_take : GoodIn wsX1_readBuffer wsX0_take := goodIn_r _ [16, 10, 9, 17, 18, 19, 7, 20, 21, 22, 23, 24, 11, 12, 25, 26, 27, 28, 29, 30, 31, 32, 33, 34, 35, 36, 43, 44, 45, 46] (by decide +kernel) (by decide +kernel)
set_option maxRecDepth 20000 in
theorem gX1_readBuffer_X0_take : GoodIn wsX1_readBuffer (wsV RX1 237 RX0 yX0_take wsX0_take) := goodIn_app (goodIn_of _ (by decide +kernel)) ggX1_readBuffer_X0_take
theorem dX1_readBuffer_0 : decode cX1_readBuffer 0 = .ok (.aload_n 0, 1) := by decide +kernel
theorem dX1_readBuffer_1 : decode cX1_readBuffer 1 = .ok (.getfield 29, 3) := by decide +kernel
theorem dX1_readBuffer_4 : decode cX1_readBuffer 4 = .ok (.invokevirtual 234, 3) := by decide +kernel
theorem dX1_readBuffer_7 : decode cX1_readBuffer 7 = .ok (.iconst 0, 1) := by decide +kernel
theorem dX1_readBuffer_8 : decode cX1_readBuffer 8 = .ok (.istore_n 1, 1) := by decide +kernel
theorem dX1_readBuffer_9 : decode cX1_readBuffer 9 = .ok (.iload_n 1, 1) := by decide +kernel
theorem dX1_readBuffer_10 : decode cX1_readBuffer 10 = .ok (.aload_n 0, 1) := by decide +kernel
theorem dX1_readBuffer_11 : decode cX1_readBuffer 11 = .ok (.getfield 23, 3) := by decide +kernel
theorem dX1_readBuffer_14 : decode cX1_readBuffer 14 = .ok (.if_icmp .ge 27, 3) := by decide +kernel
theorem dX1_readBuffer_17 : decode cX1_readBuffer 17 = .ok (.aload_n 0, 1) := by decide +kernel
theorem dX1_readBuffer_18 : decode cX1_readBuffer 18 = .ok (.getfield 29, 3) := by decide +kernel
theorem dX1_readBuffer_21 : decode cX1_readBuffer 21 = .ok (.aload_n 0, 1) := by decide +kernel
theorem dX1_readBuffer_22 : decode cX1_readBuffer 22 = .ok (.getfield 20, 3) := by decide +kernel
theorem dX1_readBuffer_25 : decode cX1_readBuffer 25 = .ok (.iload_n 1, 1) := by decide +kernel
theorem dX1_readBuffer_26 : decode cX1_readBuffer 26 = .ok (.iaload, 1) := by decide +kernel
theorem dX1_readBuffer_27 : decode cX1_readBuffer 27 = .ok (.invokevirtual 237, 3) := by decide +kernel
theorem dX1_readBuffer_30 : decode cX1_readBuffer 30 = .ok (.ifCond .ne 5, 3) := by decide +kernel
theorem dX1_readBuffer_33 : decode cX1_readBuffer 33 = .ok (.iload_n 1, 1) := by decide +kernel
theorem dX1_readBuffer_34 : decode cX1_readBuffer 34 = .ok (.ireturn, 1) := by decide +kernel
theorem dX1_readBuffer_35 : decode cX1_readBuffer 35 = .ok (.iinc 1 1, 3) := by decide +kernel
theorem dX1_readBuffer_38 : decode cX1_readBuffer 38 = .ok (.goto (-29), 3) := by decide +kernel
theorem dX1_readBuffer_41 : decode cX1_readBuffer 41 = .ok (.aload_n 0, 1) := by decide +kernel
theorem dX1_readBuffer_42 : decode cX1_readBuffer 42 = .ok (.getfield 23, 3) := by decide +kernel
theorem dX1_readBuffer_45 : decode cX1_readBuffer 45 = .ok (.ireturn, 1) := by decide +kernel
theorem dX2_init_0 : decode cX2_init 0 = .ok (.aload_n 0, 1) := by decide +kernel
theorem dX2_init_1 : decode cX2_init 1 = .ok (.invokespecial 1, 3) := by decide +kernel
theorem dX2_init_4 : decode cX2_init 4 = .ok (.aload_n 0, 1) := by decide +kernel
theorem dX2_init_5 : decode cX2_init 5 = .ok (.bipush 33, 2) := by decide +kernel
theorem dX2_init_7 : decode cX2_init 7 = .ok (.newarray .int, 2) := by decide +kernel
theorem dX2_init_9 : decode cX2_init 9 = .ok (.putfield 7, 3) := by decide +kernel
theorem dX2_init_12 : decode cX2_init 12 = .ok (.aload_n 0, 1) := by decide +kernel
theorem dX2_init_13 : decode cX2_init 13 = .ok (.sipush 198, 3) := by decide +kernel
theorem dX2_init_16 : decode cX2_init 16 = .ok (.newarray .int, 2) := by decide +kernel
theorem dX2_init_18 : decode cX2_init 18 = .ok (.putfield 13, 3) := by decide +kernel
theorem dX2_init_21 : decode cX2_init 21 = .ok (.aload_n 0, 1) := by decide +kernel
theorem dX2_init_22 : decode cX2_init 22 = .ok (.bipush 60, 2) := by decide +kernel
theorem dX2_init_24 : decode cX2_init 24 = .ok (.newarray .int, 2) := by decide +kernel
theorem dX2_init_26 : decode cX2_init 26 = .ok (.putfield 16, 3) := by decide +kernel
theorem dX2_init_29 : decode cX2_init 29 = .ok (.aload_n 0, 1) := by decide +kernel
theorem dX2_init_30 : decode cX2_init 30 = .ok (.iconst 3, 1) := by decide +kernel
theorem dX2_init_31 : decode cX2_init 31 = .ok (.newarray .int, 2) := by decide +kernel
theorem dX2_init_33 : decode cX2_init 33 = .ok (.putfield 19, 3) := by decide +kernel
theorem dX2_init_36 : decode cX2_init 36 = .ok (.aload_n 0, 1) := by decide +kernel
theorem dX2_init_37 : decode cX2_init 37 = .ok (.iconst 3, 1) := by decide +kernel
theorem dX2_init_38 : decode cX2_init 38 = .ok (.newarray .int, 2) := by decide +kernel
theorem dX2_init_40 : decode cX2_init 40 = .ok (.putfield 22, 3) := by decide +kernel
theorem dX2_init_43 : decode cX2_init 43 = .ok (.iconst 0, 1) := by decide +kernel
theorem dX2_init_44 : decode cX2_init 44 = .ok (.istore_n 1, 1) := by decide +kernel
theorem dX2_init_45 : decode cX2_init 45 = .ok (.iload_n 1, 1) := by decide +kernel
theorem dX2_init_46 : decode cX2_init 46 = .ok (.bipush 7, 2) := by decide +kernel
theorem dX2_init_48 : decode cX2_init 48 = .ok (.if_icmp .ge 28, 3) := by decide +kernel
theorem dX2_init_51 : decode cX2_init 51 = .ok (.aload_n 0, 1) := by decide +kernel
theorem dX2_init_52 : decode cX2_init 52 = .ok (.getfield 7, 3) := by decide +kernel
theorem dX2_init_55 : decode cX2_init 55 = .ok (.iconst 1, 1) := by decide +kernel
theorem dX2_init_56 : decode cX2_init 56 = .ok (.iload_n 1, 1) := by decide +kernel
theorem dX2_init_57 : decode cX2_init 57 = .ok (.iadd, 1) := by decide +kernel
theorem dX2_init_58 : decode cX2_init 58 = .ok (.iload_n 1, 1) := by decide +kernel
theorem dX2_init_59 : decode cX2_init 59 = .ok (.iconst 5, 1) := by decide +kernel
theorem dX2_init_60 : decode cX2_init 60 = .ok (.if_icmp .ge 8, 3) := by decide +kernel
theorem dX2_init_63 : decode cX2_init 63 = .ok (.bipush 8, 2) := by decide +kernel
theorem dX2_init_65 : decode cX2_init 65 = .ok (.goto 4, 3) := by decide +kernel
theorem dX2_init_68 : decode cX2_init 68 = .ok (.iconst (-1), 1) := by decide +kernel
theorem dX2_init_69 : decode cX2_init 69 = .ok (.iastore, 1) := by decide +kernel
theorem dX2_init_70 : decode cX2_init 70 = .ok (.iinc 1 1, 3) := by decide +kernel
theorem dX2_init_73 : decode cX2_init 73 = .ok (.goto (-28), 3) := by decide +kernel
theorem dX2_init_76 : decode cX2_init 76 = .ok (.aload_n 0, 1) := by decide +kernel
theorem dX2_init_77 : decode cX2_init 77 = .ok (.getfield 7, 3) := by decide +kernel
theorem dX2_init_80 : decode cX2_init 80 = .ok (.bipush 8, 2) := by decide +kernel
theorem dX2_init_82 : decode cX2_init 82 = .ok (.iconst 3, 1) := by decide +kernel
theorem dX2_init_83 : decode cX2_init 83 = .ok (.iastore, 1) := by decide +kernel
theorem dX2_init_84 : decode cX2_init 84 = .ok (.aload_n 0, 1) := by decide +kernel
theorem dX2_init_85 : decode cX2_init 85 = .ok (.getfield 7, 3) := by decide +kernel
theorem dX2_init_88 : decode cX2_init 88 = .ok (.bipush 9, 2) := by decide +kernel
theorem dX2_init_90 : decode cX2_init 90 = .ok (.iconst 2, 1) := by decide +kernel
theorem dX2_init_91 : decode cX2_init 91 = .ok (.iastore, 1) := by decide +kernel
theorem dX2_init_92 : decode cX2_init 92 = .ok (.aload_n 0, 1) := by decide +kernel
theorem dX2_init_93 : decode cX2_init 93 = .ok (.getfield 7, 3) := by decide +kernel
theorem dX2_init_96 : decode cX2_init 96 = .ok (.bipush 10, 2) := by decide +kernel
theorem dX2_init_98 : decode cX2_init 98 = .ok (.sipush 500, 3) := by decide +kernel
theorem dX2_init_101 : decode cX2_init 101 = .ok (.iastore, 1) := by decide +kernel
theorem dX2_init_102 : decode cX2_init 102 = .ok (.aload_n 0, 1) := by decide +kernel
theorem dX2_init_103 : decode cX2_init 103 = .ok (.getfield 7, 3) := by decide +kernel
theorem dX2_init_106 : decode cX2_init 106 = .ok (.bipush 12, 2) := by decide +kernel
theorem dX2_init_108 : decode cX2_init 108 = .ok (.iconst (-1), 1) := by decide +kernel
theorem dX2_init_109 : decode cX2_init 109 = .ok (.iastore, 1) := by decide +kernel
theorem dX2_init_110 : decode cX2_init 110 = .ok (.iconst 0, 1) := by decide +kernel
theorem dX2_init_111 : decode cX2_init 111 = .ok (.istore_n 1, 1) := by decide +kernel
theorem dX2_init_112 : decode cX2_init 112 = .ok (.iload_n 1, 1) := by decide +kernel
theorem dX2_init_113 : decode cX2_init 113 = .ok (.iconst 3, 1) := by decide +kernel
theorem dX2_init_114 : decode cX2_init 114 = .ok (.if_icmp .ge 23, 3) := by decide +kernel
theorem dX2_init_117 : decode cX2_init 117 = .ok (.aload_n 0, 1) := by decide +kernel
theorem dX2_init_118 : decode cX2_init 118 = .ok (.getfield 7, 3) := by decide +kernel
theorem dX2_init_121 : decode cX2_init 121 = .ok (.bipush 21, 2) := by decide +kernel
theorem dX2_init_123 : decode cX2_init 123 = .ok (.iconst 4, 1) := by decide +kernel
theorem dX2_init_124 : decode cX2_init 124 = .ok (.iload_n 1, 1) := by decide +kernel
theorem dX2_init_125 : decode cX2_init 125 = .ok (.imul, 1) := by decide +kernel
theorem dX2_init_126 : decode cX2_init 126 = .ok (.iadd, 1) := by decide +kernel
theorem dX2_init_127 : decode cX2_init 127 = .ok (.iconst 1, 1) := by decide +kernel
theorem dX2_init_128 : decode cX2_init 128 = .ok (.iadd, 1) := by decide +kernel
theorem dX2_init_129 : decode cX2_init 129 = .ok (.iconst 1, 1) := by decide +kernel
theorem dX2_init_130 : decode cX2_init 130 = .ok (.iastore, 1) := by decide +kernel
theorem dX2_init_131 : decode cX2_init 131 = .ok (.iinc 1 1, 3) := by decide +kernel
theorem dX2_init_134 : decode cX2_init 134 = .ok (.goto (-22), 3) := by decide +kernel
theorem dX2_init_137 : decode cX2_init 137 = .ok (.return_, 1) := by decide +kernel
theorem dX2_thrown_0 : decode cX2_thrown 0 = .ok (.aload_n 0, 1) := by decide +kernel
theorem dX2_thrown_1 : decode cX2_thrown 1 = .ok (.getfield 25, 3) := by decide +kernel
theorem dX2_thrown_4 : decode cX2_thrown 4 = .ok (.ireturn, 1) := by decide +kernel
theorem dX2_fails_0 : decode cX2_fails 0 = .ok (.aload_n 0, 1) := by decide +kernel
theorem dX2_fails_1 : decode cX2_fails 1 = .ok (.iload_n 1, 1) := by decide +kernel
theorem dX2_fails_2 : decode cX2_fails 2 = .ok (.putfield 25, 3) := by decide +kernel
theorem dX2_fails_5 : decode cX2_fails 5 = .ok (.iconst 0, 1) := by decide +kernel
theorem dX2_fails_6 : decode cX2_fails 6 = .ok (.ireturn, 1) := by decide +kernel
theorem dX2_in_0 : decode cX2_in 0 = .ok (.iload_n 0, 1) := by decide +kernel
theorem dX2_in_1 : decode cX2_in 1 = .ok (.iload_n 1, 1) := by decide +kernel
theorem dX2_in_2 : decode cX2_in 2 = .ok (.if_icmp .lt 12, 3) := by decide +kernel
theorem dX2_in_5 : decode cX2_in 5 = .ok (.iload_n 0, 1) := by decide +kernel
theorem dX2_in_6 : decode cX2_in 6 = .ok (.iload_n 2, 1) := by decide +kernel
theorem dX2_in_7 : decode cX2_in 7 = .ok (.if_icmp .gt 7, 3) := by decide +kernel
theorem dX2_in_10 : decode cX2_in 10 = .ok (.iconst 1, 1) := by decide +kernel
theorem dX2_in_11 : decode cX2_in 11 = .ok (.goto 4, 3) := by decide +kernel
theorem dX2_in_14 : decode cX2_in 14 = .ok (.iconst 0, 1) := by decide +kernel
theorem dX2_in_15 : decode cX2_in 15 = .ok (.ireturn, 1) := by decide +kernel
set_option maxRecDepth 20000 in
theorem ggX2_isMovement_X2_in : GoodIn wsX2_isMovement wsX2_in := goodIn_r _ [4] (by decide +kernel) (by decide +kernel)
set_option maxRecDepth 20000 in
theorem gX2_isMovement_X2_in : GoodIn wsX2_isMovement (va_wsS RX2 29 yX2_in wsX2_in) := goodIn_app (goodIn_of _ (by decide +kernel)) ggX2_isMovement_X2_in
theorem dX2_isMovement_0 : decode cX2_isMovement 0 = .ok (.iload_n 0, 1) := by decide +kernel
theorem dX2_isMovement_1 : decode cX2_isMovement 1 = .ok (.iconst 0, 1) := by decide +kernel
theorem dX2_isMovement_2 : decode cX2_isMovement 2 = .ok (.iconst 2, 1) := by decide +kernel
theorem dX2_isMovement_3 : decode cX2_isMovement 3 = .ok (.invokestatic 29, 3) := by decide +kernel
theorem dX2_isMovement_6 : decode cX2_isMovement 6 = .ok (.ireturn, 1) := by decide +kernel
set_option maxRecDepth 20000 in
theorem ggX2_isDay_X2_in : GoodIn wsX2_isDay wsX2_in := goodIn_r _ [4] (by decide +kernel) (by decide +kernel)
set_option maxRecDepth 20000 in
theorem gX2_isDay_X2_in : GoodIn wsX2_isDay (va_wsS RX2 29 yX2_in wsX2_in) := goodIn_app (goodIn_of _ (by decide +kernel)) ggX2_isDay_X2_in
theorem dX2_isDay_0 : decode cX2_isDay 0 = .ok (.iload_n 0, 1) := by decide +kernel
theorem dX2_isDay_1 : decode cX2_isDay 1 = .ok (.iconst 0, 1) := by decide +kernel
theorem dX2_isDay_2 : decode cX2_isDay 2 = .ok (.bipush 6, 2) := by decide +kernel
theorem dX2_isDay_4 : decode cX2_isDay 4 = .ok (.invokestatic 29, 3) := by decide +kernel
theorem dX2_isDay_7 : decode cX2_isDay 7 = .ok (.ireturn, 1) := by decide +kernel
theorem dX2_saves_0 : decode cX2_saves 0 = .ok (.aload_n 0, 1) := by decide +kernel
theorem dX2_saves_1 : decode cX2_saves 1 = .ok (.getfield 33, 3) := by decide +kernel
theorem dX2_saves_4 : decode cX2_saves 4 = .ok (.bipush 6, 2) := by decide +kernel
theorem dX2_saves_6 : decode cX2_saves 6 = .ok (.if_icmp .ne 43, 3) := by decide +kernel
theorem dX2_saves_9 : decode cX2_saves 9 = .ok (.iconst 0, 1) := by decide +kernel
theorem dX2_saves_10 : decode cX2_saves 10 = .ok (.istore_n 1, 1) := by decide +kernel
theorem dX2_saves_11 : decode cX2_saves 11 = .ok (.iload_n 1, 1) := by decide +kernel
theorem dX2_saves_12 : decode cX2_saves 12 = .ok (.sipush 165, 3) := by decide +kernel
theorem dX2_saves_15 : decode cX2_saves 15 = .ok (.if_icmp .ge 24, 3) := by decide +kernel
theorem dX2_saves_18 : decode cX2_saves 18 = .ok (.aload_n 0, 1) := by decide +kernel
theorem dX2_saves_19 : decode cX2_saves 19 = .ok (.getfield 13, 3) := by decide +kernel
theorem dX2_saves_22 : decode cX2_saves 22 = .ok (.iload_n 1, 1) := by decide +kernel
theorem dX2_saves_23 : decode cX2_saves 23 = .ok (.aload_n 0, 1) := by decide +kernel
theorem dX2_saves_24 : decode cX2_saves 24 = .ok (.getfield 13, 3) := by decide +kernel
theorem dX2_saves_27 : decode cX2_saves 27 = .ok (.iload_n 1, 1) := by decide +kernel
theorem dX2_saves_28 : decode cX2_saves 28 = .ok (.bipush 33, 2) := by decide +kernel
theorem dX2_saves_30 : decode cX2_saves 30 = .ok (.iadd, 1) := by decide +kernel
theorem dX2_saves_31 : decode cX2_saves 31 = .ok (.iaload, 1) := by decide +kernel
theorem dX2_saves_32 : decode cX2_saves 32 = .ok (.iastore, 1) := by decide +kernel
theorem dX2_saves_33 : decode cX2_saves 33 = .ok (.iinc 1 1, 3) := by decide +kernel
theorem dX2_saves_36 : decode cX2_saves 36 = .ok (.goto (-25), 3) := by decide +kernel
theorem dX2_saves_39 : decode cX2_saves 39 = .ok (.aload_n 0, 1) := by decide +kernel
theorem dX2_saves_40 : decode cX2_saves 40 = .ok (.dup, 1) := by decide +kernel
theorem dX2_saves_41 : decode cX2_saves 41 = .ok (.getfield 33, 3) := by decide +kernel
theorem dX2_saves_44 : decode cX2_saves 44 = .ok (.iconst 1, 1) := by decide +kernel
theorem dX2_saves_45 : decode cX2_saves 45 = .ok (.isub, 1) := by decide +kernel
theorem dX2_saves_46 : decode cX2_saves 46 = .ok (.putfield 33, 3) := by decide +kernel
theorem dX2_saves_49 : decode cX2_saves 49 = .ok (.iconst 0, 1) := by decide +kernel
theorem dX2_saves_50 : decode cX2_saves 50 = .ok (.istore_n 1, 1) := by decide +kernel
theorem dX2_saves_51 : decode cX2_saves 51 = .ok (.iload_n 1, 1) := by decide +kernel
theorem dX2_saves_52 : decode cX2_saves 52 = .ok (.bipush 33, 2) := by decide +kernel
theorem dX2_saves_54 : decode cX2_saves 54 = .ok (.if_icmp .ge 29, 3) := by decide +kernel
theorem dX2_saves_57 : decode cX2_saves 57 = .ok (.aload_n 0, 1) := by decide +kernel
theorem dX2_saves_58 : decode cX2_saves 58 = .ok (.getfield 13, 3) := by decide +kernel
theorem dX2_saves_61 : decode cX2_saves 61 = .ok (.bipush 33, 2) := by decide +kernel
theorem dX2_saves_63 : decode cX2_saves 63 = .ok (.aload_n 0, 1) := by decide +kernel
theorem dX2_saves_64 : decode cX2_saves 64 = .ok (.getfield 33, 3) := by decide +kernel
theorem dX2_saves_67 : decode cX2_saves 67 = .ok (.imul, 1) := by decide +kernel
theorem dX2_saves_68 : decode cX2_saves 68 = .ok (.iload_n 1, 1) := by decide +kernel
theorem dX2_saves_69 : decode cX2_saves 69 = .ok (.iadd, 1) := by decide +kernel
theorem dX2_saves_70 : decode cX2_saves 70 = .ok (.aload_n 0, 1) := by decide +kernel
theorem dX2_saves_71 : decode cX2_saves 71 = .ok (.getfield 7, 3) := by decide +kernel
theorem dX2_saves_74 : decode cX2_saves 74 = .ok (.iload_n 1, 1) := by decide +kernel
theorem dX2_saves_75 : decode cX2_saves 75 = .ok (.iaload, 1) := by decide +kernel
theorem dX2_saves_76 : decode cX2_saves 76 = .ok (.iastore, 1) := by decide +kernel
theorem dX2_saves_77 : decode cX2_saves 77 = .ok (.iinc 1 1, 3) := by decide +kernel
theorem dX2_saves_80 : decode cX2_saves 80 = .ok (.goto (-29), 3) := by decide +kernel
theorem dX2_saves_83 : decode cX2_saves 83 = .ok (.aload_n 0, 1) := by decide +kernel
theorem dX2_saves_84 : decode cX2_saves 84 = .ok (.dup, 1) := by decide +kernel
theorem dX2_saves_85 : decode cX2_saves 85 = .ok (.getfield 33, 3) := by decide +kernel
theorem dX2_saves_88 : decode cX2_saves 88 = .ok (.iconst 1, 1) := by decide +kernel
theorem dX2_saves_89 : decode cX2_saves 89 = .ok (.iadd, 1) := by decide +kernel
theorem dX2_saves_90 : decode cX2_saves 90 = .ok (.putfield 33, 3) := by decide +kernel
theorem dX2_saves_93 : decode cX2_saves 93 = .ok (.return_, 1) := by decide +kernel
set_option maxRecDepth 20000 in
theorem ggX2_undo_X2_fails : GoodIn wsX2_undo wsX2_fails := goodIn_r _ [9, 1, 10, 11, 12, 13, 14, 15, 16, 17, 18, 19, 20] (by decide +kernel) (by decide +kernel)
set_option maxRecDepth 20000 in
theorem gX2_undo_X2_fails : GoodIn wsX2_undo (wsV RX2 36 RX2 yX2_fails wsX2_fails) := goodIn_app (goodIn_of _ (by decide +kernel)) ggX2_undo_X2_fails
theorem dX2_undo_0 : decode cX2_undo 0 = .ok (.aload_n 0, 1) := by decide +kernel
theorem dX2_undo_1 : decode cX2_undo 1 = .ok (.iconst 0, 1) := by decide +kernel
theorem dX2_undo_2 : decode cX2_undo 2 = .ok (.putfield 25, 3) := by decide +kernel
theorem dX2_undo_5 : decode cX2_undo 5 = .ok (.aload_n 0, 1) := by decide +kernel
theorem dX2_undo_6 : decode cX2_undo 6 = .ok (.getfield 33, 3) := by decide +kernel
theorem dX2_undo_9 : decode cX2_undo 9 = .ok (.ifCond .ne 9, 3) := by decide +kernel
theorem dX2_undo_12 : decode cX2_undo 12 = .ok (.aload_n 0, 1) := by decide +kernel
theorem dX2_undo_13 : decode cX2_undo 13 = .ok (.iconst 1, 1) := by decide +kernel
theorem dX2_undo_14 : decode cX2_undo 14 = .ok (.invokevirtual 36, 3) := by decide +kernel
theorem dX2_undo_17 : decode cX2_undo 17 = .ok (.ireturn, 1) := by decide +kernel
theorem dX2_undo_18 : decode cX2_undo 18 = .ok (.aload_n 0, 1) := by decide +kernel
theorem dX2_undo_19 : decode cX2_undo 19 = .ok (.dup, 1) := by decide +kernel
theorem dX2_undo_20 : decode cX2_undo 20 = .ok (.getfield 33, 3) := by decide +kernel
theorem dX2_undo_23 : decode cX2_undo 23 = .ok (.iconst 1, 1) := by decide +kernel
theorem dX2_undo_24 : decode cX2_undo 24 = .ok (.isub, 1) := by decide +kernel
theorem dX2_undo_25 : decode cX2_undo 25 = .ok (.putfield 33, 3) := by decide +kernel
theorem dX2_undo_28 : decode cX2_undo 28 = .ok (.iconst 0, 1) := by decide +kernel
theorem dX2_undo_29 : decode cX2_undo 29 = .ok (.istore_n 1, 1) := by decide +kernel
theorem dX2_undo_30 : decode cX2_undo 30 = .ok (.iload_n 1, 1) := by decide +kernel
theorem dX2_undo_31 : decode cX2_undo 31 = .ok (.bipush 33, 2) := by decide +kernel
theorem dX2_undo_33 : decode cX2_undo 33 = .ok (.if_icmp .ge 29, 3) := by decide +kernel
theorem dX2_undo_36 : decode cX2_undo 36 = .ok (.aload_n 0, 1) := by decide +kernel
theorem dX2_undo_37 : decode cX2_undo 37 = .ok (.getfield 7, 3) := by decide +kernel
theorem dX2_undo_40 : decode cX2_undo 40 = .ok (.iload_n 1, 1) := by decide +kernel
theorem dX2_undo_41 : decode cX2_undo 41 = .ok (.aload_n 0, 1) := by decide +kernel
theorem dX2_undo_42 : decode cX2_undo 42 = .ok (.getfield 13, 3) := by decide +kernel
theorem dX2_undo_45 : decode cX2_undo 45 = .ok (.bipush 33, 2) := by decide +kernel
theorem dX2_undo_47 : decode cX2_undo 47 = .ok (.aload_n 0, 1) := by decide +kernel
theorem dX2_undo_48 : decode cX2_undo 48 = .ok (.getfield 33, 3) := by decide +kernel
theorem dX2_undo_51 : decode cX2_undo 51 = .ok (.imul, 1) := by decide +kernel
theorem dX2_undo_52 : decode cX2_undo 52 = .ok (.iload_n 1, 1) := by decide +kernel
theorem dX2_undo_53 : decode cX2_undo 53 = .ok (.iadd, 1) := by decide +kernel
theorem dX2_undo_54 : decode cX2_undo 54 = .ok (.iaload, 1) := by decide +kernel
theorem dX2_undo_55 : decode cX2_undo 55 = .ok (.iastore, 1) := by decide +kernel
theorem dX2_undo_56 : decode cX2_undo 56 = .ok (.iinc 1 1, 3) := by decide +kernel
theorem dX2_undo_59 : decode cX2_undo 59 = .ok (.goto (-29), 3) := by decide +kernel
theorem dX2_undo_62 : decode cX2_undo 62 = .ok (.aload_n 0, 1) := by decide +kernel
theorem dX2_undo_63 : decode cX2_undo 63 = .ok (.getfield 33, 3) := by decide +kernel
theorem dX2_undo_66 : decode cX2_undo 66 = .ok (.ireturn, 1) := by decide +kernel
theorem dX2_hours_0 : decode cX2_hours 0 = .ok (.aload_n 0, 1) := by decide +kernel
theorem dX2_hours_1 : decode cX2_hours 1 = .ok (.getfield 7, 3) := by decide +kernel
theorem dX2_hours_4 : decode cX2_hours 4 = .ok (.bipush 21, 2) := by decide +kernel
theorem dX2_hours_6 : decode cX2_hours 6 = .ok (.iconst 4, 1) := by decide +kernel
theorem dX2_hours_7 : decode cX2_hours 7 = .ok (.iload_n 1, 1) := by decide +kernel
theorem dX2_hours_8 : decode cX2_hours 8 = .ok (.imul, 1) := by decide +kernel
theorem dX2_hours_9 : decode cX2_hours 9 = .ok (.iadd, 1) := by decide +kernel
theorem dX2_hours_10 : decode cX2_hours 10 = .ok (.iaload, 1) := by decide +kernel
theorem dX2_hours_11 : decode cX2_hours 11 = .ok (.ireturn, 1) := by decide +kernel
theorem dX2_goes_0 : decode cX2_goes 0 = .ok (.aload_n 0, 1) := by decide +kernel
theorem dX2_goes_1 : decode cX2_goes 1 = .ok (.getfield 7, 3) := by decide +kernel
theorem dX2_goes_4 : decode cX2_goes 4 = .ok (.bipush 21, 2) := by decide +kernel
theorem dX2_goes_6 : decode cX2_goes 6 = .ok (.iconst 4, 1) := by decide +kernel
theorem dX2_goes_7 : decode cX2_goes 7 = .ok (.iload_n 1, 1) := by decide +kernel
theorem dX2_goes_8 : decode cX2_goes 8 = .ok (.imul, 1) := by decide +kernel
theorem dX2_goes_9 : decode cX2_goes 9 = .ok (.iadd, 1) := by decide +kernel
theorem dX2_goes_10 : decode cX2_goes 10 = .ok (.iconst 1, 1) := by decide +kernel
theorem dX2_goes_11 : decode cX2_goes 11 = .ok (.iadd, 1) := by decide +kernel
theorem dX2_goes_12 : decode cX2_goes 12 = .ok (.iaload, 1) := by decide +kernel
theorem dX2_goes_13 : decode cX2_goes 13 = .ok (.iconst 1, 1) := by decide +kernel
theorem dX2_goes_14 : decode cX2_goes 14 = .ok (.if_icmp .ne 7, 3) := by decide +kernel
theorem dX2_goes_17 : decode cX2_goes 17 = .ok (.iconst 1, 1) := by decide +kernel
theorem dX2_goes_18 : decode cX2_goes 18 = .ok (.goto 4, 3) := by decide +kernel
theorem dX2_goes_21 : decode cX2_goes 21 = .ok (.iconst 0, 1) := by decide +kernel
theorem dX2_goes_22 : decode cX2_goes 22 = .ok (.ireturn, 1) := by decide +kernel
theorem dX2_lossOf_0 : decode cX2_lossOf 0 = .ok (.aload_n 0, 1) := by decide +kernel
theorem dX2_lossOf_1 : decode cX2_lossOf 1 = .ok (.getfield 7, 3) := by decide +kernel
theorem dX2_lossOf_4 : decode cX2_lossOf 4 = .ok (.bipush 21, 2) := by decide +kernel
theorem dX2_lossOf_6 : decode cX2_lossOf 6 = .ok (.iconst 4, 1) := by decide +kernel
theorem dX2_lossOf_7 : decode cX2_lossOf 7 = .ok (.iload_n 1, 1) := by decide +kernel
theorem dX2_lossOf_8 : decode cX2_lossOf 8 = .ok (.imul, 1) := by decide +kernel
theorem dX2_lossOf_9 : decode cX2_lossOf 9 = .ok (.iadd, 1) := by decide +kernel
theorem dX2_lossOf_10 : decode cX2_lossOf 10 = .ok (.iconst 2, 1) := by decide +kernel
theorem dX2_lossOf_11 : decode cX2_lossOf 11 = .ok (.iadd, 1) := by decide +kernel
theorem dX2_lossOf_12 : decode cX2_lossOf 12 = .ok (.iaload, 1) := by decide +kernel
theorem dX2_lossOf_13 : decode cX2_lossOf 13 = .ok (.ireturn, 1) := by decide +kernel
theorem dX2_ran_0 : decode cX2_ran 0 = .ok (.aload_n 0, 1) := by decide +kernel
theorem dX2_ran_1 : decode cX2_ran 1 = .ok (.getfield 7, 3) := by decide +kernel
theorem dX2_ran_4 : decode cX2_ran 4 = .ok (.bipush 21, 2) := by decide +kernel
theorem dX2_ran_6 : decode cX2_ran 6 = .ok (.iconst 4, 1) := by decide +kernel
theorem dX2_ran_7 : decode cX2_ran 7 = .ok (.iload_n 1, 1) := by decide +kernel
theorem dX2_ran_8 : decode cX2_ran 8 = .ok (.imul, 1) := by decide +kernel
theorem dX2_ran_9 : decode cX2_ran 9 = .ok (.iadd, 1) := by decide +kernel
theorem dX2_ran_10 : decode cX2_ran 10 = .ok (.iconst 3, 1) := by decide +kernel
theorem dX2_ran_11 : decode cX2_ran 11 = .ok (.iadd, 1) := by decide +kernel
theorem dX2_ran_12 : decode cX2_ran 12 = .ok (.iaload, 1) := by decide +kernel
theorem dX2_ran_13 : decode cX2_ran 13 = .ok (.ireturn, 1) := by decide +kernel
theorem dX2_toOpening_0 : decode cX2_toOpening 0 = .ok (.iconst 1, 1) := by decide +kernel
theorem dX2_toOpening_1 : decode cX2_toOpening 1 = .ok (.istore_n 1, 1) := by decide +kernel
theorem dX2_toOpening_2 : decode cX2_toOpening 2 = .ok (.iload_n 1, 1) := by decide +kernel
theorem dX2_toOpening_3 : decode cX2_toOpening 3 = .ok (.sipush 168, 3) := by decide +kernel
theorem dX2_toOpening_6 : decode cX2_toOpening 6 = .ok (.if_icmp .gt 41, 3) := by decide +kernel
theorem dX2_toOpening_9 : decode cX2_toOpening 9 = .ok (.aload_n 0, 1) := by decide +kernel
theorem dX2_toOpening_10 : decode cX2_toOpening 10 = .ok (.getfield 7, 3) := by decide +kernel
theorem dX2_toOpening_13 : decode cX2_toOpening 13 = .ok (.iconst 0, 1) := by decide +kernel
theorem dX2_toOpening_14 : decode cX2_toOpening 14 = .ok (.iaload, 1) := by decide +kernel
theorem dX2_toOpening_15 : decode cX2_toOpening 15 = .ok (.iload_n 1, 1) := by decide +kernel
theorem dX2_toOpening_16 : decode cX2_toOpening 16 = .ok (.iadd, 1) := by decide +kernel
theorem dX2_toOpening_17 : decode cX2_toOpening 17 = .ok (.istore_n 2, 1) := by decide +kernel
theorem dX2_toOpening_18 : decode cX2_toOpening 18 = .ok (.aload_n 0, 1) := by decide +kernel
theorem dX2_toOpening_19 : decode cX2_toOpening 19 = .ok (.getfield 7, 3) := by decide +kernel
theorem dX2_toOpening_22 : decode cX2_toOpening 22 = .ok (.iconst 1, 1) := by decide +kernel
theorem dX2_toOpening_23 : decode cX2_toOpening 23 = .ok (.iload_n 2, 1) := by decide +kernel
theorem dX2_toOpening_24 : decode cX2_toOpening 24 = .ok (.bipush 24, 2) := by decide +kernel
theorem dX2_toOpening_26 : decode cX2_toOpening 26 = .ok (.idiv, 1) := by decide +kernel
theorem dX2_toOpening_27 : decode cX2_toOpening 27 = .ok (.bipush 7, 2) := by decide +kernel
theorem dX2_toOpening_29 : decode cX2_toOpening 29 = .ok (.irem, 1) := by decide +kernel
theorem dX2_toOpening_30 : decode cX2_toOpening 30 = .ok (.iadd, 1) := by decide +kernel
theorem dX2_toOpening_31 : decode cX2_toOpening 31 = .ok (.iaload, 1) := by decide +kernel
theorem dX2_toOpening_32 : decode cX2_toOpening 32 = .ok (.iload_n 2, 1) := by decide +kernel
theorem dX2_toOpening_33 : decode cX2_toOpening 33 = .ok (.bipush 24, 2) := by decide +kernel
theorem dX2_toOpening_35 : decode cX2_toOpening 35 = .ok (.irem, 1) := by decide +kernel
theorem dX2_toOpening_36 : decode cX2_toOpening 36 = .ok (.if_icmp .ne 5, 3) := by decide +kernel
theorem dX2_toOpening_39 : decode cX2_toOpening 39 = .ok (.iload_n 1, 1) := by decide +kernel
theorem dX2_toOpening_40 : decode cX2_toOpening 40 = .ok (.ireturn, 1) := by decide +kernel
theorem dX2_toOpening_41 : decode cX2_toOpening 41 = .ok (.iinc 1 1, 3) := by decide +kernel
theorem dX2_toOpening_44 : decode cX2_toOpening 44 = .ok (.goto (-42), 3) := by decide +kernel
theorem dX2_toOpening_47 : decode cX2_toOpening 47 = .ok (.iconst (-1), 1) := by decide +kernel
theorem dX2_toOpening_48 : decode cX2_toOpening 48 = .ok (.ireturn, 1) := by decide +kernel
set_option maxRecDepth 20000 in
theorem ggX2_downIn_X2_goes : GoodIn wsX2_downIn wsX2_goes := goodIn_r _ [5, 6, 15, 16, 17, 18, 19, 20, 21, 22, 23, 24, 25] (by decide +kernel) (by decide +kernel)
set_option maxRecDepth 20000 in
theorem gX2_downIn_X2_goes : GoodIn wsX2_downIn (wsV RX2 40 RX2 yX2_goes wsX2_goes) := goodIn_app (goodIn_of _ (by decide +kernel)) ggX2_downIn_X2_goes
set_option maxRecDepth 20000 in
theorem ggX2_downIn_X2_lossOf : GoodIn wsX2_downIn wsX2_lossOf := goodIn_r _ [10, 6, 15, 16, 17, 18, 19, 20, 21, 22, 23, 24, 25] (by decide +kernel) (by decide +kernel)
set_option maxRecDepth 20000 in
theorem gX2_downIn_X2_lossOf : GoodIn wsX2_downIn (wsV RX2 44 RX2 yX2_lossOf wsX2_lossOf) := goodIn_app (goodIn_of _ (by decide +kernel)) ggX2_downIn_X2_lossOf
set_option maxRecDepth 20000 in
theorem ggX2_downIn_X2_ran : GoodIn wsX2_downIn wsX2_ran := goodIn_r _ [14, 6, 15, 16, 17, 18, 19, 20, 21, 22, 23, 24, 25] (by decide +kernel) (by decide +kernel)
set_option maxRecDepth 20000 in
theorem gX2_downIn_X2_ran : GoodIn wsX2_downIn (wsV RX2 47 RX2 yX2_ran wsX2_ran) := goodIn_app (goodIn_of _ (by decide +kernel)) ggX2_downIn_X2_ran
theorem dX2_downIn_0 : decode cX2_downIn 0 = .ok (.iload_n 2, 1) := by decide +kernel
theorem dX2_downIn_1 : decode cX2_downIn 1 = .ok (.ifCond .ne 5, 3) := by decide +kernel
theorem dX2_downIn_4 : decode cX2_downIn 4 = .ok (.iconst 0, 1) := by decide +kernel
theorem dX2_downIn_5 : decode cX2_downIn 5 = .ok (.ireturn, 1) := by decide +kernel
theorem dX2_downIn_6 : decode cX2_downIn 6 = .ok (.aload_n 0, 1) := by decide +kernel
theorem dX2_downIn_7 : decode cX2_downIn 7 = .ok (.iload_n 1, 1) := by decide +kernel
theorem dX2_downIn_8 : decode cX2_downIn 8 = .ok (.invokevirtual 40, 3) := by decide +kernel
theorem dX2_downIn_11 : decode cX2_downIn 11 = .ok (.ifCond .eq 12, 3) := by decide +kernel
theorem dX2_downIn_14 : decode cX2_downIn 14 = .ok (.aload_n 0, 1) := by decide +kernel
theorem dX2_downIn_15 : decode cX2_downIn 15 = .ok (.iload_n 1, 1) := by decide +kernel
theorem dX2_downIn_16 : decode cX2_downIn 16 = .ok (.invokevirtual 44, 3) := by decide +kernel
theorem dX2_downIn_19 : decode cX2_downIn 19 = .ok (.iconst 1, 1) := by decide +kernel
theorem dX2_downIn_20 : decode cX2_downIn 20 = .ok (.if_icmp .ne 5, 3) := by decide +kernel
theorem dX2_downIn_23 : decode cX2_downIn 23 = .ok (.iconst (-1), 1) := by decide +kernel
theorem dX2_downIn_24 : decode cX2_downIn 24 = .ok (.ireturn, 1) := by decide +kernel
theorem dX2_downIn_25 : decode cX2_downIn 25 = .ok (.iload_n 2, 1) := by decide +kernel
theorem dX2_downIn_26 : decode cX2_downIn 26 = .ok (.istore_n 3, 1) := by decide +kernel
theorem dX2_downIn_27 : decode cX2_downIn 27 = .ok (.iconst 0, 1) := by decide +kernel
theorem dX2_downIn_28 : decode cX2_downIn 28 = .ok (.istore 4, 2) := by decide +kernel
theorem dX2_downIn_30 : decode cX2_downIn 30 = .ok (.iload_n 3, 1) := by decide +kernel
theorem dX2_downIn_31 : decode cX2_downIn 31 = .ok (.ifCond .le 54, 3) := by decide +kernel
theorem dX2_downIn_34 : decode cX2_downIn 34 = .ok (.iinc 4 1, 3) := by decide +kernel
theorem dX2_downIn_37 : decode cX2_downIn 37 = .ok (.aload_n 0, 1) := by decide +kernel
theorem dX2_downIn_38 : decode cX2_downIn 38 = .ok (.iload_n 1, 1) := by decide +kernel
theorem dX2_downIn_39 : decode cX2_downIn 39 = .ok (.invokevirtual 44, 3) := by decide +kernel
theorem dX2_downIn_42 : decode cX2_downIn 42 = .ok (.ifCond .le 24, 3) := by decide +kernel
theorem dX2_downIn_45 : decode cX2_downIn 45 = .ok (.aload_n 0, 1) := by decide +kernel
theorem dX2_downIn_46 : decode cX2_downIn 46 = .ok (.iload_n 1, 1) := by decide +kernel
theorem dX2_downIn_47 : decode cX2_downIn 47 = .ok (.invokevirtual 47, 3) := by decide +kernel
theorem dX2_downIn_50 : decode cX2_downIn 50 = .ok (.iload 4, 2) := by decide +kernel
theorem dX2_downIn_52 : decode cX2_downIn 52 = .ok (.iadd, 1) := by decide +kernel
theorem dX2_downIn_53 : decode cX2_downIn 53 = .ok (.aload_n 0, 1) := by decide +kernel
theorem dX2_downIn_54 : decode cX2_downIn 54 = .ok (.iload_n 1, 1) := by decide +kernel
theorem dX2_downIn_55 : decode cX2_downIn 55 = .ok (.invokevirtual 44, 3) := by decide +kernel
theorem dX2_downIn_58 : decode cX2_downIn 58 = .ok (.irem, 1) := by decide +kernel
theorem dX2_downIn_59 : decode cX2_downIn 59 = .ok (.ifCond .ne 7, 3) := by decide +kernel
theorem dX2_downIn_62 : decode cX2_downIn 62 = .ok (.iconst 1, 1) := by decide +kernel
theorem dX2_downIn_63 : decode cX2_downIn 63 = .ok (.goto 4, 3) := by decide +kernel
theorem dX2_downIn_66 : decode cX2_downIn 66 = .ok (.iconst 0, 1) := by decide +kernel
theorem dX2_downIn_67 : decode cX2_downIn 67 = .ok (.istore 5, 2) := by decide +kernel
theorem dX2_downIn_69 : decode cX2_downIn 69 = .ok (.iload_n 3, 1) := by decide +kernel
theorem dX2_downIn_70 : decode cX2_downIn 70 = .ok (.iload 5, 2) := by decide +kernel
theorem dX2_downIn_72 : decode cX2_downIn 72 = .ok (.ifCond .eq 7, 3) := by decide +kernel
theorem dX2_downIn_75 : decode cX2_downIn 75 = .ok (.iconst 0, 1) := by decide +kernel
theorem dX2_downIn_76 : decode cX2_downIn 76 = .ok (.goto 4, 3) := by decide +kernel
theorem dX2_downIn_79 : decode cX2_downIn 79 = .ok (.iconst 1, 1) := by decide +kernel
theorem dX2_downIn_80 : decode cX2_downIn 80 = .ok (.isub, 1) := by decide +kernel
theorem dX2_downIn_81 : decode cX2_downIn 81 = .ok (.istore_n 3, 1) := by decide +kernel
theorem dX2_downIn_82 : decode cX2_downIn 82 = .ok (.goto (-52), 3) := by decide +kernel
theorem dX2_downIn_85 : decode cX2_downIn 85 = .ok (.iload 4, 2) := by decide +kernel
theorem dX2_downIn_87 : decode cX2_downIn 87 = .ok (.ireturn, 1) := by decide +kernel
theorem dX2_waits_0 : decode cX2_waits 0 = .ok (.aload_n 0, 1) := by decide +kernel
theorem dX2_waits_1 : decode cX2_waits 1 = .ok (.getfield 7, 3) := by decide +kernel
theorem dX2_waits_4 : decode cX2_waits 4 = .ok (.bipush 14, 2) := by decide +kernel
theorem dX2_waits_6 : decode cX2_waits 6 = .ok (.iaload, 1) := by decide +kernel
theorem dX2_waits_7 : decode cX2_waits 7 = .ok (.aload_n 0, 1) := by decide +kernel
theorem dX2_waits_8 : decode cX2_waits 8 = .ok (.getfield 7, 3) := by decide +kernel
theorem dX2_waits_11 : decode cX2_waits 11 = .ok (.iconst 0, 1) := by decide +kernel
theorem dX2_waits_12 : decode cX2_waits 12 = .ok (.iaload, 1) := by decide +kernel
theorem dX2_waits_13 : decode cX2_waits 13 = .ok (.isub, 1) := by decide +kernel
theorem dX2_waits_14 : decode cX2_waits 14 = .ok (.istore_n 1, 1) := by decide +kernel
theorem dX2_waits_15 : decode cX2_waits 15 = .ok (.aload_n 0, 1) := by decide +kernel
theorem dX2_waits_16 : decode cX2_waits 16 = .ok (.getfield 7, 3) := by decide +kernel
theorem dX2_waits_19 : decode cX2_waits 19 = .ok (.bipush 11, 2) := by decide +kernel
theorem dX2_waits_21 : decode cX2_waits 21 = .ok (.iaload, 1) := by decide +kernel
theorem dX2_waits_22 : decode cX2_waits 22 = .ok (.iconst 1, 1) := by decide +kernel
theorem dX2_waits_23 : decode cX2_waits 23 = .ok (.if_icmp .ne 11, 3) := by decide +kernel
theorem dX2_waits_26 : decode cX2_waits 26 = .ok (.iload_n 1, 1) := by decide +kernel
theorem dX2_waits_27 : decode cX2_waits 27 = .ok (.ifCond .le 7, 3) := by decide +kernel
theorem dX2_waits_30 : decode cX2_waits 30 = .ok (.iload_n 1, 1) := by decide +kernel
theorem dX2_waits_31 : decode cX2_waits 31 = .ok (.goto 4, 3) := by decide +kernel
theorem dX2_waits_34 : decode cX2_waits 34 = .ok (.iconst 0, 1) := by decide +kernel
theorem dX2_waits_35 : decode cX2_waits 35 = .ok (.ireturn, 1) := by decide +kernel
set_option maxRecDepth 20000 in
theorem ggX2_opensBut_X2_hours : GoodIn wsX2_opensBut wsX2_hours := goodIn_r _ [7, 2, 28, 29, 30, 31, 32, 33, 34, 35, 36, 37, 38] (by decide +kernel) (by decide +kernel)
set_option maxRecDepth 20000 in
theorem gX2_opensBut_X2_hours : GoodIn wsX2_opensBut (wsV RX2 51 RX2 yX2_hours wsX2_hours) := goodIn_app (goodIn_of _ (by decide +kernel)) ggX2_opensBut_X2_hours
set_option maxRecDepth 20000 in
theorem ggX2_opensBut_X2_downIn : GoodIn wsX2_opensBut wsX2_downIn := goodIn_r _ [11, 12, 13, 14, 6, 15, 2, 16, 17, 18, 19, 20, 21, 22, 23, 28, 29, 30, 31, 32, 33, 34, 35, 36, 37, 38] (by decide +kernel) (by decide +kernel)
set_option maxRecDepth 20000 in
theorem gX2_opensBut_X2_downIn : GoodIn wsX2_opensBut (wsV RX2 54 RX2 yX2_downIn wsX2_downIn) := goodIn_app (goodIn_of _ (by decide +kernel)) ggX2_opensBut_X2_downIn
set_option maxRecDepth 20000 in
theorem ggX2_opensBut_X2_waits : GoodIn wsX2_opensBut wsX2_waits := goodIn_r _ [27, 2, 28, 29, 30, 31, 32, 33, 34, 35, 36, 37, 38] (by decide +kernel) (by decide +kernel)
set_option maxRecDepth 20000 in
theorem gX2_opensBut_X2_waits : GoodIn wsX2_opensBut (wsV RX2 58 RX2 yX2_waits wsX2_waits) := goodIn_app (goodIn_of _ (by decide +kernel)) ggX2_opensBut_X2_waits
theorem dX2_opensBut_0 : decode cX2_opensBut 0 = .ok (.ldc 50, 2) := by decide +kernel
theorem dX2_opensBut_2 : decode cX2_opensBut 2 = .ok (.istore_n 2, 1) := by decide +kernel
theorem dX2_opensBut_3 : decode cX2_opensBut 3 = .ok (.iconst 0, 1) := by decide +kernel
theorem dX2_opensBut_4 : decode cX2_opensBut 4 = .ok (.istore_n 3, 1) := by decide +kernel
theorem dX2_opensBut_5 : decode cX2_opensBut 5 = .ok (.iload_n 3, 1) := by decide +kernel
theorem dX2_opensBut_6 : decode cX2_opensBut 6 = .ok (.iconst 3, 1) := by decide +kernel
theorem dX2_opensBut_7 : decode cX2_opensBut 7 = .ok (.if_icmp .ge 56, 3) := by decide +kernel
theorem dX2_opensBut_10 : decode cX2_opensBut 10 = .ok (.iload_n 3, 1) := by decide +kernel
theorem dX2_opensBut_11 : decode cX2_opensBut 11 = .ok (.iload_n 1, 1) := by decide +kernel
theorem dX2_opensBut_12 : decode cX2_opensBut 12 = .ok (.if_icmp .ne 15, 3) := by decide +kernel
theorem dX2_opensBut_15 : decode cX2_opensBut 15 = .ok (.aload_n 0, 1) := by decide +kernel
theorem dX2_opensBut_16 : decode cX2_opensBut 16 = .ok (.iload_n 3, 1) := by decide +kernel
theorem dX2_opensBut_17 : decode cX2_opensBut 17 = .ok (.invokevirtual 51, 3) := by decide +kernel
theorem dX2_opensBut_20 : decode cX2_opensBut 20 = .ok (.ifCond .le 7, 3) := by decide +kernel
theorem dX2_opensBut_23 : decode cX2_opensBut 23 = .ok (.iconst (-1), 1) := by decide +kernel
theorem dX2_opensBut_24 : decode cX2_opensBut 24 = .ok (.goto 13, 3) := by decide +kernel
theorem dX2_opensBut_27 : decode cX2_opensBut 27 = .ok (.aload_n 0, 1) := by decide +kernel
theorem dX2_opensBut_28 : decode cX2_opensBut 28 = .ok (.iload_n 3, 1) := by decide +kernel
theorem dX2_opensBut_29 : decode cX2_opensBut 29 = .ok (.aload_n 0, 1) := by decide +kernel
theorem dX2_opensBut_30 : decode cX2_opensBut 30 = .ok (.iload_n 3, 1) := by decide +kernel
theorem dX2_opensBut_31 : decode cX2_opensBut 31 = .ok (.invokevirtual 51, 3) := by decide +kernel
theorem dX2_opensBut_34 : decode cX2_opensBut 34 = .ok (.invokevirtual 54, 3) := by decide +kernel
theorem dX2_opensBut_37 : decode cX2_opensBut 37 = .ok (.istore 4, 2) := by decide +kernel
theorem dX2_opensBut_39 : decode cX2_opensBut 39 = .ok (.iload 4, 2) := by decide +kernel
theorem dX2_opensBut_41 : decode cX2_opensBut 41 = .ok (.ifCond .lt 14, 3) := by decide +kernel
theorem dX2_opensBut_44 : decode cX2_opensBut 44 = .ok (.iload 4, 2) := by decide +kernel
theorem dX2_opensBut_46 : decode cX2_opensBut 46 = .ok (.iload_n 2, 1) := by decide +kernel
theorem dX2_opensBut_47 : decode cX2_opensBut 47 = .ok (.if_icmp .ge 8, 3) := by decide +kernel
theorem dX2_opensBut_50 : decode cX2_opensBut 50 = .ok (.iload 4, 2) := by decide +kernel
theorem dX2_opensBut_52 : decode cX2_opensBut 52 = .ok (.goto 4, 3) := by decide +kernel
theorem dX2_opensBut_55 : decode cX2_opensBut 55 = .ok (.iload_n 2, 1) := by decide +kernel
theorem dX2_opensBut_56 : decode cX2_opensBut 56 = .ok (.istore_n 2, 1) := by decide +kernel
theorem dX2_opensBut_57 : decode cX2_opensBut 57 = .ok (.iinc 3 1, 3) := by decide +kernel
theorem dX2_opensBut_60 : decode cX2_opensBut 60 = .ok (.goto (-55), 3) := by decide +kernel
theorem dX2_opensBut_63 : decode cX2_opensBut 63 = .ok (.aload_n 0, 1) := by decide +kernel
theorem dX2_opensBut_64 : decode cX2_opensBut 64 = .ok (.getfield 7, 3) := by decide +kernel
theorem dX2_opensBut_67 : decode cX2_opensBut 67 = .ok (.bipush 11, 2) := by decide +kernel
theorem dX2_opensBut_69 : decode cX2_opensBut 69 = .ok (.iaload, 1) := by decide +kernel
theorem dX2_opensBut_70 : decode cX2_opensBut 70 = .ok (.ifCond .eq 9, 3) := by decide +kernel
theorem dX2_opensBut_73 : decode cX2_opensBut 73 = .ok (.iload_n 2, 1) := by decide +kernel
theorem dX2_opensBut_74 : decode cX2_opensBut 74 = .ok (.ldc 50, 2) := by decide +kernel
theorem dX2_opensBut_76 : decode cX2_opensBut 76 = .ok (.if_icmp .ne 5, 3) := by decide +kernel
theorem dX2_opensBut_79 : decode cX2_opensBut 79 = .ok (.iconst (-1), 1) := by decide +kernel
theorem dX2_opensBut_80 : decode cX2_opensBut 80 = .ok (.ireturn, 1) := by decide +kernel
theorem dX2_opensBut_81 : decode cX2_opensBut 81 = .ok (.iload_n 2, 1) := by decide +kernel
theorem dX2_opensBut_82 : decode cX2_opensBut 82 = .ok (.aload_n 0, 1) := by decide +kernel
theorem dX2_opensBut_83 : decode cX2_opensBut 83 = .ok (.invokevirtual 58, 3) := by decide +kernel
theorem dX2_opensBut_86 : decode cX2_opensBut 86 = .ok (.if_icmp .le 7, 3) := by decide +kernel
theorem dX2_opensBut_89 : decode cX2_opensBut 89 = .ok (.iload_n 2, 1) := by decide +kernel
theorem dX2_opensBut_90 : decode cX2_opensBut 90 = .ok (.goto 7, 3) := by decide +kernel
theorem dX2_opensBut_93 : decode cX2_opensBut 93 = .ok (.aload_n 0, 1) := by decide +kernel
theorem dX2_opensBut_94 : decode cX2_opensBut 94 = .ok (.invokevirtual 58, 3) := by decide +kernel
theorem dX2_opensBut_97 : decode cX2_opensBut 97 = .ok (.ireturn, 1) := by decide +kernel
set_option maxRecDepth 20000 in
theorem ggX2_hourGoes_X2_goes : GoodIn wsX2_hourGoes wsX2_goes := goodIn_r _ [6, 1, 19, 20, 21, 22, 23, 24, 25, 26, 27, 28, 29] (by decide +kernel) (by decide +kernel)
set_option maxRecDepth 20000 in
theorem gX2_hourGoes_X2_goes : GoodIn wsX2_hourGoes (wsV RX2 40 RX2 yX2_goes wsX2_goes) := goodIn_app (goodIn_of _ (by decide +kernel)) ggX2_hourGoes_X2_goes
set_option maxRecDepth 20000 in
theorem ggX2_hourGoes_X2_hours : GoodIn wsX2_hourGoes wsX2_hours := goodIn_r _ [10, 1, 19, 20, 21, 22, 23, 24, 25, 26, 27, 28, 29] (by decide +kernel) (by decide +kernel)
set_option maxRecDepth 20000 in
theorem gX2_hourGoes_X2_hours : GoodIn wsX2_hourGoes (wsV RX2 51 RX2 yX2_hours wsX2_hours) := goodIn_app (goodIn_of _ (by decide +kernel)) ggX2_hourGoes_X2_hours
set_option maxRecDepth 20000 in
theorem ggX2_hourGoes_X2_lossOf : GoodIn wsX2_hourGoes wsX2_lossOf := goodIn_r _ [14, 1, 19, 20, 21, 22, 23, 24, 25, 26, 27, 28, 29] (by decide +kernel) (by decide +kernel)
set_option maxRecDepth 20000 in
theorem gX2_hourGoes_X2_lossOf : GoodIn wsX2_hourGoes (wsV RX2 44 RX2 yX2_lossOf wsX2_lossOf) := goodIn_app (goodIn_of _ (by decide +kernel)) ggX2_hourGoes_X2_lossOf
set_option maxRecDepth 20000 in
theorem ggX2_hourGoes_X2_ran : GoodIn wsX2_hourGoes wsX2_ran := goodIn_r _ [18, 1, 19, 20, 21, 22, 23, 24, 25, 26, 27, 28, 29] (by decide +kernel) (by decide +kernel)
set_option maxRecDepth 20000 in
theorem gX2_hourGoes_X2_ran : GoodIn wsX2_hourGoes (wsV RX2 47 RX2 yX2_ran wsX2_ran) := goodIn_app (goodIn_of _ (by decide +kernel)) ggX2_hourGoes_X2_ran
theorem dX2_hourGoes_0 : decode cX2_hourGoes 0 = .ok (.iconst 0, 1) := by decide +kernel
theorem dX2_hourGoes_1 : decode cX2_hourGoes 1 = .ok (.istore_n 1, 1) := by decide +kernel
theorem dX2_hourGoes_2 : decode cX2_hourGoes 2 = .ok (.iload_n 1, 1) := by decide +kernel
theorem dX2_hourGoes_3 : decode cX2_hourGoes 3 = .ok (.iconst 3, 1) := by decide +kernel
theorem dX2_hourGoes_4 : decode cX2_hourGoes 4 = .ok (.if_icmp .ge 104, 3) := by decide +kernel
theorem dX2_hourGoes_7 : decode cX2_hourGoes 7 = .ok (.aload_n 0, 1) := by decide +kernel
theorem dX2_hourGoes_8 : decode cX2_hourGoes 8 = .ok (.getfield 7, 3) := by decide +kernel
theorem dX2_hourGoes_11 : decode cX2_hourGoes 11 = .ok (.bipush 11, 2) := by decide +kernel
theorem dX2_hourGoes_13 : decode cX2_hourGoes 13 = .ok (.iaload, 1) := by decide +kernel
theorem dX2_hourGoes_14 : decode cX2_hourGoes 14 = .ok (.iconst 1, 1) := by decide +kernel
theorem dX2_hourGoes_15 : decode cX2_hourGoes 15 = .ok (.if_icmp .ne 93, 3) := by decide +kernel
theorem dX2_hourGoes_18 : decode cX2_hourGoes 18 = .ok (.aload_n 0, 1) := by decide +kernel
theorem dX2_hourGoes_19 : decode cX2_hourGoes 19 = .ok (.iload_n 1, 1) := by decide +kernel
theorem dX2_hourGoes_20 : decode cX2_hourGoes 20 = .ok (.invokevirtual 40, 3) := by decide +kernel
theorem dX2_hourGoes_23 : decode cX2_hourGoes 23 = .ok (.ifCond .eq 79, 3) := by decide +kernel
theorem dX2_hourGoes_26 : decode cX2_hourGoes 26 = .ok (.aload_n 0, 1) := by decide +kernel
theorem dX2_hourGoes_27 : decode cX2_hourGoes 27 = .ok (.iload_n 1, 1) := by decide +kernel
theorem dX2_hourGoes_28 : decode cX2_hourGoes 28 = .ok (.invokevirtual 51, 3) := by decide +kernel
theorem dX2_hourGoes_31 : decode cX2_hourGoes 31 = .ok (.ifCond .le 71, 3) := by decide +kernel
theorem dX2_hourGoes_34 : decode cX2_hourGoes 34 = .ok (.aload_n 0, 1) := by decide +kernel
theorem dX2_hourGoes_35 : decode cX2_hourGoes 35 = .ok (.getfield 7, 3) := by decide +kernel
theorem dX2_hourGoes_38 : decode cX2_hourGoes 38 = .ok (.bipush 21, 2) := by decide +kernel
theorem dX2_hourGoes_40 : decode cX2_hourGoes 40 = .ok (.iconst 4, 1) := by decide +kernel
theorem dX2_hourGoes_41 : decode cX2_hourGoes 41 = .ok (.iload_n 1, 1) := by decide +kernel
theorem dX2_hourGoes_42 : decode cX2_hourGoes 42 = .ok (.imul, 1) := by decide +kernel
theorem dX2_hourGoes_43 : decode cX2_hourGoes 43 = .ok (.iadd, 1) := by decide +kernel
theorem dX2_hourGoes_44 : decode cX2_hourGoes 44 = .ok (.iconst 3, 1) := by decide +kernel
theorem dX2_hourGoes_45 : decode cX2_hourGoes 45 = .ok (.iadd, 1) := by decide +kernel
theorem dX2_hourGoes_46 : decode cX2_hourGoes 46 = .ok (.dup2, 1) := by decide +kernel
theorem dX2_hourGoes_47 : decode cX2_hourGoes 47 = .ok (.iaload, 1) := by decide +kernel
theorem dX2_hourGoes_48 : decode cX2_hourGoes 48 = .ok (.iconst 1, 1) := by decide +kernel
theorem dX2_hourGoes_49 : decode cX2_hourGoes 49 = .ok (.iadd, 1) := by decide +kernel
theorem dX2_hourGoes_50 : decode cX2_hourGoes 50 = .ok (.iastore, 1) := by decide +kernel
theorem dX2_hourGoes_51 : decode cX2_hourGoes 51 = .ok (.aload_n 0, 1) := by decide +kernel
theorem dX2_hourGoes_52 : decode cX2_hourGoes 52 = .ok (.iload_n 1, 1) := by decide +kernel
theorem dX2_hourGoes_53 : decode cX2_hourGoes 53 = .ok (.invokevirtual 44, 3) := by decide +kernel
theorem dX2_hourGoes_56 : decode cX2_hourGoes 56 = .ok (.ifCond .le 21, 3) := by decide +kernel
theorem dX2_hourGoes_59 : decode cX2_hourGoes 59 = .ok (.aload_n 0, 1) := by decide +kernel
theorem dX2_hourGoes_60 : decode cX2_hourGoes 60 = .ok (.iload_n 1, 1) := by decide +kernel
theorem dX2_hourGoes_61 : decode cX2_hourGoes 61 = .ok (.invokevirtual 47, 3) := by decide +kernel
theorem dX2_hourGoes_64 : decode cX2_hourGoes 64 = .ok (.aload_n 0, 1) := by decide +kernel
theorem dX2_hourGoes_65 : decode cX2_hourGoes 65 = .ok (.iload_n 1, 1) := by decide +kernel
theorem dX2_hourGoes_66 : decode cX2_hourGoes 66 = .ok (.invokevirtual 44, 3) := by decide +kernel
theorem dX2_hourGoes_69 : decode cX2_hourGoes 69 = .ok (.irem, 1) := by decide +kernel
theorem dX2_hourGoes_70 : decode cX2_hourGoes 70 = .ok (.ifCond .ne 7, 3) := by decide +kernel
theorem dX2_hourGoes_73 : decode cX2_hourGoes 73 = .ok (.iconst 1, 1) := by decide +kernel
theorem dX2_hourGoes_74 : decode cX2_hourGoes 74 = .ok (.goto 4, 3) := by decide +kernel
theorem dX2_hourGoes_77 : decode cX2_hourGoes 77 = .ok (.iconst 0, 1) := by decide +kernel
theorem dX2_hourGoes_78 : decode cX2_hourGoes 78 = .ok (.istore_n 2, 1) := by decide +kernel
theorem dX2_hourGoes_79 : decode cX2_hourGoes 79 = .ok (.aload_n 0, 1) := by decide +kernel
theorem dX2_hourGoes_80 : decode cX2_hourGoes 80 = .ok (.getfield 7, 3) := by decide +kernel
theorem dX2_hourGoes_83 : decode cX2_hourGoes 83 = .ok (.bipush 21, 2) := by decide +kernel
theorem dX2_hourGoes_85 : decode cX2_hourGoes 85 = .ok (.iconst 4, 1) := by decide +kernel
theorem dX2_hourGoes_86 : decode cX2_hourGoes 86 = .ok (.iload_n 1, 1) := by decide +kernel
theorem dX2_hourGoes_87 : decode cX2_hourGoes 87 = .ok (.imul, 1) := by decide +kernel
theorem dX2_hourGoes_88 : decode cX2_hourGoes 88 = .ok (.iadd, 1) := by decide +kernel
theorem dX2_hourGoes_89 : decode cX2_hourGoes 89 = .ok (.dup2, 1) := by decide +kernel
theorem dX2_hourGoes_90 : decode cX2_hourGoes 90 = .ok (.iaload, 1) := by decide +kernel
theorem dX2_hourGoes_91 : decode cX2_hourGoes 91 = .ok (.iload_n 2, 1) := by decide +kernel
theorem dX2_hourGoes_92 : decode cX2_hourGoes 92 = .ok (.ifCond .eq 7, 3) := by decide +kernel
theorem dX2_hourGoes_95 : decode cX2_hourGoes 95 = .ok (.iconst 0, 1) := by decide +kernel
theorem dX2_hourGoes_96 : decode cX2_hourGoes 96 = .ok (.goto 4, 3) := by decide +kernel
theorem dX2_hourGoes_99 : decode cX2_hourGoes 99 = .ok (.iconst 1, 1) := by decide +kernel
theorem dX2_hourGoes_100 : decode cX2_hourGoes 100 = .ok (.isub, 1) := by decide +kernel
theorem dX2_hourGoes_101 : decode cX2_hourGoes 101 = .ok (.iastore, 1) := by decide +kernel
theorem dX2_hourGoes_102 : decode cX2_hourGoes 102 = .ok (.iinc 1 1, 3) := by decide +kernel
theorem dX2_hourGoes_105 : decode cX2_hourGoes 105 = .ok (.goto (-103), 3) := by decide +kernel
theorem dX2_hourGoes_108 : decode cX2_hourGoes 108 = .ok (.aload_n 0, 1) := by decide +kernel
theorem dX2_hourGoes_109 : decode cX2_hourGoes 109 = .ok (.getfield 7, 3) := by decide +kernel
theorem dX2_hourGoes_112 : decode cX2_hourGoes 112 = .ok (.iconst 0, 1) := by decide +kernel
theorem dX2_hourGoes_113 : decode cX2_hourGoes 113 = .ok (.dup2, 1) := by decide +kernel
theorem dX2_hourGoes_114 : decode cX2_hourGoes 114 = .ok (.iaload, 1) := by decide +kernel
theorem dX2_hourGoes_115 : decode cX2_hourGoes 115 = .ok (.iconst 1, 1) := by decide +kernel
theorem dX2_hourGoes_116 : decode cX2_hourGoes 116 = .ok (.iadd, 1) := by decide +kernel
theorem dX2_hourGoes_117 : decode cX2_hourGoes 117 = .ok (.iastore, 1) := by decide +kernel
theorem dX2_hourGoes_118 : decode cX2_hourGoes 118 = .ok (.return_, 1) := by decide +kernel
theorem dX2_changes_0 : decode cX2_changes 0 = .ok (.aload_n 0, 1) := by decide +kernel
theorem dX2_changes_1 : decode cX2_changes 1 = .ok (.getfield 7, 3) := by decide +kernel
theorem dX2_changes_4 : decode cX2_changes 4 = .ok (.iload_n 1, 1) := by decide +kernel
theorem dX2_changes_5 : decode cX2_changes 5 = .ok (.iaload, 1) := by decide +kernel
theorem dX2_changes_6 : decode cX2_changes 6 = .ok (.istore_n 3, 1) := by decide +kernel
theorem dX2_changes_7 : decode cX2_changes 7 = .ok (.aload_n 0, 1) := by decide +kernel
theorem dX2_changes_8 : decode cX2_changes 8 = .ok (.getfield 7, 3) := by decide +kernel
theorem dX2_changes_11 : decode cX2_changes 11 = .ok (.iload_n 1, 1) := by decide +kernel
theorem dX2_changes_12 : decode cX2_changes 12 = .ok (.iload_n 2, 1) := by decide +kernel
theorem dX2_changes_13 : decode cX2_changes 13 = .ok (.iastore, 1) := by decide +kernel
theorem dX2_changes_14 : decode cX2_changes 14 = .ok (.iload_n 3, 1) := by decide +kernel
theorem dX2_changes_15 : decode cX2_changes 15 = .ok (.ireturn, 1) := by decide +kernel
set_option maxRecDepth 20000 in
theorem ggX2_opening_X2_isDay : GoodIn wsX2_opening wsX2_isDay := goodIn_r _ [5, 6, 7, 4, 8] (by decide +kernel) (by decide +kernel)
set_option maxRecDepth 20000 in
theorem gX2_opening_X2_isDay : GoodIn wsX2_opening (va_wsS RX2 62 yX2_isDay wsX2_isDay) := goodIn_app (goodIn_of _ (by decide +kernel)) ggX2_opening_X2_isDay
set_option maxRecDepth 20000 in
theorem ggX2_opening_X2_fails : GoodIn wsX2_opening wsX2_fails := goodIn_r _ [12, 1, 24, 25, 26, 27, 28, 29, 30, 31, 32, 33, 34] (by decide +kernel) (by decide +kernel)
set_option maxRecDepth 20000 in
theorem gX2_opening_X2_fails : GoodIn wsX2_opening (wsV RX2 36 RX2 yX2_fails wsX2_fails) := goodIn_app (goodIn_of _ (by decide +kernel)) ggX2_opening_X2_fails
set_option maxRecDepth 20000 in
theorem ggX2_opening_X2_in : GoodIn wsX2_opening wsX2_in := goodIn_r _ [8] (by decide +kernel) (by decide +kernel)
set_option maxRecDepth 20000 in
theorem gX2_opening_X2_in : GoodIn wsX2_opening (va_wsS RX2 29 yX2_in wsX2_in) := goodIn_app (goodIn_of _ (by decide +kernel)) ggX2_opening_X2_in
set_option maxRecDepth 20000 in
theorem ggX2_opening_X2_saves : GoodIn wsX2_opening wsX2_saves := goodIn_r _ [16, 17, 18, 19, 24, 25, 26, 27, 28, 29, 30, 31, 32, 33, 34] (by decide +kernel) (by decide +kernel)
set_option maxRecDepth 20000 in
theorem gX2_opening_X2_saves : GoodIn wsX2_opening (wsV RX2 65 RX2 yX2_saves wsX2_saves) := goodIn_app (goodIn_of _ (by decide +kernel)) ggX2_opening_X2_saves
set_option maxRecDepth 20000 in
theorem ggX2_opening_X2_changes : GoodIn wsX2_opening wsX2_changes := goodIn_r _ [23, 19, 24, 25, 26, 27, 28, 29, 30, 31, 32, 33, 34] (by decide +kernel) (by decide +kernel)
set_option maxRecDepth 20000 in
theorem gX2_opening_X2_changes : GoodIn wsX2_opening (wsV RX2 68 RX2 yX2_changes wsX2_changes) := goodIn_app (goodIn_of _ (by decide +kernel)) ggX2_opening_X2_changes
theorem dX2_opening_0 : decode cX2_opening 0 = .ok (.aload_n 0, 1) := by decide +kernel
theorem dX2_opening_1 : decode cX2_opening 1 = .ok (.iconst 0, 1) := by decide +kernel
theorem dX2_opening_2 : decode cX2_opening 2 = .ok (.putfield 25, 3) := by decide +kernel
theorem dX2_opening_5 : decode cX2_opening 5 = .ok (.iload_n 1, 1) := by decide +kernel
theorem dX2_opening_6 : decode cX2_opening 6 = .ok (.invokestatic 62, 3) := by decide +kernel
theorem dX2_opening_9 : decode cX2_opening 9 = .ok (.ifCond .ne 9, 3) := by decide +kernel
theorem dX2_opening_12 : decode cX2_opening 12 = .ok (.aload_n 0, 1) := by decide +kernel
theorem dX2_opening_13 : decode cX2_opening 13 = .ok (.iconst 1, 1) := by decide +kernel
theorem dX2_opening_14 : decode cX2_opening 14 = .ok (.invokevirtual 36, 3) := by decide +kernel
theorem dX2_opening_17 : decode cX2_opening 17 = .ok (.ireturn, 1) := by decide +kernel
theorem dX2_opening_18 : decode cX2_opening 18 = .ok (.iload_n 2, 1) := by decide +kernel
theorem dX2_opening_19 : decode cX2_opening 19 = .ok (.iconst (-1), 1) := by decide +kernel
theorem dX2_opening_20 : decode cX2_opening 20 = .ok (.bipush 23, 2) := by decide +kernel
theorem dX2_opening_22 : decode cX2_opening 22 = .ok (.invokestatic 29, 3) := by decide +kernel
theorem dX2_opening_25 : decode cX2_opening 25 = .ok (.ifCond .ne 9, 3) := by decide +kernel
theorem dX2_opening_28 : decode cX2_opening 28 = .ok (.aload_n 0, 1) := by decide +kernel
theorem dX2_opening_29 : decode cX2_opening 29 = .ok (.iconst 2, 1) := by decide +kernel
theorem dX2_opening_30 : decode cX2_opening 30 = .ok (.invokevirtual 36, 3) := by decide +kernel
theorem dX2_opening_33 : decode cX2_opening 33 = .ok (.ireturn, 1) := by decide +kernel
theorem dX2_opening_34 : decode cX2_opening 34 = .ok (.aload_n 0, 1) := by decide +kernel
theorem dX2_opening_35 : decode cX2_opening 35 = .ok (.invokevirtual 65, 3) := by decide +kernel
theorem dX2_opening_38 : decode cX2_opening 38 = .ok (.aload_n 0, 1) := by decide +kernel
theorem dX2_opening_39 : decode cX2_opening 39 = .ok (.iconst 1, 1) := by decide +kernel
theorem dX2_opening_40 : decode cX2_opening 40 = .ok (.iload_n 1, 1) := by decide +kernel
theorem dX2_opening_41 : decode cX2_opening 41 = .ok (.iadd, 1) := by decide +kernel
theorem dX2_opening_42 : decode cX2_opening 42 = .ok (.iload_n 2, 1) := by decide +kernel
theorem dX2_opening_43 : decode cX2_opening 43 = .ok (.invokevirtual 68, 3) := by decide +kernel
theorem dX2_opening_46 : decode cX2_opening 46 = .ok (.ireturn, 1) := by decide +kernel
set_option maxRecDepth 20000 in
theorem ggX2_isFor_X2_in : GoodIn wsX2_isFor wsX2_in := goodIn_r _ [4] (by decide +kernel) (by decide +kernel)
set_option maxRecDepth 20000 in
theorem gX2_isFor_X2_in : GoodIn wsX2_isFor (va_wsS RX2 29 yX2_in wsX2_in) := goodIn_app (goodIn_of _ (by decide +kernel)) ggX2_isFor_X2_in
theorem dX2_isFor_0 : decode cX2_isFor 0 = .ok (.iload_n 0, 1) := by decide +kernel
theorem dX2_isFor_1 : decode cX2_isFor 1 = .ok (.ifCond .ne 13, 3) := by decide +kernel
theorem dX2_isFor_4 : decode cX2_isFor 4 = .ok (.iload_n 1, 1) := by decide +kernel
theorem dX2_isFor_5 : decode cX2_isFor 5 = .ok (.iconst 1, 1) := by decide +kernel
theorem dX2_isFor_6 : decode cX2_isFor 6 = .ok (.bipush 9, 2) := by decide +kernel
theorem dX2_isFor_8 : decode cX2_isFor 8 = .ok (.invokestatic 29, 3) := by decide +kernel
theorem dX2_isFor_11 : decode cX2_isFor 11 = .ok (.goto 27, 3) := by decide +kernel
theorem dX2_isFor_14 : decode cX2_isFor 14 = .ok (.iload_n 0, 1) := by decide +kernel
theorem dX2_isFor_15 : decode cX2_isFor 15 = .ok (.iconst 1, 1) := by decide +kernel
theorem dX2_isFor_16 : decode cX2_isFor 16 = .ok (.if_icmp .ne 13, 3) := by decide +kernel
theorem dX2_isFor_19 : decode cX2_isFor 19 = .ok (.iload_n 1, 1) := by decide +kernel
theorem dX2_isFor_20 : decode cX2_isFor 20 = .ok (.iconst 1, 1) := by decide +kernel
theorem dX2_isFor_21 : decode cX2_isFor 21 = .ok (.bipush 24, 2) := by decide +kernel
theorem dX2_isFor_23 : decode cX2_isFor 23 = .ok (.invokestatic 29, 3) := by decide +kernel
theorem dX2_isFor_26 : decode cX2_isFor 26 = .ok (.goto 12, 3) := by decide +kernel
theorem dX2_isFor_29 : decode cX2_isFor 29 = .ok (.iload_n 1, 1) := by decide +kernel
theorem dX2_isFor_30 : decode cX2_isFor 30 = .ok (.bipush 10, 2) := by decide +kernel
theorem dX2_isFor_32 : decode cX2_isFor 32 = .ok (.sipush 5000, 3) := by decide +kernel
theorem dX2_isFor_35 : decode cX2_isFor 35 = .ok (.invokestatic 29, 3) := by decide +kernel
theorem dX2_isFor_38 : decode cX2_isFor 38 = .ok (.ireturn, 1) := by decide +kernel
set_option maxRecDepth 20000 in
theorem ggX2_set_X2_in : GoodIn wsX2_set wsX2_in := goodIn_r _ [5] (by decide +kernel) (by decide +kernel)
set_option maxRecDepth 20000 in
theorem gX2_set_X2_in : GoodIn wsX2_set (va_wsS RX2 29 yX2_in wsX2_in) := goodIn_app (goodIn_of _ (by decide +kernel)) ggX2_set_X2_in
set_option maxRecDepth 20000 in
theorem ggX2_set_X2_fails : GoodIn wsX2_set wsX2_fails := goodIn_r _ [9, 1, 24, 25, 26, 27, 28, 29, 30, 31, 32, 33, 34] (by decide +kernel) (by decide +kernel)
set_option maxRecDepth 20000 in
theorem gX2_set_X2_fails : GoodIn wsX2_set (wsV RX2 36 RX2 yX2_fails wsX2_fails) := goodIn_app (goodIn_of _ (by decide +kernel)) ggX2_set_X2_fails
set_option maxRecDepth 20000 in
theorem ggX2_set_X2_isFor : GoodIn wsX2_set wsX2_isFor := goodIn_r _ [12, 2, 3, 4, 5] (by decide +kernel) (by decide +kernel)
set_option maxRecDepth 20000 in
theorem gX2_set_X2_isFor : GoodIn wsX2_set (va_wsS RX2 71 yX2_isFor wsX2_isFor) := goodIn_app (goodIn_of _ (by decide +kernel)) ggX2_set_X2_isFor
set_option maxRecDepth 20000 in
theorem ggX2_set_X2_saves : GoodIn wsX2_set wsX2_saves := goodIn_r _ [16, 17, 18, 19, 24, 25, 26, 27, 28, 29, 30, 31, 32, 33, 34] (by decide +kernel) (by decide +kernel)
set_option maxRecDepth 20000 in
theorem gX2_set_X2_saves : GoodIn wsX2_set (wsV RX2 65 RX2 yX2_saves wsX2_saves) := goodIn_app (goodIn_of _ (by decide +kernel)) ggX2_set_X2_saves
set_option maxRecDepth 20000 in
theorem ggX2_set_X2_changes : GoodIn wsX2_set wsX2_changes := goodIn_r _ [23, 19, 24, 25, 26, 27, 28, 29, 30, 31, 32, 33, 34] (by decide +kernel) (by decide +kernel)
set_option maxRecDepth 20000 in
theorem gX2_set_X2_changes : GoodIn wsX2_set (wsV RX2 68 RX2 yX2_changes wsX2_changes) := goodIn_app (goodIn_of _ (by decide +kernel)) ggX2_set_X2_changes
theorem dX2_set_0 : decode cX2_set 0 = .ok (.aload_n 0, 1) := by decide +kernel
theorem dX2_set_1 : decode cX2_set 1 = .ok (.iconst 0, 1) := by decide +kernel
theorem dX2_set_2 : decode cX2_set 2 = .ok (.putfield 25, 3) := by decide +kernel
theorem dX2_set_5 : decode cX2_set 5 = .ok (.iload_n 1, 1) := by decide +kernel
theorem dX2_set_6 : decode cX2_set 6 = .ok (.iconst 0, 1) := by decide +kernel
theorem dX2_set_7 : decode cX2_set 7 = .ok (.iconst 2, 1) := by decide +kernel
theorem dX2_set_8 : decode cX2_set 8 = .ok (.invokestatic 29, 3) := by decide +kernel
theorem dX2_set_11 : decode cX2_set 11 = .ok (.ifCond .ne 9, 3) := by decide +kernel
theorem dX2_set_14 : decode cX2_set 14 = .ok (.aload_n 0, 1) := by decide +kernel
theorem dX2_set_15 : decode cX2_set 15 = .ok (.iconst 1, 1) := by decide +kernel
