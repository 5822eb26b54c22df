theorem dX2_set_16 : decode cX2_set 16 = .ok (.invokevirtual 36, 3) := by decide +kernel
theorem dX2_set_19 : decode cX2_set 19 = .ok (.ireturn, 1) := by decide +kernel
theorem dX2_set_20 : decode cX2_set 20 = .ok (.iload_n 1, 1) := by decide +kernel
theorem dX2_set_21 : decode cX2_set 21 = .ok (.iload_n 2, 1) := by decide +kernel
theorem dX2_set_22 : decode cX2_set 22 = .ok (.invokestatic 71, 3) := by decide +kernel
theorem dX2_set_25 : decode cX2_set 25 = .ok (.ifCond .ne 9, 3) := by decide +kernel
theorem dX2_set_28 : decode cX2_set 28 = .ok (.aload_n 0, 1) := by decide +kernel
theorem dX2_set_29 : decode cX2_set 29 = .ok (.iconst 2, 1) := by decide +kernel
theorem dX2_set_30 : decode cX2_set 30 = .ok (.invokevirtual 36, 3) := by decide +kernel
theorem dX2_set_33 : decode cX2_set 33 = .ok (.ireturn, 1) := by decide +kernel
theorem dX2_set_34 : decode cX2_set 34 = .ok (.aload_n 0, 1) := by decide +kernel
theorem dX2_set_35 : decode cX2_set 35 = .ok (.invokevirtual 65, 3) := by decide +kernel
theorem dX2_set_38 : decode cX2_set 38 = .ok (.aload_n 0, 1) := by decide +kernel
theorem dX2_set_39 : decode cX2_set 39 = .ok (.bipush 8, 2) := by decide +kernel
theorem dX2_set_41 : decode cX2_set 41 = .ok (.iload_n 1, 1) := by decide +kernel
theorem dX2_set_42 : decode cX2_set 42 = .ok (.iadd, 1) := by decide +kernel
theorem dX2_set_43 : decode cX2_set 43 = .ok (.iload_n 2, 1) := by decide +kernel
theorem dX2_set_44 : decode cX2_set 44 = .ok (.invokevirtual 68, 3) := by decide +kernel
theorem dX2_set_47 : decode cX2_set 47 = .ok (.ireturn, 1) := by decide +kernel
set_option maxRecDepth 20000 in
theorem ggX2_wind_X2_isMovement : GoodIn wsX2_wind wsX2_isMovement := goodIn_r _ [6, 7, 8, 5, 9] (by decide +kernel) (by decide +kernel)
set_option maxRecDepth 20000 in
theorem gX2_wind_X2_isMovement : GoodIn wsX2_wind (va_wsS RX2 75 yX2_isMovement wsX2_isMovement) := goodIn_app (goodIn_of _ (by decide +kernel)) ggX2_wind_X2_isMovement
set_option maxRecDepth 20000 in
theorem ggX2_wind_X2_fails : GoodIn wsX2_wind wsX2_fails := goodIn_r _ [13, 1, 28, 29, 30, 31, 32, 33, 34, 35, 36, 37, 38] (by decide +kernel) (by decide +kernel)
set_option maxRecDepth 20000 in
theorem gX2_wind_X2_fails : GoodIn wsX2_wind (wsV RX2 36 RX2 yX2_fails wsX2_fails) := goodIn_app (goodIn_of _ (by decide +kernel)) ggX2_wind_X2_fails
set_option maxRecDepth 20000 in
theorem ggX2_wind_X2_in : GoodIn wsX2_wind wsX2_in := goodIn_r _ [9] (by decide +kernel) (by decide +kernel)
set_option maxRecDepth 20000 in
theorem gX2_wind_X2_in : GoodIn wsX2_wind (va_wsS RX2 29 yX2_in wsX2_in) := goodIn_app (goodIn_of _ (by decide +kernel)) ggX2_wind_X2_in
set_option maxRecDepth 20000 in
theorem ggX2_wind_X2_goes : GoodIn wsX2_wind wsX2_goes := goodIn_r _ [17, 2, 28, 29, 30, 31, 32, 33, 34, 35, 36, 37, 38] (by decide +kernel) (by decide +kernel)
set_option maxRecDepth 20000 in
theorem gX2_wind_X2_goes : GoodIn wsX2_wind (wsV RX2 40 RX2 yX2_goes wsX2_goes) := goodIn_app (goodIn_of _ (by decide +kernel)) ggX2_wind_X2_goes
set_option maxRecDepth 20000 in
theorem ggX2_wind_X2_saves : GoodIn wsX2_wind wsX2_saves := goodIn_r _ [21, 22, 23, 2, 28, 29, 30, 31, 32, 33, 34, 35, 36, 37, 38] (by decide +kernel) (by decide +kernel)
set_option maxRecDepth 20000 in
theorem gX2_wind_X2_saves : GoodIn wsX2_wind (wsV RX2 65 RX2 yX2_saves wsX2_saves) := goodIn_app (goodIn_of _ (by decide +kernel)) ggX2_wind_X2_saves
set_option maxRecDepth 20000 in
theorem ggX2_wind_X2_changes : GoodIn wsX2_wind wsX2_changes := goodIn_r _ [27, 2, 28, 29, 30, 31, 32, 33, 34, 35, 36, 37, 38] (by decide +kernel) (by decide +kernel)
set_option maxRecDepth 20000 in
theorem gX2_wind_X2_changes : GoodIn wsX2_wind (wsV RX2 68 RX2 yX2_changes wsX2_changes) := goodIn_app (goodIn_of _ (by decide +kernel)) ggX2_wind_X2_changes
theorem dX2_wind_0 : decode cX2_wind 0 = .ok (.aload_n 0, 1) := by decide +kernel
theorem dX2_wind_1 : decode cX2_wind 1 = .ok (.iconst 0, 1) := by decide +kernel
theorem dX2_wind_2 : decode cX2_wind 2 = .ok (.putfield 25, 3) := by decide +kernel
theorem dX2_wind_5 : decode cX2_wind 5 = .ok (.iload_n 1, 1) := by decide +kernel
theorem dX2_wind_6 : decode cX2_wind 6 = .ok (.invokestatic 75, 3) := by decide +kernel
theorem dX2_wind_9 : decode cX2_wind 9 = .ok (.ifCond .ne 9, 3) := by decide +kernel
theorem dX2_wind_12 : decode cX2_wind 12 = .ok (.aload_n 0, 1) := by decide +kernel
theorem dX2_wind_13 : decode cX2_wind 13 = .ok (.iconst 1, 1) := by decide +kernel
theorem dX2_wind_14 : decode cX2_wind 14 = .ok (.invokevirtual 36, 3) := by decide +kernel
theorem dX2_wind_17 : decode cX2_wind 17 = .ok (.ireturn, 1) := by decide +kernel
theorem dX2_wind_18 : decode cX2_wind 18 = .ok (.iload_n 2, 1) := by decide +kernel
theorem dX2_wind_19 : decode cX2_wind 19 = .ok (.iconst 1, 1) := by decide +kernel
theorem dX2_wind_20 : decode cX2_wind 20 = .ok (.sipush 200, 3) := by decide +kernel
theorem dX2_wind_23 : decode cX2_wind 23 = .ok (.invokestatic 29, 3) := by decide +kernel
theorem dX2_wind_26 : decode cX2_wind 26 = .ok (.ifCond .ne 9, 3) := by decide +kernel
theorem dX2_wind_29 : decode cX2_wind 29 = .ok (.aload_n 0, 1) := by decide +kernel
theorem dX2_wind_30 : decode cX2_wind 30 = .ok (.iconst 2, 1) := by decide +kernel
theorem dX2_wind_31 : decode cX2_wind 31 = .ok (.invokevirtual 36, 3) := by decide +kernel
theorem dX2_wind_34 : decode cX2_wind 34 = .ok (.ireturn, 1) := by decide +kernel
theorem dX2_wind_35 : decode cX2_wind 35 = .ok (.aload_n 0, 1) := by decide +kernel
theorem dX2_wind_36 : decode cX2_wind 36 = .ok (.getfield 7, 3) := by decide +kernel
theorem dX2_wind_39 : decode cX2_wind 39 = .ok (.bipush 11, 2) := by decide +kernel
theorem dX2_wind_41 : decode cX2_wind 41 = .ok (.iaload, 1) := by decide +kernel
theorem dX2_wind_42 : decode cX2_wind 42 = .ok (.iconst 1, 1) := by decide +kernel
theorem dX2_wind_43 : decode cX2_wind 43 = .ok (.if_icmp .eq 11, 3) := by decide +kernel
theorem dX2_wind_46 : decode cX2_wind 46 = .ok (.aload_n 0, 1) := by decide +kernel
theorem dX2_wind_47 : decode cX2_wind 47 = .ok (.iload_n 1, 1) := by decide +kernel
theorem dX2_wind_48 : decode cX2_wind 48 = .ok (.invokevirtual 40, 3) := by decide +kernel
theorem dX2_wind_51 : decode cX2_wind 51 = .ok (.ifCond .ne 9, 3) := by decide +kernel
theorem dX2_wind_54 : decode cX2_wind 54 = .ok (.aload_n 0, 1) := by decide +kernel
theorem dX2_wind_55 : decode cX2_wind 55 = .ok (.iconst 3, 1) := by decide +kernel
theorem dX2_wind_56 : decode cX2_wind 56 = .ok (.invokevirtual 36, 3) := by decide +kernel
theorem dX2_wind_59 : decode cX2_wind 59 = .ok (.ireturn, 1) := by decide +kernel
theorem dX2_wind_60 : decode cX2_wind 60 = .ok (.aload_n 0, 1) := by decide +kernel
theorem dX2_wind_61 : decode cX2_wind 61 = .ok (.invokevirtual 65, 3) := by decide +kernel
theorem dX2_wind_64 : decode cX2_wind 64 = .ok (.aload_n 0, 1) := by decide +kernel
theorem dX2_wind_65 : decode cX2_wind 65 = .ok (.bipush 21, 2) := by decide +kernel
theorem dX2_wind_67 : decode cX2_wind 67 = .ok (.iconst 4, 1) := by decide +kernel
theorem dX2_wind_68 : decode cX2_wind 68 = .ok (.iload_n 1, 1) := by decide +kernel
theorem dX2_wind_69 : decode cX2_wind 69 = .ok (.imul, 1) := by decide +kernel
theorem dX2_wind_70 : decode cX2_wind 70 = .ok (.iadd, 1) := by decide +kernel
theorem dX2_wind_71 : decode cX2_wind 71 = .ok (.iload_n 2, 1) := by decide +kernel
theorem dX2_wind_72 : decode cX2_wind 72 = .ok (.invokevirtual 68, 3) := by decide +kernel
theorem dX2_wind_75 : decode cX2_wind 75 = .ok (.ireturn, 1) := by decide +kernel
set_option maxRecDepth 20000 in
theorem ggX2_fault_X2_isMovement : GoodIn wsX2_fault wsX2_isMovement := goodIn_r _ [5, 6, 7, 4, 8] (by decide +kernel) (by decide +kernel)
set_option maxRecDepth 20000 in
theorem gX2_fault_X2_isMovement : GoodIn wsX2_fault (va_wsS RX2 75 yX2_isMovement wsX2_isMovement) := goodIn_app (goodIn_of _ (by decide +kernel)) ggX2_fault_X2_isMovement
set_option maxRecDepth 20000 in
theorem ggX2_fault_X2_fails : GoodIn wsX2_fault wsX2_fails := goodIn_r _ [12, 1, 24, 25, 26, 27, 28, 29, 30, 31, 32, 33, 34] (by decide +kernel) (by decide +kernel)
set_option maxRecDepth 20000 in
theorem gX2_fault_X2_fails : GoodIn wsX2_fault (wsV RX2 36 RX2 yX2_fails wsX2_fails) := goodIn_app (goodIn_of _ (by decide +kernel)) ggX2_fault_X2_fails
set_option maxRecDepth 20000 in
theorem ggX2_fault_X2_saves : GoodIn wsX2_fault wsX2_saves := goodIn_r _ [16, 17, 18, 19, 24, 25, 26, 27, 28, 29, 30, 31, 32, 33, 34] (by decide +kernel) (by decide +kernel)
set_option maxRecDepth 20000 in
theorem gX2_fault_X2_saves : GoodIn wsX2_fault (wsV RX2 65 RX2 yX2_saves wsX2_saves) := goodIn_app (goodIn_of _ (by decide +kernel)) ggX2_fault_X2_saves
set_option maxRecDepth 20000 in
theorem ggX2_fault_X2_changes : GoodIn wsX2_fault wsX2_changes := goodIn_r _ [23, 19, 24, 25, 26, 27, 28, 29, 30, 31, 32, 33, 34] (by decide +kernel) (by decide +kernel)
set_option maxRecDepth 20000 in
theorem gX2_fault_X2_changes : GoodIn wsX2_fault (wsV RX2 68 RX2 yX2_changes wsX2_changes) := goodIn_app (goodIn_of _ (by decide +kernel)) ggX2_fault_X2_changes
theorem dX2_fault_0 : decode cX2_fault 0 = .ok (.aload_n 0, 1) := by decide +kernel
theorem dX2_fault_1 : decode cX2_fault 1 = .ok (.iconst 0, 1) := by decide +kernel
theorem dX2_fault_2 : decode cX2_fault 2 = .ok (.putfield 25, 3) := by decide +kernel
theorem dX2_fault_5 : decode cX2_fault 5 = .ok (.iload_n 1, 1) := by decide +kernel
theorem dX2_fault_6 : decode cX2_fault 6 = .ok (.invokestatic 75, 3) := by decide +kernel
theorem dX2_fault_9 : decode cX2_fault 9 = .ok (.ifCond .ne 9, 3) := by decide +kernel
theorem dX2_fault_12 : decode cX2_fault 12 = .ok (.aload_n 0, 1) := by decide +kernel
theorem dX2_fault_13 : decode cX2_fault 13 = .ok (.iconst 1, 1) := by decide +kernel
theorem dX2_fault_14 : decode cX2_fault 14 = .ok (.invokevirtual 36, 3) := by decide +kernel
theorem dX2_fault_17 : decode cX2_fault 17 = .ok (.ireturn, 1) := by decide +kernel
theorem dX2_fault_18 : decode cX2_fault 18 = .ok (.aload_n 0, 1) := by decide +kernel
theorem dX2_fault_19 : decode cX2_fault 19 = .ok (.invokevirtual 65, 3) := by decide +kernel
theorem dX2_fault_22 : decode cX2_fault 22 = .ok (.aload_n 0, 1) := by decide +kernel
theorem dX2_fault_23 : decode cX2_fault 23 = .ok (.bipush 21, 2) := by decide +kernel
theorem dX2_fault_25 : decode cX2_fault 25 = .ok (.iconst 4, 1) := by decide +kernel
theorem dX2_fault_26 : decode cX2_fault 26 = .ok (.iload_n 1, 1) := by decide +kernel
theorem dX2_fault_27 : decode cX2_fault 27 = .ok (.imul, 1) := by decide +kernel
theorem dX2_fault_28 : decode cX2_fault 28 = .ok (.iadd, 1) := by decide +kernel
theorem dX2_fault_29 : decode cX2_fault 29 = .ok (.iconst 1, 1) := by decide +kernel
theorem dX2_fault_30 : decode cX2_fault 30 = .ok (.iadd, 1) := by decide +kernel
theorem dX2_fault_31 : decode cX2_fault 31 = .ok (.iload_n 2, 1) := by decide +kernel
theorem dX2_fault_32 : decode cX2_fault 32 = .ok (.ifCond .eq 7, 3) := by decide +kernel
theorem dX2_fault_35 : decode cX2_fault 35 = .ok (.iconst 1, 1) := by decide +kernel
theorem dX2_fault_36 : decode cX2_fault 36 = .ok (.goto 4, 3) := by decide +kernel
theorem dX2_fault_39 : decode cX2_fault 39 = .ok (.iconst 0, 1) := by decide +kernel
theorem dX2_fault_40 : decode cX2_fault 40 = .ok (.invokevirtual 68, 3) := by decide +kernel
theorem dX2_fault_43 : decode cX2_fault 43 = .ok (.ireturn, 1) := by decide +kernel
set_option maxRecDepth 20000 in
theorem ggX2_loss_X2_isMovement : GoodIn wsX2_loss wsX2_isMovement := goodIn_r _ [5, 6, 7, 4, 8] (by decide +kernel) (by decide +kernel)
set_option maxRecDepth 20000 in
theorem gX2_loss_X2_isMovement : GoodIn wsX2_loss (va_wsS RX2 75 yX2_isMovement wsX2_isMovement) := goodIn_app (goodIn_of _ (by decide +kernel)) ggX2_loss_X2_isMovement
set_option maxRecDepth 20000 in
theorem ggX2_loss_X2_fails : GoodIn wsX2_loss wsX2_fails := goodIn_r _ [12, 1, 24, 25, 26, 27, 28, 29, 30, 31, 32, 33, 34] (by decide +kernel) (by decide +kernel)
set_option maxRecDepth 20000 in
theorem gX2_loss_X2_fails : GoodIn wsX2_loss (wsV RX2 36 RX2 yX2_fails wsX2_fails) := goodIn_app (goodIn_of _ (by decide +kernel)) ggX2_loss_X2_fails
set_option maxRecDepth 20000 in
theorem ggX2_loss_X2_in : GoodIn wsX2_loss wsX2_in := goodIn_r _ [8] (by decide +kernel) (by decide +kernel)
set_option maxRecDepth 20000 in
theorem gX2_loss_X2_in : GoodIn wsX2_loss (va_wsS RX2 29 yX2_in wsX2_in) := goodIn_app (goodIn_of _ (by decide +kernel)) ggX2_loss_X2_in
set_option maxRecDepth 20000 in
theorem ggX2_loss_X2_saves : GoodIn wsX2_loss wsX2_saves := goodIn_r _ [16, 17, 18, 19, 24, 25, 26, 27, 28, 29, 30, 31, 32, 33, 34] (by decide +kernel) (by decide +kernel)
set_option maxRecDepth 20000 in
theorem gX2_loss_X2_saves : GoodIn wsX2_loss (wsV RX2 65 RX2 yX2_saves wsX2_saves) := goodIn_app (goodIn_of _ (by decide +kernel)) ggX2_loss_X2_saves
set_option maxRecDepth 20000 in
theorem ggX2_loss_X2_changes : GoodIn wsX2_loss wsX2_changes := goodIn_r _ [23, 19, 24, 25, 26, 27, 28, 29, 30, 31, 32, 33, 34] (by decide +kernel) (by decide +kernel)
set_option maxRecDepth 20000 in
theorem gX2_loss_X2_changes : GoodIn wsX2_loss (wsV RX2 68 RX2 yX2_changes wsX2_changes) := goodIn_app (goodIn_of _ (by decide +kernel)) ggX2_loss_X2_changes
theorem dX2_loss_0 : decode cX2_loss 0 = .ok (.aload_n 0, 1) := by decide +kernel
theorem dX2_loss_1 : decode cX2_loss 1 = .ok (.iconst 0, 1) := by decide +kernel
theorem dX2_loss_2 : decode cX2_loss 2 = .ok (.putfield 25, 3) := by decide +kernel
theorem dX2_loss_5 : decode cX2_loss 5 = .ok (.iload_n 1, 1) := by decide +kernel
theorem dX2_loss_6 : decode cX2_loss 6 = .ok (.invokestatic 75, 3) := by decide +kernel
theorem dX2_loss_9 : decode cX2_loss 9 = .ok (.ifCond .ne 9, 3) := by decide +kernel
theorem dX2_loss_12 : decode cX2_loss 12 = .ok (.aload_n 0, 1) := by decide +kernel
theorem dX2_loss_13 : decode cX2_loss 13 = .ok (.iconst 1, 1) := by decide +kernel
theorem dX2_loss_14 : decode cX2_loss 14 = .ok (.invokevirtual 36, 3) := by decide +kernel
theorem dX2_loss_17 : decode cX2_loss 17 = .ok (.ireturn, 1) := by decide +kernel
theorem dX2_loss_18 : decode cX2_loss 18 = .ok (.iload_n 2, 1) := by decide +kernel
theorem dX2_loss_19 : decode cX2_loss 19 = .ok (.iconst 0, 1) := by decide +kernel
theorem dX2_loss_20 : decode cX2_loss 20 = .ok (.bipush 20, 2) := by decide +kernel
theorem dX2_loss_22 : decode cX2_loss 22 = .ok (.invokestatic 29, 3) := by decide +kernel
theorem dX2_loss_25 : decode cX2_loss 25 = .ok (.ifCond .ne 9, 3) := by decide +kernel
theorem dX2_loss_28 : decode cX2_loss 28 = .ok (.aload_n 0, 1) := by decide +kernel
theorem dX2_loss_29 : decode cX2_loss 29 = .ok (.iconst 2, 1) := by decide +kernel
theorem dX2_loss_30 : decode cX2_loss 30 = .ok (.invokevirtual 36, 3) := by decide +kernel
theorem dX2_loss_33 : decode cX2_loss 33 = .ok (.ireturn, 1) := by decide +kernel
theorem dX2_loss_34 : decode cX2_loss 34 = .ok (.aload_n 0, 1) := by decide +kernel
theorem dX2_loss_35 : decode cX2_loss 35 = .ok (.invokevirtual 65, 3) := by decide +kernel
theorem dX2_loss_38 : decode cX2_loss 38 = .ok (.aload_n 0, 1) := by decide +kernel
theorem dX2_loss_39 : decode cX2_loss 39 = .ok (.bipush 21, 2) := by decide +kernel
theorem dX2_loss_41 : decode cX2_loss 41 = .ok (.iconst 4, 1) := by decide +kernel
theorem dX2_loss_42 : decode cX2_loss 42 = .ok (.iload_n 1, 1) := by decide +kernel
theorem dX2_loss_43 : decode cX2_loss 43 = .ok (.imul, 1) := by decide +kernel
theorem dX2_loss_44 : decode cX2_loss 44 = .ok (.iadd, 1) := by decide +kernel
theorem dX2_loss_45 : decode cX2_loss 45 = .ok (.iconst 2, 1) := by decide +kernel
theorem dX2_loss_46 : decode cX2_loss 46 = .ok (.iadd, 1) := by decide +kernel
theorem dX2_loss_47 : decode cX2_loss 47 = .ok (.iload_n 2, 1) := by decide +kernel
theorem dX2_loss_48 : decode cX2_loss 48 = .ok (.invokevirtual 68, 3) := by decide +kernel
theorem dX2_loss_51 : decode cX2_loss 51 = .ok (.ireturn, 1) := by decide +kernel
set_option maxRecDepth 20000 in
theorem ggX2_service_X2_isMovement : GoodIn wsX2_service wsX2_isMovement := goodIn_r _ [6, 7, 8, 5, 9] (by decide +kernel) (by decide +kernel)
set_option maxRecDepth 20000 in
theorem gX2_service_X2_isMovement : GoodIn wsX2_service (va_wsS RX2 75 yX2_isMovement wsX2_isMovement) := goodIn_app (goodIn_of _ (by decide +kernel)) ggX2_service_X2_isMovement
set_option maxRecDepth 20000 in
theorem ggX2_service_X2_fails : GoodIn wsX2_service wsX2_fails := goodIn_r _ [13, 1, 24, 25, 26, 27, 28, 29, 30, 31, 32, 33, 34] (by decide +kernel) (by decide +kernel)
set_option maxRecDepth 20000 in
theorem gX2_service_X2_fails : GoodIn wsX2_service (wsV RX2 36 RX2 yX2_fails wsX2_fails) := goodIn_app (goodIn_of _ (by decide +kernel)) ggX2_service_X2_fails
set_option maxRecDepth 20000 in
theorem ggX2_service_X2_saves : GoodIn wsX2_service wsX2_saves := goodIn_r _ [17, 18, 19, 2, 24, 25, 26, 27, 28, 29, 30, 31, 32, 33, 34] (by decide +kernel) (by decide +kernel)
set_option maxRecDepth 20000 in
theorem gX2_service_X2_saves : GoodIn wsX2_service (wsV RX2 65 RX2 yX2_saves wsX2_saves) := goodIn_app (goodIn_of _ (by decide +kernel)) ggX2_service_X2_saves
set_option maxRecDepth 20000 in
theorem ggX2_service_X2_changes : GoodIn wsX2_service wsX2_changes := goodIn_r _ [23, 2, 24, 25, 26, 27, 28, 29, 30, 31, 32, 33, 34] (by decide +kernel) (by decide +kernel)
set_option maxRecDepth 20000 in
theorem gX2_service_X2_changes : GoodIn wsX2_service (wsV RX2 68 RX2 yX2_changes wsX2_changes) := goodIn_app (goodIn_of _ (by decide +kernel)) ggX2_service_X2_changes
theorem dX2_service_0 : decode cX2_service 0 = .ok (.aload_n 0, 1) := by decide +kernel
theorem dX2_service_1 : decode cX2_service 1 = .ok (.iconst 0, 1) := by decide +kernel
theorem dX2_service_2 : decode cX2_service 2 = .ok (.putfield 25, 3) := by decide +kernel
theorem dX2_service_5 : decode cX2_service 5 = .ok (.iload_n 1, 1) := by decide +kernel
theorem dX2_service_6 : decode cX2_service 6 = .ok (.invokestatic 75, 3) := by decide +kernel
theorem dX2_service_9 : decode cX2_service 9 = .ok (.ifCond .ne 9, 3) := by decide +kernel
theorem dX2_service_12 : decode cX2_service 12 = .ok (.aload_n 0, 1) := by decide +kernel
theorem dX2_service_13 : decode cX2_service 13 = .ok (.iconst 1, 1) := by decide +kernel
theorem dX2_service_14 : decode cX2_service 14 = .ok (.invokevirtual 36, 3) := by decide +kernel
theorem dX2_service_17 : decode cX2_service 17 = .ok (.ireturn, 1) := by decide +kernel
theorem dX2_service_18 : decode cX2_service 18 = .ok (.aload_n 0, 1) := by decide +kernel
theorem dX2_service_19 : decode cX2_service 19 = .ok (.getfield 7, 3) := by decide +kernel
theorem dX2_service_22 : decode cX2_service 22 = .ok (.bipush 11, 2) := by decide +kernel
theorem dX2_service_24 : decode cX2_service 24 = .ok (.iaload, 1) := by decide +kernel
theorem dX2_service_25 : decode cX2_service 25 = .ok (.iconst 1, 1) := by decide +kernel
theorem dX2_service_26 : decode cX2_service 26 = .ok (.if_icmp .ne 9, 3) := by decide +kernel
theorem dX2_service_29 : decode cX2_service 29 = .ok (.aload_n 0, 1) := by decide +kernel
theorem dX2_service_30 : decode cX2_service 30 = .ok (.iconst 2, 1) := by decide +kernel
theorem dX2_service_31 : decode cX2_service 31 = .ok (.invokevirtual 36, 3) := by decide +kernel
theorem dX2_service_34 : decode cX2_service 34 = .ok (.ireturn, 1) := by decide +kernel
theorem dX2_service_35 : decode cX2_service 35 = .ok (.aload_n 0, 1) := by decide +kernel
theorem dX2_service_36 : decode cX2_service 36 = .ok (.invokevirtual 65, 3) := by decide +kernel
theorem dX2_service_39 : decode cX2_service 39 = .ok (.aload_n 0, 1) := by decide +kernel
theorem dX2_service_40 : decode cX2_service 40 = .ok (.getfield 7, 3) := by decide +kernel
theorem dX2_service_43 : decode cX2_service 43 = .ok (.bipush 21, 2) := by decide +kernel
theorem dX2_service_45 : decode cX2_service 45 = .ok (.iconst 4, 1) := by decide +kernel
theorem dX2_service_46 : decode cX2_service 46 = .ok (.iload_n 1, 1) := by decide +kernel
theorem dX2_service_47 : decode cX2_service 47 = .ok (.imul, 1) := by decide +kernel
theorem dX2_service_48 : decode cX2_service 48 = .ok (.iadd, 1) := by decide +kernel
theorem dX2_service_49 : decode cX2_service 49 = .ok (.iconst 1, 1) := by decide +kernel
theorem dX2_service_50 : decode cX2_service 50 = .ok (.iadd, 1) := by decide +kernel
theorem dX2_service_51 : decode cX2_service 51 = .ok (.iconst 1, 1) := by decide +kernel
theorem dX2_service_52 : decode cX2_service 52 = .ok (.iastore, 1) := by decide +kernel
theorem dX2_service_53 : decode cX2_service 53 = .ok (.aload_n 0, 1) := by decide +kernel
theorem dX2_service_54 : decode cX2_service 54 = .ok (.getfield 7, 3) := by decide +kernel
theorem dX2_service_57 : decode cX2_service 57 = .ok (.bipush 21, 2) := by decide +kernel
theorem dX2_service_59 : decode cX2_service 59 = .ok (.iconst 4, 1) := by decide +kernel
theorem dX2_service_60 : decode cX2_service 60 = .ok (.iload_n 1, 1) := by decide +kernel
theorem dX2_service_61 : decode cX2_service 61 = .ok (.imul, 1) := by decide +kernel
theorem dX2_service_62 : decode cX2_service 62 = .ok (.iadd, 1) := by decide +kernel
theorem dX2_service_63 : decode cX2_service 63 = .ok (.iconst 2, 1) := by decide +kernel
theorem dX2_service_64 : decode cX2_service 64 = .ok (.iadd, 1) := by decide +kernel
theorem dX2_service_65 : decode cX2_service 65 = .ok (.iconst 0, 1) := by decide +kernel
theorem dX2_service_66 : decode cX2_service 66 = .ok (.iastore, 1) := by decide +kernel
theorem dX2_service_67 : decode cX2_service 67 = .ok (.aload_n 0, 1) := by decide +kernel
theorem dX2_service_68 : decode cX2_service 68 = .ok (.bipush 21, 2) := by decide +kernel
theorem dX2_service_70 : decode cX2_service 70 = .ok (.iconst 4, 1) := by decide +kernel
theorem dX2_service_71 : decode cX2_service 71 = .ok (.iload_n 1, 1) := by decide +kernel
theorem dX2_service_72 : decode cX2_service 72 = .ok (.imul, 1) := by decide +kernel
theorem dX2_service_73 : decode cX2_service 73 = .ok (.iadd, 1) := by decide +kernel
theorem dX2_service_74 : decode cX2_service 74 = .ok (.iconst 3, 1) := by decide +kernel
theorem dX2_service_75 : decode cX2_service 75 = .ok (.iadd, 1) := by decide +kernel
theorem dX2_service_76 : decode cX2_service 76 = .ok (.iconst 0, 1) := by decide +kernel
theorem dX2_service_77 : decode cX2_service 77 = .ok (.invokevirtual 68, 3) := by decide +kernel
theorem dX2_service_80 : decode cX2_service 80 = .ok (.ireturn, 1) := by decide +kernel
set_option maxRecDepth 20000 in
theorem ggX2_lock_X2_goes : GoodIn wsX2_lock wsX2_goes := goodIn_r _ [7, 2, 26, 27, 28, 29, 30, 31, 32, 33, 34, 35, 36] (by decide +kernel) (by decide +kernel)
set_option maxRecDepth 20000 in
theorem gX2_lock_X2_goes : GoodIn wsX2_lock (wsV RX2 40 RX2 yX2_goes wsX2_goes) := goodIn_app (goodIn_of _ (by decide +kernel)) ggX2_lock_X2_goes
set_option maxRecDepth 20000 in
theorem ggX2_lock_X2_hours : GoodIn wsX2_lock wsX2_hours := goodIn_r _ [11, 2, 26, 27, 28, 29, 30, 31, 32, 33, 34, 35, 36] (by decide +kernel) (by decide +kernel)
set_option maxRecDepth 20000 in
theorem gX2_lock_X2_hours : GoodIn wsX2_lock (wsV RX2 51 RX2 yX2_hours wsX2_hours) := goodIn_app (goodIn_of _ (by decide +kernel)) ggX2_lock_X2_hours
set_option maxRecDepth 20000 in
theorem ggX2_lock_X2_fails : GoodIn wsX2_lock wsX2_fails := goodIn_r _ [15, 1, 26, 27, 28, 29, 30, 31, 32, 33, 34, 35, 36] (by decide +kernel) (by decide +kernel)
set_option maxRecDepth 20000 in
theorem gX2_lock_X2_fails : GoodIn wsX2_lock (wsV RX2 36 RX2 yX2_fails wsX2_fails) := goodIn_app (goodIn_of _ (by decide +kernel)) ggX2_lock_X2_fails
set_option maxRecDepth 20000 in
theorem ggX2_lock_X2_saves : GoodIn wsX2_lock wsX2_saves := goodIn_r _ [19, 20, 21, 2, 26, 27, 28, 29, 30, 31, 32, 33, 34, 35, 36] (by decide +kernel) (by decide +kernel)
set_option maxRecDepth 20000 in
theorem gX2_lock_X2_saves : GoodIn wsX2_lock (wsV RX2 65 RX2 yX2_saves wsX2_saves) := goodIn_app (goodIn_of _ (by decide +kernel)) ggX2_lock_X2_saves
set_option maxRecDepth 20000 in
theorem ggX2_lock_X2_toOpening : GoodIn wsX2_lock wsX2_toOpening := goodIn_r _ [25, 2, 26, 27, 28, 29, 30, 31, 32, 33, 34, 35, 36] (by decide +kernel) (by decide +kernel)
set_option maxRecDepth 20000 in
theorem gX2_lock_X2_toOpening : GoodIn wsX2_lock (wsV RX2 78 RX2 yX2_toOpening wsX2_toOpening) := goodIn_app (goodIn_of _ (by decide +kernel)) ggX2_lock_X2_toOpening
theorem dX2_lock_0 : decode cX2_lock 0 = .ok (.aload_n 0, 1) := by decide +kernel
theorem dX2_lock_1 : decode cX2_lock 1 = .ok (.iconst 0, 1) := by decide +kernel
theorem dX2_lock_2 : decode cX2_lock 2 = .ok (.putfield 25, 3) := by decide +kernel
theorem dX2_lock_5 : decode cX2_lock 5 = .ok (.iconst 0, 1) := by decide +kernel
theorem dX2_lock_6 : decode cX2_lock 6 = .ok (.istore_n 1, 1) := by decide +kernel
theorem dX2_lock_7 : decode cX2_lock 7 = .ok (.iconst 0, 1) := by decide +kernel
theorem dX2_lock_8 : decode cX2_lock 8 = .ok (.istore_n 2, 1) := by decide +kernel
theorem dX2_lock_9 : decode cX2_lock 9 = .ok (.iload_n 2, 1) := by decide +kernel
theorem dX2_lock_10 : decode cX2_lock 10 = .ok (.iconst 3, 1) := by decide +kernel
theorem dX2_lock_11 : decode cX2_lock 11 = .ok (.if_icmp .ge 35, 3) := by decide +kernel
theorem dX2_lock_14 : decode cX2_lock 14 = .ok (.iload_n 1, 1) := by decide +kernel
theorem dX2_lock_15 : decode cX2_lock 15 = .ok (.ifCond .ne 19, 3) := by decide +kernel
theorem dX2_lock_18 : decode cX2_lock 18 = .ok (.aload_n 0, 1) := by decide +kernel
theorem dX2_lock_19 : decode cX2_lock 19 = .ok (.iload_n 2, 1) := by decide +kernel
theorem dX2_lock_20 : decode cX2_lock 20 = .ok (.invokevirtual 40, 3) := by decide +kernel
theorem dX2_lock_23 : decode cX2_lock 23 = .ok (.ifCond .eq 15, 3) := by decide +kernel
theorem dX2_lock_26 : decode cX2_lock 26 = .ok (.aload_n 0, 1) := by decide +kernel
theorem dX2_lock_27 : decode cX2_lock 27 = .ok (.iload_n 2, 1) := by decide +kernel
theorem dX2_lock_28 : decode cX2_lock 28 = .ok (.invokevirtual 51, 3) := by decide +kernel
theorem dX2_lock_31 : decode cX2_lock 31 = .ok (.ifCond .le 7, 3) := by decide +kernel
theorem dX2_lock_34 : decode cX2_lock 34 = .ok (.iconst 1, 1) := by decide +kernel
theorem dX2_lock_35 : decode cX2_lock 35 = .ok (.goto 4, 3) := by decide +kernel
theorem dX2_lock_38 : decode cX2_lock 38 = .ok (.iconst 0, 1) := by decide +kernel
theorem dX2_lock_39 : decode cX2_lock 39 = .ok (.istore_n 1, 1) := by decide +kernel
theorem dX2_lock_40 : decode cX2_lock 40 = .ok (.iinc 2 1, 3) := by decide +kernel
theorem dX2_lock_43 : decode cX2_lock 43 = .ok (.goto (-34), 3) := by decide +kernel
theorem dX2_lock_46 : decode cX2_lock 46 = .ok (.aload_n 0, 1) := by decide +kernel
theorem dX2_lock_47 : decode cX2_lock 47 = .ok (.getfield 7, 3) := by decide +kernel
theorem dX2_lock_50 : decode cX2_lock 50 = .ok (.bipush 11, 2) := by decide +kernel
theorem dX2_lock_52 : decode cX2_lock 52 = .ok (.iaload, 1) := by decide +kernel
theorem dX2_lock_53 : decode cX2_lock 53 = .ok (.iconst 1, 1) := by decide +kernel
theorem dX2_lock_54 : decode cX2_lock 54 = .ok (.if_icmp .eq 7, 3) := by decide +kernel
theorem dX2_lock_57 : decode cX2_lock 57 = .ok (.iload_n 1, 1) := by decide +kernel
theorem dX2_lock_58 : decode cX2_lock 58 = .ok (.ifCond .ne 9, 3) := by decide +kernel
theorem dX2_lock_61 : decode cX2_lock 61 = .ok (.aload_n 0, 1) := by decide +kernel
theorem dX2_lock_62 : decode cX2_lock 62 = .ok (.iconst 1, 1) := by decide +kernel
theorem dX2_lock_63 : decode cX2_lock 63 = .ok (.invokevirtual 36, 3) := by decide +kernel
theorem dX2_lock_66 : decode cX2_lock 66 = .ok (.ireturn, 1) := by decide +kernel
theorem dX2_lock_67 : decode cX2_lock 67 = .ok (.aload_n 0, 1) := by decide +kernel
theorem dX2_lock_68 : decode cX2_lock 68 = .ok (.invokevirtual 65, 3) := by decide +kernel
theorem dX2_lock_71 : decode cX2_lock 71 = .ok (.aload_n 0, 1) := by decide +kernel
theorem dX2_lock_72 : decode cX2_lock 72 = .ok (.invokevirtual 78, 3) := by decide +kernel
theorem dX2_lock_75 : decode cX2_lock 75 = .ok (.istore_n 2, 1) := by decide +kernel
theorem dX2_lock_76 : decode cX2_lock 76 = .ok (.aload_n 0, 1) := by decide +kernel
theorem dX2_lock_77 : decode cX2_lock 77 = .ok (.getfield 7, 3) := by decide +kernel
theorem dX2_lock_80 : decode cX2_lock 80 = .ok (.bipush 11, 2) := by decide +kernel
theorem dX2_lock_82 : decode cX2_lock 82 = .ok (.iconst 1, 1) := by decide +kernel
theorem dX2_lock_83 : decode cX2_lock 83 = .ok (.iastore, 1) := by decide +kernel
theorem dX2_lock_84 : decode cX2_lock 84 = .ok (.aload_n 0, 1) := by decide +kernel
theorem dX2_lock_85 : decode cX2_lock 85 = .ok (.getfield 7, 3) := by decide +kernel
theorem dX2_lock_88 : decode cX2_lock 88 = .ok (.bipush 12, 2) := by decide +kernel
theorem dX2_lock_90 : decode cX2_lock 90 = .ok (.iload_n 2, 1) := by decide +kernel
theorem dX2_lock_91 : decode cX2_lock 91 = .ok (.iconst (-1), 1) := by decide +kernel
theorem dX2_lock_92 : decode cX2_lock 92 = .ok (.if_icmp .ne 7, 3) := by decide +kernel
theorem dX2_lock_95 : decode cX2_lock 95 = .ok (.iconst (-1), 1) := by decide +kernel
theorem dX2_lock_96 : decode cX2_lock 96 = .ok (.goto 11, 3) := by decide +kernel
theorem dX2_lock_99 : decode cX2_lock 99 = .ok (.aload_n 0, 1) := by decide +kernel
theorem dX2_lock_100 : decode cX2_lock 100 = .ok (.getfield 7, 3) := by decide +kernel
theorem dX2_lock_103 : decode cX2_lock 103 = .ok (.iconst 0, 1) := by decide +kernel
theorem dX2_lock_104 : decode cX2_lock 104 = .ok (.iaload, 1) := by decide +kernel
theorem dX2_lock_105 : decode cX2_lock 105 = .ok (.iload_n 2, 1) := by decide +kernel
theorem dX2_lock_106 : decode cX2_lock 106 = .ok (.iadd, 1) := by decide +kernel
theorem dX2_lock_107 : decode cX2_lock 107 = .ok (.iastore, 1) := by decide +kernel
theorem dX2_lock_108 : decode cX2_lock 108 = .ok (.aload_n 0, 1) := by decide +kernel
theorem dX2_lock_109 : decode cX2_lock 109 = .ok (.getfield 7, 3) := by decide +kernel
theorem dX2_lock_112 : decode cX2_lock 112 = .ok (.bipush 13, 2) := by decide +kernel
theorem dX2_lock_114 : decode cX2_lock 114 = .ok (.iconst 0, 1) := by decide +kernel
theorem dX2_lock_115 : decode cX2_lock 115 = .ok (.iastore, 1) := by decide +kernel
theorem dX2_lock_116 : decode cX2_lock 116 = .ok (.aload_n 0, 1) := by decide +kernel
theorem dX2_lock_117 : decode cX2_lock 117 = .ok (.getfield 7, 3) := by decide +kernel
theorem dX2_lock_120 : decode cX2_lock 120 = .ok (.bipush 14, 2) := by decide +kernel
theorem dX2_lock_122 : decode cX2_lock 122 = .ok (.iconst 0, 1) := by decide +kernel
theorem dX2_lock_123 : decode cX2_lock 123 = .ok (.iastore, 1) := by decide +kernel
theorem dX2_lock_124 : decode cX2_lock 124 = .ok (.iload_n 2, 1) := by decide +kernel
theorem dX2_lock_125 : decode cX2_lock 125 = .ok (.ireturn, 1) := by decide +kernel
theorem dX2_unlocks_0 : decode cX2_unlocks 0 = .ok (.aload_n 0, 1) := by decide +kernel
theorem dX2_unlocks_1 : decode cX2_unlocks 1 = .ok (.getfield 7, 3) := by decide +kernel
theorem dX2_unlocks_4 : decode cX2_unlocks 4 = .ok (.bipush 11, 2) := by decide +kernel
theorem dX2_unlocks_6 : decode cX2_unlocks 6 = .ok (.iconst 0, 1) := by decide +kernel
theorem dX2_unlocks_7 : decode cX2_unlocks 7 = .ok (.iastore, 1) := by decide +kernel
theorem dX2_unlocks_8 : decode cX2_unlocks 8 = .ok (.aload_n 0, 1) := by decide +kernel
theorem dX2_unlocks_9 : decode cX2_unlocks 9 = .ok (.getfield 7, 3) := by decide +kernel
theorem dX2_unlocks_12 : decode cX2_unlocks 12 = .ok (.bipush 12, 2) := by decide +kernel
theorem dX2_unlocks_14 : decode cX2_unlocks 14 = .ok (.iconst (-1), 1) := by decide +kernel
theorem dX2_unlocks_15 : decode cX2_unlocks 15 = .ok (.iastore, 1) := by decide +kernel
theorem dX2_unlocks_16 : decode cX2_unlocks 16 = .ok (.aload_n 0, 1) := by decide +kernel
theorem dX2_unlocks_17 : decode cX2_unlocks 17 = .ok (.getfield 7, 3) := by decide +kernel
theorem dX2_unlocks_20 : decode cX2_unlocks 20 = .ok (.bipush 13, 2) := by decide +kernel
theorem dX2_unlocks_22 : decode cX2_unlocks 22 = .ok (.iconst 0, 1) := by decide +kernel
theorem dX2_unlocks_23 : decode cX2_unlocks 23 = .ok (.iastore, 1) := by decide +kernel
theorem dX2_unlocks_24 : decode cX2_unlocks 24 = .ok (.aload_n 0, 1) := by decide +kernel
theorem dX2_unlocks_25 : decode cX2_unlocks 25 = .ok (.getfield 7, 3) := by decide +kernel
theorem dX2_unlocks_28 : decode cX2_unlocks 28 = .ok (.bipush 14, 2) := by decide +kernel
theorem dX2_unlocks_30 : decode cX2_unlocks 30 = .ok (.iconst 0, 1) := by decide +kernel
theorem dX2_unlocks_31 : decode cX2_unlocks 31 = .ok (.iastore, 1) := by decide +kernel
theorem dX2_unlocks_32 : decode cX2_unlocks 32 = .ok (.return_, 1) := by decide +kernel
set_option maxRecDepth 20000 in
theorem ggX2_open_X2_fails : GoodIn wsX2_open wsX2_fails := goodIn_r _ [7, 1, 47, 48, 49, 50, 51, 52, 53, 54, 55, 56, 57] (by decide +kernel) (by decide +kernel)
set_option maxRecDepth 20000 in
theorem gX2_open_X2_fails : GoodIn wsX2_open (wsV RX2 36 RX2 yX2_fails wsX2_fails) := goodIn_app (goodIn_of _ (by decide +kernel)) ggX2_open_X2_fails
set_option maxRecDepth 20000 in
theorem ggX2_open_X2_saves : GoodIn wsX2_open wsX2_saves := goodIn_r _ [11, 12, 13, 2, 47, 48, 49, 50, 51, 52, 53, 54, 55, 56, 57] (by decide +kernel) (by decide +kernel)
set_option maxRecDepth 20000 in
theorem gX2_open_X2_saves : GoodIn wsX2_open (wsV RX2 65 RX2 yX2_saves wsX2_saves) := goodIn_app (goodIn_of _ (by decide +kernel)) ggX2_open_X2_saves
set_option maxRecDepth 20000 in
theorem ggX2_open_X2_opensBut : GoodIn wsX2_open wsX2_opensBut := goodIn_r _ [17, 18, 2, 19, 20, 21, 6, 22, 23, 24, 25, 26, 27, 28, 29, 30, 31, 32, 33, 34, 35, 36, 37, 38, 39, 40, 41, 42, 47, 48, 49, 50, 51, 52, 53, 54, 55, 56, 57] (by decide +kernel) (by decide +kernel)
set_option maxRecDepth 20000 in
theorem gX2_open_X2_opensBut : GoodIn wsX2_open (wsV RX2 81 RX2 yX2_opensBut wsX2_opensBut) := goodIn_app (goodIn_of _ (by decide +kernel)) ggX2_open_X2_opensBut
set_option maxRecDepth 20000 in
theorem ggX2_open_X2_unlocks : GoodIn wsX2_open wsX2_unlocks := goodIn_r _ [46, 2, 47, 48, 49, 50, 51, 52, 53, 54, 55, 56, 57] (by decide +kernel) (by decide +kernel)
set_option maxRecDepth 20000 in
theorem gX2_open_X2_unlocks : GoodIn wsX2_open (wsV RX2 84 RX2 yX2_unlocks wsX2_unlocks) := goodIn_app (goodIn_of _ (by decide +kernel)) ggX2_open_X2_unlocks
theorem dX2_open_0 : decode cX2_open 0 = .ok (.aload_n 0, 1) := by decide +kernel
theorem dX2_open_1 : decode cX2_open 1 = .ok (.iconst 0, 1) := by decide +kernel
theorem dX2_open_2 : decode cX2_open 2 = .ok (.putfield 25, 3) := by decide +kernel
theorem dX2_open_5 : decode cX2_open 5 = .ok (.aload_n 0, 1) := by decide +kernel
theorem dX2_open_6 : decode cX2_open 6 = .ok (.getfield 7, 3) := by decide +kernel
theorem dX2_open_9 : decode cX2_open 9 = .ok (.bipush 11, 2) := by decide +kernel
theorem dX2_open_11 : decode cX2_open 11 = .ok (.iaload, 1) := by decide +kernel
theorem dX2_open_12 : decode cX2_open 12 = .ok (.ifCond .ne 9, 3) := by decide +kernel
theorem dX2_open_15 : decode cX2_open 15 = .ok (.aload_n 0, 1) := by decide +kernel
theorem dX2_open_16 : decode cX2_open 16 = .ok (.iconst 1, 1) := by decide +kernel
theorem dX2_open_17 : decode cX2_open 17 = .ok (.invokevirtual 36, 3) := by decide +kernel
theorem dX2_open_20 : decode cX2_open 20 = .ok (.ireturn, 1) := by decide +kernel
theorem dX2_open_21 : decode cX2_open 21 = .ok (.aload_n 0, 1) := by decide +kernel
theorem dX2_open_22 : decode cX2_open 22 = .ok (.invokevirtual 65, 3) := by decide +kernel
theorem dX2_open_25 : decode cX2_open 25 = .ok (.aload_n 0, 1) := by decide +kernel
theorem dX2_open_26 : decode cX2_open 26 = .ok (.iconst (-1), 1) := by decide +kernel
theorem dX2_open_27 : decode cX2_open 27 = .ok (.invokevirtual 81, 3) := by decide +kernel
theorem dX2_open_30 : decode cX2_open 30 = .ok (.ifCond .ne 79, 3) := by decide +kernel
theorem dX2_open_33 : decode cX2_open 33 = .ok (.aload_n 0, 1) := by decide +kernel
theorem dX2_open_34 : decode cX2_open 34 = .ok (.getfield 7, 3) := by decide +kernel
theorem dX2_open_37 : decode cX2_open 37 = .ok (.bipush 12, 2) := by decide +kernel
theorem dX2_open_39 : decode cX2_open 39 = .ok (.iaload, 1) := by decide +kernel
theorem dX2_open_40 : decode cX2_open 40 = .ok (.iconst (-1), 1) := by decide +kernel
theorem dX2_open_41 : decode cX2_open 41 = .ok (.if_icmp .ne 7, 3) := by decide +kernel
theorem dX2_open_44 : decode cX2_open 44 = .ok (.iconst 0, 1) := by decide +kernel
theorem dX2_open_45 : decode cX2_open 45 = .ok (.goto 17, 3) := by decide +kernel
theorem dX2_open_48 : decode cX2_open 48 = .ok (.aload_n 0, 1) := by decide +kernel
theorem dX2_open_49 : decode cX2_open 49 = .ok (.getfield 7, 3) := by decide +kernel
theorem dX2_open_52 : decode cX2_open 52 = .ok (.iconst 0, 1) := by decide +kernel
theorem dX2_open_53 : decode cX2_open 53 = .ok (.iaload, 1) := by decide +kernel
theorem dX2_open_54 : decode cX2_open 54 = .ok (.aload_n 0, 1) := by decide +kernel
theorem dX2_open_55 : decode cX2_open 55 = .ok (.getfield 7, 3) := by decide +kernel
theorem dX2_open_58 : decode cX2_open 58 = .ok (.bipush 12, 2) := by decide +kernel
theorem dX2_open_60 : decode cX2_open 60 = .ok (.iaload, 1) := by decide +kernel
theorem dX2_open_61 : decode cX2_open 61 = .ok (.isub, 1) := by decide +kernel
theorem dX2_open_62 : decode cX2_open 62 = .ok (.istore_n 1, 1) := by decide +kernel
theorem dX2_open_63 : decode cX2_open 63 = .ok (.aload_n 0, 1) := by decide +kernel
theorem dX2_open_64 : decode cX2_open 64 = .ok (.getfield 7, 3) := by decide +kernel
theorem dX2_open_67 : decode cX2_open 67 = .ok (.bipush 16, 2) := by decide +kernel
theorem dX2_open_69 : decode cX2_open 69 = .ok (.dup2, 1) := by decide +kernel
theorem dX2_open_70 : decode cX2_open 70 = .ok (.iaload, 1) := by decide +kernel
theorem dX2_open_71 : decode cX2_open 71 = .ok (.iconst 1, 1) := by decide +kernel
theorem dX2_open_72 : decode cX2_open 72 = .ok (.iadd, 1) := by decide +kernel
theorem dX2_open_73 : decode cX2_open 73 = .ok (.iastore, 1) := by decide +kernel
theorem dX2_open_74 : decode cX2_open 74 = .ok (.aload_n 0, 1) := by decide +kernel
theorem dX2_open_75 : decode cX2_open 75 = .ok (.getfield 7, 3) := by decide +kernel
theorem dX2_open_78 : decode cX2_open 78 = .ok (.iload_n 1, 1) := by decide +kernel
theorem dX2_open_79 : decode cX2_open 79 = .ok (.ifCond .ne 8, 3) := by decide +kernel
theorem dX2_open_82 : decode cX2_open 82 = .ok (.bipush 17, 2) := by decide +kernel
theorem dX2_open_84 : decode cX2_open 84 = .ok (.goto 14, 3) := by decide +kernel
theorem dX2_open_87 : decode cX2_open 87 = .ok (.iload_n 1, 1) := by decide +kernel
theorem dX2_open_88 : decode cX2_open 88 = .ok (.ifCond .le 8, 3) := by decide +kernel
theorem dX2_open_91 : decode cX2_open 91 = .ok (.bipush 18, 2) := by decide +kernel
theorem dX2_open_93 : decode cX2_open 93 = .ok (.goto 5, 3) := by decide +kernel
theorem dX2_open_96 : decode cX2_open 96 = .ok (.bipush 19, 2) := by decide +kernel
theorem dX2_open_98 : decode cX2_open 98 = .ok (.dup2, 1) := by decide +kernel
theorem dX2_open_99 : decode cX2_open 99 = .ok (.iaload, 1) := by decide +kernel
theorem dX2_open_100 : decode cX2_open 100 = .ok (.iconst 1, 1) := by decide +kernel
theorem dX2_open_101 : decode cX2_open 101 = .ok (.iadd, 1) := by decide +kernel
theorem dX2_open_102 : decode cX2_open 102 = .ok (.iastore, 1) := by decide +kernel
theorem dX2_open_103 : decode cX2_open 103 = .ok (.aload_n 0, 1) := by decide +kernel
theorem dX2_open_104 : decode cX2_open 104 = .ok (.invokevirtual 84, 3) := by decide +kernel
theorem dX2_open_107 : decode cX2_open 107 = .ok (.iconst 1, 1) := by decide +kernel
theorem dX2_open_108 : decode cX2_open 108 = .ok (.ireturn, 1) := by decide +kernel
theorem dX2_open_109 : decode cX2_open 109 = .ok (.aload_n 0, 1) := by decide +kernel
theorem dX2_open_110 : decode cX2_open 110 = .ok (.getfield 7, 3) := by decide +kernel
theorem dX2_open_113 : decode cX2_open 113 = .ok (.bipush 13, 2) := by decide +kernel
theorem dX2_open_115 : decode cX2_open 115 = .ok (.dup2, 1) := by decide +kernel
theorem dX2_open_116 : decode cX2_open 116 = .ok (.iaload, 1) := by decide +kernel
theorem dX2_open_117 : decode cX2_open 117 = .ok (.iconst 1, 1) := by decide +kernel
theorem dX2_open_118 : decode cX2_open 118 = .ok (.iadd, 1) := by decide +kernel
theorem dX2_open_119 : decode cX2_open 119 = .ok (.iastore, 1) := by decide +kernel
theorem dX2_open_120 : decode cX2_open 120 = .ok (.aload_n 0, 1) := by decide +kernel
theorem dX2_open_121 : decode cX2_open 121 = .ok (.getfield 7, 3) := by decide +kernel
theorem dX2_open_124 : decode cX2_open 124 = .ok (.bipush 15, 2) := by decide +kernel
theorem dX2_open_126 : decode cX2_open 126 = .ok (.dup2, 1) := by decide +kernel
theorem dX2_open_127 : decode cX2_open 127 = .ok (.iaload, 1) := by decide +kernel
theorem dX2_open_128 : decode cX2_open 128 = .ok (.iconst 1, 1) := by decide +kernel
theorem dX2_open_129 : decode cX2_open 129 = .ok (.iadd, 1) := by decide +kernel
theorem dX2_open_130 : decode cX2_open 130 = .ok (.iastore, 1) := by decide +kernel
theorem dX2_open_131 : decode cX2_open 131 = .ok (.aload_n 0, 1) := by decide +kernel
theorem dX2_open_132 : decode cX2_open 132 = .ok (.getfield 7, 3) := by decide +kernel
theorem dX2_open_135 : decode cX2_open 135 = .ok (.bipush 13, 2) := by decide +kernel
theorem dX2_open_137 : decode cX2_open 137 = .ok (.iaload, 1) := by decide +kernel
theorem dX2_open_138 : decode cX2_open 138 = .ok (.aload_n 0, 1) := by decide +kernel
theorem dX2_open_139 : decode cX2_open 139 = .ok (.getfield 7, 3) := by decide +kernel
theorem dX2_open_142 : decode cX2_open 142 = .ok (.bipush 8, 2) := by decide +kernel
theorem dX2_open_144 : decode cX2_open 144 = .ok (.iaload, 1) := by decide +kernel
theorem dX2_open_145 : decode cX2_open 145 = .ok (.if_icmp .lt 32, 3) := by decide +kernel
theorem dX2_open_148 : decode cX2_open 148 = .ok (.aload_n 0, 1) := by decide +kernel
theorem dX2_open_149 : decode cX2_open 149 = .ok (.getfield 7, 3) := by decide +kernel
theorem dX2_open_152 : decode cX2_open 152 = .ok (.bipush 13, 2) := by decide +kernel
theorem dX2_open_154 : decode cX2_open 154 = .ok (.iconst 0, 1) := by decide +kernel
theorem dX2_open_155 : decode cX2_open 155 = .ok (.iastore, 1) := by decide +kernel
theorem dX2_open_156 : decode cX2_open 156 = .ok (.aload_n 0, 1) := by decide +kernel
theorem dX2_open_157 : decode cX2_open 157 = .ok (.getfield 7, 3) := by decide +kernel
theorem dX2_open_160 : decode cX2_open 160 = .ok (.bipush 14, 2) := by decide +kernel
theorem dX2_open_162 : decode cX2_open 162 = .ok (.aload_n 0, 1) := by decide +kernel
theorem dX2_open_163 : decode cX2_open 163 = .ok (.getfield 7, 3) := by decide +kernel
theorem dX2_open_166 : decode cX2_open 166 = .ok (.iconst 0, 1) := by decide +kernel
theorem dX2_open_167 : decode cX2_open 167 = .ok (.iaload, 1) := by decide +kernel
theorem dX2_open_168 : decode cX2_open 168 = .ok (.aload_n 0, 1) := by decide +kernel
theorem dX2_open_169 : decode cX2_open 169 = .ok (.getfield 7, 3) := by decide +kernel
theorem dX2_open_172 : decode cX2_open 172 = .ok (.bipush 9, 2) := by decide +kernel
theorem dX2_open_174 : decode cX2_open 174 = .ok (.iaload, 1) := by decide +kernel
theorem dX2_open_175 : decode cX2_open 175 = .ok (.iadd, 1) := by decide +kernel
theorem dX2_open_176 : decode cX2_open 176 = .ok (.iastore, 1) := by decide +kernel
theorem dX2_open_177 : decode cX2_open 177 = .ok (.iconst 0, 1) := by decide +kernel
theorem dX2_open_178 : decode cX2_open 178 = .ok (.ireturn, 1) := by decide +kernel
set_option maxRecDepth 20000 in
theorem ggX2_drill_X2_fails : GoodIn wsX2_drill wsX2_fails := goodIn_r _ [7, 1, 18, 19, 20, 21, 22, 23, 24, 25, 26, 27, 28] (by decide +kernel) (by decide +kernel)
set_option maxRecDepth 20000 in
theorem gX2_drill_X2_fails : GoodIn wsX2_drill (wsV RX2 36 RX2 yX2_fails wsX2_fails) := goodIn_app (goodIn_of _ (by decide +kernel)) ggX2_drill_X2_fails
set_option maxRecDepth 20000 in
theorem ggX2_drill_X2_saves : GoodIn wsX2_drill wsX2_saves := goodIn_r _ [11, 12, 13, 2, 18, 19, 20, 21, 22, 23, 24, 25, 26, 27, 28] (by decide +kernel) (by decide +kernel)
set_option maxRecDepth 20000 in
theorem gX2_drill_X2_saves : GoodIn wsX2_drill (wsV RX2 65 RX2 yX2_saves wsX2_saves) := goodIn_app (goodIn_of _ (by decide +kernel)) ggX2_drill_X2_saves
set_option maxRecDepth 20000 in
theorem ggX2_drill_X2_unlocks : GoodIn wsX2_drill wsX2_unlocks := goodIn_r _ [17, 2, 18, 19, 20, 21, 22, 23, 24, 25, 26, 27, 28] (by decide +kernel) (by decide +kernel)
set_option maxRecDepth 20000 in
theorem gX2_drill_X2_unlocks : GoodIn wsX2_drill (wsV RX2 84 RX2 yX2_unlocks wsX2_unlocks) := goodIn_app (goodIn_of _ (by decide +kernel)) ggX2_drill_X2_unlocks
theorem dX2_drill_0 : decode cX2_drill 0 = .ok (.aload_n 0, 1) := by decide +kernel
theorem dX2_drill_1 : decode cX2_drill 1 = .ok (.iconst 0, 1) := by decide +kernel
theorem dX2_drill_2 : decode cX2_drill 2 = .ok (.putfield 25, 3) := by decide +kernel
theorem dX2_drill_5 : decode cX2_drill 5 = .ok (.aload_n 0, 1) := by decide +kernel
theorem dX2_drill_6 : decode cX2_drill 6 = .ok (.getfield 7, 3) := by decide +kernel
theorem dX2_drill_9 : decode cX2_drill 9 = .ok (.bipush 11, 2) := by decide +kernel
theorem dX2_drill_11 : decode cX2_drill 11 = .ok (.iaload, 1) := by decide +kernel
theorem dX2_drill_12 : decode cX2_drill 12 = .ok (.ifCond .ne 9, 3) := by decide +kernel
theorem dX2_drill_15 : decode cX2_drill 15 = .ok (.aload_n 0, 1) := by decide +kernel
theorem dX2_drill_16 : decode cX2_drill 16 = .ok (.iconst 1, 1) := by decide +kernel
theorem dX2_drill_17 : decode cX2_drill 17 = .ok (.invokevirtual 36, 3) := by decide +kernel
theorem dX2_drill_20 : decode cX2_drill 20 = .ok (.ireturn, 1) := by decide +kernel
theorem dX2_drill_21 : decode cX2_drill 21 = .ok (.aload_n 0, 1) := by decide +kernel
theorem dX2_drill_22 : decode cX2_drill 22 = .ok (.invokevirtual 65, 3) := by decide +kernel
theorem dX2_drill_25 : decode cX2_drill 25 = .ok (.aload_n 0, 1) := by decide +kernel
theorem dX2_drill_26 : decode cX2_drill 26 = .ok (.invokevirtual 84, 3) := by decide +kernel
theorem dX2_drill_29 : decode cX2_drill 29 = .ok (.iconst 0, 1) := by decide +kernel
theorem dX2_drill_30 : decode cX2_drill 30 = .ok (.istore_n 1, 1) := by decide +kernel
theorem dX2_drill_31 : decode cX2_drill 31 = .ok (.iload_n 1, 1) := by decide +kernel
theorem dX2_drill_32 : decode cX2_drill 32 = .ok (.iconst 3, 1) := by decide +kernel
theorem dX2_drill_33 : decode cX2_drill 33 = .ok (.if_icmp .ge 35, 3) := by decide +kernel
theorem dX2_drill_36 : decode cX2_drill 36 = .ok (.aload_n 0, 1) := by decide +kernel
theorem dX2_drill_37 : decode cX2_drill 37 = .ok (.getfield 7, 3) := by decide +kernel
theorem dX2_drill_40 : decode cX2_drill 40 = .ok (.bipush 21, 2) := by decide +kernel
theorem dX2_drill_42 : decode cX2_drill 42 = .ok (.iconst 4, 1) := by decide +kernel
theorem dX2_drill_43 : decode cX2_drill 43 = .ok (.iload_n 1, 1) := by decide +kernel
theorem dX2_drill_44 : decode cX2_drill 44 = .ok (.imul, 1) := by decide +kernel
theorem dX2_drill_45 : decode cX2_drill 45 = .ok (.iadd, 1) := by decide +kernel
theorem dX2_drill_46 : decode cX2_drill 46 = .ok (.iconst 0, 1) := by decide +kernel
theorem dX2_drill_47 : decode cX2_drill 47 = .ok (.iastore, 1) := by decide +kernel
theorem dX2_drill_48 : decode cX2_drill 48 = .ok (.aload_n 0, 1) := by decide +kernel
theorem dX2_drill_49 : decode cX2_drill 49 = .ok (.getfield 7, 3) := by decide +kernel
theorem dX2_drill_52 : decode cX2_drill 52 = .ok (.bipush 21, 2) := by decide +kernel
theorem dX2_drill_54 : decode cX2_drill 54 = .ok (.iconst 4, 1) := by decide +kernel
theorem dX2_drill_55 : decode cX2_drill 55 = .ok (.iload_n 1, 1) := by decide +kernel
theorem dX2_drill_56 : decode cX2_drill 56 = .ok (.imul, 1) := by decide +kernel
theorem dX2_drill_57 : decode cX2_drill 57 = .ok (.iadd, 1) := by decide +kernel
theorem dX2_drill_58 : decode cX2_drill 58 = .ok (.iconst 1, 1) := by decide +kernel
theorem dX2_drill_59 : decode cX2_drill 59 = .ok (.iadd, 1) := by decide +kernel
theorem dX2_drill_60 : decode cX2_drill 60 = .ok (.iconst 0, 1) := by decide +kernel
theorem dX2_drill_61 : decode cX2_drill 61 = .ok (.iastore, 1) := by decide +kernel
theorem dX2_drill_62 : decode cX2_drill 62 = .ok (.iinc 1 1, 3) := by decide +kernel
theorem dX2_drill_65 : decode cX2_drill 65 = .ok (.goto (-34), 3) := by decide +kernel
theorem dX2_drill_68 : decode cX2_drill 68 = .ok (.aload_n 0, 1) := by decide +kernel
theorem dX2_drill_69 : decode cX2_drill 69 = .ok (.getfield 7, 3) := by decide +kernel
theorem dX2_drill_72 : decode cX2_drill 72 = .ok (.bipush 20, 2) := by decide +kernel
theorem dX2_drill_74 : decode cX2_drill 74 = .ok (.dup2, 1) := by decide +kernel
theorem dX2_drill_75 : decode cX2_drill 75 = .ok (.iaload, 1) := by decide +kernel
theorem dX2_drill_76 : decode cX2_drill 76 = .ok (.iconst 1, 1) := by decide +kernel
theorem dX2_drill_77 : decode cX2_drill 77 = .ok (.iadd, 1) := by decide +kernel
theorem dX2_drill_78 : decode cX2_drill 78 = .ok (.iastore, 1) := by decide +kernel
theorem dX2_drill_79 : decode cX2_drill 79 = .ok (.aload_n 0, 1) := by decide +kernel
theorem dX2_drill_80 : decode cX2_drill 80 = .ok (.getfield 7, 3) := by decide +kernel
theorem dX2_drill_83 : decode cX2_drill 83 = .ok (.bipush 20, 2) := by decide +kernel
theorem dX2_drill_85 : decode cX2_drill 85 = .ok (.iaload, 1) := by decide +kernel
theorem dX2_drill_86 : decode cX2_drill 86 = .ok (.ireturn, 1) := by decide +kernel
set_option maxRecDepth 20000 in
theorem ggX2_pass_X2_in : GoodIn wsX2_pass wsX2_in := goodIn_r _ [7] (by decide +kernel) (by decide +kernel)
set_option maxRecDepth 20000 in
theorem gX2_pass_X2_in : GoodIn wsX2_pass (va_wsS RX2 29 yX2_in wsX2_in) := goodIn_app (goodIn_of _ (by decide +kernel)) ggX2_pass_X2_in
set_option maxRecDepth 20000 in
theorem ggX2_pass_X2_fails : GoodIn wsX2_pass wsX2_fails := goodIn_r _ [11, 1, 38, 39, 40, 41, 42, 43, 44, 45, 46, 47, 48] (by decide +kernel) (by decide +kernel)
set_option maxRecDepth 20000 in
theorem gX2_pass_X2_fails : GoodIn wsX2_pass (wsV RX2 36 RX2 yX2_fails wsX2_fails) := goodIn_app (goodIn_of _ (by decide +kernel)) ggX2_pass_X2_fails
set_option maxRecDepth 20000 in
theorem ggX2_pass_X2_saves : GoodIn wsX2_pass wsX2_saves := goodIn_r _ [15, 16, 17, 2, 38, 39, 40, 41, 42, 43, 44, 45, 46, 47, 48] (by decide +kernel) (by decide +kernel)
set_option maxRecDepth 20000 in
theorem gX2_pass_X2_saves : GoodIn wsX2_pass (wsV RX2 65 RX2 yX2_saves wsX2_saves) := goodIn_app (goodIn_of _ (by decide +kernel)) ggX2_pass_X2_saves
set_option maxRecDepth 20000 in
theorem ggX2_pass_X2_hourGoes : GoodIn wsX2_pass wsX2_hourGoes := goodIn_r _ [21, 2, 22, 23, 24, 6, 25, 26, 27, 28, 29, 30, 31, 32, 33, 34, 35, 36, 37, 38, 39, 40, 41, 42, 43, 44, 45, 46, 47, 48] (by decide +kernel) (by decide +kernel)
set_option maxRecDepth 20000 in
theorem gX2_pass_X2_hourGoes : GoodIn wsX2_pass (wsV RX2 88 RX2 yX2_hourGoes wsX2_hourGoes) := goodIn_app (goodIn_of _ (by decide +kernel)) ggX2_pass_X2_hourGoes
set_option maxRecDepth 20000 in
theorem ggX2_pass_X2_hours : GoodIn wsX2_pass wsX2_hours := goodIn_r _ [29, 2, 38, 39, 40, 41, 42, 43, 44, 45, 46, 47, 48] (by decide +kernel) (by decide +kernel)
set_option maxRecDepth 20000 in
theorem gX2_pass_X2_hours : GoodIn wsX2_pass (wsV RX2 51 RX2 yX2_hours wsX2_hours) := goodIn_app (goodIn_of _ (by decide +kernel)) ggX2_pass_X2_hours
theorem dX2_pass_0 : decode cX2_pass 0 = .ok (.aload_n 0, 1) := by decide +kernel
theorem dX2_pass_1 : decode cX2_pass 1 = .ok (.iconst 0, 1) := by decide +kernel
theorem dX2_pass_2 : decode cX2_pass 2 = .ok (.putfield 25, 3) := by decide +kernel
theorem dX2_pass_5 : decode cX2_pass 5 = .ok (.iload_n 1, 1) := by decide +kernel
theorem dX2_pass_6 : decode cX2_pass 6 = .ok (.iconst 1, 1) := by decide +kernel
theorem dX2_pass_7 : decode cX2_pass 7 = .ok (.sipush 200, 3) := by decide +kernel
theorem dX2_pass_10 : decode cX2_pass 10 = .ok (.invokestatic 29, 3) := by decide +kernel
theorem dX2_pass_13 : decode cX2_pass 13 = .ok (.ifCond .ne 9, 3) := by decide +kernel
theorem dX2_pass_16 : decode cX2_pass 16 = .ok (.aload_n 0, 1) := by decide +kernel
theorem dX2_pass_17 : decode cX2_pass 17 = .ok (.iconst 1, 1) := by decide +kernel
theorem dX2_pass_18 : decode cX2_pass 18 = .ok (.invokevirtual 36, 3) := by decide +kernel
theorem dX2_pass_21 : decode cX2_pass 21 = .ok (.ireturn, 1) := by decide +kernel
theorem dX2_pass_22 : decode cX2_pass 22 = .ok (.aload_n 0, 1) := by decide +kernel
theorem dX2_pass_23 : decode cX2_pass 23 = .ok (.getfield 7, 3) := by decide +kernel
theorem dX2_pass_26 : decode cX2_pass 26 = .ok (.iconst 0, 1) := by decide +kernel
theorem dX2_pass_27 : decode cX2_pass 27 = .ok (.iaload, 1) := by decide +kernel
theorem dX2_pass_28 : decode cX2_pass 28 = .ok (.iload_n 1, 1) := by decide +kernel
theorem dX2_pass_29 : decode cX2_pass 29 = .ok (.iadd, 1) := by decide +kernel
theorem dX2_pass_30 : decode cX2_pass 30 = .ok (.ldc 87, 2) := by decide +kernel
theorem dX2_pass_32 : decode cX2_pass 32 = .ok (.if_icmp .le 9, 3) := by decide +kernel
theorem dX2_pass_35 : decode cX2_pass 35 = .ok (.aload_n 0, 1) := by decide +kernel
theorem dX2_pass_36 : decode cX2_pass 36 = .ok (.iconst 2, 1) := by decide +kernel
theorem dX2_pass_37 : decode cX2_pass 37 = .ok (.invokevirtual 36, 3) := by decide +kernel
theorem dX2_pass_40 : decode cX2_pass 40 = .ok (.ireturn, 1) := by decide +kernel
theorem dX2_pass_41 : decode cX2_pass 41 = .ok (.aload_n 0, 1) := by decide +kernel
theorem dX2_pass_42 : decode cX2_pass 42 = .ok (.invokevirtual 65, 3) := by decide +kernel
theorem dX2_pass_45 : decode cX2_pass 45 = .ok (.iconst 0, 1) := by decide +kernel
theorem dX2_pass_46 : decode cX2_pass 46 = .ok (.istore_n 2, 1) := by decide +kernel
theorem dX2_pass_47 : decode cX2_pass 47 = .ok (.iload_n 2, 1) := by decide +kernel
theorem dX2_pass_48 : decode cX2_pass 48 = .ok (.iload_n 1, 1) := by decide +kernel
theorem dX2_pass_49 : decode cX2_pass 49 = .ok (.if_icmp .ge 13, 3) := by decide +kernel
theorem dX2_pass_52 : decode cX2_pass 52 = .ok (.aload_n 0, 1) := by decide +kernel
theorem dX2_pass_53 : decode cX2_pass 53 = .ok (.invokevirtual 88, 3) := by decide +kernel
theorem dX2_pass_56 : decode cX2_pass 56 = .ok (.iinc 2 1, 3) := by decide +kernel
theorem dX2_pass_59 : decode cX2_pass 59 = .ok (.goto (-12), 3) := by decide +kernel
theorem dX2_pass_62 : decode cX2_pass 62 = .ok (.iconst 0, 1) := by decide +kernel
theorem dX2_pass_63 : decode cX2_pass 63 = .ok (.istore_n 2, 1) := by decide +kernel
theorem dX2_pass_64 : decode cX2_pass 64 = .ok (.iconst 0, 1) := by decide +kernel
theorem dX2_pass_65 : decode cX2_pass 65 = .ok (.istore_n 3, 1) := by decide +kernel
theorem dX2_pass_66 : decode cX2_pass 66 = .ok (.iload_n 3, 1) := by decide +kernel
theorem dX2_pass_67 : decode cX2_pass 67 = .ok (.iconst 3, 1) := by decide +kernel
theorem dX2_pass_68 : decode cX2_pass 68 = .ok (.if_icmp .ge 25, 3) := by decide +kernel
theorem dX2_pass_71 : decode cX2_pass 71 = .ok (.iload_n 2, 1) := by decide +kernel
theorem dX2_pass_72 : decode cX2_pass 72 = .ok (.aload_n 0, 1) := by decide +kernel
theorem dX2_pass_73 : decode cX2_pass 73 = .ok (.iload_n 3, 1) := by decide +kernel
theorem dX2_pass_74 : decode cX2_pass 74 = .ok (.invokevirtual 51, 3) := by decide +kernel
theorem dX2_pass_77 : decode cX2_pass 77 = .ok (.ifCond .ne 7, 3) := by decide +kernel
theorem dX2_pass_80 : decode cX2_pass 80 = .ok (.iconst 1, 1) := by decide +kernel
theorem dX2_pass_81 : decode cX2_pass 81 = .ok (.goto 4, 3) := by decide +kernel
theorem dX2_pass_84 : decode cX2_pass 84 = .ok (.iconst 0, 1) := by decide +kernel
theorem dX2_pass_85 : decode cX2_pass 85 = .ok (.iadd, 1) := by decide +kernel
theorem dX2_pass_86 : decode cX2_pass 86 = .ok (.istore_n 2, 1) := by decide +kernel
theorem dX2_pass_87 : decode cX2_pass 87 = .ok (.iinc 3 1, 3) := by decide +kernel
theorem dX2_pass_90 : decode cX2_pass 90 = .ok (.goto (-24), 3) := by decide +kernel
theorem dX2_pass_93 : decode cX2_pass 93 = .ok (.iload_n 2, 1) := by decide +kernel
theorem dX2_pass_94 : decode cX2_pass 94 = .ok (.ireturn, 1) := by decide +kernel
set_option maxRecDepth 20000 in
theorem ggX2_append_X2_in : GoodIn wsX2_append wsX2_in := goodIn_r _ [7] (by decide +kernel) (by decide +kernel)
set_option maxRecDepth 20000 in
theorem gX2_append_X2_in : GoodIn wsX2_append (va_wsS RX2 29 yX2_in wsX2_in) := goodIn_app (goodIn_of _ (by decide +kernel)) ggX2_append_X2_in
set_option maxRecDepth 20000 in
theorem ggX2_append_X2_fails : GoodIn wsX2_append wsX2_fails := goodIn_r _ [11, 1, 12, 13, 14, 15, 16, 17, 18, 19, 20, 21, 22] (by decide +kernel) (by decide +kernel)
set_option maxRecDepth 20000 in
theorem gX2_append_X2_fails : GoodIn wsX2_append (wsV RX2 36 RX2 yX2_fails wsX2_fails) := goodIn_app (goodIn_of _ (by decide +kernel)) ggX2_append_X2_fails
theorem dX2_append_0 : decode cX2_append 0 = .ok (.aload_n 0, 1) := by decide +kernel
theorem dX2_append_1 : decode cX2_append 1 = .ok (.iconst 0, 1) := by decide +kernel
theorem dX2_append_2 : decode cX2_append 2 = .ok (.putfield 25, 3) := by decide +kernel
theorem dX2_append_5 : decode cX2_append 5 = .ok (.iload_n 1, 1) := by decide +kernel
theorem dX2_append_6 : decode cX2_append 6 = .ok (.bipush 33, 2) := by decide +kernel
theorem dX2_append_8 : decode cX2_append 8 = .ok (.bipush 126, 2) := by decide +kernel
theorem dX2_append_10 : decode cX2_append 10 = .ok (.invokestatic 29, 3) := by decide +kernel
theorem dX2_append_13 : decode cX2_append 13 = .ok (.ifCond .ne 9, 3) := by decide +kernel
theorem dX2_append_16 : decode cX2_append 16 = .ok (.aload_n 0, 1) := by decide +kernel
theorem dX2_append_17 : decode cX2_append 17 = .ok (.iconst 1, 1) := by decide +kernel
theorem dX2_append_18 : decode cX2_append 18 = .ok (.invokevirtual 36, 3) := by decide +kernel
theorem dX2_append_21 : decode cX2_append 21 = .ok (.ireturn, 1) := by decide +kernel
theorem dX2_append_22 : decode cX2_append 22 = .ok (.aload_n 0, 1) := by decide +kernel
theorem dX2_append_23 : decode cX2_append 23 = .ok (.getfield 91, 3) := by decide +kernel
theorem dX2_append_26 : decode cX2_append 26 = .ok (.bipush 60, 2) := by decide +kernel
theorem dX2_append_28 : decode cX2_append 28 = .ok (.if_icmp .ne 9, 3) := by decide +kernel
theorem dX2_append_31 : decode cX2_append 31 = .ok (.aload_n 0, 1) := by decide +kernel
theorem dX2_append_32 : decode cX2_append 32 = .ok (.iconst 2, 1) := by decide +kernel
theorem dX2_append_33 : decode cX2_append 33 = .ok (.invokevirtual 36, 3) := by decide +kernel
theorem dX2_append_36 : decode cX2_append 36 = .ok (.ireturn, 1) := by decide +kernel
theorem dX2_append_37 : decode cX2_append 37 = .ok (.aload_n 0, 1) := by decide +kernel
theorem dX2_append_38 : decode cX2_append 38 = .ok (.getfield 16, 3) := by decide +kernel
theorem dX2_append_41 : decode cX2_append 41 = .ok (.aload_n 0, 1) := by decide +kernel
theorem dX2_append_42 : decode cX2_append 42 = .ok (.getfield 91, 3) := by decide +kernel
theorem dX2_append_45 : decode cX2_append 45 = .ok (.iload_n 1, 1) := by decide +kernel
theorem dX2_append_46 : decode cX2_append 46 = .ok (.iastore, 1) := by decide +kernel
theorem dX2_append_47 : decode cX2_append 47 = .ok (.aload_n 0, 1) := by decide +kernel
theorem dX2_append_48 : decode cX2_append 48 = .ok (.dup, 1) := by decide +kernel
theorem dX2_append_49 : decode cX2_append 49 = .ok (.getfield 91, 3) := by decide +kernel
theorem dX2_append_52 : decode cX2_append 52 = .ok (.iconst 1, 1) := by decide +kernel
theorem dX2_append_53 : decode cX2_append 53 = .ok (.iadd, 1) := by decide +kernel
theorem dX2_append_54 : decode cX2_append 54 = .ok (.putfield 91, 3) := by decide +kernel
theorem dX2_append_57 : decode cX2_append 57 = .ok (.aload_n 0, 1) := by decide +kernel
theorem dX2_append_58 : decode cX2_append 58 = .ok (.getfield 91, 3) := by decide +kernel
theorem dX2_append_61 : decode cX2_append 61 = .ok (.ireturn, 1) := by decide +kernel
theorem dX2_clearBuffer_0 : decode cX2_clearBuffer 0 = .ok (.aload_n 0, 1) := by decide +kernel
theorem dX2_clearBuffer_1 : decode cX2_clearBuffer 1 = .ok (.iconst 0, 1) := by decide +kernel
theorem dX2_clearBuffer_2 : decode cX2_clearBuffer 2 = .ok (.putfield 25, 3) := by decide +kernel
theorem dX2_clearBuffer_5 : decode cX2_clearBuffer 5 = .ok (.aload_n 0, 1) := by decide +kernel
theorem dX2_clearBuffer_6 : decode cX2_clearBuffer 6 = .ok (.getfield 91, 3) := by decide +kernel
theorem dX2_clearBuffer_9 : decode cX2_clearBuffer 9 = .ok (.istore_n 1, 1) := by decide +kernel
theorem dX2_clearBuffer_10 : decode cX2_clearBuffer 10 = .ok (.aload_n 0, 1) := by decide +kernel
theorem dX2_clearBuffer_11 : decode cX2_clearBuffer 11 = .ok (.iconst 0, 1) := by decide +kernel
theorem dX2_clearBuffer_12 : decode cX2_clearBuffer 12 = .ok (.putfield 91, 3) := by decide +kernel
theorem dX2_clearBuffer_15 : decode cX2_clearBuffer 15 = .ok (.iload_n 1, 1) := by decide +kernel
theorem dX2_clearBuffer_16 : decode cX2_clearBuffer 16 = .ok (.ireturn, 1) := by decide +kernel
set_option maxRecDepth 20000 in
theorem ggX2_isAt_X2_in : GoodIn wsX2_isAt wsX2_in := goodIn_r _ [7] (by decide +kernel) (by decide +kernel)
set_option maxRecDepth 20000 in
theorem gX2_isAt_X2_in : GoodIn wsX2_isAt (va_wsS RX2 29 yX2_in wsX2_in) := goodIn_app (goodIn_of _ (by decide +kernel)) ggX2_isAt_X2_in
theorem dX2_isAt_0 : decode cX2_isAt 0 = .ok (.aload_n 0, 1) := by decide +kernel
theorem dX2_isAt_1 : decode cX2_isAt 1 = .ok (.getfield 94, 3) := by decide +kernel
theorem dX2_isAt_4 : decode cX2_isAt 4 = .ok (.aload_n 0, 1) := by decide +kernel
theorem dX2_isAt_5 : decode cX2_isAt 5 = .ok (.getfield 91, 3) := by decide +kernel
theorem dX2_isAt_8 : decode cX2_isAt 8 = .ok (.if_icmp .ge 24, 3) := by decide +kernel
theorem dX2_isAt_11 : decode cX2_isAt 11 = .ok (.aload_n 0, 1) := by decide +kernel
theorem dX2_isAt_12 : decode cX2_isAt 12 = .ok (.getfield 16, 3) := by decide +kernel
theorem dX2_isAt_15 : decode cX2_isAt 15 = .ok (.aload_n 0, 1) := by decide +kernel
theorem dX2_isAt_16 : decode cX2_isAt 16 = .ok (.getfield 94, 3) := by decide +kernel
theorem dX2_isAt_19 : decode cX2_isAt 19 = .ok (.iaload, 1) := by decide +kernel
theorem dX2_isAt_20 : decode cX2_isAt 20 = .ok (.iload_n 1, 1) := by decide +kernel
theorem dX2_isAt_21 : decode cX2_isAt 21 = .ok (.iload_n 2, 1) := by decide +kernel
theorem dX2_isAt_22 : decode cX2_isAt 22 = .ok (.invokestatic 29, 3) := by decide +kernel
theorem dX2_isAt_25 : decode cX2_isAt 25 = .ok (.ifCond .eq 7, 3) := by decide +kernel
theorem dX2_isAt_28 : decode cX2_isAt 28 = .ok (.iconst 1, 1) := by decide +kernel
theorem dX2_isAt_29 : decode cX2_isAt 29 = .ok (.goto 4, 3) := by decide +kernel
theorem dX2_isAt_32 : decode cX2_isAt 32 = .ok (.iconst 0, 1) := by decide +kernel
theorem dX2_isAt_33 : decode cX2_isAt 33 = .ok (.ireturn, 1) := by decide +kernel
theorem dX2_stops_0 : decode cX2_stops 0 = .ok (.aload_n 0, 1) := by decide +kernel
theorem dX2_stops_1 : decode cX2_stops 1 = .ok (.aload_n 0, 1) := by decide +kernel
theorem dX2_stops_2 : decode cX2_stops 2 = .ok (.getfield 94, 3) := by decide +kernel
theorem dX2_stops_5 : decode cX2_stops 5 = .ok (.aload_n 0, 1) := by decide +kernel
theorem dX2_stops_6 : decode cX2_stops 6 = .ok (.getfield 91, 3) := by decide +kernel
theorem dX2_stops_9 : decode cX2_stops 9 = .ok (.if_icmp .ge 7, 3) := by decide +kernel
theorem dX2_stops_12 : decode cX2_stops 12 = .ok (.iconst 1, 1) := by decide +kernel
theorem dX2_stops_13 : decode cX2_stops 13 = .ok (.goto 4, 3) := by decide +kernel
theorem dX2_stops_16 : decode cX2_stops 16 = .ok (.iconst 0, 1) := by decide +kernel
theorem dX2_stops_17 : decode cX2_stops 17 = .ok (.putfield 97, 3) := by decide +kernel
theorem dX2_stops_20 : decode cX2_stops 20 = .ok (.iconst 0, 1) := by decide +kernel
theorem dX2_stops_21 : decode cX2_stops 21 = .ok (.ireturn, 1) := by decide +kernel
set_option maxRecDepth 20000 in
theorem ggX2_isSign_X2_isAt : GoodIn wsX2_isSign wsX2_isAt := goodIn_r _ [6, 1, 7, 8, 9, 10, 5, 11, 12, 13, 14, 15, 16, 17, 18, 19, 20, 21, 22] (by decide +kernel) (by decide +kernel)
set_option maxRecDepth 20000 in
theorem gX2_isSign_X2_isAt : GoodIn wsX2_isSign (wsV RX2 101 RX2 yX2_isAt wsX2_isAt) := goodIn_app (goodIn_of _ (by decide +kernel)) ggX2_isSign_X2_isAt
theorem dX2_isSign_0 : decode cX2_isSign 0 = .ok (.aload_n 0, 1) := by decide +kernel
theorem dX2_isSign_1 : decode cX2_isSign 1 = .ok (.iload_n 1, 1) := by decide +kernel
theorem dX2_isSign_2 : decode cX2_isSign 2 = .ok (.iload_n 1, 1) := by decide +kernel
theorem dX2_isSign_3 : decode cX2_isSign 3 = .ok (.invokevirtual 101, 3) := by decide +kernel
theorem dX2_isSign_6 : decode cX2_isSign 6 = .ok (.istore_n 2, 1) := by decide +kernel
theorem dX2_isSign_7 : decode cX2_isSign 7 = .ok (.aload_n 0, 1) := by decide +kernel
theorem dX2_isSign_8 : decode cX2_isSign 8 = .ok (.dup, 1) := by decide +kernel
theorem dX2_isSign_9 : decode cX2_isSign 9 = .ok (.getfield 94, 3) := by decide +kernel
theorem dX2_isSign_12 : decode cX2_isSign 12 = .ok (.iload_n 2, 1) := by decide +kernel
theorem dX2_isSign_13 : decode cX2_isSign 13 = .ok (.ifCond .eq 7, 3) := by decide +kernel
theorem dX2_isSign_16 : decode cX2_isSign 16 = .ok (.iconst 1, 1) := by decide +kernel
theorem dX2_isSign_17 : decode cX2_isSign 17 = .ok (.goto 4, 3) := by decide +kernel
theorem dX2_isSign_20 : decode cX2_isSign 20 = .ok (.iconst 0, 1) := by decide +kernel
theorem dX2_isSign_21 : decode cX2_isSign 21 = .ok (.iadd, 1) := by decide +kernel
theorem dX2_isSign_22 : decode cX2_isSign 22 = .ok (.putfield 94, 3) := by decide +kernel
theorem dX2_isSign_25 : decode cX2_isSign 25 = .ok (.iload_n 2, 1) := by decide +kernel
theorem dX2_isSign_26 : decode cX2_isSign 26 = .ok (.ireturn, 1) := by decide +kernel
set_option maxRecDepth 20000 in
theorem ggX2_isNumber_X2_isAt : GoodIn wsX2_isNumber wsX2_isAt := goodIn_r _ [8, 3, 9, 2, 10, 11, 7, 12, 18, 19, 20, 21, 22, 23, 24, 25, 26, 27, 28] (by decide +kernel) (by decide +kernel)
set_option maxRecDepth 20000 in
theorem gX2_isNumber_X2_isAt : GoodIn wsX2_isNumber (wsV RX2 101 RX2 yX2_isAt wsX2_isAt) := goodIn_app (goodIn_of _ (by decide +kernel)) ggX2_isNumber_X2_isAt
set_option maxRecDepth 20000 in
theorem ggX2_isNumber_X2_stops : GoodIn wsX2_isNumber wsX2_stops := goodIn_r _ [16, 3, 9, 17, 18, 19, 20, 21, 22, 23, 24, 25, 26, 27, 28] (by decide +kernel) (by decide +kernel)
set_option maxRecDepth 20000 in
theorem gX2_isNumber_X2_stops : GoodIn wsX2_isNumber (wsV RX2 104 RX2 yX2_stops wsX2_stops) := goodIn_app (goodIn_of _ (by decide +kernel)) ggX2_isNumber_X2_stops
theorem dX2_isNumber_0 : decode cX2_isNumber 0 = .ok (.aload_n 0, 1) := by decide +kernel
theorem dX2_isNumber_1 : decode cX2_isNumber 1 = .ok (.bipush 49, 2) := by decide +kernel
theorem dX2_isNumber_3 : decode cX2_isNumber 3 = .ok (.bipush 57, 2) := by decide +kernel
theorem dX2_isNumber_5 : decode cX2_isNumber 5 = .ok (.invokevirtual 101, 3) := by decide +kernel
theorem dX2_isNumber_8 : decode cX2_isNumber 8 = .ok (.ifCond .ne 8, 3) := by decide +kernel
theorem dX2_isNumber_11 : decode cX2_isNumber 11 = .ok (.aload_n 0, 1) := by decide +kernel
theorem dX2_isNumber_12 : decode cX2_isNumber 12 = .ok (.invokevirtual 104, 3) := by decide +kernel
theorem dX2_isNumber_15 : decode cX2_isNumber 15 = .ok (.ireturn, 1) := by decide +kernel
theorem dX2_isNumber_16 : decode cX2_isNumber 16 = .ok (.aload_n 0, 1) := by decide +kernel
theorem dX2_isNumber_17 : decode cX2_isNumber 17 = .ok (.iconst 0, 1) := by decide +kernel
theorem dX2_isNumber_18 : decode cX2_isNumber 18 = .ok (.putfield 108, 3) := by decide +kernel
theorem dX2_isNumber_21 : decode cX2_isNumber 21 = .ok (.aload_n 0, 1) := by decide +kernel
theorem dX2_isNumber_22 : decode cX2_isNumber 22 = .ok (.bipush 48, 2) := by decide +kernel
theorem dX2_isNumber_24 : decode cX2_isNumber 24 = .ok (.bipush 57, 2) := by decide +kernel
theorem dX2_isNumber_26 : decode cX2_isNumber 26 = .ok (.invokevirtual 101, 3) := by decide +kernel
theorem dX2_isNumber_29 : decode cX2_isNumber 29 = .ok (.ifCond .eq 66, 3) := by decide +kernel
theorem dX2_isNumber_32 : decode cX2_isNumber 32 = .ok (.bipush 10, 2) := by decide +kernel
theorem dX2_isNumber_34 : decode cX2_isNumber 34 = .ok (.aload_n 0, 1) := by decide +kernel
theorem dX2_isNumber_35 : decode cX2_isNumber 35 = .ok (.getfield 108, 3) := by decide +kernel
theorem dX2_isNumber_38 : decode cX2_isNumber 38 = .ok (.imul, 1) := by decide +kernel
theorem dX2_isNumber_39 : decode cX2_isNumber 39 = .ok (.aload_n 0, 1) := by decide +kernel
theorem dX2_isNumber_40 : decode cX2_isNumber 40 = .ok (.getfield 16, 3) := by decide +kernel
theorem dX2_isNumber_43 : decode cX2_isNumber 43 = .ok (.aload_n 0, 1) := by decide +kernel
theorem dX2_isNumber_44 : decode cX2_isNumber 44 = .ok (.getfield 94, 3) := by decide +kernel
theorem dX2_isNumber_47 : decode cX2_isNumber 47 = .ok (.iaload, 1) := by decide +kernel
theorem dX2_isNumber_48 : decode cX2_isNumber 48 = .ok (.iadd, 1) := by decide +kernel
theorem dX2_isNumber_49 : decode cX2_isNumber 49 = .ok (.bipush 48, 2) := by decide +kernel
theorem dX2_isNumber_51 : decode cX2_isNumber 51 = .ok (.isub, 1) := by decide +kernel
theorem dX2_isNumber_52 : decode cX2_isNumber 52 = .ok (.sipush 200, 3) := by decide +kernel
theorem dX2_isNumber_55 : decode cX2_isNumber 55 = .ok (.if_icmp .gt 40, 3) := by decide +kernel
theorem dX2_isNumber_58 : decode cX2_isNumber 58 = .ok (.aload_n 0, 1) := by decide +kernel
theorem dX2_isNumber_59 : decode cX2_isNumber 59 = .ok (.bipush 10, 2) := by decide +kernel
theorem dX2_isNumber_61 : decode cX2_isNumber 61 = .ok (.aload_n 0, 1) := by decide +kernel
theorem dX2_isNumber_62 : decode cX2_isNumber 62 = .ok (.getfield 108, 3) := by decide +kernel
theorem dX2_isNumber_65 : decode cX2_isNumber 65 = .ok (.imul, 1) := by decide +kernel
theorem dX2_isNumber_66 : decode cX2_isNumber 66 = .ok (.aload_n 0, 1) := by decide +kernel
theorem dX2_isNumber_67 : decode cX2_isNumber 67 = .ok (.getfield 16, 3) := by decide +kernel
theorem dX2_isNumber_70 : decode cX2_isNumber 70 = .ok (.aload_n 0, 1) := by decide +kernel
theorem dX2_isNumber_71 : decode cX2_isNumber 71 = .ok (.getfield 94, 3) := by decide +kernel
theorem dX2_isNumber_74 : decode cX2_isNumber 74 = .ok (.iaload, 1) := by decide +kernel
theorem dX2_isNumber_75 : decode cX2_isNumber 75 = .ok (.iadd, 1) := by decide +kernel
theorem dX2_isNumber_76 : decode cX2_isNumber 76 = .ok (.bipush 48, 2) := by decide +kernel
theorem dX2_isNumber_78 : decode cX2_isNumber 78 = .ok (.isub, 1) := by decide +kernel
theorem dX2_isNumber_79 : decode cX2_isNumber 79 = .ok (.putfield 108, 3) := by decide +kernel
theorem dX2_isNumber_82 : decode cX2_isNumber 82 = .ok (.aload_n 0, 1) := by decide +kernel
theorem dX2_isNumber_83 : decode cX2_isNumber 83 = .ok (.dup, 1) := by decide +kernel
theorem dX2_isNumber_84 : decode cX2_isNumber 84 = .ok (.getfield 94, 3) := by decide +kernel
theorem dX2_isNumber_87 : decode cX2_isNumber 87 = .ok (.iconst 1, 1) := by decide +kernel
theorem dX2_isNumber_88 : decode cX2_isNumber 88 = .ok (.iadd, 1) := by decide +kernel
theorem dX2_isNumber_89 : decode cX2_isNumber 89 = .ok (.putfield 94, 3) := by decide +kernel
theorem dX2_isNumber_92 : decode cX2_isNumber 92 = .ok (.goto (-71), 3) := by decide +kernel
theorem dX2_isNumber_95 : decode cX2_isNumber 95 = .ok (.iconst 1, 1) := by decide +kernel
theorem dX2_isNumber_96 : decode cX2_isNumber 96 = .ok (.ireturn, 1) := by decide +kernel
set_option maxRecDepth 20000 in
theorem ggX2_isWinding_X2_isSign : GoodIn wsX2_isWinding wsX2_isSign := goodIn_r _ [10, 4, 11, 12, 13, 9, 14, 15, 5, 16, 17, 18, 28, 29, 30, 31, 32, 33, 34, 35, 36, 37, 38] (by decide +kernel) (by decide +kernel)
set_option maxRecDepth 20000 in
theorem gX2_isWinding_X2_isSign : GoodIn wsX2_isWinding (wsV RX2 111 RX2 yX2_isSign wsX2_isSign) := goodIn_app (goodIn_of _ (by decide +kernel)) ggX2_isWinding_X2_isSign
set_option maxRecDepth 20000 in
theorem ggX2_isWinding_X2_isNumber : GoodIn wsX2_isWinding wsX2_isNumber := goodIn_r _ [22, 3, 5, 4, 11, 12, 13, 9, 14, 15, 16, 17, 18, 23, 24, 25, 26, 27, 28, 29, 30, 31, 32, 33, 34, 35, 36, 37, 38] (by decide +kernel) (by decide +kernel)
set_option maxRecDepth 20000 in
theorem gX2_isWinding_X2_isNumber : GoodIn wsX2_isWinding (wsV RX2 114 RX2 yX2_isNumber wsX2_isNumber) := goodIn_app (goodIn_of _ (by decide +kernel)) ggX2_isWinding_X2_isNumber
set_option maxRecDepth 20000 in
theorem ggX2_isWinding_X2_isAt : GoodIn wsX2_isWinding wsX2_isAt := goodIn_r _ [14, 4, 15, 5, 16, 17, 9, 18, 28, 29, 30, 31, 32, 33, 34, 35, 36, 37, 38] (by decide +kernel) (by decide +kernel)
set_option maxRecDepth 20000 in
theorem gX2_isWinding_X2_isAt : GoodIn wsX2_isWinding (wsV RX2 101 RX2 yX2_isAt wsX2_isAt) := goodIn_app (goodIn_of _ (by decide +kernel)) ggX2_isWinding_X2_isAt
set_option maxRecDepth 20000 in
theorem ggX2_isWinding_X2_stops : GoodIn wsX2_isWinding wsX2_stops := goodIn_r _ [26, 4, 15, 27, 28, 29, 30, 31, 32, 33, 34, 35, 36, 37, 38] (by decide +kernel) (by decide +kernel)
set_option maxRecDepth 20000 in
theorem gX2_isWinding_X2_stops : GoodIn wsX2_isWinding (wsV RX2 104 RX2 yX2_stops wsX2_stops) := goodIn_app (goodIn_of _ (by decide +kernel)) ggX2_isWinding_X2_stops
theorem dX2_isWinding_0 : decode cX2_isWinding 0 = .ok (.aload_n 0, 1) := by decide +kernel
theorem dX2_isWinding_1 : decode cX2_isWinding 1 = .ok (.getfield 19, 3) := by decide +kernel
theorem dX2_isWinding_4 : decode cX2_isWinding 4 = .ok (.iload_n 1, 1) := by decide +kernel
theorem dX2_isWinding_5 : decode cX2_isWinding 5 = .ok (.iconst 0, 1) := by decide +kernel
theorem dX2_isWinding_6 : decode cX2_isWinding 6 = .ok (.iastore, 1) := by decide +kernel
theorem dX2_isWinding_7 : decode cX2_isWinding 7 = .ok (.aload_n 0, 1) := by decide +kernel
theorem dX2_isWinding_8 : decode cX2_isWinding 8 = .ok (.getfield 22, 3) := by decide +kernel
theorem dX2_isWinding_11 : decode cX2_isWinding 11 = .ok (.iload_n 1, 1) := by decide +kernel
theorem dX2_isWinding_12 : decode cX2_isWinding 12 = .ok (.iconst 0, 1) := by decide +kernel
theorem dX2_isWinding_13 : decode cX2_isWinding 13 = .ok (.iastore, 1) := by decide +kernel
theorem dX2_isWinding_14 : decode cX2_isWinding 14 = .ok (.aload_n 0, 1) := by decide +kernel
theorem dX2_isWinding_15 : decode cX2_isWinding 15 = .ok (.bipush 45, 2) := by decide +kernel
theorem dX2_isWinding_17 : decode cX2_isWinding 17 = .ok (.invokevirtual 111, 3) := by decide +kernel
theorem dX2_isWinding_20 : decode cX2_isWinding 20 = .ok (.ifCond .eq 5, 3) := by decide +kernel
theorem dX2_isWinding_23 : decode cX2_isWinding 23 = .ok (.iconst 1, 1) := by decide +kernel
theorem dX2_isWinding_24 : decode cX2_isWinding 24 = .ok (.ireturn, 1) := by decide +kernel
theorem dX2_isWinding_25 : decode cX2_isWinding 25 = .ok (.aload_n 0, 1) := by decide +kernel
theorem dX2_isWinding_26 : decode cX2_isWinding 26 = .ok (.bipush 110, 2) := by decide +kernel
theorem dX2_isWinding_28 : decode cX2_isWinding 28 = .ok (.invokevirtual 111, 3) := by decide +kernel
theorem dX2_isWinding_31 : decode cX2_isWinding 31 = .ok (.ifCond .ne 27, 3) := by decide +kernel
theorem dX2_isWinding_34 : decode cX2_isWinding 34 = .ok (.aload_n 0, 1) := by decide +kernel
theorem dX2_isWinding_35 : decode cX2_isWinding 35 = .ok (.getfield 19, 3) := by decide +kernel
theorem dX2_isWinding_38 : decode cX2_isWinding 38 = .ok (.iload_n 1, 1) := by decide +kernel
theorem dX2_isWinding_39 : decode cX2_isWinding 39 = .ok (.iconst 1, 1) := by decide +kernel
theorem dX2_isWinding_40 : decode cX2_isWinding 40 = .ok (.iastore, 1) := by decide +kernel
theorem dX2_isWinding_41 : decode cX2_isWinding 41 = .ok (.aload_n 0, 1) := by decide +kernel
theorem dX2_isWinding_42 : decode cX2_isWinding 42 = .ok (.invokevirtual 114, 3) := by decide +kernel
theorem dX2_isWinding_45 : decode cX2_isWinding 45 = .ok (.istore_n 2, 1) := by decide +kernel
theorem dX2_isWinding_46 : decode cX2_isWinding 46 = .ok (.aload_n 0, 1) := by decide +kernel
theorem dX2_isWinding_47 : decode cX2_isWinding 47 = .ok (.getfield 22, 3) := by decide +kernel
theorem dX2_isWinding_50 : decode cX2_isWinding 50 = .ok (.iload_n 1, 1) := by decide +kernel
theorem dX2_isWinding_51 : decode cX2_isWinding 51 = .ok (.aload_n 0, 1) := by decide +kernel
theorem dX2_isWinding_52 : decode cX2_isWinding 52 = .ok (.getfield 108, 3) := by decide +kernel
theorem dX2_isWinding_55 : decode cX2_isWinding 55 = .ok (.iastore, 1) := by decide +kernel
theorem dX2_isWinding_56 : decode cX2_isWinding 56 = .ok (.iload_n 2, 1) := by decide +kernel
theorem dX2_isWinding_57 : decode cX2_isWinding 57 = .ok (.ireturn, 1) := by decide +kernel
theorem dX2_isWinding_58 : decode cX2_isWinding 58 = .ok (.aload_n 0, 1) := by decide +kernel
theorem dX2_isWinding_59 : decode cX2_isWinding 59 = .ok (.getfield 19, 3) := by decide +kernel
theorem dX2_isWinding_62 : decode cX2_isWinding 62 = .ok (.iload_n 1, 1) := by decide +kernel
theorem dX2_isWinding_63 : decode cX2_isWinding 63 = .ok (.iconst 2, 1) := by decide +kernel
theorem dX2_isWinding_64 : decode cX2_isWinding 64 = .ok (.iastore, 1) := by decide +kernel
theorem dX2_isWinding_65 : decode cX2_isWinding 65 = .ok (.aload_n 0, 1) := by decide +kernel
theorem dX2_isWinding_66 : decode cX2_isWinding 66 = .ok (.bipush 45, 2) := by decide +kernel
theorem dX2_isWinding_68 : decode cX2_isWinding 68 = .ok (.bipush 45, 2) := by decide +kernel
theorem dX2_isWinding_70 : decode cX2_isWinding 70 = .ok (.invokevirtual 101, 3) := by decide +kernel
theorem dX2_isWinding_73 : decode cX2_isWinding 73 = .ok (.istore_n 2, 1) := by decide +kernel
theorem dX2_isWinding_74 : decode cX2_isWinding 74 = .ok (.iload_n 2, 1) := by decide +kernel
theorem dX2_isWinding_75 : decode cX2_isWinding 75 = .ok (.ifCond .ne 14, 3) := by decide +kernel
theorem dX2_isWinding_78 : decode cX2_isWinding 78 = .ok (.aload_n 0, 1) := by decide +kernel
theorem dX2_isWinding_79 : decode cX2_isWinding 79 = .ok (.bipush 43, 2) := by decide +kernel
theorem dX2_isWinding_81 : decode cX2_isWinding 81 = .ok (.bipush 43, 2) := by decide +kernel
theorem dX2_isWinding_83 : decode cX2_isWinding 83 = .ok (.invokevirtual 101, 3) := by decide +kernel
theorem dX2_isWinding_86 : decode cX2_isWinding 86 = .ok (.ifCond .eq 76, 3) := by decide +kernel
theorem dX2_isWinding_89 : decode cX2_isWinding 89 = .ok (.aload_n 0, 1) := by decide +kernel
theorem dX2_isWinding_90 : decode cX2_isWinding 90 = .ok (.dup, 1) := by decide +kernel
theorem dX2_isWinding_91 : decode cX2_isWinding 91 = .ok (.getfield 94, 3) := by decide +kernel
theorem dX2_isWinding_94 : decode cX2_isWinding 94 = .ok (.iconst 1, 1) := by decide +kernel
theorem dX2_isWinding_95 : decode cX2_isWinding 95 = .ok (.iadd, 1) := by decide +kernel
theorem dX2_isWinding_96 : decode cX2_isWinding 96 = .ok (.putfield 94, 3) := by decide +kernel
theorem dX2_isWinding_99 : decode cX2_isWinding 99 = .ok (.aload_n 0, 1) := by decide +kernel
theorem dX2_isWinding_100 : decode cX2_isWinding 100 = .ok (.bipush 49, 2) := by decide +kernel
theorem dX2_isWinding_102 : decode cX2_isWinding 102 = .ok (.bipush 57, 2) := by decide +kernel
theorem dX2_isWinding_104 : decode cX2_isWinding 104 = .ok (.invokevirtual 101, 3) := by decide +kernel
theorem dX2_isWinding_107 : decode cX2_isWinding 107 = .ok (.ifCond .ne 8, 3) := by decide +kernel
theorem dX2_isWinding_110 : decode cX2_isWinding 110 = .ok (.aload_n 0, 1) := by decide +kernel
theorem dX2_isWinding_111 : decode cX2_isWinding 111 = .ok (.invokevirtual 104, 3) := by decide +kernel
theorem dX2_isWinding_114 : decode cX2_isWinding 114 = .ok (.ireturn, 1) := by decide +kernel
theorem dX2_isWinding_115 : decode cX2_isWinding 115 = .ok (.aload_n 0, 1) := by decide +kernel
theorem dX2_isWinding_116 : decode cX2_isWinding 116 = .ok (.getfield 22, 3) := by decide +kernel
theorem dX2_isWinding_119 : decode cX2_isWinding 119 = .ok (.iload_n 1, 1) := by decide +kernel
theorem dX2_isWinding_120 : decode cX2_isWinding 120 = .ok (.iload_n 2, 1) := by decide +kernel
theorem dX2_isWinding_121 : decode cX2_isWinding 121 = .ok (.ifCond .eq 18, 3) := by decide +kernel
theorem dX2_isWinding_124 : decode cX2_isWinding 124 = .ok (.bipush 48, 2) := by decide +kernel
theorem dX2_isWinding_126 : decode cX2_isWinding 126 = .ok (.aload_n 0, 1) := by decide +kernel
theorem dX2_isWinding_127 : decode cX2_isWinding 127 = .ok (.getfield 16, 3) := by decide +kernel
theorem dX2_isWinding_130 : decode cX2_isWinding 130 = .ok (.aload_n 0, 1) := by decide +kernel
theorem dX2_isWinding_131 : decode cX2_isWinding 131 = .ok (.getfield 94, 3) := by decide +kernel
theorem dX2_isWinding_134 : decode cX2_isWinding 134 = .ok (.iaload, 1) := by decide +kernel
theorem dX2_isWinding_135 : decode cX2_isWinding 135 = .ok (.isub, 1) := by decide +kernel
theorem dX2_isWinding_136 : decode cX2_isWinding 136 = .ok (.goto 15, 3) := by decide +kernel
theorem dX2_isWinding_139 : decode cX2_isWinding 139 = .ok (.aload_n 0, 1) := by decide +kernel
theorem dX2_isWinding_140 : decode cX2_isWinding 140 = .ok (.getfield 16, 3) := by decide +kernel
theorem dX2_isWinding_143 : decode cX2_isWinding 143 = .ok (.aload_n 0, 1) := by decide +kernel
theorem dX2_isWinding_144 : decode cX2_isWinding 144 = .ok (.getfield 94, 3) := by decide +kernel
theorem dX2_isWinding_147 : decode cX2_isWinding 147 = .ok (.iaload, 1) := by decide +kernel
theorem dX2_isWinding_148 : decode cX2_isWinding 148 = .ok (.bipush 48, 2) := by decide +kernel
theorem dX2_isWinding_150 : decode cX2_isWinding 150 = .ok (.isub, 1) := by decide +kernel
theorem dX2_isWinding_151 : decode cX2_isWinding 151 = .ok (.iastore, 1) := by decide +kernel
theorem dX2_isWinding_152 : decode cX2_isWinding 152 = .ok (.aload_n 0, 1) := by decide +kernel
theorem dX2_isWinding_153 : decode cX2_isWinding 153 = .ok (.dup, 1) := by decide +kernel
theorem dX2_isWinding_154 : decode cX2_isWinding 154 = .ok (.getfield 94, 3) := by decide +kernel
theorem dX2_isWinding_157 : decode cX2_isWinding 157 = .ok (.iconst 1, 1) := by decide +kernel
theorem dX2_isWinding_158 : decode cX2_isWinding 158 = .ok (.iadd, 1) := by decide +kernel
theorem dX2_isWinding_159 : decode cX2_isWinding 159 = .ok (.putfield 94, 3) := by decide +kernel
theorem dX2_isWinding_162 : decode cX2_isWinding 162 = .ok (.iconst 1, 1) := by decide +kernel
theorem dX2_isWinding_163 : decode cX2_isWinding 163 = .ok (.ireturn, 1) := by decide +kernel
set_option maxRecDepth 20000 in
theorem ggX2_isText_X2_isSign : GoodIn wsX2_isText wsX2_isSign := goodIn_r _ [8, 1, 9, 10, 11, 7, 12, 3, 13, 14, 15, 16, 32, 33, 34, 35, 36, 37, 38, 39, 40, 41, 42] (by decide +kernel) (by decide +kernel)
set_option maxRecDepth 20000 in
theorem gX2_isText_X2_isSign : GoodIn wsX2_isText (wsV RX2 111 RX2 yX2_isSign wsX2_isSign) := goodIn_app (goodIn_of _ (by decide +kernel)) ggX2_isText_X2_isSign
set_option maxRecDepth 20000 in
theorem ggX2_isText_X2_stops : GoodIn wsX2_isText wsX2_stops := goodIn_r _ [20, 1, 3, 2, 32, 33, 34, 35, 36, 37, 38, 39, 40, 41, 42] (by decide +kernel) (by decide +kernel)
set_option maxRecDepth 20000 in
theorem gX2_isText_X2_stops : GoodIn wsX2_isText (wsV RX2 104 RX2 yX2_stops wsX2_stops) := goodIn_app (goodIn_of _ (by decide +kernel)) ggX2_isText_X2_stops
set_option maxRecDepth 20000 in
theorem ggX2_isText_X2_isWinding : GoodIn wsX2_isText wsX2_isWinding := goodIn_r _ [24, 25, 26, 27, 1, 13, 4, 5, 6, 7, 8, 9, 10, 11, 12, 3, 14, 15, 16, 28, 29, 30, 31, 17, 18, 19, 20, 2, 32, 33, 34, 35, 36, 37, 38, 39, 40, 41, 42] (by decide +kernel) (by decide +kernel)
set_option maxRecDepth 20000 in
theorem gX2_isText_X2_isWinding : GoodIn wsX2_isText (wsV RX2 117 RX2 yX2_isWinding wsX2_isWinding) := goodIn_app (goodIn_of _ (by decide +kernel)) ggX2_isText_X2_isWinding
theorem dX2_isText_0 : decode cX2_isText 0 = .ok (.aload_n 0, 1) := by decide +kernel
theorem dX2_isText_1 : decode cX2_isText 1 = .ok (.iconst 0, 1) := by decide +kernel
theorem dX2_isText_2 : decode cX2_isText 2 = .ok (.putfield 94, 3) := by decide +kernel
theorem dX2_isText_5 : decode cX2_isText 5 = .ok (.aload_n 0, 1) := by decide +kernel
theorem dX2_isText_6 : decode cX2_isText 6 = .ok (.iconst 0, 1) := by decide +kernel
theorem dX2_isText_7 : decode cX2_isText 7 = .ok (.putfield 97, 3) := by decide +kernel
theorem dX2_isText_10 : decode cX2_isText 10 = .ok (.iconst 0, 1) := by decide +kernel
theorem dX2_isText_11 : decode cX2_isText 11 = .ok (.istore_n 1, 1) := by decide +kernel
theorem dX2_isText_12 : decode cX2_isText 12 = .ok (.iload_n 1, 1) := by decide +kernel
theorem dX2_isText_13 : decode cX2_isText 13 = .ok (.iconst 3, 1) := by decide +kernel
theorem dX2_isText_14 : decode cX2_isText 14 = .ok (.if_icmp .ge 37, 3) := by decide +kernel
theorem dX2_isText_17 : decode cX2_isText 17 = .ok (.iload_n 1, 1) := by decide +kernel
theorem dX2_isText_18 : decode cX2_isText 18 = .ok (.ifCond .le 17, 3) := by decide +kernel
theorem dX2_isText_21 : decode cX2_isText 21 = .ok (.aload_n 0, 1) := by decide +kernel
theorem dX2_isText_22 : decode cX2_isText 22 = .ok (.bipush 44, 2) := by decide +kernel
theorem dX2_isText_24 : decode cX2_isText 24 = .ok (.invokevirtual 111, 3) := by decide +kernel
theorem dX2_isText_27 : decode cX2_isText 27 = .ok (.ifCond .ne 8, 3) := by decide +kernel
theorem dX2_isText_30 : decode cX2_isText 30 = .ok (.aload_n 0, 1) := by decide +kernel
theorem dX2_isText_31 : decode cX2_isText 31 = .ok (.invokevirtual 104, 3) := by decide +kernel
theorem dX2_isText_34 : decode cX2_isText 34 = .ok (.ireturn, 1) := by decide +kernel
theorem dX2_isText_35 : decode cX2_isText 35 = .ok (.aload_n 0, 1) := by decide +kernel
theorem dX2_isText_36 : decode cX2_isText 36 = .ok (.iload_n 1, 1) := by decide +kernel
theorem dX2_isText_37 : decode cX2_isText 37 = .ok (.invokevirtual 117, 3) := by decide +kernel
theorem dX2_isText_40 : decode cX2_isText 40 = .ok (.ifCond .ne 5, 3) := by decide +kernel
theorem dX2_isText_43 : decode cX2_isText 43 = .ok (.iconst 0, 1) := by decide +kernel
theorem dX2_isText_44 : decode cX2_isText 44 = .ok (.ireturn, 1) := by decide +kernel
theorem dX2_isText_45 : decode cX2_isText 45 = .ok (.iinc 1 1, 3) := by decide +kernel
theorem dX2_isText_48 : decode cX2_isText 48 = .ok (.goto (-36), 3) := by decide +kernel
theorem dX2_isText_51 : decode cX2_isText 51 = .ok (.aload_n 0, 1) := by decide +kernel
theorem dX2_isText_52 : decode cX2_isText 52 = .ok (.aload_n 0, 1) := by decide +kernel
theorem dX2_isText_53 : decode cX2_isText 53 = .ok (.getfield 94, 3) := by decide +kernel
theorem dX2_isText_56 : decode cX2_isText 56 = .ok (.aload_n 0, 1) := by decide +kernel
theorem dX2_isText_57 : decode cX2_isText 57 = .ok (.getfield 91, 3) := by decide +kernel
theorem dX2_isText_60 : decode cX2_isText 60 = .ok (.if_icmp .ge 7, 3) := by decide +kernel
theorem dX2_isText_63 : decode cX2_isText 63 = .ok (.iconst 1, 1) := by decide +kernel
theorem dX2_isText_64 : decode cX2_isText 64 = .ok (.goto 4, 3) := by decide +kernel
theorem dX2_isText_67 : decode cX2_isText 67 = .ok (.iconst 0, 1) := by decide +kernel
theorem dX2_isText_68 : decode cX2_isText 68 = .ok (.putfield 97, 3) := by decide +kernel
theorem dX2_isText_71 : decode cX2_isText 71 = .ok (.aload_n 0, 1) := by decide +kernel
theorem dX2_isText_72 : decode cX2_isText 72 = .ok (.getfield 94, 3) := by decide +kernel
theorem dX2_isText_75 : decode cX2_isText 75 = .ok (.aload_n 0, 1) := by decide +kernel
theorem dX2_isText_76 : decode cX2_isText 76 = .ok (.getfield 91, 3) := by decide +kernel
theorem dX2_isText_79 : decode cX2_isText 79 = .ok (.if_icmp .ne 7, 3) := by decide +kernel
theorem dX2_isText_82 : decode cX2_isText 82 = .ok (.iconst 1, 1) := by decide +kernel
theorem dX2_isText_83 : decode cX2_isText 83 = .ok (.goto 4, 3) := by decide +kernel
theorem dX2_isText_86 : decode cX2_isText 86 = .ok (.iconst 0, 1) := by decide +kernel
theorem dX2_isText_87 : decode cX2_isText 87 = .ok (.ireturn, 1) := by decide +kernel
set_option maxRecDepth 20000 in
theorem ggX2_firstError_X2_isText : GoodIn wsX2_firstError wsX2_isText := goodIn_r _ [9, 3, 2, 4, 10, 11, 12, 8, 13, 14, 15, 16, 17, 18, 19, 20, 21, 22, 23, 24, 25, 26, 27, 28, 29, 30, 31, 32, 33, 34, 35, 36, 37, 38, 39, 40, 41, 42, 43, 44, 45, 46, 47] (by decide +kernel) (by decide +kernel)
set_option maxRecDepth 20000 in
theorem gX2_firstError_X2_isText : GoodIn wsX2_firstError (wsV RX2 120 RX2 yX2_isText wsX2_isText) := goodIn_app (goodIn_of _ (by decide +kernel)) ggX2_firstError_X2_isText
theorem dX2_firstError_0 : decode cX2_firstError 0 = .ok (.aload_n 0, 1) := by decide +kernel
theorem dX2_firstError_1 : decode cX2_firstError 1 = .ok (.iconst 0, 1) := by decide +kernel
theorem dX2_firstError_2 : decode cX2_firstError 2 = .ok (.putfield 25, 3) := by decide +kernel
theorem dX2_firstError_5 : decode cX2_firstError 5 = .ok (.aload_n 0, 1) := by decide +kernel
theorem dX2_firstError_6 : decode cX2_firstError 6 = .ok (.invokevirtual 120, 3) := by decide +kernel
theorem dX2_firstError_9 : decode cX2_firstError 9 = .ok (.istore_n 1, 1) := by decide +kernel
theorem dX2_firstError_10 : decode cX2_firstError 10 = .ok (.iload_n 1, 1) := by decide +kernel
theorem dX2_firstError_11 : decode cX2_firstError 11 = .ok (.ifCond .ne 17, 3) := by decide +kernel
theorem dX2_firstError_14 : decode cX2_firstError 14 = .ok (.aload_n 0, 1) := by decide +kernel
theorem dX2_firstError_15 : decode cX2_firstError 15 = .ok (.getfield 97, 3) := by decide +kernel
theorem dX2_firstError_18 : decode cX2_firstError 18 = .ok (.ifCond .eq 10, 3) := by decide +kernel
theorem dX2_firstError_21 : decode cX2_firstError 21 = .ok (.aload_n 0, 1) := by decide +kernel
theorem dX2_firstError_22 : decode cX2_firstError 22 = .ok (.getfield 94, 3) := by decide +kernel
theorem dX2_firstError_25 : decode cX2_firstError 25 = .ok (.goto 7, 3) := by decide +kernel
theorem dX2_firstError_28 : decode cX2_firstError 28 = .ok (.aload_n 0, 1) := by decide +kernel
theorem dX2_firstError_29 : decode cX2_firstError 29 = .ok (.getfield 91, 3) := by decide +kernel
theorem dX2_firstError_32 : decode cX2_firstError 32 = .ok (.ireturn, 1) := by decide +kernel
