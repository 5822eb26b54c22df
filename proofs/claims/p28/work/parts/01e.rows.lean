theorem dL_clock_538 : decode cL_clock 538 = .ok (.invokevirtual 49, 3) := by decide +kernel
theorem dL_clock_541 : decode cL_clock 541 = .ok (.aload_n 0, 1) := by decide +kernel
theorem dL_clock_542 : decode cL_clock 542 = .ok (.bipush 7, 2) := by decide +kernel
theorem dL_clock_544 : decode cL_clock 544 = .ok (.invokevirtual 34, 3) := by decide +kernel
theorem dL_clock_547 : decode cL_clock 547 = .ok (.if_icmp .lt 7, 3) := by decide +kernel
theorem dL_clock_550 : decode cL_clock 550 = .ok (.iconst 1, 1) := by decide +kernel
theorem dL_clock_551 : decode cL_clock 551 = .ok (.goto 4, 3) := by decide +kernel
theorem dL_clock_554 : decode cL_clock 554 = .ok (.iconst 0, 1) := by decide +kernel
theorem dL_clock_555 : decode cL_clock 555 = .ok (.istore 4, 2) := by decide +kernel
theorem dL_clock_557 : decode cL_clock 557 = .ok (.aload_n 0, 1) := by decide +kernel
theorem dL_clock_558 : decode cL_clock 558 = .ok (.bipush 9, 2) := by decide +kernel
theorem dL_clock_560 : decode cL_clock 560 = .ok (.invokevirtual 34, 3) := by decide +kernel
theorem dL_clock_563 : decode cL_clock 563 = .ok (.aload_n 0, 1) := by decide +kernel
theorem dL_clock_564 : decode cL_clock 564 = .ok (.bipush 13, 2) := by decide +kernel
theorem dL_clock_566 : decode cL_clock 566 = .ok (.invokevirtual 34, 3) := by decide +kernel
theorem dL_clock_569 : decode cL_clock 569 = .ok (.iadd, 1) := by decide +kernel
theorem dL_clock_570 : decode cL_clock 570 = .ok (.istore 5, 2) := by decide +kernel
theorem dL_clock_572 : decode cL_clock 572 = .ok (.iload 4, 2) := by decide +kernel
theorem dL_clock_574 : decode cL_clock 574 = .ok (.ifCond .eq 60, 3) := by decide +kernel
theorem dL_clock_577 : decode cL_clock 577 = .ok (.iload 5, 2) := by decide +kernel
theorem dL_clock_579 : decode cL_clock 579 = .ok (.ifCond .gt 12, 3) := by decide +kernel
theorem dL_clock_582 : decode cL_clock 582 = .ok (.aload_n 0, 1) := by decide +kernel
theorem dL_clock_583 : decode cL_clock 583 = .ok (.invokevirtual 58, 3) := by decide +kernel
theorem dL_clock_586 : decode cL_clock 586 = .ok (.dconst 1, 1) := by decide +kernel
theorem dL_clock_587 : decode cL_clock 587 = .ok (.dcmp .l, 1) := by decide +kernel
theorem dL_clock_588 : decode cL_clock 588 = .ok (.ifCond .ne 46, 3) := by decide +kernel
theorem dL_clock_591 : decode cL_clock 591 = .ok (.aload_n 0, 1) := by decide +kernel
theorem dL_clock_592 : decode cL_clock 592 = .ok (.invokevirtual 58, 3) := by decide +kernel
theorem dL_clock_595 : decode cL_clock 595 = .ok (.dconst 0, 1) := by decide +kernel
theorem dL_clock_596 : decode cL_clock 596 = .ok (.dcmp .l, 1) := by decide +kernel
theorem dL_clock_597 : decode cL_clock 597 = .ok (.ifCond .lt 37, 3) := by decide +kernel
theorem dL_clock_600 : decode cL_clock 600 = .ok (.aload_n 0, 1) := by decide +kernel
theorem dL_clock_601 : decode cL_clock 601 = .ok (.invokevirtual 58, 3) := by decide +kernel
theorem dL_clock_604 : decode cL_clock 604 = .ok (.dconst 1, 1) := by decide +kernel
theorem dL_clock_605 : decode cL_clock 605 = .ok (.dcmp .g, 1) := by decide +kernel
theorem dL_clock_606 : decode cL_clock 606 = .ok (.ifCond .gt 28, 3) := by decide +kernel
theorem dL_clock_609 : decode cL_clock 609 = .ok (.aload_n 0, 1) := by decide +kernel
theorem dL_clock_610 : decode cL_clock 610 = .ok (.invokevirtual 55, 3) := by decide +kernel
theorem dL_clock_613 : decode cL_clock 613 = .ok (.iconst (-1), 1) := by decide +kernel
theorem dL_clock_614 : decode cL_clock 614 = .ok (.if_icmp .eq 16, 3) := by decide +kernel
theorem dL_clock_617 : decode cL_clock 617 = .ok (.aload_n 0, 1) := by decide +kernel
theorem dL_clock_618 : decode cL_clock 618 = .ok (.aload_n 0, 1) := by decide +kernel
theorem dL_clock_619 : decode cL_clock 619 = .ok (.invokevirtual 55, 3) := by decide +kernel
theorem dL_clock_622 : decode cL_clock 622 = .ok (.iconst 1, 1) := by decide +kernel
theorem dL_clock_623 : decode cL_clock 623 = .ok (.invokevirtual 40, 3) := by decide +kernel
theorem dL_clock_626 : decode cL_clock 626 = .ok (.iconst 1, 1) := by decide +kernel
theorem dL_clock_627 : decode cL_clock 627 = .ok (.if_icmp .ne 7, 3) := by decide +kernel
theorem dL_clock_630 : decode cL_clock 630 = .ok (.iconst 1, 1) := by decide +kernel
theorem dL_clock_631 : decode cL_clock 631 = .ok (.goto 4, 3) := by decide +kernel
theorem dL_clock_634 : decode cL_clock 634 = .ok (.iconst 0, 1) := by decide +kernel
theorem dL_clock_635 : decode cL_clock 635 = .ok (.ireturn, 1) := by decide +kernel
set_option maxRecDepth 20000 in
theorem ggL_act_L_cell : GoodIn wsL_act wsL_cell := goodIn_r _ [4, 5] (by decide +kernel) (by decide +kernel)
set_option maxRecDepth 20000 in
theorem gL_act_L_cell : GoodIn wsL_act (va_wsS RL 62 yL_cell wsL_cell) := goodIn_app (goodIn_of _ (by decide +kernel)) ggL_act_L_cell
set_option maxRecDepth 20000 in
theorem ggL_act_L_low : GoodIn wsL_act wsL_low := goodIn_r _ [8, 9] (by decide +kernel) (by decide +kernel)
set_option maxRecDepth 20000 in
theorem gL_act_L_low : GoodIn wsL_act (va_wsS RL 68 yL_low wsL_low) := goodIn_app (goodIn_of _ (by decide +kernel)) ggL_act_L_low
set_option maxRecDepth 20000 in
theorem ggL_act_L_wind : GoodIn wsL_act wsL_wind := goodIn_ca (goodIn_ca (goodIn_ca (goodIn_r _ [12, 13, 14, 15, 16, 17, 18, 19, 20, 21, 22, 23, 24, 25, 26, 27, 28, 29, 30, 31, 32, 33, 34, 35, 36, 37, 38, 39, 40, 41, 42, 43, 44, 45, 46, 47, 48, 49, 50, 51, 52, 53, 54, 55, 56, 149, 150, 151, 152, 153, 154] (by decide +kernel) (by decide +kernel)) (goodIn_sub (fun _ h => List.mem_cons_of_mem _ (List.mem_append_left _ (List.mem_append_left _ (List.mem_append_right _ h)))) (by decide +kernel))) (goodIn_sub (fun _ h => List.mem_cons_of_mem _ (List.mem_append_left _ (List.mem_append_right _ h))) (by decide +kernel))) (goodIn_sub (fun _ h => List.mem_cons_of_mem _ (List.mem_append_right _ h)) (by decide +kernel))
set_option maxRecDepth 20000 in
theorem gL_act_L_wind : GoodIn wsL_act (va_wsS RL 71 yL_wind wsL_wind) := goodIn_app (goodIn_of _ (by decide +kernel)) ggL_act_L_wind
set_option maxRecDepth 20000 in
theorem ggL_act_L_lock : GoodIn wsL_act wsL_lock := goodIn_ca (goodIn_r _ [59, 13, 60, 61, 62, 17, 63, 23, 24, 35, 31, 32, 33, 34, 64, 65, 66, 67, 36, 37, 38, 39, 40, 41, 42, 47, 48, 49, 50, 51, 52, 53, 54, 55, 56, 68, 69, 70, 71, 72, 73, 74, 75, 76, 77, 78, 79, 149, 150, 151, 152, 153, 154] (by decide +kernel) (by decide +kernel)) (goodIn_sub (fun _ h => List.mem_cons_of_mem _ (List.mem_append_right _ h)) (by decide +kernel))
set_option maxRecDepth 20000 in
theorem gL_act_L_lock : GoodIn wsL_act (va_wsS RL 74 yL_lock wsL_lock) := goodIn_app (goodIn_of _ (by decide +kernel)) ggL_act_L_lock
set_option maxRecDepth 20000 in
theorem ggL_act_X1_fault : GoodIn wsL_act wsX1_fault := goodIn_ca (goodIn_r _ [83, 19, 20, 25, 26, 17, 27, 40, 41, 42, 43, 44, 45, 46, 35, 47, 48, 49, 50, 51, 52, 53, 54, 55, 56, 149, 150, 151, 152, 153, 154] (by decide +kernel) (by decide +kernel)) (goodIn_sub (fun _ h => List.mem_cons_of_mem _ (List.mem_append_left _ (List.mem_append_left _ (List.mem_append_right _ h)))) (by decide +kernel))
set_option maxRecDepth 20000 in
theorem gL_act_X1_fault : GoodIn wsL_act (wsV RL 77 RX1 yX1_fault wsX1_fault) := goodIn_app (goodIn_of _ (by decide +kernel)) ggL_act_X1_fault
set_option maxRecDepth 20000 in
theorem ggL_act_X1_loss : GoodIn wsL_act wsX1_loss := goodIn_ca (goodIn_ca (goodIn_r _ [87, 19, 20, 21, 22, 25, 26, 17, 27, 40, 41, 42, 43, 44, 45, 46, 35, 47, 48, 49, 50, 51, 52, 53, 54, 55, 56, 149, 150, 151, 152, 153, 154] (by decide +kernel) (by decide +kernel)) (goodIn_sub (fun _ h => List.mem_cons_of_mem _ (List.mem_append_left _ (List.mem_append_left _ (List.mem_append_right _ h)))) (by decide +kernel))) (goodIn_sub (fun _ h => List.mem_cons_of_mem _ (List.mem_append_left _ (List.mem_append_right _ h))) (by decide +kernel))
set_option maxRecDepth 20000 in
theorem gL_act_X1_loss : GoodIn wsL_act (wsV RL 81 RX1 yX1_loss wsX1_loss) := goodIn_app (goodIn_of _ (by decide +kernel)) ggL_act_X1_loss
set_option maxRecDepth 20000 in
theorem ggL_act_L_service : GoodIn wsL_act wsL_service := goodIn_ca (goodIn_ca (goodIn_r _ [90, 13, 91, 92, 93, 17, 94, 19, 20, 23, 24, 35, 25, 26, 27, 31, 32, 33, 34, 40, 41, 42, 43, 44, 45, 46, 47, 48, 49, 50, 51, 52, 53, 54, 55, 56, 149, 150, 151, 152, 153, 154] (by decide +kernel) (by decide +kernel)) (goodIn_sub (fun _ h => List.mem_cons_of_mem _ (List.mem_append_left _ (List.mem_append_left _ (List.mem_append_right _ h)))) (by decide +kernel))) (goodIn_sub (fun _ h => List.mem_cons_of_mem _ (List.mem_append_right _ h)) (by decide +kernel))
set_option maxRecDepth 20000 in
theorem gL_act_L_service : GoodIn wsL_act (va_wsS RL 84 yL_service wsL_service) := goodIn_app (goodIn_of _ (by decide +kernel)) ggL_act_L_service
set_option maxRecDepth 20000 in
theorem ggL_act_X1_opening : GoodIn wsL_act wsX1_opening := goodIn_ca (goodIn_ca (goodIn_r _ [98, 19, 20, 21, 22, 99, 100, 17, 101, 43, 44, 45, 46, 35, 47, 48, 49, 50, 51, 52, 53, 54, 55, 56, 149, 150, 151, 152, 153, 154] (by decide +kernel) (by decide +kernel)) (goodIn_sub (fun _ h => List.mem_cons_of_mem _ (List.mem_append_left _ (List.mem_append_left _ (List.mem_append_right _ h)))) (by decide +kernel))) (goodIn_sub (fun _ h => List.mem_cons_of_mem _ (List.mem_append_left _ (List.mem_append_right _ h))) (by decide +kernel))
set_option maxRecDepth 20000 in
theorem gL_act_X1_opening : GoodIn wsL_act (wsV RL 87 RX1 yX1_opening wsX1_opening) := goodIn_app (goodIn_of _ (by decide +kernel)) ggL_act_X1_opening
set_option maxRecDepth 20000 in
theorem ggL_act_X1_set : GoodIn wsL_act wsX1_set := goodIn_ca (goodIn_ca (goodIn_r _ [105, 19, 20, 21, 22, 106, 107, 108, 109, 17, 110, 43, 44, 45, 46, 35, 47, 48, 49, 50, 51, 52, 53, 54, 55, 56, 149, 150, 151, 152, 153, 154] (by decide +kernel) (by decide +kernel)) (goodIn_sub (fun _ h => List.mem_cons_of_mem _ (List.mem_append_left _ (List.mem_append_left _ (List.mem_append_right _ h)))) (by decide +kernel))) (goodIn_sub (fun _ h => List.mem_cons_of_mem _ (List.mem_append_left _ (List.mem_append_right _ h))) (by decide +kernel))
set_option maxRecDepth 20000 in
theorem gL_act_X1_set : GoodIn wsL_act (wsV RL 90 RX1 yX1_set wsX1_set) := goodIn_app (goodIn_of _ (by decide +kernel)) ggL_act_X1_set
set_option maxRecDepth 20000 in
theorem ggL_act_L_drill : GoodIn wsL_act wsL_drill := goodIn_ca (goodIn_r _ [113, 13, 114, 115, 116, 17, 117, 23, 24, 35, 31, 32, 33, 34, 47, 48, 49, 50, 51, 52, 53, 54, 55, 56, 40, 41, 42, 118, 119, 120, 121, 149, 150, 151, 152, 153, 154] (by decide +kernel) (by decide +kernel)) (goodIn_sub (fun _ h => List.mem_cons_of_mem _ (List.mem_append_right _ h)) (by decide +kernel))
set_option maxRecDepth 20000 in
theorem gL_act_L_drill : GoodIn wsL_act (va_wsS RL 93 yL_drill wsL_drill) := goodIn_app (goodIn_of _ (by decide +kernel)) ggL_act_L_drill
set_option maxRecDepth 20000 in
theorem ggL_act_L_undo : GoodIn wsL_act wsL_undo := goodIn_ca (goodIn_r _ [124, 13, 125, 126, 127, 17, 128, 23, 24, 51, 52, 35, 53, 54, 55, 56, 149, 150, 151, 152, 153, 154] (by decide +kernel) (by decide +kernel)) (goodIn_sub (fun _ h => List.mem_cons_of_mem _ (List.mem_append_right _ h)) (by decide +kernel))
set_option maxRecDepth 20000 in
theorem gL_act_L_undo : GoodIn wsL_act (va_wsS RL 95 yL_undo wsL_undo) := goodIn_app (goodIn_of _ (by decide +kernel)) ggL_act_L_undo
set_option maxRecDepth 20000 in
theorem ggL_act_X1_pass : GoodIn wsL_act wsX1_pass := goodIn_ca (goodIn_ca (goodIn_r _ [132, 21, 22, 23, 24, 35, 133, 47, 48, 49, 17, 50, 51, 52, 53, 54, 55, 56, 134, 135, 136, 137, 31, 32, 33, 34, 138, 139, 140, 141, 36, 37, 38, 39, 40, 41, 42, 142, 143, 144, 145, 146, 147, 148, 149, 150, 151, 152, 153, 154] (by decide +kernel) (by decide +kernel)) (goodIn_sub (fun _ h => List.mem_cons_of_mem _ (List.mem_append_left _ (List.mem_append_right _ h))) (by decide +kernel))) (goodIn_sub (fun _ h => List.mem_cons_of_mem _ (List.mem_append_right _ h)) (by decide +kernel))
set_option maxRecDepth 20000 in
theorem gL_act_X1_pass : GoodIn wsL_act (wsV RL 97 RX1 yX1_pass wsX1_pass) := goodIn_app (goodIn_of _ (by decide +kernel)) ggL_act_X1_pass
theorem dL_act_0 : decode cL_act 0 = .ok (.aload_n 1, 1) := by decide +kernel
theorem dL_act_1 : decode cL_act 1 = .ok (.iload_n 2, 1) := by decide +kernel
theorem dL_act_2 : decode cL_act 2 = .ok (.iconst 1, 1) := by decide +kernel
theorem dL_act_3 : decode cL_act 3 = .ok (.iadd, 1) := by decide +kernel
theorem dL_act_4 : decode cL_act 4 = .ok (.invokestatic 62, 3) := by decide +kernel
theorem dL_act_7 : decode cL_act 7 = .ok (.istore_n 3, 1) := by decide +kernel
theorem dL_act_8 : decode cL_act 8 = .ok (.aload_n 1, 1) := by decide +kernel
theorem dL_act_9 : decode cL_act 9 = .ok (.iload_n 2, 1) := by decide +kernel
theorem dL_act_10 : decode cL_act 10 = .ok (.iconst 2, 1) := by decide +kernel
theorem dL_act_11 : decode cL_act 11 = .ok (.iadd, 1) := by decide +kernel
theorem dL_act_12 : decode cL_act 12 = .ok (.invokestatic 62, 3) := by decide +kernel
theorem dL_act_15 : decode cL_act 15 = .ok (.istore 4, 2) := by decide +kernel
theorem dL_act_17 : decode cL_act 17 = .ok (.iload_n 3, 1) := by decide +kernel
theorem dL_act_18 : decode cL_act 18 = .ok (.iconst 3, 1) := by decide +kernel
theorem dL_act_19 : decode cL_act 19 = .ok (.invokestatic 68, 3) := by decide +kernel
theorem dL_act_22 : decode cL_act 22 = .ok (.istore 5, 2) := by decide +kernel
theorem dL_act_24 : decode cL_act 24 = .ok (.aload_n 1, 1) := by decide +kernel
theorem dL_act_25 : decode cL_act 25 = .ok (.iload_n 2, 1) := by decide +kernel
theorem dL_act_26 : decode cL_act 26 = .ok (.invokestatic 62, 3) := by decide +kernel
theorem dL_act_29 : decode cL_act 29 = .ok (.bipush 16, 2) := by decide +kernel
theorem dL_act_31 : decode cL_act 31 = .ok (.invokestatic 68, 3) := by decide +kernel
theorem dL_act_34 : decode cL_act 34 = .ok (.tableswitch 214 0 11 #[62, 62, 62, 78, 78, 94, 115, 129, 136, 158, 177, 209], 62) := by decide +kernel
theorem dL_act_96 : decode cL_act 96 = .ok (.aload_n 0, 1) := by decide +kernel
theorem dL_act_97 : decode cL_act 97 = .ok (.iload 5, 2) := by decide +kernel
theorem dL_act_99 : decode cL_act 99 = .ok (.iconst 1, 1) := by decide +kernel
theorem dL_act_100 : decode cL_act 100 = .ok (.iload 4, 2) := by decide +kernel
theorem dL_act_102 : decode cL_act 102 = .ok (.bipush 60, 2) := by decide +kernel
theorem dL_act_104 : decode cL_act 104 = .ok (.invokestatic 68, 3) := by decide +kernel
theorem dL_act_107 : decode cL_act 107 = .ok (.iadd, 1) := by decide +kernel
theorem dL_act_108 : decode cL_act 108 = .ok (.invokestatic 71, 3) := by decide +kernel
theorem dL_act_111 : decode cL_act 111 = .ok (.ireturn, 1) := by decide +kernel
theorem dL_act_112 : decode cL_act 112 = .ok (.aload_n 0, 1) := by decide +kernel
theorem dL_act_113 : decode cL_act 113 = .ok (.invokestatic 74, 3) := by decide +kernel
theorem dL_act_116 : decode cL_act 116 = .ok (.bipush (-3), 2) := by decide +kernel
theorem dL_act_118 : decode cL_act 118 = .ok (.if_icmp .ne 8, 3) := by decide +kernel
theorem dL_act_121 : decode cL_act 121 = .ok (.bipush (-3), 2) := by decide +kernel
theorem dL_act_123 : decode cL_act 123 = .ok (.goto 4, 3) := by decide +kernel
theorem dL_act_126 : decode cL_act 126 = .ok (.iconst 0, 1) := by decide +kernel
theorem dL_act_127 : decode cL_act 127 = .ok (.ireturn, 1) := by decide +kernel
theorem dL_act_128 : decode cL_act 128 = .ok (.aload_n 0, 1) := by decide +kernel
theorem dL_act_129 : decode cL_act 129 = .ok (.iload 5, 2) := by decide +kernel
theorem dL_act_131 : decode cL_act 131 = .ok (.iload 4, 2) := by decide +kernel
theorem dL_act_133 : decode cL_act 133 = .ok (.iconst 3, 1) := by decide +kernel
theorem dL_act_134 : decode cL_act 134 = .ok (.invokestatic 68, 3) := by decide +kernel
theorem dL_act_137 : decode cL_act 137 = .ok (.ifCond .le 7, 3) := by decide +kernel
theorem dL_act_140 : decode cL_act 140 = .ok (.iconst 1, 1) := by decide +kernel
theorem dL_act_141 : decode cL_act 141 = .ok (.goto 4, 3) := by decide +kernel
theorem dL_act_144 : decode cL_act 144 = .ok (.iconst 0, 1) := by decide +kernel
theorem dL_act_145 : decode cL_act 145 = .ok (.invokevirtual 77, 3) := by decide +kernel
theorem dL_act_148 : decode cL_act 148 = .ok (.ireturn, 1) := by decide +kernel
theorem dL_act_149 : decode cL_act 149 = .ok (.aload_n 0, 1) := by decide +kernel
theorem dL_act_150 : decode cL_act 150 = .ok (.iload 5, 2) := by decide +kernel
theorem dL_act_152 : decode cL_act 152 = .ok (.iload 4, 2) := by decide +kernel
theorem dL_act_154 : decode cL_act 154 = .ok (.bipush 21, 2) := by decide +kernel
theorem dL_act_156 : decode cL_act 156 = .ok (.invokestatic 68, 3) := by decide +kernel
theorem dL_act_159 : decode cL_act 159 = .ok (.invokevirtual 81, 3) := by decide +kernel
theorem dL_act_162 : decode cL_act 162 = .ok (.ireturn, 1) := by decide +kernel
theorem dL_act_163 : decode cL_act 163 = .ok (.aload_n 0, 1) := by decide +kernel
theorem dL_act_164 : decode cL_act 164 = .ok (.iload 5, 2) := by decide +kernel
theorem dL_act_166 : decode cL_act 166 = .ok (.invokestatic 84, 3) := by decide +kernel
theorem dL_act_169 : decode cL_act 169 = .ok (.ireturn, 1) := by decide +kernel
theorem dL_act_170 : decode cL_act 170 = .ok (.aload_n 0, 1) := by decide +kernel
theorem dL_act_171 : decode cL_act 171 = .ok (.iload_n 3, 1) := by decide +kernel
theorem dL_act_172 : decode cL_act 172 = .ok (.bipush 7, 2) := by decide +kernel
theorem dL_act_174 : decode cL_act 174 = .ok (.invokestatic 68, 3) := by decide +kernel
theorem dL_act_177 : decode cL_act 177 = .ok (.iload 4, 2) := by decide +kernel
theorem dL_act_179 : decode cL_act 179 = .ok (.bipush 25, 2) := by decide +kernel
theorem dL_act_181 : decode cL_act 181 = .ok (.invokestatic 68, 3) := by decide +kernel
theorem dL_act_184 : decode cL_act 184 = .ok (.iconst 1, 1) := by decide +kernel
theorem dL_act_185 : decode cL_act 185 = .ok (.isub, 1) := by decide +kernel
theorem dL_act_186 : decode cL_act 186 = .ok (.invokevirtual 87, 3) := by decide +kernel
theorem dL_act_189 : decode cL_act 189 = .ok (.iconst 1, 1) := by decide +kernel
theorem dL_act_190 : decode cL_act 190 = .ok (.iadd, 1) := by decide +kernel
theorem dL_act_191 : decode cL_act 191 = .ok (.ireturn, 1) := by decide +kernel
theorem dL_act_192 : decode cL_act 192 = .ok (.aload_n 0, 1) := by decide +kernel
theorem dL_act_193 : decode cL_act 193 = .ok (.iload_n 3, 1) := by decide +kernel
theorem dL_act_194 : decode cL_act 194 = .ok (.iconst 2, 1) := by decide +kernel
theorem dL_act_195 : decode cL_act 195 = .ok (.invokestatic 68, 3) := by decide +kernel
theorem dL_act_198 : decode cL_act 198 = .ok (.iconst 1, 1) := by decide +kernel
theorem dL_act_199 : decode cL_act 199 = .ok (.iload 4, 2) := by decide +kernel
theorem dL_act_201 : decode cL_act 201 = .ok (.bipush 9, 2) := by decide +kernel
theorem dL_act_203 : decode cL_act 203 = .ok (.invokestatic 68, 3) := by decide +kernel
theorem dL_act_206 : decode cL_act 206 = .ok (.iadd, 1) := by decide +kernel
theorem dL_act_207 : decode cL_act 207 = .ok (.invokevirtual 90, 3) := by decide +kernel
theorem dL_act_210 : decode cL_act 210 = .ok (.ireturn, 1) := by decide +kernel
theorem dL_act_211 : decode cL_act 211 = .ok (.iload 4, 2) := by decide +kernel
theorem dL_act_213 : decode cL_act 213 = .ok (.iconst 4, 1) := by decide +kernel
theorem dL_act_214 : decode cL_act 214 = .ok (.invokestatic 68, 3) := by decide +kernel
theorem dL_act_217 : decode cL_act 217 = .ok (.ifCond .ne 10, 3) := by decide +kernel
theorem dL_act_220 : decode cL_act 220 = .ok (.aload_n 0, 1) := by decide +kernel
theorem dL_act_221 : decode cL_act 221 = .ok (.invokestatic 93, 3) := by decide +kernel
theorem dL_act_224 : decode cL_act 224 = .ok (.goto 18, 3) := by decide +kernel
theorem dL_act_227 : decode cL_act 227 = .ok (.aload_n 0, 1) := by decide +kernel
theorem dL_act_228 : decode cL_act 228 = .ok (.iconst 2, 1) := by decide +kernel
theorem dL_act_229 : decode cL_act 229 = .ok (.bipush 10, 2) := by decide +kernel
theorem dL_act_231 : decode cL_act 231 = .ok (.iload 4, 2) := by decide +kernel
theorem dL_act_233 : decode cL_act 233 = .ok (.bipush 90, 2) := by decide +kernel
theorem dL_act_235 : decode cL_act 235 = .ok (.invokestatic 68, 3) := by decide +kernel
theorem dL_act_238 : decode cL_act 238 = .ok (.iadd, 1) := by decide +kernel
theorem dL_act_239 : decode cL_act 239 = .ok (.invokevirtual 90, 3) := by decide +kernel
theorem dL_act_242 : decode cL_act 242 = .ok (.ireturn, 1) := by decide +kernel
theorem dL_act_243 : decode cL_act 243 = .ok (.aload_n 0, 1) := by decide +kernel
theorem dL_act_244 : decode cL_act 244 = .ok (.invokestatic 95, 3) := by decide +kernel
theorem dL_act_247 : decode cL_act 247 = .ok (.ireturn, 1) := by decide +kernel
theorem dL_act_248 : decode cL_act 248 = .ok (.aload_n 0, 1) := by decide +kernel
theorem dL_act_249 : decode cL_act 249 = .ok (.iconst 1, 1) := by decide +kernel
theorem dL_act_250 : decode cL_act 250 = .ok (.iload 4, 2) := by decide +kernel
theorem dL_act_252 : decode cL_act 252 = .ok (.bipush 30, 2) := by decide +kernel
theorem dL_act_254 : decode cL_act 254 = .ok (.invokestatic 68, 3) := by decide +kernel
theorem dL_act_257 : decode cL_act 257 = .ok (.iadd, 1) := by decide +kernel
theorem dL_act_258 : decode cL_act 258 = .ok (.invokevirtual 97, 3) := by decide +kernel
theorem dL_act_261 : decode cL_act 261 = .ok (.ireturn, 1) := by decide +kernel
set_option maxRecDepth 20000 in
theorem ggL_law_X1_init : GoodIn wsL_law wsX1_init := goodIn_r _ [5, 6, 7, 8, 9, 10, 11, 12, 13, 14, 15, 16, 17, 18, 19, 20, 21, 22, 23, 24, 25, 26, 260, 261, 262, 263, 264, 265, 266, 267, 268, 269] (by decide +kernel) (by decide +kernel)
set_option maxRecDepth 20000 in
theorem gL_law_X1_init : GoodIn wsL_law (wsX1_init) := ggL_law_X1_init
set_option maxRecDepth 20000 in
theorem ggL_law_X1_count : GoodIn wsL_law wsX1_count := goodIn_ca (goodIn_r _ [30, 31, 32, 33, 34, 35, 2, 36, 10, 12, 37, 38, 39, 40, 41, 42, 43, 44, 45, 46, 47, 48, 49, 50, 51, 52, 53, 54, 55, 56, 260, 261, 262, 263, 264, 265] (by decide +kernel) (by decide +kernel)) (goodIn_sub (fun _ h => List.mem_append_left _ (List.mem_append_left _ (List.mem_append_right _ h))) (by decide +kernel))
set_option maxRecDepth 20000 in
theorem gL_law_X1_count : GoodIn wsL_law (wsV RL 34 RX1 yX1_count wsX1_count) := goodIn_app (goodIn_of _ (by decide +kernel)) ggL_law_X1_count
set_option maxRecDepth 20000 in
theorem ggL_law_L_cell : GoodIn wsL_law wsL_cell := goodIn_r _ [60, 61] (by decide +kernel) (by decide +kernel)
set_option maxRecDepth 20000 in
theorem gL_law_L_cell : GoodIn wsL_law (va_wsS RL 62 yL_cell wsL_cell) := goodIn_app (goodIn_of _ (by decide +kernel)) ggL_law_L_cell
set_option maxRecDepth 20000 in
theorem ggL_law_L_low : GoodIn wsL_law wsL_low := goodIn_r _ [64, 65] (by decide +kernel) (by decide +kernel)
set_option maxRecDepth 20000 in
theorem gL_law_L_low : GoodIn wsL_law (va_wsS RL 68 yL_low wsL_low) := goodIn_app (goodIn_of _ (by decide +kernel)) ggL_law_L_low
set_option maxRecDepth 20000 in
theorem ggL_law_X1_opensIn : GoodIn wsL_law wsX1_opensIn := goodIn_r _ [69, 70, 71, 72, 2, 73, 53, 54, 55, 56, 74, 75, 76, 77, 10, 78, 79, 80, 81, 82, 83, 84, 85, 86, 87, 88, 49, 50, 51, 52, 260, 261, 262, 263, 264, 265] (by decide +kernel) (by decide +kernel)
set_option maxRecDepth 20000 in
theorem gL_law_X1_opensIn : GoodIn wsL_law (wsV RL 49 RX1 yX1_opensIn wsX1_opensIn) := goodIn_app (goodIn_of _ (by decide +kernel)) ggL_law_X1_opensIn
set_option maxRecDepth 20000 in
theorem ggL_law_L_open : GoodIn wsL_law wsL_open := goodIn_ca (goodIn_r _ [91, 92, 93, 94, 95, 2, 96, 97, 98, 74, 75, 76, 77, 10, 99, 100, 101, 102, 12, 11, 103, 104, 105, 106, 70, 71, 72, 73, 53, 54, 55, 56, 78, 79, 80, 81, 82, 83, 84, 85, 86, 87, 88, 49, 50, 51, 52, 107, 108, 109, 110, 111, 112, 113, 114, 115, 116, 117, 118, 119, 120, 121, 122, 260, 261, 262, 263, 264, 265] (by decide +kernel) (by decide +kernel)) (goodIn_sub (fun _ h => List.mem_append_left _ (List.mem_append_right _ h)) (by decide +kernel))
set_option maxRecDepth 20000 in
theorem gL_law_L_open : GoodIn wsL_law (va_wsS RL 101 yL_open wsL_open) := goodIn_app (goodIn_of _ (by decide +kernel)) ggL_law_L_open
set_option maxRecDepth 20000 in
theorem ggL_law_X1_setting : GoodIn wsL_law wsX1_setting := goodIn_ca (goodIn_r _ [126, 127, 128, 10, 129, 130, 2, 131, 260, 261, 262, 263, 264, 265] (by decide +kernel) (by decide +kernel)) (goodIn_sub (fun _ h => List.mem_append_right _ h) (by decide +kernel))
set_option maxRecDepth 20000 in
theorem gL_law_X1_setting : GoodIn wsL_law (wsV RL 43 RX1 yX1_setting wsX1_setting) := goodIn_app (goodIn_of _ (by decide +kernel)) ggL_law_X1_setting
