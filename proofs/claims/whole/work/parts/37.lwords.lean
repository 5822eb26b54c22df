/-! the words of the law, list by list -/
theorem wsL_law_a1 : ∀ w ∈ wsL_law0_r1, w ∈ lw_tbl := fun w h => (goodIn_p wsL_law0_r1 [73, 76] (by decide +kernel) (by decide +kernel) w h).1
theorem wsL_law_a2 : ∀ w ∈ wsL_law0_r2, w ∈ lw_tbl := fun w h => (goodIn_p wsL_law0_r2 [81, 568] (by decide +kernel) (by decide +kernel) w h).1
theorem wsL_law_a3 : ∀ w ∈ wsL_law0_r3, w ∈ lw_tbl := fun w h => (goodIn_p wsL_law0_r3 [258, 261, 349, 353] (by decide +kernel) (by decide +kernel) w h).1
theorem wsL_law_a4 : ∀ w ∈ wsL_law0_r4, w ∈ lw_tbl := fun w h => (goodIn_p wsL_law0_r4 [619, 622, 625, 615, 629, 633] (by decide +kernel) (by decide +kernel) w h).1
theorem wsL_law_a5 : ∀ w ∈ wsL_law0_r5, w ∈ lw_tbl := fun w h => (goodIn_p wsL_law0_r5 [607, 363, 366, 637, 640] (by decide +kernel) (by decide +kernel) w h).1
theorem wsL_law_a6 : ∀ w ∈ wsL_law0_r6, w ∈ lw_tbl := fun w h => (goodIn_p wsL_law0_r6 [380, 383, 239, 169, 173, 176] (by decide +kernel) (by decide +kernel) w h).1
theorem wsL_law_a7 : ∀ w ∈ wsL_law0_r7, w ∈ lw_tbl := fun w h => (goodIn_p wsL_law0_r7 [644, 647, 651, 408, 655] (by decide +kernel) (by decide +kernel) w h).1
theorem wsL_law_a8 : ∀ w ∈ wsL_law0_r8, w ∈ lw_tbl := fun w h => (goodIn_p wsL_law0_r8 [415, 659, 423, 663] (by decide +kernel) (by decide +kernel) w h).1
theorem wsL_law_a9 : ∀ w ∈ wsL_law0_r9, w ∈ lw_tbl := fun w h => (goodIn_p wsL_law0_r9 [431, 435, 225, 217, 221, 667] (by decide +kernel) (by decide +kernel) w h).1
theorem wsL_law_a10 : ∀ w ∈ wsL_law0_r10, w ∈ lw_tbl := fun w h => (goodIn_p wsL_law0_r10 [671, 675, 443, 165, 187] (by decide +kernel) (by decide +kernel) w h).1
theorem wsL_law_a11 : ∀ w ∈ wsL_law0_r11, w ∈ lw_tbl := fun w h => (goodIn_p wsL_law0_r11 [180, 184, 448, 195, 452, 456] (by decide +kernel) (by decide +kernel) w h).1
theorem wsL_law_a12 : ∀ w ∈ wsL_law0_r12, w ∈ lw_tbl := fun w h => (goodIn_p wsL_law0_r12 [679, 683, 688, 692, 696, 700] (by decide +kernel) (by decide +kernel) w h).1
theorem wsL_law_a13 : ∀ w ∈ wsL_law0_r13, w ∈ lw_tbl := fun w h => (goodIn_p wsL_law0_r13 [704, 463, 708, 470] (by decide +kernel) (by decide +kernel) w h).1
theorem wsL_law_a14 : ∀ w ∈ wsL_law0_r14, w ∈ lw_tbl := fun w h => (goodIn_p wsL_law0_r14 [476, 480, 236, 484, 712, 717] (by decide +kernel) (by decide +kernel) w h).1
theorem wsL_law_a15 : ∀ w ∈ wsL_law0_r15, w ∈ lw_tbl := fun w h => (goodIn_p wsL_law0_r15 [491, 721, 121, 725, 125] (by decide +kernel) (by decide +kernel) w h).1
theorem wsL_law_a16 : ∀ w ∈ wsL_law0_r16, w ∈ lw_tbl := fun w h => (goodIn_p wsL_law0_r16 [129, 133, 137, 141, 145, 149] (by decide +kernel) (by decide +kernel) w h).1
theorem wsL_law_a17 : ∀ w ∈ wsL_law0_r17, w ∈ lw_tbl := fun w h => (goodIn_p wsL_law0_r17 [153, 157, 729, 733, 737, 741] (by decide +kernel) (by decide +kernel) w h).1
theorem wsL_law_a18 : ∀ w ∈ wsL_law0_r18, w ∈ lw_tbl := fun w h => (goodIn_p wsL_law0_r18 [745, 749, 753, 500, 504] (by decide +kernel) (by decide +kernel) w h).1
theorem wsL_law_a19 : ∀ w ∈ wsL_law0_r19, w ∈ lw_tbl := fun w h => (goodIn_p wsL_law0_r19 [509, 513, 517, 757, 761, 765] (by decide +kernel) (by decide +kernel) w h).1
theorem wsL_law_a20 : ∀ w ∈ wsL_law0_r20, w ∈ lw_tbl := fun w h => (goodIn_p wsL_law0_r20 [525, 611, 533, 229] (by decide +kernel) (by decide +kernel) w h).1
theorem wsL_law_a21 : ∀ w ∈ wsL_law0_r21, w ∈ lw_tbl := fun w h => (goodIn_p wsL_law0_r21 [769, 773, 541, 777, 548] (by decide +kernel) (by decide +kernel) w h).1
theorem wsL_law_a22 : ∀ w ∈ wsL_law0_r22, w ∈ lw_tbl := fun w h => (goodIn_p wsL_law0_r22 [213, 781, 785, 556, 789] (by decide +kernel) (by decide +kernel) w h).1
theorem wsL_law_a23 : ∀ w ∈ wsL_law0_r23, w ∈ lw_tbl := fun w h => (goodIn_p wsL_law0_r23 [161, 793, 191, 797, 801, 199] (by decide +kernel) (by decide +kernel) w h).1
theorem wsL_law_a24 : ∀ w ∈ wsL_law0_r24, w ∈ lw_tbl := fun w h => (goodIn_p wsL_law0_r24 [805, 809, 563, 233, 813] (by decide +kernel) (by decide +kernel) w h).1
theorem wsL_law_a25 : ∀ w ∈ wsL_law0_r25, w ∈ lw_tbl := fun w h => (goodIn_p wsL_law0_r25 [817, 203, 821, 825, 207] (by decide +kernel) (by decide +kernel) w h).1
theorem wsL_law_a26 : ∀ w ∈ wsL_law0_r26, w ∈ lw_tbl := fun w h => (goodIn_p wsL_law0_r26 [246, 829, 834, 837] (by decide +kernel) (by decide +kernel) w h).1
theorem wsL_law_bX10 : ∀ w ∈ wsX10, w ∈ lw_tbl := by decide +kernel
theorem wsL_law_bX20 : ∀ w ∈ wsX20, w ∈ lw_tbl := by decide +kernel
theorem wsL_law_bX00 : ∀ w ∈ wsX00, w ∈ lw_tbl := by decide +kernel
theorem wsL_law_in0 : ∀ w ∈ wsL_law0, w ∈ lw_tbl := fun w h => by
  rcases List.mem_append.mp h with h | h
  · rcases List.mem_append.mp h with h | h
    · rcases List.mem_append.mp h with h | h
      · rcases List.mem_append.mp h with h | h
        · exact (List.mem_append.mp h).elim (fun h => wsL_law_a1 w h) (fun h => (List.mem_append.mp h).elim (fun h => wsL_law_a2 w h) (fun h => (List.mem_append.mp h).elim (fun h => wsL_law_a3 w h) (fun h => (List.mem_append.mp h).elim (fun h => wsL_law_a4 w h) (fun h => (List.mem_append.mp h).elim (fun h => wsL_law_a5 w h) (fun h => (List.mem_append.mp h).elim (fun h => wsL_law_a6 w h) (fun h => (List.mem_append.mp h).elim (fun h => wsL_law_a7 w h) (fun h => (List.mem_append.mp h).elim (fun h => wsL_law_a8 w h) (fun h => (List.mem_append.mp h).elim (fun h => wsL_law_a9 w h) (fun h => (List.mem_append.mp h).elim (fun h => wsL_law_a10 w h) (fun h => (List.mem_append.mp h).elim (fun h => wsL_law_a11 w h) (fun h => (List.mem_append.mp h).elim (fun h => wsL_law_a12 w h) (fun h => (List.mem_append.mp h).elim (fun h => wsL_law_a13 w h) (fun h => (List.mem_append.mp h).elim (fun h => wsL_law_a14 w h) (fun h => (List.mem_append.mp h).elim (fun h => wsL_law_a15 w h) (fun h => (List.mem_append.mp h).elim (fun h => wsL_law_a16 w h) (fun h => (List.mem_append.mp h).elim (fun h => wsL_law_a17 w h) (fun h => (List.mem_append.mp h).elim (fun h => wsL_law_a18 w h) (fun h => (List.mem_append.mp h).elim (fun h => wsL_law_a19 w h) (fun h => (List.mem_append.mp h).elim (fun h => wsL_law_a20 w h) (fun h => (List.mem_append.mp h).elim (fun h => wsL_law_a21 w h) (fun h => (List.mem_append.mp h).elim (fun h => wsL_law_a22 w h) (fun h => (List.mem_append.mp h).elim (fun h => wsL_law_a23 w h) (fun h => (List.mem_append.mp h).elim (fun h => wsL_law_a24 w h) (fun h => (List.mem_append.mp h).elim (fun h => wsL_law_a25 w h) (fun h => wsL_law_a26 w h)))))))))))))))))))))))))
        · exact wsL_law_bX10 w h
      · exact wsL_law_bX20 w h
    · exact wsL_law_bX00 w h
  · exact absurd h List.not_mem_nil
theorem wsL_law_x0 : ∀ w ∈ (vx_atS RX1 44 "java/lang/IndexOutOfBoundsException" ["java/lang/RuntimeException", "java/lang/Exception"]).filter goodWord, w ∈ lw_tbl := by decide +kernel
theorem wsL_law_x1 : ∀ w ∈ (vx_atS RX1 51 "java/lang/IllegalArgumentException" ["java/lang/RuntimeException", "java/lang/Exception"]).filter goodWord, w ∈ lw_tbl := by decide +kernel
theorem wsL_law_x2 : ∀ w ∈ (vx_atS RX1 90 "java/lang/IllegalStateException" ["java/lang/RuntimeException", "java/lang/Exception"]).filter goodWord, w ∈ lw_tbl := by decide +kernel
theorem wsL_law_in : ∀ w ∈ wsL_law, w ∈ lw_tbl := fun w h => (List.mem_append.mp h).elim (fun h => (List.mem_append.mp h).elim (fun h => (List.mem_append.mp h).elim (fun h => wsL_law_in0 w h) (fun h => wsL_law_x0 w h)) (fun h => wsL_law_x1 w h)) (fun h => wsL_law_x2 w h)
theorem inlX0 : ∀ w ∈ wsX00, w ∈ wsL_law := fun _ h => List.mem_append_left _ (List.mem_append_left _ (List.mem_append_left _ (List.mem_append_left _ (List.mem_append_right _ h))))
theorem inX0 : ∀ w ∈ wsX00, w ∈ lw_tbl := fun w h => wsL_law_in w (inlX0 w h)
theorem inlX1 : ∀ w ∈ wsX10, w ∈ wsL_law := fun _ h => List.mem_append_left _ (List.mem_append_left _ (List.mem_append_left _ (List.mem_append_left _ (List.mem_append_left _ (List.mem_append_left _ (List.mem_append_right _ h))))))
theorem inX1 : ∀ w ∈ wsX10, w ∈ lw_tbl := fun w h => wsL_law_in w (inlX1 w h)
theorem inlX2 : ∀ w ∈ wsX20, w ∈ wsL_law := fun _ h => List.mem_append_left _ (List.mem_append_left _ (List.mem_append_left _ (List.mem_append_left _ (List.mem_append_left _ (List.mem_append_right _ h)))))
theorem inX2 : ∀ w ∈ wsX20, w ∈ lw_tbl := fun w h => wsL_law_in w (inlX2 w h)
