/-! the words of the law, list by list -/
theorem wsL_law_a1 : ∀ w ∈ wsL_law0_r1, w ∈ lw_tbl := fun w h => (goodIn_p wsL_law0_r1 [37, 40, 45] (by decide +kernel) (by decide +kernel) w h).1
theorem wsL_law_a2 : ∀ w ∈ wsL_law0_r2, w ∈ lw_tbl := fun w h => (goodIn_p wsL_law0_r2 [85, 157, 161, 165] (by decide +kernel) (by decide +kernel) w h).1
theorem wsL_law_a3 : ∀ w ∈ wsL_law0_r3, w ∈ lw_tbl := fun w h => (goodIn_p wsL_law0_r3 [169, 173, 176, 229, 225, 203] (by decide +kernel) (by decide +kernel) w h).1
theorem wsL_law_a4 : ∀ w ∈ wsL_law0_r4, w ∈ lw_tbl := fun w h => (goodIn_p wsL_law0_r4 [207, 211, 215, 218, 222] (by decide +kernel) (by decide +kernel) w h).1
theorem wsL_law_a5 : ∀ w ∈ wsL_law0_r5, w ∈ lw_tbl := fun w h => (goodIn_p wsL_law0_r5 [238, 258, 265, 269, 273] (by decide +kernel) (by decide +kernel) w h).1
def wsL_law0_q6 : List Cond := [Cond.instanceMethod yX1_leaveOpen, Cond.selects RX1 yX1_leaveOpen yX1_leaveOpen, Cond.code yX1_leaveOpen cX1_leaveOpen 1 none, Cond.methodLink RL 43 yX1_setting, Cond.instanceMethod yX1_setting, Cond.selects RX1 yX1_setting yX1_setting, Cond.code yX1_setting cX1_setting 2 (some .int), Cond.classLink RX1 40 "java/lang/IndexOutOfBoundsException", Cond.initialized "java/lang/IndexOutOfBoundsException", Cond.methodLink RX1 56 yX1_isSetting, Cond.static yX1_isSetting, Cond.code yX1_isSetting cX1_isSetting 1 (some .boolean), Cond.methodLink RL 103 yL_act, Cond.static yL_act]
def wsL_law0_s6 : List Cond := [Cond.methodLink RL 71 yL_wind, Cond.static yL_wind, Cond.codeWith yL_wind cL_wind 4 (some .int) [(0, 6, 7, 15)], Cond.methodLink RL 20 yX1_wind, Cond.instanceMethod yX1_wind, Cond.selects RX1 yX1_wind yX1_wind, Cond.code yX1_wind cX1_wind 3 (some .int), Cond.methodLink RX1 69 yX1_isMovement, Cond.static yX1_isMovement]
theorem wsL_law_c6 : Cond.code yL_act cL_act 6 (some .int) ∈ lw_tbl := List.mem_of_getElem? (i := 330) rfl
theorem wsL_law_a6 : ∀ w ∈ wsL_law0_r6, w ∈ lw_tbl := fun w h => by
  have e : wsL_law0_r6 = wsL_law0_q6 ++ (Cond.code yL_act cL_act 6 (some .int) :: wsL_law0_s6) := rfl
  rw [e] at h
  rcases List.mem_append.mp h with h | h
  · exact (goodIn_p wsL_law0_q6 [277, 180, 183] (by decide +kernel) (by decide +kernel) w h).1
  · rcases List.mem_cons.mp h with h | h
    · rw [h]
      exact wsL_law_c6
    · exact (goodIn_p wsL_law0_s6 [337] (by decide +kernel) (by decide +kernel) w h).1
theorem wsL_law_a7 : ∀ w ∈ wsL_law0_r7, w ∈ lw_tbl := fun w h => (goodIn_p wsL_law0_r7 [295, 315, 343, 350, 354, 359] (by decide +kernel) (by decide +kernel) w h).1
theorem wsL_law_a8 : ∀ w ∈ wsL_law0_r8, w ∈ lw_tbl := fun w h => (goodIn_p wsL_law0_r8 [363, 371, 376, 287, 381] (by decide +kernel) (by decide +kernel) w h).1
theorem wsL_law_a9 : ∀ w ∈ wsL_law0_r9, w ∈ lw_tbl := fun w h => (goodIn_p wsL_law0_r9 [393, 400, 405, 411] (by decide +kernel) (by decide +kernel) w h).1
def wsL_law0_q10 : List Cond := [Cond.selects RX1 yX1_runHour yX1_runHour, Cond.code yX1_runHour cX1_runHour 2 none, Cond.methodLink RX1 224 yX1_isLostHour, Cond.static yX1_isLostHour, Cond.code yX1_isLostHour cX1_isLostHour 2 (some .boolean), Cond.methodLink RX1 135 yX1_movementsRunDown, Cond.instanceMethod yX1_movementsRunDown, Cond.selects RX1 yX1_movementsRunDown yX1_movementsRunDown, Cond.code yX1_movementsRunDown cX1_movementsRunDown 3 (some .int), Cond.methodLink RL 107 yL_clock, Cond.static yL_clock]
def wsL_law0_s10 : List Cond := [Cond.methodLink RL 37 yX1_day, Cond.instanceMethod yX1_day, Cond.selects RX1 yX1_day yX1_day, Cond.code yX1_day cX1_day 2 (some .int), Cond.methodLink RL 40 yX1_movement, Cond.instanceMethod yX1_movement, Cond.selects RX1 yX1_movement yX1_movement, Cond.code yX1_movement cX1_movement 3 (some .int), Cond.methodLink RX1 171 yX1_property, Cond.instanceMethod yX1_property, Cond.selects RX1 yX1_property yX1_property, Cond.code yX1_property cX1_property 3 (some .int)]
theorem wsL_law_c10 : Cond.code yL_clock cL_clock 7 (some .boolean) ∈ lw_tbl := List.mem_of_getElem? (i := 280) rfl
theorem wsL_law_a10 : ∀ w ∈ wsL_law0_r10, w ∈ lw_tbl := fun w h => by
  have e : wsL_law0_r10 = wsL_law0_q10 ++ (Cond.code yL_clock cL_clock 7 (some .boolean) :: wsL_law0_s10) := rfl
  rw [e] at h
  rcases List.mem_append.mp h with h | h
  · exact (goodIn_p wsL_law0_q10 [415, 312, 419] (by decide +kernel) (by decide +kernel) w h).1
  · rcases List.mem_cons.mp h with h | h
    · rw [h]
      exact wsL_law_c10
    · exact (goodIn_p wsL_law0_s10 [284, 292, 301] (by decide +kernel) (by decide +kernel) w h).1
theorem wsL_law_a11 : ∀ w ∈ wsL_law0_r11, w ∈ lw_tbl := fun w h => (goodIn_p wsL_law0_r11 [305, 309, 319, 323, 327] (by decide +kernel) (by decide +kernel) w h).1
theorem wsL_law_b_wsX10 : ∀ w ∈ wsX10, w ∈ lw_tbl := by decide +kernel
theorem wsL_law_b_wsX00 : ∀ w ∈ wsX00, w ∈ lw_tbl := by decide +kernel
theorem wsL_law_in0 : ∀ w ∈ wsL_law0, w ∈ lw_tbl := fun w h => by
  rcases List.mem_append.mp h with h | h
  · rcases List.mem_append.mp h with h | h
    · rcases List.mem_append.mp h with h | h
      · exact (List.mem_append.mp h).elim (fun h => wsL_law_a1 w h) (fun h => (List.mem_append.mp h).elim (fun h => wsL_law_a2 w h) (fun h => (List.mem_append.mp h).elim (fun h => wsL_law_a3 w h) (fun h => (List.mem_append.mp h).elim (fun h => wsL_law_a4 w h) (fun h => (List.mem_append.mp h).elim (fun h => wsL_law_a5 w h) (fun h => (List.mem_append.mp h).elim (fun h => wsL_law_a6 w h) (fun h => (List.mem_append.mp h).elim (fun h => wsL_law_a7 w h) (fun h => (List.mem_append.mp h).elim (fun h => wsL_law_a8 w h) (fun h => (List.mem_append.mp h).elim (fun h => wsL_law_a9 w h) (fun h => (List.mem_append.mp h).elim (fun h => wsL_law_a10 w h) (fun h => wsL_law_a11 w h))))))))))
      · exact wsL_law_b_wsX10 w h
    · exact wsL_law_b_wsX00 w h
  · exact absurd h List.not_mem_nil
theorem wsL_law_x0 : ∀ w ∈ (vx_atS RX1 51 "java/lang/IllegalArgumentException" ["java/lang/RuntimeException", "java/lang/Exception"]).filter goodWord, w ∈ lw_tbl := by decide +kernel
theorem wsL_law_x1 : ∀ w ∈ (vx_atS RX1 90 "java/lang/IllegalStateException" ["java/lang/RuntimeException", "java/lang/Exception"]).filter goodWord, w ∈ lw_tbl := by decide +kernel
theorem wsL_law_x2 : ∀ w ∈ (vx_atS RX1 44 "java/lang/IndexOutOfBoundsException" ["java/lang/RuntimeException", "java/lang/Exception"]).filter goodWord, w ∈ lw_tbl := by decide +kernel
theorem wsL_law_in : ∀ w ∈ wsL_law, w ∈ lw_tbl := fun w h => (List.mem_append.mp h).elim (fun h => (List.mem_append.mp h).elim (fun h => (List.mem_append.mp h).elim (fun h => wsL_law_in0 w h) (fun h => wsL_law_x0 w h)) (fun h => wsL_law_x1 w h)) (fun h => wsL_law_x2 w h)
theorem inlX0 : ∀ w ∈ wsX00, w ∈ wsL_law := fun _ h => List.mem_append_left _ (List.mem_append_left _ (List.mem_append_left _ (List.mem_append_left _ (List.mem_append_right _ h))))
theorem inX0 : ∀ w ∈ wsX00, w ∈ lw_tbl := fun w h => wsL_law_in w (inlX0 w h)
theorem inlX1 : ∀ w ∈ wsX10, w ∈ wsL_law := fun _ h => List.mem_append_left _ (List.mem_append_left _ (List.mem_append_left _ (List.mem_append_left _ (List.mem_append_left _ (List.mem_append_right _ h)))))
theorem inX1 : ∀ w ∈ wsX10, w ∈ lw_tbl := fun w h => wsL_law_in w (inlX1 w h)
theorem inX2 : ∀ w ∈ wsX20, w ∈ lw_tbl := by decide +kernel
theorem inJ9 : ∀ w ∈ wsJ90, w ∈ lw_tbl := by decide +kernel
theorem inJ0 : ∀ w ∈ wsJ00, w ∈ lw_tbl := by decide +kernel
theorem inJ10 : ∀ w ∈ wsJ100, w ∈ lw_tbl := by decide +kernel
