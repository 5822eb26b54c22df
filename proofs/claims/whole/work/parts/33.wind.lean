/-! a part of a text, both ways -/
theorem h10 : ¬ ((1 : Int) = 0) := by decide
section WIND
variable {b : Nat → Int} {len at_ j : Nat} {kd sg nb so ma : Nat → Int} {fl va : Int}
/-- what the two ways tell of one part: it stops there, or it is done -/
def PartOut (b : Nat → Int) (len at_ : Nat) (kd sg nb so ma : Nat → Int) (j : Nat) (w : Int × Nat × Int × Int × (Nat → Int) × (Nat → Int)) : Prop :=
  (w.1 = 0 ∧ ((w.2.2.1 = 0 ∧ ∃ kd' sg' nb' : Nat → Int, RB b len at_ kd sg nb j = ((len : Int), kd', sg', nb', j) ∧ s_X0_isPartComplete kd' sg' nb' j = 0) ∨ (w.2.2.1 = 1 ∧ w.2.1 < len ∧ (RB b len at_ kd sg nb j).1 = (w.2.1 : Int)))) ∨
  (w.1 = 1 ∧ w.2.1 ≤ len ∧ ∃ kd' sg' nb' : Nat → Int, RB b len at_ kd sg nb j = RB b len w.2.1 kd' sg' nb' j ∧ (∀ k : Nat, k ≠ j → kd' k = kd k ∧ sg' k = sg k ∧ nb' k = nb k ∧ w.2.2.2.2.1 k = so k ∧ w.2.2.2.2.2 k = ma k) ∧ Full b len w.2.1 kd' sg' nb' j ∧ Same1 kd' sg' nb' w.2.2.2.2.1 w.2.2.2.2.2 j)
theorem w_left (hin : at_ < len) (hc : b at_ = 45) (h0 : kd j = 0 ∧ sg j = 0 ∧ nb j = 0) : PartOut b len at_ kd sg nb so ma j (s_X2_isWinding b len at_ fl va so ma j) := by
  have hw : s_X2_isWinding b len at_ fl va so ma j = (1, at_ + 1, fl, va, upz so j 0, upz ma j 0) := by
    unfold s_X2_isWinding
    rw [isSign_yes hin hc, if_neg (show ¬ ((1, at_ + 1) : Int × Nat).fst = 0 from h10)]
  rw [hw]
  have ht : s_X0_take kd sg nb j (b at_) = (1, upz kd j 1, sg, nb, j) := by
    rw [tk_first (by omega) h0.1]
    unfold s_X0_takeFirst
    rw [if_pos hc]
  refine Or.inr ⟨rfl, by show at_ + 1 ≤ len; omega, upz kd j 1, sg, nb, RB_go hin (by decide) ht, fun k hk => ⟨upz_n hk, rfl, rfl, upz_n hk, upz_n hk⟩, ⟨?_, fun _ hx => ?_⟩, ?_⟩
  · unfold s_X0_isPartComplete
    rw [upz_s, if_neg (by decide), if_neg (by decide)]
  · rw [tk_left hx upz_s]
  · show Same1 (upz kd j 1) sg nb (upz so j 0) (upz ma j 0) j
    unfold Same1
    rw [upz_s, show (upz so j 0) j = 0 from upz_s]
    exact ⟨rfl, Or.inl rfl, fun z => absurd z (by decide), fun z => absurd z (by decide)⟩
theorem w_number (hin : at_ < len) (hc : 49 ≤ b at_ ∧ b at_ ≤ 57) (h0 : kd j = 0 ∧ sg j = 0 ∧ nb j = 0) : PartOut b len at_ kd sg nb so ma j (s_X2_isWinding b len at_ fl va so ma j) := by
  have hn : s_X2_isNumber b len at_ fl va = s_X2_isNumber_lp21 b len fl (len + 1 - (at_ + 1)) (at_ + 1) (b at_ - 48) := by
    unfold s_X2_isNumber
    rw [isAt_yes hin hc.1 hc.2, if_neg (by decide), show len + 1 - at_ = (len - at_) + 1 by omega, s_X2_isNumber_lp21, isAt_yes hin (by omega) (by omega), if_neg (by decide), if_neg (by omega), show len + 1 - (at_ + 1) = len - at_ by omega, show 10 * 0 + b at_ - 48 = b at_ - 48 by omega]
  have ht : s_X0_take kd sg nb j (b at_) = (1, upz kd j 2, sg, upz nb j (b at_ - 48), j) := by
    rw [tk_first (by omega) h0.1]
    unfold s_X0_takeFirst
    rw [if_neg (by omega), if_neg (by omega), if_neg (by omega), if_neg (by omega)]
  obtain ⟨q1, q2, nb', q3, q4, q5, q6⟩ := num_loop (b := b) (len := len) (kd := upz kd j 2) (sg := sg) (j := j) fl upz_s (len - (at_ + 1)) (at_ + 1) (b at_ - 48) (upz nb j (b at_ - 48)) (by omega) upz_s (by omega)
  have hw : s_X2_isWinding b len at_ fl va so ma j = ((s_X2_isNumber b len at_ fl va).1, (s_X2_isNumber b len at_ fl va).2.1, (s_X2_isNumber b len at_ fl va).2.2.1, (s_X2_isNumber b len at_ fl va).2.2.2, upz (upz so j 0) j 1, upz (upz ma j 0) j (s_X2_isNumber b len at_ fl va).2.2.2) := by
    unfold s_X2_isWinding
    rw [isSign_no (x := 45) (by omega), if_pos rfl]
    show (if (s_X2_isSign b len at_ 110).1 = 0 then _ else _) = _
    rw [isSign_no (x := 110) (by omega), if_pos rfl]
  rw [hw, hn]
  generalize s_X2_isNumber_lp21 b len fl (len + 1 - (at_ + 1)) (at_ + 1) (b at_ - 48) = r at q1 q2 q3 q5 q6 ⊢
  refine Or.inr ⟨q1, q2, upz kd j 2, sg, nb', (RB_go hin (by decide) ht).trans q5, fun k hk => ⟨upz_n hk, rfl, (q4 k hk).trans (upz_n hk), (upz_n hk).trans (upz_n hk), (upz_n hk).trans (upz_n hk)⟩, ⟨?_, q6⟩, ?_⟩
  · unfold s_X0_isPartComplete
    rw [upz_s, if_neg (by decide), if_neg (by decide)]
  · show Same1 (upz kd j 2) sg nb' (upz (upz so j 0) j 1) (upz (upz ma j 0) j r.2.2.2) j
    unfold Same1
    rw [upz_s, show upz (upz so j 0) j 1 j = 1 from upz_s]
    exact ⟨rfl, Or.inr (Or.inl rfl), fun _ => upz_s.trans q3.symm, fun z => absurd z (by decide)⟩
theorem w_none (hin : ¬ (at_ < len ∧ (b at_ = 45 ∨ b at_ = 110 ∨ 49 ≤ b at_ ∧ b at_ ≤ 57))) (hat : at_ ≤ len) (h0 : kd j = 0 ∧ sg j = 0 ∧ nb j = 0) : PartOut b len at_ kd sg nb so ma j (s_X2_isWinding b len at_ fl va so ma j) := by
  have hn : s_X2_isNumber b len at_ fl va = ((s_X2_stops len at_).1, at_, (s_X2_stops len at_).2, va) := by
    unfold s_X2_isNumber
    rw [isAt_no (by omega), if_pos rfl]
  have hw : s_X2_isWinding b len at_ fl va so ma j = ((s_X2_isNumber b len at_ fl va).1, (s_X2_isNumber b len at_ fl va).2.1, (s_X2_isNumber b len at_ fl va).2.2.1, (s_X2_isNumber b len at_ fl va).2.2.2, upz (upz so j 0) j 1, upz (upz ma j 0) j (s_X2_isNumber b len at_ fl va).2.2.2) := by
    unfold s_X2_isWinding
    rw [isSign_no (x := 45) (by omega), if_pos rfl]
    show (if (s_X2_isSign b len at_ 110).1 = 0 then _ else _) = _
    rw [isSign_no (x := 110) (by omega), if_pos rfl]
  rw [hw, hn]
  have hp0 : s_X0_isPartComplete kd sg nb j = 0 := by
    unfold s_X0_isPartComplete
    rw [h0.1, if_neg (by decide), if_pos rfl]
  by_cases h1 : at_ < len
  · rw [stops_in h1]
    refine Or.inl ⟨rfl, Or.inr ⟨rfl, h1, RB_stop h1 ?_⟩⟩
    by_cases hx : b at_ = 44
    · rw [hx]
      exact tk_comma_no (Or.inr hp0)
    · rw [tk_first hx h0.1]
      show (s_X0_takeFirst kd nb j (b at_)).1 = 0
      unfold s_X0_takeFirst
      (repeat' split) <;> first | rfl | omega
  · rw [stops_end h1]
    exact Or.inl ⟨rfl, Or.inl ⟨rfl, kd, sg, nb, RB_end (by omega), hp0⟩⟩
/-- "n", and perhaps a sign and a digit -/
theorem w_next (hin : at_ < len) (hc : b at_ = 110) (h0 : kd j = 0 ∧ sg j = 0 ∧ nb j = 0) : PartOut b len at_ kd sg nb so ma j (s_X2_isWinding b len at_ fl va so ma j) := by
  have ht : s_X0_take kd sg nb j (b at_) = (1, upz kd j 3, sg, nb, j) := by
    rw [tk_first (by omega) h0.1]
    unfold s_X0_takeFirst
    rw [if_neg (by omega), if_pos hc]
  have hgo := RB_go hin (by decide) ht
  have hk3 : upz kd j 3 j = 3 := upz_s
  unfold s_X2_isWinding
  rw [isSign_no (x := 45) (by omega), if_pos rfl]
  show PartOut b len at_ kd sg nb so ma j (if (s_X2_isSign b len at_ 110).1 = 0 then _ else _)
  rw [isSign_yes (x := 110) hin hc, if_neg (show ¬ ((1, at_ + 1) : Int × Nat).fst = 0 from h10)]
  by_cases hs : at_ + 1 < len ∧ (b (at_ + 1) = 45 ∨ b (at_ + 1) = 43)
  · -- a sign: a digit of 1 to 9 must follow
    obtain ⟨hs1, hs2⟩ := hs
    have ht2 : s_X0_take (upz kd j 3) sg nb j (b (at_ + 1)) = (1, upz kd j 3, upz sg j (if b (at_ + 1) = 43 then 1 else -1), nb, j) := by
      rw [tk_more (by omega) hk3]
      unfold s_X0_takeMoreOrLess
      rw [if_pos h0.2.1]
      by_cases h43 : b (at_ + 1) = 43
      · rw [if_pos h43, if_pos h43, if_pos h43]
      · rw [if_neg h43, if_pos (by omega), if_neg h43, if_neg h43]
    have hgo2 := hgo.trans (RB_go hs1 (by decide) ht2)
    have hsg : upz sg j (if b (at_ + 1) = 43 then 1 else -1) j ≠ 0 := by
      rw [upz_s]
      split <;> decide
    by_cases hdg : at_ + 1 + 1 < len ∧ 49 ≤ b (at_ + 1 + 1) ∧ b (at_ + 1 + 1) ≤ 57
    · -- done
      obtain ⟨hd1, hd2, hd3⟩ := hdg
      have ht3 : s_X0_take (upz kd j 3) (upz sg j (if b (at_ + 1) = 43 then 1 else -1)) nb j (b (at_ + 1 + 1)) = (1, upz kd j 3, upz sg j (if b (at_ + 1) = 43 then 1 else -1), upz nb j (b (at_ + 1 + 1) - 48), j) := by
        rw [tk_more (by omega) hk3]
        unfold s_X0_takeMoreOrLess
        rw [if_neg hsg, if_neg hsg, if_pos h0.2.2, if_neg (by omega), if_neg (by omega)]
      have hgo3 := hgo2.trans (RB_go hd1 (by decide) ht3)
      have hw : ∀ (w : Int × Nat × Int × Int × (Nat → Int) × (Nat → Int)), w = (1, at_ + 1 + 1 + 1, fl, va, upz (upz so j 0) j 2, upz (upz ma j 0) j (if b (at_ + 1) = 43 then b (at_ + 1 + 1) - 48 else 48 - b (at_ + 1 + 1))) → PartOut b len at_ kd sg nb so ma j w := by
        intro w hw
        subst hw
        refine Or.inr ⟨rfl, by show at_ + 1 + 1 + 1 ≤ len; omega, upz kd j 3, upz sg j (if b (at_ + 1) = 43 then 1 else -1), upz nb j (b (at_ + 1 + 1) - 48), hgo3, fun k hk => ⟨upz_n hk, upz_n hk, upz_n hk, (upz_n hk).trans (upz_n hk), (upz_n hk).trans (upz_n hk)⟩, ⟨?_, fun _ hx => ?_⟩, ?_⟩
        · unfold s_X0_isPartComplete
          rw [hk3, if_pos rfl, if_neg hsg, upz_s, if_neg (by omega)]
        · rw [tk_more hx hk3]
          show (s_X0_takeMoreOrLess _ _ j _).1 = 0
          unfold s_X0_takeMoreOrLess
          rw [if_neg hsg, if_neg hsg, if_neg (by rw [upz_s]; omega)]
        · show Same1 (upz kd j 3) (upz sg j (if b (at_ + 1) = 43 then 1 else -1)) (upz nb j (b (at_ + 1 + 1) - 48)) (upz (upz so j 0) j 2) (upz (upz ma j 0) j (if b (at_ + 1) = 43 then b (at_ + 1 + 1) - 48 else 48 - b (at_ + 1 + 1))) j
          unfold Same1
          rw [hk3, show upz (upz so j 0) j 2 j = 2 from upz_s]
          refine ⟨rfl, Or.inr (Or.inr rfl), fun z => absurd z (by decide), fun _ => ?_⟩
          rw [upz_s, upz_s, upz_s]
          split <;> omega
      apply hw
      by_cases h45 : b (at_ + 1) = 45
      · rw [isAt_yes (x := 45) (y := 45) hs1 (by omega) (by omega), if_neg (by decide), isAt_yes (x := 49) (y := 57) hd1 hd2 hd3, if_neg (by decide), if_neg (by decide), if_neg (show ¬ b (at_ + 1) = 43 by omega)]
      · rw [isAt_no (b := b) (len := len) (at_ := at_ + 1) (x := 45) (y := 45) (by omega), if_pos rfl, isAt_yes (x := 43) (y := 43) hs1 (by omega) (by omega), if_neg (by decide), isAt_yes (x := 49) (y := 57) hd1 hd2 hd3, if_neg (by decide), if_pos rfl, if_pos (show b (at_ + 1) = 43 by omega)]
    · -- it stops after the sign
      have hp0 : s_X0_isPartComplete (upz kd j 3) (upz sg j (if b (at_ + 1) = 43 then 1 else -1)) nb j = 0 := by
        unfold s_X0_isPartComplete
        rw [hk3, if_pos rfl, if_neg hsg, if_pos (by omega)]
      have hw : ∀ (w : Int × Nat × Int × Int × (Nat → Int) × (Nat → Int)), w = ((s_X2_stops len (at_ + 1 + 1)).1, at_ + 1 + 1, (s_X2_stops len (at_ + 1 + 1)).2, va, upz (upz so j 0) j 2, upz ma j 0) → PartOut b len at_ kd sg nb so ma j w := by
        intro w hw
        subst hw
        by_cases h1 : at_ + 1 + 1 < len
        · rw [stops_in h1]
          refine Or.inl ⟨rfl, Or.inr ⟨rfl, h1, ?_⟩⟩
          rw [hgo2]
          refine RB_stop h1 ?_
          by_cases hx : b (at_ + 1 + 1) = 44
          · rw [hx]
            exact tk_comma_no (Or.inr hp0)
          · rw [tk_more hx hk3]
            show (s_X0_takeMoreOrLess _ _ j _).1 = 0
            unfold s_X0_takeMoreOrLess
            rw [if_neg hsg, if_neg hsg, if_pos h0.2.2]
            (repeat' split) <;> first | rfl | omega
        · rw [stops_end h1]
          exact Or.inl ⟨rfl, Or.inl ⟨rfl, _, _, _, hgo2.trans (RB_end (by omega)), hp0⟩⟩
      apply hw
      by_cases h45 : b (at_ + 1) = 45
      · rw [isAt_yes (x := 45) (y := 45) hs1 (by omega) (by omega), if_neg (by decide), isAt_no (x := 49) (y := 57) hdg, if_pos rfl]
      · rw [isAt_no (b := b) (len := len) (at_ := at_ + 1) (x := 45) (y := 45) (by omega), if_pos rfl, isAt_yes (x := 43) (y := 43) hs1 (by omega) (by omega), if_neg (by decide), isAt_no (x := 49) (y := 57) hdg, if_pos rfl]
  · -- no sign: done
    rw [isAt_no (b := b) (len := len) (at_ := at_ + 1) (x := 45) (y := 45) (by omega), if_pos rfl, isAt_no (b := b) (len := len) (at_ := at_ + 1) (x := 43) (y := 43) (by omega), if_pos rfl]
    refine Or.inr ⟨rfl, by show at_ + 1 ≤ len; omega, upz kd j 3, sg, nb, hgo, fun k hk => ⟨upz_n hk, rfl, rfl, (upz_n hk).trans (upz_n hk), upz_n hk⟩, ⟨?_, fun hi hx => ?_⟩, ?_⟩
    · unfold s_X0_isPartComplete
      rw [hk3, if_pos rfl, if_pos h0.2.1]
    · have hi : at_ + 1 < len := hi
      have hx : b (at_ + 1) ≠ 44 := hx
      show (s_X0_take (upz kd j 3) sg nb j (b (at_ + 1))).1 = 0
      rw [tk_more hx hk3]
      show (s_X0_takeMoreOrLess sg nb j _).1 = 0
      unfold s_X0_takeMoreOrLess
      rw [if_pos h0.2.1, if_neg (by omega), if_neg (by omega), if_pos h0.2.1]
    · show Same1 (upz kd j 3) sg nb (upz (upz so j 0) j 2) (upz ma j 0) j
      unfold Same1
      rw [hk3, show upz (upz so j 0) j 2 j = 2 from upz_s, h0.2.1, show upz ma j 0 j = 0 from upz_s]
      exact ⟨rfl, Or.inr (Or.inr rfl), fun z => absurd z (by decide), fun _ => (Int.zero_mul _).symm⟩
theorem w_part (hat : at_ ≤ len) (h0 : kd j = 0 ∧ sg j = 0 ∧ nb j = 0) : PartOut b len at_ kd sg nb so ma j (s_X2_isWinding b len at_ fl va so ma j) := by
  by_cases hin : at_ < len ∧ (b at_ = 45 ∨ b at_ = 110 ∨ 49 ≤ b at_ ∧ b at_ ≤ 57)
  · obtain ⟨h1, h2 | h2 | h2⟩ := hin
    · exact w_left h1 h2 h0
    · exact w_next h1 h2 h0
    · exact w_number h1 h2 h0
  · exact w_none hin hat h0
end WIND
