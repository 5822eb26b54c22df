/-! the face: both sides answer the same, and hold the same then -/
theorem isDay0 {x : Int} : s_X1_isDay x = 0 ↔ (x < 0 ∨ 7 ≤ x) := by unfold s_X1_isDay; (repeat' split) <;> omega
theorem isSetting0 {x : Int} : s_X1_isSetting x = 0 ↔ (x < 0 ∨ 3 ≤ x) := by unfold s_X1_isSetting; (repeat' split) <;> omega
theorem isMovement0 {x : Int} : s_X1_isMovement x = 0 ↔ (x < 0 ∨ 3 ≤ x) := by unfold s_X1_isMovement; (repeat' split) <;> omega
theorem areWinding0 {x : Int} : s_X1_areWindingHours x = 0 ↔ (x < 1 ∨ 200 < x) := by unfold s_X1_areWindingHours; (repeat' split) <;> omega
theorem in0 {x a b : Int} : s_X2_in x a b = 0 ↔ (x < a ∨ b < x) := by unfold s_X2_in; (repeat' split) <;> omega
theorem locked0 {f : Nat → Int} : s_X1_isLocked f = 0 ↔ f 1 = 0 := locked_iff f
theorem RI_lk {c : Nat} {f1 f2 : Nat → Int} (h : RI c f1 f2) : (f1 1 = 0 ∨ f1 1 = 1) ∧ f2 11 = f1 1 ∧ f2 0 = f1 0 := by
  have hA := h.1.1
  have rA := h.2.1.1
  unfold InvA at hA
  unfold RelA at rA
  omega
section FACE
variable {c n : Nat} {f1 f2 g1 g2 : Nat → Int}
theorem a_opening (h : RI c f1 f2) (hg : RG c n g1 g2) (hn : n ≤ 6) (x0 x1 : Int) : Agree (c + 1) km_opening (s_X1_opening f1 g1 n x0 x1) (s_X2_opening f2 g2 n x0 x1) := by
  unfold s_X1_opening s_X2_opening
  simp only [isDay0, in0]
  (repeat' split) <;> first | omega | exact agree_no h hg hn (by decide) rfl | exact agree_yes h hg hn (rd_at h.2.1.2.1 (d := x0.toNat) (by omega)).symm rfl (RI_day (d := x0.toNat) (RI_more h) (by omega) ⟨by omega, by omega⟩)
theorem rs_at {f1 f2 : Nat → Int} (h : RelA f1 f2) {d : Nat} (hd : d < 3) : f2 (8 + d) = f1 (11 + d) := by
  unfold RelA at h
  rcases (show d = 0 ∨ d = 1 ∨ d = 2 by omega) with rfl | rfl | rfl <;> simp only [Nat.reduceAdd] <;> omega
theorem isFor0 {x y : Int} (h0 : 0 ≤ x) (h3 : x < 3) : s_X2_isFor x y = 0 ↔ (y < xleast x.toNat ∨ xmost x.toNat < y) := by
  rcases (show x = 0 ∨ x = 1 ∨ x = 2 by omega) with rfl | rfl | rfl
  · exact in0
  · exact in0
  · exact in0
theorem a_set (h : RI c f1 f2) (hg : RG c n g1 g2) (hn : n ≤ 6) (x0 x1 : Int) : Agree (c + 1) km_set (s_X1_set f1 g1 n x0 x1) (s_X2_set f2 g2 n x0 x1) := by
  unfold s_X1_set s_X2_set
  simp only [isSetting0, in0]
  by_cases hx : x0 < 0 ∨ 3 ≤ x0
  · rw [if_pos hx, if_pos (show x0 < 0 ∨ 2 < x0 by omega)]
    exact agree_no h hg hn (by decide) rfl
  · rw [if_neg hx, if_neg (show ¬ (x0 < 0 ∨ 2 < x0) by omega)]
    simp only [isFor0 (show 0 ≤ x0 by omega) (show x0 < 3 by omega)]
    (repeat' split) <;> first | omega | exact agree_no h hg hn (by decide) rfl | exact agree_yes h hg hn (rs_at h.2.1.1 (d := x0.toNat) (by omega)).symm rfl (RI_set (d := x0.toNat) (RI_more h) (by omega) ⟨by omega, by omega⟩)
theorem rm_at (h : RI c f1 f2) {j q p1 p2 : Nat} (hj : j < 3) (hq : q < 4) (e1 : p1 = 21 + j * 4 + q) (e2 : p2 = 21 + 4 * j + q) : f1 p1 = f2 p2 := by
  subst e1; subst e2
  have hr := rl_at h.2.1.2.2 hj
  rcases (show q = 0 ∨ q = 1 ∨ q = 2 ∨ q = 3 by omega) with rfl | rfl | rfl | rfl
  · exact hr.1.symm
  · exact hr.2.1.symm
  · exact hr.2.2.1.symm
  · exact hr.2.2.2.symm
theorem a_wind (h : RI c f1 f2) (hg : RG c n g1 g2) (hn : n ≤ 6) (x0 x1 : Int) : Agree (c + 1) km_wind (s_X1_wind f1 g1 n x0 x1) (s_X2_wind f2 g2 n x0 x1) := by
  unfold s_X1_wind s_X2_wind
  have hl := RI_lk h
  simp only [isMovement0, in0, areWinding0, locked0]
  by_cases hx : x0 < 0 ∨ 3 ≤ x0
  · rw [if_pos hx, if_pos (show x0 < 0 ∨ 2 < x0 by omega)]
    exact agree_no h hg hn (by decide) rfl
  · rw [if_neg hx, if_neg (show ¬ (x0 < 0 ∨ 2 < x0) by omega), goes_eq h (show x0.toNat < 3 by omega)]
    (repeat' split) <;> first | omega | exact agree_no h hg hn (by decide) rfl | exact agree_yes h hg hn (rm_at h (j := x0.toNat) (q := 0) (by omega) (by decide) rfl rfl) rfl (RI_mv (RI_more h) (j := x0.toNat) (q := 0) (by omega) (by decide) ⟨by omega, by omega⟩ rfl rfl)
theorem a_fault (h : RI c f1 f2) (hg : RG c n g1 g2) (hn : n ≤ 6) (x0 x1 : Int) : Agree (c + 1) km_fault (s_X1_fault f1 g1 n x0 x1) (s_X2_fault f2 g2 n x0 x1) := by
  unfold s_X1_fault s_X2_fault
  simp only [isMovement0, in0]
  by_cases hx : x0 < 0 ∨ 3 ≤ x0
  · rw [if_pos hx, if_pos (show x0 < 0 ∨ 2 < x0 by omega)]
    exact agree_no h hg hn (by decide) rfl
  · rw [if_neg hx, if_neg (show ¬ (x0 < 0 ∨ 2 < x0) by omega)]
    split
    · exact agree_yes h hg hn (rm_at h (j := x0.toNat) (q := 1) (by omega) (by decide) rfl rfl) rfl (RI_mv (RI_more h) (j := x0.toNat) (q := 1) (by omega) (by decide) (Or.inl rfl) rfl rfl)
    · exact agree_yes h hg hn (rm_at h (j := x0.toNat) (q := 1) (by omega) (by decide) rfl rfl) rfl (RI_mv (RI_more h) (j := x0.toNat) (q := 1) (by omega) (by decide) (Or.inr rfl) rfl rfl)
theorem a_loss (h : RI c f1 f2) (hg : RG c n g1 g2) (hn : n ≤ 6) (x0 x1 : Int) : Agree (c + 1) km_loss (s_X1_loss f1 g1 n x0 x1) (s_X2_loss f2 g2 n x0 x1) := by
  unfold s_X1_loss s_X2_loss
  simp only [isMovement0, in0]
  by_cases hx : x0 < 0 ∨ 3 ≤ x0
  · rw [if_pos hx, if_pos (show x0 < 0 ∨ 2 < x0 by omega)]
    exact agree_no h hg hn (by decide) rfl
  · rw [if_neg hx, if_neg (show ¬ (x0 < 0 ∨ 2 < x0) by omega)]
    (repeat' split) <;> first | omega | exact agree_no h hg hn (by decide) rfl | exact agree_yes h hg hn (rm_at h (j := x0.toNat) (q := 2) (by omega) (by decide) rfl rfl) rfl (RI_mv (RI_more h) (j := x0.toNat) (q := 2) (by omega) (by decide) ⟨by omega, by omega⟩ rfl rfl)
theorem a_service (h : RI c f1 f2) (hg : RG c n g1 g2) (hn : n ≤ 6) (x0 : Int) : Agree (c + 1) km_service (s_X1_service f1 g1 n x0) (s_X2_service f2 g2 n x0) := by
  unfold s_X1_service s_X2_service
  have hl := RI_lk h
  simp only [isMovement0, in0, locked0]
  by_cases hx : x0 < 0 ∨ 3 ≤ x0
  · rw [if_pos hx, if_pos (show x0 < 0 ∨ 2 < x0 by omega)]
    exact agree_no h hg hn (by decide) rfl
  · rw [if_neg hx, if_neg (show ¬ (x0 < 0 ∨ 2 < x0) by omega)]
    have hA := h.1.1
    unfold InvA at hA
    have hj : x0.toNat < 3 := by omega
    by_cases hlk : f1 1 = 0
    · rw [if_pos hlk, if_neg (show ¬ f2 11 = 1 by omega)]
      refine agree_yes h hg hn ?_ rfl ?_
      · show f1 (21 + x0.toNat * 4 + 3) = upz (upz f2 (21 + 4 * x0.toNat + 1) 1) (21 + 4 * x0.toNat + 2) 0 (21 + 4 * x0.toNat + 3)
        rw [upz_n (by omega), upz_n (by omega)]
        exact rm_at h (j := x0.toNat) (q := 3) hj (by decide) rfl rfl
      · have e : upz (upz (upz f1 (21 + x0.toNat * 4 + 3) 0) (21 + x0.toNat * 4 + 1) 1) (21 + x0.toNat * 4 + 2) 0 = upz (upz (upz f1 (21 + x0.toNat * 4 + 1) 1) (21 + x0.toNat * 4 + 2) 0) (21 + x0.toNat * 4 + 3) 0 := by
          funext k
          unfold upz
          (repeat' split) <;> first | rfl | omega
        show RI (c + 1) (upz (upz (upz f1 (21 + x0.toNat * 4 + 3) 0) (21 + x0.toNat * 4 + 1) 1) (21 + x0.toNat * 4 + 2) 0) (upz (upz (upz f2 (21 + 4 * x0.toNat + 1) 1) (21 + 4 * x0.toNat + 2) 0) (21 + 4 * x0.toNat + 3) 0)
        rw [e]
        refine RI_mv (RI_mv (RI_mv (RI_more h) (j := x0.toNat) (q := 1) hj (by decide) (Or.inr rfl) rfl rfl) (j := x0.toNat) (q := 2) hj (by decide) ⟨by decide, by decide⟩ rfl rfl) (j := x0.toNat) (q := 3) hj (by decide) ⟨by decide, ?_⟩ rfl rfl
        rw [upz_n (by omega), upz_n (by omega)]
        exact hA.1.1
    · rw [if_neg hlk, if_pos (show f2 11 = 1 by omega)]
      exact agree_no h hg hn (by decide) rfl
theorem a_undo (h : RI c f1 f2) (hg : RG c n g1 g2) (hn : n ≤ 6) : Agree (c + 1) km_undo (s_X1_undo f1 g1 n) (s_X2_undo f2 g2 n) := by
  unfold s_X1_undo s_X2_undo
  by_cases h0 : 0 < (n : Int)
  · rw [if_pos h0, if_neg (show ¬ (n : Int) = 0 by omega), lp30_at _ _ _ _ _ (by decide) (by decide), undo_1 h, undo_2 h]
    exact ⟨rfl, fun _ => rfl, RI_more (hg _ (by omega)), fun s hs => RI_more (hg s (by have : s < n - 1 := hs; omega)), rfl, by show n - 1 ≤ 6; omega⟩
  · rw [if_neg h0, if_pos (show (n : Int) = 0 by omega)]
    exact agree_no h hg hn (by decide) rfl
end FACE
