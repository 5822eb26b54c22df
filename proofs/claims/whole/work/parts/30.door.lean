/-! the door, and hours that go by -/
def rn1 (f : Nat → Int) (i : Nat) : Int := if s_X1_goes f i = 0 then 0 else if f (21 + i * 4 + 0) ≤ 0 then 0 else 1
theorem some_step (f : Nat → Int) (k i : Nat) (hi : i < 3) : s_X1_someMovementRuns_lp2 f (k + 1) i = if rn1 f i = 0 then s_X1_someMovementRuns_lp2 f k (i + 1) else 1 := by
  rw [s_X1_someMovementRuns_lp2, if_neg (by omega)]
  unfold rn1
  by_cases h1 : s_X1_goes f i = 0
  · rw [if_pos h1, if_pos h1, if_pos rfl]
  · rw [if_neg h1, if_neg h1]
    by_cases h2 : f (21 + i * 4 + 0) ≤ 0
    · rw [if_pos h2, if_pos h2, if_pos rfl]
    · rw [if_neg h2, if_neg h2, if_neg (by decide)]
theorem some_at (f : Nat → Int) : s_X1_someMovementRuns f = if rn1 f 0 = 0 then (if rn1 f 1 = 0 then (if rn1 f 2 = 0 then 0 else 1) else 1) else 1 := by
  unfold s_X1_someMovementRuns
  rw [show 3 + 1 - 0 = 4 by rfl, some_step _ _ _ (by decide), some_step _ _ _ (by decide), some_step _ _ _ (by decide)]
  rfl
section DOOR
variable {c n : Nat} {f1 f2 g1 g2 : Nat → Int}
theorem lock_step (h : RI c f1 f2) (k i : Nat) (v : Int) (hi : i < 3) : s_X2_lock_lp9 f2 g2 n (k + 1) i v = s_X2_lock_lp9 f2 g2 n k (i + 1) (if v = 0 then rn1 f1 i else 1) := by
  rw [s_X2_lock_lp9, if_neg (by omega), goes_eq h hi, (rl_at h.2.1.2.2 hi).1]
  unfold rn1
  by_cases hv : v = 0
  · rw [if_pos hv, if_pos hv]
    by_cases h1 : s_X1_goes f1 i = 0
    · rw [if_pos h1, if_pos h1]
    · rw [if_neg h1, if_neg h1]
      by_cases h2 : f1 (21 + i * 4 + 0) ≤ 0
      · rw [if_pos h2, if_pos h2]
      · rw [if_neg h2, if_neg h2]
  · rw [if_neg hv, if_neg hv]
theorem lock_end (k : Nat) (v : Int) : s_X2_lock_lp9 f2 g2 n (k + 1) 3 v = (if (f2 11) = 1 then ((s_X2_fails 1).1, (s_X2_fails 1).2, f2, g2, n) else (if v = 0 then ((s_X2_fails 1).1, (s_X2_fails 1).2, f2, g2, n) else (if (s_X2_toOpening f2) = (-1) then ((s_X2_toOpening f2), 0, (upz (upz (upz (upz f2 11 1) 12 (-1)) 13 0) 14 0), (s_X2_saves f2 g2 n).1, (s_X2_saves f2 g2 n).2) else ((s_X2_toOpening f2), 0, (upz (upz (upz (upz f2 11 1) 12 ((f2 0) + (s_X2_toOpening f2))) 13 0) 14 0), (s_X2_saves f2 g2 n).1, (s_X2_saves f2 g2 n).2)))) := by
  rw [s_X2_lock_lp9, if_pos (by decide)]
theorem a_lock (h : RI c f1 f2) (hg : RG c n g1 g2) (hn : n ≤ 6) : Agree (c + 1) km_lock (s_X1_lock f1 g1 n) (s_X2_lock f2 g2 n) := by
  have hA := h.1.1
  have rA := h.2.1.1
  unfold InvA at hA
  unfold RelA at rA
  obtain ⟨et, rt⟩ := opening_eq h
  unfold s_X1_lock s_X2_lock
  rw [show 3 + 1 - 0 = 4 by rfl, lock_step h _ _ _ (by decide), lock_step h _ _ _ (by decide), lock_step h _ _ _ (by decide), some_at]
  rw [show s_X2_lock_lp9 f2 g2 n 1 (0 + 1 + 1 + 1) = s_X2_lock_lp9 f2 g2 n (0 + 1) 3 from rfl, lock_end, if_pos rfl, ← et]
  simp only [locked0]
  have hT : ∀ T : Int, -1 ≤ T → T ≤ 100300 → RI (c + 1) (upz (upz f1 1 1) 2 T) (upz (upz (upz (upz f2 11 1) 12 T) 13 0) 14 0) ∨ f1 1 ≠ 0 := fun T h1 h2 => by
    by_cases h0 : f1 1 = 0
    · refine Or.inl (RI_door h ?_ ?_ (by simp [upz]) (fun k hk => by rw [upz_n (by omega), upz_n (by omega)]) (fun k hk => by rw [upz_n (by omega), upz_n (by omega), upz_n (by omega), upz_n (by omega)]))
      · unfold InvA
        simp [upz]
        omega
      · unfold RelA
        simp [upz]
        omega
    · exact Or.inr h0
  have hr : ∀ j : Nat, rn1 f1 j = 0 ∨ rn1 f1 j = 1 := fun j => by unfold rn1; (repeat' split) <;> omega
  by_cases hl : f1 1 = 0
  · rw [if_pos hl, if_neg (show ¬ f2 11 = 1 by omega)]
    rcases hr 0 with a0 | a0 <;> rcases hr 1 with a1 | a1 <;> rcases hr 2 with a2 | a2 <;> simp only [a0, a1, a2] <;> simp only [if_true, if_false, reduceIte, Int.reduceEq] <;> first
      | exact agree_no h hg hn (by decide) rfl
      | (split
         · exact agree_yes h hg hn rfl rfl ((hT _ (by omega) (by omega)).resolve_right (fun z => z hl))
         · rw [rA.1]
           exact agree_yes h hg hn rfl rfl ((hT _ (by omega) (by omega)).resolve_right (fun z => z hl)))
  · rw [if_neg hl, if_pos (show f2 11 = 1 by omega)]
    exact agree_no h hg hn (by decide) rfl
theorem a_open (h : RI c f1 f2) (hg : RG c n g1 g2) (hn : n ≤ 6) : Agree (c + 1) km_open (s_X1_open f1 g1 n) (s_X2_open f2 g2 n) := by
  have hA := h.1.1
  have rA := h.2.1.1
  unfold InvA at hA
  unfold RelA at rA
  unfold s_X1_open s_X2_open
  rw [(opens_eq h (-1)).1]
  simp only [locked0]
  by_cases hl : f1 1 = 0
  · rw [if_pos hl, if_pos (show f2 11 = 0 by omega)]
    exact agree_no h hg hn (by decide) rfl
  · rw [if_neg hl, if_neg (show ¬ f2 11 = 0 by omega)]
    by_cases ho : s_X1_hoursToOpen f1 (-1) = 0
    · rw [if_pos ho, if_pos ho]
      unfold s_X1_leaveOpen s_X1_countOpening s_X1_latenessAfter s_X2_unlocks
      have hcase : ∀ p : Nat, (p = 7 ∨ p = 8 ∨ p = 9) → RI (c + 1) (upz (upz (upz (upz (upz (upz f1 6 ((f1 6) + 1)) p ((f1 p) + 1)) 1 0) 2 (-1)) 3 0) 4 0) (upz (upz (upz (upz (upz (upz f2 16 ((f2 16) + 1)) (p + 10) ((f2 (p + 10)) + 1)) 11 0) 12 (-1)) 13 0) 14 0) := fun p hp => by
        refine RI_door h ?_ ?_ ?_ (fun k hk => by rw [upz_n (by omega), upz_n (by omega), upz_n (by omega), upz_n (by omega), upz_n (by omega), upz_n (by omega)]) (fun k hk => by rw [upz_n (by omega), upz_n (by omega), upz_n (by omega), upz_n (by omega), upz_n (by omega), upz_n (by omega)])
        · rcases hp with rfl | rfl | rfl <;> unfold InvA <;> simp [upz] <;> omega
        · rcases hp with rfl | rfl | rfl <;> unfold RelA <;> simp [upz] <;> omega
        · rw [upz_n (by omega), upz_n (by omega), upz_n (by omega), upz_n (by omega), upz_n (by omega), upz_n (by omega)]
      (repeat' split) <;> first | omega | exact agree_yes h hg hn rfl rfl (hcase 7 (by decide)) | exact agree_yes h hg hn rfl rfl (hcase 8 (by decide)) | exact agree_yes h hg hn rfl rfl (hcase 9 (by decide))
    · rw [if_neg ho, if_neg ho]
      unfold s_X1_countEarlyTry
      rw [rA.2.2.2.1, rA.2.2.2.2.2.1, rA.2.2.2.2.2.2.2.2.2.2.2.1, rA.2.2.2.2.2.2.2.2.2.2.2.2.1, rA.1]
      by_cases ht : f1 3 + 1 < f1 11
      · rw [if_pos ht, if_pos ht]
        refine agree_yes h hg hn rfl rfl (RI_door h ?_ ?_ ?_ (fun k hk => by rw [upz_n (by omega), upz_n (by omega)]) (fun k hk => by rw [upz_n (by omega), upz_n (by omega)]))
        · unfold InvA
          simp [upz]
          omega
        · unfold RelA
          simp [upz]
          omega
        · rw [upz_n (by omega), upz_n (by omega)]
      · rw [if_neg ht, if_neg ht]
        refine agree_yes h hg hn rfl rfl (RI_door h ?_ ?_ ?_ (fun k hk => by rw [upz_n (by omega), upz_n (by omega), upz_n (by omega), upz_n (by omega)]) (fun k hk => by rw [upz_n (by omega), upz_n (by omega), upz_n (by omega), upz_n (by omega)]))
        · unfold InvA
          simp [upz]
          omega
        · unfold RelA
          simp [upz]
          omega
        · rw [upz_n (by omega), upz_n (by omega), upz_n (by omega), upz_n (by omega)]
end DOOR
