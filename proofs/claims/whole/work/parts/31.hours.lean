/-! drills, and hours that go by -/
def dr1 (f : Nat → Int) (i : Nat) : Nat → Int := upz (upz f (21 + i * 4 + 0) 0) (21 + i * 4 + 1) 0
def dr2 (f : Nat → Int) (i : Nat) : Nat → Int := upz (upz f (21 + 4 * i) 0) (21 + 4 * i + 1) 0
theorem dr2_low (f : Nat → Int) (i : Nat) {k : Nat} (hk : k < 21) : dr2 f i k = f k := by
  unfold dr2
  rw [upz_n (by omega), upz_n (by omega)]
theorem dr1_low (f : Nat → Int) (i : Nat) {k : Nat} (hk : k < 21) : dr1 f i k = f k := by
  unfold dr1
  rw [upz_n (by omega), upz_n (by omega)]
theorem dr2_c (f f' : Nat → Int) (i : Nat) (e : ∀ k : Nat, 21 ≤ k → f k = f' k) : ∀ k : Nat, 21 ≤ k → dr2 f i k = dr2 f' i k := fun k hk => by
  unfold dr2 upz
  split
  · rfl
  · split
    · rfl
    · exact e k hk
theorem dr2_d (f f' : Nat → Int) (i : Nat) {k : Nat} (hk : k < 8) (e : f k = f' k) : dr2 f i k = dr2 f' i k := by
  rw [dr2_low _ _ (by omega), dr2_low _ _ (by omega)]
  exact e
theorem RI_dr {c : Nat} {f1 f2 : Nat → Int} (h : RI c f1 f2) {i : Nat} (hi : i < 3) : RI c (dr1 f1 i) (dr2 f2 i) :=
  RI_mv (RI_mv h (j := i) (q := 0) hi (by decide) ⟨by decide, by decide⟩ rfl rfl) (j := i) (q := 1) hi (by decide) (Or.inl rfl) rfl rfl
theorem unl_hi (f : Nat → Int) : ∀ k : Nat, (k < 11 ∨ 15 ≤ k) → s_X2_unlocks f k = f k := fun k hk => by
  unfold s_X2_unlocks
  rw [upz_n (by omega), upz_n (by omega), upz_n (by omega), upz_n (by omega)]
section HOURS
variable {c n : Nat} {f1 f2 g1 g2 : Nat → Int}
theorem drill1_at : s_X1_drill_lp23 f1 g1 n 4 0 f1 = (0, (((s_X1_leaveOpen (dr1 (dr1 (dr1 f1 0) 1) 2)) 10) + 1), (upz (s_X1_leaveOpen (dr1 (dr1 (dr1 f1 0) 1) 2)) 10 (((s_X1_leaveOpen (dr1 (dr1 (dr1 f1 0) 1) 2)) 10) + 1)), (s_X1_save f1 g1 n).1, (s_X1_save f1 g1 n).2) := by
  have s : ∀ (k i : Nat) (f9 : Nat → Int), i < 3 → s_X1_drill_lp23 f1 g1 n (k + 1) i f9 = s_X1_drill_lp23 f1 g1 n k (i + 1) (dr1 f9 i) := fun k i f9 hi => by
    rw [s_X1_drill_lp23, if_neg (by omega)]
    rfl
  have e : ∀ (k : Nat) (f9 : Nat → Int), s_X1_drill_lp23 f1 g1 n (k + 1) 3 f9 = (0, (((s_X1_leaveOpen f9) 10) + 1), (upz (s_X1_leaveOpen f9) 10 (((s_X1_leaveOpen f9) 10) + 1)), (s_X1_save f1 g1 n).1, (s_X1_save f1 g1 n).2) := fun k f9 => by
    rw [s_X1_drill_lp23, if_pos (by decide)]
  rw [s 3 0 f1 (by decide), s 2 1 _ (by decide), s 1 2 _ (by decide), e 0]
theorem drill2_at (f0 : Nat → Int) : s_X2_drill_lp31 f2 g2 n 4 0 f0 = (((dr2 (dr2 (dr2 f0 0) 1) 2) 20 + 1), 0, (upz (dr2 (dr2 (dr2 f0 0) 1) 2) 20 ((dr2 (dr2 (dr2 f0 0) 1) 2) 20 + 1)), (s_X2_saves f2 g2 n).1, (s_X2_saves f2 g2 n).2) := by
  have s : ∀ (k i : Nat) (f9 : Nat → Int), i < 3 → s_X2_drill_lp31 f2 g2 n (k + 1) i f9 = s_X2_drill_lp31 f2 g2 n k (i + 1) (dr2 f9 i) := fun k i f9 hi => by
    rw [s_X2_drill_lp31, if_neg (by omega)]
    rfl
  have e : ∀ (k : Nat) (f9 : Nat → Int), s_X2_drill_lp31 f2 g2 n (k + 1) 3 f9 = ((f9 20 + 1), 0, (upz f9 20 (f9 20 + 1)), (s_X2_saves f2 g2 n).1, (s_X2_saves f2 g2 n).2) := fun k f9 => by
    rw [s_X2_drill_lp31, if_pos (by decide)]
  rw [s 3 0 f0 (by decide), s 2 1 _ (by decide), s 1 2 _ (by decide), e 0]
theorem a_drill (h : RI c f1 f2) (hg : RG c n g1 g2) (hn : n ≤ 6) : Agree (c + 1) km_drill (s_X1_drill f1 g1 n) (s_X2_drill f2 g2 n) := by
  have hA := h.1.1
  have rA := h.2.1.1
  unfold InvA at hA
  unfold RelA at rA
  unfold s_X1_drill s_X2_drill
  simp only [locked0]
  by_cases hl : f1 1 = 0
  · rw [if_pos hl, if_pos (show f2 11 = 0 by omega)]
    exact agree_no h hg hn (by decide) rfl
  · rw [if_neg hl, if_neg (show ¬ f2 11 = 0 by omega), show 3 + 1 - 0 = 4 by rfl, drill1_at, drill2_at]
    have hd : RI c (dr1 (dr1 (dr1 f1 0) 1) 2) (dr2 (dr2 (dr2 f2 0) 1) 2) := RI_dr (RI_dr (RI_dr h (by decide)) (by decide)) (by decide)
    have lo1 : ∀ k : Nat, k < 21 → dr1 (dr1 (dr1 f1 0) 1) 2 k = f1 k := fun k hk => by rw [dr1_low _ _ hk, dr1_low _ _ hk, dr1_low _ _ hk]
    have lo2 : ∀ (f : Nat → Int) (k : Nat), k < 21 → dr2 (dr2 (dr2 f 0) 1) 2 k = f k := fun f k hk => by rw [dr2_low _ _ hk, dr2_low _ _ hk, dr2_low _ _ hk]
    have hi2 : ∀ k : Nat, 21 ≤ k → dr2 (dr2 (dr2 (s_X2_unlocks f2) 0) 1) 2 k = dr2 (dr2 (dr2 f2 0) 1) 2 k := dr2_c _ _ _ (dr2_c _ _ _ (dr2_c _ _ _ (fun k hk => unl_hi f2 k (Or.inr (by omega)))))
    have e10 : s_X1_leaveOpen (dr1 (dr1 (dr1 f1 0) 1) 2) 10 = f1 10 := by
      unfold s_X1_leaveOpen
      rw [upz_n (by decide), upz_n (by decide), upz_n (by decide), upz_n (by decide), lo1 10 (by decide)]
    have e20 : dr2 (dr2 (dr2 (s_X2_unlocks f2) 0) 1) 2 20 = f1 10 := by
      rw [lo2 _ _ (by decide), unl_hi f2 20 (Or.inr (by decide))]
      omega
    rw [e10, e20]
    have u11 : s_X2_unlocks f2 11 = 0 := by unfold s_X2_unlocks; simp [upz]
    have u12 : s_X2_unlocks f2 12 = -1 := by unfold s_X2_unlocks; simp [upz]
    have u13 : s_X2_unlocks f2 13 = 0 := by unfold s_X2_unlocks; simp [upz]
    have u14 : s_X2_unlocks f2 14 = 0 := by unfold s_X2_unlocks; simp [upz]
    refine agree_yes h hg hn rfl rfl (RI_door hd ?_ ?_ ?_ (fun k hk => ?_) (fun k hk => ?_))
    · unfold InvA s_X1_leaveOpen
      simp [upz, lo1]
      omega
    · unfold RelA s_X1_leaveOpen
      simp [upz, lo1, lo2, unl_hi, u11, u12, u13, u14]
      omega
    · unfold s_X1_leaveOpen
      rw [upz_n (by decide), upz_n (by decide), upz_n (by decide), upz_n (by decide), upz_n (by decide)]
    · unfold s_X1_leaveOpen
      rw [upz_n (by omega), upz_n (by omega), upz_n (by omega), upz_n (by omega), upz_n (by omega)]
    · rw [upz_n (by omega)]
      rcases hk with hk | hk
      · rw [lo2 _ _ (by omega), lo2 _ _ (by omega), unl_hi f2 k (Or.inl (by omega))]
      · exact hi2 k hk
/-- a movement's hour, as the reference runs it -/
def hg2 (f9 : Nat → Int) (i : Nat) : Nat → Int := if s_X2_goes f9 i = 0 then f9 else if f9 (21 + 4 * i) ≤ 0 then f9 else if f9 (21 + 4 * i + 2) ≤ 0 then upz (upz f9 (21 + 4 * i + 3) (f9 (21 + 4 * i + 3) + 1)) (21 + 4 * i) (f9 (21 + 4 * i) - 1) else if (f9 (21 + 4 * i + 3) + 1) % f9 (21 + 4 * i + 2) = 0 then upz (upz f9 (21 + 4 * i + 3) (f9 (21 + 4 * i + 3) + 1)) (21 + 4 * i) (f9 (21 + 4 * i) - 0) else upz (upz f9 (21 + 4 * i + 3) (f9 (21 + 4 * i + 3) + 1)) (21 + 4 * i) (f9 (21 + 4 * i) - 1)
theorem hour2_step (k i : Nat) (f9 : Nat → Int) (hi : i < 3) : s_X2_hourGoes_lp2 (k + 1) i f9 = if f9 11 = 1 then s_X2_hourGoes_lp2 k (i + 1) (hg2 f9 i) else upz f9 0 (f9 0 + 1) := by
  rw [s_X2_hourGoes_lp2, if_neg (by omega)]
  unfold hg2
  by_cases hl : f9 11 = 1
  · rw [if_pos hl, if_pos hl]
    (repeat' split) <;> rfl
  · rw [if_neg hl, if_neg hl]
theorem hour2_end (k : Nat) (f9 : Nat → Int) : s_X2_hourGoes_lp2 (k + 1) 3 f9 = upz f9 0 (f9 0 + 1) := by
  rw [s_X2_hourGoes_lp2, if_pos (by decide)]
theorem hg2_low (f9 : Nat → Int) (i : Nat) {k : Nat} (hk : k < 21) : hg2 f9 i k = f9 k := by
  unfold hg2
  (repeat' split) <;> first | rfl | rw [upz_n (by omega), upz_n (by omega)]
theorem hg2_up (f9 : Nat → Int) (i : Nat) (v : Int) : hg2 (upz f9 0 v) i = upz (hg2 f9 i) 0 v := by
  have e : ∀ k : Nat, 21 ≤ k → upz f9 0 v k = f9 k := fun k hk => upz_n (by omega)
  have eg : s_X2_goes (upz f9 0 v) i = s_X2_goes f9 i := by unfold s_X2_goes; rw [e _ (by omega)]
  have ec : ∀ (p q : Nat) (x y : Int), 21 ≤ p → 21 ≤ q → upz (upz (upz f9 0 v) p x) q y = upz (upz (upz f9 p x) q y) 0 v := fun p q x y hp hq => by
    funext k
    unfold upz
    (repeat' split) <;> first | rfl | omega
  unfold hg2
  rw [eg, e (21 + 4 * i) (by omega), e (21 + 4 * i + 2) (by omega), e (21 + 4 * i + 3) (by omega), ec _ _ _ _ (by omega) (by omega), ec _ _ _ _ (by omega) (by omega)]
  (repeat' split) <;> rfl
theorem hour2_at (f9 : Nat → Int) (hl : f9 11 = 1) : s_X2_hourGoes f9 = hg2 (hg2 (hg2 (upz f9 0 (f9 0 + 1)) 0) 1) 2 := by
  unfold s_X2_hourGoes
  rw [show 3 + 1 - 0 = 4 by rfl, hour2_step _ _ _ (by decide), if_pos hl, hour2_step _ _ _ (by decide), if_pos (by rw [hg2_low _ _ (by decide)]; exact hl), hour2_step _ _ _ (by decide), if_pos (by rw [hg2_low _ _ (by decide), hg2_low _ _ (by decide)]; exact hl), hour2_end]
  rw [hg2_up, hg2_up, hg2_up, hg2_low _ _ (by decide), hg2_low _ _ (by decide), hg2_low _ _ (by decide)]
theorem hour2_open (f9 : Nat → Int) (hl : ¬ f9 11 = 1) : s_X2_hourGoes f9 = upz f9 0 (f9 0 + 1) := by
  unfold s_X2_hourGoes
  rw [show 3 + 1 - 0 = 4 by rfl, hour2_step _ _ _ (by decide), if_neg hl]
theorem RI_hour0 (h : RI c f1 f2) (h0 : f1 0 < 99999) : RI c (upz f1 0 (f1 0 + 1)) (upz f2 0 (f2 0 + 1)) := by
  obtain ⟨⟨hA, hD, hM⟩, ⟨rA, rD, rM⟩, hT⟩ := h
  have e0 : f2 0 = f1 0 := rA.1
  refine ⟨⟨?_, InvD_c hD (fun k h1 h2 => upz_n (by omega)), ?_⟩, ⟨?_, RelD_c rD (fun k h1 h2 => upz_n (by omega)) (fun k h1 h2 => upz_n (by omega)), RelM_c rM (fun k h1 h2 => upz_n (by omega)) (fun k h1 h2 => upz_n (by omega))⟩, Tail_up hT (by omega) (by omega) _ _⟩
  · unfold InvA at *
    simp [upz]
    omega
  · unfold InvM mv1 at *
    simp [upz]
    omega
  · unfold RelA at *
    simp [upz]
    omega
theorem run1_low (f : Nat → Int) (j : Nat) {k : Nat} (hk : k < 21) : s_X1_runHour f j k = f k := by
  unfold s_X1_runHour
  (repeat' split) <;> first | rfl | rw [upz_n (by omega), upz_n (by omega)] | rw [upz_n (by omega)]
theorem run1_other (f : Nat → Int) {j j' : Nat} (hj : j < 3) (hne : j' ≠ j) : s_X1_runHour f j (21 + j' * 4 + 3) = f (21 + j' * 4 + 3) := by
  unfold s_X1_runHour
  (repeat' split) <;> first | rfl | rw [upz_n (by omega), upz_n (by omega)] | rw [upz_n (by omega)]
theorem RI_run (h : RI c f1 f2) {j : Nat} (hj : j < 3) (hs : f1 (21 + j * 4 + 3) < f1 0) : RI c (s_X1_runHour f1 j) (hg2 f2 j) := by
  have hm := mv_at h.1.2.2 hj
  have hr := rl_at h.2.1.2.2 hj
  unfold mv1 at hm
  unfold s_X1_runHour hg2
  rw [goes_eq h hj, hr.1, hr.2.2.1, hr.2.2.2]
  by_cases hg : s_X1_goes f1 j = 0
  · rw [if_pos hg, if_pos hg]
    exact h
  · rw [if_neg hg, if_neg hg]
    by_cases hz : f1 (21 + j * 4 + 0) = 0
    · rw [if_pos hz, if_pos (show f1 (21 + j * 4 + 0) ≤ 0 by omega)]
      exact h
    · rw [if_neg hz, if_neg (show ¬ f1 (21 + j * 4 + 0) ≤ 0 by omega)]
      have h3 : RI c (upz f1 (21 + j * 4 + 3) (f1 (21 + j * 4 + 3) + 1)) (upz f2 (21 + 4 * j + 3) (f1 (21 + j * 4 + 3) + 1)) := RI_mv h (j := j) (q := 3) hj (by decide) ⟨by omega, by omega⟩ rfl rfl
      have h0 : RI c (upz (upz f1 (21 + j * 4 + 3) (f1 (21 + j * 4 + 3) + 1)) (21 + j * 4 + 0) (f1 (21 + j * 4 + 0) - 1)) (upz (upz f2 (21 + 4 * j + 3) (f1 (21 + j * 4 + 3) + 1)) (21 + 4 * j) (f1 (21 + j * 4 + 0) - 1)) := RI_mv h3 (j := j) (q := 0) hj (by decide) ⟨by omega, by omega⟩ rfl rfl
      have e0 : upz (upz f2 (21 + 4 * j + 3) (f1 (21 + j * 4 + 3) + 1)) (21 + 4 * j) (f1 (21 + j * 4 + 0) - 0) = upz f2 (21 + 4 * j + 3) (f1 (21 + j * 4 + 3) + 1) := by
        funext k
        by_cases hk : k = 21 + 4 * j
        · subst hk
          rw [upz_s, upz_n (by omega), hr.1]
          omega
        · rw [upz_n hk]
      unfold s_X1_isLostHour
      by_cases hl : f1 (21 + j * 4 + 2) ≤ 0
      · rw [if_pos hl, if_pos hl, if_pos rfl]
        exact h0
      · rw [if_neg hl, if_neg hl]
        by_cases hx : (f1 (21 + j * 4 + 3) + 1) % f1 (21 + j * 4 + 2) = 0
        · rw [if_pos hx, if_pos hx, if_neg (by decide), e0]
          exact h3
        · rw [if_neg hx, if_neg hx, if_pos rfl]
          exact h0
theorem pass_step (k i : Nat) (f : Nat → Int) (hi : i < 3) : s_X1_passHour_lp19 (k + 1) i f = s_X1_passHour_lp19 k (i + 1) (s_X1_runHour f i) := by
  rw [s_X1_passHour_lp19, if_neg (by omega)]
theorem pass_end (k : Nat) (f : Nat → Int) : s_X1_passHour_lp19 (k + 1) 3 f = f := by
  rw [s_X1_passHour_lp19, if_pos (by decide)]
theorem RI_hour (h : RI c f1 f2) (h0 : f1 0 < 99999) : RI c (s_X1_passHour f1) (s_X2_hourGoes f2) ∧ s_X1_passHour f1 0 = f1 0 + 1 := by
  have hz := RI_hour0 h h0
  have hl := RI_lk h
  unfold s_X1_passHour
  simp only [locked0]
  have e1 : upz f1 0 (f1 0 + 1) 1 = f1 1 := upz_n (by decide)
  rw [e1]
  by_cases hk : f1 1 = 0
  · rw [if_pos hk, hour2_open f2 (by omega)]
    exact ⟨hz, upz_s⟩
  · rw [if_neg hk, hour2_at f2 (by omega), show 3 + 1 - 0 = 4 by rfl, pass_step _ _ _ (by decide), pass_step _ _ _ (by decide), pass_step _ _ _ (by decide), pass_end]
    have hm : ∀ j : Nat, j < 3 → f1 (21 + j * 4 + 3) ≤ f1 0 := fun j hj => by
      have := mv_at h.1.2.2 hj
      unfold mv1 at this
      omega
    have a0 := RI_run hz (j := 0) (by decide) (by rw [upz_n (by decide), upz_s]; have := hm 0 (by decide); omega)
    have a1 := RI_run a0 (j := 1) (by decide) (by rw [run1_other _ (j := 0) (j' := 1) (by decide) (by decide), upz_n (by decide), run1_low _ _ (by decide), upz_s]; have := hm 1 (by decide); omega)
    have a2 := RI_run a1 (j := 2) (by decide) (by rw [run1_other _ (j := 1) (j' := 2) (by decide) (by decide), run1_other _ (j := 0) (j' := 2) (by decide) (by decide), upz_n (by decide), run1_low _ _ (by decide), run1_low _ _ (by decide), upz_s]; have := hm 2 (by decide); omega)
    refine ⟨a2, ?_⟩
    rw [run1_low _ _ (by decide), run1_low _ _ (by decide), run1_low _ _ (by decide), upz_s]
theorem count_loop {f9 f9' : Nat → Int} (hr : RelM f9 f9') : ∀ (k i : Nat) (v : Int), i + k = 4 → i ≤ 3 → s_X2_pass_lp66 f2 g2 n f9' k i v = (s_X1_movementsRunDown_lp4 f9 k i v, 0, f9', (s_X2_saves f2 g2 n).1, (s_X2_saves f2 g2 n).2) := by
  intro k
  induction k with
  | zero => intro i v h1 h2; exact absurd h1 (by omega)
  | succ k ih =>
    intro i v h1 h2
    rw [s_X2_pass_lp66, s_X1_movementsRunDown_lp4]
    by_cases h3 : 3 ≤ (i : Int)
    · rw [if_pos h3, if_pos h3]
    · rw [if_neg h3, if_neg h3, (rl_at hr (show i < 3 by omega)).1]
      by_cases hz : f9 (21 + i * 4 + 0) = 0
      · rw [if_pos hz, if_pos hz]
        exact ih _ _ (by omega) (by omega)
      · rw [if_neg hz, if_neg hz, ih _ _ (by omega) (by omega), Int.add_zero]
theorem pass_loop (h : RI c f1 f2) (hg : RG c n g1 g2) (hn : n ≤ 6) {x0 : Int} (hx : 1 ≤ x0) (hlim : f1 0 + x0 ≤ 99999) : ∀ (k i : Nat) (f9 f9' : Nat → Int), i + k = x0.toNat + 1 → i ≤ x0.toNat → RI c f9 f9' → f9 0 = f1 0 + (i : Int) → Agree (c + 1) km_pass (s_X1_pass_lp51 f1 g1 n x0 k i f9) (s_X2_pass_lp47 f2 g2 n x0 k i f9') := by
  intro k
  induction k with
  | zero => intro i f9 f9' h1 h2; exact absurd h1 (by omega)
  | succ k ih =>
    intro i f9 f9' h1 h2 hr he
    rw [s_X1_pass_lp51, s_X2_pass_lp47]
    by_cases h3 : x0 ≤ (i : Int)
    · rw [if_pos h3, if_pos h3, count_loop hr.2.1.2.2 _ _ _ (by decide) (by decide)]
      exact agree_yes h hg hn rfl rfl (RI_more hr)
    · rw [if_neg h3, if_neg h3]
      obtain ⟨a, b⟩ := RI_hour hr (by omega)
      exact ih (i + 1) _ _ (by omega) (by omega) a (by rw [b, he]; omega)
theorem a_pass (h : RI c f1 f2) (hg : RG c n g1 g2) (hn : n ≤ 6) (x0 : Int) : Agree (c + 1) km_pass (s_X1_pass f1 g1 n x0) (s_X2_pass f2 g2 n x0) := by
  unfold s_X1_pass s_X2_pass
  have hl := RI_lk h
  simp only [in0]
  by_cases hx : x0 < 1
  · rw [if_pos hx, if_pos (show x0 < 1 ∨ 200 < x0 by omega)]
    exact agree_no h hg hn (by decide) rfl
  · rw [if_neg hx]
    by_cases hy : x0 ≤ 200
    · rw [if_pos hy, if_neg (show ¬ (x0 < 1 ∨ 200 < x0) by omega), hl.2.2]
      by_cases hz : f1 0 + x0 ≤ 99999
      · rw [if_pos hz, if_pos hz]
        exact pass_loop h hg hn (by omega) hz _ _ _ _ (by omega) (by omega) h (by omega)
      · rw [if_neg hz, if_neg hz]
        exact agree_no h hg hn (by decide) rfl
    · rw [if_neg hy, if_pos (show x0 < 1 ∨ 200 < x0 by omega)]
      exact agree_no h hg hn (by decide) rfl
end HOURS
