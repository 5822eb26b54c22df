/-! what the class keeps, told of its numbers alone -/
def mv1 (B r g l a : Int) : Prop := (0 ≤ r ∧ r ≤ 200) ∧ (g = 0 ∨ g = 1) ∧ (0 ≤ l ∧ l ≤ 20) ∧ 0 ≤ a ∧ a ≤ B
def dy1 (x : Int) : Prop := -1 ≤ x ∧ x ≤ 23
def InvD (f : Nat → Int) : Prop := dy1 (f 14) ∧ dy1 (f 15) ∧ dy1 (f 16) ∧ dy1 (f 17) ∧ dy1 (f 18) ∧ dy1 (f 19) ∧ dy1 (f 20)
def InvM (f : Nat → Int) : Prop := mv1 (f 0) (f 21) (f 22) (f 23) (f 24) ∧ mv1 (f 0) (f 25) (f 26) (f 27) (f 28) ∧ mv1 (f 0) (f 29) (f 30) (f 31) (f 32)
/-- a movement's four numbers -/
theorem mv_at {f : Nat → Int} (h : InvM f) {j : Nat} (hj : j < 3) : mv1 (f 0) (f (21 + j * 4 + 0)) (f (21 + j * 4 + 1)) (f (21 + j * 4 + 2)) (f (21 + j * 4 + 3)) := by
  rcases (show j = 0 ∨ j = 1 ∨ j = 2 by omega) with rfl | rfl | rfl
  · exact h.1
  · exact h.2.1
  · exact h.2.2
theorem dy_at {f : Nat → Int} (h : InvD f) {k : Nat} (h1 : 14 ≤ k) (h2 : k < 21) : -1 ≤ f k ∧ f k ≤ 23 := by
  unfold InvD dy1 at h
  rcases (show k = 14 ∨ k = 15 ∨ k = 16 ∨ k = 17 ∨ k = 18 ∨ k = 19 ∨ k = 20 by omega) with rfl | rfl | rfl | rfl | rfl | rfl | rfl <;> omega
theorem mvB_of {f : Nat → Int} (h : InvM f) : mvB f (f 0) := fun j hj => mv_at h hj
def wk (f : Nat → Int) (T : Int) (a : Nat) : Int := f (14 + ((T / 24 + (a : Int)) % 7).toNat)
theorem wk_idx (T : Int) (a : Nat) : ((14 + (((T / 24) % 7 + (a : Int)) % 7))).toNat = 14 + ((T / 24 + (a : Int)) % 7).toNat := by omega
/-- what the days tell: none, or the first -/
def dOk (f : Nat → Int) (a : Nat) : Prop := wk f (f 0) a ≠ -1 ∧ 0 < (a : Int) * 24 + wk f (f 0) a - f 0 % 24
theorem dLoop (f : Nat → Int) : ∀ k i : Nat, i ≤ 8 → i + k = 9 → (s_X1_hoursToOpening_lp2 f k i = -1 ∧ ∀ a, i ≤ a → a ≤ 7 → ¬ dOk f a) ∨ ∃ a, i ≤ a ∧ a ≤ 7 ∧ dOk f a ∧ (∀ a', i ≤ a' → a' < a → ¬ dOk f a') ∧ s_X1_hoursToOpening_lp2 f k i = (a : Int) * 24 + wk f (f 0) a - f 0 % 24 := by
  intro k
  induction k with
  | zero =>
    intro i h9 h
    exact absurd h (by omega)
  | succ k ih =>
    intro i h9 h
    unfold s_X1_hoursToOpening_lp2
    rw [wk_idx]
    show (if 7 < (i : Int) then (-1) else if wk f (f 0) i = -1 then s_X1_hoursToOpening_lp2 f k (i + 1) else if (i : Int) * 24 + wk f (f 0) i - f 0 % 24 ≤ 0 then s_X1_hoursToOpening_lp2 f k (i + 1) else (i : Int) * 24 + wk f (f 0) i - f 0 % 24) = -1 ∧ _ ∨ ∃ a, _ ∧ _ ∧ _ ∧ _ ∧ (if 7 < (i : Int) then (-1) else if wk f (f 0) i = -1 then s_X1_hoursToOpening_lp2 f k (i + 1) else if (i : Int) * 24 + wk f (f 0) i - f 0 % 24 ≤ 0 then s_X1_hoursToOpening_lp2 f k (i + 1) else (i : Int) * 24 + wk f (f 0) i - f 0 % 24) = _
    by_cases h7 : 7 < (i : Int)
    · rw [if_pos h7]
      exact Or.inl ⟨rfl, fun a h1 h2 => by omega⟩
    · rw [if_neg h7]
      by_cases hok : dOk f i
      · rw [if_neg hok.1, if_neg (by have := hok.2; omega)]
        exact Or.inr ⟨i, Nat.le_refl _, by omega, hok, fun a' h1 h2 => by omega, rfl⟩
      · have e : (if wk f (f 0) i = -1 then s_X1_hoursToOpening_lp2 f k (i + 1) else if (i : Int) * 24 + wk f (f 0) i - f 0 % 24 ≤ 0 then s_X1_hoursToOpening_lp2 f k (i + 1) else (i : Int) * 24 + wk f (f 0) i - f 0 % 24) = s_X1_hoursToOpening_lp2 f k (i + 1) := by
          by_cases h1 : wk f (f 0) i = -1
          · rw [if_pos h1]
          · rw [if_neg h1]
            by_cases h2 : (i : Int) * 24 + wk f (f 0) i - f 0 % 24 ≤ 0
            · rw [if_pos h2]
            · exact absurd ⟨h1, by omega⟩ hok
        rw [e]
        rcases ih (i + 1) (by omega) (by omega) with ⟨h1, h2⟩ | ⟨a, h1, h2, h3, h4, h5⟩
        · refine Or.inl ⟨h1, fun a g1 g2 => ?_⟩
          by_cases ha : a = i
          · rw [ha]; exact hok
          · exact h2 a (by omega) g2
        · refine Or.inr ⟨a, by omega, h2, h3, fun a' g1 g2 => ?_, h5⟩
          by_cases ha : a' = i
          · rw [ha]; exact hok
          · exact h4 a' (by omega) g2
def dn (x g l a : Int) : Int := if x = 0 then 0 else if g = 0 then -1 else if l = 1 then -1 else if 0 < l then x + ((a % l + x) - 1) / (l - 1) else x
theorem dn_X1 (f : Nat → Int) (j : Nat) (g : Int) : s_X1_hoursToRunDown f j g = dn (f (21 + j * 4 + 0)) g (f (21 + j * 4 + 2)) (f (21 + j * 4 + 3)) := rfl
theorem loss_cases {l : Int} (h1 : 2 ≤ l) (h2 : l ≤ 20) : l = 2 ∨ l = 3 ∨ l = 4 ∨ l = 5 ∨ l = 6 ∨ l = 7 ∨ l = 8 ∨ l = 9 ∨ l = 10 ∨ l = 11 ∨ l = 12 ∨ l = 13 ∨ l = 14 ∨ l = 15 ∨ l = 16 ∨ l = 17 ∨ l = 18 ∨ l = 19 ∨ l = 20 := by omega
theorem dn_most {l a x : Int} (h1 : 2 ≤ l) (h2 : l ≤ 20) (ha : 0 ≤ a) (hx : 1 ≤ x) (hx2 : x ≤ 200) : x ≤ x + ((a % l + x) - 1) / (l - 1) ∧ x + ((a % l + x) - 1) / (l - 1) ≤ 402 := by
  rcases loss_cases h1 h2 with rfl | rfl | rfl | rfl | rfl | rfl | rfl | rfl | rfl | rfl | rfl | rfl | rfl | rfl | rfl | rfl | rfl | rfl | rfl <;> omega
/-- what a number of hours until run down can be -/
theorem dn_range {x g l a : Int} (hx0 : 0 ≤ x) (hx : x ≤ 200) (hl : 0 ≤ l ∧ l ≤ 20) (ha : 0 ≤ a) : dn x g l a = -1 ∨ (0 ≤ dn x g l a ∧ dn x g l a ≤ 402) := by
  unfold dn
  split
  · omega
  · split
    · omega
    · split
      · omega
      · split
        · have := dn_most (l := l) (a := a) (x := x) (by omega) (by omega) ha (by omega) hx
          omega
        · omega
def mn1 (v c : Int) : Int := if c = -1 then v else if v = -1 then c else if v ≤ c then v else c
def wt1 (f : Nat → Int) : Int := if f 4 - f 0 < 0 then 0 else f 4 - f 0
def c1o (f : Nat → Int) (x : Int) (i : Nat) : Int := s_X1_hoursToRunDown f i (if s_X1_goes f i = 0 then 0 else if (i : Int) = x then 0 else 1)
theorem lp13_step (f : Nat → Int) (x : Int) (k i : Nat) (v : Int) (hi : i < 3) : s_X1_hoursToOpen_lp13 f x (k + 1) i v = s_X1_hoursToOpen_lp13 f x k (i + 1) (mn1 v (c1o f x i)) := by
  rw [s_X1_hoursToOpen_lp13, if_neg (by omega)]
  unfold mn1 c1o
  by_cases hg : s_X1_goes f i = 0
  · simp only [if_pos hg]
    (repeat' split) <;> rfl
  · simp only [if_neg hg]
    by_cases hx : (i : Int) = x
    · simp only [if_pos hx]
      (repeat' split) <;> rfl
    · simp only [if_neg hx]
      (repeat' split) <;> rfl
theorem lp13_end (f : Nat → Int) (x : Int) (k : Nat) (v : Int) : s_X1_hoursToOpen_lp13 f x (k + 1) 3 v = (if v = -1 then -1 else if v < wt1 f then wt1 f else v) := by
  rw [s_X1_hoursToOpen_lp13, if_pos (by decide)]
  rfl
theorem lp13_all (f : Nat → Int) (x : Int) : s_X1_hoursToOpen_lp13 f x 4 0 (-1) = (if mn1 (mn1 (mn1 (-1) (c1o f x 0)) (c1o f x 1)) (c1o f x 2) = -1 then -1 else if mn1 (mn1 (mn1 (-1) (c1o f x 0)) (c1o f x 1)) (c1o f x 2) < wt1 f then wt1 f else mn1 (mn1 (mn1 (-1) (c1o f x 0)) (c1o f x 1)) (c1o f x 2)) := by
  rw [lp13_step _ _ _ _ _ (by decide), lp13_step _ _ _ _ _ (by decide), lp13_step _ _ _ _ _ (by decide)]
  exact lp13_end f x 0 _
theorem hoursToOpen_at (f : Nat → Int) (x : Int) : s_X1_hoursToOpen f x = if s_X1_isLocked f = 0 then -1 else (if mn1 (mn1 (mn1 (-1) (c1o f x 0)) (c1o f x 1)) (c1o f x 2) = -1 then -1 else if mn1 (mn1 (mn1 (-1) (c1o f x 0)) (c1o f x 1)) (c1o f x 2) < wt1 f then wt1 f else mn1 (mn1 (mn1 (-1) (c1o f x 0)) (c1o f x 1)) (c1o f x 2)) := by
  unfold s_X1_hoursToOpen
  rw [show 3 + 1 - 0 = 4 by rfl, lp13_all]
theorem locked_iff (f : Nat → Int) : s_X1_isLocked f = 0 ↔ f 1 = 0 := by unfold s_X1_isLocked; split <;> omega
theorem c1o_stopped {f : Nat → Int} {i : Nat} (hg : s_X1_goes f i = 0) (j : Nat) : c1o f (i : Int) j = c1o f (-1) j := by
  unfold c1o
  by_cases hj : j = i
  · subst hj
    rw [if_pos hg, if_pos hg]
  · rw [if_neg (show ¬ ((j : Int) = (i : Int)) by omega), if_neg (show ¬ ((j : Int) = -1) by omega)]
theorem hto_stopped {f : Nat → Int} {i : Nat} (hg : s_X1_goes f i = 0) : s_X1_hoursToOpen f (i : Int) = s_X1_hoursToOpen f (-1) := by
  rw [hoursToOpen_at, hoursToOpen_at, c1o_stopped hg, c1o_stopped hg, c1o_stopped hg]
theorem windH {x : Int} : (if s_X1_areWindingHours x = 0 then (-1 : Int) else x) = if 1 ≤ x ∧ x ≤ 200 then x else -1 := by
  unfold s_X1_areWindingHours
  (repeat' split) <;> omega
def blk (g : Nat → Int) (s : Nat) : Nat → Int := fun k => if k < 33 then g (33 * s + k) else 0
def cut (f : Nat → Int) : Nat → Int := fun k => if k < 33 then f k else 0
def nx (n : Nat) : Nat := if n < 6 then n + 1 else 6
theorem save1_n (f g : Nat → Int) {n : Nat} : (s_X1_save f g n).2 = nx n := by
  unfold s_X1_save nx
  by_cases h : n < 6
  · rw [if_pos (by omega), if_pos h]
  · rw [if_neg (by omega), if_neg h]
theorem save1_at (f g : Nat → Int) {n : Nat} (hn : n ≤ 6) {s : Nat} (hs : s < nx n) : blk (s_X1_save f g n).1 s = if s + 1 = nx n then cut f else blk g (if n < 6 then s else s + 1) := by
  unfold s_X1_save
  unfold nx at hs ⊢
  funext k
  by_cases h : n < 6
  · rw [if_pos (by omega)]
    simp only [if_pos h] at hs ⊢
    by_cases h1 : s + 1 = n + 1
    · rw [if_pos h1]
      unfold blk cut va_cpy
      by_cases hk : k < 33
      · rw [if_pos hk, if_pos hk, if_pos (by omega)]
        exact congrArg _ (by omega)
      · rw [if_neg hk, if_neg hk]
    · rw [if_neg h1]
      unfold blk va_cpy
      by_cases hk : k < 33
      · rw [if_pos hk, if_pos hk, if_neg (by omega)]
      · rw [if_neg hk, if_neg hk]
  · rw [if_neg (by omega)]
    simp only [if_neg h] at hs ⊢
    by_cases h1 : s + 1 = 6
    · rw [if_pos h1]
      unfold blk cut va_cpy
      by_cases hk : k < 33
      · rw [if_pos hk, if_pos hk, if_pos (by omega)]
        exact congrArg _ (by omega)
      · rw [if_neg hk, if_neg hk]
    · rw [if_neg h1]
      unfold blk va_cpy
      by_cases hk : k < 33
      · rw [if_pos hk, if_pos hk, if_neg (by omega), if_pos (by omega)]
        exact congrArg _ (by omega)
      · rw [if_neg hk, if_neg hk]
theorem nx_le {n : Nat} (hn : n ≤ 6) : nx n ≤ 6 := by unfold nx; split <;> omega
theorem InvD_c {f f' : Nat → Int} (h : InvD f) (e : ∀ k : Nat, 14 ≤ k → k < 21 → f' k = f k) : InvD f' := by
  unfold InvD at h ⊢
  rw [e 14 (by decide) (by decide), e 15 (by decide) (by decide), e 16 (by decide) (by decide), e 17 (by decide) (by decide), e 18 (by decide) (by decide), e 19 (by decide) (by decide), e 20 (by decide) (by decide)]
  exact h
theorem InvM_c {f f' : Nat → Int} (h : InvM f) (e0 : f' 0 = f 0) (e : ∀ k : Nat, 21 ≤ k → k < 33 → f' k = f k) : InvM f' := by
  unfold InvM at h ⊢
  rw [e0, e 21 (by decide) (by decide), e 22 (by decide) (by decide), e 23 (by decide) (by decide), e 24 (by decide) (by decide), e 25 (by decide) (by decide), e 26 (by decide) (by decide), e 27 (by decide) (by decide), e 28 (by decide) (by decide), e 29 (by decide) (by decide), e 30 (by decide) (by decide), e 31 (by decide) (by decide), e 32 (by decide) (by decide)]
  exact h
/-- one of a movement's four numbers -/
def mvOk (f : Nat → Int) (q : Nat) (v : Int) : Prop := if q = 0 then 0 ≤ v ∧ v ≤ 200 else if q = 1 then v = 0 ∨ v = 1 else if q = 2 then 0 ≤ v ∧ v ≤ 20 else 0 ≤ v ∧ v ≤ f 0
theorem isDay0 {x : Int} : s_X1_isDay x = 0 ↔ (x < 0 ∨ 7 ≤ x) := by unfold s_X1_isDay; (repeat' split) <;> omega
theorem isSetting0 {x : Int} : s_X1_isSetting x = 0 ↔ (x < 0 ∨ 3 ≤ x) := by unfold s_X1_isSetting; (repeat' split) <;> omega
theorem isMovement0 {x : Int} : s_X1_isMovement x = 0 ↔ (x < 0 ∨ 3 ≤ x) := by unfold s_X1_isMovement; (repeat' split) <;> omega
theorem areWinding0 {x : Int} : s_X1_areWindingHours x = 0 ↔ (x < 1 ∨ 200 < x) := by unfold s_X1_areWindingHours; (repeat' split) <;> omega
theorem locked0 {f : Nat → Int} : s_X1_isLocked f = 0 ↔ f 1 = 0 := locked_iff f
def rn1 (f : Nat → Int) (i : Nat) : Int := if s_X1_goes f i = 0 then 0 else if f (21 + i * 4 + 0) ≤ 0 then 0 else 1
theorem some_step (f : Nat → Int) (k i : Nat) (hi : i < 3) : s_X1_someMovementRuns_lp2 f (k + 1) i = if rn1 f i = 0 then s_X1_someMovementRuns_lp2 f k (i + 1) else 1 := by
  rw [s_X1_someMovementRuns_lp2, if_neg (by omega)]
  unfold rn1
  by_cases h1 : s_X1_goes f i = 0
  · rw [if_pos h1, if_pos h1, if_pos rfl]
  · rw [if_neg h1, if_neg h1]
    by_cases h2 : f (21 + i * 4 + 0) ≤ 0
    · rw [if_pos h2, if_pos h2, if_pos rfl]
    · rw [if_neg h2, if_neg h2, if_neg (by decide)]
theorem some_at (f : Nat → Int) : s_X1_someMovementRuns f = if rn1 f 0 = 0 then (if rn1 f 1 = 0 then (if rn1 f 2 = 0 then 0 else 1) else 1) else 1 := by
  unfold s_X1_someMovementRuns
  rw [show 3 + 1 - 0 = 4 by rfl, some_step _ _ _ (by decide), some_step _ _ _ (by decide), some_step _ _ _ (by decide)]
  rfl
def dr1 (f : Nat → Int) (i : Nat) : Nat → Int := upz (upz f (21 + i * 4 + 0) 0) (21 + i * 4 + 1) 0
theorem dr1_low (f : Nat → Int) (i : Nat) {k : Nat} (hk : k < 21) : dr1 f i k = f k := by
  unfold dr1
  rw [upz_n (by omega), upz_n (by omega)]
theorem drill1_at (f1 g1 : Nat → Int) (n : Nat) : s_X1_drill_lp23 f1 g1 n 4 0 f1 = (0, (((s_X1_leaveOpen (dr1 (dr1 (dr1 f1 0) 1) 2)) 10) + 1), (upz (s_X1_leaveOpen (dr1 (dr1 (dr1 f1 0) 1) 2)) 10 (((s_X1_leaveOpen (dr1 (dr1 (dr1 f1 0) 1) 2)) 10) + 1)), (s_X1_save f1 g1 n).1, (s_X1_save f1 g1 n).2) := by
  have s : ∀ (k i : Nat) (f9 : Nat → Int), i < 3 → s_X1_drill_lp23 f1 g1 n (k + 1) i f9 = s_X1_drill_lp23 f1 g1 n k (i + 1) (dr1 f9 i) := fun k i f9 hi => by
    rw [s_X1_drill_lp23, if_neg (by omega)]
    rfl
  have e : ∀ (k : Nat) (f9 : Nat → Int), s_X1_drill_lp23 f1 g1 n (k + 1) 3 f9 = (0, (((s_X1_leaveOpen f9) 10) + 1), (upz (s_X1_leaveOpen f9) 10 (((s_X1_leaveOpen f9) 10) + 1)), (s_X1_save f1 g1 n).1, (s_X1_save f1 g1 n).2) := fun k f9 => by
    rw [s_X1_drill_lp23, if_pos (by decide)]
  rw [s 3 0 f1 (by decide), s 2 1 _ (by decide), s 1 2 _ (by decide), e 0]
theorem run1_low (f : Nat → Int) (j : Nat) {k : Nat} (hk : k < 21) : s_X1_runHour f j k = f k := by
  unfold s_X1_runHour
  (repeat' split) <;> first | rfl | rw [upz_n (by omega), upz_n (by omega)] | rw [upz_n (by omega)]
theorem run1_other (f : Nat → Int) {j j' : Nat} (hj : j < 3) (hne : j' ≠ j) : s_X1_runHour f j (21 + j' * 4 + 3) = f (21 + j' * 4 + 3) := by
  unfold s_X1_runHour
  (repeat' split) <;> first | rfl | rw [upz_n (by omega), upz_n (by omega)] | rw [upz_n (by omega)]
theorem pass_step (k i : Nat) (f : Nat → Int) (hi : i < 3) : s_X1_passHour_lp19 (k + 1) i f = s_X1_passHour_lp19 k (i + 1) (s_X1_runHour f i) := by
  rw [s_X1_passHour_lp19, if_neg (by omega)]
theorem pass_end (k : Nat) (f : Nat → Int) : s_X1_passHour_lp19 (k + 1) 3 f = f := by
  rw [s_X1_passHour_lp19, if_pos (by decide)]
