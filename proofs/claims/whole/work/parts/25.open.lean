/-! in how many hours the door opens -/
def mn1 (v c : Int) : Int := if c = -1 then v else if v = -1 then c else if v ≤ c then v else c
def mn2 (v c : Int) : Int := if c < 0 then v else if v ≤ c then v else c
def wt1 (f : Nat → Int) : Int := if f 4 - f 0 < 0 then 0 else f 4 - f 0
def c1o (f : Nat → Int) (x : Int) (i : Nat) : Int := s_X1_hoursToRunDown f i (if s_X1_goes f i = 0 then 0 else if (i : Int) = x then 0 else 1)
def c2o (f : Nat → Int) (x : Int) (i : Nat) : Int := if (i : Int) = x then (if f (21 + 4 * i) ≤ 0 then s_X2_downIn f i (f (21 + 4 * i)) else -1) else s_X2_downIn f i (f (21 + 4 * i))
theorem waits_eq {f1 f2 : Nat → Int} {c : Nat} (h : RI c f1 f2) : s_X2_waits f2 = wt1 f1 := by
  obtain ⟨⟨hA, -, -⟩, ⟨rA, -, -⟩, -⟩ := h
  unfold InvA at hA
  unfold RelA at rA
  unfold s_X2_waits wt1
  rw [rA.1, rA.2.1, rA.2.2.2.2.1]
  split <;> split <;> (try split) <;> omega
theorem lp13_step (f : Nat → Int) (x : Int) (k i : Nat) (v : Int) (hi : i < 3) : s_X1_hoursToOpen_lp13 f x (k + 1) i v = s_X1_hoursToOpen_lp13 f x k (i + 1) (mn1 v (c1o f x i)) := by
  rw [s_X1_hoursToOpen_lp13, if_neg (by omega)]
  unfold mn1 c1o
  by_cases hg : s_X1_goes f i = 0
  · simp only [if_pos hg]
    (repeat' split) <;> rfl
  · simp only [if_neg hg]
    by_cases hx : (i : Int) = x
    · simp only [if_pos hx]
      (repeat' split) <;> rfl
    · simp only [if_neg hx]
      (repeat' split) <;> rfl
theorem lp13_end (f : Nat → Int) (x : Int) (k : Nat) (v : Int) : s_X1_hoursToOpen_lp13 f x (k + 1) 3 v = (if v = -1 then -1 else if v < wt1 f then wt1 f else v) := by
  rw [s_X1_hoursToOpen_lp13, if_pos (by decide)]
  rfl
theorem lp13_all (f : Nat → Int) (x : Int) : s_X1_hoursToOpen_lp13 f x 4 0 (-1) = (if mn1 (mn1 (mn1 (-1) (c1o f x 0)) (c1o f x 1)) (c1o f x 2) = -1 then -1 else if mn1 (mn1 (mn1 (-1) (c1o f x 0)) (c1o f x 1)) (c1o f x 2) < wt1 f then wt1 f else mn1 (mn1 (mn1 (-1) (c1o f x 0)) (c1o f x 1)) (c1o f x 2)) := by
  rw [lp13_step _ _ _ _ _ (by decide), lp13_step _ _ _ _ _ (by decide), lp13_step _ _ _ _ _ (by decide)]
  exact lp13_end f x 0 _
theorem hoursToOpen_at (f : Nat → Int) (x : Int) : s_X1_hoursToOpen f x = if s_X1_isLocked f = 0 then -1 else (if mn1 (mn1 (mn1 (-1) (c1o f x 0)) (c1o f x 1)) (c1o f x 2) = -1 then -1 else if mn1 (mn1 (mn1 (-1) (c1o f x 0)) (c1o f x 1)) (c1o f x 2) < wt1 f then wt1 f else mn1 (mn1 (mn1 (-1) (c1o f x 0)) (c1o f x 1)) (c1o f x 2)) := by
  unfold s_X1_hoursToOpen
  rw [show 3 + 1 - 0 = 4 by rfl, lp13_all]
theorem lp5_step (f : Nat → Int) (x : Int) (k i : Nat) (v : Int) (hi : i < 3) : s_X2_opensBut_lp5 f x (k + 1) i v = s_X2_opensBut_lp5 f x k (i + 1) (mn2 v (c2o f x i)) := by
  rw [s_X2_opensBut_lp5, if_neg (by omega)]
  unfold mn2 c2o
  by_cases hx : (i : Int) = x
  · simp only [if_pos hx]
    by_cases h0 : f (21 + 4 * i) ≤ 0
    · simp only [if_pos h0]
      (repeat' split) <;> rfl
    · simp only [if_neg h0]
      rfl
  · simp only [if_neg hx]
    (repeat' split) <;> rfl
theorem lp5_end (f : Nat → Int) (x : Int) (k : Nat) (v : Int) : s_X2_opensBut_lp5 f x (k + 1) 3 v = (if f 11 = 0 then -1 else if v = 1000000 then -1 else if v ≤ s_X2_waits f then s_X2_waits f else v) := by
  rw [s_X2_opensBut_lp5, if_pos (by decide)]
theorem opensBut_at (f : Nat → Int) (x : Int) : s_X2_opensBut f x = if f 11 = 0 then -1 else (if mn2 (mn2 (mn2 1000000 (c2o f x 0)) (c2o f x 1)) (c2o f x 2) = 1000000 then -1 else if mn2 (mn2 (mn2 1000000 (c2o f x 0)) (c2o f x 1)) (c2o f x 2) ≤ s_X2_waits f then s_X2_waits f else mn2 (mn2 (mn2 1000000 (c2o f x 0)) (c2o f x 1)) (c2o f x 2)) := by
  unfold s_X2_opensBut
  rw [show 3 + 1 - 0 = 4 by rfl, lp5_step _ _ _ _ _ (by decide), lp5_step _ _ _ _ _ (by decide), lp5_step _ _ _ _ _ (by decide)]
  exact lp5_end f x 0 _
theorem c12o {f1 f2 : Nat → Int} {c : Nat} (h : RI c f1 f2) (x : Int) {i : Nat} (hi : i < 3) : c2o f2 x i = c1o f1 x i ∧ (c1o f1 x i = -1 ∨ 0 ≤ c1o f1 x i ∧ c1o f1 x i ≤ 402) := by
  have hm := mv_at h.1.2.2 hi
  have hr := rl_at h.2.1.2.2 hi
  unfold mv1 at hm
  have hg : s_X1_goes f1 i = 0 ∨ s_X1_goes f1 i = 1 := b_X1_goes f1 i
  constructor
  · unfold c2o c1o
    rw [hr.1, dn_X1, down_eq h hi hm.1.1 hm.1.2]
    by_cases hx : (i : Int) = x
    · rw [if_pos hx]
      by_cases h0 : f1 (21 + i * 4 + 0) ≤ 0
      · rw [if_pos h0]
        have h00 : f1 (21 + i * 4 + 0) = 0 := by omega
        unfold dn
        rw [if_pos h00, if_pos h00]
      · rw [if_neg h0, if_pos hx]
        have h00 : ¬ f1 (21 + i * 4 + 0) = 0 := by omega
        have e : (if s_X1_goes f1 i = 0 then (0 : Int) else 0) = 0 := by split <;> rfl
        rw [e]
        unfold dn
        rw [if_neg h00, if_pos rfl]
    · rw [if_neg hx, if_neg hx]
      rcases hg with hg | hg <;> rw [hg] <;> rfl
  · unfold c1o
    rw [dn_X1]
    exact dn_range hm.1.1 hm.1.2 hm.2.2.1 hm.2.2.2.1
theorem mn12 {v1 v2 c : Int} (h : v2 = if v1 = -1 then 1000000 else v1) (hv : v1 = -1 ∨ 0 ≤ v1 ∧ v1 ≤ 402) (hc : c = -1 ∨ 0 ≤ c ∧ c ≤ 402) : (mn2 v2 c = if mn1 v1 c = -1 then 1000000 else mn1 v1 c) ∧ (mn1 v1 c = -1 ∨ 0 ≤ mn1 v1 c ∧ mn1 v1 c ≤ 402) := by
  subst h
  unfold mn1 mn2
  rcases hv with hv | hv <;> rcases hc with hc | hc <;> (constructor <;> (repeat' split) <;> omega)
theorem opens_eq {f1 f2 : Nat → Int} {c : Nat} (h : RI c f1 f2) (x : Int) : s_X2_opensBut f2 x = s_X1_hoursToOpen f1 x ∧ (s_X1_hoursToOpen f1 x = -1 ∨ 0 ≤ s_X1_hoursToOpen f1 x ∧ s_X1_hoursToOpen f1 x ≤ 200000) := by
  obtain ⟨e0, g0⟩ := c12o h x (i := 0) (by decide)
  obtain ⟨e1, g1⟩ := c12o h x (i := 1) (by decide)
  obtain ⟨e2, g2⟩ := c12o h x (i := 2) (by decide)
  have hA := h.1.1
  have rA := h.2.1.1
  unfold InvA at hA
  unfold RelA at rA
  have hw : 0 ≤ wt1 f1 ∧ wt1 f1 ≤ 100100 := by unfold wt1; split <;> omega
  rw [hoursToOpen_at, opensBut_at, waits_eq h, e0, e1, e2, rA.2.1]
  have hlk : s_X1_isLocked f1 = 0 ↔ f1 1 = 0 := by unfold s_X1_isLocked; split <;> omega
  generalize wt1 f1 = W at hw ⊢
  generalize c1o f1 x 0 = p at g0 ⊢
  generalize c1o f1 x 1 = q at g1 ⊢
  generalize c1o f1 x 2 = r at g2 ⊢
  by_cases hl : f1 1 = 0
  · rw [if_pos hl, if_pos (hlk.mpr hl)]
    omega
  · rw [if_neg hl, if_neg (fun z => hl (hlk.mp z))]
    obtain ⟨a0, b0⟩ := mn12 (v1 := -1) (v2 := 1000000) rfl (Or.inl rfl) g0
    obtain ⟨a1, b1⟩ := mn12 a0 b0 g1
    obtain ⟨a2, b2⟩ := mn12 a1 b1 g2
    rw [a2]
    generalize mn1 (mn1 (mn1 (-1) p) q) r = v at b2 ⊢
    constructor
    · (repeat' split) <;> omega
    · (repeat' split) <;> omega
