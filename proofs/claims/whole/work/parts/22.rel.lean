/-! the two sides hold one state: where each number lies -/
def mv1 (B r g l a : Int) : Prop := (0 ≤ r ∧ r ≤ 200) ∧ (g = 0 ∨ g = 1) ∧ (0 ≤ l ∧ l ≤ 20) ∧ 0 ≤ a ∧ a ≤ B
def dy1 (x : Int) : Prop := -1 ≤ x ∧ x ≤ 23
def InvA (c : Nat) (f : Nat → Int) : Prop := (0 ≤ f 0 ∧ f 0 ≤ 99999) ∧ (f 1 = 0 ∨ f 1 = 1) ∧ (-1 ≤ f 2 ∧ f 2 ≤ 100300) ∧ (0 ≤ f 3 ∧ f 3 ≤ 8) ∧ (0 ≤ f 4 ∧ f 4 ≤ 100100) ∧ (f 1 = 0 → f 2 = -1 ∧ f 3 = 0 ∧ f 4 = 0) ∧ (0 ≤ f 5 ∧ f 5 ≤ (c : Int)) ∧ (0 ≤ f 7 ∧ f 7 ≤ f 6) ∧ (0 ≤ f 8 ∧ f 8 ≤ (c : Int)) ∧ (0 ≤ f 9 ∧ f 9 ≤ (c : Int)) ∧ (0 ≤ f 10 ∧ f 6 + f 10 ≤ (c : Int)) ∧ (1 ≤ f 11 ∧ f 11 ≤ 9) ∧ (1 ≤ f 12 ∧ f 12 ≤ 24) ∧ (10 ≤ f 13 ∧ f 13 ≤ 5000)
def InvD (f : Nat → Int) : Prop := dy1 (f 14) ∧ dy1 (f 15) ∧ dy1 (f 16) ∧ dy1 (f 17) ∧ dy1 (f 18) ∧ dy1 (f 19) ∧ dy1 (f 20)
def InvM (f : Nat → Int) : Prop := mv1 (f 0) (f 21) (f 22) (f 23) (f 24) ∧ mv1 (f 0) (f 25) (f 26) (f 27) (f 28) ∧ mv1 (f 0) (f 29) (f 30) (f 31) (f 32)
def RelA (f1 f2 : Nat → Int) : Prop := f2 0 = f1 0 ∧ f2 11 = f1 1 ∧ f2 12 = f1 2 ∧ f2 13 = f1 3 ∧ f2 14 = f1 4 ∧ f2 15 = f1 5 ∧ f2 16 = f1 6 ∧ f2 17 = f1 7 ∧ f2 18 = f1 8 ∧ f2 19 = f1 9 ∧ f2 20 = f1 10 ∧ f2 8 = f1 11 ∧ f2 9 = f1 12 ∧ f2 10 = f1 13
def RelD (f1 f2 : Nat → Int) : Prop := f2 1 = f1 14 ∧ f2 2 = f1 15 ∧ f2 3 = f1 16 ∧ f2 4 = f1 17 ∧ f2 5 = f1 18 ∧ f2 6 = f1 19 ∧ f2 7 = f1 20
def RelM (f1 f2 : Nat → Int) : Prop := f2 21 = f1 21 ∧ f2 22 = f1 22 ∧ f2 23 = f1 23 ∧ f2 24 = f1 24 ∧ f2 25 = f1 25 ∧ f2 26 = f1 26 ∧ f2 27 = f1 27 ∧ f2 28 = f1 28 ∧ f2 29 = f1 29 ∧ f2 30 = f1 30 ∧ f2 31 = f1 31 ∧ f2 32 = f1 32
def Tail (f1 f2 : Nat → Int) : Prop := ∀ k : Nat, 33 ≤ k → f1 k = 0 ∧ f2 k = 0
def RI (c : Nat) (f1 f2 : Nat → Int) : Prop := (InvA c f1 ∧ InvD f1 ∧ InvM f1) ∧ (RelA f1 f2 ∧ RelD f1 f2 ∧ RelM f1 f2) ∧ Tail f1 f2
/-- a movement's four numbers -/
theorem mv_at {f : Nat → Int} (h : InvM f) {j : Nat} (hj : j < 3) : mv1 (f 0) (f (21 + j * 4 + 0)) (f (21 + j * 4 + 1)) (f (21 + j * 4 + 2)) (f (21 + j * 4 + 3)) := by
  rcases (show j = 0 ∨ j = 1 ∨ j = 2 by omega) with rfl | rfl | rfl
  · exact h.1
  · exact h.2.1
  · exact h.2.2
theorem rl_at {f1 f2 : Nat → Int} (h : RelM f1 f2) {j : Nat} (hj : j < 3) : f2 (21 + 4 * j) = f1 (21 + j * 4 + 0) ∧ f2 (21 + 4 * j + 1) = f1 (21 + j * 4 + 1) ∧ f2 (21 + 4 * j + 2) = f1 (21 + j * 4 + 2) ∧ f2 (21 + 4 * j + 3) = f1 (21 + j * 4 + 3) := by
  unfold RelM at h
  rcases (show j = 0 ∨ j = 1 ∨ j = 2 by omega) with rfl | rfl | rfl
  · exact ⟨h.1, h.2.1, h.2.2.1, h.2.2.2.1⟩
  · exact ⟨h.2.2.2.2.1, h.2.2.2.2.2.1, h.2.2.2.2.2.2.1, h.2.2.2.2.2.2.2.1⟩
  · exact ⟨h.2.2.2.2.2.2.2.2.1, h.2.2.2.2.2.2.2.2.2.1, h.2.2.2.2.2.2.2.2.2.2.1, h.2.2.2.2.2.2.2.2.2.2.2⟩
theorem dy_at {f : Nat → Int} (h : InvD f) {k : Nat} (h1 : 14 ≤ k) (h2 : k < 21) : -1 ≤ f k ∧ f k ≤ 23 := by
  unfold InvD dy1 at h
  rcases (show k = 14 ∨ k = 15 ∨ k = 16 ∨ k = 17 ∨ k = 18 ∨ k = 19 ∨ k = 20 by omega) with rfl | rfl | rfl | rfl | rfl | rfl | rfl <;> omega
theorem rd_at {f1 f2 : Nat → Int} (h : RelD f1 f2) {d : Nat} (hd : d < 7) : f2 (1 + d) = f1 (14 + d) := by
  unfold RelD at h
  rcases (show d = 0 ∨ d = 1 ∨ d = 2 ∨ d = 3 ∨ d = 4 ∨ d = 5 ∨ d = 6 by omega) with rfl | rfl | rfl | rfl | rfl | rfl | rfl <;> simp only [Nat.reduceAdd] <;> omega
theorem mvB_of {f : Nat → Int} (h : InvM f) : mvB f (f 0) := fun j hj => mv_at h hj
theorem mvs_of {f : Nat → Int} {c : Nat} (h0 : InvA c f) (h : InvM f) : mvs f := fun j hj => by
  have := mv_at h hj
  unfold mv1 at this
  unfold InvA at h0
  exact ⟨this.1, this.2.1, this.2.2.1, this.2.2.2.1, by omega⟩
theorem mv2_of {f1 f2 : Nat → Int} {c : Nat} (h0 : InvA c f1) (h : InvM f1) (hr : RelM f1 f2) : mv2 f2 := fun j hj => by
  have h1 := mv_at h hj
  have h2 := rl_at hr hj
  unfold mv1 at h1
  unfold InvA at h0
  rw [h2.1, h2.2.1, h2.2.2.1, h2.2.2.2]
  exact ⟨h1.1, h1.2.1, h1.2.2.1, h1.2.2.2.1, by omega⟩
theorem rng1_of {f1 f2 : Nat → Int} {c : Nat} (hc : c ≤ 512) (h : RI c f1 f2) : rng f1 := fun k => by
  obtain ⟨⟨hA, hD, hM⟩, -, hT⟩ := h
  by_cases h33 : 33 ≤ k
  · have := (hT k h33).1
    omega
  · unfold InvA at hA
    unfold InvD dy1 at hD
    unfold InvM mv1 at hM
    rcases (show k = 0 ∨ k = 1 ∨ k = 2 ∨ k = 3 ∨ k = 4 ∨ k = 5 ∨ k = 6 ∨ k = 7 ∨ k = 8 ∨ k = 9 ∨ k = 10 ∨ k = 11 ∨ k = 12 ∨ k = 13 ∨ k = 14 ∨ k = 15 ∨ k = 16 ∨ k = 17 ∨ k = 18 ∨ k = 19 ∨ k = 20 ∨ k = 21 ∨ k = 22 ∨ k = 23 ∨ k = 24 ∨ k = 25 ∨ k = 26 ∨ k = 27 ∨ k = 28 ∨ k = 29 ∨ k = 30 ∨ k = 31 ∨ k = 32 by omega) with rfl | rfl | rfl | rfl | rfl | rfl | rfl | rfl | rfl | rfl | rfl | rfl | rfl | rfl | rfl | rfl | rfl | rfl | rfl | rfl | rfl | rfl | rfl | rfl | rfl | rfl | rfl | rfl | rfl | rfl | rfl | rfl | rfl <;> omega
theorem rng2_of {f1 f2 : Nat → Int} {c : Nat} (hc : c ≤ 512) (h : RI c f1 f2) : rng f2 := fun k => by
  obtain ⟨⟨hA, hD, hM⟩, ⟨rA, rD, rM⟩, hT⟩ := h
  by_cases h33 : 33 ≤ k
  · have := (hT k h33).2
    omega
  · unfold InvA at hA
    unfold InvD dy1 at hD
    unfold InvM mv1 at hM
    unfold RelA at rA
    unfold RelD at rD
    unfold RelM at rM
    rcases (show k = 0 ∨ k = 1 ∨ k = 2 ∨ k = 3 ∨ k = 4 ∨ k = 5 ∨ k = 6 ∨ k = 7 ∨ k = 8 ∨ k = 9 ∨ k = 10 ∨ k = 11 ∨ k = 12 ∨ k = 13 ∨ k = 14 ∨ k = 15 ∨ k = 16 ∨ k = 17 ∨ k = 18 ∨ k = 19 ∨ k = 20 ∨ k = 21 ∨ k = 22 ∨ k = 23 ∨ k = 24 ∨ k = 25 ∨ k = 26 ∨ k = 27 ∨ k = 28 ∨ k = 29 ∨ k = 30 ∨ k = 31 ∨ k = 32 by omega) with rfl | rfl | rfl | rfl | rfl | rfl | rfl | rfl | rfl | rfl | rfl | rfl | rfl | rfl | rfl | rfl | rfl | rfl | rfl | rfl | rfl | rfl | rfl | rfl | rfl | rfl | rfl | rfl | rfl | rfl | rfl | rfl | rfl <;> omega
