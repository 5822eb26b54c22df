/-! in how many hours a movement has run down: counted out, and told at once -/
def dn (x g l a : Int) : Int := if x = 0 then 0 else if g = 0 then -1 else if l = 1 then -1 else if 0 < l then x + ((a % l + x) - 1) / (l - 1) else x
theorem dn_X1 (f : Nat → Int) (j : Nat) (g : Int) : s_X1_hoursToRunDown f j g = dn (f (21 + j * 4 + 0)) g (f (21 + j * 4 + 2)) (f (21 + j * 4 + 3)) := rfl
theorem loss_cases {l : Int} (h1 : 2 ≤ l) (h2 : l ≤ 20) : l = 2 ∨ l = 3 ∨ l = 4 ∨ l = 5 ∨ l = 6 ∨ l = 7 ∨ l = 8 ∨ l = 9 ∨ l = 10 ∨ l = 11 ∨ l = 12 ∨ l = 13 ∨ l = 14 ∨ l = 15 ∨ l = 16 ∨ l = 17 ∨ l = 18 ∨ l = 19 ∨ l = 20 := by omega
/-- hours that count among the first i -/
theorem dn_step {l a x i v : Int} (h1 : 2 ≤ l) (h2 : l ≤ 20) (ha : 0 ≤ a) (hx : 1 ≤ x) (hi : 0 ≤ i) (hN : i ≤ x + ((a % l + x) - 1) / (l - 1)) (hv : v = x - (i - ((a + i) / l - a / l))) : (v ≤ 0 → i = x + ((a % l + x) - 1) / (l - 1)) ∧ (0 < v → i + 1 ≤ x + ((a % l + x) - 1) / (l - 1)) := by
  rcases loss_cases h1 h2 with rfl | rfl | rfl | rfl | rfl | rfl | rfl | rfl | rfl | rfl | rfl | rfl | rfl | rfl | rfl | rfl | rfl | rfl | rfl <;> constructor <;> intro h0 <;> omega
theorem dn_next {l a i : Int} (h1 : 2 ≤ l) (h2 : l ≤ 20) (ha : 0 ≤ a) (hi : 0 ≤ i) : ((a + (i + 1)) % l = 0 → (a + (i + 1)) / l = (a + i) / l + 1) ∧ ((a + (i + 1)) % l ≠ 0 → (a + (i + 1)) / l = (a + i) / l) := by
  rcases loss_cases h1 h2 with rfl | rfl | rfl | rfl | rfl | rfl | rfl | rfl | rfl | rfl | rfl | rfl | rfl | rfl | rfl | rfl | rfl | rfl | rfl <;> constructor <;> intro h0 <;> omega
theorem dn_most {l a x : Int} (h1 : 2 ≤ l) (h2 : l ≤ 20) (ha : 0 ≤ a) (hx : 1 ≤ x) (hx2 : x ≤ 200) : x ≤ x + ((a % l + x) - 1) / (l - 1) ∧ x + ((a % l + x) - 1) / (l - 1) ≤ 402 := by
  rcases loss_cases h1 h2 with rfl | rfl | rfl | rfl | rfl | rfl | rfl | rfl | rfl | rfl | rfl | rfl | rfl | rfl | rfl | rfl | rfl | rfl | rfl <;> omega
theorem dnLoop (f : Nat → Int) (j : Nat) {x : Int} (h1 : 2 ≤ f (21 + 4 * j + 2)) (h2 : f (21 + 4 * j + 2) ≤ 20) (ha : 0 ≤ f (21 + 4 * j + 3)) (hx : 1 ≤ x) : ∀ (k i : Nat) (v : Int), (i : Int) ≤ x + ((f (21 + 4 * j + 3) % f (21 + 4 * j + 2) + x) - 1) / (f (21 + 4 * j + 2) - 1) → x + ((f (21 + 4 * j + 3) % f (21 + 4 * j + 2) + x) - 1) / (f (21 + 4 * j + 2) - 1) - (i : Int) < (k : Int) → v = x - ((i : Int) - ((f (21 + 4 * j + 3) + (i : Int)) / f (21 + 4 * j + 2) - f (21 + 4 * j + 3) / f (21 + 4 * j + 2))) → s_X2_downIn_lp30 f j k i v = x + ((f (21 + 4 * j + 3) % f (21 + 4 * j + 2) + x) - 1) / (f (21 + 4 * j + 2) - 1) := by
  intro k
  induction k with
  | zero => intro i v hN hk; exact absurd hk (by omega)
  | succ k ih =>
    intro i v hN hk hv
    obtain ⟨s1, s2⟩ := dn_step h1 h2 ha hx (Int.natCast_nonneg i) hN hv
    obtain ⟨n1, n2⟩ := dn_next (l := f (21 + 4 * j + 2)) (a := f (21 + 4 * j + 3)) (i := (i : Int)) h1 h2 ha (Int.natCast_nonneg i)
    have ei : ((i + 1 : Nat) : Int) = (i : Int) + 1 := by omega
    rw [s_X2_downIn_lp30]
    by_cases hv0 : v ≤ 0
    · rw [if_pos hv0]
      exact s1 hv0
    · rw [if_neg hv0, if_neg (by omega), ei]
      have hs := s2 (by omega)
      by_cases hm : (f (21 + 4 * j + 3) + ((i : Int) + 1)) % f (21 + 4 * j + 2) = 0
      · rw [if_pos hm]
        refine ih (i + 1) _ (by omega) (by omega) ?_
        rw [ei, n1 hm]
        omega
      · rw [if_neg hm]
        refine ih (i + 1) _ (by omega) (by omega) ?_
        rw [ei, n2 hm]
        omega
theorem dnLoop0 (f : Nat → Int) (j : Nat) {x : Int} (h1 : f (21 + 4 * j + 2) ≤ 0) : ∀ (k i : Nat) (v : Int), 0 ≤ v → v < (k : Int) → v = x - (i : Int) → s_X2_downIn_lp30 f j k i v = x := by
  intro k
  induction k with
  | zero => intro i v h0 hk; exact absurd hk (by omega)
  | succ k ih =>
    intro i v h0 hk hv
    rw [s_X2_downIn_lp30]
    by_cases hv0 : v ≤ 0
    · rw [if_pos hv0]
      omega
    · rw [if_neg hv0, if_pos h1]
      exact ih (i + 1) _ (by omega) (by omega) (by omega)
theorem down_eq {f1 f2 : Nat → Int} {c : Nat} (h : RI c f1 f2) {j : Nat} (hj : j < 3) {x : Int} (hx0 : 0 ≤ x) (hx : x ≤ 200) : s_X2_downIn f2 j x = dn x (s_X1_goes f1 j) (f1 (21 + j * 4 + 2)) (f1 (21 + j * 4 + 3)) := by
  have hm := mv_at h.1.2.2 hj
  have hr := rl_at h.2.1.2.2 hj
  unfold mv1 at hm
  obtain ⟨r0, r1, r2, r3⟩ := hr
  have hg12 : s_X2_goes f2 j = s_X1_goes f1 j := by
    unfold s_X2_goes s_X1_goes
    rw [r1]
    split <;> split <;> omega
  unfold s_X2_downIn dn
  rw [hg12]
  by_cases hz : x = 0
  · rw [if_pos hz, if_pos hz]
  · rw [if_neg hz, if_neg hz]
    by_cases hg : s_X1_goes f1 j = 0
    · rw [if_pos hg, if_pos hg]
    · rw [if_neg hg, if_neg hg, r2]
      by_cases hl1 : f1 (21 + j * 4 + 2) = 1
      · rw [if_pos hl1, if_pos hl1]
      · rw [if_neg hl1, if_neg hl1]
        by_cases hl0 : 0 < f1 (21 + j * 4 + 2)
        · rw [if_pos hl0]
          have hmost := dn_most (l := f1 (21 + j * 4 + 2)) (a := f1 (21 + j * 4 + 3)) (x := x) (by omega) (by omega) (by omega) (by omega) hx
          have := dnLoop f2 j (x := x) (by omega) (by omega) (by omega) (by omega) (402 + 1 - 0) 0 x (by rw [r2, r3]; omega) (by rw [r2, r3]; omega) (by simp)
          rw [this, r2, r3]
        · rw [if_neg hl0]
          exact dnLoop0 f2 j (by omega) (402 + 1 - 0) 0 x hx0 (by omega) (by simp)
theorem goes_eq {f1 f2 : Nat → Int} {c : Nat} (h : RI c f1 f2) {j : Nat} (hj : j < 3) : s_X2_goes f2 j = s_X1_goes f1 j := by
  have hm := mv_at h.1.2.2 hj
  have hr := rl_at h.2.1.2.2 hj
  unfold mv1 at hm
  unfold s_X2_goes s_X1_goes
  rw [hr.2.1]
  split <;> split <;> omega
/-- what a number of hours until run down can be -/
theorem dn_range {x g l a : Int} (hx0 : 0 ≤ x) (hx : x ≤ 200) (hl : 0 ≤ l ∧ l ≤ 20) (ha : 0 ≤ a) : dn x g l a = -1 ∨ (0 ≤ dn x g l a ∧ dn x g l a ≤ 402) := by
  unfold dn
  split
  · omega
  · split
    · omega
    · split
      · omega
      · split
        · have := dn_most (l := l) (a := a) (x := x) (by omega) (by omega) ha (by omega) hx
          omega
        · omega
