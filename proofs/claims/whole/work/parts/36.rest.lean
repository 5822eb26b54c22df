/-! the rest of the face, and the digests -/
def Agree2 (km : Int → Int) (A B : Int × Int) : Prop := km A.1 = B.2 ∧ (A.1 = 0 → A.2 = B.1)
section REST
variable {c n len : Nat} {f1 f2 b : Nat → Int}
theorem ag2_no {km : Int → Int} {a t r : Int} (ha : a ≠ 0) (hk : km a = t) : Agree2 km (a, r) (0, t) := ⟨hk, fun z => absurd z ha⟩
theorem ag2_yes {km : Int → Int} {r r' : Int} (hk : km 0 = 0) (hr : r = r') : Agree2 km (0, r) (r', 0) := ⟨hk, fun _ => hr⟩
theorem a_movement (h : RI c f1 f2) (x0 x1 : Int) : Agree2 km_movement (s_X1_movement f1 x0 x1) (s_X2_movement f2 x0 x1) := by
  unfold s_X1_movement s_X2_movement
  simp only [isMovement0, in0]
  (repeat' split) <;> first | omega | exact ag2_no (a := 1) (t := 1) (by decide) rfl | exact ag2_no (a := 2) (t := 2) (by decide) rfl | exact ag2_yes rfl (prop_eq h (j := x0.toNat) (x := x1.toNat) (by omega) (by omega)).symm
theorem a_day (h : RI c f1 f2) (x0 : Int) : Agree2 km_day (s_X1_day f1 x0) (s_X2_day f2 x0) := by
  unfold s_X1_day s_X2_day
  simp only [isDay0, in0]
  (repeat' split) <;> first | omega | exact ag2_no (a := 1) (t := 1) (by decide) rfl | exact ag2_yes rfl (rd_at h.2.1.2.1 (d := x0.toNat) (by omega)).symm
theorem a_count (h : RI c f1 f2) (x0 : Int) : Agree2 km_count (s_X1_count f1 n x0) (s_X2_count f2 n x0) := by
  unfold s_X1_count s_X2_count
  simp only [in0]
  (repeat' split) <;> first | omega | exact ag2_no (a := 2) (t := 1) (by decide) rfl | exact ag2_yes rfl (count_eq h (x := x0.toNat) (by omega)).symm
theorem a_setting (h : RI c f1 f2) (x0 : Int) : Agree2 km_setting (s_X1_setting f1 x0) (s_X2_setting f2 x0) := by
  unfold s_X1_setting s_X2_setting
  simp only [isSetting0, in0]
  (repeat' split) <;> first | omega | exact ag2_no (a := 1) (t := 1) (by decide) rfl | exact ag2_yes rfl (rs_at h.2.1.1 (d := x0.toNat) (by omega)).symm
theorem a_right (h : RI c f1 f2) (x0 : Int) : Agree2 km_rightWinding (s_X1_rightWinding f1 x0) (s_X2_rightWinding f2 x0) := by
  unfold s_X1_rightWinding s_X2_rightWinding
  simp only [isMovement0, in0]
  (repeat' split) <;> first | omega | exact ag2_no (a := 1) (t := 1) (by decide) rfl | exact ag2_yes rfl (right_eq h (j := x0.toNat) (by omega)).symm
theorem a_append (hln : len ≤ 60) (x0 : Int) : km_append (s_X1_append b len x0).1 = (s_X2_append b len x0).2.1 ∧ ((s_X1_append b len x0).1 = 0 → (s_X1_append b len x0).2.1 = (s_X2_append b len x0).1) ∧ (s_X1_append b len x0).2.2 = (s_X2_append b len x0).2.2 ∧ (s_X1_append b len x0).2.2.2 ≤ 60 ∧ ((∀ k : Nat, k < len → 33 ≤ b k ∧ b k ≤ 126) → ∀ k : Nat, k < (s_X1_append b len x0).2.2.2 → 33 ≤ (s_X1_append b len x0).2.2.1 k ∧ (s_X1_append b len x0).2.2.1 k ≤ 126) := by
  unfold s_X1_append s_X2_append
  simp only [in0]
  by_cases h1 : x0 < 33
  · rw [if_pos h1, if_pos (show x0 < 33 ∨ 126 < x0 by omega)]
    exact ⟨rfl, fun z => absurd z (show ¬ (2 : Int) = 0 by decide), rfl, hln, fun hb => hb⟩
  · rw [if_neg h1]
    by_cases h2 : x0 ≤ 126
    · rw [if_pos h2, if_neg (show ¬ (x0 < 33 ∨ 126 < x0) by omega)]
      by_cases h3 : (len : Int) < 60
      · rw [if_pos h3, if_neg (show ¬ (len : Int) = 60 by omega)]
        refine ⟨rfl, fun _ => rfl, rfl, by show len + 1 ≤ 60; omega, fun hb k hk => ?_⟩
        have hk : k < len + 1 := hk
        show 33 ≤ upz b len x0 k ∧ upz b len x0 k ≤ 126
        by_cases he : k = len
        · rw [he, upz_s]
          omega
        · rw [upz_n he]
          exact hb k (by omega)
      · rw [if_neg h3, if_pos (show (len : Int) = 60 by omega)]
        exact ⟨rfl, fun z => absurd z (show ¬ (3 : Int) = 0 by decide), rfl, hln, fun hb => hb⟩
    · rw [if_neg h2, if_pos (show x0 < 33 ∨ 126 < x0 by omega)]
      exact ⟨rfl, fun z => absurd z (show ¬ (2 : Int) = 0 by decide), rfl, hln, fun hb => hb⟩
theorem dg_count (h : RI c f1 f2) : ∀ (k i : Nat) (z : Int64), i + k = 16 → i ≤ 15 → s_X1_digest_lp6 f1 n k i z = s_X2_digest_lp11 f2 n k i z := by
  intro k
  induction k with
  | zero => intro i z h1 h2; exact absurd h1 (by omega)
  | succ k ih =>
    intro i z h1 h2
    rw [s_X1_digest_lp6, s_X2_digest_lp11]
    by_cases h3 : 14 < (i : Int)
    · rw [if_pos h3, if_pos (show 15 ≤ (i : Int) by omega)]
    · rw [if_neg h3, if_neg (show ¬ 15 ≤ (i : Int) by omega), count_eq h (x := i) (by omega)]
      exact ih _ _ (by omega) (by omega)
theorem dg_set (h : RI c f1 f2) : ∀ (k i : Nat) (z : Int64), i + k = 4 → i ≤ 3 → s_X1_digest_lp33 f1 k i z = s_X2_digest_lp38 f2 k i z := by
  intro k
  induction k with
  | zero => intro i z h1 h2; exact absurd h1 (by omega)
  | succ k ih =>
    intro i z h1 h2
    rw [s_X1_digest_lp33, s_X2_digest_lp38]
    by_cases h3 : 3 ≤ (i : Int)
    · rw [if_pos h3, if_pos h3]
    · rw [if_neg h3, if_neg h3, rs_at h.2.1.1 (d := i) (by omega)]
      exact ih _ _ (by omega) (by omega)
theorem dg_day (h : RI c f1 f2) : ∀ (k i : Nat) (z : Int64), i + k = 8 → i ≤ 7 → s_X1_digest_lp63 f1 k i z = s_X2_digest_lp68 f2 k i z := by
  intro k
  induction k with
  | zero => intro i z h1 h2; exact absurd h1 (by omega)
  | succ k ih =>
    intro i z h1 h2
    rw [s_X1_digest_lp63, s_X2_digest_lp68]
    by_cases h3 : 7 ≤ (i : Int)
    · rw [if_pos h3, if_pos h3]
    · rw [if_neg h3, if_neg h3, rd_at h.2.1.2.1 (d := i) (by omega)]
      exact ih _ _ (by omega) (by omega)
theorem dg_prop (h : RI c f1 f2) {j : Nat} (hj : j < 3) : ∀ (k i : Nat) (z : Int64), i + k = 7 → i ≤ 6 → s_X1_digest_lp102 f1 j k i z = s_X2_digest_lp106 f2 j k i z := by
  intro k
  induction k with
  | zero => intro i z h1 h2; exact absurd h1 (by omega)
  | succ k ih =>
    intro i z h1 h2
    rw [s_X1_digest_lp102, s_X2_digest_lp106]
    by_cases h3 : 5 < (i : Int)
    · rw [if_pos h3, if_pos (show 6 ≤ (i : Int) by omega)]
    · rw [if_neg h3, if_neg (show ¬ 6 ≤ (i : Int) by omega), prop_eq h hj (x := i) (by omega)]
      exact ih _ _ (by omega) (by omega)
theorem dg_mv (h : RI c f1 f2) : ∀ (k i : Nat) (z : Int64), i + k = 4 → i ≤ 3 → s_X1_digest_lp94 f1 k i z = s_X2_digest_lp98 f2 k i z := by
  intro k
  induction k with
  | zero => intro i z h1 h2; exact absurd h1 (by omega)
  | succ k ih =>
    intro i z h1 h2
    rw [s_X1_digest_lp94, s_X2_digest_lp98]
    by_cases h3 : 3 ≤ (i : Int)
    · rw [if_pos h3, if_pos h3]
    · rw [if_neg h3, if_neg h3, right_eq h (show i < 3 by omega), dg_prop h (show i < 3 by omega) _ _ _ (by decide) (by decide)]
      exact ih _ _ (by omega) (by omega)
theorem dg_text : ∀ (k i : Nat) (z : Int64), s_X1_digest_lp212 b len k i z = s_X2_digest_lp214 b len k i z := by
  intro k
  induction k with
  | zero => intro i z; rfl
  | succ k ih =>
    intro i z
    rw [s_X1_digest_lp212, s_X2_digest_lp214]
    by_cases h3 : (len : Int) ≤ (i : Int)
    · rw [if_pos h3, if_pos h3]
    · rw [if_neg h3, if_neg h3]
      exact ih _ _
theorem digest_eq (h : RI c f1 f2) : s_X1_digest f1 n b len = (s_X2_digest f2 n b len).1 := by
  unfold s_X1_digest s_X2_digest
  show _ = s_X2_digest_lp214 _ _ _ _ _
  rw [dg_text, dg_mv h _ _ _ (by decide) (by decide), dg_day h _ _ _ (by decide) (by decide), dg_set h _ _ _ (by decide) (by decide), dg_count h _ _ _ (by decide) (by decide), (opens_eq h (-1)).1, late_eq h, key_eq h, share_eq h]
end REST
