/-! texts: read a character at a time, and by what may stand where -/
abbrev RB (b : Nat → Int) (len i : Nat) (kd sg nb : Nat → Int) (pt : Nat) : Int × (Nat → Int) × (Nat → Int) × (Nat → Int) × Nat := s_X1_readBuffer_lp9 b len (len + 1 - i) i kd sg nb pt
section TEXT
variable {b : Nat → Int} {len i at_ j : Nat} {kd sg nb so ma : Nat → Int} {pt : Nat} {fl va : Int}
theorem RB_end (h : i = len) : RB b len i kd sg nb pt = ((len : Int), kd, sg, nb, pt) := by
  subst h
  unfold RB
  rw [show i + 1 - i = 0 + 1 by omega, s_X1_readBuffer_lp9, if_pos (by omega)]
theorem RB_stop (h : i < len) (ht : (s_X0_take kd sg nb pt (b i)).1 = 0) : (RB b len i kd sg nb pt).1 = (i : Int) := by
  unfold RB
  rw [show len + 1 - i = (len - i) + 1 by omega, s_X1_readBuffer_lp9, if_neg (by omega), if_pos ht]
theorem RB_go {kd' sg' nb' : Nat → Int} {pt' : Nat} {x : Int} (h : i < len) (hx : x ≠ 0) (ht : s_X0_take kd sg nb pt (b i) = (x, kd', sg', nb', pt')) : RB b len i kd sg nb pt = RB b len (i + 1) kd' sg' nb' pt' := by
  unfold RB
  rw [show len + 1 - i = (len - i) + 1 by omega, s_X1_readBuffer_lp9, if_neg (by omega), ht, if_neg hx, show len + 1 - (i + 1) = len - i by omega]
theorem isAt_yes {x y : Int} (h : at_ < len) (h1 : x ≤ b at_) (h2 : b at_ ≤ y) : s_X2_isAt b len at_ x y = 1 := by
  unfold s_X2_isAt
  rw [if_neg (by omega), if_neg (by rw [in0]; omega)]
theorem isAt_no {x y : Int} (h : ¬ (at_ < len ∧ x ≤ b at_ ∧ b at_ ≤ y)) : s_X2_isAt b len at_ x y = 0 := by
  unfold s_X2_isAt
  by_cases h1 : (len : Int) ≤ (at_ : Int)
  · rw [if_pos h1]
  · rw [if_neg h1, if_pos (by rw [in0]; omega)]
theorem isSign_yes {x : Int} (h : at_ < len) (h1 : b at_ = x) : s_X2_isSign b len at_ x = (1, at_ + 1) := by
  unfold s_X2_isSign
  rw [isAt_yes h (by omega) (by omega), if_neg (by decide)]
theorem isSign_no {x : Int} (h : ¬ (at_ < len ∧ b at_ = x)) : s_X2_isSign b len at_ x = (0, at_) := by
  unfold s_X2_isSign
  rw [isAt_no (by omega), if_pos rfl]
  rfl
theorem stops_end (h : ¬ at_ < len) : s_X2_stops len at_ = (0, 0) := by
  unfold s_X2_stops
  rw [if_pos (by omega)]
theorem stops_in (h : at_ < len) : s_X2_stops len at_ = (0, 1) := by
  unfold s_X2_stops
  rw [if_neg (by omega)]
/-- what a character does, by the kind of the part -/
theorem tk_comma : s_X0_take kd sg nb pt 44 = ((s_X0_takeComma kd sg nb pt).1, kd, sg, nb, (s_X0_takeComma kd sg nb pt).2) := by
  unfold s_X0_take
  rw [if_pos rfl]
theorem tk_first {x : Int} (hx : x ≠ 44) (h : kd pt = 0) : s_X0_take kd sg nb pt x = ((s_X0_takeFirst kd nb pt x).1, (s_X0_takeFirst kd nb pt x).2.1, sg, (s_X0_takeFirst kd nb pt x).2.2, pt) := by
  unfold s_X0_take
  rw [if_neg hx, if_pos h]
theorem tk_left {x : Int} (hx : x ≠ 44) (h : kd pt = 1) : s_X0_take kd sg nb pt x = (0, kd, sg, nb, pt) := by
  unfold s_X0_take
  rw [if_neg hx, if_neg (by omega), if_pos h]
theorem tk_digit {x : Int} (hx : x ≠ 44) (h : kd pt = 2) : s_X0_take kd sg nb pt x = ((s_X0_takeNextDigit nb pt x).1, kd, sg, (s_X0_takeNextDigit nb pt x).2, pt) := by
  unfold s_X0_take
  rw [if_neg hx, if_neg (by omega), if_neg (by omega), if_pos h]
theorem tk_more {x : Int} (hx : x ≠ 44) (h : kd pt = 3) : s_X0_take kd sg nb pt x = ((s_X0_takeMoreOrLess sg nb pt x).1, kd, (s_X0_takeMoreOrLess sg nb pt x).2.1, (s_X0_takeMoreOrLess sg nb pt x).2.2, pt) := by
  unfold s_X0_take
  rw [if_neg hx, if_neg (by omega), if_neg (by omega), if_neg (by omega), if_pos h]
theorem tk_comma_no (h : 2 ≤ pt ∨ s_X0_isPartComplete kd sg nb pt = 0) : (s_X0_take kd sg nb pt 44).1 = 0 := by
  rw [tk_comma]
  show (s_X0_takeComma kd sg nb pt).1 = 0
  unfold s_X0_takeComma
  by_cases h2 : 2 ≤ (pt : Int)
  · rw [if_pos h2]
  · rw [if_neg h2, if_pos (by omega)]
theorem tk_comma_yes (h : pt < 2) (h1 : s_X0_isPartComplete kd sg nb pt ≠ 0) : s_X0_take kd sg nb pt 44 = (1, kd, sg, nb, pt + 1) := by
  rw [tk_comma]
  unfold s_X0_takeComma
  rw [if_neg (by omega), if_neg h1]
/-- nothing but a comma may follow here -/
def Full (b : Nat → Int) (len at_ : Nat) (kd sg nb : Nat → Int) (j : Nat) : Prop := s_X0_isPartComplete kd sg nb j = 1 ∧ (at_ < len → b at_ ≠ 44 → (s_X0_take kd sg nb j (b at_)).1 = 0)
/-- the kinds and the sorts of a part -/
def Same1 (kd sg nb so ma : Nat → Int) (j : Nat) : Prop := kd j = so j + 1 ∧ (so j = 0 ∨ so j = 1 ∨ so j = 2) ∧ (so j = 1 → ma j = nb j) ∧ (so j = 2 → ma j = sg j * nb j)
/-- a number, digit by digit -/
theorem num_loop (fl : Int) (hk : kd j = 2) : ∀ (d i : Nat) (v : Int) (nb : Nat → Int), i + d = len → nb j = v → 0 ≤ v → (s_X2_isNumber_lp21 b len fl (len + 1 - i) i v).1 = 1 ∧ (s_X2_isNumber_lp21 b len fl (len + 1 - i) i v).2.1 ≤ len ∧ ∃ nb' : Nat → Int, nb' j = (s_X2_isNumber_lp21 b len fl (len + 1 - i) i v).2.2.2 ∧ (∀ k : Nat, k ≠ j → nb' k = nb k) ∧ RB b len i kd sg nb j = RB b len (s_X2_isNumber_lp21 b len fl (len + 1 - i) i v).2.1 kd sg nb' j ∧ ((s_X2_isNumber_lp21 b len fl (len + 1 - i) i v).2.1 < len → b (s_X2_isNumber_lp21 b len fl (len + 1 - i) i v).2.1 ≠ 44 → (s_X0_take kd sg nb' j (b (s_X2_isNumber_lp21 b len fl (len + 1 - i) i v).2.1)).1 = 0) := by
  intro d
  induction d with
  | zero =>
    intro i v nb h1 h2 h3
    have hi : i = len := by omega
    subst hi
    rw [show i + 1 - i = 0 + 1 by omega, s_X2_isNumber_lp21, isAt_no (by omega), if_pos rfl]
    exact ⟨rfl, Nat.le_refl _, nb, h2, fun _ _ => rfl, rfl, fun z => absurd z (Nat.lt_irrefl i)⟩
  | succ d ih =>
    intro i v nb h1 h2 h3
    rw [show len + 1 - i = (len - i) + 1 by omega, s_X2_isNumber_lp21]
    have stop : (¬ (48 ≤ b i ∧ b i ≤ 57) ∨ 200 < 10 * v + b i - 48) → b i ≠ 44 → (s_X0_take kd sg nb j (b i)).1 = 0 := fun hz hc => by
      rw [tk_digit hc hk]
      show (s_X0_takeNextDigit nb j (b i)).1 = 0
      unfold s_X0_takeNextDigit
      rw [h2]
      (repeat' split) <;> first | rfl | omega
    by_cases hd : 48 ≤ b i ∧ b i ≤ 57
    · rw [isAt_yes (by omega) hd.1 hd.2, if_neg (by decide)]
      by_cases hv : 200 < 10 * v + b i - 48
      · rw [if_pos hv]
        exact ⟨rfl, by show i ≤ len; omega, nb, h2, fun _ _ => rfl, rfl, fun _ hc => stop (Or.inr hv) hc⟩
      · rw [if_neg hv]
        have ht : s_X0_take kd sg nb j (b i) = (1, kd, sg, upz nb j (10 * v + b i - 48), j) := by
          rw [tk_digit (by omega) hk]
          unfold s_X0_takeNextDigit
          rw [h2, if_neg (by omega), if_neg (by omega), show v * 10 + b i - 48 = 10 * v + b i - 48 by omega, if_pos (by omega)]
        have g := ih (i + 1) (10 * v + b i - 48) (upz nb j (10 * v + b i - 48)) (by omega) upz_s (by omega)
        rw [show len + 1 - (i + 1) = len - i by omega] at g
        obtain ⟨q1, q2, nb', q3, q4, q5, q6⟩ := g
        exact ⟨q1, q2, nb', q3, fun k hk => (q4 k hk).trans (upz_n hk), (RB_go (by omega) (by decide) ht).trans q5, q6⟩
    · rw [isAt_no (by omega), if_pos rfl]
      exact ⟨rfl, by show i ≤ len; omega, nb, h2, fun _ _ => rfl, rfl, fun _ hc => stop (Or.inl hd) hc⟩
end TEXT
