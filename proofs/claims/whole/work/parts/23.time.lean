/-! the next opening, looked up by days and by hours -/
def wk (f : Nat → Int) (T : Int) (a : Nat) : Int := f (14 + ((T / 24 + (a : Int)) % 7).toNat)
theorem wk_idx (T : Int) (a : Nat) : ((14 + (((T / 24) % 7 + (a : Int)) % 7))).toNat = 14 + ((T / 24 + (a : Int)) % 7).toNat := by omega
/-- what the days tell: none, or the first -/
def dOk (f : Nat → Int) (a : Nat) : Prop := wk f (f 0) a ≠ -1 ∧ 0 < (a : Int) * 24 + wk f (f 0) a - f 0 % 24
theorem dLoop (f : Nat → Int) : ∀ k i : Nat, i ≤ 8 → i + k = 9 → (s_X1_hoursToOpening_lp2 f k i = -1 ∧ ∀ a, i ≤ a → a ≤ 7 → ¬ dOk f a) ∨ ∃ a, i ≤ a ∧ a ≤ 7 ∧ dOk f a ∧ (∀ a', i ≤ a' → a' < a → ¬ dOk f a') ∧ s_X1_hoursToOpening_lp2 f k i = (a : Int) * 24 + wk f (f 0) a - f 0 % 24 := by
  intro k
  induction k with
  | zero =>
    intro i h9 h
    exact absurd h (by omega)
  | succ k ih =>
    intro i h9 h
    unfold s_X1_hoursToOpening_lp2
    rw [wk_idx]
    show (if 7 < (i : Int) then (-1) else if wk f (f 0) i = -1 then s_X1_hoursToOpening_lp2 f k (i + 1) else if (i : Int) * 24 + wk f (f 0) i - f 0 % 24 ≤ 0 then s_X1_hoursToOpening_lp2 f k (i + 1) else (i : Int) * 24 + wk f (f 0) i - f 0 % 24) = -1 ∧ _ ∨ ∃ a, _ ∧ _ ∧ _ ∧ _ ∧ (if 7 < (i : Int) then (-1) else if wk f (f 0) i = -1 then s_X1_hoursToOpening_lp2 f k (i + 1) else if (i : Int) * 24 + wk f (f 0) i - f 0 % 24 ≤ 0 then s_X1_hoursToOpening_lp2 f k (i + 1) else (i : Int) * 24 + wk f (f 0) i - f 0 % 24) = _
    by_cases h7 : 7 < (i : Int)
    · rw [if_pos h7]
      exact Or.inl ⟨rfl, fun a h1 h2 => by omega⟩
    · rw [if_neg h7]
      by_cases hok : dOk f i
      · rw [if_neg hok.1, if_neg (by have := hok.2; omega)]
        exact Or.inr ⟨i, Nat.le_refl _, by omega, hok, fun a' h1 h2 => by omega, rfl⟩
      · have e : (if wk f (f 0) i = -1 then s_X1_hoursToOpening_lp2 f k (i + 1) else if (i : Int) * 24 + wk f (f 0) i - f 0 % 24 ≤ 0 then s_X1_hoursToOpening_lp2 f k (i + 1) else (i : Int) * 24 + wk f (f 0) i - f 0 % 24) = s_X1_hoursToOpening_lp2 f k (i + 1) := by
          by_cases h1 : wk f (f 0) i = -1
          · rw [if_pos h1]
          · rw [if_neg h1]
            by_cases h2 : (i : Int) * 24 + wk f (f 0) i - f 0 % 24 ≤ 0
            · rw [if_pos h2]
            · exact absurd ⟨h1, by omega⟩ hok
        rw [e]
        rcases ih (i + 1) (by omega) (by omega) with ⟨h1, h2⟩ | ⟨a, h1, h2, h3, h4, h5⟩
        · refine Or.inl ⟨h1, fun a g1 g2 => ?_⟩
          by_cases ha : a = i
          · rw [ha]; exact hok
          · exact h2 a (by omega) g2
        · refine Or.inr ⟨a, by omega, h2, h3, fun a' g1 g2 => ?_, h5⟩
          by_cases ha : a' = i
          · rw [ha]; exact hok
          · exact h4 a' (by omega) g2
/-- a first hour, if there is one -/
theorem hLoop (f : Nat → Int) : ∀ k i : Nat, i ≤ 169 → i + k = 170 → (s_X2_toOpening_lp2 f k i = -1 ∧ ∀ a, i ≤ a → a ≤ 168 → f (((1 + (((f 0 + (a : Int)) / 24) % 7))).toNat) ≠ (f 0 + (a : Int)) % 24) ∨ ∃ a, i ≤ a ∧ a ≤ 168 ∧ f (((1 + (((f 0 + (a : Int)) / 24) % 7))).toNat) = (f 0 + (a : Int)) % 24 ∧ (∀ a', i ≤ a' → a' < a → f (((1 + (((f 0 + (a' : Int)) / 24) % 7))).toNat) ≠ (f 0 + (a' : Int)) % 24) ∧ s_X2_toOpening_lp2 f k i = (a : Int) := by
  intro k
  induction k with
  | zero =>
    intro i h9 h
    exact absurd h (by omega)
  | succ k ih =>
    intro i h9 h
    rw [s_X2_toOpening_lp2]
    by_cases h7 : 168 < (i : Int)
    · rw [if_pos h7]
      exact Or.inl ⟨rfl, fun a h1 h2 => by omega⟩
    · rw [if_neg h7]
      by_cases hok : f (((1 + (((f 0 + (i : Int)) / 24) % 7))).toNat) = (f 0 + (i : Int)) % 24
      · rw [if_pos hok]
        exact Or.inr ⟨i, Nat.le_refl _, by omega, hok, fun a' h1 h2 => by omega, rfl⟩
      · rw [if_neg hok]
        rcases ih (i + 1) (by omega) (by omega) with ⟨h1, h2⟩ | ⟨a, h1, h2, h3, h4, h5⟩
        · refine Or.inl ⟨h1, fun a g1 g2 => ?_⟩
          by_cases ha : a = i
          · rw [ha]; exact hok
          · exact h2 a (by omega) g2
        · refine Or.inr ⟨a, by omega, h2, h3, fun a' g1 g2 => ?_, h5⟩
          by_cases ha : a' = i
          · rw [ha]; exact hok
          · exact h4 a' (by omega) g2
/-- an hour of the week that opens, by its day -/
theorem hour_day {f1 f2 : Nat → Int} {c : Nat} (h : RI c f1 f2) {a : Nat} : f2 (((1 + (((f2 0 + (a : Int)) / 24) % 7))).toNat) = f1 (14 + (((f1 0 + (a : Int)) / 24) % 7).toNat) := by
  have e0 : f2 0 = f1 0 := h.2.1.1.1
  rw [e0]
  have e : ((1 + (((f1 0 + (a : Int)) / 24) % 7))).toNat = 1 + (((f1 0 + (a : Int)) / 24) % 7).toNat := by omega
  rw [e]
  exact rd_at h.2.1.2.1 (by omega)
theorem wk_range {f1 f2 : Nat → Int} {c : Nat} (h : RI c f1 f2) (a : Nat) : -1 ≤ wk f1 (f1 0) a ∧ wk f1 (f1 0) a ≤ 23 := dy_at h.1.2.1 (by omega) (by omega)
theorem opening_eq {f1 f2 : Nat → Int} {c : Nat} (h : RI c f1 f2) : s_X1_hoursToOpening f1 = s_X2_toOpening f2 ∧ (s_X1_hoursToOpening f1 = -1 ∨ 1 ≤ s_X1_hoursToOpening f1 ∧ s_X1_hoursToOpening f1 ≤ 168) := by
  have hA := h.1.1
  unfold InvA at hA
  have e0 : f2 0 = f1 0 := h.2.1.1.1
  unfold s_X1_hoursToOpening s_X2_toOpening
  -- an hour k that opens lies on a day that is told, and the other way round
  have H1 : ∀ k : Nat, 1 ≤ k → k ≤ 168 → f2 (((1 + (((f2 0 + (k : Int)) / 24) % 7))).toNat) = (f2 0 + (k : Int)) % 24 → ∃ a : Nat, a ≤ 7 ∧ dOk f1 a ∧ (k : Int) = (a : Int) * 24 + wk f1 (f1 0) a - f1 0 % 24 := by
    intro k h1 h2 hk
    rw [hour_day h, e0] at hk
    refine ⟨((f1 0 + (k : Int)) / 24 - f1 0 / 24).toNat, by omega, ?_⟩
    have ea : ((((f1 0 + (k : Int)) / 24 - f1 0 / 24).toNat : Nat) : Int) = (f1 0 + (k : Int)) / 24 - f1 0 / 24 := by omega
    have ew : wk f1 (f1 0) (((f1 0 + (k : Int)) / 24 - f1 0 / 24).toNat) = (f1 0 + (k : Int)) % 24 := by
      unfold wk
      rw [ea, show f1 0 / 24 + ((f1 0 + (k : Int)) / 24 - f1 0 / 24) = (f1 0 + (k : Int)) / 24 by omega]
      exact hk
    unfold dOk
    rw [ew, ea]
    omega
  have H2 : ∀ a : Nat, a ≤ 7 → dOk f1 a → ∀ k : Nat, (k : Int) = (a : Int) * 24 + wk f1 (f1 0) a - f1 0 % 24 → f2 (((1 + (((f2 0 + (k : Int)) / 24) % 7))).toNat) = (f2 0 + (k : Int)) % 24 := by
    intro a ha hd k hk
    have hr := wk_range h a
    have hd1 := hd.1
    rw [hour_day h, e0]
    have e2 : (f1 0 + (k : Int)) / 24 = f1 0 / 24 + (a : Int) := by omega
    rw [e2]
    show wk f1 (f1 0) a = _
    omega
  rcases dLoop f1 (8 + 1 - 0) 0 (by omega) (by omega) with ⟨g1, g2⟩ | ⟨a, ga, g2, g3, g4, g5⟩
  · rw [g1]
    rcases hLoop f2 (169 + 1 - 1) 1 (by omega) (by omega) with ⟨k1, k2⟩ | ⟨k, k1, k2, k3, k4, k5⟩
    · rw [k1]
      exact ⟨rfl, Or.inl rfl⟩
    · obtain ⟨a, ha, hd, -⟩ := H1 k k1 k2 k3
      exact absurd hd (g2 a (Nat.zero_le _) ha)
  · have hr := wk_range h a
    have hd := g3
    unfold dOk at hd
    -- an opening on day 7 ahead lies no later than 168 hours ahead
    have h168 : (a : Int) * 24 + wk f1 (f1 0) a - f1 0 % 24 ≤ 168 := by
      by_cases ha : a = 7
      · subst ha
        have e7 : wk f1 (f1 0) 7 = wk f1 (f1 0) 0 := by
          unfold wk
          rw [show (f1 0 / 24 + ((7 : Nat) : Int)) % 7 = (f1 0 / 24 + ((0 : Nat) : Int)) % 7 by omega]
        have hn := g4 0 (Nat.le_refl _) (by decide)
        unfold dOk at hn
        rw [e7] at hd hr ⊢
        omega
      · omega
    rcases hLoop f2 (169 + 1 - 1) 1 (by omega) (by omega) with ⟨k1, k2⟩ | ⟨k, k1, k2, k3, k4, k5⟩
    · exact absurd (H2 a g2 g3 ((a : Int) * 24 + wk f1 (f1 0) a - f1 0 % 24).toNat (by omega)) (k2 _ (by omega) (by omega))
    · obtain ⟨a', ha', hd', hk'⟩ := H1 k k1 k2 k3
      rw [g5, k5]
      have hr' := wk_range h a'
      have hd'' := hd'
      unfold dOk at hd''
      have hle : a ≤ a' := by
        rcases Nat.lt_or_ge a' a with hlt | hge
        · exact absurd hd' (g4 a' (Nat.zero_le _) hlt)
        · exact hge
      have hK : ¬ ((a : Int) * 24 + wk f1 (f1 0) a - f1 0 % 24 < (k : Int)) := fun hlt => by
        refine absurd (H2 a g2 g3 ((a : Int) * 24 + wk f1 (f1 0) a - f1 0 % 24).toNat (by omega)) ?_
        exact k4 _ (by omega) (by omega)
      by_cases haa : a = a'
      · subst haa
        omega
      · omega
