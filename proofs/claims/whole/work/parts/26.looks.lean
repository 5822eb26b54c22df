/-! looks: both sides tell the same -/
theorem locked_iff (f : Nat → Int) : s_X1_isLocked f = 0 ↔ f 1 = 0 := by unfold s_X1_isLocked; split <;> omega
theorem late_eq {f1 f2 : Nat → Int} {c : Nat} (h : RI c f1 f2) : s_X2_late f2 = s_X1_lateness f1 := by
  obtain ⟨eo, ro⟩ := opens_eq h (-1)
  have hA := h.1.1
  have rA := h.2.1.1
  unfold InvA at hA
  unfold RelA at rA
  have hlk := locked_iff f1
  unfold s_X2_late s_X1_lateness s_X1_latenessAfter
  rw [eo, rA.1, rA.2.1, rA.2.2.1]
  generalize s_X1_hoursToOpen f1 (-1) = o at ro ⊢
  by_cases hl : f1 1 = 0
  · rw [if_pos hl, if_pos (hlk.mpr hl)]
  · rw [if_neg hl, if_neg (fun z => hl (hlk.mp z))]
    (repeat' split) <;> omega
theorem c1o_stopped {f : Nat → Int} {i : Nat} (hg : s_X1_goes f i = 0) (j : Nat) : c1o f (i : Int) j = c1o f (-1) j := by
  unfold c1o
  by_cases hj : j = i
  · subst hj
    rw [if_pos hg, if_pos hg]
  · rw [if_neg (show ¬ ((j : Int) = (i : Int)) by omega), if_neg (show ¬ ((j : Int) = -1) by omega)]
theorem hto_stopped {f : Nat → Int} {i : Nat} (hg : s_X1_goes f i = 0) : s_X1_hoursToOpen f (i : Int) = s_X1_hoursToOpen f (-1) := by
  rw [hoursToOpen_at, hoursToOpen_at, c1o_stopped hg, c1o_stopped hg, c1o_stopped hg]
theorem key_loop {f1 f2 : Nat → Int} {c : Nat} (h : RI c f1 f2) : ∀ k i : Nat, i + k = 4 → i ≤ 3 → s_X2_key_lp2 f2 k i = s_X1_keyMovement_lp8 f1 k i (s_X1_hoursToOpen f1 (-1)) := by
  have hA := h.1.1
  have rA := h.2.1.1
  unfold InvA at hA
  unfold RelA at rA
  intro k
  induction k with
  | zero => intro i h1 h2; exact absurd h1 (by omega)
  | succ k ih =>
    intro i h1 h2
    rw [s_X2_key_lp2, s_X1_keyMovement_lp8]
    by_cases h3 : 3 ≤ (i : Int)
    · rw [if_pos h3, if_pos h3]
    · rw [if_neg h3, if_neg h3, rA.2.1, goes_eq h (show i < 3 by omega), (opens_eq h (i : Int)).1, (opens_eq h (-1)).1]
      have ih' := ih (i + 1) (by omega) (by omega)
      by_cases hl : f1 1 = 1
      · rw [if_pos hl]
        by_cases hg : s_X1_goes f1 i = 0
        · rw [if_pos hg, if_pos (hto_stopped hg)]
          exact ih'
        · rw [if_neg hg]
          by_cases he : s_X1_hoursToOpen f1 (i : Int) = s_X1_hoursToOpen f1 (-1)
          · rw [if_pos he, if_pos he]
            exact ih'
          · rw [if_neg he, if_neg he]
      · rw [if_neg hl]
        have h0 : s_X1_isLocked f1 = 0 := (locked_iff f1).mpr (by omega)
        have hn : ∀ x : Int, s_X1_hoursToOpen f1 x = -1 := fun x => by unfold s_X1_hoursToOpen; rw [if_pos h0]
        rw [hn, hn, if_pos rfl, ← hn (-1), ← ih']
        -- nothing is found, when the door is open
        have : ∀ k i : Nat, i + k = 4 → i ≤ 3 → s_X2_key_lp2 f2 k i = -1 := by
          intro k
          induction k with
          | zero => intro i h1 h2; exact absurd h1 (by omega)
          | succ k ih =>
            intro i h1 h2
            rw [s_X2_key_lp2]
            split
            · rfl
            · rw [if_neg (by omega)]
        rw [hn]
        exact (this k (i + 1) (by omega) (by omega)).symm
theorem key_eq {f1 f2 : Nat → Int} {c : Nat} (h : RI c f1 f2) : s_X2_key f2 = s_X1_keyMovement f1 := key_loop h _ _ (by decide) (by decide)
/-- hours that count, the last of them counting -/
theorem rt_step {l a t x : Int} (h1 : 2 ≤ l) (h2 : l ≤ 20) (ha : 0 ≤ a) (hx : 1 ≤ x) (ht : 1 ≤ t) : x + ((a % l + x) - 1) / (l - 1) = t ↔ ((a + t) % l ≠ 0 ∧ x = t - ((a + t) / l - a / l)) := by
  rcases loss_cases h1 h2 with rfl | rfl | rfl | rfl | rfl | rfl | rfl | rfl | rfl | rfl | rfl | rfl | rfl | rfl | rfl | rfl | rfl | rfl | rfl <;> constructor <;> intro h0 <;> omega
theorem rt_least {l a t : Int} (h1 : 2 ≤ l) (h2 : l ≤ 20) (ha : 0 ≤ a) (ht : 1 ≤ t) (h0 : (a + t) % l ≠ 0) : 1 ≤ t - ((a + t) / l - a / l) ∧ t - ((a + t) / l - a / l) ≤ t := by
  rcases loss_cases h1 h2 with rfl | rfl | rfl | rfl | rfl | rfl | rfl | rfl | rfl | rfl | rfl | rfl | rfl | rfl | rfl | rfl | rfl | rfl | rfl <;> omega
/-- the first of 1 to 200 that fits: X, if it lies there and alone fits -/
theorem right_find (f : Nat → Int) (j : Nat) (X : Int) (hto : s_X2_toOpening f ≠ -1) (hX : ∀ x : Nat, 1 ≤ x → x ≤ 200 → (s_X2_downIn f j (x : Int) = s_X2_toOpening f ↔ (x : Int) = X)) : ∀ k i : Nat, 1 ≤ i → i + k = 202 → i ≤ 201 → s_X2_right_lp7 f j k i = if (i : Int) ≤ X ∧ X ≤ 200 then X else -1 := by
  intro k
  induction k with
  | zero => intro i h0 h1 h2; exact absurd h1 (by omega)
  | succ k ih =>
    intro i h0 h1 h2
    rw [s_X2_right_lp7]
    by_cases h3 : 200 < (i : Int)
    · rw [if_pos h3, if_neg (by omega)]
    · rw [if_neg h3, if_neg hto]
      by_cases he : s_X2_downIn f j (i : Int) = s_X2_toOpening f
      · rw [if_pos he]
        have := (hX i h0 (by omega)).mp he
        rw [if_pos (by omega)]
        exact this
      · rw [if_neg he, ih (i + 1) (by omega) (by omega) (by omega)]
        have hne : (i : Int) ≠ X := fun z => he ((hX i h0 (by omega)).mpr z)
        by_cases hc : (i : Int) ≤ X ∧ X ≤ 200
        · rw [if_pos hc, if_pos (by omega)]
        · rw [if_neg hc, if_neg (by omega)]
theorem right_none (f : Nat → Int) (j : Nat) (hto : s_X2_toOpening f = -1) : ∀ k i : Nat, i + k = 202 → i ≤ 201 → s_X2_right_lp7 f j k i = -1 := by
  intro k
  induction k with
  | zero => intro i h1 h2; exact absurd h1 (by omega)
  | succ k ih =>
    intro i h1 h2
    rw [s_X2_right_lp7]
    split
    · rfl
    · first | rfl | rw [if_pos hto]
theorem windH {x : Int} : (if s_X1_areWindingHours x = 0 then (-1 : Int) else x) = if 1 ≤ x ∧ x ≤ 200 then x else -1 := by
  unfold s_X1_areWindingHours
  (repeat' split) <;> omega
theorem right_eq {f1 f2 : Nat → Int} {c : Nat} (h : RI c f1 f2) {j : Nat} (hj : j < 3) : s_X2_right f2 j = s_X1_hoursToWind f1 j := by
  obtain ⟨et, rt⟩ := opening_eq h
  have hm := mv_at h.1.2.2 hj
  unfold mv1 at hm
  unfold s_X2_right s_X1_hoursToWind
  rw [et] at rt ⊢
  by_cases hto : s_X2_toOpening f2 = -1
  · rw [right_none f2 j hto _ _ (by decide) (by decide), if_pos hto]
  · rw [if_neg hto]
    have ht : 1 ≤ s_X2_toOpening f2 ∧ s_X2_toOpening f2 ≤ 168 := by omega
    have hd : ∀ x : Nat, 1 ≤ x → x ≤ 200 → s_X2_downIn f2 j (x : Int) = dn (x : Int) (s_X1_goes f1 j) (f1 (21 + j * 4 + 2)) (f1 (21 + j * 4 + 3)) := fun x h1 h2 => down_eq h hj (by omega) (by omega)
    by_cases hg : s_X1_goes f1 j = 0
    · rw [if_pos hg, right_find f2 j 0 hto (fun x h1 h2 => ?_) _ _ (by decide) (by decide) (by decide)]
      · rfl
      · rw [hd x h1 h2]
        unfold dn
        rw [if_neg (by omega), if_pos hg]
        omega
    · rw [if_neg hg]
      by_cases hl1 : f1 (21 + j * 4 + 2) = 1
      · have hlost : s_X1_isLostHour (f1 (21 + j * 4 + 3) + s_X2_toOpening f2) (f1 (21 + j * 4 + 2)) = 1 := by
          unfold s_X1_isLostHour
          rw [hl1, if_neg (by decide), if_pos (by omega)]
        rw [hlost, if_neg (by decide), right_find f2 j 0 hto (fun x h1 h2 => ?_) _ _ (by decide) (by decide) (by decide)]
        · rfl
        · rw [hd x h1 h2]
          unfold dn
          rw [if_neg (by omega), if_neg hg, if_pos hl1]
          omega
      · by_cases hl0 : 0 < f1 (21 + j * 4 + 2)
        · have hfit : ∀ x : Nat, 1 ≤ x → x ≤ 200 → (s_X2_downIn f2 j (x : Int) = s_X2_toOpening f2 ↔ ((f1 (21 + j * 4 + 3) + s_X2_toOpening f2) % f1 (21 + j * 4 + 2) ≠ 0 ∧ (x : Int) = s_X2_toOpening f2 - ((f1 (21 + j * 4 + 3) + s_X2_toOpening f2) / f1 (21 + j * 4 + 2) - f1 (21 + j * 4 + 3) / f1 (21 + j * 4 + 2)))) := fun x h1 h2 => by
            rw [hd x h1 h2]
            unfold dn
            rw [if_neg (by omega), if_neg hg, if_neg hl1, if_pos hl0]
            exact rt_step (by omega) (by omega) (by omega) (by omega) (by omega)
          by_cases hz : (f1 (21 + j * 4 + 3) + s_X2_toOpening f2) % f1 (21 + j * 4 + 2) = 0
          · have hlost : s_X1_isLostHour (f1 (21 + j * 4 + 3) + s_X2_toOpening f2) (f1 (21 + j * 4 + 2)) = 1 := by
              unfold s_X1_isLostHour
              rw [if_neg (by omega), if_pos hz]
            rw [hlost, if_neg (by decide), right_find f2 j 0 hto (fun x h1 h2 => ?_) _ _ (by decide) (by decide) (by decide)]
            · rfl
            · rw [hfit x h1 h2]
              constructor
              · intro z; exact absurd hz z.1
              · intro z; omega
          · have hlost : s_X1_isLostHour (f1 (21 + j * 4 + 3) + s_X2_toOpening f2) (f1 (21 + j * 4 + 2)) = 0 := by
              unfold s_X1_isLostHour
              rw [if_neg (by omega), if_neg hz]
            rw [hlost, if_pos rfl, if_pos hl0, windH, right_find f2 j (s_X2_toOpening f2 - ((f1 (21 + j * 4 + 3) + s_X2_toOpening f2) / f1 (21 + j * 4 + 2) - f1 (21 + j * 4 + 3) / f1 (21 + j * 4 + 2))) hto (fun x h1 h2 => ?_) _ _ (by decide) (by decide) (by decide)]
            · rfl
            · rw [hfit x h1 h2]
              exact ⟨fun z => z.2, fun z => ⟨hz, z⟩⟩
        · have hlost : s_X1_isLostHour (f1 (21 + j * 4 + 3) + s_X2_toOpening f2) (f1 (21 + j * 4 + 2)) = 0 := by
            unfold s_X1_isLostHour
            rw [if_pos (by omega)]
          rw [hlost, if_pos rfl, if_neg hl0, windH, right_find f2 j (s_X2_toOpening f2 - 0) hto (fun x h1 h2 => ?_) _ _ (by decide) (by decide) (by decide)]
          · rfl
          · rw [hd x h1 h2]
            unfold dn
            rw [if_neg (by omega), if_neg hg, if_neg hl1, if_neg hl0]
            omega
theorem prop_eq {f1 f2 : Nat → Int} {c : Nat} (h : RI c f1 f2) {j x : Nat} (hj : j < 3) (hx : x ≤ 5) : s_X2_ofMovement f2 j x = s_X1_property f1 j x := by
  have hm := mv_at h.1.2.2 hj
  have hr := rl_at h.2.1.2.2 hj
  have rA := h.2.1.1
  unfold mv1 at hm
  unfold RelA at rA
  unfold s_X2_ofMovement s_X1_property
  rcases (show x = 0 ∨ x = 1 ∨ x = 2 ∨ x = 3 ∨ x = 4 ∨ x = 5 by omega) with rfl | rfl | rfl | rfl | rfl | rfl
  · exact hr.1
  · exact hr.2.1
  · exact hr.2.2.1
  · exact hr.2.2.2
  · rw [hr.2.2.2, rA.2.2.2.2.2.2.2.2.2.2.2.2.2]
    rfl
  · rw [if_pos (by decide), if_neg (by decide), if_neg (by decide), if_pos (by decide), hr.1, down_eq h hj hm.1.1 hm.1.2, dn_X1]
theorem count_eq {f1 f2 : Nat → Int} {c n : Nat} (h : RI c f1 f2) {x : Nat} (hx : x ≤ 14) : s_X2_counted f2 n x = s_X1_number f1 n x := by
  have rA := h.2.1.1
  unfold RelA at rA
  obtain ⟨r0, r1, r2, r3, r4, r5, r6, r7, r8, r9, r10, -⟩ := rA
  unfold s_X2_counted s_X1_number
  rw [waits_eq h, ← (opening_eq h).1]
  rcases (show x = 0 ∨ x = 1 ∨ x = 2 ∨ x = 3 ∨ x = 4 ∨ x = 5 ∨ x = 6 ∨ x = 7 ∨ x = 8 ∨ x = 9 ∨ x = 10 ∨ x = 11 ∨ x = 12 ∨ x = 13 ∨ x = 14 by omega) with rfl | rfl | rfl | rfl | rfl | rfl | rfl | rfl | rfl | rfl | rfl | rfl | rfl | rfl | rfl <;> simp [r0, r1, r2, r3, r4, r5, r6, r7, r8, r9, r10, wt1]
theorem share_eq {f1 f2 : Nat → Int} {c : Nat} (h : RI c f1 f2) : s_X2_share f2 = s_X1_punctuality f1 := by
  have rA := h.2.1.1
  unfold RelA at rA
  obtain ⟨r0, r1, r2, r3, r4, r5, r6, r7, r8, r9, r10, -⟩ := rA
  unfold s_X2_share s_X1_punctuality
  rw [r6, r7, r10]
