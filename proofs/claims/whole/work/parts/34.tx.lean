/-! a whole text, both ways -/
def TX (len : Nat) (T : Int × Nat × Int × Int × (Nat → Int) × (Nat → Int)) (C : Int × (Nat → Int) × (Nat → Int) × (Nat → Int) × Nat) : Prop :=
  (T.1 = 0 ∧ ((T.2.2.1 = 0 ∧ C.1 = (len : Int) ∧ s_X0_areComplete C.2.1 C.2.2.1 C.2.2.2.1 C.2.2.2.2 = 0) ∨ (T.2.2.1 ≠ 0 ∧ T.2.1 < len ∧ C.1 = (T.2.1 : Int)))) ∨
  (T.1 = 1 ∧ C.1 = (len : Int) ∧ s_X0_areComplete C.2.1 C.2.2.1 C.2.2.2.1 C.2.2.2.2 = 1 ∧ ∀ k : Nat, k < 3 → Same1 C.2.1 C.2.2.1 C.2.2.2.1 T.2.2.2.2.1 T.2.2.2.2.2 k)
/-- part i at its place, and what follows -/
def tx (b : Nat → Int) (len i at_ : Nat) (fl va : Int) (so ma : Nat → Int) : Int × Nat × Int × Int × (Nat → Int) × (Nat → Int) :=
  if (s_X2_isWinding b len at_ fl va so ma i).1 = 0 then (0, (s_X2_isWinding b len at_ fl va so ma i).2.1, (s_X2_isWinding b len at_ fl va so ma i).2.2.1, (s_X2_isWinding b len at_ fl va so ma i).2.2.2.1, (s_X2_isWinding b len at_ fl va so ma i).2.2.2.2.1, (s_X2_isWinding b len at_ fl va so ma i).2.2.2.2.2) else s_X2_isText_lp12 b len (3 - i) (i + 1) (s_X2_isWinding b len at_ fl va so ma i).2.1 (s_X2_isWinding b len at_ fl va so ma i).2.2.1 (s_X2_isWinding b len at_ fl va so ma i).2.2.2.1 (s_X2_isWinding b len at_ fl va so ma i).2.2.2.2.1 (s_X2_isWinding b len at_ fl va so ma i).2.2.2.2.2
/-- parts before i are told, parts from i on are untouched -/
def Mid (kd sg nb so ma : Nat → Int) (i : Nat) : Prop := (∀ k : Nat, k < i → Same1 kd sg nb so ma k) ∧ ∀ k : Nat, i ≤ k → k < 3 → kd k = 0 ∧ sg k = 0 ∧ nb k = 0
section TXS
variable {b : Nat → Int} {len : Nat}
theorem tx_end (k at9 : Nat) (fl9 va9 : Int) (so9 ma9 : Nat → Int) : s_X2_isText_lp12 b len (k + 1) 3 at9 fl9 va9 so9 ma9 = (if (len : Int) ≤ (at9 : Int) then (if (at9 : Int) = (len : Int) then (1, at9, 0, va9, so9, ma9) else (0, at9, 0, va9, so9, ma9)) else (if (at9 : Int) = (len : Int) then (1, at9, 1, va9, so9, ma9) else (0, at9, 1, va9, so9, ma9))) := by
  rw [s_X2_isText_lp12, if_pos (by decide)]
theorem tx_next {i : Nat} (hi : i = 1 ∨ i = 2) (at9 : Nat) (fl9 va9 : Int) (so9 ma9 : Nat → Int) : s_X2_isText_lp12 b len (3 - i + 1) i at9 fl9 va9 so9 ma9 = if (s_X2_isSign b len at9 44).1 = 0 then ((s_X2_stops len ((s_X2_isSign b len at9 44).2)).1, (s_X2_isSign b len at9 44).2, (s_X2_stops len ((s_X2_isSign b len at9 44).2)).2, va9, so9, ma9) else tx b len i (s_X2_isSign b len at9 44).2 fl9 va9 so9 ma9 := by
  rw [s_X2_isText_lp12, if_neg (by omega), if_neg (by omega)]
  rfl
theorem tx_first (fl9 va9 : Int) (so9 ma9 : Nat → Int) : s_X2_isText_lp12 b len 4 0 0 fl9 va9 so9 ma9 = tx b len 0 0 fl9 va9 so9 ma9 := by
  rw [s_X2_isText_lp12, if_neg (by decide), if_pos (by decide)]
  rfl
theorem tx_step {i : Nat} (hi : i < 3) (next : i < 2 → ∀ (at_ : Nat) (fl va : Int) (so ma kd sg nb : Nat → Int), at_ ≤ len → Mid kd sg nb so ma (i + 1) → TX len (tx b len (i + 1) at_ fl va so ma) (RB b len at_ kd sg nb (i + 1))) (at_ : Nat) (fl va : Int) (so ma kd sg nb : Nat → Int) (hat : at_ ≤ len) (hm : Mid kd sg nb so ma i) : TX len (tx b len i at_ fl va so ma) (RB b len at_ kd sg nb i) := by
  have hw := w_part (b := b) (len := len) (at_ := at_) (j := i) (kd := kd) (sg := sg) (nb := nb) (so := so) (ma := ma) (fl := fl) (va := va) hat (hm.2 i (Nat.le_refl _) hi)
  unfold tx
  generalize s_X2_isWinding b len at_ fl va so ma i = w at hw ⊢
  rcases hw with ⟨w1, h | h⟩ | ⟨w1, w2, kd', sg', nb', hR, hO, hF, hS⟩
  · -- the text ends there
    obtain ⟨h1, kd', sg', nb', h2, h3⟩ := h
    rw [if_pos w1, h2]
    refine Or.inl ⟨rfl, Or.inl ⟨h1, rfl, ?_⟩⟩
    show s_X0_areComplete kd' sg' nb' i = 0
    unfold s_X0_areComplete
    rw [h3]
    split <;> rfl
  · obtain ⟨h1, h2, h3⟩ := h
    rw [if_pos w1]
    exact Or.inl ⟨rfl, Or.inr ⟨by show w.2.2.1 ≠ 0; omega, h2, h3⟩⟩
  · rw [if_neg (by omega), hR]
    have hM : Mid kd' sg' nb' w.2.2.2.2.1 w.2.2.2.2.2 (i + 1) := by
      refine ⟨fun k hk => ?_, fun k h1 h2 => ?_⟩
      · by_cases hki : k = i
        · rw [hki]
          exact hS
        · have h0 := hm.1 k (by omega)
          obtain ⟨o1, o2, o3, o4, o5⟩ := hO k hki
          unfold Same1 at h0 ⊢
          rw [o1, o2, o3, o4, o5]
          exact h0
      · obtain ⟨o1, o2, o3, -, -⟩ := hO k (by omega)
        rw [o1, o2, o3]
        exact hm.2 k (by omega) h2
    have hstop : w.2.1 < len → (i = 2 ∨ b w.2.1 ≠ 44) → (RB b len w.2.1 kd' sg' nb' i).1 = (w.2.1 : Int) := fun hlt hx => by
      refine RB_stop hlt ?_
      by_cases hc : b w.2.1 = 44
      · rw [hc]
        exact tk_comma_no (Or.inl (by rcases hx with hx | hx; omega; exact absurd hc hx))
      · exact hF.2 hlt hc
    by_cases h2 : i = 2
    · subst h2
      rw [show s_X2_isText_lp12 b len (3 - 2) (2 + 1) = s_X2_isText_lp12 b len (0 + 1) 3 from rfl, tx_end]
      by_cases he : (len : Int) ≤ (w.2.1 : Int)
      · rw [if_pos he, if_pos (by omega), RB_end (by omega)]
        refine Or.inr ⟨rfl, rfl, ?_, hM.1⟩
        show s_X0_areComplete kd' sg' nb' 2 = 1
        unfold s_X0_areComplete
        rw [if_pos (by decide), hF.1, if_neg (by decide)]
      · rw [if_neg he, if_neg (by omega)]
        exact Or.inl ⟨rfl, Or.inr ⟨h10, by show w.2.1 < len; omega, hstop (by omega) (Or.inl rfl)⟩⟩
    · have h3 : 3 - i = 3 - (i + 1) + 1 := by omega
      rw [h3, tx_next (by omega)]
      by_cases hc : w.2.1 < len ∧ b w.2.1 = 44
      · rw [isSign_yes hc.1 hc.2, if_neg (show ¬ ((1, w.2.1 + 1) : Int × Nat).fst = 0 from h10)]
        have ht : s_X0_take kd' sg' nb' i (b w.2.1) = (1, kd', sg', nb', i + 1) := by
          rw [hc.2]
          exact tk_comma_yes (by omega) (by rw [hF.1]; exact h10)
        rw [RB_go hc.1 (by decide) ht]
        exact next (by omega) _ _ _ _ _ _ _ _ (by show w.2.1 + 1 ≤ len; omega) hM
      · rw [isSign_no hc, if_pos rfl]
        show TX len ((s_X2_stops len w.2.1).1, w.2.1, (s_X2_stops len w.2.1).2, w.2.2.2.1, w.2.2.2.2.1, w.2.2.2.2.2) _
        by_cases hlt : w.2.1 < len
        · rw [stops_in hlt]
          exact Or.inl ⟨rfl, Or.inr ⟨h10, hlt, hstop hlt (Or.inr (fun z => hc ⟨hlt, z⟩))⟩⟩
        · rw [stops_end hlt, RB_end (by omega)]
          refine Or.inl ⟨rfl, Or.inl ⟨rfl, rfl, ?_⟩⟩
          show s_X0_areComplete kd' sg' nb' i = 0
          unfold s_X0_areComplete
          rw [if_neg (by omega)]
theorem tx_all (fl va : Int) (so ma kd sg nb : Nat → Int) (hm : ∀ k : Nat, k < 3 → kd k = 0 ∧ sg k = 0 ∧ nb k = 0) : TX len (tx b len 0 0 fl va so ma) (RB b len 0 kd sg nb 0) :=
  tx_step (by decide) (fun _ => tx_step (by decide) (fun _ => tx_step (by decide) (fun z => absurd z (by decide)))) 0 fl va so ma kd sg nb (Nat.zero_le _) ⟨fun k hk => absurd hk (Nat.not_lt_zero k), fun k _ h2 => hm k h2⟩
theorem restart_at (kd sg nb : Nat → Int) : ∃ kd' sg' nb' : Nat → Int, s_X0_restart kd sg nb = (kd', sg', nb', 0) ∧ ∀ k : Nat, k < 3 → kd' k = 0 ∧ sg' k = 0 ∧ nb' k = 0 := by
  have s : ∀ (k i : Nat) (kd sg nb : Nat → Int), i < 3 → s_X0_restart_lp7 (k + 1) i kd sg nb = s_X0_restart_lp7 k (i + 1) (upz kd i 0) (upz sg i 0) (upz nb i 0) := fun k i kd sg nb hi => by
    rw [s_X0_restart_lp7, if_neg (by omega)]
  have e : ∀ (k : Nat) (kd sg nb : Nat → Int), s_X0_restart_lp7 (k + 1) 3 kd sg nb = (kd, sg, nb, 0) := fun k kd sg nb => by
    rw [s_X0_restart_lp7, if_pos (by decide)]
  unfold s_X0_restart
  rw [show 3 + 1 - 0 = 4 by rfl, s 3 0 _ _ _ (by decide), s 2 1 _ _ _ (by decide), s 1 2 _ _ _ (by decide), e 0]
  refine ⟨_, _, _, rfl, fun k hk => ?_⟩
  rcases (show k = 0 ∨ k = 1 ∨ k = 2 by omega) with rfl | rfl | rfl <;> simp [upz]
theorem text_eq (va : Int) (so ma kd sg nb : Nat → Int) : TX len (s_X2_isText b len va so ma) (s_X1_readBuffer b len kd sg nb) := by
  obtain ⟨kd', sg', nb', h1, h2⟩ := restart_at kd sg nb
  unfold s_X2_isText s_X1_readBuffer
  rw [show 3 + 1 - 0 = 4 by rfl, tx_first, h1]
  exact tx_all 0 va so ma kd' sg' nb' h2
/-- the first error -/
theorem err_eq (va : Int) (so ma kd sg nb : Nat → Int) : (s_X1_firstError b len kd sg nb).1 = (s_X2_firstError b len va so ma).1 := by
  have h := text_eq (b := b) (len := len) va so ma kd sg nb
  unfold s_X1_firstError s_X2_firstError
  show (s_X1_readBuffer b len kd sg nb).1 = _
  generalize s_X2_isText b len va so ma = T at h ⊢
  generalize s_X1_readBuffer b len kd sg nb = C at h ⊢
  rcases h with ⟨t1, ⟨h1, h2, -⟩ | ⟨h1, h2, h3⟩⟩ | ⟨t1, h2, -⟩
  · rw [if_pos t1, if_pos h1]
    exact h2
  · rw [if_pos t1, if_neg h1]
    exact h3
  · rw [if_neg (by omega)]
    exact h2
end TXS
