/-! saved states -/
def blk (g : Nat → Int) (s : Nat) : Nat → Int := fun k => if k < 33 then g (33 * s + k) else 0
def cut (f : Nat → Int) : Nat → Int := fun k => if k < 33 then f k else 0
def nx (n : Nat) : Nat := if n < 6 then n + 1 else 6
theorem save1_n (f g : Nat → Int) {n : Nat} : (s_X1_save f g n).2 = nx n := by
  unfold s_X1_save nx
  by_cases h : n < 6
  · rw [if_pos (by omega), if_pos h]
  · rw [if_neg (by omega), if_neg h]
theorem save1_at (f g : Nat → Int) {n : Nat} (hn : n ≤ 6) {s : Nat} (hs : s < nx n) : blk (s_X1_save f g n).1 s = if s + 1 = nx n then cut f else blk g (if n < 6 then s else s + 1) := by
  unfold s_X1_save
  unfold nx at hs ⊢
  funext k
  by_cases h : n < 6
  · rw [if_pos (by omega)]
    simp only [if_pos h] at hs ⊢
    by_cases h1 : s + 1 = n + 1
    · rw [if_pos h1]
      unfold blk cut va_cpy
      by_cases hk : k < 33
      · rw [if_pos hk, if_pos hk, if_pos (by omega)]
        exact congrArg _ (by omega)
      · rw [if_neg hk, if_neg hk]
    · rw [if_neg h1]
      unfold blk va_cpy
      by_cases hk : k < 33
      · rw [if_pos hk, if_pos hk, if_neg (by omega)]
      · rw [if_neg hk, if_neg hk]
  · rw [if_neg (by omega)]
    simp only [if_neg h] at hs ⊢
    by_cases h1 : s + 1 = 6
    · rw [if_pos h1]
      unfold blk cut va_cpy
      by_cases hk : k < 33
      · rw [if_pos hk, if_pos hk, if_pos (by omega)]
        exact congrArg _ (by omega)
      · rw [if_neg hk, if_neg hk]
    · rw [if_neg h1]
      unfold blk va_cpy
      by_cases hk : k < 33
      · rw [if_pos hk, if_pos hk, if_neg (by omega), if_pos (by omega)]
        exact congrArg _ (by omega)
      · rw [if_neg hk, if_neg hk]
theorem lp51_at (f : Nat → Int) (n9 : Nat) : ∀ (k i : Nat) (g8 : Nat → Int), i + k = 34 → i ≤ 33 → s_X2_saves_lp51 f k i g8 n9 = ((fun m => if 33 * n9 + i ≤ m ∧ m < 33 * n9 + 33 then f (m - 33 * n9) else g8 m), n9 + 1) := by
  intro k
  induction k with
  | zero => intro i g8 h1 h2; exact absurd h1 (by omega)
  | succ k ih =>
    intro i g8 h1 h2
    rw [s_X2_saves_lp51]
    by_cases h3 : 33 ≤ (i : Int)
    · rw [if_pos h3]
      refine Prod.ext ?_ rfl
      funext m
      show g8 m = if 33 * n9 + i ≤ m ∧ m < 33 * n9 + 33 then _ else _
      rw [if_neg (by omega)]
    · rw [if_neg h3, ih (i + 1) _ (by omega) (by omega)]
      refine Prod.ext ?_ rfl
      funext m
      show (if 33 * n9 + (i + 1) ≤ m ∧ m < 33 * n9 + 33 then f (m - 33 * n9) else upz g8 (33 * n9 + i) (f i) m) = if 33 * n9 + i ≤ m ∧ m < 33 * n9 + 33 then f (m - 33 * n9) else g8 m
      by_cases hm : m = 33 * n9 + i
      · subst hm
        rw [if_neg (by omega), if_pos (by omega), upz_s]
        exact congrArg _ (by omega)
      · rw [upz_n hm]
        by_cases h4 : 33 * n9 + i ≤ m ∧ m < 33 * n9 + 33
        · rw [if_pos h4, if_pos (by omega)]
        · rw [if_neg h4, if_neg (by omega)]
theorem lp11_at (f : Nat → Int) (n : Nat) : ∀ (k i : Nat) (g9 : Nat → Int), i + k = 166 → i ≤ 165 → s_X2_saves_lp11 f n k i g9 = s_X2_saves_lp51 f (33 + 1 - 0) 0 (fun m => if i ≤ m ∧ m < 165 then g9 (m + 33) else g9 m) (n - 1) := by
  intro k
  induction k with
  | zero => intro i g9 h1 h2; exact absurd h1 (by omega)
  | succ k ih =>
    intro i g9 h1 h2
    rw [s_X2_saves_lp11]
    by_cases h3 : 165 ≤ (i : Int)
    · rw [if_pos h3]
      congr 1
      funext m
      rw [if_neg (by omega)]
    · rw [if_neg h3, ih (i + 1) _ (by omega) (by omega)]
      congr 1
      funext m
      by_cases hm : m = i
      · subst hm
        rw [if_neg (by omega), if_pos (by omega), upz_s]
      · rw [upz_n hm]
        by_cases h4 : i ≤ m ∧ m < 165
        · rw [if_pos h4, if_pos (by omega), upz_n (by omega)]
        · rw [if_neg h4, if_neg (by omega)]
theorem save2_n (f g : Nat → Int) {n : Nat} (hn : n ≤ 6) : (s_X2_saves f g n).2 = nx n := by
  unfold s_X2_saves nx
  by_cases h : n < 6
  · rw [if_neg (by omega), if_pos h, lp51_at _ _ _ _ _ (by decide) (by decide)]
  · rw [if_pos (by omega), if_neg h, lp11_at _ _ _ _ _ (by decide) (by decide), lp51_at _ _ _ _ _ (by decide) (by decide)]
    show n - 1 + 1 = 6
    omega
theorem save2_at (f g : Nat → Int) {n : Nat} (hn : n ≤ 6) {s : Nat} (hs : s < nx n) : blk (s_X2_saves f g n).1 s = if s + 1 = nx n then cut f else blk g (if n < 6 then s else s + 1) := by
  unfold s_X2_saves
  unfold nx at hs ⊢
  funext k
  by_cases h : n < 6
  · rw [if_neg (by omega), lp51_at _ _ _ _ _ (by decide) (by decide)]
    simp only [if_pos h] at hs ⊢
    by_cases h1 : s + 1 = n + 1
    · rw [if_pos h1]
      unfold blk cut
      by_cases hk : k < 33
      · rw [if_pos hk, if_pos hk]
        exact (if_pos (by omega)).trans (congrArg _ (by omega))
      · rw [if_neg hk, if_neg hk]
    · rw [if_neg h1]
      unfold blk
      by_cases hk : k < 33
      · rw [if_pos hk, if_pos hk]
        exact if_neg (by omega)
      · rw [if_neg hk, if_neg hk]
  · rw [if_pos (by omega), lp11_at _ _ _ _ _ (by decide) (by decide), lp51_at _ _ _ _ _ (by decide) (by decide)]
    simp only [if_neg h] at hs ⊢
    have h6 : n = 6 := by omega
    subst h6
    by_cases h1 : s + 1 = 6
    · rw [if_pos h1]
      unfold blk cut
      by_cases hk : k < 33
      · rw [if_pos hk, if_pos hk]
        exact (if_pos (by omega)).trans (congrArg _ (by omega))
      · rw [if_neg hk, if_neg hk]
    · rw [if_neg h1]
      unfold blk
      by_cases hk : k < 33
      · rw [if_pos hk, if_pos hk]
        exact (if_neg (by omega)).trans ((if_pos (by omega)).trans (congrArg _ (by omega)))
      · rw [if_neg hk, if_neg hk]
/-- the saved states hold the same, too -/
def RG (c n : Nat) (g1 g2 : Nat → Int) : Prop := ∀ s : Nat, s < n → RI c (blk g1 s) (blk g2 s)
theorem cut_1 {c : Nat} {f1 f2 : Nat → Int} (h : RI c f1 f2) : cut f1 = f1 := by
  funext k
  unfold cut
  by_cases hk : k < 33
  · rw [if_pos hk]
  · rw [if_neg hk, (h.2.2 k (by omega)).1]
theorem cut_2 {c : Nat} {f1 f2 : Nat → Int} (h : RI c f1 f2) : cut f2 = f2 := by
  funext k
  unfold cut
  by_cases hk : k < 33
  · rw [if_pos hk]
  · rw [if_neg hk, (h.2.2 k (by omega)).2]
theorem RI_more {c : Nat} {f1 f2 : Nat → Int} (h : RI c f1 f2) : RI (c + 1) f1 f2 := by
  refine ⟨⟨?_, h.1.2⟩, h.2⟩
  have hA := h.1.1
  unfold InvA at hA ⊢
  omega
theorem RG_more {c n : Nat} {g1 g2 : Nat → Int} (h : RG c n g1 g2) : RG (c + 1) n g1 g2 := fun s hs => RI_more (h s hs)
theorem RG_save {c n : Nat} {f1 f2 g1 g2 : Nat → Int} (h : RI c f1 f2) (hg : RG c n g1 g2) (hn : n ≤ 6) : RG c (nx n) (s_X1_save f1 g1 n).1 (s_X2_saves f2 g2 n).1 := fun s hs => by
  rw [save1_at _ _ hn hs, save2_at _ _ hn hs]
  by_cases h1 : s + 1 = nx n
  · rw [if_pos h1, if_pos h1, cut_1 h, cut_2 h]
    exact h
  · rw [if_neg h1, if_neg h1]
    refine hg _ ?_
    unfold nx at hs h1
    by_cases h6 : n < 6
    · rw [if_pos h6]
      rw [if_pos h6] at hs h1
      omega
    · rw [if_neg h6]
      rw [if_neg h6] at hs h1
      omega
theorem nx_le {n : Nat} (hn : n ≤ 6) : nx n ≤ 6 := by unfold nx; split <;> omega
/-- back to the last of them -/
theorem lp30_at (g : Nat → Int) (n : Nat) : ∀ (k i : Nat) (f9 : Nat → Int), i + k = 34 → i ≤ 33 → s_X2_undo_lp30 g n k i f9 = ((((n - 1) : Nat) : Int), 0, (fun m => if i ≤ m ∧ m < 33 then g (33 * (n - 1) + m) else f9 m), g, (n - 1)) := by
  intro k
  induction k with
  | zero => intro i f9 h1 h2; exact absurd h1 (by omega)
  | succ k ih =>
    intro i f9 h1 h2
    rw [s_X2_undo_lp30]
    by_cases h3 : 33 ≤ (i : Int)
    · rw [if_pos h3]
      have e : f9 = fun m => if i ≤ m ∧ m < 33 then g (33 * (n - 1) + m) else f9 m := by
        funext m
        rw [if_neg (by omega)]
      rw [← e]
    · rw [if_neg h3, ih (i + 1) _ (by omega) (by omega)]
      have e : (fun m => if i + 1 ≤ m ∧ m < 33 then g (33 * (n - 1) + m) else upz f9 i (g (33 * (n - 1) + i)) m) = fun m => if i ≤ m ∧ m < 33 then g (33 * (n - 1) + m) else f9 m := by
        funext m
        by_cases hm : m = i
        · subst hm
          rw [if_neg (by omega), if_pos (by omega), upz_s]
        · rw [upz_n hm]
          by_cases h4 : i ≤ m ∧ m < 33
          · rw [if_pos h4, if_pos (by omega)]
          · rw [if_neg h4, if_neg (by omega)]
      rw [e]
theorem undo_1 {c : Nat} {f1 f2 : Nat → Int} (h : RI c f1 f2) (g : Nat → Int) (n : Nat) : va_cpy g f1 ((n - 1) * 33) 0 33 = blk g (n - 1) := by
  funext k
  unfold va_cpy blk
  by_cases hk : k < 33
  · rw [if_pos hk, if_pos (by omega)]
    exact congrArg _ (by omega)
  · rw [if_neg hk, if_neg (by omega), (h.2.2 k (by omega)).1]
theorem undo_2 {c : Nat} {f1 f2 : Nat → Int} (h : RI c f1 f2) (g : Nat → Int) (n : Nat) : (fun m => if 0 ≤ m ∧ m < 33 then g (33 * (n - 1) + m) else f2 m) = blk g (n - 1) := by
  funext k
  unfold blk
  by_cases hk : k < 33
  · rw [if_pos hk, if_pos (by omega)]
  · rw [if_neg hk, if_neg (by omega), (h.2.2 k (by omega)).2]
