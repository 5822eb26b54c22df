/-! each method that changes: its answer, and what holds behind it -/
def Good (lo : Int) (c n : Nat) (f : Nat → Int) (A : Int × Int × (Nat → Int) × (Nat → Int) × Nat) : Prop := (A.1 = 0 → lo ≤ A.2.1 ∧ A.2.1 ≤ 100000) ∧ (A.1 ≠ 0 → A.2.2.2.2 = n ∧ A.2.2.1 0 = f 0) ∧ VI (c + 1) A.2.2.1 ∧ VG (c + 1) A.2.2.2.2 A.2.2.2.1 ∧ A.2.2.2.2 ≤ 6
theorem good_no {lo : Int} {c n : Nat} {f g : Nat → Int} (h : VI c f) (hg : VG c n g) (hn : n ≤ 6) {a r : Int} (ha : a ≠ 0) : Good lo c n f (a, r, f, g, n) :=
  ⟨fun z => absurd z ha, fun _ => ⟨rfl, rfl⟩, VI_more h, VG_more hg, hn⟩
theorem good_yes {lo : Int} {c n : Nat} {f f' g : Nat → Int} (h : VI c f) (hg : VG c n g) (hn : n ≤ 6) {r : Int} (hr : lo ≤ r ∧ r ≤ 100000) (hf : VI (c + 1) f') : Good lo c n f (0, r, f', (s_X1_save f g n).1, (s_X1_save f g n).2) := by
  refine ⟨fun _ => hr, fun z => absurd rfl z, hf, ?_, ?_⟩
  · show VG (c + 1) (s_X1_save f g n).2 (s_X1_save f g n).1
    rw [save1_n]
    exact VG_more (VG_save h hg hn)
  · show (s_X1_save f g n).2 ≤ 6
    rw [save1_n]
    exact nx_le hn
section OPS
variable {c n : Nat} {f g : Nat → Int}
theorem vb_day (h : VI c f) {d : Nat} (hd : d < 7) : -1 ≤ f (14 + d) ∧ f (14 + d) ≤ 100000 := by
  have := V_d h (14 + d) (by omega) (by omega)
  omega
theorem vb_set (h : VI c f) {d : Nat} (hd : d < 3) : 0 ≤ f (11 + d) ∧ f (11 + d) ≤ 100000 := by
  have hA := h.1.1
  unfold VA at hA
  rcases (show d = 0 ∨ d = 1 ∨ d = 2 by omega) with rfl | rfl | rfl <;> simp only [Nat.reduceAdd] <;> omega
theorem vb_mv (hc : c ≤ 100) (h : VI c f) {j q p : Nat} (hj : j < 3) (hq : q < 4) (e : p = 21 + j * 4 + q) : 0 ≤ f p ∧ f p ≤ 100000 := by
  subst e
  have hm := V_mvB h j hj
  rcases (show q = 0 ∨ q = 1 ∨ q = 2 ∨ q = 3 by omega) with rfl | rfl | rfl | rfl <;> omega
theorem o_opening (h : VI c f) (hg : VG c n g) (hn : n ≤ 6) (x0 x1 : Int) : Good (-1) c n f (s_X1_opening f g n x0 x1) := by
  unfold s_X1_opening
  simp only [isDay0]
  by_cases hx : x0 < 0 ∨ 7 ≤ x0
  · rw [if_pos hx]
    exact good_no h hg hn (by decide)
  · rw [if_neg hx]
    (repeat' split) <;> first | exact good_no h hg hn (by decide) | exact good_yes h hg hn (vb_day h (d := x0.toNat) (by omega)) (VI_day (d := x0.toNat) (VI_more h) (by omega) ⟨by omega, by omega⟩)
theorem o_set (h : VI c f) (hg : VG c n g) (hn : n ≤ 6) (x0 x1 : Int) : Good 0 c n f (s_X1_set f g n x0 x1) := by
  unfold s_X1_set
  simp only [isSetting0]
  by_cases hx : x0 < 0 ∨ 3 ≤ x0
  · rw [if_pos hx]
    exact good_no h hg hn (by decide)
  · rw [if_neg hx]
    (repeat' split) <;> first | exact good_no h hg hn (by decide) | exact good_yes h hg hn (vb_set h (d := x0.toNat) (by omega)) (VI_set (d := x0.toNat) (VI_more h) (by omega) ⟨by omega, by omega⟩)
theorem o_wind (hc : c ≤ 100) (h : VI c f) (hg : VG c n g) (hn : n ≤ 6) (x0 x1 : Int) : Good 0 c n f (s_X1_wind f g n x0 x1) := by
  unfold s_X1_wind
  simp only [isMovement0, areWinding0]
  by_cases hx : x0 < 0 ∨ 3 ≤ x0
  · rw [if_pos hx]
    exact good_no h hg hn (by decide)
  · rw [if_neg hx]
    (repeat' split) <;> first | exact good_no h hg hn (by decide) | exact good_yes h hg hn (vb_mv hc h (j := x0.toNat) (q := 0) (by omega) (by decide) rfl) (VI_mv (VI_more h) (j := x0.toNat) (q := 0) (by omega) (by decide) ⟨by omega, by omega⟩ rfl)
theorem o_fault (hc : c ≤ 100) (h : VI c f) (hg : VG c n g) (hn : n ≤ 6) (x0 x1 : Int) : Good 0 c n f (s_X1_fault f g n x0 x1) := by
  unfold s_X1_fault
  simp only [isMovement0]
  by_cases hx : x0 < 0 ∨ 3 ≤ x0
  · rw [if_pos hx]
    exact good_no h hg hn (by decide)
  · rw [if_neg hx]
    split
    · exact good_yes h hg hn (vb_mv hc h (j := x0.toNat) (q := 1) (by omega) (by decide) rfl) (VI_mv (VI_more h) (j := x0.toNat) (q := 1) (by omega) (by decide) (Or.inl rfl) rfl)
    · exact good_yes h hg hn (vb_mv hc h (j := x0.toNat) (q := 1) (by omega) (by decide) rfl) (VI_mv (VI_more h) (j := x0.toNat) (q := 1) (by omega) (by decide) (Or.inr rfl) rfl)
theorem o_loss (hc : c ≤ 100) (h : VI c f) (hg : VG c n g) (hn : n ≤ 6) (x0 x1 : Int) : Good 0 c n f (s_X1_loss f g n x0 x1) := by
  unfold s_X1_loss
  simp only [isMovement0]
  by_cases hx : x0 < 0 ∨ 3 ≤ x0
  · rw [if_pos hx]
    exact good_no h hg hn (by decide)
  · rw [if_neg hx]
    (repeat' split) <;> first | exact good_no h hg hn (by decide) | exact good_yes h hg hn (vb_mv hc h (j := x0.toNat) (q := 2) (by omega) (by decide) rfl) (VI_mv (VI_more h) (j := x0.toNat) (q := 2) (by omega) (by decide) ⟨by omega, by omega⟩ rfl)
theorem o_service (hc : c ≤ 100) (h : VI c f) (hg : VG c n g) (hn : n ≤ 6) (x0 : Int) : Good 0 c n f (s_X1_service f g n x0) := by
  unfold s_X1_service
  simp only [isMovement0, locked0]
  by_cases hx : x0 < 0 ∨ 3 ≤ x0
  · rw [if_pos hx]
    exact good_no h hg hn (by decide)
  · rw [if_neg hx]
    have hA := h.1.1
    unfold VA at hA
    have hj : x0.toNat < 3 := by omega
    by_cases hlk : f 1 = 0
    · rw [if_pos hlk]
      refine good_yes h hg hn (vb_mv hc h (j := x0.toNat) (q := 3) hj (by decide) rfl) ?_
      have e : upz (upz (upz f (21 + x0.toNat * 4 + 3) 0) (21 + x0.toNat * 4 + 1) 1) (21 + x0.toNat * 4 + 2) 0 = upz (upz (upz f (21 + x0.toNat * 4 + 1) 1) (21 + x0.toNat * 4 + 2) 0) (21 + x0.toNat * 4 + 3) 0 := by
        funext k
        unfold upz
        (repeat' split) <;> first | rfl | omega
      show VI (c + 1) (upz (upz (upz f (21 + x0.toNat * 4 + 3) 0) (21 + x0.toNat * 4 + 1) 1) (21 + x0.toNat * 4 + 2) 0)
      rw [e]
      refine VI_mv (VI_mv (VI_mv (VI_more h) (j := x0.toNat) (q := 1) hj (by decide) (Or.inr rfl) rfl) (j := x0.toNat) (q := 2) hj (by decide) ⟨by decide, by decide⟩ rfl) (j := x0.toNat) (q := 3) hj (by decide) ⟨by decide, ?_⟩ rfl
      rw [upz_n (by omega), upz_n (by omega)]
      exact hA.1.1
    · rw [if_neg hlk]
      exact good_no h hg hn (by decide)
theorem o_undo (h : VI c f) (hg : VG c n g) (hn : n ≤ 6) : Good 0 c n f (s_X1_undo f g n) := by
  unfold s_X1_undo
  by_cases h0 : 0 < (n : Int)
  · rw [if_pos h0, V_undo h]
    exact ⟨fun _ => ⟨by show (0 : Int) ≤ ((n - 1 : Nat) : Int); omega, by show ((n - 1 : Nat) : Int) ≤ 100000; omega⟩, fun z => absurd rfl z, VI_more (hg _ (by omega)), fun s hs => VI_more (hg s (by have : s < n - 1 := hs; omega)), by show n - 1 ≤ 6; omega⟩
  · rw [if_neg h0]
    exact good_no h hg hn (by decide)
theorem o_lock (hc : c ≤ 100) (h : VI c f) (hg : VG c n g) (hn : n ≤ 6) : Good (-1) c n f (s_X1_lock f g n) := by
  have hA := h.1.1
  unfold VA at hA
  have rt := r_X1_hoursToOpening f (by omega) (V_d h)
  unfold s_X1_lock
  simp only [locked0]
  have hT : ∀ T : Int, -1 ≤ T → T ≤ 30 * (c : Int) + 300 → f 1 = 0 → VI (c + 1) (upz (upz f 1 1) 2 T) := fun T h1 h2 h0 => by
    refine VI_door h ?_ (by simp [upz]) (fun k hk => by rw [upz_n (by omega), upz_n (by omega)])
    unfold VA
    simp [upz]
    omega
  by_cases hl : f 1 = 0
  · rw [if_pos hl]
    (repeat' split) <;> first | exact good_no h hg hn (by decide) | exact good_yes h hg hn ⟨by omega, by omega⟩ (hT _ (by omega) (by omega) hl)
  · rw [if_neg hl]
    exact good_no h hg hn (by decide)
theorem o_open (hc : c ≤ 100) (h : VI c f) (hg : VG c n g) (hn : n ≤ 6) : Good 0 c n f (s_X1_open f g n) := by
  have hA := h.1.1
  unfold VA at hA
  unfold s_X1_open
  simp only [locked0]
  by_cases hl : f 1 = 0
  · rw [if_pos hl]
    exact good_no h hg hn (by decide)
  · rw [if_neg hl]
    by_cases ho : s_X1_hoursToOpen f (-1) = 0
    · rw [if_pos ho]
      unfold s_X1_leaveOpen s_X1_countOpening s_X1_latenessAfter
      have hcase : ∀ p : Nat, (p = 7 ∨ p = 8 ∨ p = 9) → VI (c + 1) (upz (upz (upz (upz (upz (upz f 6 ((f 6) + 1)) p ((f p) + 1)) 1 0) 2 (-1)) 3 0) 4 0) := fun p hp => by
        refine VI_door h ?_ ?_ (fun k hk => by rw [upz_n (by omega), upz_n (by omega), upz_n (by omega), upz_n (by omega), upz_n (by omega), upz_n (by omega)])
        · rcases hp with rfl | rfl | rfl <;> unfold VA <;> simp [upz] <;> omega
        · rw [upz_n (by omega), upz_n (by omega), upz_n (by omega), upz_n (by omega), upz_n (by omega), upz_n (by omega)]
      (repeat' split) <;> first | omega | exact good_yes h hg hn (by decide) (hcase 7 (by decide)) | exact good_yes h hg hn (by decide) (hcase 8 (by decide)) | exact good_yes h hg hn (by decide) (hcase 9 (by decide))
    · rw [if_neg ho]
      unfold s_X1_countEarlyTry
      by_cases ht : f 3 + 1 < f 11
      · rw [if_pos ht]
        refine good_yes h hg hn (by decide) (VI_door h ?_ ?_ (fun k hk => by rw [upz_n (by omega), upz_n (by omega)]))
        · unfold VA
          simp [upz]
          omega
        · rw [upz_n (by omega), upz_n (by omega)]
      · rw [if_neg ht]
        refine good_yes h hg hn (by decide) (VI_door h ?_ ?_ (fun k hk => by rw [upz_n (by omega), upz_n (by omega), upz_n (by omega), upz_n (by omega)]))
        · unfold VA
          simp [upz]
          omega
        · rw [upz_n (by omega), upz_n (by omega), upz_n (by omega), upz_n (by omega)]
theorem o_drill (hc : c ≤ 100) (h : VI c f) (hg : VG c n g) (hn : n ≤ 6) : Good 0 c n f (s_X1_drill f g n) := by
  have hA := h.1.1
  unfold VA at hA
  unfold s_X1_drill
  simp only [locked0]
  by_cases hl : f 1 = 0
  · rw [if_pos hl]
    exact good_no h hg hn (by decide)
  · rw [if_neg hl, show 3 + 1 - 0 = 4 by rfl, drill1_at]
    have hd : VI c (dr1 (dr1 (dr1 f 0) 1) 2) := VI_dr (VI_dr (VI_dr h (by decide)) (by decide)) (by decide)
    have lo1 : ∀ k : Nat, k < 21 → dr1 (dr1 (dr1 f 0) 1) 2 k = f k := fun k hk => by rw [dr1_low _ _ hk, dr1_low _ _ hk, dr1_low _ _ hk]
    have e10 : s_X1_leaveOpen (dr1 (dr1 (dr1 f 0) 1) 2) 10 = f 10 := by
      unfold s_X1_leaveOpen
      rw [upz_n (by decide), upz_n (by decide), upz_n (by decide), upz_n (by decide), lo1 10 (by decide)]
    rw [e10]
    refine good_yes h hg hn ⟨by omega, by omega⟩ (VI_door hd ?_ ?_ (fun k hk => ?_))
    · unfold VA s_X1_leaveOpen
      simp [upz, lo1]
      omega
    · unfold s_X1_leaveOpen
      rw [upz_n (by decide), upz_n (by decide), upz_n (by decide), upz_n (by decide), upz_n (by decide)]
    · unfold s_X1_leaveOpen
      rw [upz_n (by omega), upz_n (by omega), upz_n (by omega), upz_n (by omega), upz_n (by omega)]
theorem down_b (f : Nat → Int) : ∀ (k i : Nat) (v : Int), 0 ≤ v → v ≤ (i : Int) → i + k ≤ 4 → 0 ≤ s_X1_movementsRunDown_lp4 f k i v ∧ s_X1_movementsRunDown_lp4 f k i v ≤ 4 := by
  intro k
  induction k with
  | zero =>
    intro i v h1 h2 h3
    unfold s_X1_movementsRunDown_lp4
    decide
  | succ k ih =>
    intro i v h1 h2 h3
    rw [s_X1_movementsRunDown_lp4]
    split
    · omega
    · split
      · exact ih _ _ (by omega) (by omega) (by omega)
      · exact ih _ _ (by omega) (by omega) (by omega)
theorem pass_good (h : VI c f) (hg : VG c n g) (hn : n ≤ 6) {x0 : Int} (hx : 1 ≤ x0) (hx2 : x0 ≤ 30) : ∀ (k i : Nat) (f9 : Nat → Int), i + k = x0.toNat + 1 → i ≤ x0.toNat → VI (c + 1) f9 → f9 0 = f 0 + (i : Int) → Good 0 c n f (s_X1_pass_lp51 f g n x0 k i f9) := by
  have hA := h.1.1
  unfold VA at hA
  intro k
  induction k with
  | zero => intro i f9 h1 h2; exact absurd h1 (by omega)
  | succ k ih =>
    intro i f9 h1 h2 hr he
    rw [s_X1_pass_lp51]
    by_cases h3 : x0 ≤ (i : Int)
    · rw [if_pos h3]
      have hb := down_b f9 (3 + 1 - 0) 0 0 (by decide) (by decide) (by decide)
      exact good_yes h hg hn (r := s_X1_movementsRunDown f9) ⟨hb.1, Int.le_trans hb.2 (by decide)⟩ hr
    · rw [if_neg h3]
      obtain ⟨a, b⟩ := VI_hour hr (by omega)
      exact ih (i + 1) _ (by omega) (by omega) a (by rw [b, he]; omega)
theorem o_pass (hc : c ≤ 100) (h : VI c f) (hg : VG c n g) (hn : n ≤ 6) (x0 : Int) (hx : 1 ≤ x0) (hx2 : x0 ≤ 30) : Good 0 c n f (s_X1_pass f g n x0) ∧ (s_X1_pass f g n x0).1 = 0 := by
  have hA := h.1.1
  unfold VA at hA
  have e : s_X1_pass f g n x0 = s_X1_pass_lp51 f g n x0 (x0.toNat + 1 - 0) 0 f := by
    unfold s_X1_pass
    rw [if_neg (show ¬ x0 < 1 by omega), if_pos (show x0 ≤ 200 by omega), if_pos (show f 0 + x0 ≤ 99999 by omega)]
  rw [e]
  refine ⟨pass_good h hg hn hx hx2 _ _ _ (by omega) (by omega) (VI_more h) (by omega), ?_⟩
  have z : ∀ (k i : Nat) (f9 : Nat → Int), (s_X1_pass_lp51 f g n x0 k i f9).1 = 0 := by
    intro k
    induction k with
    | zero => intro i f9; rfl
    | succ k ih =>
      intro i f9
      unfold s_X1_pass_lp51
      split
      · rfl
      · exact ih _ _
  exact z _ _ _
/-! where nothing is refused -/
theorem z_opening (x0 x1 : Int) (h0 : 0 ≤ x0 ∧ x0 < 7) (h1 : -1 ≤ x1 ∧ x1 ≤ 23) : (s_X1_opening f g n x0 x1).1 = 0 := by
  unfold s_X1_opening
  simp only [isDay0]
  (repeat' split) <;> first | rfl | (exfalso; omega)
theorem z_set (x0 x1 : Int) (h0 : 0 ≤ x0 ∧ x0 < 3) (h1 : xleast x0.toNat ≤ x1 ∧ x1 ≤ xmost x0.toNat) : (s_X1_set f g n x0 x1).1 = 0 := by
  unfold s_X1_set
  simp only [isSetting0]
  (repeat' split) <;> first | rfl | (exfalso; omega)
theorem z_fault (x0 x1 : Int) (h0 : 0 ≤ x0 ∧ x0 < 3) : (s_X1_fault f g n x0 x1).1 = 0 := by
  unfold s_X1_fault
  simp only [isMovement0]
  (repeat' split) <;> first | rfl | (exfalso; omega)
theorem z_loss (x0 x1 : Int) (h0 : 0 ≤ x0 ∧ x0 < 3) (h1 : 0 ≤ x1 ∧ x1 ≤ 20) : (s_X1_loss f g n x0 x1).1 = 0 := by
  unfold s_X1_loss
  simp only [isMovement0]
  (repeat' split) <;> first | rfl | (exfalso; omega)
theorem z_wind (x0 x1 : Int) (h0 : 0 ≤ x0 ∧ x0 < 3) (h1 : 1 ≤ x1 ∧ x1 ≤ 200) : (s_X1_wind f g n x0 x1).1 = 0 ∨ (s_X1_wind f g n x0 x1).1 = 3 := by
  unfold s_X1_wind
  simp only [isMovement0, areWinding0]
  (repeat' split) <;> first | exact Or.inl rfl | exact Or.inr rfl | (exfalso; omega)
theorem z_service (x0 : Int) (h0 : 0 ≤ x0 ∧ x0 < 3) : (s_X1_service f g n x0).1 = 0 ∨ (s_X1_service f g n x0).1 = 3 := by
  unfold s_X1_service
  simp only [isMovement0]
  (repeat' split) <;> first | exact Or.inl rfl | exact Or.inr rfl | (exfalso; omega)
theorem z_lock : (s_X1_lock f g n).1 = 0 ∨ (s_X1_lock f g n).1 = 3 := by
  unfold s_X1_lock
  (repeat' split) <;> first | exact Or.inl rfl | exact Or.inr rfl
theorem z_open : (s_X1_open f g n).1 = 0 ∨ (s_X1_open f g n).1 = 3 := by
  unfold s_X1_open
  (repeat' split) <;> first | exact Or.inl rfl | exact Or.inr rfl
theorem z_undo : (s_X1_undo f g n).1 = 0 ∨ (s_X1_undo f g n).1 = 3 := by
  unfold s_X1_undo
  (repeat' split) <;> first | exact Or.inl rfl | exact Or.inr rfl
theorem z_drill : (s_X1_drill f g n).1 = 0 ∨ (s_X1_drill f g n).1 = 3 := by
  unfold s_X1_drill
  split
  · exact Or.inr rfl
  · rw [show 3 + 1 - 0 = 4 by rfl, drill1_at]
    exact Or.inl rfl
end OPS
