/-! what holds of the state after c turns -/
def VA (c : Nat) (f : Nat → Int) : Prop := (0 ≤ f 0 ∧ f 0 ≤ 30 * (c : Int)) ∧ (f 1 = 0 ∨ f 1 = 1) ∧ (-1 ≤ f 2 ∧ f 2 ≤ 30 * (c : Int) + 300) ∧ (0 ≤ f 3 ∧ f 3 ≤ 8) ∧ (0 ≤ f 4 ∧ f 4 ≤ f 0 + 24) ∧ (f 1 = 0 → f 2 = -1 ∧ f 3 = 0 ∧ f 4 = 0) ∧ (f 3 ≤ f 5 ∧ f 5 ≤ (c : Int)) ∧ f 6 = f 7 + f 8 + f 9 ∧ (0 ≤ f 7 ∧ 0 ≤ f 8 ∧ 0 ≤ f 9) ∧ (0 ≤ f 10 ∧ f 6 + f 10 ≤ (c : Int)) ∧ (1 ≤ f 11 ∧ f 11 ≤ 9) ∧ (1 ≤ f 12 ∧ f 12 ≤ 24) ∧ (10 ≤ f 13 ∧ f 13 ≤ 5000)
def VT (f : Nat → Int) : Prop := ∀ k : Nat, 33 ≤ k → f k = 0
def VI (c : Nat) (f : Nat → Int) : Prop := (VA c f ∧ InvD f ∧ InvM f) ∧ VT f
def VG (c n : Nat) (g : Nat → Int) : Prop := ∀ s : Nat, s < n → VI c (blk g s)
theorem VI_more {c : Nat} {f : Nat → Int} (h : VI c f) : VI (c + 1) f := by
  refine ⟨⟨?_, h.1.2⟩, h.2⟩
  have hA := h.1.1
  unfold VA at hA ⊢
  omega
theorem VG_more {c n : Nat} {g : Nat → Int} (h : VG c n g) : VG (c + 1) n g := fun s hs => VI_more (h s hs)
theorem V_rng {c : Nat} (hc : c ≤ 100) {f : Nat → Int} (h : VI c f) : rng f := fun k => by
  obtain ⟨⟨hA, hD, hM⟩, hT⟩ := h
  by_cases h33 : 33 ≤ k
  · have := hT k h33
    omega
  · unfold VA at hA
    unfold InvD dy1 at hD
    unfold InvM mv1 at hM
    rcases (show k = 0 ∨ k = 1 ∨ k = 2 ∨ k = 3 ∨ k = 4 ∨ k = 5 ∨ k = 6 ∨ k = 7 ∨ k = 8 ∨ k = 9 ∨ k = 10 ∨ k = 11 ∨ k = 12 ∨ k = 13 ∨ k = 14 ∨ k = 15 ∨ k = 16 ∨ k = 17 ∨ k = 18 ∨ k = 19 ∨ k = 20 ∨ k = 21 ∨ k = 22 ∨ k = 23 ∨ k = 24 ∨ k = 25 ∨ k = 26 ∨ k = 27 ∨ k = 28 ∨ k = 29 ∨ k = 30 ∨ k = 31 ∨ k = 32 by omega) with rfl | rfl | rfl | rfl | rfl | rfl | rfl | rfl | rfl | rfl | rfl | rfl | rfl | rfl | rfl | rfl | rfl | rfl | rfl | rfl | rfl | rfl | rfl | rfl | rfl | rfl | rfl | rfl | rfl | rfl | rfl | rfl | rfl <;> omega
theorem V_mvB {c : Nat} {f : Nat → Int} (h : VI c f) : mvB f (30 * (c : Int)) := fun j hj => by
  have h1 := mv_at h.1.2.2 hj
  have hA := h.1.1
  unfold mv1 at h1
  unfold VA at hA
  exact ⟨h1.1, h1.2.1, h1.2.2.1, h1.2.2.2.1, by omega⟩
theorem V_mvs {c : Nat} (hc : c ≤ 100) {f : Nat → Int} (h : VI c f) : mvs f := mvB_mono (V_mvB h) (by omega)
theorem V_d {c : Nat} {f : Nat → Int} (h : VI c f) : ∀ k : Nat, 14 ≤ k → k < 21 → -1 ≤ f k ∧ f k ≤ 23 := fun k h1 h2 => dy_at h.1.2.1 h1 h2
theorem V_cut {c : Nat} {f : Nat → Int} (h : VI c f) : cut f = f := by
  funext k
  unfold cut
  by_cases hk : k < 33
  · rw [if_pos hk]
  · rw [if_neg hk, h.2 k (by omega)]
theorem VG_save {c n : Nat} {f g : Nat → Int} (h : VI c f) (hg : VG c n g) (hn : n ≤ 6) : VG c (nx n) (s_X1_save f g n).1 := fun s hs => by
  rw [save1_at _ _ hn hs]
  by_cases h1 : s + 1 = nx n
  · rw [if_pos h1, V_cut h]
    exact h
  · rw [if_neg h1]
    refine hg _ ?_
    unfold nx at hs h1
    by_cases h6 : n < 6
    · rw [if_pos h6]
      rw [if_pos h6] at hs h1
      omega
    · rw [if_neg h6]
      rw [if_neg h6] at hs h1
      omega
theorem V_undo {c : Nat} {f : Nat → Int} (h : VI c f) (g : Nat → Int) (n : Nat) : va_cpy g f ((n - 1) * 33) 0 33 = blk g (n - 1) := by
  funext k
  unfold va_cpy blk
  by_cases hk : k < 33
  · rw [if_pos hk, if_pos (by omega)]
    exact congrArg _ (by omega)
  · rw [if_neg hk, if_neg (by omega), h.2 k (by omega)]
theorem VA_c {c : Nat} {f f' : Nat → Int} (h : VA c f) (e : ∀ k : Nat, k < 14 → f' k = f k) : VA c f' := by
  unfold VA at h ⊢
  rw [e 0 (by decide), e 1 (by decide), e 2 (by decide), e 3 (by decide), e 4 (by decide), e 5 (by decide), e 6 (by decide), e 7 (by decide), e 8 (by decide), e 9 (by decide), e 10 (by decide), e 11 (by decide), e 12 (by decide), e 13 (by decide)]
  exact h
theorem VT_up {f : Nat → Int} (h : VT f) {p : Nat} (hp : p < 33) (v : Int) : VT (upz f p v) := fun k hk => by
  rw [upz_n (by omega)]
  exact h k hk
theorem VI_day {c : Nat} {f : Nat → Int} (h : VI c f) {d : Nat} (hd : d < 7) {v : Int} (hv : dy1 v) : VI c (upz f (14 + d) v) := by
  obtain ⟨⟨hA, hD, hM⟩, hT⟩ := h
  refine ⟨⟨VA_c hA (fun k hk => upz_n (by omega)), ?_, InvM_c hM (upz_n (by omega)) (fun k h1 h2 => upz_n (by omega))⟩, VT_up hT (by omega) _⟩
  unfold InvD dy1 at *
  rcases (show d = 0 ∨ d = 1 ∨ d = 2 ∨ d = 3 ∨ d = 4 ∨ d = 5 ∨ d = 6 by omega) with rfl | rfl | rfl | rfl | rfl | rfl | rfl <;> simp [upz] <;> omega
theorem VI_set {c : Nat} {f : Nat → Int} (h : VI c f) {d : Nat} (hd : d < 3) {v : Int} (hv : xleast d ≤ v ∧ v ≤ xmost d) : VI c (upz f (11 + d) v) := by
  obtain ⟨⟨hA, hD, hM⟩, hT⟩ := h
  refine ⟨⟨?_, InvD_c hD (fun k h1 h2 => upz_n (by omega)), InvM_c hM (upz_n (by omega)) (fun k h1 h2 => upz_n (by omega))⟩, VT_up hT (by omega) _⟩
  unfold VA xleast xmost at *
  rcases (show d = 0 ∨ d = 1 ∨ d = 2 by omega) with rfl | rfl | rfl <;> simp [upz] at hv ⊢ <;> omega
theorem VI_mv {c : Nat} {f : Nat → Int} (h : VI c f) {j q : Nat} (hj : j < 3) (hq : q < 4) {v : Int} (hv : mvOk f q v) {p1 : Nat} (e1 : p1 = 21 + j * 4 + q) : VI c (upz f p1 v) := by
  subst e1
  obtain ⟨⟨hA, hD, hM⟩, hT⟩ := h
  refine ⟨⟨VA_c hA (fun k hk => upz_n (by omega)), InvD_c hD (fun k h1 h2 => upz_n (by omega)), ?_⟩, VT_up hT (by omega) _⟩
  unfold InvM mv1 mvOk at *
  rcases (show j = 0 ∨ j = 1 ∨ j = 2 by omega) with rfl | rfl | rfl <;> rcases (show q = 0 ∨ q = 1 ∨ q = 2 ∨ q = 3 by omega) with rfl | rfl | rfl | rfl <;> simp [upz] at hv ⊢ <;> omega
/-- the numbers of the door -/
theorem VI_door {c : Nat} {f f' : Nat → Int} (h : VI c f) {c' : Nat} (hA : VA c' f') (e0 : f' 0 = f 0) (e1 : ∀ k : Nat, 14 ≤ k → f' k = f k) : VI c' f' :=
  ⟨⟨hA, InvD_c h.1.2.1 (fun k h1 _ => e1 k h1), InvM_c h.1.2.2 e0 (fun k h1 _ => e1 k (by omega))⟩, fun k hk => by rw [e1 k (by omega)]; exact h.2 k hk⟩
theorem VI_dr {c : Nat} {f : Nat → Int} (h : VI c f) {i : Nat} (hi : i < 3) : VI c (dr1 f i) :=
  VI_mv (VI_mv h (j := i) (q := 0) hi (by decide) ⟨by decide, by decide⟩ rfl) (j := i) (q := 1) hi (by decide) (Or.inl rfl) rfl
/-- hours that go by -/
theorem run_gen {f : Nat → Int} (hM : InvM f) {j : Nat} (hj : j < 3) (hs : f (21 + j * 4 + 3) < f 0) : InvM (s_X1_runHour f j) := by
  have hm := mv_at hM hj
  unfold mv1 at hm
  have hmv : ∀ (f' : Nat → Int) (q : Nat) (v : Int), InvM f' → q < 4 → mvOk f' q v → InvM (upz f' (21 + j * 4 + q) v) := fun f' q v h hq hv => by
    unfold InvM mv1 mvOk at *
    rcases (show j = 0 ∨ j = 1 ∨ j = 2 by omega) with rfl | rfl | rfl <;> rcases (show q = 0 ∨ q = 1 ∨ q = 2 ∨ q = 3 by omega) with rfl | rfl | rfl | rfl <;> simp [upz] at hv ⊢ <;> omega
  have h3 : InvM (upz f (21 + j * 4 + 3) (f (21 + j * 4 + 3) + 1)) := hmv f 3 _ hM (by decide) ⟨by omega, by omega⟩
  unfold s_X1_runHour
  by_cases hg : s_X1_goes f j = 0
  · rw [if_pos hg]
    exact hM
  · rw [if_neg hg]
    by_cases hz : f (21 + j * 4 + 0) = 0
    · rw [if_pos hz]
      exact hM
    · rw [if_neg hz]
      split
      · exact hmv _ 0 _ h3 (by decide) ⟨by omega, by omega⟩
      · exact h3
theorem VI_hour0 {c : Nat} {f : Nat → Int} (h : VI c f) (h0 : f 0 + 1 ≤ 30 * (c : Int)) : VI c (upz f 0 (f 0 + 1)) := by
  obtain ⟨⟨hA, hD, hM⟩, hT⟩ := h
  refine ⟨⟨?_, InvD_c hD (fun k h1 h2 => upz_n (by omega)), ?_⟩, VT_up hT (by omega) _⟩
  · unfold VA at *
    simp [upz]
    omega
  · unfold InvM mv1 at *
    simp [upz]
    omega
theorem VI_run {c : Nat} {f : Nat → Int} (h : VI c f) {j : Nat} (hj : j < 3) (hs : f (21 + j * 4 + 3) < f 0) : VI c (s_X1_runHour f j) := by
  refine ⟨⟨VA_c h.1.1 (fun k hk => run1_low f j (by omega)), InvD_c h.1.2.1 (fun k h1 h2 => run1_low f j (by omega)), run_gen h.1.2.2 hj hs⟩, fun k hk => ?_⟩
  have e : s_X1_runHour f j k = f k := by
    unfold s_X1_runHour
    (repeat' split) <;> first | rfl | rw [upz_n (by omega), upz_n (by omega)] | rw [upz_n (by omega)]
  rw [e]
  exact h.2 k hk
theorem VI_hour {c : Nat} {f : Nat → Int} (h : VI c f) (h0 : f 0 + 1 ≤ 30 * (c : Int)) : VI c (s_X1_passHour f) ∧ s_X1_passHour f 0 = f 0 + 1 := by
  have hz := VI_hour0 h h0
  unfold s_X1_passHour
  simp only [locked0]
  have e1 : upz f 0 (f 0 + 1) 1 = f 1 := upz_n (by decide)
  rw [e1]
  by_cases hk : f 1 = 0
  · rw [if_pos hk]
    exact ⟨hz, upz_s⟩
  · rw [if_neg hk, show 3 + 1 - 0 = 4 by rfl, pass_step _ _ _ (by decide), pass_step _ _ _ (by decide), pass_step _ _ _ (by decide), pass_end]
    have hm : ∀ j : Nat, j < 3 → f (21 + j * 4 + 3) ≤ f 0 := fun j hj => by
      have := mv_at h.1.2.2 hj
      unfold mv1 at this
      omega
    have a0 := VI_run hz (j := 0) (by decide) (by rw [upz_n (by decide), upz_s]; have := hm 0 (by decide); omega)
    have a1 := VI_run a0 (j := 1) (by decide) (by rw [run1_other _ (j := 0) (j' := 1) (by decide) (by decide), upz_n (by decide), run1_low _ _ (by decide), upz_s]; have := hm 1 (by decide); omega)
    have a2 := VI_run a1 (j := 2) (by decide) (by rw [run1_other _ (j := 1) (j' := 2) (by decide) (by decide), run1_other _ (j := 0) (j' := 2) (by decide) (by decide), upz_n (by decide), run1_low _ _ (by decide), run1_low _ _ (by decide), upz_s]; have := hm 2 (by decide); omega)
    refine ⟨a2, ?_⟩
    rw [run1_low _ _ (by decide), run1_low _ _ (by decide), run1_low _ _ (by decide), upz_s]
