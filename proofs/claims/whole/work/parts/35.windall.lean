/-! a text wound: the same on both sides -/
theorem hto_c {f f' : Nat → Int} (e0 : f' 0 = f 0) (e : ∀ k : Nat, 14 ≤ k → k < 21 → f' k = f k) : s_X1_hoursToOpening f' = s_X1_hoursToOpening f := by
  have g : ∀ k i : Nat, s_X1_hoursToOpening_lp2 f' k i = s_X1_hoursToOpening_lp2 f k i := by
    intro k
    induction k with
    | zero => intro i; rfl
    | succ k ih =>
      intro i
      rw [s_X1_hoursToOpening_lp2, s_X1_hoursToOpening_lp2, e0, ih, e _ (by omega) (by omega)]
  exact g _ _
/-- whether a part can be wound -/
def fit1 (f kd sg nb : Nat → Int) (T : Int) (i : Nat) : Int := if s_X0_winds kd i = 0 then 1 else if s_X1_goes f i = 0 then 0 else if s_X1_areWindingHours (s_X0_hours kd sg nb i T) = 0 then 0 else 1
theorem can_step (f kd sg nb : Nat → Int) (T : Int) (k i : Nat) (hi : i < 3) : s_X1_canWindAll_lp2 f kd sg nb T (k + 1) i = if fit1 f kd sg nb T i = 0 then 0 else s_X1_canWindAll_lp2 f kd sg nb T k (i + 1) := by
  rw [s_X1_canWindAll_lp2, if_neg (by omega)]
  unfold fit1
  by_cases h1 : s_X0_winds kd i = 0
  · rw [if_pos h1, if_pos h1, if_neg (by decide)]
  · rw [if_neg h1, if_neg h1]
    by_cases h2 : s_X1_goes f i = 0
    · rw [if_pos h2, if_pos h2, if_pos rfl]
    · rw [if_neg h2, if_neg h2]
      by_cases h3 : s_X1_areWindingHours (s_X0_hours kd sg nb i T) = 0
      · rw [if_pos h3, if_pos h3, if_pos rfl]
      · rw [if_neg h3, if_neg h3, if_neg (by decide)]
theorem can_at (f kd sg nb : Nat → Int) (T : Int) : s_X1_canWindAll f kd sg nb T = if fit1 f kd sg nb T 0 = 0 then 0 else if fit1 f kd sg nb T 1 = 0 then 0 else if fit1 f kd sg nb T 2 = 0 then 0 else 1 := by
  unfold s_X1_canWindAll
  rw [show 3 + 1 - 0 = 4 by rfl, can_step _ _ _ _ _ _ _ (by decide), can_step _ _ _ _ _ _ _ (by decide), can_step _ _ _ _ _ _ _ (by decide)]
  rfl
section WALL
variable {c n len : Nat} {f1 f2 g1 g2 b kd sg nb so ma : Nat → Int}
theorem may_step (h : RI c f1 f2) {i : Nat} (hi : i < 3) (hs : Same1 kd sg nb so ma i) (k : Nat) (v : Int) : s_X2_mayWind_lp18 f2 so ma (k + 1) i v = s_X2_mayWind_lp18 f2 so ma k (i + 1) (if v = 0 then 0 else fit1 f1 kd sg nb (s_X1_hoursToOpening f1) i) := by
  obtain ⟨et, rt⟩ := opening_eq h
  obtain ⟨s1, s2, s3, s4⟩ := hs
  rw [s_X2_mayWind_lp18, if_neg (by omega), goes_eq h hi]
  unfold fit1 s_X0_winds s_X0_hours s_X2_woundBy
  simp only [in0, areWinding0]
  rw [← et]
  generalize s_X1_hoursToOpening f1 = T at rt ⊢
  have hg : s_X1_goes f1 i = 0 ∨ s_X1_goes f1 i = 1 := b_X1_goes f1 i
  by_cases hv : v = 0
  · simp only [if_pos hv]
    (repeat' split) <;> rfl
  · simp only [if_neg hv]
    congr 1
    rcases s2 with s2 | s2 | s2
    · have hk : kd i = 1 := by omega
      simp only [s2, hk, if_true, if_false, reduceIte, Int.reduceEq]
      (repeat' split) <;> first | rfl | omega
    · have hk : kd i = 2 := by omega
      have e := s3 s2
      simp only [s2, hk, e, if_true, if_false, reduceIte, Int.reduceEq]
      (repeat' split) <;> first | rfl | omega
    · have hk : kd i = 3 := by omega
      have e := s4 s2
      simp only [s2, hk, e, if_true, if_false, reduceIte, Int.reduceEq]
      (repeat' split) <;> first | rfl | omega
theorem may_end (k : Nat) (v : Int) : s_X2_mayWind_lp18 f2 so ma (k + 1) 3 v = v := by
  rw [s_X2_mayWind_lp18, if_pos (by decide)]
theorem may_at (h : RI c f1 f2) (hs : ∀ k : Nat, k < 3 → Same1 kd sg nb so ma k) : s_X2_mayWind f2 so ma = 0 ↔ (f1 1 ≠ 0 ∨ s_X1_canWindAll f1 kd sg nb (s_X1_hoursToOpening f1) = 0) := by
  have hl := RI_lk h
  have e : ∀ v : Int, s_X2_mayWind_lp18 f2 so ma 4 0 v = if (if (if v = 0 then 0 else fit1 f1 kd sg nb (s_X1_hoursToOpening f1) 0) = 0 then 0 else fit1 f1 kd sg nb (s_X1_hoursToOpening f1) 1) = 0 then 0 else fit1 f1 kd sg nb (s_X1_hoursToOpening f1) 2 := fun v => by
    rw [may_step h (show 0 < 3 by decide) (hs 0 (by decide)) 3, may_step h (show 0 + 1 < 3 by decide) (hs 1 (by decide)) 2, may_step h (show 0 + 1 + 1 < 3 by decide) (hs 2 (by decide)) 1]
    exact may_end 0 _
  have hf : ∀ i : Nat, fit1 f1 kd sg nb (s_X1_hoursToOpening f1) i = 0 ∨ fit1 f1 kd sg nb (s_X1_hoursToOpening f1) i = 1 := fun i => by
    unfold fit1
    (repeat' split) <;> omega
  unfold s_X2_mayWind
  rw [show 3 + 1 - 0 = 4 by rfl, e, e, can_at]
  have h0 := hf 0
  have h1 := hf 1
  have h2 := hf 2
  generalize fit1 f1 kd sg nb (s_X1_hoursToOpening f1) 0 = x at h0 ⊢
  generalize fit1 f1 kd sg nb (s_X1_hoursToOpening f1) 1 = y at h1 ⊢
  generalize fit1 f1 kd sg nb (s_X1_hoursToOpening f1) 2 = z at h2 ⊢
  rcases h0 with rfl | rfl <;> rcases h1 with rfl | rfl <;> rcases h2 with rfl | rfl <;> simp <;> omega
/-- one part wound -/
def wd1 (f9 kd sg nb : Nat → Int) (T : Int) (i : Nat) : Nat → Int := if s_X0_winds kd i = 0 then f9 else upz f9 (21 + i * 4 + 0) (s_X0_hours kd sg nb i T)
def wd2 (f9 so ma : Nat → Int) (i : Nat) : Nat → Int := if so i ≤ 0 then f9 else upz f9 (21 + 4 * i) (s_X2_woundBy f9 so ma i)
theorem wd_eq (h : RI c f1 f2) {i : Nat} (hi : i < 3) (hs : Same1 kd sg nb so ma i) (hf : fit1 f1 kd sg nb (s_X1_hoursToOpening f1) i ≠ 0) {f9 f9' : Nat → Int} (h9 : RI c f9 f9') (e0 : f9 0 = f1 0) (e1 : ∀ k : Nat, 14 ≤ k → k < 21 → f9 k = f1 k) (eg : s_X1_goes f9 i = s_X1_goes f1 i) : RI c (wd1 f9 kd sg nb (s_X1_hoursToOpening f1) i) (wd2 f9' so ma i) ∧ (s_X0_winds kd i = 0 ↔ so i ≤ 0) := by
  obtain ⟨et, rt⟩ := opening_eq h9
  have eT : s_X1_hoursToOpening f9 = s_X1_hoursToOpening f1 := hto_c e0 e1
  obtain ⟨s1, s2, s3, s4⟩ := hs
  have hwi : s_X0_winds kd i = 0 ↔ so i ≤ 0 := by
    unfold s_X0_winds
    split <;> omega
  refine ⟨?_, hwi⟩
  unfold wd1 wd2
  by_cases hw : s_X0_winds kd i = 0
  · rw [if_pos hw, if_pos (hwi.mp hw)]
    exact h9
  · have hsi : ¬ so i ≤ 0 := fun z => hw (hwi.mpr z)
    rw [if_neg hw, if_neg hsi]
    unfold fit1 at hf
    rw [if_neg hw] at hf
    have ha : ¬ s_X1_areWindingHours (s_X0_hours kd sg nb i (s_X1_hoursToOpening f1)) = 0 := fun z => by
      rw [if_pos z] at hf
      revert hf
      split <;> decide
    rw [areWinding0] at ha
    have ev : s_X2_woundBy f9' so ma i = s_X0_hours kd sg nb i (s_X1_hoursToOpening f1) := by
      unfold s_X2_woundBy s_X0_hours
      rw [← et, eT]
      unfold s_X0_hours at ha
      rcases s2 with s2 | s2 | s2
      · omega
      · rw [if_neg (by omega), if_pos (by omega)]
        exact s3 s2
      · have e := s4 s2
        rw [if_neg (show ¬ kd i = 2 by omega)] at ha ⊢
        rw [if_pos s2]
        by_cases hT : s_X1_hoursToOpening f1 = -1
        · rw [if_pos hT] at ha
          omega
        · rw [if_neg hT, e]
    rw [ev]
    exact RI_mv h9 (j := i) (q := 0) hi (by decide) ⟨by omega, by omega⟩ rfl rfl
theorem wd1_low (f9 : Nat → Int) (T : Int) (i : Nat) {k : Nat} (hk : k < 21) : wd1 f9 kd sg nb T i k = f9 k := by
  unfold wd1
  split
  · rfl
  · exact upz_n (by omega)
theorem wd1_goes (f9 : Nat → Int) (T : Int) {i j : Nat} (hi : i < 3) (hj : j < 3) : s_X1_goes (wd1 f9 kd sg nb T i) j = s_X1_goes f9 j := by
  unfold s_X1_goes wd1
  split
  · rfl
  · rw [upz_n (by omega)]
theorem wl1_step {k i : Nat} {f9 : Nat → Int} {v : Int} (hi : i < 3) (kd0 sg0 nb0 : Nat → Int) : s_X1_windAll_lp69 f1 g1 n b len kd0 sg0 nb0 (k + 1) i f9 v = s_X1_windAll_lp69 f1 g1 n b len kd0 sg0 nb0 k (i + 1) (wd1 f9 (s_X1_readBuffer b len kd0 sg0 nb0).2.1 (s_X1_readBuffer b len kd0 sg0 nb0).2.2.1 (s_X1_readBuffer b len kd0 sg0 nb0).2.2.2.1 (s_X1_hoursToOpening f1) i) (if s_X0_winds (s_X1_readBuffer b len kd0 sg0 nb0).2.1 i = 0 then v else v + 1) := by
  rw [s_X1_windAll_lp69, if_neg (by omega)]
  unfold wd1
  split <;> rfl
theorem wl1_end {k : Nat} {f9 : Nat → Int} {v : Int} (kd0 sg0 nb0 : Nat → Int) : s_X1_windAll_lp69 f1 g1 n b len kd0 sg0 nb0 (k + 1) 3 f9 v = (0, v, f9, (s_X1_save f1 g1 n).1, (s_X1_save f1 g1 n).2, 0, (s_X1_readBuffer b len kd0 sg0 nb0).2.1, (s_X1_readBuffer b len kd0 sg0 nb0).2.2.1, (s_X1_readBuffer b len kd0 sg0 nb0).2.2.2.1, (s_X1_readBuffer b len kd0 sg0 nb0).2.2.2.2) := by
  rw [s_X1_windAll_lp69, if_pos (by decide)]
theorem wl2_step {k i : Nat} {f9 : Nat → Int} {v : Int} (hi : i < 3) (va0 : Int) (so0 ma0 : Nat → Int) : s_X2_windAll_lp44 f2 g2 n b len va0 so0 ma0 (k + 1) i f9 v = s_X2_windAll_lp44 f2 g2 n b len va0 so0 ma0 k (i + 1) (wd2 f9 (s_X2_isText b len va0 so0 ma0).2.2.2.2.1 (s_X2_isText b len va0 so0 ma0).2.2.2.2.2 i) (if (s_X2_isText b len va0 so0 ma0).2.2.2.2.1 i ≤ 0 then v else v + 1) := by
  rw [s_X2_windAll_lp44, if_neg (by omega)]
  unfold wd2
  split <;> rfl
theorem wl2_end {k : Nat} {f9 : Nat → Int} {v : Int} (va0 : Int) (so0 ma0 : Nat → Int) : s_X2_windAll_lp44 f2 g2 n b len va0 so0 ma0 (k + 1) 3 f9 v = (v, 0, f9, (s_X2_saves f2 g2 n).1, (s_X2_saves f2 g2 n).2, 0, (s_X2_isText b len va0 so0 ma0).2.1, (s_X2_isText b len va0 so0 ma0).2.2.1, (s_X2_isText b len va0 so0 ma0).2.2.2.1, (s_X2_isText b len va0 so0 ma0).2.2.2.2.1, (s_X2_isText b len va0 so0 ma0).2.2.2.2.2) := by
  rw [s_X2_windAll_lp44, if_pos (by decide)]
/-- an answer of windAll on both sides, and what they hold then -/
def AgreeW (c len : Nat) (km : Int → Int) (A : Int × Int × (Nat → Int) × (Nat → Int) × Nat × Nat × (Nat → Int) × (Nat → Int) × (Nat → Int) × Nat) (B : Int × Int × (Nat → Int) × (Nat → Int) × Nat × Nat × Nat × Int × Int × (Nat → Int) × (Nat → Int)) (C : Int × (Nat → Int) × (Nat → Int) × (Nat → Int) × Nat) (T : Int × Nat × Int × Int × (Nat → Int) × (Nat → Int)) : Prop :=
  Agree c km (A.1, A.2.1, A.2.2.1, A.2.2.2.1, A.2.2.2.2.1) (B.1, B.2.1, B.2.2.1, B.2.2.2.1, B.2.2.2.2.1) ∧ (A.2.2.2.2.2.1 = B.2.2.2.2.2.1 ∧ A.2.2.2.2.2.1 ≤ len) ∧ A.2.2.2.2.2.2 = C.2 ∧ B.2.2.2.2.2.2 = T.2
theorem a_windAll (h : RI c f1 f2) (hg : RG c n g1 g2) (hn : n ≤ 6) (kd0 sg0 nb0 : Nat → Int) (va0 : Int) (so0 ma0 : Nat → Int) : AgreeW (c + 1) len km_windAll (s_X1_windAll f1 g1 n b len kd0 sg0 nb0) (s_X2_windAll f2 g2 n b len va0 so0 ma0) (s_X1_readBuffer b len kd0 sg0 nb0) (s_X2_isText b len va0 so0 ma0) := by
  have ht := text_eq (b := b) (len := len) va0 so0 ma0 kd0 sg0 nb0
  have hl := RI_lk h
  unfold s_X1_windAll s_X2_windAll
  rcases ht with ⟨t1, ⟨h1, h2, h3⟩ | ⟨h1, h2, h3⟩⟩ | ⟨t1, h2, h3, hs⟩
  · rw [if_neg (show ¬ (s_X1_readBuffer b len kd0 sg0 nb0).1 < (len : Int) by omega), if_pos h3, if_pos t1]
    exact ⟨agree_no (a := 2) (t := 1) (r := 0) h hg hn (by decide) rfl, ⟨rfl, Nat.le_refl _⟩, rfl, rfl⟩
  · rw [if_pos (show (s_X1_readBuffer b len kd0 sg0 nb0).1 < (len : Int) by omega), if_pos t1]
    exact ⟨agree_no (a := 2) (t := 1) (r := 0) h hg hn (by decide) rfl, ⟨rfl, Nat.le_refl _⟩, rfl, rfl⟩
  · rw [if_neg (show ¬ (s_X1_readBuffer b len kd0 sg0 nb0).1 < (len : Int) by omega), if_neg (show ¬ s_X0_areComplete (s_X1_readBuffer b len kd0 sg0 nb0).2.1 (s_X1_readBuffer b len kd0 sg0 nb0).2.2.1 (s_X1_readBuffer b len kd0 sg0 nb0).2.2.2.1 (s_X1_readBuffer b len kd0 sg0 nb0).2.2.2.2 = 0 by omega), if_neg (show ¬ (s_X2_isText b len va0 so0 ma0).1 = 0 by omega)]
    have hmay := may_at h hs
    simp only [locked0]
    by_cases hlk : f1 1 = 0
    · rw [if_pos hlk]
      by_cases hcan : s_X1_canWindAll f1 (s_X1_readBuffer b len kd0 sg0 nb0).2.1 (s_X1_readBuffer b len kd0 sg0 nb0).2.2.1 (s_X1_readBuffer b len kd0 sg0 nb0).2.2.2.1 (s_X1_hoursToOpening f1) = 0
      · rw [if_pos hcan, if_pos (hmay.mpr (Or.inr hcan))]
        exact ⟨agree_no (a := 3) (t := 2) (r := 0) h hg hn (by decide) rfl, ⟨rfl, Nat.le_refl _⟩, rfl, rfl⟩
      · rw [if_neg hcan, if_neg (fun z => by rcases hmay.mp z with z | z; exact z hlk; exact hcan z)]
        rw [can_at] at hcan
        have hf : ∀ i : Nat, i < 3 → fit1 f1 (s_X1_readBuffer b len kd0 sg0 nb0).2.1 (s_X1_readBuffer b len kd0 sg0 nb0).2.2.1 (s_X1_readBuffer b len kd0 sg0 nb0).2.2.2.1 (s_X1_hoursToOpening f1) i ≠ 0 := fun i hi z => by
          rcases (show i = 0 ∨ i = 1 ∨ i = 2 by omega) with rfl | rfl | rfl
          · rw [if_pos z] at hcan
            exact hcan rfl
          · rw [if_pos z] at hcan
            split at hcan <;> exact hcan rfl
          · rw [if_pos z] at hcan
            split at hcan
            · exact hcan rfl
            · split at hcan <;> exact hcan rfl
        rw [show 3 + 1 - 0 = 4 by rfl, wl1_step (by decide), wl1_step (by decide), wl1_step (by decide), wl2_step (by decide), wl2_step (by decide), wl2_step (by decide)]
        rw [show ∀ (f9 : Nat → Int) (v : Int), s_X1_windAll_lp69 f1 g1 n b len kd0 sg0 nb0 1 (0 + 1 + 1 + 1) f9 v = s_X1_windAll_lp69 f1 g1 n b len kd0 sg0 nb0 (0 + 1) 3 f9 v from fun _ _ => rfl, show ∀ (f9 : Nat → Int) (v : Int), s_X2_windAll_lp44 f2 g2 n b len va0 so0 ma0 1 (0 + 1 + 1 + 1) f9 v = s_X2_windAll_lp44 f2 g2 n b len va0 so0 ma0 (0 + 1) 3 f9 v from fun _ _ => rfl, wl1_end, wl2_end]
        generalize (s_X1_readBuffer b len kd0 sg0 nb0) = C at hs hf ⊢
        generalize (s_X2_isText b len va0 so0 ma0) = T at hs ⊢
        obtain ⟨r0, w0⟩ := wd_eq h (i := 0) (by decide) (hs 0 (by decide)) (hf 0 (by decide)) h rfl (fun _ _ _ => rfl) rfl
        obtain ⟨r1, w1⟩ := wd_eq h (i := 1) (by decide) (hs 1 (by decide)) (hf 1 (by decide)) r0 (wd1_low _ _ _ (by decide)) (fun k _ h2 => wd1_low _ _ _ h2) (wd1_goes _ _ (by decide) (by decide))
        obtain ⟨r2, w2⟩ := wd_eq h (i := 2) (by decide) (hs 2 (by decide)) (hf 2 (by decide)) r1 ((wd1_low _ _ _ (by decide)).trans (wd1_low _ _ _ (by decide))) (fun k _ h2 => (wd1_low _ _ _ h2).trans (wd1_low _ _ _ h2)) ((wd1_goes _ _ (by decide) (by decide)).trans (wd1_goes _ _ (by decide) (by decide)))
        refine ⟨agree_yes h hg hn ?_ rfl (RI_more r2), ⟨rfl, Nat.zero_le _⟩, rfl, rfl⟩
        simp only [w0, w1, w2]
    · rw [if_neg hlk, if_pos (hmay.mpr (Or.inl hlk))]
      exact ⟨agree_no (a := 3) (t := 2) (r := 0) h hg hn (by decide) rfl, ⟨rfl, Nat.le_refl _⟩, rfl, rfl⟩
end WALL
