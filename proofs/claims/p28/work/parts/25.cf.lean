/-! what the law asks behind each turn, of the looks' answers alone -/
def zr (M : Nat → Nat → Int) : Nat → Int
  | 0 => 0
  | j + 1 => if zr M j = 0 then (if M j 0 = 0 then 1 else 0) else 1
def nr (Dy : Nat → Int) : Nat → Int
  | 0 => 1
  | d + 1 => if nr Dy d = 0 then 0 else if Dy d = -1 then 1 else 0
theorem zr_01 (M : Nat → Nat → Int) : ∀ j : Nat, zr M j = 0 ∨ zr M j = 1 := by
  intro j
  cases j with
  | zero => exact Or.inl rfl
  | succ j =>
    unfold zr
    (repeat' split) <;> first | exact Or.inl rfl | exact Or.inr rfl
theorem nr_01 (Dy : Nat → Int) : ∀ j : Nat, nr Dy j = 0 ∨ nr Dy j = 1 := by
  intro j
  cases j with
  | zero => exact Or.inr rfl
  | succ j =>
    unfold nr
    (repeat' split) <;> first | exact Or.inl rfl | exact Or.inr rfl
theorem nr_none (Dy : Nat → Int) : ∀ k : Nat, (∀ d : Nat, d < k → Dy d = -1) → nr Dy k = 1 := by
  intro k
  induction k with
  | zero => intro _; rfl
  | succ k ih =>
    intro h
    unfold nr
    rw [ih (fun d hd => h d (by omega)), if_neg (by decide), if_pos (h k (by omega))]
theorem nr_all (Dy : Nat → Int) : ∀ k : Nat, nr Dy k ≠ 0 → ∀ d : Nat, d < k → Dy d = -1 := by
  intro k
  induction k with
  | zero => intro _ d hd; exact absurd hd (Nat.not_lt_zero d)
  | succ k ih =>
    intro h d hd
    unfold nr at h
    by_cases h0 : nr Dy k = 0
    · rw [if_pos h0] at h
      exact absurd rfl h
    · rw [if_neg h0] at h
      by_cases h1 : Dy k = -1
      · by_cases he : d = k
        · rw [he]; exact h1
        · exact ih h0 d (by omega)
      · rw [if_neg h1] at h
        exact absurd rfl h
theorem zr_3 (M : Nat → Nat → Int) : zr M 3 ≠ 0 ↔ (M 0 0 = 0 ∨ M 1 0 = 0 ∨ M 2 0 = 0) := by
  unfold zr zr zr zr
  (repeat' split) <;> omega
def CFc (C : Nat → Int) : Prop := (0 ≤ C 0 ∧ C 0 ≤ 99999) ∧ C 1 = C 0 / 24 % 7 ∧ C 2 = C 0 % 24 ∧ (C 3 = 0 ∨ C 3 = 1) ∧ (-1 ≤ C 5 ∧ C 5 ≤ 100300) ∧ (0 ≤ C 6 ∧ C 6 ≤ C 8) ∧ (0 ≤ C 7 ∧ C 7 ≤ 24) ∧ C 8 ≤ 1000 ∧ C 9 = C 10 + C 11 + C 12 ∧ (0 ≤ C 10 ∧ 0 ≤ C 11 ∧ 0 ≤ C 12) ∧ (0 ≤ C 13 ∧ C 9 + C 13 ≤ 1000)
def CFn (C : Nat → Int) (nn : Int) : Prop := (nn = 0 → 1 ≤ C 4 ∧ C 4 ≤ 168) ∧ (nn ≠ 0 → C 4 = -1)
def CFm (M : Nat → Nat → Int) (S RW : Nat → Int) (i : Nat) : Prop := (0 ≤ M i 0 ∧ M i 0 ≤ 200) ∧ (M i 1 = 0 ∨ M i 1 = 1) ∧ (0 ≤ M i 3 ∧ M i 3 ≤ 100000) ∧ (-1 ≤ M i 5 ∧ M i 5 ≤ 1000) ∧ (M i 5 = -1 ∨ M i 0 ≤ M i 5) ∧ (M i 5 = 0 → M i 0 = 0) ∧ (M i 0 = 0 → M i 5 = 0) ∧ (S 2 ≤ M i 3 → M i 4 = 1) ∧ (¬ S 2 ≤ M i 3 → M i 4 = 0) ∧ (M i 1 = 0 → M i 5 ≤ 0 ∧ RW i = -1)
def CFd (C : Nat → Int) (OI LA KM zz : Int) : Prop := (-1 ≤ OI ∧ OI ≤ 200000) ∧ (-200000 ≤ LA ∧ LA ≤ 300000) ∧ (-1 ≤ KM ∧ KM ≤ 2) ∧ (C 3 = 0 → C 5 = -1 ∧ C 6 = 0 ∧ C 7 = 0 ∧ OI = -1 ∧ LA = 0 ∧ KM = -1) ∧ (C 3 ≠ 0 → ((OI = 0 → zz ≠ 0 ∧ C 7 = 0) ∧ (zz ≠ 0 → C 7 = 0 → OI = 0)) ∧ (OI = -1 → LA = 1000) ∧ (OI = -1 ∨ C 7 ≤ OI))
def CFk (M : Nat → Nat → Int) (KM : Int) : Prop := KM = -1 ∨ M KM.toNat 1 = 1
def CFp (C : Nat → Int) (PU : UInt64) : Prop := (C 9 + C 13 ≤ 0 → Op.cmpValue (FP.dcmp PU FP.dconst1) .l = 0) ∧ ¬ Op.cmpValue (FP.dcmp PU FP.dconst0) .l < 0 ∧ ¬ 0 < Op.cmpValue (FP.dcmp PU FP.dconst1) .g
/-! the looks of the class have all of that -/
theorem nm_at (f : Nat → Int) (n : Nat) : s_X1_number f n 0 = f 0 ∧ s_X1_number f n 1 = f 0 / 24 % 7 ∧ s_X1_number f n 2 = f 0 % 24 ∧ s_X1_number f n 3 = f 1 ∧ s_X1_number f n 4 = s_X1_hoursToOpening f ∧ s_X1_number f n 5 = f 2 ∧ s_X1_number f n 6 = f 3 ∧ s_X1_number f n 7 = (if f 4 - f 0 < 0 then 0 else f 4 - f 0) ∧ s_X1_number f n 8 = f 5 ∧ s_X1_number f n 9 = f 6 ∧ s_X1_number f n 10 = f 7 ∧ s_X1_number f n 11 = f 8 ∧ s_X1_number f n 12 = f 9 ∧ s_X1_number f n 13 = f 10 ∧ s_X1_number f n 14 = (n : Int) := by
  refine ⟨?_, ?_, ?_, ?_, ?_, ?_, ?_, ?_, ?_, ?_, ?_, ?_, ?_, ?_, ?_⟩ <;> simp [s_X1_number]
theorem pr_at (f : Nat → Int) (j : Nat) : s_X1_property f j 0 = f (21 + j * 4 + 0) ∧ s_X1_property f j 1 = f (21 + j * 4 + 1) ∧ s_X1_property f j 3 = f (21 + j * 4 + 3) ∧ s_X1_property f j 4 = (if f (21 + j * 4 + 3) < f 13 then 0 else 1) ∧ s_X1_property f j 5 = s_X1_hoursToRunDown f j (s_X1_goes f j) := by
  refine ⟨?_, ?_, ?_, ?_, ?_⟩ <;> simp [s_X1_property]
section CF
variable {c n : Nat} {f : Nat → Int}
theorem cf_c (hc : c ≤ 100) (h : VI c f) : CFc (s_X1_number f n) := by
  obtain ⟨e0, e1, e2, e3, e4, e5, e6, e7, e8, e9, e10, e11, e12, e13, e14⟩ := nm_at f n
  have hA := h.1.1
  unfold VA at hA
  unfold CFc
  rw [e0, e1, e2, e3, e5, e6, e7, e8, e9, e10, e11, e12, e13]
  (repeat' split) <;> omega
theorem open_at (hc : c ≤ 100) (h : VI c f) : CFn (s_X1_number f n) (nr (fun d => f (14 + d)) 7) := by
  have hA := h.1.1
  unfold VA at hA
  have e4 := (nm_at f n).2.2.2.2.1
  unfold CFn
  rw [e4]
  have hr : ∀ a : Nat, -1 ≤ wk f (f 0) a ∧ wk f (f 0) a ≤ 23 := fun a => V_d h _ (by omega) (by omega)
  rcases dLoop f (8 + 1 - 0) 0 (by omega) (by omega) with ⟨g1, g2⟩ | ⟨a, ga, g2, g3, g4, g5⟩
  · have hv : s_X1_hoursToOpening f = -1 := g1
    rw [hv]
    have hn : nr (fun d => f (14 + d)) 7 = 1 := nr_none _ 7 (fun d hd => by
      show f (14 + d) = -1
      have hx : ¬ dOk f (((((d : Int) - f 0 / 24) % 7 + 6) % 7 + 1).toNat) := g2 _ (Nat.zero_le _) (by omega)
      have ea : ((((((d : Int) - f 0 / 24) % 7 + 6) % 7 + 1).toNat : Nat) : Int) = (((d : Int) - f 0 / 24) % 7 + 6) % 7 + 1 := by omega
      have ew : wk f (f 0) (((((d : Int) - f 0 / 24) % 7 + 6) % 7 + 1).toNat) = f (14 + d) := by
        unfold wk
        rw [ea]
        exact congrArg f (by omega)
      have hd1 := V_d h (14 + d) (by omega) (by omega)
      unfold dOk at hx
      rw [ew, ea] at hx
      omega)
    rw [hn]
    exact ⟨fun z => absurd z (by decide), fun _ => rfl⟩
  · have hv : s_X1_hoursToOpening f = (a : Int) * 24 + wk f (f 0) a - f 0 % 24 := g5
    rw [hv]
    have hra := hr a
    have hd := g3
    unfold dOk at hd
    have h168 : (a : Int) * 24 + wk f (f 0) a - f 0 % 24 ≤ 168 := by
      by_cases ha : a = 7
      · subst ha
        have e7 : wk f (f 0) 7 = wk f (f 0) 0 := by
          unfold wk
          rw [show (f 0 / 24 + ((7 : Nat) : Int)) % 7 = (f 0 / 24 + ((0 : Nat) : Int)) % 7 by omega]
        have hn := g4 0 (Nat.le_refl _) (by decide)
        unfold dOk at hn
        rw [e7] at hd hra ⊢
        omega
      · omega
    have hn : nr (fun d => f (14 + d)) 7 = 0 := by
      rcases nr_01 (fun d => f (14 + d)) 7 with e | e
      · exact e
      · have := nr_all (fun d => f (14 + d)) 7 (by rw [e]; decide) (((f 0 / 24 + (a : Int)) % 7).toNat) (by omega)
        exact absurd this hd.1
    exact ⟨fun _ => ⟨by omega, h168⟩, fun z => absurd hn z⟩
theorem cf_m (hc : c ≤ 100) (h : VI c f) {i : Nat} (hi : i < 3) : CFm (s_X1_property f) (fun i => f (11 + i)) (s_X1_hoursToWind f) i := by
  obtain ⟨e0, e1, e3, e4, e5⟩ := pr_at f i
  have hA := h.1.1
  unfold VA at hA
  have hm := mv_at h.1.2.2 hi
  unfold mv1 at hm
  unfold CFm
  rw [e0, e1, e3, e4, e5]
  have hw : s_X1_goes f i = 0 → s_X1_hoursToWind f i = -1 := fun hg => by
    unfold s_X1_hoursToWind
    by_cases ho : s_X1_hoursToOpening f = -1
    · rw [if_pos ho]
    · rw [if_neg ho, if_pos hg]
  have hg0 : f (21 + i * 4 + 1) = 0 → s_X1_goes f i = 0 := fun e => by unfold s_X1_goes; rw [if_pos e]
  have hd : (-1 ≤ s_X1_hoursToRunDown f i (s_X1_goes f i) ∧ s_X1_hoursToRunDown f i (s_X1_goes f i) ≤ 1000) ∧ (s_X1_hoursToRunDown f i (s_X1_goes f i) = -1 ∨ f (21 + i * 4 + 0) ≤ s_X1_hoursToRunDown f i (s_X1_goes f i)) ∧ (s_X1_hoursToRunDown f i (s_X1_goes f i) = 0 → f (21 + i * 4 + 0) = 0) ∧ (f (21 + i * 4 + 0) = 0 → s_X1_hoursToRunDown f i (s_X1_goes f i) = 0) ∧ (s_X1_goes f i = 0 → s_X1_hoursToRunDown f i (s_X1_goes f i) ≤ 0) := by
    rw [dn_X1]
    unfold dn
    by_cases hx : f (21 + i * 4 + 0) = 0
    · rw [if_pos hx]
      omega
    · rw [if_neg hx]
      by_cases hg : s_X1_goes f i = 0
      · rw [if_pos hg]
        omega
      · rw [if_neg hg]
        by_cases h1 : f (21 + i * 4 + 2) = 1
        · rw [if_pos h1]
          omega
        · rw [if_neg h1]
          by_cases h2 : 0 < f (21 + i * 4 + 2)
          · rw [if_pos h2]
            have hq := dn_most (l := f (21 + i * 4 + 2)) (a := f (21 + i * 4 + 3)) (x := f (21 + i * 4 + 0)) (by omega) (by omega) (by omega) (by omega) (by omega)
            omega
          · rw [if_neg h2]
            omega
  refine ⟨by omega, by omega, by omega, hd.1, hd.2.1, hd.2.2.1, hd.2.2.2.1, fun h9 => ?_, fun h9 => ?_, fun h9 => ⟨hd.2.2.2.2 (hg0 h9), hw (hg0 h9)⟩⟩
  · have h9 : f 13 ≤ f (21 + i * 4 + 3) := h9
    rw [if_neg (by omega)]
  · have h9 : ¬ f 13 ≤ f (21 + i * 4 + 3) := h9
    rw [if_pos (by omega)]
theorem c1o_m (f : Nat → Int) (i : Nat) : c1o f (-1) i = s_X1_property f i 5 := by
  rw [(pr_at f i).2.2.2.2]
  unfold c1o
  congr 1
  rcases b_X1_goes f i with e | e
  · rw [e, if_pos rfl]
  · rw [e, if_neg (by decide), if_neg (by omega)]
theorem key_lp (f : Nat → Int) (v : Int) : ∀ (k i : Nat), i + k = 4 → i ≤ 3 → s_X1_keyMovement_lp8 f k i v = -1 ∨ ∃ j : Nat, j < 3 ∧ s_X1_keyMovement_lp8 f k i v = (j : Int) ∧ s_X1_hoursToOpen f (j : Int) ≠ v := by
  intro k
  induction k with
  | zero => intro i h1 h2; exact absurd h1 (by omega)
  | succ k ih =>
    intro i h1 h2
    rw [s_X1_keyMovement_lp8]
    by_cases h3 : 3 ≤ (i : Int)
    · rw [if_pos h3]
      exact Or.inl rfl
    · rw [if_neg h3]
      by_cases h4 : s_X1_hoursToOpen f (i : Int) = v
      · rw [if_pos h4]
        exact ih _ (by omega) (by omega)
      · rw [if_neg h4]
        exact Or.inr ⟨i, by omega, rfl, h4⟩
theorem cf_k (hc : c ≤ 100) (h : VI c f) : CFk (s_X1_property f) (s_X1_keyMovement f) ∧ (-1 ≤ s_X1_keyMovement f ∧ s_X1_keyMovement f ≤ 2) ∧ (f 1 = 0 → s_X1_keyMovement f = -1) := by
  have hk := key_lp f (s_X1_hoursToOpen f (-1)) (3 + 1 - 0) 0 (by decide) (by decide)
  have e : s_X1_keyMovement f = s_X1_keyMovement_lp8 f (3 + 1 - 0) 0 (s_X1_hoursToOpen f (-1)) := rfl
  rw [← e] at hk
  unfold CFk
  rcases hk with hk | ⟨j, hj, hk, hne⟩
  · rw [hk]
    exact ⟨Or.inl rfl, by decide, fun _ => rfl⟩
  · rw [hk]
    refine ⟨Or.inr ?_, by omega, fun h0 => ?_⟩
    · rw [show ((j : Int)).toNat = j from rfl, (pr_at f j).2.1]
      have hm := mv_at h.1.2.2 hj
      unfold mv1 at hm
      rcases hm.2.1 with e0 | e0
      · exact absurd (hto_stopped (f := f) (i := j) (by unfold s_X1_goes; rw [if_pos e0])) hne
      · exact e0
    · exfalso
      apply hne
      unfold s_X1_hoursToOpen
      rw [if_pos (locked0.mpr h0), if_pos (locked0.mpr h0)]
theorem mn1_f {v c : Int} (hv : -1 ≤ v ∧ v ≤ 1000) (hc : -1 ≤ c ∧ c ≤ 1000) : (-1 ≤ mn1 v c ∧ mn1 v c ≤ 1000) ∧ (mn1 v c = 0 ↔ v = 0 ∨ c = 0) := by
  unfold mn1
  (repeat' split) <;> omega
theorem cf_m0 (hc : c ≤ 100) (h : VI c f) {i : Nat} (hi : i < 3) : (-1 ≤ s_X1_property f i 5 ∧ s_X1_property f i 5 ≤ 1000) ∧ (s_X1_property f i 5 = 0 ↔ s_X1_property f i 0 = 0) := by
  have hm := cf_m hc h hi
  unfold CFm at hm
  exact ⟨hm.2.2.2.1, hm.2.2.2.2.2.1, hm.2.2.2.2.2.2.1⟩
theorem oi_f {lk mm w OI LA f0 f2 C7 zz : Int} (hmm : -1 ≤ mm ∧ mm ≤ 1000) (hw : 0 ≤ w ∧ w ≤ 24) (hz : zz ≠ 0 ↔ mm = 0) (h0 : 0 ≤ f0 ∧ f0 ≤ 99999) (h2 : -1 ≤ f2 ∧ f2 ≤ 100300) (hC : C7 = w) (ho : OI = if lk = 0 then -1 else (if mm = -1 then -1 else if mm < w then w else mm)) (hla : LA = if lk = 0 then 0 else if OI = -1 then 1000 else if f2 = -1 then 0 else f0 + (if OI < 1 then 1 else OI) - f2) :
    (-1 ≤ OI ∧ OI ≤ 200000) ∧ (-200000 ≤ LA ∧ LA ≤ 300000) ∧ (lk = 0 → OI = -1 ∧ LA = 0) ∧ (lk ≠ 0 → ((OI = 0 → zz ≠ 0 ∧ C7 = 0) ∧ (zz ≠ 0 → C7 = 0 → OI = 0)) ∧ (OI = -1 → LA = 1000) ∧ (OI = -1 ∨ C7 ≤ OI)) := by
  subst hC
  by_cases hl : lk = 0
  · rw [if_pos hl] at ho hla
    subst ho
    subst hla
    exact ⟨by decide, by decide, fun _ => ⟨rfl, rfl⟩, fun z => absurd hl z⟩
  · rw [if_neg hl] at ho hla
    by_cases hm : mm = -1
    · rw [if_pos hm] at ho
      subst ho
      rw [if_pos rfl] at hla
      subst hla
      refine ⟨by decide, by decide, fun z => absurd z hl, fun _ => ⟨⟨fun z => absurd z (by decide), fun z _ => absurd (hz.mp z) (by omega)⟩, fun _ => rfl, Or.inl rfl⟩⟩
    · rw [if_neg hm] at ho
      have hO : 0 ≤ OI ∧ OI ≤ 2000 ∧ C7 ≤ OI ∧ mm ≤ OI ∧ (OI = C7 ∨ OI = mm) := by
        rw [ho]
        split <;> omega
      clear ho
      rw [if_neg (show ¬ OI = -1 by omega)] at hla
      have hL : -200000 ≤ LA ∧ LA ≤ 300000 := by
        rw [hla]
        (repeat' split) <;> omega
      clear hla
      refine ⟨by omega, hL, fun z => absurd z hl, fun _ => ⟨⟨fun z => ⟨hz.mpr (by omega), by omega⟩, fun z z2 => ?_⟩, fun z => absurd z (by omega), Or.inr (by omega)⟩⟩
      have := hz.mp z
      omega
theorem cf_d (hc : c ≤ 100) (h : VI c f) : CFd (s_X1_number f n) (s_X1_hoursToOpen f (-1)) (s_X1_lateness f) (s_X1_keyMovement f) (zr (s_X1_property f) 3) := by
  obtain ⟨e0, e1, e2, e3, e4, e5, e6, e7, e8, e9, e10, e11, e12, e13, e14⟩ := nm_at f n
  have hA := h.1.1
  unfold VA at hA
  obtain ⟨b0, b1, b2, b3, b4, b5, -⟩ := hA
  have hk := cf_k hc h
  have m0 := cf_m0 hc h (i := 0) (by decide)
  have m1 := cf_m0 hc h (i := 1) (by decide)
  have m2 := cf_m0 hc h (i := 2) (by decide)
  have ho : s_X1_hoursToOpen f (-1) = if s_X1_isLocked f = 0 then -1 else (if mn1 (mn1 (mn1 (-1) (s_X1_property f 0 5)) (s_X1_property f 1 5)) (s_X1_property f 2 5) = -1 then -1 else if mn1 (mn1 (mn1 (-1) (s_X1_property f 0 5)) (s_X1_property f 1 5)) (s_X1_property f 2 5) < wt1 f then wt1 f else mn1 (mn1 (mn1 (-1) (s_X1_property f 0 5)) (s_X1_property f 1 5)) (s_X1_property f 2 5)) := by
    rw [hoursToOpen_at, c1o_m, c1o_m, c1o_m]
  have hla : s_X1_lateness f = if f 1 = 0 then 0 else if s_X1_hoursToOpen f (-1) = -1 then 1000 else if f 2 = -1 then 0 else f 0 + (if s_X1_hoursToOpen f (-1) < 1 then 1 else s_X1_hoursToOpen f (-1)) - f 2 := by
    unfold s_X1_lateness s_X1_latenessAfter
    simp only [locked0]
  simp only [locked0] at ho
  have g0 := mn1_f (v := -1) (by decide) m0.1
  have g1 := mn1_f g0.1 m1.1
  have g2 := mn1_f g1.1 m2.1
  have hz : zr (s_X1_property f) 3 ≠ 0 ↔ mn1 (mn1 (mn1 (-1) (s_X1_property f 0 5)) (s_X1_property f 1 5)) (s_X1_property f 2 5) = 0 := by
    rw [zr_3, g2.2, g1.2, g0.2, m0.2, m1.2, m2.2]
    constructor
    · rintro (q | q | q)
      · exact Or.inl (Or.inl (Or.inr q))
      · exact Or.inl (Or.inr q)
      · exact Or.inr q
    · rintro (((q | q) | q) | q)
      · exact absurd q (by decide)
      · exact Or.inl q
      · exact Or.inr (Or.inl q)
      · exact Or.inr (Or.inr q)
  have hw : 0 ≤ wt1 f ∧ wt1 f ≤ 24 := by
    unfold wt1
    split <;> omega
  have hO := oi_f (C7 := wt1 f) g2.1 hw hz (by omega) (by omega) rfl ho hla
  unfold CFd
  rw [e3, e5, e6, e7]
  refine ⟨hO.1, hO.2.1, hk.2.1, fun z => ⟨(b5 z).1, (b5 z).2.1, ?_, (hO.2.2.1 z).1, (hO.2.2.1 z).2, hk.2.2 z⟩, fun z => hO.2.2.2 z⟩
  have h4 := (b5 z).2.2
  split <;> omega
end CF
