/-! changes, made on both sides -/
theorem InvA_c {c : Nat} {f f' : Nat → Int} (h : InvA c f) (e : ∀ k : Nat, k < 14 → f' k = f k) : InvA c f' := by
  unfold InvA at h ⊢
  rw [e 0 (by decide), e 1 (by decide), e 2 (by decide), e 3 (by decide), e 4 (by decide), e 5 (by decide), e 6 (by decide), e 7 (by decide), e 8 (by decide), e 9 (by decide), e 10 (by decide), e 11 (by decide), e 12 (by decide), e 13 (by decide)]
  exact h
theorem InvD_c {f f' : Nat → Int} (h : InvD f) (e : ∀ k : Nat, 14 ≤ k → k < 21 → f' k = f k) : InvD f' := by
  unfold InvD at h ⊢
  rw [e 14 (by decide) (by decide), e 15 (by decide) (by decide), e 16 (by decide) (by decide), e 17 (by decide) (by decide), e 18 (by decide) (by decide), e 19 (by decide) (by decide), e 20 (by decide) (by decide)]
  exact h
theorem InvM_c {f f' : Nat → Int} (h : InvM f) (e0 : f' 0 = f 0) (e : ∀ k : Nat, 21 ≤ k → k < 33 → f' k = f k) : InvM f' := by
  unfold InvM at h ⊢
  rw [e0, e 21 (by decide) (by decide), e 22 (by decide) (by decide), e 23 (by decide) (by decide), e 24 (by decide) (by decide), e 25 (by decide) (by decide), e 26 (by decide) (by decide), e 27 (by decide) (by decide), e 28 (by decide) (by decide), e 29 (by decide) (by decide), e 30 (by decide) (by decide), e 31 (by decide) (by decide), e 32 (by decide) (by decide)]
  exact h
theorem RelA_c {f1 f2 f1' f2' : Nat → Int} (h : RelA f1 f2) (e1 : ∀ k : Nat, k < 14 → f1' k = f1 k) (e2 : ∀ k : Nat, (k = 0 ∨ 8 ≤ k ∧ k < 21) → f2' k = f2 k) : RelA f1' f2' := by
  unfold RelA at h ⊢
  rw [e1 0 (by decide), e1 1 (by decide), e1 2 (by decide), e1 3 (by decide), e1 4 (by decide), e1 5 (by decide), e1 6 (by decide), e1 7 (by decide), e1 8 (by decide), e1 9 (by decide), e1 10 (by decide), e1 11 (by decide), e1 12 (by decide), e1 13 (by decide), e2 0 (by decide), e2 8 (by decide), e2 9 (by decide), e2 10 (by decide), e2 11 (by decide), e2 12 (by decide), e2 13 (by decide), e2 14 (by decide), e2 15 (by decide), e2 16 (by decide), e2 17 (by decide), e2 18 (by decide), e2 19 (by decide), e2 20 (by decide)]
  exact h
theorem RelD_c {f1 f2 f1' f2' : Nat → Int} (h : RelD f1 f2) (e1 : ∀ k : Nat, 14 ≤ k → k < 21 → f1' k = f1 k) (e2 : ∀ k : Nat, 1 ≤ k → k < 8 → f2' k = f2 k) : RelD f1' f2' := by
  unfold RelD at h ⊢
  rw [e1 14 (by decide) (by decide), e1 15 (by decide) (by decide), e1 16 (by decide) (by decide), e1 17 (by decide) (by decide), e1 18 (by decide) (by decide), e1 19 (by decide) (by decide), e1 20 (by decide) (by decide), e2 1 (by decide) (by decide), e2 2 (by decide) (by decide), e2 3 (by decide) (by decide), e2 4 (by decide) (by decide), e2 5 (by decide) (by decide), e2 6 (by decide) (by decide), e2 7 (by decide) (by decide)]
  exact h
theorem RelM_c {f1 f2 f1' f2' : Nat → Int} (h : RelM f1 f2) (e1 : ∀ k : Nat, 21 ≤ k → k < 33 → f1' k = f1 k) (e2 : ∀ k : Nat, 21 ≤ k → k < 33 → f2' k = f2 k) : RelM f1' f2' := by
  unfold RelM at h ⊢
  rw [e1 21 (by decide) (by decide), e1 22 (by decide) (by decide), e1 23 (by decide) (by decide), e1 24 (by decide) (by decide), e1 25 (by decide) (by decide), e1 26 (by decide) (by decide), e1 27 (by decide) (by decide), e1 28 (by decide) (by decide), e1 29 (by decide) (by decide), e1 30 (by decide) (by decide), e1 31 (by decide) (by decide), e1 32 (by decide) (by decide), e2 21 (by decide) (by decide), e2 22 (by decide) (by decide), e2 23 (by decide) (by decide), e2 24 (by decide) (by decide), e2 25 (by decide) (by decide), e2 26 (by decide) (by decide), e2 27 (by decide) (by decide), e2 28 (by decide) (by decide), e2 29 (by decide) (by decide), e2 30 (by decide) (by decide), e2 31 (by decide) (by decide), e2 32 (by decide) (by decide)]
  exact h
theorem Tail_up {f1 f2 : Nat → Int} (h : Tail f1 f2) {p q : Nat} (hp : p < 33) (hq : q < 33) (v w : Int) : Tail (upz f1 p v) (upz f2 q w) := fun k hk => by
  rw [upz_n (by omega), upz_n (by omega)]
  exact h k hk
theorem RI_day {c : Nat} {f1 f2 : Nat → Int} (h : RI c f1 f2) {d : Nat} (hd : d < 7) {v : Int} (hv : dy1 v) : RI c (upz f1 (14 + d) v) (upz f2 (1 + d) v) := by
  obtain ⟨⟨hA, hD, hM⟩, ⟨rA, rD, rM⟩, hT⟩ := h
  refine ⟨⟨InvA_c hA (fun k hk => upz_n (by omega)), ?_, InvM_c hM (upz_n (by omega)) (fun k h1 h2 => upz_n (by omega))⟩, ⟨RelA_c rA (fun k hk => upz_n (by omega)) (fun k hk => upz_n (by omega)), ?_, RelM_c rM (fun k h1 h2 => upz_n (by omega)) (fun k h1 h2 => upz_n (by omega))⟩, Tail_up hT (by omega) (by omega) _ _⟩
  · unfold InvD dy1 at *
    rcases (show d = 0 ∨ d = 1 ∨ d = 2 ∨ d = 3 ∨ d = 4 ∨ d = 5 ∨ d = 6 by omega) with rfl | rfl | rfl | rfl | rfl | rfl | rfl <;> simp [upz] <;> omega
  · unfold RelD at *
    rcases (show d = 0 ∨ d = 1 ∨ d = 2 ∨ d = 3 ∨ d = 4 ∨ d = 5 ∨ d = 6 by omega) with rfl | rfl | rfl | rfl | rfl | rfl | rfl <;> simp [upz] <;> omega
theorem RI_set {c : Nat} {f1 f2 : Nat → Int} (h : RI c f1 f2) {d : Nat} (hd : d < 3) {v : Int} (hv : xleast d ≤ v ∧ v ≤ xmost d) : RI c (upz f1 (11 + d) v) (upz f2 (8 + d) v) := by
  obtain ⟨⟨hA, hD, hM⟩, ⟨rA, rD, rM⟩, hT⟩ := h
  refine ⟨⟨?_, InvD_c hD (fun k h1 h2 => upz_n (by omega)), InvM_c hM (upz_n (by omega)) (fun k h1 h2 => upz_n (by omega))⟩, ⟨?_, RelD_c rD (fun k h1 h2 => upz_n (by omega)) (fun k h1 h2 => upz_n (by omega)), RelM_c rM (fun k h1 h2 => upz_n (by omega)) (fun k h1 h2 => upz_n (by omega))⟩, Tail_up hT (by omega) (by omega) _ _⟩
  · unfold InvA xleast xmost at *
    rcases (show d = 0 ∨ d = 1 ∨ d = 2 by omega) with rfl | rfl | rfl <;> simp [upz] at hv ⊢ <;> omega
  · unfold RelA at *
    rcases (show d = 0 ∨ d = 1 ∨ d = 2 by omega) with rfl | rfl | rfl <;> simp [upz] <;> omega
/-- one of a movement's four numbers -/
def mvOk (f : Nat → Int) (q : Nat) (v : Int) : Prop := if q = 0 then 0 ≤ v ∧ v ≤ 200 else if q = 1 then v = 0 ∨ v = 1 else if q = 2 then 0 ≤ v ∧ v ≤ 20 else 0 ≤ v ∧ v ≤ f 0
theorem RI_mv {c : Nat} {f1 f2 : Nat → Int} (h : RI c f1 f2) {j q : Nat} (hj : j < 3) (hq : q < 4) {v : Int} (hv : mvOk f1 q v) {p1 p2 : Nat} (e1 : p1 = 21 + j * 4 + q) (e2 : p2 = 21 + 4 * j + q) : RI c (upz f1 p1 v) (upz f2 p2 v) := by
  subst e1; subst e2
  obtain ⟨⟨hA, hD, hM⟩, ⟨rA, rD, rM⟩, hT⟩ := h
  refine ⟨⟨InvA_c hA (fun k hk => upz_n (by omega)), InvD_c hD (fun k h1 h2 => upz_n (by omega)), ?_⟩, ⟨RelA_c rA (fun k hk => upz_n (by omega)) (fun k hk => upz_n (by omega)), RelD_c rD (fun k h1 h2 => upz_n (by omega)) (fun k h1 h2 => upz_n (by omega)), ?_⟩, Tail_up hT (by omega) (by omega) _ _⟩
  · unfold InvM mv1 mvOk at *
    rcases (show j = 0 ∨ j = 1 ∨ j = 2 by omega) with rfl | rfl | rfl <;> rcases (show q = 0 ∨ q = 1 ∨ q = 2 ∨ q = 3 by omega) with rfl | rfl | rfl | rfl <;> simp [upz] at hv ⊢ <;> omega
  · unfold RelM at *
    rcases (show j = 0 ∨ j = 1 ∨ j = 2 by omega) with rfl | rfl | rfl <;> rcases (show q = 0 ∨ q = 1 ∨ q = 2 ∨ q = 3 by omega) with rfl | rfl | rfl | rfl <;> simp [upz] <;> omega
/-- the numbers of the door -/
theorem RI_door {c : Nat} {f1 f2 f1' f2' : Nat → Int} (h : RI c f1 f2) {c' : Nat} (hA : InvA c' f1') (rA : RelA f1' f2') (e0 : f1' 0 = f1 0) (e1 : ∀ k : Nat, 14 ≤ k → f1' k = f1 k) (e2 : ∀ k : Nat, (1 ≤ k ∧ k < 8 ∨ 21 ≤ k) → f2' k = f2 k) : RI c' f1' f2' :=
  ⟨⟨hA, InvD_c h.1.2.1 (fun k h1 _ => e1 k h1), InvM_c h.1.2.2 e0 (fun k h1 _ => e1 k (by omega))⟩, ⟨rA, RelD_c h.2.1.2.1 (fun k h1 _ => e1 k h1) (fun k h1 h2 => e2 k (Or.inl ⟨h1, h2⟩)), RelM_c h.2.1.2.2 (fun k h1 _ => e1 k (by omega)) (fun k h1 _ => e2 k (Or.inr h1))⟩, fun k hk => by rw [e1 k (by omega), e2 k (by omega)]; exact h.2.2 k hk⟩
/-- an answer of both sides, and what they hold then -/
def Agree (c : Nat) (km : Int → Int) (A : Int × Int × (Nat → Int) × (Nat → Int) × Nat) (B : Int × Int × (Nat → Int) × (Nat → Int) × Nat) : Prop := km A.1 = B.2.1 ∧ (A.1 = 0 → A.2.1 = B.1) ∧ RI c A.2.2.1 B.2.2.1 ∧ RG c A.2.2.2.2 A.2.2.2.1 B.2.2.2.1 ∧ A.2.2.2.2 = B.2.2.2.2 ∧ A.2.2.2.2 ≤ 6
theorem agree_no {c : Nat} {km : Int → Int} {f1 f2 g1 g2 : Nat → Int} {n : Nat} (h : RI c f1 f2) (hg : RG c n g1 g2) (hn : n ≤ 6) {a t r : Int} (ha : a ≠ 0) (hk : km a = t) : Agree (c + 1) km (a, r, f1, g1, n) (0, t, f2, g2, n) :=
  ⟨hk, fun z => absurd z ha, RI_more h, RG_more hg, rfl, hn⟩
theorem agree_yes {c : Nat} {km : Int → Int} {f1 f2 f1' f2' g1 g2 : Nat → Int} {n : Nat} (h : RI c f1 f2) (hg : RG c n g1 g2) (hn : n ≤ 6) {r1 r2 : Int} (hr : r1 = r2) (hk : km 0 = 0) (hf : RI (c + 1) f1' f2') : Agree (c + 1) km (0, r1, f1', (s_X1_save f1 g1 n).1, (s_X1_save f1 g1 n).2) (r2, 0, f2', (s_X2_saves f2 g2 n).1, (s_X2_saves f2 g2 n).2) := by
  refine ⟨hk, fun _ => hr, hf, ?_, ?_, ?_⟩
  · show RG (c + 1) (s_X1_save f1 g1 n).2 (s_X1_save f1 g1 n).1 (s_X2_saves f2 g2 n).1
    rw [save1_n]
    exact RG_more (RG_save h hg hn)
  · show (s_X1_save f1 g1 n).2 = (s_X2_saves f2 g2 n).2
    rw [save1_n, save2_n _ _ hn]
  · show (s_X1_save f1 g1 n).2 ≤ 6
    rw [save1_n]
    exact nx_le hn
