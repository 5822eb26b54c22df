/-! the share of the doors, held against 0 and 1 -/
def shB (a b : Nat) : Bool := decide (¬ Op.cmpValue (FP.dcmp (FP.ddiv (FP.i2d (jI (a : Int))) (FP.i2d (jI (b : Int)))) FP.dconst0) .l < 0) && decide (¬ 0 < Op.cmpValue (FP.dcmp (FP.ddiv (FP.i2d (jI (a : Int))) (FP.i2d (jI (b : Int)))) FP.dconst1) .g)
theorem shB_all : ∀ b : Nat, b < 42 → ∀ a : Nat, a < b + 1 → 0 < b → shB a b = true := by decide +kernel
theorem cf_p {c n : Nat} {f : Nat → Int} (hc : c ≤ 41) (h : VI c f) : CFp (s_X1_number f n) (s_X1_punctuality f) := by
  obtain ⟨e0, e1, e2, e3, e4, e5, e6, e7, e8, e9, e10, e11, e12, e13, e14⟩ := nm_at f n
  have hA := h.1.1
  unfold VA at hA
  unfold CFp
  rw [e9, e13]
  unfold s_X1_punctuality
  by_cases h0 : f 6 + f 10 = 0
  · rw [if_pos h0]
    exact ⟨fun _ => by decide +kernel, by decide +kernel, by decide +kernel⟩
  · rw [if_neg h0]
    have hs := shB_all (f 6 + f 10).toNat (by omega) (f 7).toNat (by omega) (by omega)
    unfold shB at hs
    rw [show (((f 7).toNat : Nat) : Int) = f 7 by omega, show (((f 6 + f 10).toNat : Nat) : Int) = f 6 + f 10 by omega] at hs
    have hs2 := (Bool.and_eq_true _ _).mp hs
    exact ⟨fun z => by omega, of_decide_eq_true hs2.1, of_decide_eq_true hs2.2⟩
