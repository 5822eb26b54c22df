/-! the doubles that occur: shares, and what is made of them -/
def mk64 (E T : Nat) : UInt64 := UInt64.ofNat (E * 4503599627370496 + T)
theorem mk_of (E T : Nat) (h1 : 1 ≤ E) (h2 : E ≤ 2046) (hT : T < 4503599627370496) : mk64 E T = FP.Core.of64 (.fin false (4503599627370496 + T) ((E : Int) - 1075)) := by
  unfold mk64 FP.Core.of64
  congr 1
  have e1 : FP.Core.b64.tails = 4503599627370496 := by decide
  have e2 : FP.Core.b64.qmin = -1074 := by decide
  show _ = FP.Core.encode FP.Core.b64 (.fin false (4503599627370496 + T) ((E : Int) - 1075))
  unfold FP.Core.encode FP.Core.assemble
  dsimp only
  rw [e1, e2, if_neg (by omega)]
  have e3 : ((E : Int) - 1075 - -1074).toNat + 1 = E := by omega
  rw [e3]
  simp only [Bool.toNat_false]
  omega
theorem mk_fits (E T : Nat) (h1 : 1 ≤ E) (h2 : E ≤ 2046) (hT : T < 4503599627370496) : FP.Core.fits FP.Core.b64 (.fin false (4503599627370496 + T) ((E : Int) - 1075)) := by
  have e1 : FP.Core.b64.tails = 4503599627370496 := by decide
  have e2 : FP.Core.b64.qmin = -1074 := by decide
  have e3 : FP.Core.b64.qmax = 971 := by decide
  refine ⟨?_, ?_, ?_, Or.inr ?_⟩
  · show 4503599627370496 + T < 2 ^ 53
    omega
  · rw [e2]; omega
  · rw [e3]; omega
  · rw [e1]; omega
theorem mk_val (E T : Nat) (h1 : 1 ≤ E) (h2 : E ≤ 2046) (hT : T < 4503599627370496) : FP.Core.val64 (mk64 E T) = .fin false (4503599627370496 + T) ((E : Int) - 1075) := by
  rw [mk_of E T h1 h2 hT]
  exact FP.Core.val64_of64 (mk_fits E T h1 h2 hT)
theorem mk_inj {x : UInt64} {E T : Nat} (h1 : 1 ≤ E) (h2 : E ≤ 2046) (hT : T < 4503599627370496) (h : FP.Core.val64 x = .fin false (4503599627370496 + T) ((E : Int) - 1075)) : x = mk64 E T :=
  FP.Core.val64_inj (by rw [h]; exact fun q => nomatch q) (h.trans (mk_val E T h1 h2 hT).symm)
theorem mk_two : (4611686018427387904 : UInt64) = mk64 1024 0 := by decide
theorem mk_one : (4607182418800017408 : UInt64) = mk64 1023 0 := by decide
theorem mk_big : (4841369599423283200 : UInt64) = mk64 1075 0 := by decide
theorem mk_mul2 (E T : Nat) (h1 : 1 ≤ E) (h2 : E ≤ 2045) (hT : T < 4503599627370496) : FP.dmul (mk64 E T) 4611686018427387904 = mk64 (E + 1) T := by
  refine mk_inj (by omega) (by omega) hT ?_
  show FP.Core.val64 (FP.Core.dmul _ _) = _
  rw [FP.Core.val64_dmul, mk_two, mk_val E T h1 (by omega) hT, mk_val 1024 0 (by decide) (by decide) (by decide)]
  refine FP.Core.roundRatio_exact FP.Core.good_b64 (by decide) (mk_fits (E + 1) T (by omega) (by omega) hT) ?_
  have a1 : ((E : Int) - 1075 + (((1024 : Nat) : Int) - 1075) - (((E + 1 : Nat) : Int) - 1075)).toNat = 0 := by omega
  have a2 : (((E + 1 : Nat) : Int) - 1075 - ((E : Int) - 1075 + (((1024 : Nat) : Int) - 1075))).toNat = 52 := by omega
  rw [a1, a2]
  omega
theorem n64_of {r : UInt64} (h : FP.Core.val64 r ≠ .nan) : vf_n64 r := by
  unfold vf_n64
  rw [UInt64.le_iff_toNat_le, UInt64.toNat_and]
  have e1 : (0x7fffffffffffffff : UInt64).toNat = 2 ^ 63 - 1 := by decide
  have e2 : (0x7ff0000000000000 : UInt64).toNat = 9218868437227405312 := by decide
  rw [e1, e2, Nat.and_two_pow_sub_one_eq_mod]
  refine Nat.le_of_not_lt fun hc => h ?_
  unfold FP.Core.val64 FP.Core.decode FP.Core.fieldE FP.Core.fieldT
  have t1 : FP.Core.b64.tails = 4503599627370496 := by decide
  have t2 : FP.Core.b64.exps = 2048 := by decide
  rw [t1, t2]
  have := r.toNat_lt
  rw [if_pos (by omega), if_neg (by omega)]
theorem n64_mk (E T : Nat) (h1 : 1 ≤ E) (h2 : E ≤ 2046) (hT : T < 4503599627370496) : vf_n64 (mk64 E T) := n64_of (by rw [mk_val E T h1 h2 hT]; exact fun q => nomatch q)
theorem dcmp_order (x y : UInt64) : FP.dcmp x y = FP.Core.order (FP.Core.val64 x) (FP.Core.val64 y) := rfl
theorem one_mk : FP.dconst1 = mk64 1023 0 := by decide
theorem zero_val : FP.Core.val64 FP.dconst0 = .fin false 0 (-1074) := by decide
theorem cmp_lt {x y : Int} (h : x < y) : compare x y = .lt := by
  show compareOfLessAndEq x y = .lt
  unfold compareOfLessAndEq
  rw [if_pos h]
theorem cmp_gt {x y : Int} (h : y < x) : compare x y = .gt := by
  show compareOfLessAndEq x y = .gt
  unfold compareOfLessAndEq
  rw [if_neg (by omega), if_neg (by omega)]
theorem mk_lt1 (E T : Nat) (h1 : 1 ≤ E) (h2 : E < 1023) (hT : T < 4503599627370496) : Op.cmpValue (FP.dcmp (mk64 E T) FP.dconst1) .g = jI (-1) := by
  rw [dcmp_order, one_mk, mk_val E T h1 (by omega) hT, mk_val 1023 0 (by decide) (by decide) (by decide)]
  unfold FP.Core.order FP.Core.signed FP.Core.inUnits
  dsimp only
  have m1 : min ((E : Int) - 1075) (((1023 : Nat) : Int) - 1075) = (E : Int) - 1075 := by omega
  rw [m1]
  have p1 : ((E : Int) - 1075 - ((E : Int) - 1075)).toNat = 0 := by omega
  have p2 : (((1023 : Nat) : Int) - 1075 - ((E : Int) - 1075)).toNat = (1022 - E) + 1 := by omega
  rw [p1, p2, Nat.pow_succ]
  have p3 : 1 ≤ 2 ^ (1022 - E) := Nat.two_pow_pos _
  rw [cmp_lt]
  · rfl
  · show (((4503599627370496 + T) * 2 ^ 0 : Nat) : Int) < (((4503599627370496 + 0) * (2 ^ (1022 - E) * 2) : Nat) : Int)
    have p4 : 4503599627370496 * 2 ≤ 4503599627370496 * (2 ^ (1022 - E) * 2) := Nat.mul_le_mul_left _ (by omega)
    omega
theorem mk_ge1 (T : Nat) (hT : T < 4503599627370496) : Op.cmpValue (FP.dcmp (mk64 1023 T) FP.dconst1) .g = jI 0 ∨ Op.cmpValue (FP.dcmp (mk64 1023 T) FP.dconst1) .g = jI 1 := by
  rw [dcmp_order, one_mk, mk_val 1023 T (by decide) (by omega) hT, mk_val 1023 0 (by decide) (by decide) (by decide)]
  unfold FP.Core.order FP.Core.signed FP.Core.inUnits
  dsimp only
  have m1 : min (((1023 : Nat) : Int) - 1075) (((1023 : Nat) : Int) - 1075) = ((1023 : Nat) : Int) - 1075 := by omega
  rw [m1]
  have p1 : (((1023 : Nat) : Int) - 1075 - (((1023 : Nat) : Int) - 1075)).toNat = 0 := by omega
  rw [p1]
  by_cases h : T = 0
  · subst h
    exact Or.inl (by decide)
  · refine Or.inr ?_
    rw [cmp_gt]
    · rfl
    · show (((4503599627370496 + 0) * 2 ^ 0 : Nat) : Int) < (((4503599627370496 + T) * 2 ^ 0 : Nat) : Int)
      omega
theorem mk_gt0 (E T : Nat) (h1 : 1 ≤ E) (h2 : E ≤ 2046) (hT : T < 4503599627370496) : Op.cmpValue (FP.dcmp (mk64 E T) FP.dconst0) .g = jI 1 := by
  rw [dcmp_order, zero_val, mk_val E T h1 h2 hT]
  unfold FP.Core.order FP.Core.signed FP.Core.inUnits
  dsimp only
  rw [cmp_gt]
  · rfl
  · show ((0 * 2 ^ _ : Nat) : Int) < (((4503599627370496 + T) * 2 ^ _ : Nat) : Int)
    have p3 := Nat.two_pow_pos (((E : Int) - 1075) - min ((E : Int) - 1075) (-1074)).toNat
    have p4 := Nat.mul_le_mul_left (4503599627370496 + T) p3
    rw [Nat.zero_mul]
    omega
theorem zero_cmp : Op.cmpValue (FP.dcmp FP.dconst0 FP.dconst0) .g = jI 0 := by decide
/-- a number below 2^52, moved up to 53 digits -/
theorem up53 (T : Nat) (h0 : 0 < T) (hT : T < 4503599627370496) : ∃ k : Nat, k ≤ 52 ∧ 4503599627370496 ≤ T * 2 ^ k ∧ T * 2 ^ k < 9007199254740992 := by
  have a1 : 2 ^ T.log2 ≤ T := Nat.log2_self_le (by omega)
  have a2 : T < 2 ^ (T.log2 + 1) := Nat.lt_log2_self
  have a3 : T.log2 < 52 := (Nat.log2_lt (by omega)).mpr hT
  refine ⟨52 - T.log2, by omega, ?_, ?_⟩
  · have h : 2 ^ T.log2 * 2 ^ (52 - T.log2) ≤ T * 2 ^ (52 - T.log2) := Nat.mul_le_mul_right _ a1
    rw [← Nat.pow_add, show T.log2 + (52 - T.log2) = 52 by omega] at h
    exact h
  · have h : T * 2 ^ (52 - T.log2) < 2 ^ (T.log2 + 1) * 2 ^ (52 - T.log2) := Nat.mul_lt_mul_of_pos_right a2 (Nat.two_pow_pos _)
    rw [← Nat.pow_add, show T.log2 + 1 + (52 - T.log2) = 53 by omega] at h
    exact h
theorem fin_fits (c : Nat) (q : Int) (h1 : 4503599627370496 ≤ c) (h2 : c < 9007199254740992) (h3 : -1074 ≤ q) (h4 : q ≤ 971) : FP.Core.fits FP.Core.b64 (.fin false c q) := by
  have e1 : FP.Core.b64.tails = 4503599627370496 := by decide
  have e2 : FP.Core.b64.qmin = -1074 := by decide
  have e3 : FP.Core.b64.qmax = 971 := by decide
  refine ⟨?_, ?_, ?_, Or.inr ?_⟩
  · show c < 2 ^ 53
    omega
  · rw [e2]; omega
  · rw [e3]; omega
  · rw [e1]; omega
/-- the fraction: (x - 1.0) * 2^52, for x of the exponent 0 -/
theorem mk_sub_val (T : Nat) (hT : T < 4503599627370496) : FP.Core.val64 (FP.dsub (mk64 1023 T) FP.dconst1) = FP.Core.roundRatio FP.Core.b64 false T 1 (-52) := by
  show FP.Core.val64 (FP.Core.dsub _ _) = _
  rw [FP.Core.val64_dsub, one_mk, mk_val 1023 T (by decide) (by omega) hT, mk_val 1023 0 (by decide) (by decide) (by decide)]
  unfold FP.Core.negate FP.Core.exactSum FP.Core.sumUnits FP.Core.signed FP.Core.inUnits FP.Core.round
  dsimp only
  have m1 : min (((1023 : Nat) : Int) - 1075) (((1023 : Nat) : Int) - 1075) = -52 := by omega
  rw [m1]
  have p1 : (((1023 : Nat) : Int) - 1075 - -52).toNat = 0 := by omega
  rw [p1]
  have v : ((((4503599627370496 + T) * 2 ^ 0 : Nat) : Int) + -(((4503599627370496 + 0) * 2 ^ 0 : Nat) : Int)) = (T : Int) := by omega
  simp only [Bool.false_eq_true, if_false, Bool.not_false, if_true]
  rw [v]
  have sg : FP.Core.sumSign false true (T : Int) = false := by
    unfold FP.Core.sumSign
    split
    · rfl
    · exact decide_eq_false (by omega)
  rw [sg, Int.natAbs_natCast]
theorem mk_frac_val (T : Nat) (hT : T < 4503599627370496) : ∃ c q, FP.Core.val64 (FP.dmul (FP.dsub (mk64 1023 T) FP.dconst1) 4841369599423283200) = .fin false c q ∧ c * 2 ^ q.toNat / 2 ^ (-q).toNat = T := by
  have hs := mk_sub_val T hT
  rcases Nat.eq_zero_or_pos T with h0 | h0
  · subst h0
    refine ⟨0, -1074, ?_, by simp⟩
    show FP.Core.val64 (FP.Core.dmul _ _) = _
    rw [FP.Core.val64_dmul, hs, mk_big, mk_val 1075 0 (by decide) (by decide) (by decide)]
    decide
  · obtain ⟨k, k1, k2, k3⟩ := up53 T h0 hT
    have hr : FP.Core.roundRatio FP.Core.b64 false T 1 (-52) = .fin false (T * 2 ^ k) (-52 - (k : Int)) := by
      refine FP.Core.roundRatio_exact FP.Core.good_b64 (by decide) (fin_fits _ _ k2 k3 (by omega) (by omega)) ?_
      have a1 : (-52 - (-52 - (k : Int))).toNat = k := by omega
      have a2 : (-52 - (k : Int) - -52).toNat = 0 := by omega
      rw [a1, a2]
      omega
    refine ⟨T * 2 ^ k, -(k : Int), ?_, ?_⟩
    · show FP.Core.val64 (FP.Core.dmul _ _) = _
      rw [FP.Core.val64_dmul, hs, hr, mk_big, mk_val 1075 0 (by decide) (by decide) (by decide)]
      refine FP.Core.roundRatio_exact FP.Core.good_b64 (by decide) (fin_fits _ _ k2 k3 (by omega) (by omega)) ?_
      have a1 : (-52 - (k : Int) + (((1075 : Nat) : Int) - 1075) - -(k : Int)).toNat = 0 := by omega
      have a2 : (-(k : Int) - (-52 - (k : Int) + (((1075 : Nat) : Int) - 1075))).toNat = 52 := by omega
      rw [a1, a2]
      omega
    · have a1 : (-(k : Int)).toNat = 0 := by omega
      have a2 : (- -(k : Int)).toNat = k := by omega
      rw [a1, a2, Nat.pow_zero, Nat.mul_one]
      exact Nat.mul_div_cancel _ (Nat.two_pow_pos k)
theorem mk_frac (T : Nat) (hT : T < 4503599627370496) : FP.d2l (FP.dmul (FP.dsub (mk64 1023 T) FP.dconst1) 4841369599423283200) = Int64.ofInt (T : Int) := by
  obtain ⟨c, q, h1, h2⟩ := mk_frac_val T hT
  show FP.Core.toL (FP.Core.val64 _) = _
  rw [h1]
  unfold FP.Core.toL FP.Core.toInt FP.Core.truncate FP.Core.signed
  dsimp only
  rw [h2]
  congr 1
  simp only [Bool.false_eq_true, if_false]
  omega
theorem n64_sub (T : Nat) (hT : T < 4503599627370496) : vf_n64 (FP.dsub (mk64 1023 T) FP.dconst1) := n64_of (by rw [mk_sub_val T hT]; exact FP.Core.roundRatio_ne_nan _ _ _ _ _)
theorem n64_frac (T : Nat) (hT : T < 4503599627370496) : vf_n64 (FP.dmul (FP.dsub (mk64 1023 T) FP.dconst1) 4841369599423283200) := n64_of (by obtain ⟨c, q, h1, -⟩ := mk_frac_val T hT; rw [h1]; exact fun q => nomatch q)
/-- the bits, made by hand -/
theorem mk_bits (E T : Nat) (h2 : E ≤ 1023) (hT : T < 4503599627370496) : Int64.ofInt (E : Int) <<< ((jI 52).toInt64 &&& 63) + Int64.ofInt (T : Int) = (mk64 E T).toInt64 := by
  have e0 : ((jI 52).toInt64 &&& 63) = 52 := by decide
  rw [e0]
  apply Int64.toBitVec_inj.mp
  apply BitVec.eq_of_toNat_eq
  have hE : (Int64.ofInt (E : Int)).toBitVec.toNat = E := by
    rw [Int64.toBitVec_ofInt, BitVec.ofInt_natCast, BitVec.toNat_ofNat]
    omega
  have hT2 : (Int64.ofInt (T : Int)).toBitVec.toNat = T := by
    rw [Int64.toBitVec_ofInt, BitVec.ofInt_natCast, BitVec.toNat_ofNat]
    omega
  have hR : (mk64 E T).toInt64.toBitVec.toNat = E * 4503599627370496 + T := by
    show (UInt64.ofNat (E * 4503599627370496 + T)).toNat = _
    rw [UInt64.toNat_ofNat_of_lt' (by show _ < 2 ^ 64; omega)]
  have e1 : ((52 : Int64).toBitVec.smod 64).toNat = 52 := by decide
  rw [hR, Int64.toBitVec_add, BitVec.toNat_add, Int64.toBitVec_shiftLeft, BitVec.shiftLeft_eq', e1, BitVec.toNat_shiftLeft, hE, hT2, Nat.shiftLeft_eq]
  omega
/-- a share -/
theorem share_val (a b : Nat) (h1 : 1 ≤ a) (h2 : a ≤ b) (h3 : b ≤ 512) : ∃ E T : Nat, 1 ≤ E ∧ E ≤ 1023 ∧ T < 4503599627370496 ∧ FP.Core.roundRatio FP.Core.b64 false a b 0 = .fin false (4503599627370496 + T) ((E : Int) - 1075) := by
  have e1 : FP.Core.b64.tails = 4503599627370496 := by decide
  have e2 : FP.Core.b64.qmin = -1074 := by decide
  have e3 : FP.Core.b64.qmax = 971 := by decide
  have e4 : (FP.Core.b64.p : Int) = 53 := rfl
  have hf := FP.Core.roundRatio_fits FP.Core.good_b64 false a (show 0 < b by omega) 0
  have hb := FP.Core.quantum_below (f := FP.Core.b64) (show 0 < a by omega) (show 0 < b by omega) 0
  have hn := FP.Core.quantum_not_below (f := FP.Core.b64) (show 0 < a by omega) (show 0 < b by omega) 0
  have hr : FP.Core.roundRatio FP.Core.b64 false a b 0 = FP.Core.roundAt FP.Core.b64 false a b 0 (FP.Core.quantum FP.Core.b64 a b 0) := by
    unfold FP.Core.roundRatio
    rw [if_neg (by omega)]
  rw [hr] at hf ⊢
  generalize FP.Core.quantum FP.Core.b64 a b 0 = q at hf hb hn ⊢
  rw [e4] at hb hn
  rw [e2] at hn
  -- where the last digit is
  have q1 : q ≤ -52 := by
    rcases hn with hn | hn
    · omega
    · refine Int.not_lt.mp fun hq => hn ?_
      unfold FP.Core.Below
      have p1 : (-(q - 0 + (53 - 1))).toNat = 0 := by omega
      have p2 : (q - 0 + (53 - 1)).toNat = (q - 0 + (53 - 1)).toNat - 1 + 1 := by omega
      rw [p1, p2, Nat.pow_succ]
      have p3 : 1 ≤ 2 ^ ((q - 0 + (53 - 1)).toNat - 1) := Nat.two_pow_pos _
      have p4 : b * 2 ≤ b * (2 ^ ((q - 0 + (53 - 1)).toNat - 1) * 2) := Nat.mul_le_mul_left _ (by omega)
      omega
  have q2 : -62 ≤ q := by
    refine Int.not_lt.mp fun hq => ?_
    unfold FP.Core.Below at hb
    have p1 : (q - 0 + 53).toNat = 0 := by omega
    have p2 : (-(q - 0 + 53)).toNat = (-(q - 0 + 53)).toNat - 10 + 10 := by omega
    rw [p1, p2, Nat.pow_add] at hb
    have p3 : 1 ≤ 2 ^ ((-(q - 0 + 53)).toNat - 10) := Nat.two_pow_pos _
    have p4 : a * 1024 ≤ a * (2 ^ ((-(q - 0 + 53)).toNat - 10) * 2 ^ 10) := Nat.mul_le_mul_left _ (by omega)
    omega
  unfold FP.Core.roundAt FP.Core.settle FP.Core.bound at hf ⊢
  have u1 : FP.Core.unitsNum a 0 q = a * 2 ^ (-q).toNat := by
    unfold FP.Core.unitsNum
    rw [Int.zero_sub]
  have u2 : FP.Core.unitsDen b 0 q = b := by
    unfold FP.Core.unitsDen
    have p1 : (q - 0).toNat = 0 := by omega
    rw [p1, Nat.pow_zero, Nat.mul_one]
  rw [u1, u2] at hf ⊢
  have hle : q = -52 → FP.Core.nearest (a * 2 ^ (-q).toNat) b ≤ 4503599627370496 := fun hq => by
    subst hq
    refine FP.Core.nearest_le (by omega) ?_
    show a * 4503599627370496 ≤ 4503599627370496 * b
    omega
  generalize FP.Core.nearest (a * 2 ^ (-q).toNat) b = N at hf hle ⊢
  have e5 : 2 ^ FP.Core.b64.p = 9007199254740992 := by decide
  rw [e5, e3, e1] at hf ⊢
  by_cases hN : N < 9007199254740992
  · rw [if_pos hN, if_pos (by omega)] at hf ⊢
    obtain ⟨-, -, -, hf4⟩ := hf
    rw [e2, e1] at hf4
    exact ⟨(q + 1075).toNat, N - 4503599627370496, by omega, by omega, by omega, by rw [show 4503599627370496 + (N - 4503599627370496) = N by omega, show (((q + 1075).toNat : Nat) : Int) - 1075 = q by omega]⟩
  · rw [if_neg hN, if_pos (by omega)]
    exact ⟨(q + 1076).toNat, 0, by omega, by omega, by omega, by rw [show (((q + 1076).toNat : Nat) : Int) - 1075 = q + 1 by omega]⟩
theorem i2d_val (a : Nat) (h1 : 1 ≤ a) (h2 : a ≤ 512) : ∃ k : Nat, FP.Core.val64 (FP.i2d (jI (a : Int))) = .fin false (a * 2 ^ k) (-(k : Int)) := by
  obtain ⟨k, k1, k2, k3⟩ := up53 a h1 (by omega)
  refine ⟨k, ?_⟩
  show FP.Core.val64 (FP.Core.i2d _) = _
  rw [FP.Core.val64_i2d, jI_toInt (by omega)]
  unfold FP.Core.ofInt FP.Core.round
  dsimp only
  rw [Int.natAbs_natCast, decide_eq_false (show ¬ (a : Int) < 0 by omega)]
  refine FP.Core.roundRatio_exact FP.Core.good_b64 (by decide) (fin_fits _ _ k2 k3 (by omega) (by omega)) ?_
  have a1 : (0 - -(k : Int)).toNat = k := by omega
  have a2 : (-(k : Int) - 0).toNat = 0 := by omega
  rw [a1, a2]
  omega
theorem share_mk (a b : Nat) (h1 : 1 ≤ a) (h2 : a ≤ b) (h3 : b ≤ 512) : ∃ E T : Nat, 1 ≤ E ∧ E ≤ 1023 ∧ T < 4503599627370496 ∧ FP.ddiv (FP.i2d (jI (a : Int))) (FP.i2d (jI (b : Int))) = mk64 E T := by
  obtain ⟨E, T, g1, g2, g3, g4⟩ := share_val a b h1 h2 h3
  refine ⟨E, T, g1, g2, g3, mk_inj g1 (by omega) g3 ?_⟩
  obtain ⟨k, hk⟩ := i2d_val a h1 (by omega)
  obtain ⟨j, hj⟩ := i2d_val b (by omega) h3
  show FP.Core.val64 (FP.Core.ddiv _ _) = _
  rw [FP.Core.val64_ddiv, hk, hj]
  unfold FP.Core.quotient
  dsimp only
  have p1 : 0 < b * 2 ^ j := Nat.mul_pos (by omega) (Nat.two_pow_pos _)
  rw [if_neg (by omega), ← g4]
  refine FP.Core.roundRatio_congr p1 (by omega) ?_
  rcases Nat.le_total k j with hkj | hkj
  · have a1 : (-(k : Int) - -(j : Int) - 0).toNat = j - k := by omega
    have a2 : (0 - (-(k : Int) - -(j : Int))).toNat = 0 := by omega
    rw [a1, a2, Nat.pow_zero, Nat.mul_one]
    have e : 2 ^ j = 2 ^ k * 2 ^ (j - k) := by rw [← Nat.pow_add]; congr 1; omega
    rw [e]
    ac_rfl
  · have a1 : (-(k : Int) - -(j : Int) - 0).toNat = 0 := by omega
    have a2 : (0 - (-(k : Int) - -(j : Int))).toNat = k - j := by omega
    rw [a1, a2, Nat.pow_zero, Nat.mul_one]
    have e : 2 ^ k = 2 ^ j * 2 ^ (k - j) := by rw [← Nat.pow_add]; congr 1; omega
    rw [e]
    ac_rfl
theorem share_0 (b : Nat) (h1 : 1 ≤ b) (h3 : b ≤ 512) : FP.ddiv (FP.i2d (jI 0)) (FP.i2d (jI (b : Int))) = FP.dconst0 := by
  refine FP.Core.val64_inj ?_ ?_
  · obtain ⟨j, hj⟩ := i2d_val b h1 h3
    show FP.Core.val64 (FP.Core.ddiv _ _) ≠ _
    have e0 : FP.Core.val64 (FP.i2d (jI 0)) = .fin false 0 (-1074) := by decide
    rw [FP.Core.val64_ddiv, e0, hj]
    unfold FP.Core.quotient
    dsimp only
    have p1 : 0 < b * 2 ^ j := Nat.mul_pos (by omega) (Nat.two_pow_pos _)
    rw [if_neg (by omega)]
    exact FP.Core.roundRatio_ne_nan _ _ _ _ _
  · obtain ⟨j, hj⟩ := i2d_val b h1 h3
    show FP.Core.val64 (FP.Core.ddiv _ _) = _
    have e0 : FP.Core.val64 (FP.i2d (jI 0)) = .fin false 0 (-1074) := by decide
    rw [FP.Core.val64_ddiv, e0, hj, zero_val]
    unfold FP.Core.quotient
    dsimp only
    have p1 : 0 < b * 2 ^ j := Nat.mul_pos (by omega) (Nat.two_pow_pos _)
    rw [if_neg (by omega)]
    unfold FP.Core.roundRatio
    rw [if_pos rfl]
    rfl
/-- what a share is: none at all, or a number of (0, 1] -/
def shr (x : UInt64) : Prop := x = FP.dconst0 ∨ ∃ E T : Nat, 1 ≤ E ∧ E ≤ 1023 ∧ T < 4503599627370496 ∧ x = mk64 E T
theorem shr_of (a b : Int) (h1 : 0 ≤ a) (h2 : a ≤ b) (h0 : 1 ≤ b) (h3 : b ≤ 512) : shr (FP.ddiv (FP.i2d (jI a)) (FP.i2d (jI b))) := by
  obtain ⟨a', rfl⟩ : ∃ a' : Nat, a = (a' : Int) := ⟨a.toNat, by omega⟩
  obtain ⟨b', rfl⟩ : ∃ b' : Nat, b = (b' : Int) := ⟨b.toNat, by omega⟩
  rcases Nat.eq_zero_or_pos a' with h | h
  · subst h
    exact Or.inl (share_0 b' (by omega) (by omega))
  · exact Or.inr (share_mk a' b' h (by omega) (by omega))
theorem shr_1 : shr FP.dconst1 := Or.inr ⟨1023, 0, by decide, by decide, by decide, one_mk⟩
theorem shr_n64 {x : UInt64} (h : shr x) : vf_n64 x := by
  rcases h with rfl | ⟨E, T, h1, h2, h3, rfl⟩
  · exact n64_of (by rw [zero_val]; exact fun q => nomatch q)
  · exact n64_mk E T h1 (by omega) h3
